theorem dX5_isView_4 : decode cX5_isView 4 = .ok (.getfield 7, 3) := by decide +kernel
theorem dX5_isView_7 : decode cX5_isView 7 = .ok (.iconst 0, 1) := by decide +kernel
theorem dX5_isView_8 : decode cX5_isView 8 = .ok (.iaload, 1) := by decide +kernel
theorem dX5_isView_9 : decode cX5_isView 9 = .ok (.i2l, 1) := by decide +kernel
theorem dX5_isView_10 : decode cX5_isView 10 = .ok (.lconst 1, 1) := by decide +kernel
theorem dX5_isView_11 : decode cX5_isView 11 = .ok (.lsub, 1) := by decide +kernel
theorem dX5_isView_12 : decode cX5_isView 12 = .ok (.invokestatic 41, 3) := by decide +kernel
theorem dX5_isView_15 : decode cX5_isView 15 = .ok (.ireturn, 1) := by decide +kernel
theorem dX5_isRidge_0 : decode cX5_isRidge 0 = .ok (.iload_n 0, 1) := by decide +kernel
theorem dX5_isRidge_1 : decode cX5_isRidge 1 = .ok (.i2l, 1) := by decide +kernel
theorem dX5_isRidge_2 : decode cX5_isRidge 2 = .ok (.lconst 0, 1) := by decide +kernel
theorem dX5_isRidge_3 : decode cX5_isRidge 3 = .ok (.ldc2_w 45, 3) := by decide +kernel
theorem dX5_isRidge_6 : decode cX5_isRidge 6 = .ok (.invokestatic 41, 3) := by decide +kernel
theorem dX5_isRidge_9 : decode cX5_isRidge 9 = .ok (.ireturn, 1) := by decide +kernel
theorem dX5_isSlice_0 : decode cX5_isSlice 0 = .ok (.iload_n 1, 1) := by decide +kernel
theorem dX5_isSlice_1 : decode cX5_isSlice 1 = .ok (.i2l, 1) := by decide +kernel
theorem dX5_isSlice_2 : decode cX5_isSlice 2 = .ok (.lconst 0, 1) := by decide +kernel
theorem dX5_isSlice_3 : decode cX5_isSlice 3 = .ok (.aload_n 0, 1) := by decide +kernel
theorem dX5_isSlice_4 : decode cX5_isSlice 4 = .ok (.getfield 7, 3) := by decide +kernel
theorem dX5_isSlice_7 : decode cX5_isSlice 7 = .ok (.iconst 1, 1) := by decide +kernel
theorem dX5_isSlice_8 : decode cX5_isSlice 8 = .ok (.iaload, 1) := by decide +kernel
theorem dX5_isSlice_9 : decode cX5_isSlice 9 = .ok (.i2l, 1) := by decide +kernel
theorem dX5_isSlice_10 : decode cX5_isSlice 10 = .ok (.lconst 1, 1) := by decide +kernel
theorem dX5_isSlice_11 : decode cX5_isSlice 11 = .ok (.lsub, 1) := by decide +kernel
theorem dX5_isSlice_12 : decode cX5_isSlice 12 = .ok (.invokestatic 41, 3) := by decide +kernel
theorem dX5_isSlice_15 : decode cX5_isSlice 15 = .ok (.ireturn, 1) := by decide +kernel
theorem dX5_isAngle_0 : decode cX5_isAngle 0 = .ok (.iload_n 0, 1) := by decide +kernel
theorem dX5_isAngle_1 : decode cX5_isAngle 1 = .ok (.i2l, 1) := by decide +kernel
theorem dX5_isAngle_2 : decode cX5_isAngle 2 = .ok (.ldc2_w 47, 3) := by decide +kernel
theorem dX5_isAngle_5 : decode cX5_isAngle 5 = .ok (.ldc2_w 49, 3) := by decide +kernel
theorem dX5_isAngle_8 : decode cX5_isAngle 8 = .ok (.invokestatic 41, 3) := by decide +kernel
theorem dX5_isAngle_11 : decode cX5_isAngle 11 = .ok (.ireturn, 1) := by decide +kernel
theorem dX5_colourAt_0 : decode cX5_colourAt 0 = .ok (.aload_n 0, 1) := by decide +kernel
theorem dX5_colourAt_1 : decode cX5_colourAt 1 = .ok (.getfield 7, 3) := by decide +kernel
theorem dX5_colourAt_4 : decode cX5_colourAt 4 = .ok (.bipush 13, 2) := by decide +kernel
theorem dX5_colourAt_6 : decode cX5_colourAt 6 = .ok (.bipush 12, 2) := by decide +kernel
theorem dX5_colourAt_8 : decode cX5_colourAt 8 = .ok (.iload_n 1, 1) := by decide +kernel
theorem dX5_colourAt_9 : decode cX5_colourAt 9 = .ok (.imul, 1) := by decide +kernel
theorem dX5_colourAt_10 : decode cX5_colourAt 10 = .ok (.iadd, 1) := by decide +kernel
theorem dX5_colourAt_11 : decode cX5_colourAt 11 = .ok (.iload_n 2, 1) := by decide +kernel
theorem dX5_colourAt_12 : decode cX5_colourAt 12 = .ok (.iadd, 1) := by decide +kernel
theorem dX5_colourAt_13 : decode cX5_colourAt 13 = .ok (.iaload, 1) := by decide +kernel
theorem dX5_colourAt_14 : decode cX5_colourAt 14 = .ok (.ireturn, 1) := by decide +kernel
theorem dX5_ordersAsFirst_0 : decode cX5_ordersAsFirst 0 = .ok (.iconst 0, 1) := by decide +kernel
theorem dX5_ordersAsFirst_1 : decode cX5_ordersAsFirst 1 = .ok (.istore_n 1, 1) := by decide +kernel
theorem dX5_ordersAsFirst_2 : decode cX5_ordersAsFirst 2 = .ok (.iload_n 1, 1) := by decide +kernel
theorem dX5_ordersAsFirst_3 : decode cX5_ordersAsFirst 3 = .ok (.bipush 6, 2) := by decide +kernel
theorem dX5_ordersAsFirst_5 : decode cX5_ordersAsFirst 5 = .ok (.if_icmp .ge 40, 3) := by decide +kernel
theorem dX5_ordersAsFirst_8 : decode cX5_ordersAsFirst 8 = .ok (.aload_n 0, 1) := by decide +kernel
theorem dX5_ordersAsFirst_9 : decode cX5_ordersAsFirst 9 = .ok (.getfield 7, 3) := by decide +kernel
theorem dX5_ordersAsFirst_12 : decode cX5_ordersAsFirst 12 = .ok (.bipush 7, 2) := by decide +kernel
theorem dX5_ordersAsFirst_14 : decode cX5_ordersAsFirst 14 = .ok (.iload_n 1, 1) := by decide +kernel
theorem dX5_ordersAsFirst_15 : decode cX5_ordersAsFirst 15 = .ok (.iadd, 1) := by decide +kernel
theorem dX5_ordersAsFirst_16 : decode cX5_ordersAsFirst 16 = .ok (.iload_n 1, 1) := by decide +kernel
theorem dX5_ordersAsFirst_17 : decode cX5_ordersAsFirst 17 = .ok (.aload_n 0, 1) := by decide +kernel
theorem dX5_ordersAsFirst_18 : decode cX5_ordersAsFirst 18 = .ok (.getfield 7, 3) := by decide +kernel
theorem dX5_ordersAsFirst_21 : decode cX5_ordersAsFirst 21 = .ok (.iconst 1, 1) := by decide +kernel
theorem dX5_ordersAsFirst_22 : decode cX5_ordersAsFirst 22 = .ok (.iaload, 1) := by decide +kernel
theorem dX5_ordersAsFirst_23 : decode cX5_ordersAsFirst 23 = .ok (.if_icmp .ge 14, 3) := by decide +kernel
theorem dX5_ordersAsFirst_26 : decode cX5_ordersAsFirst 26 = .ok (.iload_n 1, 1) := by decide +kernel
theorem dX5_ordersAsFirst_27 : decode cX5_ordersAsFirst 27 = .ok (.aload_n 0, 1) := by decide +kernel
theorem dX5_ordersAsFirst_28 : decode cX5_ordersAsFirst 28 = .ok (.getfield 7, 3) := by decide +kernel
theorem dX5_ordersAsFirst_31 : decode cX5_ordersAsFirst 31 = .ok (.iconst 0, 1) := by decide +kernel
theorem dX5_ordersAsFirst_32 : decode cX5_ordersAsFirst 32 = .ok (.iaload, 1) := by decide +kernel
theorem dX5_ordersAsFirst_33 : decode cX5_ordersAsFirst 33 = .ok (.irem, 1) := by decide +kernel
theorem dX5_ordersAsFirst_34 : decode cX5_ordersAsFirst 34 = .ok (.goto 4, 3) := by decide +kernel
theorem dX5_ordersAsFirst_37 : decode cX5_ordersAsFirst 37 = .ok (.iconst 0, 1) := by decide +kernel
theorem dX5_ordersAsFirst_38 : decode cX5_ordersAsFirst 38 = .ok (.iastore, 1) := by decide +kernel
theorem dX5_ordersAsFirst_39 : decode cX5_ordersAsFirst 39 = .ok (.iinc 1 1, 3) := by decide +kernel
theorem dX5_ordersAsFirst_42 : decode cX5_ordersAsFirst 42 = .ok (.goto (-40), 3) := by decide +kernel
theorem dX5_ordersAsFirst_45 : decode cX5_ordersAsFirst 45 = .ok (.return_, 1) := by decide +kernel
theorem dX5_dueAt_0 : decode cX5_dueAt 0 = .ok (.iload_n 1, 1) := by decide +kernel
theorem dX5_dueAt_1 : decode cX5_dueAt 1 = .ok (.aload_n 0, 1) := by decide +kernel
theorem dX5_dueAt_2 : decode cX5_dueAt 2 = .ok (.getfield 7, 3) := by decide +kernel
theorem dX5_dueAt_5 : decode cX5_dueAt 5 = .ok (.iconst 1, 1) := by decide +kernel
theorem dX5_dueAt_6 : decode cX5_dueAt 6 = .ok (.iaload, 1) := by decide +kernel
theorem dX5_dueAt_7 : decode cX5_dueAt 7 = .ok (.imul, 1) := by decide +kernel
theorem dX5_dueAt_8 : decode cX5_dueAt 8 = .ok (.iload_n 2, 1) := by decide +kernel
theorem dX5_dueAt_9 : decode cX5_dueAt 9 = .ok (.iadd, 1) := by decide +kernel
theorem dX5_dueAt_10 : decode cX5_dueAt 10 = .ok (.aload_n 0, 1) := by decide +kernel
theorem dX5_dueAt_11 : decode cX5_dueAt 11 = .ok (.getfield 7, 3) := by decide +kernel
theorem dX5_dueAt_14 : decode cX5_dueAt 14 = .ok (.iconst 2, 1) := by decide +kernel
theorem dX5_dueAt_15 : decode cX5_dueAt 15 = .ok (.iaload, 1) := by decide +kernel
theorem dX5_dueAt_16 : decode cX5_dueAt 16 = .ok (.isub, 1) := by decide +kernel
theorem dX5_dueAt_17 : decode cX5_dueAt 17 = .ok (.istore_n 3, 1) := by decide +kernel
theorem dX5_dueAt_18 : decode cX5_dueAt 18 = .ok (.iload_n 3, 1) := by decide +kernel
theorem dX5_dueAt_19 : decode cX5_dueAt 19 = .ok (.i2l, 1) := by decide +kernel
theorem dX5_dueAt_20 : decode cX5_dueAt 20 = .ok (.lconst 0, 1) := by decide +kernel
theorem dX5_dueAt_21 : decode cX5_dueAt 21 = .ok (.ldc2_w 51, 3) := by decide +kernel
theorem dX5_dueAt_24 : decode cX5_dueAt 24 = .ok (.aload_n 0, 1) := by decide +kernel
theorem dX5_dueAt_25 : decode cX5_dueAt 25 = .ok (.getfield 7, 3) := by decide +kernel
theorem dX5_dueAt_28 : decode cX5_dueAt 28 = .ok (.iconst 1, 1) := by decide +kernel
theorem dX5_dueAt_29 : decode cX5_dueAt 29 = .ok (.iaload, 1) := by decide +kernel
theorem dX5_dueAt_30 : decode cX5_dueAt 30 = .ok (.i2l, 1) := by decide +kernel
theorem dX5_dueAt_31 : decode cX5_dueAt 31 = .ok (.lmul, 1) := by decide +kernel
theorem dX5_dueAt_32 : decode cX5_dueAt 32 = .ok (.lconst 1, 1) := by decide +kernel
theorem dX5_dueAt_33 : decode cX5_dueAt 33 = .ok (.lsub, 1) := by decide +kernel
theorem dX5_dueAt_34 : decode cX5_dueAt 34 = .ok (.invokestatic 41, 3) := by decide +kernel
theorem dX5_dueAt_37 : decode cX5_dueAt 37 = .ok (.ifCond .eq 7, 3) := by decide +kernel
theorem dX5_dueAt_40 : decode cX5_dueAt 40 = .ok (.iload_n 3, 1) := by decide +kernel
theorem dX5_dueAt_41 : decode cX5_dueAt 41 = .ok (.goto 5, 3) := by decide +kernel
theorem dX5_dueAt_44 : decode cX5_dueAt 44 = .ok (.bipush (-105), 2) := by decide +kernel
theorem dX5_dueAt_46 : decode cX5_dueAt 46 = .ok (.ireturn, 1) := by decide +kernel
theorem dX5_placeSeen_0 : decode cX5_placeSeen 0 = .ok (.aload_n 0, 1) := by decide +kernel
theorem dX5_placeSeen_1 : decode cX5_placeSeen 1 = .ok (.getfield 7, 3) := by decide +kernel
theorem dX5_placeSeen_4 : decode cX5_placeSeen 4 = .ok (.iconst 1, 1) := by decide +kernel
theorem dX5_placeSeen_5 : decode cX5_placeSeen 5 = .ok (.iaload, 1) := by decide +kernel
theorem dX5_placeSeen_6 : decode cX5_placeSeen 6 = .ok (.iload_n 1, 1) := by decide +kernel
theorem dX5_placeSeen_7 : decode cX5_placeSeen 7 = .ok (.bipush 9, 2) := by decide +kernel
theorem dX5_placeSeen_9 : decode cX5_placeSeen 9 = .ok (.iadd, 1) := by decide +kernel
theorem dX5_placeSeen_10 : decode cX5_placeSeen 10 = .ok (.imul, 1) := by decide +kernel
theorem dX5_placeSeen_11 : decode cX5_placeSeen 11 = .ok (.bipush 19, 2) := by decide +kernel
theorem dX5_placeSeen_13 : decode cX5_placeSeen 13 = .ok (.idiv, 1) := by decide +kernel
theorem dX5_placeSeen_14 : decode cX5_placeSeen 14 = .ok (.aload_n 0, 1) := by decide +kernel
theorem dX5_placeSeen_15 : decode cX5_placeSeen 15 = .ok (.getfield 7, 3) := by decide +kernel
theorem dX5_placeSeen_18 : decode cX5_placeSeen 18 = .ok (.iconst 3, 1) := by decide +kernel
theorem dX5_placeSeen_19 : decode cX5_placeSeen 19 = .ok (.iaload, 1) := by decide +kernel
theorem dX5_placeSeen_20 : decode cX5_placeSeen 20 = .ok (.iload_n 2, 1) := by decide +kernel
theorem dX5_placeSeen_21 : decode cX5_placeSeen 21 = .ok (.bipush 6, 2) := by decide +kernel
theorem dX5_placeSeen_23 : decode cX5_placeSeen 23 = .ok (.isub, 1) := by decide +kernel
theorem dX5_placeSeen_24 : decode cX5_placeSeen 24 = .ok (.imul, 1) := by decide +kernel
theorem dX5_placeSeen_25 : decode cX5_placeSeen 25 = .ok (.iconst 4, 1) := by decide +kernel
theorem dX5_placeSeen_26 : decode cX5_placeSeen 26 = .ok (.idiv, 1) := by decide +kernel
theorem dX5_placeSeen_27 : decode cX5_placeSeen 27 = .ok (.iadd, 1) := by decide +kernel
theorem dX5_placeSeen_28 : decode cX5_placeSeen 28 = .ok (.istore_n 3, 1) := by decide +kernel
theorem dX5_placeSeen_29 : decode cX5_placeSeen 29 = .ok (.iload_n 3, 1) := by decide +kernel
theorem dX5_placeSeen_30 : decode cX5_placeSeen 30 = .ok (.ifCond .ge 7, 3) := by decide +kernel
theorem dX5_placeSeen_33 : decode cX5_placeSeen 33 = .ok (.iconst 0, 1) := by decide +kernel
theorem dX5_placeSeen_34 : decode cX5_placeSeen 34 = .ok (.goto 25, 3) := by decide +kernel
theorem dX5_placeSeen_37 : decode cX5_placeSeen 37 = .ok (.iload_n 3, 1) := by decide +kernel
theorem dX5_placeSeen_38 : decode cX5_placeSeen 38 = .ok (.aload_n 0, 1) := by decide +kernel
theorem dX5_placeSeen_39 : decode cX5_placeSeen 39 = .ok (.getfield 7, 3) := by decide +kernel
theorem dX5_placeSeen_42 : decode cX5_placeSeen 42 = .ok (.iconst 1, 1) := by decide +kernel
theorem dX5_placeSeen_43 : decode cX5_placeSeen 43 = .ok (.iaload, 1) := by decide +kernel
theorem dX5_placeSeen_44 : decode cX5_placeSeen 44 = .ok (.if_icmp .lt 14, 3) := by decide +kernel
theorem dX5_placeSeen_47 : decode cX5_placeSeen 47 = .ok (.aload_n 0, 1) := by decide +kernel
theorem dX5_placeSeen_48 : decode cX5_placeSeen 48 = .ok (.getfield 7, 3) := by decide +kernel
theorem dX5_placeSeen_51 : decode cX5_placeSeen 51 = .ok (.iconst 1, 1) := by decide +kernel
theorem dX5_placeSeen_52 : decode cX5_placeSeen 52 = .ok (.iaload, 1) := by decide +kernel
theorem dX5_placeSeen_53 : decode cX5_placeSeen 53 = .ok (.iconst 1, 1) := by decide +kernel
theorem dX5_placeSeen_54 : decode cX5_placeSeen 54 = .ok (.isub, 1) := by decide +kernel
theorem dX5_placeSeen_55 : decode cX5_placeSeen 55 = .ok (.goto 4, 3) := by decide +kernel
theorem dX5_placeSeen_58 : decode cX5_placeSeen 58 = .ok (.iload_n 3, 1) := by decide +kernel
theorem dX5_placeSeen_59 : decode cX5_placeSeen 59 = .ok (.ireturn, 1) := by decide +kernel
theorem dX5_laysSlots_0 : decode cX5_laysSlots 0 = .ok (.bipush (-9), 2) := by decide +kernel
theorem dX5_laysSlots_2 : decode cX5_laysSlots 2 = .ok (.istore_n 1, 1) := by decide +kernel
theorem dX5_laysSlots_3 : decode cX5_laysSlots 3 = .ok (.iload_n 1, 1) := by decide +kernel
theorem dX5_laysSlots_4 : decode cX5_laysSlots 4 = .ok (.bipush 9, 2) := by decide +kernel
theorem dX5_laysSlots_6 : decode cX5_laysSlots 6 = .ok (.if_icmp .gt 68, 3) := by decide +kernel
theorem dX5_laysSlots_9 : decode cX5_laysSlots 9 = .ok (.iconst 0, 1) := by decide +kernel
theorem dX5_laysSlots_10 : decode cX5_laysSlots 10 = .ok (.istore_n 2, 1) := by decide +kernel
theorem dX5_laysSlots_11 : decode cX5_laysSlots 11 = .ok (.iload_n 2, 1) := by decide +kernel
theorem dX5_laysSlots_12 : decode cX5_laysSlots 12 = .ok (.bipush 12, 2) := by decide +kernel
theorem dX5_laysSlots_14 : decode cX5_laysSlots 14 = .ok (.if_icmp .ge 54, 3) := by decide +kernel
theorem dX5_laysSlots_17 : decode cX5_laysSlots 17 = .ok (.aload_n 0, 1) := by decide +kernel
theorem dX5_laysSlots_18 : decode cX5_laysSlots 18 = .ok (.iload_n 2, 1) := by decide +kernel
theorem dX5_laysSlots_19 : decode cX5_laysSlots 19 = .ok (.aload_n 0, 1) := by decide +kernel
theorem dX5_laysSlots_20 : decode cX5_laysSlots 20 = .ok (.iload_n 1, 1) := by decide +kernel
theorem dX5_laysSlots_21 : decode cX5_laysSlots 21 = .ok (.iload_n 2, 1) := by decide +kernel
theorem dX5_laysSlots_22 : decode cX5_laysSlots 22 = .ok (.invokevirtual 53, 3) := by decide +kernel
theorem dX5_laysSlots_25 : decode cX5_laysSlots 25 = .ok (.invokevirtual 57, 3) := by decide +kernel
theorem dX5_laysSlots_28 : decode cX5_laysSlots 28 = .ok (.istore_n 3, 1) := by decide +kernel
theorem dX5_laysSlots_29 : decode cX5_laysSlots 29 = .ok (.aload_n 0, 1) := by decide +kernel
theorem dX5_laysSlots_30 : decode cX5_laysSlots 30 = .ok (.getfield 22, 3) := by decide +kernel
theorem dX5_laysSlots_33 : decode cX5_laysSlots 33 = .ok (.bipush 12, 2) := by decide +kernel
theorem dX5_laysSlots_35 : decode cX5_laysSlots 35 = .ok (.iload_n 1, 1) := by decide +kernel
theorem dX5_laysSlots_36 : decode cX5_laysSlots 36 = .ok (.bipush 9, 2) := by decide +kernel
theorem dX5_laysSlots_38 : decode cX5_laysSlots 38 = .ok (.iadd, 1) := by decide +kernel
theorem dX5_laysSlots_39 : decode cX5_laysSlots 39 = .ok (.imul, 1) := by decide +kernel
theorem dX5_laysSlots_40 : decode cX5_laysSlots 40 = .ok (.iload_n 2, 1) := by decide +kernel
theorem dX5_laysSlots_41 : decode cX5_laysSlots 41 = .ok (.iadd, 1) := by decide +kernel
theorem dX5_laysSlots_42 : decode cX5_laysSlots 42 = .ok (.iload_n 3, 1) := by decide +kernel
theorem dX5_laysSlots_43 : decode cX5_laysSlots 43 = .ok (.bipush (-105), 2) := by decide +kernel
theorem dX5_laysSlots_45 : decode cX5_laysSlots 45 = .ok (.if_icmp .ne 8, 3) := by decide +kernel
theorem dX5_laysSlots_48 : decode cX5_laysSlots 48 = .ok (.bipush (-105), 2) := by decide +kernel
theorem dX5_laysSlots_50 : decode cX5_laysSlots 50 = .ok (.goto 11, 3) := by decide +kernel
theorem dX5_laysSlots_53 : decode cX5_laysSlots 53 = .ok (.iload_n 3, 1) := by decide +kernel
theorem dX5_laysSlots_54 : decode cX5_laysSlots 54 = .ok (.aload_n 0, 1) := by decide +kernel
theorem dX5_laysSlots_55 : decode cX5_laysSlots 55 = .ok (.getfield 7, 3) := by decide +kernel
theorem dX5_laysSlots_58 : decode cX5_laysSlots 58 = .ok (.iconst 1, 1) := by decide +kernel
theorem dX5_laysSlots_59 : decode cX5_laysSlots 59 = .ok (.iaload, 1) := by decide +kernel
theorem dX5_laysSlots_60 : decode cX5_laysSlots 60 = .ok (.irem, 1) := by decide +kernel
theorem dX5_laysSlots_61 : decode cX5_laysSlots 61 = .ok (.iastore, 1) := by decide +kernel
theorem dX5_laysSlots_62 : decode cX5_laysSlots 62 = .ok (.iinc 2 1, 3) := by decide +kernel
theorem dX5_laysSlots_65 : decode cX5_laysSlots 65 = .ok (.goto (-54), 3) := by decide +kernel
theorem dX5_laysSlots_68 : decode cX5_laysSlots 68 = .ok (.iinc 1 1, 3) := by decide +kernel
theorem dX5_laysSlots_71 : decode cX5_laysSlots 71 = .ok (.goto (-68), 3) := by decide +kernel
theorem dX5_laysSlots_74 : decode cX5_laysSlots 74 = .ok (.return_, 1) := by decide +kernel
theorem dX5_viewSeen_0 : decode cX5_viewSeen 0 = .ok (.aload_n 0, 1) := by decide +kernel
theorem dX5_viewSeen_1 : decode cX5_viewSeen 1 = .ok (.getfield 22, 3) := by decide +kernel
theorem dX5_viewSeen_4 : decode cX5_viewSeen 4 = .ok (.bipush 12, 2) := by decide +kernel
theorem dX5_viewSeen_6 : decode cX5_viewSeen 6 = .ok (.iload_n 1, 1) := by decide +kernel
theorem dX5_viewSeen_7 : decode cX5_viewSeen 7 = .ok (.bipush 9, 2) := by decide +kernel
theorem dX5_viewSeen_9 : decode cX5_viewSeen 9 = .ok (.iadd, 1) := by decide +kernel
theorem dX5_viewSeen_10 : decode cX5_viewSeen 10 = .ok (.imul, 1) := by decide +kernel
theorem dX5_viewSeen_11 : decode cX5_viewSeen 11 = .ok (.iload_n 2, 1) := by decide +kernel
theorem dX5_viewSeen_12 : decode cX5_viewSeen 12 = .ok (.iadd, 1) := by decide +kernel
theorem dX5_viewSeen_13 : decode cX5_viewSeen 13 = .ok (.iaload, 1) := by decide +kernel
theorem dX5_viewSeen_14 : decode cX5_viewSeen 14 = .ok (.istore_n 3, 1) := by decide +kernel
theorem dX5_viewSeen_15 : decode cX5_viewSeen 15 = .ok (.iload_n 3, 1) := by decide +kernel
theorem dX5_viewSeen_16 : decode cX5_viewSeen 16 = .ok (.bipush (-105), 2) := by decide +kernel
theorem dX5_viewSeen_18 : decode cX5_viewSeen 18 = .ok (.if_icmp .ne 8, 3) := by decide +kernel
theorem dX5_viewSeen_21 : decode cX5_viewSeen 21 = .ok (.bipush (-105), 2) := by decide +kernel
theorem dX5_viewSeen_23 : decode cX5_viewSeen 23 = .ok (.goto 12, 3) := by decide +kernel
theorem dX5_viewSeen_26 : decode cX5_viewSeen 26 = .ok (.aload_n 0, 1) := by decide +kernel
theorem dX5_viewSeen_27 : decode cX5_viewSeen 27 = .ok (.getfield 7, 3) := by decide +kernel
theorem dX5_viewSeen_30 : decode cX5_viewSeen 30 = .ok (.bipush 7, 2) := by decide +kernel
theorem dX5_viewSeen_32 : decode cX5_viewSeen 32 = .ok (.iload_n 3, 1) := by decide +kernel
theorem dX5_viewSeen_33 : decode cX5_viewSeen 33 = .ok (.iadd, 1) := by decide +kernel
theorem dX5_viewSeen_34 : decode cX5_viewSeen 34 = .ok (.iaload, 1) := by decide +kernel
theorem dX5_viewSeen_35 : decode cX5_viewSeen 35 = .ok (.ireturn, 1) := by decide +kernel
theorem dX5_isGhost_0 : decode cX5_isGhost 0 = .ok (.aload_n 0, 1) := by decide +kernel
theorem dX5_isGhost_1 : decode cX5_isGhost 1 = .ok (.iload_n 1, 1) := by decide +kernel
theorem dX5_isGhost_2 : decode cX5_isGhost 2 = .ok (.iload_n 2, 1) := by decide +kernel
theorem dX5_isGhost_3 : decode cX5_isGhost 3 = .ok (.invokevirtual 60, 3) := by decide +kernel
theorem dX5_isGhost_6 : decode cX5_isGhost 6 = .ok (.istore_n 3, 1) := by decide +kernel
theorem dX5_isGhost_7 : decode cX5_isGhost 7 = .ok (.iload_n 2, 1) := by decide +kernel
theorem dX5_isGhost_8 : decode cX5_isGhost 8 = .ok (.ifCond .le 15, 3) := by decide +kernel
theorem dX5_isGhost_11 : decode cX5_isGhost 11 = .ok (.aload_n 0, 1) := by decide +kernel
theorem dX5_isGhost_12 : decode cX5_isGhost 12 = .ok (.iload_n 1, 1) := by decide +kernel
theorem dX5_isGhost_13 : decode cX5_isGhost 13 = .ok (.iload_n 2, 1) := by decide +kernel
theorem dX5_isGhost_14 : decode cX5_isGhost 14 = .ok (.iconst 1, 1) := by decide +kernel
theorem dX5_isGhost_15 : decode cX5_isGhost 15 = .ok (.isub, 1) := by decide +kernel
theorem dX5_isGhost_16 : decode cX5_isGhost 16 = .ok (.invokevirtual 60, 3) := by decide +kernel
theorem dX5_isGhost_19 : decode cX5_isGhost 19 = .ok (.iload_n 3, 1) := by decide +kernel
theorem dX5_isGhost_20 : decode cX5_isGhost 20 = .ok (.if_icmp .ne 21, 3) := by decide +kernel
theorem dX5_isGhost_23 : decode cX5_isGhost 23 = .ok (.iload_n 2, 1) := by decide +kernel
theorem dX5_isGhost_24 : decode cX5_isGhost 24 = .ok (.bipush 11, 2) := by decide +kernel
theorem dX5_isGhost_26 : decode cX5_isGhost 26 = .ok (.if_icmp .ge 19, 3) := by decide +kernel
theorem dX5_isGhost_29 : decode cX5_isGhost 29 = .ok (.aload_n 0, 1) := by decide +kernel
theorem dX5_isGhost_30 : decode cX5_isGhost 30 = .ok (.iload_n 1, 1) := by decide +kernel
theorem dX5_isGhost_31 : decode cX5_isGhost 31 = .ok (.iload_n 2, 1) := by decide +kernel
theorem dX5_isGhost_32 : decode cX5_isGhost 32 = .ok (.iconst 1, 1) := by decide +kernel
theorem dX5_isGhost_33 : decode cX5_isGhost 33 = .ok (.iadd, 1) := by decide +kernel
theorem dX5_isGhost_34 : decode cX5_isGhost 34 = .ok (.invokevirtual 60, 3) := by decide +kernel
theorem dX5_isGhost_37 : decode cX5_isGhost 37 = .ok (.iload_n 3, 1) := by decide +kernel
theorem dX5_isGhost_38 : decode cX5_isGhost 38 = .ok (.if_icmp .eq 7, 3) := by decide +kernel
theorem dX5_isGhost_41 : decode cX5_isGhost 41 = .ok (.iconst 1, 1) := by decide +kernel
theorem dX5_isGhost_42 : decode cX5_isGhost 42 = .ok (.goto 4, 3) := by decide +kernel
theorem dX5_isGhost_45 : decode cX5_isGhost 45 = .ok (.iconst 0, 1) := by decide +kernel
theorem dX5_isGhost_46 : decode cX5_isGhost 46 = .ok (.ireturn, 1) := by decide +kernel
theorem dX5_ghostsAt_0 : decode cX5_ghostsAt 0 = .ok (.iconst 0, 1) := by decide +kernel
theorem dX5_ghostsAt_1 : decode cX5_ghostsAt 1 = .ok (.istore_n 2, 1) := by decide +kernel
theorem dX5_ghostsAt_2 : decode cX5_ghostsAt 2 = .ok (.iconst 0, 1) := by decide +kernel
theorem dX5_ghostsAt_3 : decode cX5_ghostsAt 3 = .ok (.istore_n 3, 1) := by decide +kernel
theorem dX5_ghostsAt_4 : decode cX5_ghostsAt 4 = .ok (.iload_n 3, 1) := by decide +kernel
theorem dX5_ghostsAt_5 : decode cX5_ghostsAt 5 = .ok (.bipush 12, 2) := by decide +kernel
theorem dX5_ghostsAt_7 : decode cX5_ghostsAt 7 = .ok (.if_icmp .ge 26, 3) := by decide +kernel
theorem dX5_ghostsAt_10 : decode cX5_ghostsAt 10 = .ok (.iload_n 2, 1) := by decide +kernel
theorem dX5_ghostsAt_11 : decode cX5_ghostsAt 11 = .ok (.aload_n 0, 1) := by decide +kernel
theorem dX5_ghostsAt_12 : decode cX5_ghostsAt 12 = .ok (.iload_n 1, 1) := by decide +kernel
theorem dX5_ghostsAt_13 : decode cX5_ghostsAt 13 = .ok (.iload_n 3, 1) := by decide +kernel
theorem dX5_ghostsAt_14 : decode cX5_ghostsAt 14 = .ok (.invokevirtual 63, 3) := by decide +kernel
theorem dX5_ghostsAt_17 : decode cX5_ghostsAt 17 = .ok (.ifCond .eq 7, 3) := by decide +kernel
theorem dX5_ghostsAt_20 : decode cX5_ghostsAt 20 = .ok (.iconst 1, 1) := by decide +kernel
theorem dX5_ghostsAt_21 : decode cX5_ghostsAt 21 = .ok (.goto 4, 3) := by decide +kernel
theorem dX5_ghostsAt_24 : decode cX5_ghostsAt 24 = .ok (.iconst 0, 1) := by decide +kernel
theorem dX5_ghostsAt_25 : decode cX5_ghostsAt 25 = .ok (.iadd, 1) := by decide +kernel
theorem dX5_ghostsAt_26 : decode cX5_ghostsAt 26 = .ok (.istore_n 2, 1) := by decide +kernel
theorem dX5_ghostsAt_27 : decode cX5_ghostsAt 27 = .ok (.iinc 3 1, 3) := by decide +kernel
theorem dX5_ghostsAt_30 : decode cX5_ghostsAt 30 = .ok (.goto (-26), 3) := by decide +kernel
theorem dX5_ghostsAt_33 : decode cX5_ghostsAt 33 = .ok (.iload_n 2, 1) := by decide +kernel
theorem dX5_ghostsAt_34 : decode cX5_ghostsAt 34 = .ok (.ireturn, 1) := by decide +kernel
theorem dX5_ghosts_0 : decode cX5_ghosts 0 = .ok (.iconst 0, 1) := by decide +kernel
theorem dX5_ghosts_1 : decode cX5_ghosts 1 = .ok (.istore_n 1, 1) := by decide +kernel
theorem dX5_ghosts_2 : decode cX5_ghosts 2 = .ok (.bipush (-9), 2) := by decide +kernel
theorem dX5_ghosts_4 : decode cX5_ghosts 4 = .ok (.istore_n 2, 1) := by decide +kernel
theorem dX5_ghosts_5 : decode cX5_ghosts 5 = .ok (.iload_n 2, 1) := by decide +kernel
theorem dX5_ghosts_6 : decode cX5_ghosts 6 = .ok (.bipush 9, 2) := by decide +kernel
theorem dX5_ghosts_8 : decode cX5_ghosts 8 = .ok (.if_icmp .gt 17, 3) := by decide +kernel
theorem dX5_ghosts_11 : decode cX5_ghosts 11 = .ok (.iload_n 1, 1) := by decide +kernel
theorem dX5_ghosts_12 : decode cX5_ghosts 12 = .ok (.aload_n 0, 1) := by decide +kernel
theorem dX5_ghosts_13 : decode cX5_ghosts 13 = .ok (.iload_n 2, 1) := by decide +kernel
theorem dX5_ghosts_14 : decode cX5_ghosts 14 = .ok (.invokevirtual 67, 3) := by decide +kernel
theorem dX5_ghosts_17 : decode cX5_ghosts 17 = .ok (.iadd, 1) := by decide +kernel
theorem dX5_ghosts_18 : decode cX5_ghosts 18 = .ok (.istore_n 1, 1) := by decide +kernel
theorem dX5_ghosts_19 : decode cX5_ghosts 19 = .ok (.iinc 2 1, 3) := by decide +kernel
theorem dX5_ghosts_22 : decode cX5_ghosts 22 = .ok (.goto (-17), 3) := by decide +kernel
theorem dX5_ghosts_25 : decode cX5_ghosts 25 = .ok (.iload_n 1, 1) := by decide +kernel
theorem dX5_ghosts_26 : decode cX5_ghosts 26 = .ok (.ireturn, 1) := by decide +kernel
theorem dX5_ghostsNow_0 : decode cX5_ghostsNow 0 = .ok (.aload_n 0, 1) := by decide +kernel
theorem dX5_ghostsNow_1 : decode cX5_ghostsNow 1 = .ok (.invokevirtual 71, 3) := by decide +kernel
theorem dX5_ghostsNow_4 : decode cX5_ghostsNow 4 = .ok (.aload_n 0, 1) := by decide +kernel
theorem dX5_ghostsNow_5 : decode cX5_ghostsNow 5 = .ok (.invokevirtual 74, 3) := by decide +kernel
theorem dX5_ghostsNow_8 : decode cX5_ghostsNow 8 = .ok (.ireturn, 1) := by decide +kernel
theorem dX5_showing_0 : decode cX5_showing 0 = .ok (.iconst 0, 1) := by decide +kernel
theorem dX5_showing_1 : decode cX5_showing 1 = .ok (.istore_n 3, 1) := by decide +kernel
theorem dX5_showing_2 : decode cX5_showing 2 = .ok (.iconst 0, 1) := by decide +kernel
theorem dX5_showing_3 : decode cX5_showing 3 = .ok (.istore 4, 2) := by decide +kernel
theorem dX5_showing_5 : decode cX5_showing 5 = .ok (.iload 4, 2) := by decide +kernel
theorem dX5_showing_7 : decode cX5_showing 7 = .ok (.bipush 12, 2) := by decide +kernel
theorem dX5_showing_9 : decode cX5_showing 9 = .ok (.if_icmp .ge 28, 3) := by decide +kernel
theorem dX5_showing_12 : decode cX5_showing 12 = .ok (.iload_n 3, 1) := by decide +kernel
theorem dX5_showing_13 : decode cX5_showing 13 = .ok (.aload_n 0, 1) := by decide +kernel
theorem dX5_showing_14 : decode cX5_showing 14 = .ok (.iload_n 1, 1) := by decide +kernel
theorem dX5_showing_15 : decode cX5_showing 15 = .ok (.iload 4, 2) := by decide +kernel
theorem dX5_showing_17 : decode cX5_showing 17 = .ok (.invokevirtual 60, 3) := by decide +kernel
theorem dX5_showing_20 : decode cX5_showing 20 = .ok (.iload_n 2, 1) := by decide +kernel
theorem dX5_showing_21 : decode cX5_showing 21 = .ok (.if_icmp .ne 7, 3) := by decide +kernel
theorem dX5_showing_24 : decode cX5_showing 24 = .ok (.iconst 1, 1) := by decide +kernel
theorem dX5_showing_25 : decode cX5_showing 25 = .ok (.goto 4, 3) := by decide +kernel
theorem dX5_showing_28 : decode cX5_showing 28 = .ok (.iconst 0, 1) := by decide +kernel
theorem dX5_showing_29 : decode cX5_showing 29 = .ok (.iadd, 1) := by decide +kernel
theorem dX5_showing_30 : decode cX5_showing 30 = .ok (.istore_n 3, 1) := by decide +kernel
theorem dX5_showing_31 : decode cX5_showing 31 = .ok (.iinc 4 1, 3) := by decide +kernel
theorem dX5_showing_34 : decode cX5_showing 34 = .ok (.goto (-29), 3) := by decide +kernel
theorem dX5_showing_37 : decode cX5_showing 37 = .ok (.iload_n 3, 1) := by decide +kernel
theorem dX5_showing_38 : decode cX5_showing 38 = .ok (.ireturn, 1) := by decide +kernel
theorem dX5_wholeAngles_0 : decode cX5_wholeAngles 0 = .ok (.iconst 0, 1) := by decide +kernel
theorem dX5_wholeAngles_1 : decode cX5_wholeAngles 1 = .ok (.istore_n 2, 1) := by decide +kernel
theorem dX5_wholeAngles_2 : decode cX5_wholeAngles 2 = .ok (.bipush (-9), 2) := by decide +kernel
theorem dX5_wholeAngles_4 : decode cX5_wholeAngles 4 = .ok (.istore_n 3, 1) := by decide +kernel
theorem dX5_wholeAngles_5 : decode cX5_wholeAngles 5 = .ok (.iload_n 3, 1) := by decide +kernel
theorem dX5_wholeAngles_6 : decode cX5_wholeAngles 6 = .ok (.bipush 9, 2) := by decide +kernel
theorem dX5_wholeAngles_8 : decode cX5_wholeAngles 8 = .ok (.if_icmp .gt 28, 3) := by decide +kernel
theorem dX5_wholeAngles_11 : decode cX5_wholeAngles 11 = .ok (.iload_n 2, 1) := by decide +kernel
theorem dX5_wholeAngles_12 : decode cX5_wholeAngles 12 = .ok (.aload_n 0, 1) := by decide +kernel
theorem dX5_wholeAngles_13 : decode cX5_wholeAngles 13 = .ok (.iload_n 3, 1) := by decide +kernel
theorem dX5_wholeAngles_14 : decode cX5_wholeAngles 14 = .ok (.iload_n 1, 1) := by decide +kernel
theorem dX5_wholeAngles_15 : decode cX5_wholeAngles 15 = .ok (.invokevirtual 78, 3) := by decide +kernel
theorem dX5_wholeAngles_18 : decode cX5_wholeAngles 18 = .ok (.bipush 12, 2) := by decide +kernel
theorem dX5_wholeAngles_20 : decode cX5_wholeAngles 20 = .ok (.if_icmp .ne 7, 3) := by decide +kernel
theorem dX5_wholeAngles_23 : decode cX5_wholeAngles 23 = .ok (.iconst 1, 1) := by decide +kernel
theorem dX5_wholeAngles_24 : decode cX5_wholeAngles 24 = .ok (.goto 4, 3) := by decide +kernel
theorem dX5_wholeAngles_27 : decode cX5_wholeAngles 27 = .ok (.iconst 0, 1) := by decide +kernel
theorem dX5_wholeAngles_28 : decode cX5_wholeAngles 28 = .ok (.iadd, 1) := by decide +kernel
theorem dX5_wholeAngles_29 : decode cX5_wholeAngles 29 = .ok (.istore_n 2, 1) := by decide +kernel
theorem dX5_wholeAngles_30 : decode cX5_wholeAngles 30 = .ok (.iinc 3 1, 3) := by decide +kernel
theorem dX5_wholeAngles_33 : decode cX5_wholeAngles 33 = .ok (.goto (-28), 3) := by decide +kernel
theorem dX5_wholeAngles_36 : decode cX5_wholeAngles 36 = .ok (.iload_n 2, 1) := by decide +kernel
theorem dX5_wholeAngles_37 : decode cX5_wholeAngles 37 = .ok (.ireturn, 1) := by decide +kernel
theorem dX5_whole_0 : decode cX5_whole 0 = .ok (.aload_n 0, 1) := by decide +kernel
theorem dX5_whole_1 : decode cX5_whole 1 = .ok (.invokevirtual 71, 3) := by decide +kernel
theorem dX5_whole_4 : decode cX5_whole 4 = .ok (.iconst 0, 1) := by decide +kernel
theorem dX5_whole_5 : decode cX5_whole 5 = .ok (.istore_n 2, 1) := by decide +kernel
theorem dX5_whole_6 : decode cX5_whole 6 = .ok (.iconst 0, 1) := by decide +kernel
theorem dX5_whole_7 : decode cX5_whole 7 = .ok (.istore_n 3, 1) := by decide +kernel
theorem dX5_whole_8 : decode cX5_whole 8 = .ok (.iload_n 3, 1) := by decide +kernel
theorem dX5_whole_9 : decode cX5_whole 9 = .ok (.aload_n 0, 1) := by decide +kernel
theorem dX5_whole_10 : decode cX5_whole 10 = .ok (.getfield 7, 3) := by decide +kernel
theorem dX5_whole_13 : decode cX5_whole 13 = .ok (.iconst 0, 1) := by decide +kernel
theorem dX5_whole_14 : decode cX5_whole 14 = .ok (.iaload, 1) := by decide +kernel
theorem dX5_whole_15 : decode cX5_whole 15 = .ok (.if_icmp .ge 38, 3) := by decide +kernel
theorem dX5_whole_18 : decode cX5_whole 18 = .ok (.aload_n 0, 1) := by decide +kernel
theorem dX5_whole_19 : decode cX5_whole 19 = .ok (.iload_n 3, 1) := by decide +kernel
theorem dX5_whole_20 : decode cX5_whole 20 = .ok (.invokevirtual 81, 3) := by decide +kernel
theorem dX5_whole_23 : decode cX5_whole 23 = .ok (.istore 4, 2) := by decide +kernel
theorem dX5_whole_25 : decode cX5_whole 25 = .ok (.iload_n 2, 1) := by decide +kernel
theorem dX5_whole_26 : decode cX5_whole 26 = .ok (.iload_n 1, 1) := by decide +kernel
theorem dX5_whole_27 : decode cX5_whole 27 = .ok (.ifCond .eq 16, 3) := by decide +kernel
theorem dX5_whole_30 : decode cX5_whole 30 = .ok (.iload 4, 2) := by decide +kernel
theorem dX5_whole_32 : decode cX5_whole 32 = .ok (.ifCond .le 7, 3) := by decide +kernel
theorem dX5_whole_35 : decode cX5_whole 35 = .ok (.iconst 1, 1) := by decide +kernel
theorem dX5_whole_36 : decode cX5_whole 36 = .ok (.goto 9, 3) := by decide +kernel
theorem dX5_whole_39 : decode cX5_whole 39 = .ok (.iconst 0, 1) := by decide +kernel
theorem dX5_whole_40 : decode cX5_whole 40 = .ok (.goto 5, 3) := by decide +kernel
theorem dX5_whole_43 : decode cX5_whole 43 = .ok (.iload 4, 2) := by decide +kernel
theorem dX5_whole_45 : decode cX5_whole 45 = .ok (.iadd, 1) := by decide +kernel
theorem dX5_whole_46 : decode cX5_whole 46 = .ok (.istore_n 2, 1) := by decide +kernel
theorem dX5_whole_47 : decode cX5_whole 47 = .ok (.iinc 3 1, 3) := by decide +kernel
theorem dX5_whole_50 : decode cX5_whole 50 = .ok (.goto (-42), 3) := by decide +kernel
theorem dX5_whole_53 : decode cX5_whole 53 = .ok (.iload_n 2, 1) := by decide +kernel
theorem dX5_whole_54 : decode cX5_whole 54 = .ok (.ireturn, 1) := by decide +kernel
theorem dX5_colour_0 : decode cX5_colour 0 = .ok (.aload_n 0, 1) := by decide +kernel
theorem dX5_colour_1 : decode cX5_colour 1 = .ok (.iload_n 1, 1) := by decide +kernel
theorem dX5_colour_2 : decode cX5_colour 2 = .ok (.invokevirtual 84, 3) := by decide +kernel
theorem dX5_colour_5 : decode cX5_colour 5 = .ok (.ifCond .eq 10, 3) := by decide +kernel
theorem dX5_colour_8 : decode cX5_colour 8 = .ok (.iload_n 2, 1) := by decide +kernel
theorem dX5_colour_9 : decode cX5_colour 9 = .ok (.invokestatic 88, 3) := by decide +kernel
theorem dX5_colour_12 : decode cX5_colour 12 = .ok (.ifCond .ne 6, 3) := by decide +kernel
theorem dX5_colour_15 : decode cX5_colour 15 = .ok (.bipush (-101), 2) := by decide +kernel
theorem dX5_colour_17 : decode cX5_colour 17 = .ok (.ireturn, 1) := by decide +kernel
theorem dX5_colour_18 : decode cX5_colour 18 = .ok (.iload_n 3, 1) := by decide +kernel
theorem dX5_colour_19 : decode cX5_colour 19 = .ok (.i2l, 1) := by decide +kernel
theorem dX5_colour_20 : decode cX5_colour 20 = .ok (.lconst 0, 1) := by decide +kernel
theorem dX5_colour_21 : decode cX5_colour 21 = .ok (.ldc2_w 49, 3) := by decide +kernel
theorem dX5_colour_24 : decode cX5_colour 24 = .ok (.invokestatic 41, 3) := by decide +kernel
theorem dX5_colour_27 : decode cX5_colour 27 = .ok (.ifCond .ne 6, 3) := by decide +kernel
theorem dX5_colour_30 : decode cX5_colour 30 = .ok (.bipush (-102), 2) := by decide +kernel
theorem dX5_colour_32 : decode cX5_colour 32 = .ok (.ireturn, 1) := by decide +kernel
theorem dX5_colour_33 : decode cX5_colour 33 = .ok (.aload_n 0, 1) := by decide +kernel
theorem dX5_colour_34 : decode cX5_colour 34 = .ok (.iload_n 1, 1) := by decide +kernel
theorem dX5_colour_35 : decode cX5_colour 35 = .ok (.iload_n 2, 1) := by decide +kernel
theorem dX5_colour_36 : decode cX5_colour 36 = .ok (.invokevirtual 91, 3) := by decide +kernel
theorem dX5_colour_39 : decode cX5_colour 39 = .ok (.istore 4, 2) := by decide +kernel
theorem dX5_colour_41 : decode cX5_colour 41 = .ok (.iload 4, 2) := by decide +kernel
theorem dX5_colour_43 : decode cX5_colour 43 = .ok (.iload_n 3, 1) := by decide +kernel
theorem dX5_colour_44 : decode cX5_colour 44 = .ok (.if_icmp .ne 6, 3) := by decide +kernel
theorem dX5_colour_47 : decode cX5_colour 47 = .ok (.bipush (-105), 2) := by decide +kernel
theorem dX5_colour_49 : decode cX5_colour 49 = .ok (.ireturn, 1) := by decide +kernel
theorem dX5_colour_50 : decode cX5_colour 50 = .ok (.aload_n 0, 1) := by decide +kernel
theorem dX5_colour_51 : decode cX5_colour 51 = .ok (.invokevirtual 94, 3) := by decide +kernel
theorem dX5_colour_54 : decode cX5_colour 54 = .ok (.aload_n 0, 1) := by decide +kernel
theorem dX5_colour_55 : decode cX5_colour 55 = .ok (.getfield 7, 3) := by decide +kernel
theorem dX5_colour_58 : decode cX5_colour 58 = .ok (.bipush 13, 2) := by decide +kernel
theorem dX5_colour_60 : decode cX5_colour 60 = .ok (.bipush 12, 2) := by decide +kernel
theorem dX5_colour_62 : decode cX5_colour 62 = .ok (.iload_n 1, 1) := by decide +kernel
theorem dX5_colour_63 : decode cX5_colour 63 = .ok (.imul, 1) := by decide +kernel
theorem dX5_colour_64 : decode cX5_colour 64 = .ok (.iadd, 1) := by decide +kernel
theorem dX5_colour_65 : decode cX5_colour 65 = .ok (.iload_n 2, 1) := by decide +kernel
theorem dX5_colour_66 : decode cX5_colour 66 = .ok (.iadd, 1) := by decide +kernel
theorem dX5_colour_67 : decode cX5_colour 67 = .ok (.iload_n 3, 1) := by decide +kernel
theorem dX5_colour_68 : decode cX5_colour 68 = .ok (.iastore, 1) := by decide +kernel
theorem dX5_colour_69 : decode cX5_colour 69 = .ok (.aload_n 0, 1) := by decide +kernel
theorem dX5_colour_70 : decode cX5_colour 70 = .ok (.iload 4, 2) := by decide +kernel
theorem dX5_colour_72 : decode cX5_colour 72 = .ok (.invokevirtual 97, 3) := by decide +kernel
theorem dX5_colour_75 : decode cX5_colour 75 = .ok (.ireturn, 1) := by decide +kernel
theorem dX5_addView_0 : decode cX5_addView 0 = .ok (.aload_n 0, 1) := by decide +kernel
theorem dX5_addView_1 : decode cX5_addView 1 = .ok (.getfield 7, 3) := by decide +kernel
theorem dX5_addView_4 : decode cX5_addView 4 = .ok (.iconst 0, 1) := by decide +kernel
theorem dX5_addView_5 : decode cX5_addView 5 = .ok (.iaload, 1) := by decide +kernel
theorem dX5_addView_6 : decode cX5_addView 6 = .ok (.iconst 4, 1) := by decide +kernel
theorem dX5_addView_7 : decode cX5_addView 7 = .ok (.if_icmp .ne 6, 3) := by decide +kernel
theorem dX5_addView_10 : decode cX5_addView 10 = .ok (.bipush (-103), 2) := by decide +kernel
theorem dX5_addView_12 : decode cX5_addView 12 = .ok (.ireturn, 1) := by decide +kernel
theorem dX5_addView_13 : decode cX5_addView 13 = .ok (.aload_n 0, 1) := by decide +kernel
theorem dX5_addView_14 : decode cX5_addView 14 = .ok (.invokevirtual 94, 3) := by decide +kernel
theorem dX5_addView_17 : decode cX5_addView 17 = .ok (.aload_n 0, 1) := by decide +kernel
theorem dX5_addView_18 : decode cX5_addView 18 = .ok (.getfield 7, 3) := by decide +kernel
theorem dX5_addView_21 : decode cX5_addView 21 = .ok (.iconst 0, 1) := by decide +kernel
theorem dX5_addView_22 : decode cX5_addView 22 = .ok (.dup2, 1) := by decide +kernel
theorem dX5_addView_23 : decode cX5_addView 23 = .ok (.iaload, 1) := by decide +kernel
theorem dX5_addView_24 : decode cX5_addView 24 = .ok (.iconst 1, 1) := by decide +kernel
theorem dX5_addView_25 : decode cX5_addView 25 = .ok (.iadd, 1) := by decide +kernel
theorem dX5_addView_26 : decode cX5_addView 26 = .ok (.iastore, 1) := by decide +kernel
theorem dX5_addView_27 : decode cX5_addView 27 = .ok (.aload_n 0, 1) := by decide +kernel
theorem dX5_addView_28 : decode cX5_addView 28 = .ok (.invokevirtual 34, 3) := by decide +kernel
theorem dX5_addView_31 : decode cX5_addView 31 = .ok (.aload_n 0, 1) := by decide +kernel
theorem dX5_addView_32 : decode cX5_addView 32 = .ok (.aload_n 0, 1) := by decide +kernel
theorem dX5_addView_33 : decode cX5_addView 33 = .ok (.getfield 7, 3) := by decide +kernel
theorem dX5_addView_36 : decode cX5_addView 36 = .ok (.iconst 0, 1) := by decide +kernel
theorem dX5_addView_37 : decode cX5_addView 37 = .ok (.iaload, 1) := by decide +kernel
theorem dX5_addView_38 : decode cX5_addView 38 = .ok (.invokevirtual 97, 3) := by decide +kernel
theorem dX5_addView_41 : decode cX5_addView 41 = .ok (.ireturn, 1) := by decide +kernel
theorem dX5_removeView_0 : decode cX5_removeView 0 = .ok (.aload_n 0, 1) := by decide +kernel
theorem dX5_removeView_1 : decode cX5_removeView 1 = .ok (.iload_n 1, 1) := by decide +kernel
theorem dX5_removeView_2 : decode cX5_removeView 2 = .ok (.invokevirtual 84, 3) := by decide +kernel
theorem dX5_removeView_5 : decode cX5_removeView 5 = .ok (.ifCond .ne 6, 3) := by decide +kernel
theorem dX5_removeView_8 : decode cX5_removeView 8 = .ok (.bipush (-101), 2) := by decide +kernel
theorem dX5_removeView_10 : decode cX5_removeView 10 = .ok (.ireturn, 1) := by decide +kernel
theorem dX5_removeView_11 : decode cX5_removeView 11 = .ok (.aload_n 0, 1) := by decide +kernel
theorem dX5_removeView_12 : decode cX5_removeView 12 = .ok (.getfield 7, 3) := by decide +kernel
theorem dX5_removeView_15 : decode cX5_removeView 15 = .ok (.iconst 0, 1) := by decide +kernel
theorem dX5_removeView_16 : decode cX5_removeView 16 = .ok (.iaload, 1) := by decide +kernel
theorem dX5_removeView_17 : decode cX5_removeView 17 = .ok (.iconst 2, 1) := by decide +kernel
theorem dX5_removeView_18 : decode cX5_removeView 18 = .ok (.if_icmp .ne 6, 3) := by decide +kernel
theorem dX5_removeView_21 : decode cX5_removeView 21 = .ok (.bipush (-104), 2) := by decide +kernel
theorem dX5_removeView_23 : decode cX5_removeView 23 = .ok (.ireturn, 1) := by decide +kernel
theorem dX5_removeView_24 : decode cX5_removeView 24 = .ok (.aload_n 0, 1) := by decide +kernel
theorem dX5_removeView_25 : decode cX5_removeView 25 = .ok (.invokevirtual 94, 3) := by decide +kernel
theorem dX5_removeView_28 : decode cX5_removeView 28 = .ok (.aload_n 0, 1) := by decide +kernel
theorem dX5_removeView_29 : decode cX5_removeView 29 = .ok (.getfield 7, 3) := by decide +kernel
theorem dX5_removeView_32 : decode cX5_removeView 32 = .ok (.iconst 0, 1) := by decide +kernel
theorem dX5_removeView_33 : decode cX5_removeView 33 = .ok (.dup2, 1) := by decide +kernel
theorem dX5_removeView_34 : decode cX5_removeView 34 = .ok (.iaload, 1) := by decide +kernel
theorem dX5_removeView_35 : decode cX5_removeView 35 = .ok (.iconst 1, 1) := by decide +kernel
theorem dX5_removeView_36 : decode cX5_removeView 36 = .ok (.isub, 1) := by decide +kernel
theorem dX5_removeView_37 : decode cX5_removeView 37 = .ok (.iastore, 1) := by decide +kernel
theorem dX5_removeView_38 : decode cX5_removeView 38 = .ok (.bipush 13, 2) := by decide +kernel
theorem dX5_removeView_40 : decode cX5_removeView 40 = .ok (.bipush 12, 2) := by decide +kernel
theorem dX5_removeView_42 : decode cX5_removeView 42 = .ok (.iload_n 1, 1) := by decide +kernel
theorem dX5_removeView_43 : decode cX5_removeView 43 = .ok (.imul, 1) := by decide +kernel
theorem dX5_removeView_44 : decode cX5_removeView 44 = .ok (.iadd, 1) := by decide +kernel
theorem dX5_removeView_45 : decode cX5_removeView 45 = .ok (.istore_n 2, 1) := by decide +kernel
theorem dX5_removeView_46 : decode cX5_removeView 46 = .ok (.iload_n 2, 1) := by decide +kernel
theorem dX5_removeView_47 : decode cX5_removeView 47 = .ok (.bipush 61, 2) := by decide +kernel
theorem dX5_removeView_49 : decode cX5_removeView 49 = .ok (.if_icmp .ge 37, 3) := by decide +kernel
theorem dX5_removeView_52 : decode cX5_removeView 52 = .ok (.aload_n 0, 1) := by decide +kernel
theorem dX5_removeView_53 : decode cX5_removeView 53 = .ok (.getfield 7, 3) := by decide +kernel
theorem dX5_removeView_56 : decode cX5_removeView 56 = .ok (.iload_n 2, 1) := by decide +kernel
theorem dX5_removeView_57 : decode cX5_removeView 57 = .ok (.iload_n 2, 1) := by decide +kernel
theorem dX5_removeView_58 : decode cX5_removeView 58 = .ok (.bipush 12, 2) := by decide +kernel
theorem dX5_removeView_60 : decode cX5_removeView 60 = .ok (.iadd, 1) := by decide +kernel
theorem dX5_removeView_61 : decode cX5_removeView 61 = .ok (.bipush 61, 2) := by decide +kernel
theorem dX5_removeView_63 : decode cX5_removeView 63 = .ok (.if_icmp .ge 15, 3) := by decide +kernel
theorem dX5_removeView_66 : decode cX5_removeView 66 = .ok (.aload_n 0, 1) := by decide +kernel
theorem dX5_removeView_67 : decode cX5_removeView 67 = .ok (.getfield 7, 3) := by decide +kernel
theorem dX5_removeView_70 : decode cX5_removeView 70 = .ok (.iload_n 2, 1) := by decide +kernel
theorem dX5_removeView_71 : decode cX5_removeView 71 = .ok (.bipush 12, 2) := by decide +kernel
theorem dX5_removeView_73 : decode cX5_removeView 73 = .ok (.iadd, 1) := by decide +kernel
theorem dX5_removeView_74 : decode cX5_removeView 74 = .ok (.iaload, 1) := by decide +kernel
theorem dX5_removeView_75 : decode cX5_removeView 75 = .ok (.goto 4, 3) := by decide +kernel
theorem dX5_removeView_78 : decode cX5_removeView 78 = .ok (.iconst 0, 1) := by decide +kernel
theorem dX5_removeView_79 : decode cX5_removeView 79 = .ok (.iastore, 1) := by decide +kernel
theorem dX5_removeView_80 : decode cX5_removeView 80 = .ok (.iinc 2 1, 3) := by decide +kernel
theorem dX5_removeView_83 : decode cX5_removeView 83 = .ok (.goto (-37), 3) := by decide +kernel
theorem dX5_removeView_86 : decode cX5_removeView 86 = .ok (.aload_n 0, 1) := by decide +kernel
theorem dX5_removeView_87 : decode cX5_removeView 87 = .ok (.invokevirtual 34, 3) := by decide +kernel
theorem dX5_removeView_90 : decode cX5_removeView 90 = .ok (.aload_n 0, 1) := by decide +kernel
theorem dX5_removeView_91 : decode cX5_removeView 91 = .ok (.aload_n 0, 1) := by decide +kernel
theorem dX5_removeView_92 : decode cX5_removeView 92 = .ok (.getfield 7, 3) := by decide +kernel
theorem dX5_removeView_95 : decode cX5_removeView 95 = .ok (.iconst 0, 1) := by decide +kernel
theorem dX5_removeView_96 : decode cX5_removeView 96 = .ok (.iaload, 1) := by decide +kernel
theorem dX5_removeView_97 : decode cX5_removeView 97 = .ok (.invokevirtual 97, 3) := by decide +kernel
theorem dX5_removeView_100 : decode cX5_removeView 100 = .ok (.ireturn, 1) := by decide +kernel
theorem dX5_swap_0 : decode cX5_swap 0 = .ok (.aload_n 0, 1) := by decide +kernel
theorem dX5_swap_1 : decode cX5_swap 1 = .ok (.iload_n 1, 1) := by decide +kernel
theorem dX5_swap_2 : decode cX5_swap 2 = .ok (.invokevirtual 84, 3) := by decide +kernel
theorem dX5_swap_5 : decode cX5_swap 5 = .ok (.ifCond .eq 11, 3) := by decide +kernel
theorem dX5_swap_8 : decode cX5_swap 8 = .ok (.aload_n 0, 1) := by decide +kernel
theorem dX5_swap_9 : decode cX5_swap 9 = .ok (.iload_n 2, 1) := by decide +kernel
theorem dX5_swap_10 : decode cX5_swap 10 = .ok (.invokevirtual 84, 3) := by decide +kernel
theorem dX5_swap_13 : decode cX5_swap 13 = .ok (.ifCond .ne 6, 3) := by decide +kernel
theorem dX5_swap_16 : decode cX5_swap 16 = .ok (.bipush (-101), 2) := by decide +kernel
theorem dX5_swap_18 : decode cX5_swap 18 = .ok (.ireturn, 1) := by decide +kernel
theorem dX5_swap_19 : decode cX5_swap 19 = .ok (.iload_n 1, 1) := by decide +kernel
theorem dX5_swap_20 : decode cX5_swap 20 = .ok (.iload_n 2, 1) := by decide +kernel
theorem dX5_swap_21 : decode cX5_swap 21 = .ok (.if_icmp .ne 6, 3) := by decide +kernel
theorem dX5_swap_24 : decode cX5_swap 24 = .ok (.bipush (-105), 2) := by decide +kernel
theorem dX5_swap_26 : decode cX5_swap 26 = .ok (.ireturn, 1) := by decide +kernel
theorem dX5_swap_27 : decode cX5_swap 27 = .ok (.aload_n 0, 1) := by decide +kernel
theorem dX5_swap_28 : decode cX5_swap 28 = .ok (.invokevirtual 94, 3) := by decide +kernel
theorem dX5_swap_31 : decode cX5_swap 31 = .ok (.iconst 0, 1) := by decide +kernel
theorem dX5_swap_32 : decode cX5_swap 32 = .ok (.istore_n 3, 1) := by decide +kernel
theorem dX5_swap_33 : decode cX5_swap 33 = .ok (.iconst 0, 1) := by decide +kernel
theorem dX5_swap_34 : decode cX5_swap 34 = .ok (.istore 4, 2) := by decide +kernel
theorem dX5_swap_36 : decode cX5_swap 36 = .ok (.iload 4, 2) := by decide +kernel
theorem dX5_swap_38 : decode cX5_swap 38 = .ok (.bipush 12, 2) := by decide +kernel
theorem dX5_swap_40 : decode cX5_swap 40 = .ok (.if_icmp .ge 77, 3) := by decide +kernel
theorem dX5_swap_43 : decode cX5_swap 43 = .ok (.aload_n 0, 1) := by decide +kernel
theorem dX5_swap_44 : decode cX5_swap 44 = .ok (.iload_n 1, 1) := by decide +kernel
theorem dX5_swap_45 : decode cX5_swap 45 = .ok (.iload 4, 2) := by decide +kernel
theorem dX5_swap_47 : decode cX5_swap 47 = .ok (.invokevirtual 91, 3) := by decide +kernel
theorem dX5_swap_50 : decode cX5_swap 50 = .ok (.istore 5, 2) := by decide +kernel
theorem dX5_swap_52 : decode cX5_swap 52 = .ok (.iload_n 3, 1) := by decide +kernel
theorem dX5_swap_53 : decode cX5_swap 53 = .ok (.iload 5, 2) := by decide +kernel
theorem dX5_swap_55 : decode cX5_swap 55 = .ok (.aload_n 0, 1) := by decide +kernel
theorem dX5_swap_56 : decode cX5_swap 56 = .ok (.iload_n 2, 1) := by decide +kernel
theorem dX5_swap_57 : decode cX5_swap 57 = .ok (.iload 4, 2) := by decide +kernel
theorem dX5_swap_59 : decode cX5_swap 59 = .ok (.invokevirtual 91, 3) := by decide +kernel
theorem dX5_swap_62 : decode cX5_swap 62 = .ok (.if_icmp .ne 7, 3) := by decide +kernel
theorem dX5_swap_65 : decode cX5_swap 65 = .ok (.iconst 0, 1) := by decide +kernel
theorem dX5_swap_66 : decode cX5_swap 66 = .ok (.goto 4, 3) := by decide +kernel
theorem dX5_swap_69 : decode cX5_swap 69 = .ok (.iconst 1, 1) := by decide +kernel
theorem dX5_swap_70 : decode cX5_swap 70 = .ok (.iadd, 1) := by decide +kernel
theorem dX5_swap_71 : decode cX5_swap 71 = .ok (.istore_n 3, 1) := by decide +kernel
theorem dX5_swap_72 : decode cX5_swap 72 = .ok (.aload_n 0, 1) := by decide +kernel
theorem dX5_swap_73 : decode cX5_swap 73 = .ok (.getfield 7, 3) := by decide +kernel
theorem dX5_swap_76 : decode cX5_swap 76 = .ok (.bipush 13, 2) := by decide +kernel
theorem dX5_swap_78 : decode cX5_swap 78 = .ok (.bipush 12, 2) := by decide +kernel
theorem dX5_swap_80 : decode cX5_swap 80 = .ok (.iload_n 1, 1) := by decide +kernel
theorem dX5_swap_81 : decode cX5_swap 81 = .ok (.imul, 1) := by decide +kernel
theorem dX5_swap_82 : decode cX5_swap 82 = .ok (.iadd, 1) := by decide +kernel
theorem dX5_swap_83 : decode cX5_swap 83 = .ok (.iload 4, 2) := by decide +kernel
theorem dX5_swap_85 : decode cX5_swap 85 = .ok (.iadd, 1) := by decide +kernel
theorem dX5_swap_86 : decode cX5_swap 86 = .ok (.aload_n 0, 1) := by decide +kernel
theorem dX5_swap_87 : decode cX5_swap 87 = .ok (.iload_n 2, 1) := by decide +kernel
theorem dX5_swap_88 : decode cX5_swap 88 = .ok (.iload 4, 2) := by decide +kernel
theorem dX5_swap_90 : decode cX5_swap 90 = .ok (.invokevirtual 91, 3) := by decide +kernel
theorem dX5_swap_93 : decode cX5_swap 93 = .ok (.iastore, 1) := by decide +kernel
theorem dX5_swap_94 : decode cX5_swap 94 = .ok (.aload_n 0, 1) := by decide +kernel
theorem dX5_swap_95 : decode cX5_swap 95 = .ok (.getfield 7, 3) := by decide +kernel
theorem dX5_swap_98 : decode cX5_swap 98 = .ok (.bipush 13, 2) := by decide +kernel
theorem dX5_swap_100 : decode cX5_swap 100 = .ok (.bipush 12, 2) := by decide +kernel
theorem dX5_swap_102 : decode cX5_swap 102 = .ok (.iload_n 2, 1) := by decide +kernel
theorem dX5_swap_103 : decode cX5_swap 103 = .ok (.imul, 1) := by decide +kernel
theorem dX5_swap_104 : decode cX5_swap 104 = .ok (.iadd, 1) := by decide +kernel
theorem dX5_swap_105 : decode cX5_swap 105 = .ok (.iload 4, 2) := by decide +kernel
theorem dX5_swap_107 : decode cX5_swap 107 = .ok (.iadd, 1) := by decide +kernel
theorem dX5_swap_108 : decode cX5_swap 108 = .ok (.iload 5, 2) := by decide +kernel
theorem dX5_swap_110 : decode cX5_swap 110 = .ok (.iastore, 1) := by decide +kernel
theorem dX5_swap_111 : decode cX5_swap 111 = .ok (.iinc 4 1, 3) := by decide +kernel
theorem dX5_swap_114 : decode cX5_swap 114 = .ok (.goto (-78), 3) := by decide +kernel
theorem dX5_swap_117 : decode cX5_swap 117 = .ok (.aload_n 0, 1) := by decide +kernel
theorem dX5_swap_118 : decode cX5_swap 118 = .ok (.iload_n 3, 1) := by decide +kernel
theorem dX5_swap_119 : decode cX5_swap 119 = .ok (.invokevirtual 97, 3) := by decide +kernel
theorem dX5_swap_122 : decode cX5_swap 122 = .ok (.ireturn, 1) := by decide +kernel
theorem dX5_settles_0 : decode cX5_settles 0 = .ok (.iload_n 3, 1) := by decide +kernel
theorem dX5_settles_1 : decode cX5_settles 1 = .ok (.ifCond .ne 6, 3) := by decide +kernel
theorem dX5_settles_4 : decode cX5_settles 4 = .ok (.bipush (-102), 2) := by decide +kernel
theorem dX5_settles_6 : decode cX5_settles 6 = .ok (.ireturn, 1) := by decide +kernel
theorem dX5_settles_7 : decode cX5_settles 7 = .ok (.aload_n 0, 1) := by decide +kernel
theorem dX5_settles_8 : decode cX5_settles 8 = .ok (.getfield 7, 3) := by decide +kernel
theorem dX5_settles_11 : decode cX5_settles 11 = .ok (.iload_n 1, 1) := by decide +kernel
theorem dX5_settles_12 : decode cX5_settles 12 = .ok (.iaload, 1) := by decide +kernel
theorem dX5_settles_13 : decode cX5_settles 13 = .ok (.istore 4, 2) := by decide +kernel
theorem dX5_settles_15 : decode cX5_settles 15 = .ok (.iload 4, 2) := by decide +kernel
theorem dX5_settles_17 : decode cX5_settles 17 = .ok (.iload_n 2, 1) := by decide +kernel
theorem dX5_settles_18 : decode cX5_settles 18 = .ok (.if_icmp .ne 6, 3) := by decide +kernel
theorem dX5_settles_21 : decode cX5_settles 21 = .ok (.bipush (-105), 2) := by decide +kernel
theorem dX5_settles_23 : decode cX5_settles 23 = .ok (.ireturn, 1) := by decide +kernel
theorem dX5_settles_24 : decode cX5_settles 24 = .ok (.aload_n 0, 1) := by decide +kernel
theorem dX5_settles_25 : decode cX5_settles 25 = .ok (.invokevirtual 94, 3) := by decide +kernel
theorem dX5_settles_28 : decode cX5_settles 28 = .ok (.aload_n 0, 1) := by decide +kernel
theorem dX5_settles_29 : decode cX5_settles 29 = .ok (.getfield 7, 3) := by decide +kernel
theorem dX5_settles_32 : decode cX5_settles 32 = .ok (.iload_n 1, 1) := by decide +kernel
theorem dX5_settles_33 : decode cX5_settles 33 = .ok (.iload_n 2, 1) := by decide +kernel
theorem dX5_settles_34 : decode cX5_settles 34 = .ok (.iastore, 1) := by decide +kernel
theorem dX5_settles_35 : decode cX5_settles 35 = .ok (.iload_n 1, 1) := by decide +kernel
theorem dX5_settles_36 : decode cX5_settles 36 = .ok (.iconst 1, 1) := by decide +kernel
theorem dX5_settles_37 : decode cX5_settles 37 = .ok (.if_icmp .ne 7, 3) := by decide +kernel
theorem dX5_settles_40 : decode cX5_settles 40 = .ok (.aload_n 0, 1) := by decide +kernel
theorem dX5_settles_41 : decode cX5_settles 41 = .ok (.invokevirtual 34, 3) := by decide +kernel
theorem dX5_settles_44 : decode cX5_settles 44 = .ok (.aload_n 0, 1) := by decide +kernel
theorem dX5_settles_45 : decode cX5_settles 45 = .ok (.iload 4, 2) := by decide +kernel
theorem dX5_settles_47 : decode cX5_settles 47 = .ok (.invokevirtual 97, 3) := by decide +kernel
theorem dX5_settles_50 : decode cX5_settles 50 = .ok (.ireturn, 1) := by decide +kernel
theorem dX5_setPitch_0 : decode cX5_setPitch 0 = .ok (.aload_n 0, 1) := by decide +kernel
theorem dX5_setPitch_1 : decode cX5_setPitch 1 = .ok (.iconst 1, 1) := by decide +kernel
theorem dX5_setPitch_2 : decode cX5_setPitch 2 = .ok (.iload_n 1, 1) := by decide +kernel
theorem dX5_setPitch_3 : decode cX5_setPitch 3 = .ok (.iload_n 1, 1) := by decide +kernel
theorem dX5_setPitch_4 : decode cX5_setPitch 4 = .ok (.i2l, 1) := by decide +kernel
theorem dX5_setPitch_5 : decode cX5_setPitch 5 = .ok (.ldc2_w 100, 3) := by decide +kernel
theorem dX5_setPitch_8 : decode cX5_setPitch 8 = .ok (.ldc2_w 102, 3) := by decide +kernel
theorem dX5_setPitch_11 : decode cX5_setPitch 11 = .ok (.invokestatic 41, 3) := by decide +kernel
theorem dX5_setPitch_14 : decode cX5_setPitch 14 = .ok (.invokevirtual 104, 3) := by decide +kernel
theorem dX5_setPitch_17 : decode cX5_setPitch 17 = .ok (.ireturn, 1) := by decide +kernel
theorem dX5_setShift_0 : decode cX5_setShift 0 = .ok (.aload_n 0, 1) := by decide +kernel
theorem dX5_setShift_1 : decode cX5_setShift 1 = .ok (.iconst 2, 1) := by decide +kernel
theorem dX5_setShift_2 : decode cX5_setShift 2 = .ok (.iload_n 1, 1) := by decide +kernel
theorem dX5_setShift_3 : decode cX5_setShift 3 = .ok (.iload_n 1, 1) := by decide +kernel
theorem dX5_setShift_4 : decode cX5_setShift 4 = .ok (.i2l, 1) := by decide +kernel
theorem dX5_setShift_5 : decode cX5_setShift 5 = .ok (.ldc2_w 108, 3) := by decide +kernel
theorem dX5_setShift_8 : decode cX5_setShift 8 = .ok (.ldc2_w 110, 3) := by decide +kernel
theorem dX5_setShift_11 : decode cX5_setShift 11 = .ok (.invokestatic 41, 3) := by decide +kernel
theorem dX5_setShift_14 : decode cX5_setShift 14 = .ok (.invokevirtual 104, 3) := by decide +kernel
theorem dX5_setShift_17 : decode cX5_setShift 17 = .ok (.ireturn, 1) := by decide +kernel
theorem dX5_setLean_0 : decode cX5_setLean 0 = .ok (.aload_n 0, 1) := by decide +kernel
theorem dX5_setLean_1 : decode cX5_setLean 1 = .ok (.iconst 3, 1) := by decide +kernel
theorem dX5_setLean_2 : decode cX5_setLean 2 = .ok (.iload_n 1, 1) := by decide +kernel
theorem dX5_setLean_3 : decode cX5_setLean 3 = .ok (.iload_n 1, 1) := by decide +kernel
theorem dX5_setLean_4 : decode cX5_setLean 4 = .ok (.i2l, 1) := by decide +kernel
theorem dX5_setLean_5 : decode cX5_setLean 5 = .ok (.lconst 0, 1) := by decide +kernel
theorem dX5_setLean_6 : decode cX5_setLean 6 = .ok (.ldc2_w 110, 3) := by decide +kernel
theorem dX5_setLean_9 : decode cX5_setLean 9 = .ok (.invokestatic 41, 3) := by decide +kernel
theorem dX5_setLean_12 : decode cX5_setLean 12 = .ok (.invokevirtual 104, 3) := by decide +kernel
theorem dX5_setLean_15 : decode cX5_setLean 15 = .ok (.ireturn, 1) := by decide +kernel
theorem dX5_slice_0 : decode cX5_slice 0 = .ok (.aload_n 0, 1) := by decide +kernel
theorem dX5_slice_1 : decode cX5_slice 1 = .ok (.iload_n 1, 1) := by decide +kernel
theorem dX5_slice_2 : decode cX5_slice 2 = .ok (.invokevirtual 112, 3) := by decide +kernel
theorem dX5_slice_5 : decode cX5_slice 5 = .ok (.ifCond .eq 11, 3) := by decide +kernel
theorem dX5_slice_8 : decode cX5_slice 8 = .ok (.aload_n 0, 1) := by decide +kernel
theorem dX5_slice_9 : decode cX5_slice 9 = .ok (.iload_n 2, 1) := by decide +kernel
theorem dX5_slice_10 : decode cX5_slice 10 = .ok (.invokevirtual 84, 3) := by decide +kernel
theorem dX5_slice_13 : decode cX5_slice 13 = .ok (.ifCond .ne 6, 3) := by decide +kernel
theorem dX5_slice_16 : decode cX5_slice 16 = .ok (.bipush (-101), 2) := by decide +kernel
theorem dX5_slice_18 : decode cX5_slice 18 = .ok (.ireturn, 1) := by decide +kernel
theorem dX5_slice_19 : decode cX5_slice 19 = .ok (.aload_n 0, 1) := by decide +kernel
theorem dX5_slice_20 : decode cX5_slice 20 = .ok (.getfield 7, 3) := by decide +kernel
theorem dX5_slice_23 : decode cX5_slice 23 = .ok (.bipush 7, 2) := by decide +kernel
theorem dX5_slice_25 : decode cX5_slice 25 = .ok (.iload_n 1, 1) := by decide +kernel
theorem dX5_slice_26 : decode cX5_slice 26 = .ok (.iadd, 1) := by decide +kernel
theorem dX5_slice_27 : decode cX5_slice 27 = .ok (.iaload, 1) := by decide +kernel
theorem dX5_slice_28 : decode cX5_slice 28 = .ok (.istore_n 3, 1) := by decide +kernel
theorem dX5_slice_29 : decode cX5_slice 29 = .ok (.iload_n 3, 1) := by decide +kernel
theorem dX5_slice_30 : decode cX5_slice 30 = .ok (.iload_n 2, 1) := by decide +kernel
theorem dX5_slice_31 : decode cX5_slice 31 = .ok (.if_icmp .ne 6, 3) := by decide +kernel
theorem dX5_slice_34 : decode cX5_slice 34 = .ok (.bipush (-105), 2) := by decide +kernel
theorem dX5_slice_36 : decode cX5_slice 36 = .ok (.ireturn, 1) := by decide +kernel
theorem dX5_slice_37 : decode cX5_slice 37 = .ok (.aload_n 0, 1) := by decide +kernel
theorem dX5_slice_38 : decode cX5_slice 38 = .ok (.invokevirtual 94, 3) := by decide +kernel
theorem dX5_slice_41 : decode cX5_slice 41 = .ok (.aload_n 0, 1) := by decide +kernel
theorem dX5_slice_42 : decode cX5_slice 42 = .ok (.getfield 7, 3) := by decide +kernel
theorem dX5_slice_45 : decode cX5_slice 45 = .ok (.bipush 7, 2) := by decide +kernel
theorem dX5_slice_47 : decode cX5_slice 47 = .ok (.iload_n 1, 1) := by decide +kernel
theorem dX5_slice_48 : decode cX5_slice 48 = .ok (.iadd, 1) := by decide +kernel
theorem dX5_slice_49 : decode cX5_slice 49 = .ok (.iload_n 2, 1) := by decide +kernel
theorem dX5_slice_50 : decode cX5_slice 50 = .ok (.iastore, 1) := by decide +kernel
theorem dX5_slice_51 : decode cX5_slice 51 = .ok (.aload_n 0, 1) := by decide +kernel
theorem dX5_slice_52 : decode cX5_slice 52 = .ok (.iload_n 3, 1) := by decide +kernel
theorem dX5_slice_53 : decode cX5_slice 53 = .ok (.invokevirtual 97, 3) := by decide +kernel
theorem dX5_slice_56 : decode cX5_slice 56 = .ok (.ireturn, 1) := by decide +kernel
theorem dX5_laysOrder_0 : decode cX5_laysOrder 0 = .ok (.iload_n 1, 1) := by decide +kernel
theorem dX5_laysOrder_1 : decode cX5_laysOrder 1 = .ok (.istore_n 2, 1) := by decide +kernel
theorem dX5_laysOrder_2 : decode cX5_laysOrder 2 = .ok (.iconst 0, 1) := by decide +kernel
theorem dX5_laysOrder_3 : decode cX5_laysOrder 3 = .ok (.istore_n 3, 1) := by decide +kernel
theorem dX5_laysOrder_4 : decode cX5_laysOrder 4 = .ok (.aload_n 0, 1) := by decide +kernel
theorem dX5_laysOrder_5 : decode cX5_laysOrder 5 = .ok (.getfield 7, 3) := by decide +kernel
theorem dX5_laysOrder_8 : decode cX5_laysOrder 8 = .ok (.iconst 1, 1) := by decide +kernel
theorem dX5_laysOrder_9 : decode cX5_laysOrder 9 = .ok (.iaload, 1) := by decide +kernel
theorem dX5_laysOrder_10 : decode cX5_laysOrder 10 = .ok (.iconst 1, 1) := by decide +kernel
theorem dX5_laysOrder_11 : decode cX5_laysOrder 11 = .ok (.isub, 1) := by decide +kernel
theorem dX5_laysOrder_12 : decode cX5_laysOrder 12 = .ok (.istore 4, 2) := by decide +kernel
theorem dX5_laysOrder_14 : decode cX5_laysOrder 14 = .ok (.iload 4, 2) := by decide +kernel
theorem dX5_laysOrder_16 : decode cX5_laysOrder 16 = .ok (.ifCond .lt 51, 3) := by decide +kernel
theorem dX5_laysOrder_19 : decode cX5_laysOrder 19 = .ok (.aload_n 0, 1) := by decide +kernel
theorem dX5_laysOrder_20 : decode cX5_laysOrder 20 = .ok (.getfield 7, 3) := by decide +kernel
theorem dX5_laysOrder_23 : decode cX5_laysOrder 23 = .ok (.bipush 7, 2) := by decide +kernel
theorem dX5_laysOrder_25 : decode cX5_laysOrder 25 = .ok (.iload 4, 2) := by decide +kernel
theorem dX5_laysOrder_27 : decode cX5_laysOrder 27 = .ok (.iadd, 1) := by decide +kernel
theorem dX5_laysOrder_28 : decode cX5_laysOrder 28 = .ok (.iload_n 2, 1) := by decide +kernel
theorem dX5_laysOrder_29 : decode cX5_laysOrder 29 = .ok (.aload_n 0, 1) := by decide +kernel
theorem dX5_laysOrder_30 : decode cX5_laysOrder 30 = .ok (.getfield 7, 3) := by decide +kernel
theorem dX5_laysOrder_33 : decode cX5_laysOrder 33 = .ok (.iconst 0, 1) := by decide +kernel
theorem dX5_laysOrder_34 : decode cX5_laysOrder 34 = .ok (.iaload, 1) := by decide +kernel
theorem dX5_laysOrder_35 : decode cX5_laysOrder 35 = .ok (.irem, 1) := by decide +kernel
theorem dX5_laysOrder_36 : decode cX5_laysOrder 36 = .ok (.iastore, 1) := by decide +kernel
theorem dX5_laysOrder_37 : decode cX5_laysOrder 37 = .ok (.iload_n 2, 1) := by decide +kernel
theorem dX5_laysOrder_38 : decode cX5_laysOrder 38 = .ok (.aload_n 0, 1) := by decide +kernel
theorem dX5_laysOrder_39 : decode cX5_laysOrder 39 = .ok (.getfield 7, 3) := by decide +kernel
theorem dX5_laysOrder_42 : decode cX5_laysOrder 42 = .ok (.iconst 0, 1) := by decide +kernel
theorem dX5_laysOrder_43 : decode cX5_laysOrder 43 = .ok (.iaload, 1) := by decide +kernel
theorem dX5_laysOrder_44 : decode cX5_laysOrder 44 = .ok (.idiv, 1) := by decide +kernel
theorem dX5_laysOrder_45 : decode cX5_laysOrder 45 = .ok (.istore_n 2, 1) := by decide +kernel
theorem dX5_laysOrder_46 : decode cX5_laysOrder 46 = .ok (.iload_n 3, 1) := by decide +kernel
theorem dX5_laysOrder_47 : decode cX5_laysOrder 47 = .ok (.iconst 1, 1) := by decide +kernel
theorem dX5_laysOrder_48 : decode cX5_laysOrder 48 = .ok (.aload_n 0, 1) := by decide +kernel
theorem dX5_laysOrder_49 : decode cX5_laysOrder 49 = .ok (.getfield 7, 3) := by decide +kernel
theorem dX5_laysOrder_52 : decode cX5_laysOrder 52 = .ok (.bipush 7, 2) := by decide +kernel
theorem dX5_laysOrder_54 : decode cX5_laysOrder 54 = .ok (.iload 4, 2) := by decide +kernel
theorem dX5_laysOrder_56 : decode cX5_laysOrder 56 = .ok (.iadd, 1) := by decide +kernel
theorem dX5_laysOrder_57 : decode cX5_laysOrder 57 = .ok (.iaload, 1) := by decide +kernel
theorem dX5_laysOrder_58 : decode cX5_laysOrder 58 = .ok (.ishl, 1) := by decide +kernel
theorem dX5_laysOrder_59 : decode cX5_laysOrder 59 = .ok (.ior, 1) := by decide +kernel
theorem dX5_laysOrder_60 : decode cX5_laysOrder 60 = .ok (.istore_n 3, 1) := by decide +kernel
theorem dX5_laysOrder_61 : decode cX5_laysOrder 61 = .ok (.iinc 4 (-1), 3) := by decide +kernel
theorem dX5_laysOrder_64 : decode cX5_laysOrder 64 = .ok (.goto (-50), 3) := by decide +kernel
theorem dX5_laysOrder_67 : decode cX5_laysOrder 67 = .ok (.aload_n 0, 1) := by decide +kernel
theorem dX5_laysOrder_68 : decode cX5_laysOrder 68 = .ok (.getfield 7, 3) := by decide +kernel
theorem dX5_laysOrder_71 : decode cX5_laysOrder 71 = .ok (.iconst 1, 1) := by decide +kernel
theorem dX5_laysOrder_72 : decode cX5_laysOrder 72 = .ok (.iaload, 1) := by decide +kernel
theorem dX5_laysOrder_73 : decode cX5_laysOrder 73 = .ok (.aload_n 0, 1) := by decide +kernel
theorem dX5_laysOrder_74 : decode cX5_laysOrder 74 = .ok (.getfield 7, 3) := by decide +kernel
theorem dX5_laysOrder_77 : decode cX5_laysOrder 77 = .ok (.iconst 0, 1) := by decide +kernel
theorem dX5_laysOrder_78 : decode cX5_laysOrder 78 = .ok (.iaload, 1) := by decide +kernel
theorem dX5_laysOrder_79 : decode cX5_laysOrder 79 = .ok (.if_icmp .lt 17, 3) := by decide +kernel
theorem dX5_laysOrder_82 : decode cX5_laysOrder 82 = .ok (.iload_n 3, 1) := by decide +kernel
theorem dX5_laysOrder_83 : decode cX5_laysOrder 83 = .ok (.iconst 1, 1) := by decide +kernel
theorem dX5_laysOrder_84 : decode cX5_laysOrder 84 = .ok (.aload_n 0, 1) := by decide +kernel
theorem dX5_laysOrder_85 : decode cX5_laysOrder 85 = .ok (.getfield 7, 3) := by decide +kernel
theorem dX5_laysOrder_88 : decode cX5_laysOrder 88 = .ok (.iconst 0, 1) := by decide +kernel
theorem dX5_laysOrder_89 : decode cX5_laysOrder 89 = .ok (.iaload, 1) := by decide +kernel
theorem dX5_laysOrder_90 : decode cX5_laysOrder 90 = .ok (.ishl, 1) := by decide +kernel
theorem dX5_laysOrder_91 : decode cX5_laysOrder 91 = .ok (.iconst 1, 1) := by decide +kernel
theorem dX5_laysOrder_92 : decode cX5_laysOrder 92 = .ok (.isub, 1) := by decide +kernel
theorem dX5_laysOrder_93 : decode cX5_laysOrder 93 = .ok (.if_icmp .ne 7, 3) := by decide +kernel
theorem dX5_laysOrder_96 : decode cX5_laysOrder 96 = .ok (.iconst 1, 1) := by decide +kernel
theorem dX5_laysOrder_97 : decode cX5_laysOrder 97 = .ok (.goto 4, 3) := by decide +kernel
theorem dX5_laysOrder_100 : decode cX5_laysOrder 100 = .ok (.iconst 0, 1) := by decide +kernel
theorem dX5_laysOrder_101 : decode cX5_laysOrder 101 = .ok (.ireturn, 1) := by decide +kernel
theorem dX5_findsOrder_0 : decode cX5_findsOrder 0 = .ok (.aload_n 0, 1) := by decide +kernel
theorem dX5_findsOrder_1 : decode cX5_findsOrder 1 = .ok (.invokevirtual 71, 3) := by decide +kernel
theorem dX5_findsOrder_4 : decode cX5_findsOrder 4 = .ok (.iconst 1, 1) := by decide +kernel
theorem dX5_findsOrder_5 : decode cX5_findsOrder 5 = .ok (.istore_n 1, 1) := by decide +kernel
theorem dX5_findsOrder_6 : decode cX5_findsOrder 6 = .ok (.iconst 0, 1) := by decide +kernel
theorem dX5_findsOrder_7 : decode cX5_findsOrder 7 = .ok (.istore_n 2, 1) := by decide +kernel
theorem dX5_findsOrder_8 : decode cX5_findsOrder 8 = .ok (.iload_n 2, 1) := by decide +kernel
theorem dX5_findsOrder_9 : decode cX5_findsOrder 9 = .ok (.bipush 6, 2) := by decide +kernel
theorem dX5_findsOrder_11 : decode cX5_findsOrder 11 = .ok (.if_icmp .ge 47, 3) := by decide +kernel
theorem dX5_findsOrder_14 : decode cX5_findsOrder 14 = .ok (.aload_n 0, 1) := by decide +kernel
theorem dX5_findsOrder_15 : decode cX5_findsOrder 15 = .ok (.getfield 28, 3) := by decide +kernel
theorem dX5_findsOrder_18 : decode cX5_findsOrder 18 = .ok (.iload_n 2, 1) := by decide +kernel
theorem dX5_findsOrder_19 : decode cX5_findsOrder 19 = .ok (.aload_n 0, 1) := by decide +kernel
theorem dX5_findsOrder_20 : decode cX5_findsOrder 20 = .ok (.getfield 7, 3) := by decide +kernel
theorem dX5_findsOrder_23 : decode cX5_findsOrder 23 = .ok (.bipush 7, 2) := by decide +kernel
theorem dX5_findsOrder_25 : decode cX5_findsOrder 25 = .ok (.iload_n 2, 1) := by decide +kernel
theorem dX5_findsOrder_26 : decode cX5_findsOrder 26 = .ok (.iadd, 1) := by decide +kernel
theorem dX5_findsOrder_27 : decode cX5_findsOrder 27 = .ok (.iaload, 1) := by decide +kernel
theorem dX5_findsOrder_28 : decode cX5_findsOrder 28 = .ok (.iastore, 1) := by decide +kernel
theorem dX5_findsOrder_29 : decode cX5_findsOrder 29 = .ok (.iload_n 1, 1) := by decide +kernel
theorem dX5_findsOrder_30 : decode cX5_findsOrder 30 = .ok (.iload_n 2, 1) := by decide +kernel
theorem dX5_findsOrder_31 : decode cX5_findsOrder 31 = .ok (.aload_n 0, 1) := by decide +kernel
theorem dX5_findsOrder_32 : decode cX5_findsOrder 32 = .ok (.getfield 7, 3) := by decide +kernel
theorem dX5_findsOrder_35 : decode cX5_findsOrder 35 = .ok (.iconst 1, 1) := by decide +kernel
theorem dX5_findsOrder_36 : decode cX5_findsOrder 36 = .ok (.iaload, 1) := by decide +kernel
theorem dX5_findsOrder_37 : decode cX5_findsOrder 37 = .ok (.if_icmp .ge 12, 3) := by decide +kernel
theorem dX5_findsOrder_40 : decode cX5_findsOrder 40 = .ok (.aload_n 0, 1) := by decide +kernel
theorem dX5_findsOrder_41 : decode cX5_findsOrder 41 = .ok (.getfield 7, 3) := by decide +kernel
theorem dX5_findsOrder_44 : decode cX5_findsOrder 44 = .ok (.iconst 0, 1) := by decide +kernel
theorem dX5_findsOrder_45 : decode cX5_findsOrder 45 = .ok (.iaload, 1) := by decide +kernel
theorem dX5_findsOrder_46 : decode cX5_findsOrder 46 = .ok (.goto 4, 3) := by decide +kernel
theorem dX5_findsOrder_49 : decode cX5_findsOrder 49 = .ok (.iconst 1, 1) := by decide +kernel
theorem dX5_findsOrder_50 : decode cX5_findsOrder 50 = .ok (.imul, 1) := by decide +kernel
theorem dX5_findsOrder_51 : decode cX5_findsOrder 51 = .ok (.istore_n 1, 1) := by decide +kernel
theorem dX5_findsOrder_52 : decode cX5_findsOrder 52 = .ok (.iinc 2 1, 3) := by decide +kernel
theorem dX5_findsOrder_55 : decode cX5_findsOrder 55 = .ok (.goto (-47), 3) := by decide +kernel
theorem dX5_findsOrder_58 : decode cX5_findsOrder 58 = .ok (.iconst (-1), 1) := by decide +kernel
theorem dX5_findsOrder_59 : decode cX5_findsOrder 59 = .ok (.istore_n 2, 1) := by decide +kernel
theorem dX5_findsOrder_60 : decode cX5_findsOrder 60 = .ok (.iconst 0, 1) := by decide +kernel
theorem dX5_findsOrder_61 : decode cX5_findsOrder 61 = .ok (.istore_n 3, 1) := by decide +kernel
theorem dX5_findsOrder_62 : decode cX5_findsOrder 62 = .ok (.iload_n 3, 1) := by decide +kernel
theorem dX5_findsOrder_63 : decode cX5_findsOrder 63 = .ok (.iload_n 1, 1) := by decide +kernel
theorem dX5_findsOrder_64 : decode cX5_findsOrder 64 = .ok (.if_icmp .ge 78, 3) := by decide +kernel
theorem dX5_findsOrder_67 : decode cX5_findsOrder 67 = .ok (.aload_n 0, 1) := by decide +kernel
theorem dX5_findsOrder_68 : decode cX5_findsOrder 68 = .ok (.iload_n 3, 1) := by decide +kernel
theorem dX5_findsOrder_69 : decode cX5_findsOrder 69 = .ok (.invokevirtual 115, 3) := by decide +kernel
theorem dX5_findsOrder_72 : decode cX5_findsOrder 72 = .ok (.ifCond .eq 10, 3) := by decide +kernel
theorem dX5_findsOrder_75 : decode cX5_findsOrder 75 = .ok (.aload_n 0, 1) := by decide +kernel
theorem dX5_findsOrder_76 : decode cX5_findsOrder 76 = .ok (.invokevirtual 74, 3) := by decide +kernel
theorem dX5_findsOrder_79 : decode cX5_findsOrder 79 = .ok (.goto 4, 3) := by decide +kernel
theorem dX5_findsOrder_82 : decode cX5_findsOrder 82 = .ok (.iconst (-1), 1) := by decide +kernel
theorem dX5_findsOrder_83 : decode cX5_findsOrder 83 = .ok (.istore 4, 2) := by decide +kernel
theorem dX5_findsOrder_85 : decode cX5_findsOrder 85 = .ok (.iload 4, 2) := by decide +kernel
theorem dX5_findsOrder_87 : decode cX5_findsOrder 87 = .ok (.ifCond .lt 49, 3) := by decide +kernel
theorem dX5_findsOrder_90 : decode cX5_findsOrder 90 = .ok (.iload_n 2, 1) := by decide +kernel
theorem dX5_findsOrder_91 : decode cX5_findsOrder 91 = .ok (.ifCond .lt 9, 3) := by decide +kernel
theorem dX5_findsOrder_94 : decode cX5_findsOrder 94 = .ok (.iload 4, 2) := by decide +kernel
theorem dX5_findsOrder_96 : decode cX5_findsOrder 96 = .ok (.iload_n 2, 1) := by decide +kernel
theorem dX5_findsOrder_97 : decode cX5_findsOrder 97 = .ok (.if_icmp .ge 39, 3) := by decide +kernel
theorem dX5_findsOrder_100 : decode cX5_findsOrder 100 = .ok (.iload 4, 2) := by decide +kernel
theorem dX5_findsOrder_102 : decode cX5_findsOrder 102 = .ok (.istore_n 2, 1) := by decide +kernel
theorem dX5_findsOrder_103 : decode cX5_findsOrder 103 = .ok (.iconst 0, 1) := by decide +kernel
theorem dX5_findsOrder_104 : decode cX5_findsOrder 104 = .ok (.istore 5, 2) := by decide +kernel
theorem dX5_findsOrder_106 : decode cX5_findsOrder 106 = .ok (.iload 5, 2) := by decide +kernel
theorem dX5_findsOrder_108 : decode cX5_findsOrder 108 = .ok (.bipush 6, 2) := by decide +kernel
theorem dX5_findsOrder_110 : decode cX5_findsOrder 110 = .ok (.if_icmp .ge 26, 3) := by decide +kernel
theorem dX5_findsOrder_113 : decode cX5_findsOrder 113 = .ok (.aload_n 0, 1) := by decide +kernel
theorem dX5_findsOrder_114 : decode cX5_findsOrder 114 = .ok (.getfield 25, 3) := by decide +kernel
theorem dX5_findsOrder_117 : decode cX5_findsOrder 117 = .ok (.iload 5, 2) := by decide +kernel
theorem dX5_findsOrder_119 : decode cX5_findsOrder 119 = .ok (.aload_n 0, 1) := by decide +kernel
theorem dX5_findsOrder_120 : decode cX5_findsOrder 120 = .ok (.getfield 7, 3) := by decide +kernel
theorem dX5_findsOrder_123 : decode cX5_findsOrder 123 = .ok (.bipush 7, 2) := by decide +kernel
theorem dX5_findsOrder_125 : decode cX5_findsOrder 125 = .ok (.iload 5, 2) := by decide +kernel
theorem dX5_findsOrder_127 : decode cX5_findsOrder 127 = .ok (.iadd, 1) := by decide +kernel
theorem dX5_findsOrder_128 : decode cX5_findsOrder 128 = .ok (.iaload, 1) := by decide +kernel
theorem dX5_findsOrder_129 : decode cX5_findsOrder 129 = .ok (.iastore, 1) := by decide +kernel
theorem dX5_findsOrder_130 : decode cX5_findsOrder 130 = .ok (.iinc 5 1, 3) := by decide +kernel
theorem dX5_findsOrder_133 : decode cX5_findsOrder 133 = .ok (.goto (-27), 3) := by decide +kernel
theorem dX5_findsOrder_136 : decode cX5_findsOrder 136 = .ok (.iinc 3 1, 3) := by decide +kernel
theorem dX5_findsOrder_139 : decode cX5_findsOrder 139 = .ok (.goto (-77), 3) := by decide +kernel
theorem dX5_findsOrder_142 : decode cX5_findsOrder 142 = .ok (.iconst 0, 1) := by decide +kernel
theorem dX5_findsOrder_143 : decode cX5_findsOrder 143 = .ok (.istore_n 3, 1) := by decide +kernel
theorem dX5_findsOrder_144 : decode cX5_findsOrder 144 = .ok (.iload_n 3, 1) := by decide +kernel
theorem dX5_findsOrder_145 : decode cX5_findsOrder 145 = .ok (.bipush 6, 2) := by decide +kernel
theorem dX5_findsOrder_147 : decode cX5_findsOrder 147 = .ok (.if_icmp .ge 24, 3) := by decide +kernel
theorem dX5_findsOrder_150 : decode cX5_findsOrder 150 = .ok (.aload_n 0, 1) := by decide +kernel
theorem dX5_findsOrder_151 : decode cX5_findsOrder 151 = .ok (.getfield 7, 3) := by decide +kernel
theorem dX5_findsOrder_154 : decode cX5_findsOrder 154 = .ok (.bipush 7, 2) := by decide +kernel
theorem dX5_findsOrder_156 : decode cX5_findsOrder 156 = .ok (.iload_n 3, 1) := by decide +kernel
theorem dX5_findsOrder_157 : decode cX5_findsOrder 157 = .ok (.iadd, 1) := by decide +kernel
theorem dX5_findsOrder_158 : decode cX5_findsOrder 158 = .ok (.aload_n 0, 1) := by decide +kernel
theorem dX5_findsOrder_159 : decode cX5_findsOrder 159 = .ok (.getfield 28, 3) := by decide +kernel
theorem dX5_findsOrder_162 : decode cX5_findsOrder 162 = .ok (.iload_n 3, 1) := by decide +kernel
theorem dX5_findsOrder_163 : decode cX5_findsOrder 163 = .ok (.iaload, 1) := by decide +kernel
theorem dX5_findsOrder_164 : decode cX5_findsOrder 164 = .ok (.iastore, 1) := by decide +kernel
theorem dX5_findsOrder_165 : decode cX5_findsOrder 165 = .ok (.iinc 3 1, 3) := by decide +kernel
theorem dX5_findsOrder_168 : decode cX5_findsOrder 168 = .ok (.goto (-24), 3) := by decide +kernel
theorem dX5_findsOrder_171 : decode cX5_findsOrder 171 = .ok (.return_, 1) := by decide +kernel
theorem dX5_order_0 : decode cX5_order 0 = .ok (.aload_n 0, 1) := by decide +kernel
theorem dX5_order_1 : decode cX5_order 1 = .ok (.invokevirtual 118, 3) := by decide +kernel
theorem dX5_order_4 : decode cX5_order 4 = .ok (.iconst 1, 1) := by decide +kernel
theorem dX5_order_5 : decode cX5_order 5 = .ok (.istore_n 1, 1) := by decide +kernel
theorem dX5_order_6 : decode cX5_order 6 = .ok (.iconst 0, 1) := by decide +kernel
theorem dX5_order_7 : decode cX5_order 7 = .ok (.istore_n 2, 1) := by decide +kernel
theorem dX5_order_8 : decode cX5_order 8 = .ok (.iload_n 2, 1) := by decide +kernel
theorem dX5_order_9 : decode cX5_order 9 = .ok (.aload_n 0, 1) := by decide +kernel
theorem dX5_order_10 : decode cX5_order 10 = .ok (.getfield 7, 3) := by decide +kernel
theorem dX5_order_13 : decode cX5_order 13 = .ok (.iconst 1, 1) := by decide +kernel
theorem dX5_order_14 : decode cX5_order 14 = .ok (.iaload, 1) := by decide +kernel
theorem dX5_order_15 : decode cX5_order 15 = .ok (.if_icmp .ge 37, 3) := by decide +kernel
theorem dX5_order_18 : decode cX5_order 18 = .ok (.iload_n 1, 1) := by decide +kernel
theorem dX5_order_19 : decode cX5_order 19 = .ok (.ifCond .eq 25, 3) := by decide +kernel
theorem dX5_order_22 : decode cX5_order 22 = .ok (.aload_n 0, 1) := by decide +kernel
theorem dX5_order_23 : decode cX5_order 23 = .ok (.getfield 25, 3) := by decide +kernel
theorem dX5_order_26 : decode cX5_order 26 = .ok (.iload_n 2, 1) := by decide +kernel
theorem dX5_order_27 : decode cX5_order 27 = .ok (.iaload, 1) := by decide +kernel
theorem dX5_order_28 : decode cX5_order 28 = .ok (.aload_n 0, 1) := by decide +kernel
theorem dX5_order_29 : decode cX5_order 29 = .ok (.getfield 7, 3) := by decide +kernel
theorem dX5_order_32 : decode cX5_order 32 = .ok (.bipush 7, 2) := by decide +kernel
theorem dX5_order_34 : decode cX5_order 34 = .ok (.iload_n 2, 1) := by decide +kernel
theorem dX5_order_35 : decode cX5_order 35 = .ok (.iadd, 1) := by decide +kernel
theorem dX5_order_36 : decode cX5_order 36 = .ok (.iaload, 1) := by decide +kernel
theorem dX5_order_37 : decode cX5_order 37 = .ok (.if_icmp .ne 7, 3) := by decide +kernel
theorem dX5_order_40 : decode cX5_order 40 = .ok (.iconst 1, 1) := by decide +kernel
theorem dX5_order_41 : decode cX5_order 41 = .ok (.goto 4, 3) := by decide +kernel
theorem dX5_order_44 : decode cX5_order 44 = .ok (.iconst 0, 1) := by decide +kernel
theorem dX5_order_45 : decode cX5_order 45 = .ok (.istore_n 1, 1) := by decide +kernel
theorem dX5_order_46 : decode cX5_order 46 = .ok (.iinc 2 1, 3) := by decide +kernel
theorem dX5_order_49 : decode cX5_order 49 = .ok (.goto (-41), 3) := by decide +kernel
theorem dX5_order_52 : decode cX5_order 52 = .ok (.iload_n 1, 1) := by decide +kernel
theorem dX5_order_53 : decode cX5_order 53 = .ok (.ifCond .eq 6, 3) := by decide +kernel
theorem dX5_order_56 : decode cX5_order 56 = .ok (.bipush (-105), 2) := by decide +kernel
theorem dX5_order_58 : decode cX5_order 58 = .ok (.ireturn, 1) := by decide +kernel
theorem dX5_order_59 : decode cX5_order 59 = .ok (.aload_n 0, 1) := by decide +kernel
theorem dX5_order_60 : decode cX5_order 60 = .ok (.invokevirtual 94, 3) := by decide +kernel
theorem dX5_order_63 : decode cX5_order 63 = .ok (.iconst 0, 1) := by decide +kernel
theorem dX5_order_64 : decode cX5_order 64 = .ok (.istore_n 2, 1) := by decide +kernel
theorem dX5_order_65 : decode cX5_order 65 = .ok (.iload_n 2, 1) := by decide +kernel
theorem dX5_order_66 : decode cX5_order 66 = .ok (.aload_n 0, 1) := by decide +kernel
theorem dX5_order_67 : decode cX5_order 67 = .ok (.getfield 7, 3) := by decide +kernel
theorem dX5_order_70 : decode cX5_order 70 = .ok (.iconst 1, 1) := by decide +kernel
theorem dX5_order_71 : decode cX5_order 71 = .ok (.iaload, 1) := by decide +kernel
theorem dX5_order_72 : decode cX5_order 72 = .ok (.if_icmp .ge 24, 3) := by decide +kernel
theorem dX5_order_75 : decode cX5_order 75 = .ok (.aload_n 0, 1) := by decide +kernel
theorem dX5_order_76 : decode cX5_order 76 = .ok (.getfield 7, 3) := by decide +kernel
theorem dX5_order_79 : decode cX5_order 79 = .ok (.bipush 7, 2) := by decide +kernel
theorem dX5_order_81 : decode cX5_order 81 = .ok (.iload_n 2, 1) := by decide +kernel
theorem dX5_order_82 : decode cX5_order 82 = .ok (.iadd, 1) := by decide +kernel
theorem dX5_order_83 : decode cX5_order 83 = .ok (.aload_n 0, 1) := by decide +kernel
theorem dX5_order_84 : decode cX5_order 84 = .ok (.getfield 25, 3) := by decide +kernel
theorem dX5_order_87 : decode cX5_order 87 = .ok (.iload_n 2, 1) := by decide +kernel
theorem dX5_order_88 : decode cX5_order 88 = .ok (.iaload, 1) := by decide +kernel
theorem dX5_order_89 : decode cX5_order 89 = .ok (.iastore, 1) := by decide +kernel
theorem dX5_order_90 : decode cX5_order 90 = .ok (.iinc 2 1, 3) := by decide +kernel
theorem dX5_order_93 : decode cX5_order 93 = .ok (.goto (-28), 3) := by decide +kernel
theorem dX5_order_96 : decode cX5_order 96 = .ok (.aload_n 0, 1) := by decide +kernel
theorem dX5_order_97 : decode cX5_order 97 = .ok (.aload_n 0, 1) := by decide +kernel
theorem dX5_order_98 : decode cX5_order 98 = .ok (.invokevirtual 121, 3) := by decide +kernel
theorem dX5_order_101 : decode cX5_order 101 = .ok (.invokevirtual 97, 3) := by decide +kernel
theorem dX5_order_104 : decode cX5_order 104 = .ok (.ireturn, 1) := by decide +kernel
theorem dX5_press_0 : decode cX5_press 0 = .ok (.iload_n 1, 1) := by decide +kernel
theorem dX5_press_1 : decode cX5_press 1 = .ok (.i2l, 1) := by decide +kernel
theorem dX5_press_2 : decode cX5_press 2 = .ok (.lconst 1, 1) := by decide +kernel
theorem dX5_press_3 : decode cX5_press 3 = .ok (.ldc2_w 124, 3) := by decide +kernel
theorem dX5_press_6 : decode cX5_press 6 = .ok (.invokestatic 41, 3) := by decide +kernel
theorem dX5_press_9 : decode cX5_press 9 = .ok (.ifCond .ne 6, 3) := by decide +kernel
theorem dX5_press_12 : decode cX5_press 12 = .ok (.bipush (-102), 2) := by decide +kernel
theorem dX5_press_14 : decode cX5_press 14 = .ok (.ireturn, 1) := by decide +kernel
theorem dX5_press_15 : decode cX5_press 15 = .ok (.aload_n 0, 1) := by decide +kernel
theorem dX5_press_16 : decode cX5_press 16 = .ok (.getfield 7, 3) := by decide +kernel
theorem dX5_press_19 : decode cX5_press 19 = .ok (.iconst 4, 1) := by decide +kernel
theorem dX5_press_20 : decode cX5_press 20 = .ok (.iaload, 1) := by decide +kernel
theorem dX5_press_21 : decode cX5_press 21 = .ok (.iload_n 1, 1) := by decide +kernel
theorem dX5_press_22 : decode cX5_press 22 = .ok (.iadd, 1) := by decide +kernel
theorem dX5_press_23 : decode cX5_press 23 = .ok (.ldc 126, 2) := by decide +kernel
theorem dX5_press_25 : decode cX5_press 25 = .ok (.if_icmp .le 6, 3) := by decide +kernel
theorem dX5_press_28 : decode cX5_press 28 = .ok (.bipush (-103), 2) := by decide +kernel
theorem dX5_press_30 : decode cX5_press 30 = .ok (.ireturn, 1) := by decide +kernel
theorem dX5_press_31 : decode cX5_press 31 = .ok (.aload_n 0, 1) := by decide +kernel
theorem dX5_press_32 : decode cX5_press 32 = .ok (.invokevirtual 94, 3) := by decide +kernel
theorem dX5_press_35 : decode cX5_press 35 = .ok (.aload_n 0, 1) := by decide +kernel
theorem dX5_press_36 : decode cX5_press 36 = .ok (.iconst 1, 1) := by decide +kernel
theorem dX5_press_37 : decode cX5_press 37 = .ok (.invokevirtual 127, 3) := by decide +kernel
theorem dX5_press_40 : decode cX5_press 40 = .ok (.aload_n 0, 1) := by decide +kernel
theorem dX5_press_41 : decode cX5_press 41 = .ok (.getfield 7, 3) := by decide +kernel
theorem dX5_press_44 : decode cX5_press 44 = .ok (.iconst 0, 1) := by decide +kernel
theorem dX5_press_45 : decode cX5_press 45 = .ok (.iaload, 1) := by decide +kernel
theorem dX5_press_46 : decode cX5_press 46 = .ok (.if_icmp .ne 7, 3) := by decide +kernel
theorem dX5_press_49 : decode cX5_press 49 = .ok (.iload_n 1, 1) := by decide +kernel
theorem dX5_press_50 : decode cX5_press 50 = .ok (.goto 4, 3) := by decide +kernel
theorem dX5_press_53 : decode cX5_press 53 = .ok (.iconst 0, 1) := by decide +kernel
theorem dX5_press_54 : decode cX5_press 54 = .ok (.istore_n 2, 1) := by decide +kernel
theorem dX5_press_55 : decode cX5_press 55 = .ok (.aload_n 0, 1) := by decide +kernel
theorem dX5_press_56 : decode cX5_press 56 = .ok (.getfield 7, 3) := by decide +kernel
theorem dX5_press_59 : decode cX5_press 59 = .ok (.iconst 4, 1) := by decide +kernel
theorem dX5_press_60 : decode cX5_press 60 = .ok (.dup2, 1) := by decide +kernel
theorem dX5_press_61 : decode cX5_press 61 = .ok (.iaload, 1) := by decide +kernel
theorem dX5_press_62 : decode cX5_press 62 = .ok (.iload_n 1, 1) := by decide +kernel
theorem dX5_press_63 : decode cX5_press 63 = .ok (.iadd, 1) := by decide +kernel
theorem dX5_press_64 : decode cX5_press 64 = .ok (.iastore, 1) := by decide +kernel
theorem dX5_press_65 : decode cX5_press 65 = .ok (.aload_n 0, 1) := by decide +kernel
theorem dX5_press_66 : decode cX5_press 66 = .ok (.getfield 7, 3) := by decide +kernel
theorem dX5_press_69 : decode cX5_press 69 = .ok (.iconst 5, 1) := by decide +kernel
theorem dX5_press_70 : decode cX5_press 70 = .ok (.dup2, 1) := by decide +kernel
theorem dX5_press_71 : decode cX5_press 71 = .ok (.iaload, 1) := by decide +kernel
theorem dX5_press_72 : decode cX5_press 72 = .ok (.iload_n 2, 1) := by decide +kernel
theorem dX5_press_73 : decode cX5_press 73 = .ok (.iadd, 1) := by decide +kernel
theorem dX5_press_74 : decode cX5_press 74 = .ok (.iastore, 1) := by decide +kernel
theorem dX5_press_75 : decode cX5_press 75 = .ok (.aload_n 0, 1) := by decide +kernel
theorem dX5_press_76 : decode cX5_press 76 = .ok (.getfield 7, 3) := by decide +kernel
theorem dX5_press_79 : decode cX5_press 79 = .ok (.bipush 6, 2) := by decide +kernel
theorem dX5_press_81 : decode cX5_press 81 = .ok (.dup2, 1) := by decide +kernel
theorem dX5_press_82 : decode cX5_press 82 = .ok (.iaload, 1) := by decide +kernel
theorem dX5_press_83 : decode cX5_press 83 = .ok (.iload_n 1, 1) := by decide +kernel
theorem dX5_press_84 : decode cX5_press 84 = .ok (.iconst 3, 1) := by decide +kernel
theorem dX5_press_85 : decode cX5_press 85 = .ok (.aload_n 0, 1) := by decide +kernel
theorem dX5_press_86 : decode cX5_press 86 = .ok (.getfield 7, 3) := by decide +kernel
theorem dX5_press_89 : decode cX5_press 89 = .ok (.iconst 1, 1) := by decide +kernel
theorem dX5_press_90 : decode cX5_press 90 = .ok (.iaload, 1) := by decide +kernel
theorem dX5_press_91 : decode cX5_press 91 = .ok (.iadd, 1) := by decide +kernel
theorem dX5_press_92 : decode cX5_press 92 = .ok (.imul, 1) := by decide +kernel
theorem dX5_press_93 : decode cX5_press 93 = .ok (.iadd, 1) := by decide +kernel
theorem dX5_press_94 : decode cX5_press 94 = .ok (.iastore, 1) := by decide +kernel
theorem dX5_press_95 : decode cX5_press 95 = .ok (.aload_n 0, 1) := by decide +kernel
theorem dX5_press_96 : decode cX5_press 96 = .ok (.iload_n 2, 1) := by decide +kernel
theorem dX5_press_97 : decode cX5_press 97 = .ok (.invokevirtual 97, 3) := by decide +kernel
theorem dX5_press_100 : decode cX5_press 100 = .ok (.ireturn, 1) := by decide +kernel
theorem dX5_type_0 : decode cX5_type 0 = .ok (.aload_n 0, 1) := by decide +kernel
theorem dX5_type_1 : decode cX5_type 1 = .ok (.getfield 131, 3) := by decide +kernel
theorem dX5_type_4 : decode cX5_type 4 = .ok (.bipush 80, 2) := by decide +kernel
theorem dX5_type_6 : decode cX5_type 6 = .ok (.if_icmp .ne 6, 3) := by decide +kernel
theorem dX5_type_9 : decode cX5_type 9 = .ok (.bipush (-103), 2) := by decide +kernel
theorem dX5_type_11 : decode cX5_type 11 = .ok (.ireturn, 1) := by decide +kernel
theorem dX5_type_12 : decode cX5_type 12 = .ok (.aload_n 0, 1) := by decide +kernel
theorem dX5_type_13 : decode cX5_type 13 = .ok (.getfield 31, 3) := by decide +kernel
theorem dX5_type_16 : decode cX5_type 16 = .ok (.aload_n 0, 1) := by decide +kernel
theorem dX5_type_17 : decode cX5_type 17 = .ok (.getfield 131, 3) := by decide +kernel
theorem dX5_type_20 : decode cX5_type 20 = .ok (.iload_n 1, 1) := by decide +kernel
theorem dX5_type_21 : decode cX5_type 21 = .ok (.iastore, 1) := by decide +kernel
theorem dX5_type_22 : decode cX5_type 22 = .ok (.aload_n 0, 1) := by decide +kernel
theorem dX5_type_23 : decode cX5_type 23 = .ok (.dup, 1) := by decide +kernel
theorem dX5_type_24 : decode cX5_type 24 = .ok (.getfield 131, 3) := by decide +kernel
theorem dX5_type_27 : decode cX5_type 27 = .ok (.iconst 1, 1) := by decide +kernel
theorem dX5_type_28 : decode cX5_type 28 = .ok (.iadd, 1) := by decide +kernel
theorem dX5_type_29 : decode cX5_type 29 = .ok (.putfield 131, 3) := by decide +kernel
theorem dX5_type_32 : decode cX5_type 32 = .ok (.aload_n 0, 1) := by decide +kernel
theorem dX5_type_33 : decode cX5_type 33 = .ok (.getfield 131, 3) := by decide +kernel
theorem dX5_type_36 : decode cX5_type 36 = .ok (.ireturn, 1) := by decide +kernel
theorem dX5_clearText_0 : decode cX5_clearText 0 = .ok (.aload_n 0, 1) := by decide +kernel
theorem dX5_clearText_1 : decode cX5_clearText 1 = .ok (.getfield 131, 3) := by decide +kernel
theorem dX5_clearText_4 : decode cX5_clearText 4 = .ok (.istore_n 1, 1) := by decide +kernel
theorem dX5_clearText_5 : decode cX5_clearText 5 = .ok (.aload_n 0, 1) := by decide +kernel
theorem dX5_clearText_6 : decode cX5_clearText 6 = .ok (.iconst 0, 1) := by decide +kernel
theorem dX5_clearText_7 : decode cX5_clearText 7 = .ok (.putfield 131, 3) := by decide +kernel
theorem dX5_clearText_10 : decode cX5_clearText 10 = .ok (.iload_n 1, 1) := by decide +kernel
theorem dX5_clearText_11 : decode cX5_clearText 11 = .ok (.ireturn, 1) := by decide +kernel
theorem dX5_isHere_0 : decode cX5_isHere 0 = .ok (.aload_n 0, 1) := by decide +kernel
theorem dX5_isHere_1 : decode cX5_isHere 1 = .ok (.getfield 134, 3) := by decide +kernel
theorem dX5_isHere_4 : decode cX5_isHere 4 = .ok (.aload_n 0, 1) := by decide +kernel
theorem dX5_isHere_5 : decode cX5_isHere 5 = .ok (.getfield 131, 3) := by decide +kernel
theorem dX5_isHere_8 : decode cX5_isHere 8 = .ok (.if_icmp .ge 27, 3) := by decide +kernel
theorem dX5_isHere_11 : decode cX5_isHere 11 = .ok (.aload_n 0, 1) := by decide +kernel
theorem dX5_isHere_12 : decode cX5_isHere 12 = .ok (.getfield 31, 3) := by decide +kernel
theorem dX5_isHere_15 : decode cX5_isHere 15 = .ok (.aload_n 0, 1) := by decide +kernel
theorem dX5_isHere_16 : decode cX5_isHere 16 = .ok (.getfield 134, 3) := by decide +kernel
theorem dX5_isHere_19 : decode cX5_isHere 19 = .ok (.iaload, 1) := by decide +kernel
theorem dX5_isHere_20 : decode cX5_isHere 20 = .ok (.i2l, 1) := by decide +kernel
theorem dX5_isHere_21 : decode cX5_isHere 21 = .ok (.iload_n 1, 1) := by decide +kernel
theorem dX5_isHere_22 : decode cX5_isHere 22 = .ok (.i2l, 1) := by decide +kernel
theorem dX5_isHere_23 : decode cX5_isHere 23 = .ok (.iload_n 2, 1) := by decide +kernel
theorem dX5_isHere_24 : decode cX5_isHere 24 = .ok (.i2l, 1) := by decide +kernel
theorem dX5_isHere_25 : decode cX5_isHere 25 = .ok (.invokestatic 41, 3) := by decide +kernel
theorem dX5_isHere_28 : decode cX5_isHere 28 = .ok (.ifCond .eq 7, 3) := by decide +kernel
theorem dX5_isHere_31 : decode cX5_isHere 31 = .ok (.iconst 1, 1) := by decide +kernel
theorem dX5_isHere_32 : decode cX5_isHere 32 = .ok (.goto 4, 3) := by decide +kernel
theorem dX5_isHere_35 : decode cX5_isHere 35 = .ok (.iconst 0, 1) := by decide +kernel
theorem dX5_isHere_36 : decode cX5_isHere 36 = .ok (.ireturn, 1) := by decide +kernel
theorem dX5_takes_0 : decode cX5_takes 0 = .ok (.aload_n 0, 1) := by decide +kernel
theorem dX5_takes_1 : decode cX5_takes 1 = .ok (.iload_n 1, 1) := by decide +kernel
theorem dX5_takes_2 : decode cX5_takes 2 = .ok (.iload_n 1, 1) := by decide +kernel
theorem dX5_takes_3 : decode cX5_takes 3 = .ok (.invokevirtual 137, 3) := by decide +kernel
theorem dX5_takes_6 : decode cX5_takes 6 = .ok (.istore_n 2, 1) := by decide +kernel
theorem dX5_takes_7 : decode cX5_takes 7 = .ok (.aload_n 0, 1) := by decide +kernel
theorem dX5_takes_8 : decode cX5_takes 8 = .ok (.dup, 1) := by decide +kernel
theorem dX5_takes_9 : decode cX5_takes 9 = .ok (.getfield 134, 3) := by decide +kernel
theorem dX5_takes_12 : decode cX5_takes 12 = .ok (.iload_n 2, 1) := by decide +kernel
theorem dX5_takes_13 : decode cX5_takes 13 = .ok (.ifCond .eq 7, 3) := by decide +kernel
theorem dX5_takes_16 : decode cX5_takes 16 = .ok (.iconst 1, 1) := by decide +kernel
theorem dX5_takes_17 : decode cX5_takes 17 = .ok (.goto 4, 3) := by decide +kernel
theorem dX5_takes_20 : decode cX5_takes 20 = .ok (.iconst 0, 1) := by decide +kernel
theorem dX5_takes_21 : decode cX5_takes 21 = .ok (.iadd, 1) := by decide +kernel
theorem dX5_takes_22 : decode cX5_takes 22 = .ok (.putfield 134, 3) := by decide +kernel
theorem dX5_takes_25 : decode cX5_takes 25 = .ok (.iload_n 2, 1) := by decide +kernel
theorem dX5_takes_26 : decode cX5_takes 26 = .ok (.ireturn, 1) := by decide +kernel
theorem dX5_readsDigits_0 : decode cX5_readsDigits 0 = .ok (.iconst 0, 1) := by decide +kernel
theorem dX5_readsDigits_1 : decode cX5_readsDigits 1 = .ok (.istore_n 3, 1) := by decide +kernel
theorem dX5_readsDigits_2 : decode cX5_readsDigits 2 = .ok (.iload_n 3, 1) := by decide +kernel
theorem dX5_readsDigits_3 : decode cX5_readsDigits 3 = .ok (.iload_n 1, 1) := by decide +kernel
theorem dX5_readsDigits_4 : decode cX5_readsDigits 4 = .ok (.if_icmp .ge 34, 3) := by decide +kernel
theorem dX5_readsDigits_7 : decode cX5_readsDigits 7 = .ok (.aload_n 0, 1) := by decide +kernel
theorem dX5_readsDigits_8 : decode cX5_readsDigits 8 = .ok (.bipush 48, 2) := by decide +kernel
theorem dX5_readsDigits_10 : decode cX5_readsDigits 10 = .ok (.bipush 48, 2) := by decide +kernel
theorem dX5_readsDigits_12 : decode cX5_readsDigits 12 = .ok (.iload_n 2, 1) := by decide +kernel
theorem dX5_readsDigits_13 : decode cX5_readsDigits 13 = .ok (.iadd, 1) := by decide +kernel
theorem dX5_readsDigits_14 : decode cX5_readsDigits 14 = .ok (.iconst 1, 1) := by decide +kernel
theorem dX5_readsDigits_15 : decode cX5_readsDigits 15 = .ok (.isub, 1) := by decide +kernel
theorem dX5_readsDigits_16 : decode cX5_readsDigits 16 = .ok (.invokevirtual 137, 3) := by decide +kernel
theorem dX5_readsDigits_19 : decode cX5_readsDigits 19 = .ok (.ifCond .eq 19, 3) := by decide +kernel
theorem dX5_readsDigits_22 : decode cX5_readsDigits 22 = .ok (.aload_n 0, 1) := by decide +kernel
theorem dX5_readsDigits_23 : decode cX5_readsDigits 23 = .ok (.dup, 1) := by decide +kernel
theorem dX5_readsDigits_24 : decode cX5_readsDigits 24 = .ok (.getfield 134, 3) := by decide +kernel
theorem dX5_readsDigits_27 : decode cX5_readsDigits 27 = .ok (.iconst 1, 1) := by decide +kernel
theorem dX5_readsDigits_28 : decode cX5_readsDigits 28 = .ok (.iadd, 1) := by decide +kernel
theorem dX5_readsDigits_29 : decode cX5_readsDigits 29 = .ok (.putfield 134, 3) := by decide +kernel
theorem dX5_readsDigits_32 : decode cX5_readsDigits 32 = .ok (.iinc 3 1, 3) := by decide +kernel
theorem dX5_readsDigits_35 : decode cX5_readsDigits 35 = .ok (.goto (-33), 3) := by decide +kernel
theorem dX5_readsDigits_38 : decode cX5_readsDigits 38 = .ok (.iload_n 3, 1) := by decide +kernel
theorem dX5_readsDigits_39 : decode cX5_readsDigits 39 = .ok (.ireturn, 1) := by decide +kernel
theorem dX5_fault_0 : decode cX5_fault 0 = .ok (.aload_n 0, 1) := by decide +kernel
theorem dX5_fault_1 : decode cX5_fault 1 = .ok (.iconst 0, 1) := by decide +kernel
theorem dX5_fault_2 : decode cX5_fault 2 = .ok (.putfield 134, 3) := by decide +kernel
theorem dX5_fault_5 : decode cX5_fault 5 = .ok (.aload_n 0, 1) := by decide +kernel
theorem dX5_fault_6 : decode cX5_fault 6 = .ok (.iconst 0, 1) := by decide +kernel
theorem dX5_fault_7 : decode cX5_fault 7 = .ok (.putfield 140, 3) := by decide +kernel
theorem dX5_fault_10 : decode cX5_fault 10 = .ok (.aload_n 0, 1) := by decide +kernel
theorem dX5_fault_11 : decode cX5_fault 11 = .ok (.bipush (-105), 2) := by decide +kernel
theorem dX5_fault_13 : decode cX5_fault 13 = .ok (.putfield 143, 3) := by decide +kernel
theorem dX5_fault_16 : decode cX5_fault 16 = .ok (.iconst 1, 1) := by decide +kernel
theorem dX5_fault_17 : decode cX5_fault 17 = .ok (.istore_n 1, 1) := by decide +kernel
theorem dX5_fault_18 : decode cX5_fault 18 = .ok (.iload_n 1, 1) := by decide +kernel
theorem dX5_fault_19 : decode cX5_fault 19 = .ok (.ifCond .eq 57, 3) := by decide +kernel
theorem dX5_fault_22 : decode cX5_fault 22 = .ok (.aload_n 0, 1) := by decide +kernel
theorem dX5_fault_23 : decode cX5_fault 23 = .ok (.bipush 12, 2) := by decide +kernel
theorem dX5_fault_25 : decode cX5_fault 25 = .ok (.bipush 10, 2) := by decide +kernel
theorem dX5_fault_27 : decode cX5_fault 27 = .ok (.invokevirtual 146, 3) := by decide +kernel
theorem dX5_fault_30 : decode cX5_fault 30 = .ok (.bipush 12, 2) := by decide +kernel
theorem dX5_fault_32 : decode cX5_fault 32 = .ok (.if_icmp .ge 8, 3) := by decide +kernel
theorem dX5_fault_35 : decode cX5_fault 35 = .ok (.aload_n 0, 1) := by decide +kernel
theorem dX5_fault_36 : decode cX5_fault 36 = .ok (.getfield 134, 3) := by decide +kernel
theorem dX5_fault_39 : decode cX5_fault 39 = .ok (.ireturn, 1) := by decide +kernel
theorem dX5_fault_40 : decode cX5_fault 40 = .ok (.aload_n 0, 1) := by decide +kernel
theorem dX5_fault_41 : decode cX5_fault 41 = .ok (.dup, 1) := by decide +kernel
theorem dX5_fault_42 : decode cX5_fault 42 = .ok (.getfield 140, 3) := by decide +kernel
theorem dX5_fault_45 : decode cX5_fault 45 = .ok (.iconst 1, 1) := by decide +kernel
theorem dX5_fault_46 : decode cX5_fault 46 = .ok (.iadd, 1) := by decide +kernel
theorem dX5_fault_47 : decode cX5_fault 47 = .ok (.putfield 140, 3) := by decide +kernel
theorem dX5_fault_50 : decode cX5_fault 50 = .ok (.aload_n 0, 1) := by decide +kernel
theorem dX5_fault_51 : decode cX5_fault 51 = .ok (.getfield 140, 3) := by decide +kernel
theorem dX5_fault_54 : decode cX5_fault 54 = .ok (.iconst 4, 1) := by decide +kernel
theorem dX5_fault_55 : decode cX5_fault 55 = .ok (.if_icmp .ge 16, 3) := by decide +kernel
theorem dX5_fault_58 : decode cX5_fault 58 = .ok (.aload_n 0, 1) := by decide +kernel
theorem dX5_fault_59 : decode cX5_fault 59 = .ok (.bipush 47, 2) := by decide +kernel
theorem dX5_fault_61 : decode cX5_fault 61 = .ok (.invokevirtual 149, 3) := by decide +kernel
theorem dX5_fault_64 : decode cX5_fault 64 = .ok (.ifCond .eq 7, 3) := by decide +kernel
theorem dX5_fault_67 : decode cX5_fault 67 = .ok (.iconst 1, 1) := by decide +kernel
theorem dX5_fault_68 : decode cX5_fault 68 = .ok (.goto 4, 3) := by decide +kernel
theorem dX5_fault_71 : decode cX5_fault 71 = .ok (.iconst 0, 1) := by decide +kernel
theorem dX5_fault_72 : decode cX5_fault 72 = .ok (.istore_n 1, 1) := by decide +kernel
theorem dX5_fault_73 : decode cX5_fault 73 = .ok (.goto (-55), 3) := by decide +kernel
theorem dX5_fault_76 : decode cX5_fault 76 = .ok (.aload_n 0, 1) := by decide +kernel
theorem dX5_fault_77 : decode cX5_fault 77 = .ok (.getfield 140, 3) := by decide +kernel
theorem dX5_fault_80 : decode cX5_fault 80 = .ok (.iconst 2, 1) := by decide +kernel
theorem dX5_fault_81 : decode cX5_fault 81 = .ok (.if_icmp .ge 8, 3) := by decide +kernel
theorem dX5_fault_84 : decode cX5_fault 84 = .ok (.aload_n 0, 1) := by decide +kernel
theorem dX5_fault_85 : decode cX5_fault 85 = .ok (.getfield 134, 3) := by decide +kernel
theorem dX5_fault_88 : decode cX5_fault 88 = .ok (.ireturn, 1) := by decide +kernel
theorem dX5_fault_89 : decode cX5_fault 89 = .ok (.aload_n 0, 1) := by decide +kernel
theorem dX5_fault_90 : decode cX5_fault 90 = .ok (.bipush 58, 2) := by decide +kernel
theorem dX5_fault_92 : decode cX5_fault 92 = .ok (.invokevirtual 149, 3) := by decide +kernel
theorem dX5_fault_95 : decode cX5_fault 95 = .ok (.ifCond .eq 38, 3) := by decide +kernel
theorem dX5_fault_98 : decode cX5_fault 98 = .ok (.aload_n 0, 1) := by decide +kernel
theorem dX5_fault_99 : decode cX5_fault 99 = .ok (.aload_n 0, 1) := by decide +kernel
theorem dX5_fault_100 : decode cX5_fault 100 = .ok (.getfield 134, 3) := by decide +kernel
theorem dX5_fault_103 : decode cX5_fault 103 = .ok (.putfield 152, 3) := by decide +kernel
theorem dX5_fault_106 : decode cX5_fault 106 = .ok (.aload_n 0, 1) := by decide +kernel
theorem dX5_fault_107 : decode cX5_fault 107 = .ok (.aload_n 0, 1) := by decide +kernel
theorem dX5_fault_108 : decode cX5_fault 108 = .ok (.bipush 6, 2) := by decide +kernel
theorem dX5_fault_110 : decode cX5_fault 110 = .ok (.aload_n 0, 1) := by decide +kernel
theorem dX5_fault_111 : decode cX5_fault 111 = .ok (.getfield 140, 3) := by decide +kernel
theorem dX5_fault_114 : decode cX5_fault 114 = .ok (.invokevirtual 146, 3) := by decide +kernel
theorem dX5_fault_117 : decode cX5_fault 117 = .ok (.putfield 143, 3) := by decide +kernel
theorem dX5_fault_120 : decode cX5_fault 120 = .ok (.aload_n 0, 1) := by decide +kernel
theorem dX5_fault_121 : decode cX5_fault 121 = .ok (.getfield 143, 3) := by decide +kernel
theorem dX5_fault_124 : decode cX5_fault 124 = .ok (.iconst 2, 1) := by decide +kernel
theorem dX5_fault_125 : decode cX5_fault 125 = .ok (.if_icmp .ge 8, 3) := by decide +kernel
theorem dX5_fault_128 : decode cX5_fault 128 = .ok (.aload_n 0, 1) := by decide +kernel
theorem dX5_fault_129 : decode cX5_fault 129 = .ok (.getfield 134, 3) := by decide +kernel
theorem dX5_fault_132 : decode cX5_fault 132 = .ok (.ireturn, 1) := by decide +kernel
theorem dX5_fault_133 : decode cX5_fault 133 = .ok (.aload_n 0, 1) := by decide +kernel
theorem dX5_fault_134 : decode cX5_fault 134 = .ok (.getfield 134, 3) := by decide +kernel
theorem dX5_fault_137 : decode cX5_fault 137 = .ok (.aload_n 0, 1) := by decide +kernel
theorem dX5_fault_138 : decode cX5_fault 138 = .ok (.getfield 131, 3) := by decide +kernel
theorem dX5_fault_141 : decode cX5_fault 141 = .ok (.if_icmp .ne 8, 3) := by decide +kernel
theorem dX5_fault_144 : decode cX5_fault 144 = .ok (.bipush (-105), 2) := by decide +kernel
theorem dX5_fault_146 : decode cX5_fault 146 = .ok (.goto 7, 3) := by decide +kernel
theorem dX5_fault_149 : decode cX5_fault 149 = .ok (.aload_n 0, 1) := by decide +kernel
theorem dX5_fault_150 : decode cX5_fault 150 = .ok (.getfield 134, 3) := by decide +kernel
theorem dX5_fault_153 : decode cX5_fault 153 = .ok (.ireturn, 1) := by decide +kernel
theorem dX5_read_0 : decode cX5_read 0 = .ok (.aload_n 0, 1) := by decide +kernel
theorem dX5_read_1 : decode cX5_read 1 = .ok (.invokevirtual 155, 3) := by decide +kernel
theorem dX5_read_4 : decode cX5_read 4 = .ok (.istore_n 1, 1) := by decide +kernel
theorem dX5_read_5 : decode cX5_read 5 = .ok (.iload_n 1, 1) := by decide +kernel
theorem dX5_read_6 : decode cX5_read 6 = .ok (.bipush (-105), 2) := by decide +kernel
theorem dX5_read_8 : decode cX5_read 8 = .ok (.if_icmp .eq 9, 3) := by decide +kernel
theorem dX5_read_11 : decode cX5_read 11 = .ok (.sipush (-200), 3) := by decide +kernel
theorem dX5_read_14 : decode cX5_read 14 = .ok (.iload_n 1, 1) := by decide +kernel
theorem dX5_read_15 : decode cX5_read 15 = .ok (.isub, 1) := by decide +kernel
theorem dX5_read_16 : decode cX5_read 16 = .ok (.ireturn, 1) := by decide +kernel
theorem dX5_read_17 : decode cX5_read 17 = .ok (.aload_n 0, 1) := by decide +kernel
theorem dX5_read_18 : decode cX5_read 18 = .ok (.invokevirtual 94, 3) := by decide +kernel
theorem dX5_read_21 : decode cX5_read 21 = .ok (.aload_n 0, 1) := by decide +kernel
theorem dX5_read_22 : decode cX5_read 22 = .ok (.getfield 7, 3) := by decide +kernel
theorem dX5_read_25 : decode cX5_read 25 = .ok (.iconst 0, 1) := by decide +kernel
theorem dX5_read_26 : decode cX5_read 26 = .ok (.aload_n 0, 1) := by decide +kernel
theorem dX5_read_27 : decode cX5_read 27 = .ok (.getfield 140, 3) := by decide +kernel
theorem dX5_read_30 : decode cX5_read 30 = .ok (.iastore, 1) := by decide +kernel
theorem dX5_read_31 : decode cX5_read 31 = .ok (.iconst 0, 1) := by decide +kernel
theorem dX5_read_32 : decode cX5_read 32 = .ok (.istore_n 2, 1) := by decide +kernel
theorem dX5_read_33 : decode cX5_read 33 = .ok (.iload_n 2, 1) := by decide +kernel
theorem dX5_read_34 : decode cX5_read 34 = .ok (.iconst 4, 1) := by decide +kernel
theorem dX5_read_35 : decode cX5_read 35 = .ok (.if_icmp .ge 63, 3) := by decide +kernel
theorem dX5_read_38 : decode cX5_read 38 = .ok (.iconst 0, 1) := by decide +kernel
theorem dX5_read_39 : decode cX5_read 39 = .ok (.istore_n 3, 1) := by decide +kernel
theorem dX5_read_40 : decode cX5_read 40 = .ok (.iload_n 3, 1) := by decide +kernel
theorem dX5_read_41 : decode cX5_read 41 = .ok (.bipush 12, 2) := by decide +kernel
theorem dX5_read_43 : decode cX5_read 43 = .ok (.if_icmp .ge 49, 3) := by decide +kernel
theorem dX5_read_46 : decode cX5_read 46 = .ok (.aload_n 0, 1) := by decide +kernel
theorem dX5_read_47 : decode cX5_read 47 = .ok (.getfield 7, 3) := by decide +kernel
theorem dX5_read_50 : decode cX5_read 50 = .ok (.bipush 13, 2) := by decide +kernel
theorem dX5_read_52 : decode cX5_read 52 = .ok (.bipush 12, 2) := by decide +kernel
theorem dX5_read_54 : decode cX5_read 54 = .ok (.iload_n 2, 1) := by decide +kernel
theorem dX5_read_55 : decode cX5_read 55 = .ok (.imul, 1) := by decide +kernel
theorem dX5_read_56 : decode cX5_read 56 = .ok (.iadd, 1) := by decide +kernel
theorem dX5_read_57 : decode cX5_read 57 = .ok (.iload_n 3, 1) := by decide +kernel
theorem dX5_read_58 : decode cX5_read 58 = .ok (.iadd, 1) := by decide +kernel
theorem dX5_read_59 : decode cX5_read 59 = .ok (.iload_n 2, 1) := by decide +kernel
theorem dX5_read_60 : decode cX5_read 60 = .ok (.aload_n 0, 1) := by decide +kernel
theorem dX5_read_61 : decode cX5_read 61 = .ok (.getfield 140, 3) := by decide +kernel
theorem dX5_read_64 : decode cX5_read 64 = .ok (.if_icmp .ge 20, 3) := by decide +kernel
theorem dX5_read_67 : decode cX5_read 67 = .ok (.aload_n 0, 1) := by decide +kernel
theorem dX5_read_68 : decode cX5_read 68 = .ok (.getfield 31, 3) := by decide +kernel
theorem dX5_read_71 : decode cX5_read 71 = .ok (.bipush 13, 2) := by decide +kernel
theorem dX5_read_73 : decode cX5_read 73 = .ok (.iload_n 2, 1) := by decide +kernel
theorem dX5_read_74 : decode cX5_read 74 = .ok (.imul, 1) := by decide +kernel
theorem dX5_read_75 : decode cX5_read 75 = .ok (.iload_n 3, 1) := by decide +kernel
theorem dX5_read_76 : decode cX5_read 76 = .ok (.iadd, 1) := by decide +kernel
theorem dX5_read_77 : decode cX5_read 77 = .ok (.iaload, 1) := by decide +kernel
theorem dX5_read_78 : decode cX5_read 78 = .ok (.bipush 48, 2) := by decide +kernel
theorem dX5_read_80 : decode cX5_read 80 = .ok (.isub, 1) := by decide +kernel
theorem dX5_read_81 : decode cX5_read 81 = .ok (.goto 4, 3) := by decide +kernel
theorem dX5_read_84 : decode cX5_read 84 = .ok (.iconst 0, 1) := by decide +kernel
theorem dX5_read_85 : decode cX5_read 85 = .ok (.iastore, 1) := by decide +kernel
theorem dX5_read_86 : decode cX5_read 86 = .ok (.iinc 3 1, 3) := by decide +kernel
theorem dX5_read_89 : decode cX5_read 89 = .ok (.goto (-49), 3) := by decide +kernel
theorem dX5_read_92 : decode cX5_read 92 = .ok (.iinc 2 1, 3) := by decide +kernel
theorem dX5_read_95 : decode cX5_read 95 = .ok (.goto (-62), 3) := by decide +kernel
theorem dX5_read_98 : decode cX5_read 98 = .ok (.aload_n 0, 1) := by decide +kernel
theorem dX5_read_99 : decode cX5_read 99 = .ok (.getfield 7, 3) := by decide +kernel
theorem dX5_read_102 : decode cX5_read 102 = .ok (.iconst 1, 1) := by decide +kernel
theorem dX5_read_103 : decode cX5_read 103 = .ok (.aload_n 0, 1) := by decide +kernel
theorem dX5_read_104 : decode cX5_read 104 = .ok (.getfield 143, 3) := by decide +kernel
theorem dX5_read_107 : decode cX5_read 107 = .ok (.bipush (-105), 2) := by decide +kernel
theorem dX5_read_109 : decode cX5_read 109 = .ok (.if_icmp .ne 12, 3) := by decide +kernel
theorem dX5_read_112 : decode cX5_read 112 = .ok (.aload_n 0, 1) := by decide +kernel
theorem dX5_read_113 : decode cX5_read 113 = .ok (.getfield 7, 3) := by decide +kernel
theorem dX5_read_116 : decode cX5_read 116 = .ok (.iconst 1, 1) := by decide +kernel
theorem dX5_read_117 : decode cX5_read 117 = .ok (.iaload, 1) := by decide +kernel
theorem dX5_read_118 : decode cX5_read 118 = .ok (.goto 7, 3) := by decide +kernel
theorem dX5_read_121 : decode cX5_read 121 = .ok (.aload_n 0, 1) := by decide +kernel
theorem dX5_read_122 : decode cX5_read 122 = .ok (.getfield 143, 3) := by decide +kernel
theorem dX5_read_125 : decode cX5_read 125 = .ok (.iastore, 1) := by decide +kernel
theorem dX5_read_126 : decode cX5_read 126 = .ok (.aload_n 0, 1) := by decide +kernel
theorem dX5_read_127 : decode cX5_read 127 = .ok (.invokevirtual 34, 3) := by decide +kernel
theorem dX5_read_130 : decode cX5_read 130 = .ok (.iconst 0, 1) := by decide +kernel
theorem dX5_read_131 : decode cX5_read 131 = .ok (.istore_n 2, 1) := by decide +kernel
theorem dX5_read_132 : decode cX5_read 132 = .ok (.iload_n 2, 1) := by decide +kernel
theorem dX5_read_133 : decode cX5_read 133 = .ok (.aload_n 0, 1) := by decide +kernel
theorem dX5_read_134 : decode cX5_read 134 = .ok (.getfield 143, 3) := by decide +kernel
theorem dX5_read_137 : decode cX5_read 137 = .ok (.if_icmp .ge 32, 3) := by decide +kernel
theorem dX5_read_140 : decode cX5_read 140 = .ok (.aload_n 0, 1) := by decide +kernel
theorem dX5_read_141 : decode cX5_read 141 = .ok (.getfield 7, 3) := by decide +kernel
theorem dX5_read_144 : decode cX5_read 144 = .ok (.bipush 7, 2) := by decide +kernel
theorem dX5_read_146 : decode cX5_read 146 = .ok (.iload_n 2, 1) := by decide +kernel
theorem dX5_read_147 : decode cX5_read 147 = .ok (.iadd, 1) := by decide +kernel
theorem dX5_read_148 : decode cX5_read 148 = .ok (.aload_n 0, 1) := by decide +kernel
theorem dX5_read_149 : decode cX5_read 149 = .ok (.getfield 31, 3) := by decide +kernel
theorem dX5_read_152 : decode cX5_read 152 = .ok (.aload_n 0, 1) := by decide +kernel
theorem dX5_read_153 : decode cX5_read 153 = .ok (.getfield 152, 3) := by decide +kernel
theorem dX5_read_156 : decode cX5_read 156 = .ok (.iload_n 2, 1) := by decide +kernel
theorem dX5_read_157 : decode cX5_read 157 = .ok (.iadd, 1) := by decide +kernel
theorem dX5_read_158 : decode cX5_read 158 = .ok (.iaload, 1) := by decide +kernel
theorem dX5_read_159 : decode cX5_read 159 = .ok (.bipush 48, 2) := by decide +kernel
theorem dX5_read_161 : decode cX5_read 161 = .ok (.isub, 1) := by decide +kernel
theorem dX5_read_162 : decode cX5_read 162 = .ok (.iastore, 1) := by decide +kernel
theorem dX5_read_163 : decode cX5_read 163 = .ok (.iinc 2 1, 3) := by decide +kernel
theorem dX5_read_166 : decode cX5_read 166 = .ok (.goto (-34), 3) := by decide +kernel
theorem dX5_read_169 : decode cX5_read 169 = .ok (.aload_n 0, 1) := by decide +kernel
theorem dX5_read_170 : decode cX5_read 170 = .ok (.aload_n 0, 1) := by decide +kernel
theorem dX5_read_171 : decode cX5_read 171 = .ok (.getfield 140, 3) := by decide +kernel
theorem dX5_read_174 : decode cX5_read 174 = .ok (.invokevirtual 97, 3) := by decide +kernel
theorem dX5_read_177 : decode cX5_read 177 = .ok (.ireturn, 1) := by decide +kernel
theorem dX5_undo_0 : decode cX5_undo 0 = .ok (.aload_n 0, 1) := by decide +kernel
theorem dX5_undo_1 : decode cX5_undo 1 = .ok (.getfield 37, 3) := by decide +kernel
theorem dX5_undo_4 : decode cX5_undo 4 = .ok (.ifCond .ne 6, 3) := by decide +kernel
theorem dX5_undo_7 : decode cX5_undo 7 = .ok (.bipush (-105), 2) := by decide +kernel
theorem dX5_undo_9 : decode cX5_undo 9 = .ok (.ireturn, 1) := by decide +kernel
theorem dX5_undo_10 : decode cX5_undo 10 = .ok (.aload_n 0, 1) := by decide +kernel
theorem dX5_undo_11 : decode cX5_undo 11 = .ok (.dup, 1) := by decide +kernel
theorem dX5_undo_12 : decode cX5_undo 12 = .ok (.getfield 37, 3) := by decide +kernel
theorem dX5_undo_15 : decode cX5_undo 15 = .ok (.iconst 1, 1) := by decide +kernel
theorem dX5_undo_16 : decode cX5_undo 16 = .ok (.isub, 1) := by decide +kernel
theorem dX5_undo_17 : decode cX5_undo 17 = .ok (.putfield 37, 3) := by decide +kernel
theorem dX5_undo_20 : decode cX5_undo 20 = .ok (.iconst 0, 1) := by decide +kernel
theorem dX5_undo_21 : decode cX5_undo 21 = .ok (.istore_n 1, 1) := by decide +kernel
theorem dX5_undo_22 : decode cX5_undo 22 = .ok (.iload_n 1, 1) := by decide +kernel
theorem dX5_undo_23 : decode cX5_undo 23 = .ok (.bipush 61, 2) := by decide +kernel
theorem dX5_undo_25 : decode cX5_undo 25 = .ok (.if_icmp .ge 29, 3) := by decide +kernel
theorem dX5_undo_28 : decode cX5_undo 28 = .ok (.aload_n 0, 1) := by decide +kernel
theorem dX5_undo_29 : decode cX5_undo 29 = .ok (.getfield 7, 3) := by decide +kernel
theorem dX5_undo_32 : decode cX5_undo 32 = .ok (.iload_n 1, 1) := by decide +kernel
theorem dX5_undo_33 : decode cX5_undo 33 = .ok (.aload_n 0, 1) := by decide +kernel
theorem dX5_undo_34 : decode cX5_undo 34 = .ok (.getfield 16, 3) := by decide +kernel
theorem dX5_undo_37 : decode cX5_undo 37 = .ok (.bipush 61, 2) := by decide +kernel
theorem dX5_undo_39 : decode cX5_undo 39 = .ok (.aload_n 0, 1) := by decide +kernel
theorem dX5_undo_40 : decode cX5_undo 40 = .ok (.getfield 37, 3) := by decide +kernel
theorem dX5_undo_43 : decode cX5_undo 43 = .ok (.imul, 1) := by decide +kernel
theorem dX5_undo_44 : decode cX5_undo 44 = .ok (.iload_n 1, 1) := by decide +kernel
theorem dX5_undo_45 : decode cX5_undo 45 = .ok (.iadd, 1) := by decide +kernel
theorem dX5_undo_46 : decode cX5_undo 46 = .ok (.iaload, 1) := by decide +kernel
theorem dX5_undo_47 : decode cX5_undo 47 = .ok (.iastore, 1) := by decide +kernel
theorem dX5_undo_48 : decode cX5_undo 48 = .ok (.iinc 1 1, 3) := by decide +kernel
theorem dX5_undo_51 : decode cX5_undo 51 = .ok (.goto (-29), 3) := by decide +kernel
theorem dX5_undo_54 : decode cX5_undo 54 = .ok (.aload_n 0, 1) := by decide +kernel
theorem dX5_undo_55 : decode cX5_undo 55 = .ok (.getfield 37, 3) := by decide +kernel
theorem dX5_undo_58 : decode cX5_undo 58 = .ok (.ireturn, 1) := by decide +kernel
theorem dX5_keep_0 : decode cX5_keep 0 = .ok (.iconst 0, 1) := by decide +kernel
theorem dX5_keep_1 : decode cX5_keep 1 = .ok (.istore_n 1, 1) := by decide +kernel
theorem dX5_keep_2 : decode cX5_keep 2 = .ok (.iload_n 1, 1) := by decide +kernel
theorem dX5_keep_3 : decode cX5_keep 3 = .ok (.bipush 61, 2) := by decide +kernel
theorem dX5_keep_5 : decode cX5_keep 5 = .ok (.if_icmp .ge 21, 3) := by decide +kernel
theorem dX5_keep_8 : decode cX5_keep 8 = .ok (.aload_n 0, 1) := by decide +kernel
theorem dX5_keep_9 : decode cX5_keep 9 = .ok (.getfield 19, 3) := by decide +kernel
theorem dX5_keep_12 : decode cX5_keep 12 = .ok (.iload_n 1, 1) := by decide +kernel
theorem dX5_keep_13 : decode cX5_keep 13 = .ok (.aload_n 0, 1) := by decide +kernel
theorem dX5_keep_14 : decode cX5_keep 14 = .ok (.getfield 7, 3) := by decide +kernel
theorem dX5_keep_17 : decode cX5_keep 17 = .ok (.iload_n 1, 1) := by decide +kernel
theorem dX5_keep_18 : decode cX5_keep 18 = .ok (.iaload, 1) := by decide +kernel
theorem dX5_keep_19 : decode cX5_keep 19 = .ok (.iastore, 1) := by decide +kernel
theorem dX5_keep_20 : decode cX5_keep 20 = .ok (.iinc 1 1, 3) := by decide +kernel
theorem dX5_keep_23 : decode cX5_keep 23 = .ok (.goto (-21), 3) := by decide +kernel
theorem dX5_keep_26 : decode cX5_keep 26 = .ok (.aload_n 0, 1) := by decide +kernel
theorem dX5_keep_27 : decode cX5_keep 27 = .ok (.iconst 1, 1) := by decide +kernel
theorem dX5_keep_28 : decode cX5_keep 28 = .ok (.putfield 158, 3) := by decide +kernel
theorem dX5_keep_31 : decode cX5_keep 31 = .ok (.aload_n 0, 1) := by decide +kernel
theorem dX5_keep_32 : decode cX5_keep 32 = .ok (.getfield 7, 3) := by decide +kernel
theorem dX5_keep_35 : decode cX5_keep 35 = .ok (.iconst 0, 1) := by decide +kernel
theorem dX5_keep_36 : decode cX5_keep 36 = .ok (.iaload, 1) := by decide +kernel
theorem dX5_keep_37 : decode cX5_keep 37 = .ok (.ireturn, 1) := by decide +kernel
theorem dX5_restore_0 : decode cX5_restore 0 = .ok (.aload_n 0, 1) := by decide +kernel
theorem dX5_restore_1 : decode cX5_restore 1 = .ok (.getfield 158, 3) := by decide +kernel
theorem dX5_restore_4 : decode cX5_restore 4 = .ok (.ifCond .ne 6, 3) := by decide +kernel
theorem dX5_restore_7 : decode cX5_restore 7 = .ok (.bipush (-105), 2) := by decide +kernel
theorem dX5_restore_9 : decode cX5_restore 9 = .ok (.ireturn, 1) := by decide +kernel
theorem dX5_restore_10 : decode cX5_restore 10 = .ok (.aload_n 0, 1) := by decide +kernel
theorem dX5_restore_11 : decode cX5_restore 11 = .ok (.invokevirtual 94, 3) := by decide +kernel
theorem dX5_restore_14 : decode cX5_restore 14 = .ok (.iconst 0, 1) := by decide +kernel
theorem dX5_restore_15 : decode cX5_restore 15 = .ok (.istore_n 1, 1) := by decide +kernel
theorem dX5_restore_16 : decode cX5_restore 16 = .ok (.iload_n 1, 1) := by decide +kernel
theorem dX5_restore_17 : decode cX5_restore 17 = .ok (.bipush 61, 2) := by decide +kernel
theorem dX5_restore_19 : decode cX5_restore 19 = .ok (.if_icmp .ge 21, 3) := by decide +kernel
theorem dX5_restore_22 : decode cX5_restore 22 = .ok (.aload_n 0, 1) := by decide +kernel
theorem dX5_restore_23 : decode cX5_restore 23 = .ok (.getfield 7, 3) := by decide +kernel
theorem dX5_restore_26 : decode cX5_restore 26 = .ok (.iload_n 1, 1) := by decide +kernel
theorem dX5_restore_27 : decode cX5_restore 27 = .ok (.aload_n 0, 1) := by decide +kernel
theorem dX5_restore_28 : decode cX5_restore 28 = .ok (.getfield 19, 3) := by decide +kernel
theorem dX5_restore_31 : decode cX5_restore 31 = .ok (.iload_n 1, 1) := by decide +kernel
theorem dX5_restore_32 : decode cX5_restore 32 = .ok (.iaload, 1) := by decide +kernel
theorem dX5_restore_33 : decode cX5_restore 33 = .ok (.iastore, 1) := by decide +kernel
theorem dX5_restore_34 : decode cX5_restore 34 = .ok (.iinc 1 1, 3) := by decide +kernel
theorem dX5_restore_37 : decode cX5_restore 37 = .ok (.goto (-21), 3) := by decide +kernel
theorem dX5_restore_40 : decode cX5_restore 40 = .ok (.aload_n 0, 1) := by decide +kernel
theorem dX5_restore_41 : decode cX5_restore 41 = .ok (.aload_n 0, 1) := by decide +kernel
theorem dX5_restore_42 : decode cX5_restore 42 = .ok (.getfield 7, 3) := by decide +kernel
theorem dX5_restore_45 : decode cX5_restore 45 = .ok (.iconst 0, 1) := by decide +kernel
theorem dX5_restore_46 : decode cX5_restore 46 = .ok (.iaload, 1) := by decide +kernel
theorem dX5_restore_47 : decode cX5_restore 47 = .ok (.invokevirtual 97, 3) := by decide +kernel
theorem dX5_restore_50 : decode cX5_restore 50 = .ok (.ireturn, 1) := by decide +kernel
theorem dX5_colourOf_0 : decode cX5_colourOf 0 = .ok (.aload_n 0, 1) := by decide +kernel
theorem dX5_colourOf_1 : decode cX5_colourOf 1 = .ok (.iload_n 1, 1) := by decide +kernel
theorem dX5_colourOf_2 : decode cX5_colourOf 2 = .ok (.invokevirtual 84, 3) := by decide +kernel
theorem dX5_colourOf_5 : decode cX5_colourOf 5 = .ok (.ifCond .eq 19, 3) := by decide +kernel
theorem dX5_colourOf_8 : decode cX5_colourOf 8 = .ok (.iload_n 2, 1) := by decide +kernel
theorem dX5_colourOf_9 : decode cX5_colourOf 9 = .ok (.invokestatic 88, 3) := by decide +kernel
theorem dX5_colourOf_12 : decode cX5_colourOf 12 = .ok (.ifCond .eq 12, 3) := by decide +kernel
theorem dX5_colourOf_15 : decode cX5_colourOf 15 = .ok (.aload_n 0, 1) := by decide +kernel
theorem dX5_colourOf_16 : decode cX5_colourOf 16 = .ok (.iload_n 1, 1) := by decide +kernel
theorem dX5_colourOf_17 : decode cX5_colourOf 17 = .ok (.iload_n 2, 1) := by decide +kernel
theorem dX5_colourOf_18 : decode cX5_colourOf 18 = .ok (.invokevirtual 91, 3) := by decide +kernel
theorem dX5_colourOf_21 : decode cX5_colourOf 21 = .ok (.goto 5, 3) := by decide +kernel
theorem dX5_colourOf_24 : decode cX5_colourOf 24 = .ok (.bipush (-101), 2) := by decide +kernel
theorem dX5_colourOf_26 : decode cX5_colourOf 26 = .ok (.ireturn, 1) := by decide +kernel
theorem dX5_viewOf_0 : decode cX5_viewOf 0 = .ok (.aload_n 0, 1) := by decide +kernel
theorem dX5_viewOf_1 : decode cX5_viewOf 1 = .ok (.iload_n 1, 1) := by decide +kernel
theorem dX5_viewOf_2 : decode cX5_viewOf 2 = .ok (.invokevirtual 112, 3) := by decide +kernel
theorem dX5_viewOf_5 : decode cX5_viewOf 5 = .ok (.ifCond .eq 15, 3) := by decide +kernel
theorem dX5_viewOf_8 : decode cX5_viewOf 8 = .ok (.aload_n 0, 1) := by decide +kernel
theorem dX5_viewOf_9 : decode cX5_viewOf 9 = .ok (.getfield 7, 3) := by decide +kernel
theorem dX5_viewOf_12 : decode cX5_viewOf 12 = .ok (.bipush 7, 2) := by decide +kernel
theorem dX5_viewOf_14 : decode cX5_viewOf 14 = .ok (.iload_n 1, 1) := by decide +kernel
theorem dX5_viewOf_15 : decode cX5_viewOf 15 = .ok (.iadd, 1) := by decide +kernel
theorem dX5_viewOf_16 : decode cX5_viewOf 16 = .ok (.iaload, 1) := by decide +kernel
theorem dX5_viewOf_17 : decode cX5_viewOf 17 = .ok (.goto 5, 3) := by decide +kernel
theorem dX5_viewOf_20 : decode cX5_viewOf 20 = .ok (.bipush (-101), 2) := by decide +kernel
theorem dX5_viewOf_22 : decode cX5_viewOf 22 = .ok (.ireturn, 1) := by decide +kernel
theorem dX5_dueOf_0 : decode cX5_dueOf 0 = .ok (.iload_n 1, 1) := by decide +kernel
theorem dX5_dueOf_1 : decode cX5_dueOf 1 = .ok (.bipush (-105), 2) := by decide +kernel
theorem dX5_dueOf_3 : decode cX5_dueOf 3 = .ok (.if_icmp .ne 6, 3) := by decide +kernel
theorem dX5_dueOf_6 : decode cX5_dueOf 6 = .ok (.bipush (-105), 2) := by decide +kernel
theorem dX5_dueOf_8 : decode cX5_dueOf 8 = .ok (.ireturn, 1) := by decide +kernel
theorem dX5_dueOf_9 : decode cX5_dueOf 9 = .ok (.aload_n 0, 1) := by decide +kernel
theorem dX5_dueOf_10 : decode cX5_dueOf 10 = .ok (.getfield 7, 3) := by decide +kernel
theorem dX5_dueOf_13 : decode cX5_dueOf 13 = .ok (.bipush 7, 2) := by decide +kernel
theorem dX5_dueOf_15 : decode cX5_dueOf 15 = .ok (.iload_n 1, 1) := by decide +kernel
theorem dX5_dueOf_16 : decode cX5_dueOf 16 = .ok (.aload_n 0, 1) := by decide +kernel
theorem dX5_dueOf_17 : decode cX5_dueOf 17 = .ok (.getfield 7, 3) := by decide +kernel
theorem dX5_dueOf_20 : decode cX5_dueOf 20 = .ok (.iconst 1, 1) := by decide +kernel
theorem dX5_dueOf_21 : decode cX5_dueOf 21 = .ok (.iaload, 1) := by decide +kernel
theorem dX5_dueOf_22 : decode cX5_dueOf 22 = .ok (.irem, 1) := by decide +kernel
theorem dX5_dueOf_23 : decode cX5_dueOf 23 = .ok (.iadd, 1) := by decide +kernel
theorem dX5_dueOf_24 : decode cX5_dueOf 24 = .ok (.iaload, 1) := by decide +kernel
theorem dX5_dueOf_25 : decode cX5_dueOf 25 = .ok (.istore_n 3, 1) := by decide +kernel
theorem dX5_dueOf_26 : decode cX5_dueOf 26 = .ok (.iload_n 1, 1) := by decide +kernel
theorem dX5_dueOf_27 : decode cX5_dueOf 27 = .ok (.aload_n 0, 1) := by decide +kernel
theorem dX5_dueOf_28 : decode cX5_dueOf 28 = .ok (.getfield 7, 3) := by decide +kernel
theorem dX5_dueOf_31 : decode cX5_dueOf 31 = .ok (.iconst 1, 1) := by decide +kernel
theorem dX5_dueOf_32 : decode cX5_dueOf 32 = .ok (.iaload, 1) := by decide +kernel
theorem dX5_dueOf_33 : decode cX5_dueOf 33 = .ok (.idiv, 1) := by decide +kernel
theorem dX5_dueOf_34 : decode cX5_dueOf 34 = .ok (.istore 4, 2) := by decide +kernel
theorem dX5_dueOf_36 : decode cX5_dueOf 36 = .ok (.iload_n 2, 1) := by decide +kernel
theorem dX5_dueOf_37 : decode cX5_dueOf 37 = .ok (.ifCond .ne 7, 3) := by decide +kernel
theorem dX5_dueOf_40 : decode cX5_dueOf 40 = .ok (.iload_n 3, 1) := by decide +kernel
theorem dX5_dueOf_41 : decode cX5_dueOf 41 = .ok (.goto 20, 3) := by decide +kernel
theorem dX5_dueOf_44 : decode cX5_dueOf 44 = .ok (.iload_n 2, 1) := by decide +kernel
theorem dX5_dueOf_45 : decode cX5_dueOf 45 = .ok (.iconst 1, 1) := by decide +kernel
theorem dX5_dueOf_46 : decode cX5_dueOf 46 = .ok (.if_icmp .ne 13, 3) := by decide +kernel
theorem dX5_dueOf_49 : decode cX5_dueOf 49 = .ok (.aload_n 0, 1) := by decide +kernel
theorem dX5_dueOf_50 : decode cX5_dueOf 50 = .ok (.iload_n 3, 1) := by decide +kernel
theorem dX5_dueOf_51 : decode cX5_dueOf 51 = .ok (.iload 4, 2) := by decide +kernel
theorem dX5_dueOf_53 : decode cX5_dueOf 53 = .ok (.invokevirtual 91, 3) := by decide +kernel
theorem dX5_dueOf_56 : decode cX5_dueOf 56 = .ok (.goto 5, 3) := by decide +kernel
theorem dX5_dueOf_59 : decode cX5_dueOf 59 = .ok (.iload 4, 2) := by decide +kernel
theorem dX5_dueOf_61 : decode cX5_dueOf 61 = .ok (.ireturn, 1) := by decide +kernel
theorem dX5_behind_0 : decode cX5_behind 0 = .ok (.iload_n 1, 1) := by decide +kernel
theorem dX5_behind_1 : decode cX5_behind 1 = .ok (.invokestatic 88, 3) := by decide +kernel
theorem dX5_behind_4 : decode cX5_behind 4 = .ok (.ifCond .eq 11, 3) := by decide +kernel
theorem dX5_behind_7 : decode cX5_behind 7 = .ok (.aload_n 0, 1) := by decide +kernel
theorem dX5_behind_8 : decode cX5_behind 8 = .ok (.iload_n 2, 1) := by decide +kernel
theorem dX5_behind_9 : decode cX5_behind 9 = .ok (.invokevirtual 112, 3) := by decide +kernel
theorem dX5_behind_12 : decode cX5_behind 12 = .ok (.ifCond .ne 6, 3) := by decide +kernel
theorem dX5_behind_15 : decode cX5_behind 15 = .ok (.bipush (-101), 2) := by decide +kernel
theorem dX5_behind_17 : decode cX5_behind 17 = .ok (.ireturn, 1) := by decide +kernel
theorem dX5_behind_18 : decode cX5_behind 18 = .ok (.iload_n 3, 1) := by decide +kernel
theorem dX5_behind_19 : decode cX5_behind 19 = .ok (.i2l, 1) := by decide +kernel
theorem dX5_behind_20 : decode cX5_behind 20 = .ok (.lconst 0, 1) := by decide +kernel
theorem dX5_behind_21 : decode cX5_behind 21 = .ok (.ldc2_w 100, 3) := by decide +kernel
theorem dX5_behind_24 : decode cX5_behind 24 = .ok (.invokestatic 41, 3) := by decide +kernel
theorem dX5_behind_27 : decode cX5_behind 27 = .ok (.ifCond .eq 17, 3) := by decide +kernel
theorem dX5_behind_30 : decode cX5_behind 30 = .ok (.aload_n 0, 1) := by decide +kernel
theorem dX5_behind_31 : decode cX5_behind 31 = .ok (.aload_n 0, 1) := by decide +kernel
theorem dX5_behind_32 : decode cX5_behind 32 = .ok (.iload_n 1, 1) := by decide +kernel
theorem dX5_behind_33 : decode cX5_behind 33 = .ok (.iload_n 2, 1) := by decide +kernel
theorem dX5_behind_34 : decode cX5_behind 34 = .ok (.invokevirtual 57, 3) := by decide +kernel
theorem dX5_behind_37 : decode cX5_behind 37 = .ok (.iload_n 3, 1) := by decide +kernel
theorem dX5_behind_38 : decode cX5_behind 38 = .ok (.invokevirtual 161, 3) := by decide +kernel
theorem dX5_behind_41 : decode cX5_behind 41 = .ok (.goto 5, 3) := by decide +kernel
theorem dX5_behind_44 : decode cX5_behind 44 = .ok (.bipush (-102), 2) := by decide +kernel
theorem dX5_behind_46 : decode cX5_behind 46 = .ok (.ireturn, 1) := by decide +kernel
theorem dX5_seen_0 : decode cX5_seen 0 = .ok (.iload_n 1, 1) := by decide +kernel
theorem dX5_seen_1 : decode cX5_seen 1 = .ok (.invokestatic 164, 3) := by decide +kernel
theorem dX5_seen_4 : decode cX5_seen 4 = .ok (.ifCond .eq 10, 3) := by decide +kernel
theorem dX5_seen_7 : decode cX5_seen 7 = .ok (.iload_n 2, 1) := by decide +kernel
theorem dX5_seen_8 : decode cX5_seen 8 = .ok (.invokestatic 88, 3) := by decide +kernel
theorem dX5_seen_11 : decode cX5_seen 11 = .ok (.ifCond .ne 6, 3) := by decide +kernel
theorem dX5_seen_14 : decode cX5_seen 14 = .ok (.bipush (-101), 2) := by decide +kernel
theorem dX5_seen_16 : decode cX5_seen 16 = .ok (.ireturn, 1) := by decide +kernel
theorem dX5_seen_17 : decode cX5_seen 17 = .ok (.aload_n 0, 1) := by decide +kernel
theorem dX5_seen_18 : decode cX5_seen 18 = .ok (.invokevirtual 71, 3) := by decide +kernel
theorem dX5_seen_21 : decode cX5_seen 21 = .ok (.aload_n 0, 1) := by decide +kernel
theorem dX5_seen_22 : decode cX5_seen 22 = .ok (.iload_n 1, 1) := by decide +kernel
theorem dX5_seen_23 : decode cX5_seen 23 = .ok (.iload_n 2, 1) := by decide +kernel
theorem dX5_seen_24 : decode cX5_seen 24 = .ok (.invokevirtual 53, 3) := by decide +kernel
theorem dX5_seen_27 : decode cX5_seen 27 = .ok (.istore 4, 2) := by decide +kernel
theorem dX5_seen_29 : decode cX5_seen 29 = .ok (.iload_n 3, 1) := by decide +kernel
theorem dX5_seen_30 : decode cX5_seen 30 = .ok (.tableswitch 61 0 3 #[30, 30, 43, 46], 30) := by decide +kernel
theorem dX5_seen_60 : decode cX5_seen 60 = .ok (.aload_n 0, 1) := by decide +kernel
theorem dX5_seen_61 : decode cX5_seen 61 = .ok (.aload_n 0, 1) := by decide +kernel
theorem dX5_seen_62 : decode cX5_seen 62 = .ok (.iload_n 2, 1) := by decide +kernel
theorem dX5_seen_63 : decode cX5_seen 63 = .ok (.iload 4, 2) := by decide +kernel
theorem dX5_seen_65 : decode cX5_seen 65 = .ok (.invokevirtual 57, 3) := by decide +kernel
theorem dX5_seen_68 : decode cX5_seen 68 = .ok (.iload_n 3, 1) := by decide +kernel
theorem dX5_seen_69 : decode cX5_seen 69 = .ok (.invokevirtual 161, 3) := by decide +kernel
theorem dX5_seen_72 : decode cX5_seen 72 = .ok (.ireturn, 1) := by decide +kernel
theorem dX5_seen_73 : decode cX5_seen 73 = .ok (.iload 4, 2) := by decide +kernel
theorem dX5_seen_75 : decode cX5_seen 75 = .ok (.ireturn, 1) := by decide +kernel
theorem dX5_seen_76 : decode cX5_seen 76 = .ok (.aload_n 0, 1) := by decide +kernel
theorem dX5_seen_77 : decode cX5_seen 77 = .ok (.iload_n 1, 1) := by decide +kernel
theorem dX5_seen_78 : decode cX5_seen 78 = .ok (.iload_n 2, 1) := by decide +kernel
theorem dX5_seen_79 : decode cX5_seen 79 = .ok (.invokevirtual 63, 3) := by decide +kernel
theorem dX5_seen_82 : decode cX5_seen 82 = .ok (.ifCond .eq 7, 3) := by decide +kernel
theorem dX5_seen_85 : decode cX5_seen 85 = .ok (.iconst 1, 1) := by decide +kernel
theorem dX5_seen_86 : decode cX5_seen 86 = .ok (.goto 4, 3) := by decide +kernel
theorem dX5_seen_89 : decode cX5_seen 89 = .ok (.iconst 0, 1) := by decide +kernel
theorem dX5_seen_90 : decode cX5_seen 90 = .ok (.ireturn, 1) := by decide +kernel
theorem dX5_seen_91 : decode cX5_seen 91 = .ok (.bipush (-102), 2) := by decide +kernel
theorem dX5_seen_93 : decode cX5_seen 93 = .ok (.ireturn, 1) := by decide +kernel
theorem dX5_wholeAt_0 : decode cX5_wholeAt 0 = .ok (.bipush (-105), 2) := by decide +kernel
theorem dX5_wholeAt_2 : decode cX5_wholeAt 2 = .ok (.istore_n 2, 1) := by decide +kernel
theorem dX5_wholeAt_3 : decode cX5_wholeAt 3 = .ok (.iconst 0, 1) := by decide +kernel
theorem dX5_wholeAt_4 : decode cX5_wholeAt 4 = .ok (.istore_n 3, 1) := by decide +kernel
theorem dX5_wholeAt_5 : decode cX5_wholeAt 5 = .ok (.iload_n 3, 1) := by decide +kernel
theorem dX5_wholeAt_6 : decode cX5_wholeAt 6 = .ok (.aload_n 0, 1) := by decide +kernel
theorem dX5_wholeAt_7 : decode cX5_wholeAt 7 = .ok (.getfield 7, 3) := by decide +kernel
theorem dX5_wholeAt_10 : decode cX5_wholeAt 10 = .ok (.iconst 0, 1) := by decide +kernel
theorem dX5_wholeAt_11 : decode cX5_wholeAt 11 = .ok (.iaload, 1) := by decide +kernel
theorem dX5_wholeAt_12 : decode cX5_wholeAt 12 = .ok (.if_icmp .ge 26, 3) := by decide +kernel
theorem dX5_wholeAt_15 : decode cX5_wholeAt 15 = .ok (.aload_n 0, 1) := by decide +kernel
theorem dX5_wholeAt_16 : decode cX5_wholeAt 16 = .ok (.iload_n 1, 1) := by decide +kernel
theorem dX5_wholeAt_17 : decode cX5_wholeAt 17 = .ok (.iload_n 3, 1) := by decide +kernel
theorem dX5_wholeAt_18 : decode cX5_wholeAt 18 = .ok (.invokevirtual 78, 3) := by decide +kernel
theorem dX5_wholeAt_21 : decode cX5_wholeAt 21 = .ok (.bipush 12, 2) := by decide +kernel
theorem dX5_wholeAt_23 : decode cX5_wholeAt 23 = .ok (.if_icmp .ne 7, 3) := by decide +kernel
theorem dX5_wholeAt_26 : decode cX5_wholeAt 26 = .ok (.iload_n 3, 1) := by decide +kernel
theorem dX5_wholeAt_27 : decode cX5_wholeAt 27 = .ok (.goto 4, 3) := by decide +kernel
theorem dX5_wholeAt_30 : decode cX5_wholeAt 30 = .ok (.iload_n 2, 1) := by decide +kernel
theorem dX5_wholeAt_31 : decode cX5_wholeAt 31 = .ok (.istore_n 2, 1) := by decide +kernel
theorem dX5_wholeAt_32 : decode cX5_wholeAt 32 = .ok (.iinc 3 1, 3) := by decide +kernel
theorem dX5_wholeAt_35 : decode cX5_wholeAt 35 = .ok (.goto (-30), 3) := by decide +kernel
theorem dX5_wholeAt_38 : decode cX5_wholeAt 38 = .ok (.iload_n 2, 1) := by decide +kernel
theorem dX5_wholeAt_39 : decode cX5_wholeAt 39 = .ok (.ireturn, 1) := by decide +kernel
theorem dX5_mostAt_0 : decode cX5_mostAt 0 = .ok (.bipush (-105), 2) := by decide +kernel
theorem dX5_mostAt_2 : decode cX5_mostAt 2 = .ok (.istore_n 2, 1) := by decide +kernel
theorem dX5_mostAt_3 : decode cX5_mostAt 3 = .ok (.iconst 0, 1) := by decide +kernel
theorem dX5_mostAt_4 : decode cX5_mostAt 4 = .ok (.istore_n 3, 1) := by decide +kernel
theorem dX5_mostAt_5 : decode cX5_mostAt 5 = .ok (.iconst 0, 1) := by decide +kernel
theorem dX5_mostAt_6 : decode cX5_mostAt 6 = .ok (.istore 4, 2) := by decide +kernel
theorem dX5_mostAt_8 : decode cX5_mostAt 8 = .ok (.iload 4, 2) := by decide +kernel
theorem dX5_mostAt_10 : decode cX5_mostAt 10 = .ok (.aload_n 0, 1) := by decide +kernel
theorem dX5_mostAt_11 : decode cX5_mostAt 11 = .ok (.getfield 7, 3) := by decide +kernel
theorem dX5_mostAt_14 : decode cX5_mostAt 14 = .ok (.iconst 0, 1) := by decide +kernel
theorem dX5_mostAt_15 : decode cX5_mostAt 15 = .ok (.iaload, 1) := by decide +kernel
theorem dX5_mostAt_16 : decode cX5_mostAt 16 = .ok (.if_icmp .ge 44, 3) := by decide +kernel
theorem dX5_mostAt_19 : decode cX5_mostAt 19 = .ok (.aload_n 0, 1) := by decide +kernel
theorem dX5_mostAt_20 : decode cX5_mostAt 20 = .ok (.iload_n 1, 1) := by decide +kernel
theorem dX5_mostAt_21 : decode cX5_mostAt 21 = .ok (.iload 4, 2) := by decide +kernel
theorem dX5_mostAt_23 : decode cX5_mostAt 23 = .ok (.invokevirtual 78, 3) := by decide +kernel
theorem dX5_mostAt_26 : decode cX5_mostAt 26 = .ok (.istore 5, 2) := by decide +kernel
theorem dX5_mostAt_28 : decode cX5_mostAt 28 = .ok (.iload 5, 2) := by decide +kernel
theorem dX5_mostAt_30 : decode cX5_mostAt 30 = .ok (.iload_n 3, 1) := by decide +kernel
theorem dX5_mostAt_31 : decode cX5_mostAt 31 = .ok (.if_icmp .le 8, 3) := by decide +kernel
theorem dX5_mostAt_34 : decode cX5_mostAt 34 = .ok (.iload 4, 2) := by decide +kernel
theorem dX5_mostAt_36 : decode cX5_mostAt 36 = .ok (.goto 4, 3) := by decide +kernel
theorem dX5_mostAt_39 : decode cX5_mostAt 39 = .ok (.iload_n 2, 1) := by decide +kernel
theorem dX5_mostAt_40 : decode cX5_mostAt 40 = .ok (.istore_n 2, 1) := by decide +kernel
theorem dX5_mostAt_41 : decode cX5_mostAt 41 = .ok (.iload 5, 2) := by decide +kernel
theorem dX5_mostAt_43 : decode cX5_mostAt 43 = .ok (.iload_n 3, 1) := by decide +kernel
theorem dX5_mostAt_44 : decode cX5_mostAt 44 = .ok (.if_icmp .le 8, 3) := by decide +kernel
theorem dX5_mostAt_47 : decode cX5_mostAt 47 = .ok (.iload 5, 2) := by decide +kernel
theorem dX5_mostAt_49 : decode cX5_mostAt 49 = .ok (.goto 4, 3) := by decide +kernel
theorem dX5_mostAt_52 : decode cX5_mostAt 52 = .ok (.iload_n 3, 1) := by decide +kernel
theorem dX5_mostAt_53 : decode cX5_mostAt 53 = .ok (.istore_n 3, 1) := by decide +kernel
theorem dX5_mostAt_54 : decode cX5_mostAt 54 = .ok (.iinc 4 1, 3) := by decide +kernel
theorem dX5_mostAt_57 : decode cX5_mostAt 57 = .ok (.goto (-49), 3) := by decide +kernel
theorem dX5_mostAt_60 : decode cX5_mostAt 60 = .ok (.iload_n 2, 1) := by decide +kernel
theorem dX5_mostAt_61 : decode cX5_mostAt 61 = .ok (.ireturn, 1) := by decide +kernel
theorem dX5_at_0 : decode cX5_at 0 = .ok (.iload_n 1, 1) := by decide +kernel
theorem dX5_at_1 : decode cX5_at 1 = .ok (.invokestatic 164, 3) := by decide +kernel
theorem dX5_at_4 : decode cX5_at 4 = .ok (.ifCond .ne 6, 3) := by decide +kernel
theorem dX5_at_7 : decode cX5_at 7 = .ok (.bipush (-101), 2) := by decide +kernel
theorem dX5_at_9 : decode cX5_at 9 = .ok (.ireturn, 1) := by decide +kernel
theorem dX5_at_10 : decode cX5_at 10 = .ok (.aload_n 0, 1) := by decide +kernel
theorem dX5_at_11 : decode cX5_at 11 = .ok (.invokevirtual 71, 3) := by decide +kernel
theorem dX5_at_14 : decode cX5_at 14 = .ok (.iload_n 2, 1) := by decide +kernel
theorem dX5_at_15 : decode cX5_at 15 = .ok (.tableswitch 82 0 4 #[33, 39, 45, 51, 74], 33) := by decide +kernel
theorem dX5_at_48 : decode cX5_at 48 = .ok (.aload_n 0, 1) := by decide +kernel
theorem dX5_at_49 : decode cX5_at 49 = .ok (.iload_n 1, 1) := by decide +kernel
theorem dX5_at_50 : decode cX5_at 50 = .ok (.invokevirtual 67, 3) := by decide +kernel
theorem dX5_at_53 : decode cX5_at 53 = .ok (.ireturn, 1) := by decide +kernel
theorem dX5_at_54 : decode cX5_at 54 = .ok (.aload_n 0, 1) := by decide +kernel
theorem dX5_at_55 : decode cX5_at 55 = .ok (.iload_n 1, 1) := by decide +kernel
theorem dX5_at_56 : decode cX5_at 56 = .ok (.invokevirtual 167, 3) := by decide +kernel
theorem dX5_at_59 : decode cX5_at 59 = .ok (.ireturn, 1) := by decide +kernel
theorem dX5_at_60 : decode cX5_at 60 = .ok (.aload_n 0, 1) := by decide +kernel
theorem dX5_at_61 : decode cX5_at 61 = .ok (.iload_n 1, 1) := by decide +kernel
theorem dX5_at_62 : decode cX5_at 62 = .ok (.invokevirtual 170, 3) := by decide +kernel
theorem dX5_at_65 : decode cX5_at 65 = .ok (.ireturn, 1) := by decide +kernel
theorem dX5_at_66 : decode cX5_at 66 = .ok (.aload_n 0, 1) := by decide +kernel
theorem dX5_at_67 : decode cX5_at 67 = .ok (.iload_n 1, 1) := by decide +kernel
theorem dX5_at_68 : decode cX5_at 68 = .ok (.invokevirtual 170, 3) := by decide +kernel
theorem dX5_at_71 : decode cX5_at 71 = .ok (.istore_n 3, 1) := by decide +kernel
theorem dX5_at_72 : decode cX5_at 72 = .ok (.iload_n 3, 1) := by decide +kernel
theorem dX5_at_73 : decode cX5_at 73 = .ok (.bipush (-105), 2) := by decide +kernel
theorem dX5_at_75 : decode cX5_at 75 = .ok (.if_icmp .ne 7, 3) := by decide +kernel
theorem dX5_at_78 : decode cX5_at 78 = .ok (.iconst 0, 1) := by decide +kernel
theorem dX5_at_79 : decode cX5_at 79 = .ok (.goto 9, 3) := by decide +kernel
theorem dX5_at_82 : decode cX5_at 82 = .ok (.aload_n 0, 1) := by decide +kernel
theorem dX5_at_83 : decode cX5_at 83 = .ok (.iload_n 1, 1) := by decide +kernel
theorem dX5_at_84 : decode cX5_at 84 = .ok (.iload_n 3, 1) := by decide +kernel
theorem dX5_at_85 : decode cX5_at 85 = .ok (.invokevirtual 78, 3) := by decide +kernel
theorem dX5_at_88 : decode cX5_at 88 = .ok (.ireturn, 1) := by decide +kernel
theorem dX5_at_89 : decode cX5_at 89 = .ok (.aload_n 0, 1) := by decide +kernel
theorem dX5_at_90 : decode cX5_at 90 = .ok (.iload_n 1, 1) := by decide +kernel
theorem dX5_at_91 : decode cX5_at 91 = .ok (.bipush (-105), 2) := by decide +kernel
theorem dX5_at_93 : decode cX5_at 93 = .ok (.invokevirtual 78, 3) := by decide +kernel
theorem dX5_at_96 : decode cX5_at 96 = .ok (.ireturn, 1) := by decide +kernel
theorem dX5_at_97 : decode cX5_at 97 = .ok (.bipush (-102), 2) := by decide +kernel
theorem dX5_at_99 : decode cX5_at 99 = .ok (.ireturn, 1) := by decide +kernel
theorem dX5_clearest_0 : decode cX5_clearest 0 = .ok (.bipush (-9), 2) := by decide +kernel
theorem dX5_clearest_2 : decode cX5_clearest 2 = .ok (.istore_n 2, 1) := by decide +kernel
theorem dX5_clearest_3 : decode cX5_clearest 3 = .ok (.bipush (-8), 2) := by decide +kernel
theorem dX5_clearest_5 : decode cX5_clearest 5 = .ok (.istore_n 3, 1) := by decide +kernel
theorem dX5_clearest_6 : decode cX5_clearest 6 = .ok (.iload_n 3, 1) := by decide +kernel
theorem dX5_clearest_7 : decode cX5_clearest 7 = .ok (.bipush 9, 2) := by decide +kernel
theorem dX5_clearest_9 : decode cX5_clearest 9 = .ok (.if_icmp .gt 53, 3) := by decide +kernel
theorem dX5_clearest_12 : decode cX5_clearest 12 = .ok (.aload_n 0, 1) := by decide +kernel
theorem dX5_clearest_13 : decode cX5_clearest 13 = .ok (.iload_n 3, 1) := by decide +kernel
theorem dX5_clearest_14 : decode cX5_clearest 14 = .ok (.iload_n 1, 1) := by decide +kernel
theorem dX5_clearest_15 : decode cX5_clearest 15 = .ok (.invokevirtual 78, 3) := by decide +kernel
theorem dX5_clearest_18 : decode cX5_clearest 18 = .ok (.aload_n 0, 1) := by decide +kernel
theorem dX5_clearest_19 : decode cX5_clearest 19 = .ok (.iload_n 2, 1) := by decide +kernel
theorem dX5_clearest_20 : decode cX5_clearest 20 = .ok (.iload_n 1, 1) := by decide +kernel
theorem dX5_clearest_21 : decode cX5_clearest 21 = .ok (.invokevirtual 78, 3) := by decide +kernel
theorem dX5_clearest_24 : decode cX5_clearest 24 = .ok (.isub, 1) := by decide +kernel
theorem dX5_clearest_25 : decode cX5_clearest 25 = .ok (.istore 4, 2) := by decide +kernel
theorem dX5_clearest_27 : decode cX5_clearest 27 = .ok (.iload 4, 2) := by decide +kernel
theorem dX5_clearest_29 : decode cX5_clearest 29 = .ok (.ifCond .gt 21, 3) := by decide +kernel
theorem dX5_clearest_32 : decode cX5_clearest 32 = .ok (.iload 4, 2) := by decide +kernel
theorem dX5_clearest_34 : decode cX5_clearest 34 = .ok (.ifCond .ne 20, 3) := by decide +kernel
theorem dX5_clearest_37 : decode cX5_clearest 37 = .ok (.aload_n 0, 1) := by decide +kernel
theorem dX5_clearest_38 : decode cX5_clearest 38 = .ok (.iload_n 3, 1) := by decide +kernel
theorem dX5_clearest_39 : decode cX5_clearest 39 = .ok (.invokevirtual 67, 3) := by decide +kernel
theorem dX5_clearest_42 : decode cX5_clearest 42 = .ok (.aload_n 0, 1) := by decide +kernel
theorem dX5_clearest_43 : decode cX5_clearest 43 = .ok (.iload_n 2, 1) := by decide +kernel
theorem dX5_clearest_44 : decode cX5_clearest 44 = .ok (.invokevirtual 67, 3) := by decide +kernel
theorem dX5_clearest_47 : decode cX5_clearest 47 = .ok (.if_icmp .ge 7, 3) := by decide +kernel
theorem dX5_clearest_50 : decode cX5_clearest 50 = .ok (.iload_n 3, 1) := by decide +kernel
theorem dX5_clearest_51 : decode cX5_clearest 51 = .ok (.goto 4, 3) := by decide +kernel
theorem dX5_clearest_54 : decode cX5_clearest 54 = .ok (.iload_n 2, 1) := by decide +kernel
theorem dX5_clearest_55 : decode cX5_clearest 55 = .ok (.istore_n 2, 1) := by decide +kernel
theorem dX5_clearest_56 : decode cX5_clearest 56 = .ok (.iinc 3 1, 3) := by decide +kernel
theorem dX5_clearest_59 : decode cX5_clearest 59 = .ok (.goto (-53), 3) := by decide +kernel
theorem dX5_clearest_62 : decode cX5_clearest 62 = .ok (.iload_n 2, 1) := by decide +kernel
theorem dX5_clearest_63 : decode cX5_clearest 63 = .ok (.ireturn, 1) := by decide +kernel
theorem dX5_slicesOf_0 : decode cX5_slicesOf 0 = .ok (.iconst 0, 1) := by decide +kernel
theorem dX5_slicesOf_1 : decode cX5_slicesOf 1 = .ok (.istore_n 2, 1) := by decide +kernel
theorem dX5_slicesOf_2 : decode cX5_slicesOf 2 = .ok (.iconst 0, 1) := by decide +kernel
theorem dX5_slicesOf_3 : decode cX5_slicesOf 3 = .ok (.istore_n 3, 1) := by decide +kernel
theorem dX5_slicesOf_4 : decode cX5_slicesOf 4 = .ok (.iload_n 3, 1) := by decide +kernel
theorem dX5_slicesOf_5 : decode cX5_slicesOf 5 = .ok (.aload_n 0, 1) := by decide +kernel
theorem dX5_slicesOf_6 : decode cX5_slicesOf 6 = .ok (.getfield 7, 3) := by decide +kernel
theorem dX5_slicesOf_9 : decode cX5_slicesOf 9 = .ok (.iconst 1, 1) := by decide +kernel
theorem dX5_slicesOf_10 : decode cX5_slicesOf 10 = .ok (.iaload, 1) := by decide +kernel
theorem dX5_slicesOf_11 : decode cX5_slicesOf 11 = .ok (.if_icmp .ge 30, 3) := by decide +kernel
theorem dX5_slicesOf_14 : decode cX5_slicesOf 14 = .ok (.iload_n 2, 1) := by decide +kernel
theorem dX5_slicesOf_15 : decode cX5_slicesOf 15 = .ok (.aload_n 0, 1) := by decide +kernel
theorem dX5_slicesOf_16 : decode cX5_slicesOf 16 = .ok (.getfield 7, 3) := by decide +kernel
theorem dX5_slicesOf_19 : decode cX5_slicesOf 19 = .ok (.bipush 7, 2) := by decide +kernel
theorem dX5_slicesOf_21 : decode cX5_slicesOf 21 = .ok (.iload_n 3, 1) := by decide +kernel
theorem dX5_slicesOf_22 : decode cX5_slicesOf 22 = .ok (.iadd, 1) := by decide +kernel
theorem dX5_slicesOf_23 : decode cX5_slicesOf 23 = .ok (.iaload, 1) := by decide +kernel
theorem dX5_slicesOf_24 : decode cX5_slicesOf 24 = .ok (.iload_n 1, 1) := by decide +kernel
theorem dX5_slicesOf_25 : decode cX5_slicesOf 25 = .ok (.if_icmp .ne 7, 3) := by decide +kernel
theorem dX5_slicesOf_28 : decode cX5_slicesOf 28 = .ok (.iconst 1, 1) := by decide +kernel
theorem dX5_slicesOf_29 : decode cX5_slicesOf 29 = .ok (.goto 4, 3) := by decide +kernel
theorem dX5_slicesOf_32 : decode cX5_slicesOf 32 = .ok (.iconst 0, 1) := by decide +kernel
theorem dX5_slicesOf_33 : decode cX5_slicesOf 33 = .ok (.iadd, 1) := by decide +kernel
theorem dX5_slicesOf_34 : decode cX5_slicesOf 34 = .ok (.istore_n 2, 1) := by decide +kernel
theorem dX5_slicesOf_35 : decode cX5_slicesOf 35 = .ok (.iinc 3 1, 3) := by decide +kernel
theorem dX5_slicesOf_38 : decode cX5_slicesOf 38 = .ok (.goto (-34), 3) := by decide +kernel
theorem dX5_slicesOf_41 : decode cX5_slicesOf 41 = .ok (.iload_n 2, 1) := by decide +kernel
theorem dX5_slicesOf_42 : decode cX5_slicesOf 42 = .ok (.ireturn, 1) := by decide +kernel
theorem dX5_view_0 : decode cX5_view 0 = .ok (.aload_n 0, 1) := by decide +kernel
theorem dX5_view_1 : decode cX5_view 1 = .ok (.iload_n 1, 1) := by decide +kernel
theorem dX5_view_2 : decode cX5_view 2 = .ok (.invokevirtual 84, 3) := by decide +kernel
theorem dX5_view_5 : decode cX5_view 5 = .ok (.ifCond .ne 6, 3) := by decide +kernel
theorem dX5_view_8 : decode cX5_view 8 = .ok (.bipush (-101), 2) := by decide +kernel
theorem dX5_view_10 : decode cX5_view 10 = .ok (.ireturn, 1) := by decide +kernel
theorem dX5_view_11 : decode cX5_view 11 = .ok (.aload_n 0, 1) := by decide +kernel
theorem dX5_view_12 : decode cX5_view 12 = .ok (.invokevirtual 71, 3) := by decide +kernel
theorem dX5_view_15 : decode cX5_view 15 = .ok (.iload_n 2, 1) := by decide +kernel
theorem dX5_view_16 : decode cX5_view 16 = .ok (.tableswitch 61 0 3 #[32, 38, 44, 50], 32) := by decide +kernel
theorem dX5_view_48 : decode cX5_view 48 = .ok (.aload_n 0, 1) := by decide +kernel
theorem dX5_view_49 : decode cX5_view 49 = .ok (.iload_n 1, 1) := by decide +kernel
theorem dX5_view_50 : decode cX5_view 50 = .ok (.invokevirtual 173, 3) := by decide +kernel
theorem dX5_view_53 : decode cX5_view 53 = .ok (.ireturn, 1) := by decide +kernel
theorem dX5_view_54 : decode cX5_view 54 = .ok (.aload_n 0, 1) := by decide +kernel
theorem dX5_view_55 : decode cX5_view 55 = .ok (.iload_n 1, 1) := by decide +kernel
theorem dX5_view_56 : decode cX5_view 56 = .ok (.invokevirtual 81, 3) := by decide +kernel
theorem dX5_view_59 : decode cX5_view 59 = .ok (.ireturn, 1) := by decide +kernel
theorem dX5_view_60 : decode cX5_view 60 = .ok (.aload_n 0, 1) := by decide +kernel
theorem dX5_view_61 : decode cX5_view 61 = .ok (.iload_n 1, 1) := by decide +kernel
theorem dX5_view_62 : decode cX5_view 62 = .ok (.invokevirtual 176, 3) := by decide +kernel
theorem dX5_view_65 : decode cX5_view 65 = .ok (.ireturn, 1) := by decide +kernel
theorem dX5_view_66 : decode cX5_view 66 = .ok (.aload_n 0, 1) := by decide +kernel
theorem dX5_view_67 : decode cX5_view 67 = .ok (.aload_n 0, 1) := by decide +kernel
theorem dX5_view_68 : decode cX5_view 68 = .ok (.iload_n 1, 1) := by decide +kernel
theorem dX5_view_69 : decode cX5_view 69 = .ok (.invokevirtual 176, 3) := by decide +kernel
theorem dX5_view_72 : decode cX5_view 72 = .ok (.iload_n 1, 1) := by decide +kernel
theorem dX5_view_73 : decode cX5_view 73 = .ok (.invokevirtual 78, 3) := by decide +kernel
theorem dX5_view_76 : decode cX5_view 76 = .ok (.ireturn, 1) := by decide +kernel
theorem dX5_view_77 : decode cX5_view 77 = .ok (.bipush (-102), 2) := by decide +kernel
theorem dX5_view_79 : decode cX5_view 79 = .ok (.ireturn, 1) := by decide +kernel
theorem dX5_bestOrder_0 : decode cX5_bestOrder 0 = .ok (.aload_n 0, 1) := by decide +kernel
theorem dX5_bestOrder_1 : decode cX5_bestOrder 1 = .ok (.iload_n 1, 1) := by decide +kernel
theorem dX5_bestOrder_2 : decode cX5_bestOrder 2 = .ok (.invokevirtual 112, 3) := by decide +kernel
theorem dX5_bestOrder_5 : decode cX5_bestOrder 5 = .ok (.ifCond .ne 6, 3) := by decide +kernel
theorem dX5_bestOrder_8 : decode cX5_bestOrder 8 = .ok (.bipush (-101), 2) := by decide +kernel
theorem dX5_bestOrder_10 : decode cX5_bestOrder 10 = .ok (.ireturn, 1) := by decide +kernel
theorem dX5_bestOrder_11 : decode cX5_bestOrder 11 = .ok (.aload_n 0, 1) := by decide +kernel
theorem dX5_bestOrder_12 : decode cX5_bestOrder 12 = .ok (.invokevirtual 118, 3) := by decide +kernel
theorem dX5_bestOrder_15 : decode cX5_bestOrder 15 = .ok (.aload_n 0, 1) := by decide +kernel
theorem dX5_bestOrder_16 : decode cX5_bestOrder 16 = .ok (.getfield 25, 3) := by decide +kernel
theorem dX5_bestOrder_19 : decode cX5_bestOrder 19 = .ok (.iload_n 1, 1) := by decide +kernel
theorem dX5_bestOrder_20 : decode cX5_bestOrder 20 = .ok (.iaload, 1) := by decide +kernel
theorem dX5_bestOrder_21 : decode cX5_bestOrder 21 = .ok (.ireturn, 1) := by decide +kernel
theorem dX5_bestShift_0 : decode cX5_bestShift 0 = .ok (.aload_n 0, 1) := by decide +kernel
theorem dX5_bestShift_1 : decode cX5_bestShift 1 = .ok (.getfield 7, 3) := by decide +kernel
theorem dX5_bestShift_4 : decode cX5_bestShift 4 = .ok (.iconst 2, 1) := by decide +kernel
theorem dX5_bestShift_5 : decode cX5_bestShift 5 = .ok (.iaload, 1) := by decide +kernel
theorem dX5_bestShift_6 : decode cX5_bestShift 6 = .ok (.istore_n 1, 1) := by decide +kernel
theorem dX5_bestShift_7 : decode cX5_bestShift 7 = .ok (.iconst 0, 1) := by decide +kernel
theorem dX5_bestShift_8 : decode cX5_bestShift 8 = .ok (.istore_n 2, 1) := by decide +kernel
theorem dX5_bestShift_9 : decode cX5_bestShift 9 = .ok (.iconst (-1), 1) := by decide +kernel
theorem dX5_bestShift_10 : decode cX5_bestShift 10 = .ok (.istore_n 3, 1) := by decide +kernel
theorem dX5_bestShift_11 : decode cX5_bestShift 11 = .ok (.iconst 0, 1) := by decide +kernel
theorem dX5_bestShift_12 : decode cX5_bestShift 12 = .ok (.istore 4, 2) := by decide +kernel
theorem dX5_bestShift_14 : decode cX5_bestShift 14 = .ok (.iload 4, 2) := by decide +kernel
theorem dX5_bestShift_16 : decode cX5_bestShift 16 = .ok (.bipush 6, 2) := by decide +kernel
theorem dX5_bestShift_18 : decode cX5_bestShift 18 = .ok (.if_icmp .gt 88, 3) := by decide +kernel
theorem dX5_bestShift_21 : decode cX5_bestShift 21 = .ok (.aload_n 0, 1) := by decide +kernel
theorem dX5_bestShift_22 : decode cX5_bestShift 22 = .ok (.getfield 7, 3) := by decide +kernel
theorem dX5_bestShift_25 : decode cX5_bestShift 25 = .ok (.iconst 2, 1) := by decide +kernel
theorem dX5_bestShift_26 : decode cX5_bestShift 26 = .ok (.iload 4, 2) := by decide +kernel
theorem dX5_bestShift_28 : decode cX5_bestShift 28 = .ok (.iconst 2, 1) := by decide +kernel
theorem dX5_bestShift_29 : decode cX5_bestShift 29 = .ok (.irem, 1) := by decide +kernel
theorem dX5_bestShift_30 : decode cX5_bestShift 30 = .ok (.iconst 1, 1) := by decide +kernel
theorem dX5_bestShift_31 : decode cX5_bestShift 31 = .ok (.if_icmp .ne 13, 3) := by decide +kernel
theorem dX5_bestShift_34 : decode cX5_bestShift 34 = .ok (.iload 4, 2) := by decide +kernel
theorem dX5_bestShift_36 : decode cX5_bestShift 36 = .ok (.iconst 1, 1) := by decide +kernel
theorem dX5_bestShift_37 : decode cX5_bestShift 37 = .ok (.iadd, 1) := by decide +kernel
theorem dX5_bestShift_38 : decode cX5_bestShift 38 = .ok (.ineg, 1) := by decide +kernel
theorem dX5_bestShift_39 : decode cX5_bestShift 39 = .ok (.iconst 2, 1) := by decide +kernel
theorem dX5_bestShift_40 : decode cX5_bestShift 40 = .ok (.idiv, 1) := by decide +kernel
theorem dX5_bestShift_41 : decode cX5_bestShift 41 = .ok (.goto 7, 3) := by decide +kernel
theorem dX5_bestShift_44 : decode cX5_bestShift 44 = .ok (.iload 4, 2) := by decide +kernel
theorem dX5_bestShift_46 : decode cX5_bestShift 46 = .ok (.iconst 2, 1) := by decide +kernel
theorem dX5_bestShift_47 : decode cX5_bestShift 47 = .ok (.idiv, 1) := by decide +kernel
theorem dX5_bestShift_48 : decode cX5_bestShift 48 = .ok (.iastore, 1) := by decide +kernel
theorem dX5_bestShift_49 : decode cX5_bestShift 49 = .ok (.aload_n 0, 1) := by decide +kernel
theorem dX5_bestShift_50 : decode cX5_bestShift 50 = .ok (.invokevirtual 121, 3) := by decide +kernel
theorem dX5_bestShift_53 : decode cX5_bestShift 53 = .ok (.istore 5, 2) := by decide +kernel
theorem dX5_bestShift_55 : decode cX5_bestShift 55 = .ok (.iload_n 3, 1) := by decide +kernel
theorem dX5_bestShift_56 : decode cX5_bestShift 56 = .ok (.ifCond .lt 9, 3) := by decide +kernel
theorem dX5_bestShift_59 : decode cX5_bestShift 59 = .ok (.iload 5, 2) := by decide +kernel
theorem dX5_bestShift_61 : decode cX5_bestShift 61 = .ok (.iload_n 3, 1) := by decide +kernel
theorem dX5_bestShift_62 : decode cX5_bestShift 62 = .ok (.if_icmp .ge 7, 3) := by decide +kernel
theorem dX5_bestShift_65 : decode cX5_bestShift 65 = .ok (.iconst 1, 1) := by decide +kernel
theorem dX5_bestShift_66 : decode cX5_bestShift 66 = .ok (.goto 4, 3) := by decide +kernel
theorem dX5_bestShift_69 : decode cX5_bestShift 69 = .ok (.iconst 0, 1) := by decide +kernel
theorem dX5_bestShift_70 : decode cX5_bestShift 70 = .ok (.istore 6, 2) := by decide +kernel
theorem dX5_bestShift_72 : decode cX5_bestShift 72 = .ok (.iload 6, 2) := by decide +kernel
theorem dX5_bestShift_74 : decode cX5_bestShift 74 = .ok (.ifCond .eq 12, 3) := by decide +kernel
theorem dX5_bestShift_77 : decode cX5_bestShift 77 = .ok (.aload_n 0, 1) := by decide +kernel
theorem dX5_bestShift_78 : decode cX5_bestShift 78 = .ok (.getfield 7, 3) := by decide +kernel
theorem dX5_bestShift_81 : decode cX5_bestShift 81 = .ok (.iconst 2, 1) := by decide +kernel
theorem dX5_bestShift_82 : decode cX5_bestShift 82 = .ok (.iaload, 1) := by decide +kernel
theorem dX5_bestShift_83 : decode cX5_bestShift 83 = .ok (.goto 4, 3) := by decide +kernel
theorem dX5_bestShift_86 : decode cX5_bestShift 86 = .ok (.iload_n 2, 1) := by decide +kernel
theorem dX5_bestShift_87 : decode cX5_bestShift 87 = .ok (.istore_n 2, 1) := by decide +kernel
theorem dX5_bestShift_88 : decode cX5_bestShift 88 = .ok (.iload 6, 2) := by decide +kernel
theorem dX5_bestShift_90 : decode cX5_bestShift 90 = .ok (.ifCond .eq 8, 3) := by decide +kernel
theorem dX5_bestShift_93 : decode cX5_bestShift 93 = .ok (.iload 5, 2) := by decide +kernel
theorem dX5_bestShift_95 : decode cX5_bestShift 95 = .ok (.goto 4, 3) := by decide +kernel
theorem dX5_bestShift_98 : decode cX5_bestShift 98 = .ok (.iload_n 3, 1) := by decide +kernel
theorem dX5_bestShift_99 : decode cX5_bestShift 99 = .ok (.istore_n 3, 1) := by decide +kernel
theorem dX5_bestShift_100 : decode cX5_bestShift 100 = .ok (.iinc 4 1, 3) := by decide +kernel
theorem dX5_bestShift_103 : decode cX5_bestShift 103 = .ok (.goto (-89), 3) := by decide +kernel
theorem dX5_bestShift_106 : decode cX5_bestShift 106 = .ok (.aload_n 0, 1) := by decide +kernel
theorem dX5_bestShift_107 : decode cX5_bestShift 107 = .ok (.getfield 7, 3) := by decide +kernel
theorem dX5_bestShift_110 : decode cX5_bestShift 110 = .ok (.iconst 2, 1) := by decide +kernel
theorem dX5_bestShift_111 : decode cX5_bestShift 111 = .ok (.iload_n 1, 1) := by decide +kernel
theorem dX5_bestShift_112 : decode cX5_bestShift 112 = .ok (.iastore, 1) := by decide +kernel
theorem dX5_bestShift_113 : decode cX5_bestShift 113 = .ok (.iload_n 2, 1) := by decide +kernel
theorem dX5_bestShift_114 : decode cX5_bestShift 114 = .ok (.ireturn, 1) := by decide +kernel
theorem dX5_ifSlice_0 : decode cX5_ifSlice 0 = .ok (.aload_n 0, 1) := by decide +kernel
theorem dX5_ifSlice_1 : decode cX5_ifSlice 1 = .ok (.iload_n 1, 1) := by decide +kernel
theorem dX5_ifSlice_2 : decode cX5_ifSlice 2 = .ok (.invokevirtual 112, 3) := by decide +kernel
theorem dX5_ifSlice_5 : decode cX5_ifSlice 5 = .ok (.ifCond .eq 11, 3) := by decide +kernel
theorem dX5_ifSlice_8 : decode cX5_ifSlice 8 = .ok (.aload_n 0, 1) := by decide +kernel
theorem dX5_ifSlice_9 : decode cX5_ifSlice 9 = .ok (.iload_n 2, 1) := by decide +kernel
theorem dX5_ifSlice_10 : decode cX5_ifSlice 10 = .ok (.invokevirtual 84, 3) := by decide +kernel
theorem dX5_ifSlice_13 : decode cX5_ifSlice 13 = .ok (.ifCond .ne 6, 3) := by decide +kernel
theorem dX5_ifSlice_16 : decode cX5_ifSlice 16 = .ok (.bipush (-101), 2) := by decide +kernel
theorem dX5_ifSlice_18 : decode cX5_ifSlice 18 = .ok (.ireturn, 1) := by decide +kernel
theorem dX5_ifSlice_19 : decode cX5_ifSlice 19 = .ok (.aload_n 0, 1) := by decide +kernel
theorem dX5_ifSlice_20 : decode cX5_ifSlice 20 = .ok (.getfield 7, 3) := by decide +kernel
theorem dX5_ifSlice_23 : decode cX5_ifSlice 23 = .ok (.bipush 7, 2) := by decide +kernel
theorem dX5_ifSlice_25 : decode cX5_ifSlice 25 = .ok (.iload_n 1, 1) := by decide +kernel
theorem dX5_ifSlice_26 : decode cX5_ifSlice 26 = .ok (.iadd, 1) := by decide +kernel
theorem dX5_ifSlice_27 : decode cX5_ifSlice 27 = .ok (.iaload, 1) := by decide +kernel
theorem dX5_ifSlice_28 : decode cX5_ifSlice 28 = .ok (.istore_n 3, 1) := by decide +kernel
theorem dX5_ifSlice_29 : decode cX5_ifSlice 29 = .ok (.aload_n 0, 1) := by decide +kernel
theorem dX5_ifSlice_30 : decode cX5_ifSlice 30 = .ok (.getfield 7, 3) := by decide +kernel
theorem dX5_ifSlice_33 : decode cX5_ifSlice 33 = .ok (.bipush 7, 2) := by decide +kernel
theorem dX5_ifSlice_35 : decode cX5_ifSlice 35 = .ok (.iload_n 1, 1) := by decide +kernel
theorem dX5_ifSlice_36 : decode cX5_ifSlice 36 = .ok (.iadd, 1) := by decide +kernel
theorem dX5_ifSlice_37 : decode cX5_ifSlice 37 = .ok (.iload_n 2, 1) := by decide +kernel
theorem dX5_ifSlice_38 : decode cX5_ifSlice 38 = .ok (.iastore, 1) := by decide +kernel
theorem dX5_ifSlice_39 : decode cX5_ifSlice 39 = .ok (.aload_n 0, 1) := by decide +kernel
theorem dX5_ifSlice_40 : decode cX5_ifSlice 40 = .ok (.invokevirtual 121, 3) := by decide +kernel
theorem dX5_ifSlice_43 : decode cX5_ifSlice 43 = .ok (.istore 4, 2) := by decide +kernel
theorem dX5_ifSlice_45 : decode cX5_ifSlice 45 = .ok (.aload_n 0, 1) := by decide +kernel
theorem dX5_ifSlice_46 : decode cX5_ifSlice 46 = .ok (.getfield 7, 3) := by decide +kernel
theorem dX5_ifSlice_49 : decode cX5_ifSlice 49 = .ok (.bipush 7, 2) := by decide +kernel
theorem dX5_ifSlice_51 : decode cX5_ifSlice 51 = .ok (.iload_n 1, 1) := by decide +kernel
theorem dX5_ifSlice_52 : decode cX5_ifSlice 52 = .ok (.iadd, 1) := by decide +kernel
theorem dX5_ifSlice_53 : decode cX5_ifSlice 53 = .ok (.iload_n 3, 1) := by decide +kernel
theorem dX5_ifSlice_54 : decode cX5_ifSlice 54 = .ok (.iastore, 1) := by decide +kernel
theorem dX5_ifSlice_55 : decode cX5_ifSlice 55 = .ok (.iload 4, 2) := by decide +kernel
theorem dX5_ifSlice_57 : decode cX5_ifSlice 57 = .ok (.ireturn, 1) := by decide +kernel
theorem dX5_count_0 : decode cX5_count 0 = .ok (.iload_n 1, 1) := by decide +kernel
theorem dX5_count_1 : decode cX5_count 1 = .ok (.tableswitch 136 0 12 #[67, 67, 67, 67, 74, 79, 79, 95, 95, 104, 118, 126, 131], 67) := by decide +kernel
theorem dX5_count_68 : decode cX5_count 68 = .ok (.aload_n 0, 1) := by decide +kernel
theorem dX5_count_69 : decode cX5_count 69 = .ok (.getfield 7, 3) := by decide +kernel
theorem dX5_count_72 : decode cX5_count 72 = .ok (.iload_n 1, 1) := by decide +kernel
theorem dX5_count_73 : decode cX5_count 73 = .ok (.iaload, 1) := by decide +kernel
theorem dX5_count_74 : decode cX5_count 74 = .ok (.ireturn, 1) := by decide +kernel
theorem dX5_count_75 : decode cX5_count 75 = .ok (.aload_n 0, 1) := by decide +kernel
theorem dX5_count_76 : decode cX5_count 76 = .ok (.invokevirtual 121, 3) := by decide +kernel
theorem dX5_count_79 : decode cX5_count 79 = .ok (.ireturn, 1) := by decide +kernel
theorem dX5_count_80 : decode cX5_count 80 = .ok (.aload_n 0, 1) := by decide +kernel
theorem dX5_count_81 : decode cX5_count 81 = .ok (.iload_n 1, 1) := by decide +kernel
theorem dX5_count_82 : decode cX5_count 82 = .ok (.bipush 6, 2) := by decide +kernel
theorem dX5_count_84 : decode cX5_count 84 = .ok (.if_icmp .ne 7, 3) := by decide +kernel
theorem dX5_count_87 : decode cX5_count 87 = .ok (.iconst 1, 1) := by decide +kernel
theorem dX5_count_88 : decode cX5_count 88 = .ok (.goto 4, 3) := by decide +kernel
theorem dX5_count_91 : decode cX5_count 91 = .ok (.iconst 0, 1) := by decide +kernel
theorem dX5_count_92 : decode cX5_count 92 = .ok (.invokevirtual 127, 3) := by decide +kernel
theorem dX5_count_95 : decode cX5_count 95 = .ok (.ireturn, 1) := by decide +kernel
theorem dX5_count_96 : decode cX5_count 96 = .ok (.aload_n 0, 1) := by decide +kernel
theorem dX5_count_97 : decode cX5_count 97 = .ok (.getfield 7, 3) := by decide +kernel
theorem dX5_count_100 : decode cX5_count 100 = .ok (.iload_n 1, 1) := by decide +kernel
theorem dX5_count_101 : decode cX5_count 101 = .ok (.iconst 3, 1) := by decide +kernel
theorem dX5_count_102 : decode cX5_count 102 = .ok (.isub, 1) := by decide +kernel
theorem dX5_count_103 : decode cX5_count 103 = .ok (.iaload, 1) := by decide +kernel
theorem dX5_count_104 : decode cX5_count 104 = .ok (.ireturn, 1) := by decide +kernel
theorem dX5_count_105 : decode cX5_count 105 = .ok (.aload_n 0, 1) := by decide +kernel
theorem dX5_count_106 : decode cX5_count 106 = .ok (.getfield 7, 3) := by decide +kernel
theorem dX5_count_109 : decode cX5_count 109 = .ok (.iconst 4, 1) := by decide +kernel
theorem dX5_count_110 : decode cX5_count 110 = .ok (.iaload, 1) := by decide +kernel
theorem dX5_count_111 : decode cX5_count 111 = .ok (.aload_n 0, 1) := by decide +kernel
theorem dX5_count_112 : decode cX5_count 112 = .ok (.getfield 7, 3) := by decide +kernel
theorem dX5_count_115 : decode cX5_count 115 = .ok (.iconst 5, 1) := by decide +kernel
theorem dX5_count_116 : decode cX5_count 116 = .ok (.iaload, 1) := by decide +kernel
theorem dX5_count_117 : decode cX5_count 117 = .ok (.isub, 1) := by decide +kernel
theorem dX5_count_118 : decode cX5_count 118 = .ok (.ireturn, 1) := by decide +kernel
theorem dX5_count_119 : decode cX5_count 119 = .ok (.aload_n 0, 1) := by decide +kernel
theorem dX5_count_120 : decode cX5_count 120 = .ok (.getfield 7, 3) := by decide +kernel
theorem dX5_count_123 : decode cX5_count 123 = .ok (.bipush 6, 2) := by decide +kernel
theorem dX5_count_125 : decode cX5_count 125 = .ok (.iaload, 1) := by decide +kernel
theorem dX5_count_126 : decode cX5_count 126 = .ok (.ireturn, 1) := by decide +kernel
theorem dX5_count_127 : decode cX5_count 127 = .ok (.aload_n 0, 1) := by decide +kernel
theorem dX5_count_128 : decode cX5_count 128 = .ok (.getfield 37, 3) := by decide +kernel
theorem dX5_count_131 : decode cX5_count 131 = .ok (.ireturn, 1) := by decide +kernel
theorem dX5_count_132 : decode cX5_count 132 = .ok (.aload_n 0, 1) := by decide +kernel
theorem dX5_count_133 : decode cX5_count 133 = .ok (.getfield 131, 3) := by decide +kernel
theorem dX5_count_136 : decode cX5_count 136 = .ok (.ireturn, 1) := by decide +kernel
theorem dX5_count_137 : decode cX5_count 137 = .ok (.bipush (-102), 2) := by decide +kernel
theorem dX5_count_139 : decode cX5_count 139 = .ok (.ireturn, 1) := by decide +kernel
theorem dJ9_max_7cf53_0 : decode cJ9_max_7cf53 0 = .ok (.iload_n 0, 1) := by decide +kernel
theorem dJ9_max_7cf53_1 : decode cJ9_max_7cf53 1 = .ok (.iload_n 1, 1) := by decide +kernel
theorem dJ9_max_7cf53_2 : decode cJ9_max_7cf53 2 = .ok (.if_icmp .lt 7, 3) := by decide +kernel
theorem dJ9_max_7cf53_5 : decode cJ9_max_7cf53 5 = .ok (.iload_n 0, 1) := by decide +kernel
theorem dJ9_max_7cf53_6 : decode cJ9_max_7cf53 6 = .ok (.goto 4, 3) := by decide +kernel
theorem dJ9_max_7cf53_9 : decode cJ9_max_7cf53 9 = .ok (.iload_n 1, 1) := by decide +kernel
theorem dJ9_max_7cf53_10 : decode cJ9_max_7cf53 10 = .ok (.ireturn, 1) := by decide +kernel
theorem dJ9_min_7cf53_0 : decode cJ9_min_7cf53 0 = .ok (.iload_n 0, 1) := by decide +kernel
theorem dJ9_min_7cf53_1 : decode cJ9_min_7cf53 1 = .ok (.iload_n 1, 1) := by decide +kernel
theorem dJ9_min_7cf53_2 : decode cJ9_min_7cf53 2 = .ok (.if_icmp .gt 7, 3) := by decide +kernel
theorem dJ9_min_7cf53_5 : decode cJ9_min_7cf53 5 = .ok (.iload_n 0, 1) := by decide +kernel
theorem dJ9_min_7cf53_6 : decode cJ9_min_7cf53 6 = .ok (.goto 4, 3) := by decide +kernel
theorem dJ9_min_7cf53_9 : decode cJ9_min_7cf53 9 = .ok (.iload_n 1, 1) := by decide +kernel
theorem dJ9_min_7cf53_10 : decode cJ9_min_7cf53 10 = .ok (.ireturn, 1) := by decide +kernel
theorem dL_law_0 : decode cL_law 0 = .ok (.new 7, 3) := by decide +kernel
theorem dL_law_3 : decode cL_law 3 = .ok (.dup, 1) := by decide +kernel
theorem dL_law_4 : decode cL_law 4 = .ok (.invokespecial 9, 3) := by decide +kernel
theorem dL_law_7 : decode cL_law 7 = .ok (.astore_n 1, 1) := by decide +kernel
theorem dL_law_8 : decode cL_law 8 = .ok (.new 10, 3) := by decide +kernel
theorem dL_law_11 : decode cL_law 11 = .ok (.dup, 1) := by decide +kernel
theorem dL_law_12 : decode cL_law 12 = .ok (.invokespecial 12, 3) := by decide +kernel
theorem dL_law_15 : decode cL_law 15 = .ok (.astore_n 2, 1) := by decide +kernel
theorem dL_law_16 : decode cL_law 16 = .ok (.iconst 0, 1) := by decide +kernel
theorem dL_law_17 : decode cL_law 17 = .ok (.istore_n 3, 1) := by decide +kernel
theorem dL_law_18 : decode cL_law 18 = .ok (.iload_n 3, 1) := by decide +kernel
theorem dL_law_19 : decode cL_law 19 = .ok (.aload_n 0, 1) := by decide +kernel
theorem dL_law_20 : decode cL_law 20 = .ok (.arraylength, 1) := by decide +kernel
theorem dL_law_21 : decode cL_law 21 = .ok (.iconst 4, 1) := by decide +kernel
theorem dL_law_22 : decode cL_law 22 = .ok (.isub, 1) := by decide +kernel
theorem dL_law_23 : decode cL_law 23 = .ok (.if_icmp .gt 775, 3) := by decide +kernel
theorem dL_law_26 : decode cL_law 26 = .ok (.aload_n 0, 1) := by decide +kernel
theorem dL_law_27 : decode cL_law 27 = .ok (.iload_n 3, 1) := by decide +kernel
theorem dL_law_28 : decode cL_law 28 = .ok (.iaload, 1) := by decide +kernel
theorem dL_law_29 : decode cL_law 29 = .ok (.bipush 31, 2) := by decide +kernel
theorem dL_law_31 : decode cL_law 31 = .ok (.iand, 1) := by decide +kernel
theorem dL_law_32 : decode cL_law 32 = .ok (.tableswitch 760 0 25 #[120, 163, 176, 199, 232, 255, 288, 311, 334, 347, 360, 383, 408, 421, 434, 447, 460, 493, 516, 559, 602, 635, 668, 691, 704, 737], 120) := by decide +kernel
theorem dL_law_152 : decode cL_law 152 = .ok (.aload_n 1, 1) := by decide +kernel
theorem dL_law_153 : decode cL_law 153 = .ok (.aload_n 0, 1) := by decide +kernel
theorem dL_law_154 : decode cL_law 154 = .ok (.iload_n 3, 1) := by decide +kernel
theorem dL_law_155 : decode cL_law 155 = .ok (.iconst 1, 1) := by decide +kernel
theorem dL_law_156 : decode cL_law 156 = .ok (.iadd, 1) := by decide +kernel
theorem dL_law_157 : decode cL_law 157 = .ok (.iaload, 1) := by decide +kernel
theorem dL_law_158 : decode cL_law 158 = .ok (.aload_n 0, 1) := by decide +kernel
theorem dL_law_159 : decode cL_law 159 = .ok (.iload_n 3, 1) := by decide +kernel
theorem dL_law_160 : decode cL_law 160 = .ok (.iconst 2, 1) := by decide +kernel
theorem dL_law_161 : decode cL_law 161 = .ok (.iadd, 1) := by decide +kernel
theorem dL_law_162 : decode cL_law 162 = .ok (.iaload, 1) := by decide +kernel
theorem dL_law_163 : decode cL_law 163 = .ok (.aload_n 0, 1) := by decide +kernel
theorem dL_law_164 : decode cL_law 164 = .ok (.iload_n 3, 1) := by decide +kernel
theorem dL_law_165 : decode cL_law 165 = .ok (.iconst 3, 1) := by decide +kernel
theorem dL_law_166 : decode cL_law 166 = .ok (.iadd, 1) := by decide +kernel
theorem dL_law_167 : decode cL_law 167 = .ok (.iaload, 1) := by decide +kernel
theorem dL_law_168 : decode cL_law 168 = .ok (.invokevirtual 13, 3) := by decide +kernel
theorem dL_law_171 : decode cL_law 171 = .ok (.aload_n 2, 1) := by decide +kernel
theorem dL_law_172 : decode cL_law 172 = .ok (.aload_n 0, 1) := by decide +kernel
theorem dL_law_173 : decode cL_law 173 = .ok (.iload_n 3, 1) := by decide +kernel
theorem dL_law_174 : decode cL_law 174 = .ok (.iconst 1, 1) := by decide +kernel
theorem dL_law_175 : decode cL_law 175 = .ok (.iadd, 1) := by decide +kernel
theorem dL_law_176 : decode cL_law 176 = .ok (.iaload, 1) := by decide +kernel
theorem dL_law_177 : decode cL_law 177 = .ok (.aload_n 0, 1) := by decide +kernel
theorem dL_law_178 : decode cL_law 178 = .ok (.iload_n 3, 1) := by decide +kernel
theorem dL_law_179 : decode cL_law 179 = .ok (.iconst 2, 1) := by decide +kernel
theorem dL_law_180 : decode cL_law 180 = .ok (.iadd, 1) := by decide +kernel
theorem dL_law_181 : decode cL_law 181 = .ok (.iaload, 1) := by decide +kernel
theorem dL_law_182 : decode cL_law 182 = .ok (.aload_n 0, 1) := by decide +kernel
theorem dL_law_183 : decode cL_law 183 = .ok (.iload_n 3, 1) := by decide +kernel
theorem dL_law_184 : decode cL_law 184 = .ok (.iconst 3, 1) := by decide +kernel
theorem dL_law_185 : decode cL_law 185 = .ok (.iadd, 1) := by decide +kernel
theorem dL_law_186 : decode cL_law 186 = .ok (.iaload, 1) := by decide +kernel
theorem dL_law_187 : decode cL_law 187 = .ok (.invokevirtual 17, 3) := by decide +kernel
theorem dL_law_190 : decode cL_law 190 = .ok (.if_icmp .eq 602, 3) := by decide +kernel
theorem dL_law_193 : decode cL_law 193 = .ok (.iconst 0, 1) := by decide +kernel
theorem dL_law_194 : decode cL_law 194 = .ok (.ireturn, 1) := by decide +kernel
theorem dL_law_195 : decode cL_law 195 = .ok (.aload_n 1, 1) := by decide +kernel
theorem dL_law_196 : decode cL_law 196 = .ok (.invokevirtual 18, 3) := by decide +kernel
theorem dL_law_199 : decode cL_law 199 = .ok (.aload_n 2, 1) := by decide +kernel
theorem dL_law_200 : decode cL_law 200 = .ok (.invokevirtual 22, 3) := by decide +kernel
theorem dL_law_203 : decode cL_law 203 = .ok (.if_icmp .eq 589, 3) := by decide +kernel
theorem dL_law_206 : decode cL_law 206 = .ok (.iconst 0, 1) := by decide +kernel
theorem dL_law_207 : decode cL_law 207 = .ok (.ireturn, 1) := by decide +kernel
theorem dL_law_208 : decode cL_law 208 = .ok (.aload_n 1, 1) := by decide +kernel
theorem dL_law_209 : decode cL_law 209 = .ok (.aload_n 0, 1) := by decide +kernel
theorem dL_law_210 : decode cL_law 210 = .ok (.iload_n 3, 1) := by decide +kernel
theorem dL_law_211 : decode cL_law 211 = .ok (.iconst 1, 1) := by decide +kernel
theorem dL_law_212 : decode cL_law 212 = .ok (.iadd, 1) := by decide +kernel
theorem dL_law_213 : decode cL_law 213 = .ok (.iaload, 1) := by decide +kernel
theorem dL_law_214 : decode cL_law 214 = .ok (.invokevirtual 23, 3) := by decide +kernel
theorem dL_law_217 : decode cL_law 217 = .ok (.aload_n 2, 1) := by decide +kernel
theorem dL_law_218 : decode cL_law 218 = .ok (.aload_n 0, 1) := by decide +kernel
theorem dL_law_219 : decode cL_law 219 = .ok (.iload_n 3, 1) := by decide +kernel
theorem dL_law_220 : decode cL_law 220 = .ok (.iconst 1, 1) := by decide +kernel
theorem dL_law_221 : decode cL_law 221 = .ok (.iadd, 1) := by decide +kernel
theorem dL_law_222 : decode cL_law 222 = .ok (.iaload, 1) := by decide +kernel
theorem dL_law_223 : decode cL_law 223 = .ok (.invokevirtual 27, 3) := by decide +kernel
theorem dL_law_226 : decode cL_law 226 = .ok (.if_icmp .eq 566, 3) := by decide +kernel
theorem dL_law_229 : decode cL_law 229 = .ok (.iconst 0, 1) := by decide +kernel
theorem dL_law_230 : decode cL_law 230 = .ok (.ireturn, 1) := by decide +kernel
theorem dL_law_231 : decode cL_law 231 = .ok (.aload_n 1, 1) := by decide +kernel
theorem dL_law_232 : decode cL_law 232 = .ok (.aload_n 0, 1) := by decide +kernel
theorem dL_law_233 : decode cL_law 233 = .ok (.iload_n 3, 1) := by decide +kernel
theorem dL_law_234 : decode cL_law 234 = .ok (.iconst 1, 1) := by decide +kernel
theorem dL_law_235 : decode cL_law 235 = .ok (.iadd, 1) := by decide +kernel
theorem dL_law_236 : decode cL_law 236 = .ok (.iaload, 1) := by decide +kernel
theorem dL_law_237 : decode cL_law 237 = .ok (.aload_n 0, 1) := by decide +kernel
theorem dL_law_238 : decode cL_law 238 = .ok (.iload_n 3, 1) := by decide +kernel
theorem dL_law_239 : decode cL_law 239 = .ok (.iconst 2, 1) := by decide +kernel
theorem dL_law_240 : decode cL_law 240 = .ok (.iadd, 1) := by decide +kernel
theorem dL_law_241 : decode cL_law 241 = .ok (.iaload, 1) := by decide +kernel
theorem dL_law_242 : decode cL_law 242 = .ok (.invokevirtual 28, 3) := by decide +kernel
theorem dL_law_245 : decode cL_law 245 = .ok (.aload_n 2, 1) := by decide +kernel
theorem dL_law_246 : decode cL_law 246 = .ok (.aload_n 0, 1) := by decide +kernel
theorem dL_law_247 : decode cL_law 247 = .ok (.iload_n 3, 1) := by decide +kernel
theorem dL_law_248 : decode cL_law 248 = .ok (.iconst 1, 1) := by decide +kernel
theorem dL_law_249 : decode cL_law 249 = .ok (.iadd, 1) := by decide +kernel
theorem dL_law_250 : decode cL_law 250 = .ok (.iaload, 1) := by decide +kernel
theorem dL_law_251 : decode cL_law 251 = .ok (.aload_n 0, 1) := by decide +kernel
theorem dL_law_252 : decode cL_law 252 = .ok (.iload_n 3, 1) := by decide +kernel
theorem dL_law_253 : decode cL_law 253 = .ok (.iconst 2, 1) := by decide +kernel
theorem dL_law_254 : decode cL_law 254 = .ok (.iadd, 1) := by decide +kernel
theorem dL_law_255 : decode cL_law 255 = .ok (.iaload, 1) := by decide +kernel
theorem dL_law_256 : decode cL_law 256 = .ok (.invokevirtual 32, 3) := by decide +kernel
theorem dL_law_259 : decode cL_law 259 = .ok (.if_icmp .eq 533, 3) := by decide +kernel
theorem dL_law_262 : decode cL_law 262 = .ok (.iconst 0, 1) := by decide +kernel
theorem dL_law_263 : decode cL_law 263 = .ok (.ireturn, 1) := by decide +kernel
theorem dL_law_264 : decode cL_law 264 = .ok (.aload_n 1, 1) := by decide +kernel
theorem dL_law_265 : decode cL_law 265 = .ok (.aload_n 0, 1) := by decide +kernel
theorem dL_law_266 : decode cL_law 266 = .ok (.iload_n 3, 1) := by decide +kernel
theorem dL_law_267 : decode cL_law 267 = .ok (.iconst 1, 1) := by decide +kernel
theorem dL_law_268 : decode cL_law 268 = .ok (.iadd, 1) := by decide +kernel
theorem dL_law_269 : decode cL_law 269 = .ok (.iaload, 1) := by decide +kernel
theorem dL_law_270 : decode cL_law 270 = .ok (.invokevirtual 33, 3) := by decide +kernel
theorem dL_law_273 : decode cL_law 273 = .ok (.aload_n 2, 1) := by decide +kernel
theorem dL_law_274 : decode cL_law 274 = .ok (.aload_n 0, 1) := by decide +kernel
theorem dL_law_275 : decode cL_law 275 = .ok (.iload_n 3, 1) := by decide +kernel
theorem dL_law_276 : decode cL_law 276 = .ok (.iconst 1, 1) := by decide +kernel
theorem dL_law_277 : decode cL_law 277 = .ok (.iadd, 1) := by decide +kernel
theorem dL_law_278 : decode cL_law 278 = .ok (.iaload, 1) := by decide +kernel
theorem dL_law_279 : decode cL_law 279 = .ok (.invokevirtual 36, 3) := by decide +kernel
theorem dL_law_282 : decode cL_law 282 = .ok (.if_icmp .eq 510, 3) := by decide +kernel
theorem dL_law_285 : decode cL_law 285 = .ok (.iconst 0, 1) := by decide +kernel
theorem dL_law_286 : decode cL_law 286 = .ok (.ireturn, 1) := by decide +kernel
theorem dL_law_287 : decode cL_law 287 = .ok (.aload_n 1, 1) := by decide +kernel
theorem dL_law_288 : decode cL_law 288 = .ok (.aload_n 0, 1) := by decide +kernel
theorem dL_law_289 : decode cL_law 289 = .ok (.iload_n 3, 1) := by decide +kernel
theorem dL_law_290 : decode cL_law 290 = .ok (.iconst 1, 1) := by decide +kernel
theorem dL_law_291 : decode cL_law 291 = .ok (.iadd, 1) := by decide +kernel
theorem dL_law_292 : decode cL_law 292 = .ok (.iaload, 1) := by decide +kernel
theorem dL_law_293 : decode cL_law 293 = .ok (.aload_n 0, 1) := by decide +kernel
theorem dL_law_294 : decode cL_law 294 = .ok (.iload_n 3, 1) := by decide +kernel
theorem dL_law_295 : decode cL_law 295 = .ok (.iconst 2, 1) := by decide +kernel
theorem dL_law_296 : decode cL_law 296 = .ok (.iadd, 1) := by decide +kernel
theorem dL_law_297 : decode cL_law 297 = .ok (.iaload, 1) := by decide +kernel
theorem dL_law_298 : decode cL_law 298 = .ok (.invokevirtual 37, 3) := by decide +kernel
theorem dL_law_301 : decode cL_law 301 = .ok (.aload_n 2, 1) := by decide +kernel
theorem dL_law_302 : decode cL_law 302 = .ok (.aload_n 0, 1) := by decide +kernel
theorem dL_law_303 : decode cL_law 303 = .ok (.iload_n 3, 1) := by decide +kernel
theorem dL_law_304 : decode cL_law 304 = .ok (.iconst 1, 1) := by decide +kernel
theorem dL_law_305 : decode cL_law 305 = .ok (.iadd, 1) := by decide +kernel
theorem dL_law_306 : decode cL_law 306 = .ok (.iaload, 1) := by decide +kernel
theorem dL_law_307 : decode cL_law 307 = .ok (.aload_n 0, 1) := by decide +kernel
theorem dL_law_308 : decode cL_law 308 = .ok (.iload_n 3, 1) := by decide +kernel
theorem dL_law_309 : decode cL_law 309 = .ok (.iconst 2, 1) := by decide +kernel
theorem dL_law_310 : decode cL_law 310 = .ok (.iadd, 1) := by decide +kernel
theorem dL_law_311 : decode cL_law 311 = .ok (.iaload, 1) := by decide +kernel
theorem dL_law_312 : decode cL_law 312 = .ok (.invokevirtual 40, 3) := by decide +kernel
theorem dL_law_315 : decode cL_law 315 = .ok (.if_icmp .eq 477, 3) := by decide +kernel
theorem dL_law_318 : decode cL_law 318 = .ok (.iconst 0, 1) := by decide +kernel
theorem dL_law_319 : decode cL_law 319 = .ok (.ireturn, 1) := by decide +kernel
theorem dL_law_320 : decode cL_law 320 = .ok (.aload_n 1, 1) := by decide +kernel
theorem dL_law_321 : decode cL_law 321 = .ok (.aload_n 0, 1) := by decide +kernel
theorem dL_law_322 : decode cL_law 322 = .ok (.iload_n 3, 1) := by decide +kernel
theorem dL_law_323 : decode cL_law 323 = .ok (.iconst 1, 1) := by decide +kernel
theorem dL_law_324 : decode cL_law 324 = .ok (.iadd, 1) := by decide +kernel
theorem dL_law_325 : decode cL_law 325 = .ok (.iaload, 1) := by decide +kernel
theorem dL_law_326 : decode cL_law 326 = .ok (.invokevirtual 41, 3) := by decide +kernel
theorem dL_law_329 : decode cL_law 329 = .ok (.aload_n 2, 1) := by decide +kernel
theorem dL_law_330 : decode cL_law 330 = .ok (.aload_n 0, 1) := by decide +kernel
theorem dL_law_331 : decode cL_law 331 = .ok (.iload_n 3, 1) := by decide +kernel
theorem dL_law_332 : decode cL_law 332 = .ok (.iconst 1, 1) := by decide +kernel
theorem dL_law_333 : decode cL_law 333 = .ok (.iadd, 1) := by decide +kernel
theorem dL_law_334 : decode cL_law 334 = .ok (.iaload, 1) := by decide +kernel
theorem dL_law_335 : decode cL_law 335 = .ok (.invokevirtual 44, 3) := by decide +kernel
theorem dL_law_338 : decode cL_law 338 = .ok (.if_icmp .eq 454, 3) := by decide +kernel
theorem dL_law_341 : decode cL_law 341 = .ok (.iconst 0, 1) := by decide +kernel
theorem dL_law_342 : decode cL_law 342 = .ok (.ireturn, 1) := by decide +kernel
theorem dL_law_343 : decode cL_law 343 = .ok (.aload_n 1, 1) := by decide +kernel
theorem dL_law_344 : decode cL_law 344 = .ok (.aload_n 0, 1) := by decide +kernel
theorem dL_law_345 : decode cL_law 345 = .ok (.iload_n 3, 1) := by decide +kernel
theorem dL_law_346 : decode cL_law 346 = .ok (.iconst 1, 1) := by decide +kernel
theorem dL_law_347 : decode cL_law 347 = .ok (.iadd, 1) := by decide +kernel
theorem dL_law_348 : decode cL_law 348 = .ok (.iaload, 1) := by decide +kernel
theorem dL_law_349 : decode cL_law 349 = .ok (.invokevirtual 45, 3) := by decide +kernel
theorem dL_law_352 : decode cL_law 352 = .ok (.aload_n 2, 1) := by decide +kernel
theorem dL_law_353 : decode cL_law 353 = .ok (.aload_n 0, 1) := by decide +kernel
theorem dL_law_354 : decode cL_law 354 = .ok (.iload_n 3, 1) := by decide +kernel
theorem dL_law_355 : decode cL_law 355 = .ok (.iconst 1, 1) := by decide +kernel
theorem dL_law_356 : decode cL_law 356 = .ok (.iadd, 1) := by decide +kernel
theorem dL_law_357 : decode cL_law 357 = .ok (.iaload, 1) := by decide +kernel
theorem dL_law_358 : decode cL_law 358 = .ok (.invokevirtual 48, 3) := by decide +kernel
theorem dL_law_361 : decode cL_law 361 = .ok (.if_icmp .eq 431, 3) := by decide +kernel
theorem dL_law_364 : decode cL_law 364 = .ok (.iconst 0, 1) := by decide +kernel
theorem dL_law_365 : decode cL_law 365 = .ok (.ireturn, 1) := by decide +kernel
theorem dL_law_366 : decode cL_law 366 = .ok (.aload_n 1, 1) := by decide +kernel
theorem dL_law_367 : decode cL_law 367 = .ok (.invokevirtual 49, 3) := by decide +kernel
theorem dL_law_370 : decode cL_law 370 = .ok (.aload_n 2, 1) := by decide +kernel
theorem dL_law_371 : decode cL_law 371 = .ok (.invokevirtual 52, 3) := by decide +kernel
theorem dL_law_374 : decode cL_law 374 = .ok (.if_icmp .eq 418, 3) := by decide +kernel
theorem dL_law_377 : decode cL_law 377 = .ok (.iconst 0, 1) := by decide +kernel
theorem dL_law_378 : decode cL_law 378 = .ok (.ireturn, 1) := by decide +kernel
theorem dL_law_379 : decode cL_law 379 = .ok (.aload_n 1, 1) := by decide +kernel
theorem dL_law_380 : decode cL_law 380 = .ok (.invokevirtual 53, 3) := by decide +kernel
theorem dL_law_383 : decode cL_law 383 = .ok (.aload_n 2, 1) := by decide +kernel
theorem dL_law_384 : decode cL_law 384 = .ok (.invokevirtual 56, 3) := by decide +kernel
theorem dL_law_387 : decode cL_law 387 = .ok (.if_icmp .eq 405, 3) := by decide +kernel
theorem dL_law_390 : decode cL_law 390 = .ok (.iconst 0, 1) := by decide +kernel
theorem dL_law_391 : decode cL_law 391 = .ok (.ireturn, 1) := by decide +kernel
theorem dL_law_392 : decode cL_law 392 = .ok (.aload_n 1, 1) := by decide +kernel
theorem dL_law_393 : decode cL_law 393 = .ok (.aload_n 0, 1) := by decide +kernel
theorem dL_law_394 : decode cL_law 394 = .ok (.iload_n 3, 1) := by decide +kernel
theorem dL_law_395 : decode cL_law 395 = .ok (.iconst 1, 1) := by decide +kernel
theorem dL_law_396 : decode cL_law 396 = .ok (.iadd, 1) := by decide +kernel
theorem dL_law_397 : decode cL_law 397 = .ok (.iaload, 1) := by decide +kernel
theorem dL_law_398 : decode cL_law 398 = .ok (.invokevirtual 57, 3) := by decide +kernel
theorem dL_law_401 : decode cL_law 401 = .ok (.aload_n 2, 1) := by decide +kernel
theorem dL_law_402 : decode cL_law 402 = .ok (.aload_n 0, 1) := by decide +kernel
theorem dL_law_403 : decode cL_law 403 = .ok (.iload_n 3, 1) := by decide +kernel
theorem dL_law_404 : decode cL_law 404 = .ok (.iconst 1, 1) := by decide +kernel
theorem dL_law_405 : decode cL_law 405 = .ok (.iadd, 1) := by decide +kernel
theorem dL_law_406 : decode cL_law 406 = .ok (.iaload, 1) := by decide +kernel
theorem dL_law_407 : decode cL_law 407 = .ok (.invokevirtual 60, 3) := by decide +kernel
theorem dL_law_410 : decode cL_law 410 = .ok (.if_icmp .eq 382, 3) := by decide +kernel
theorem dL_law_413 : decode cL_law 413 = .ok (.iconst 0, 1) := by decide +kernel
theorem dL_law_414 : decode cL_law 414 = .ok (.ireturn, 1) := by decide +kernel
theorem dL_law_415 : decode cL_law 415 = .ok (.aload_n 1, 1) := by decide +kernel
theorem dL_law_416 : decode cL_law 416 = .ok (.aload_n 0, 1) := by decide +kernel
theorem dL_law_417 : decode cL_law 417 = .ok (.iload_n 3, 1) := by decide +kernel
theorem dL_law_418 : decode cL_law 418 = .ok (.iconst 1, 1) := by decide +kernel
theorem dL_law_419 : decode cL_law 419 = .ok (.iadd, 1) := by decide +kernel
theorem dL_law_420 : decode cL_law 420 = .ok (.iaload, 1) := by decide +kernel
theorem dL_law_421 : decode cL_law 421 = .ok (.i2c, 1) := by decide +kernel
theorem dL_law_422 : decode cL_law 422 = .ok (.invokevirtual 61, 3) := by decide +kernel
theorem dL_law_425 : decode cL_law 425 = .ok (.aload_n 2, 1) := by decide +kernel
theorem dL_law_426 : decode cL_law 426 = .ok (.aload_n 0, 1) := by decide +kernel
theorem dL_law_427 : decode cL_law 427 = .ok (.iload_n 3, 1) := by decide +kernel
theorem dL_law_428 : decode cL_law 428 = .ok (.iconst 1, 1) := by decide +kernel
theorem dL_law_429 : decode cL_law 429 = .ok (.iadd, 1) := by decide +kernel
theorem dL_law_430 : decode cL_law 430 = .ok (.iaload, 1) := by decide +kernel
theorem dL_law_431 : decode cL_law 431 = .ok (.i2c, 1) := by decide +kernel
theorem dL_law_432 : decode cL_law 432 = .ok (.invokevirtual 65, 3) := by decide +kernel
theorem dL_law_435 : decode cL_law 435 = .ok (.if_icmp .eq 357, 3) := by decide +kernel
theorem dL_law_438 : decode cL_law 438 = .ok (.iconst 0, 1) := by decide +kernel
theorem dL_law_439 : decode cL_law 439 = .ok (.ireturn, 1) := by decide +kernel
theorem dL_law_440 : decode cL_law 440 = .ok (.aload_n 1, 1) := by decide +kernel
theorem dL_law_441 : decode cL_law 441 = .ok (.invokevirtual 66, 3) := by decide +kernel
theorem dL_law_444 : decode cL_law 444 = .ok (.aload_n 2, 1) := by decide +kernel
theorem dL_law_445 : decode cL_law 445 = .ok (.invokevirtual 69, 3) := by decide +kernel
theorem dL_law_448 : decode cL_law 448 = .ok (.if_icmp .eq 344, 3) := by decide +kernel
theorem dL_law_451 : decode cL_law 451 = .ok (.iconst 0, 1) := by decide +kernel
theorem dL_law_452 : decode cL_law 452 = .ok (.ireturn, 1) := by decide +kernel
theorem dL_law_453 : decode cL_law 453 = .ok (.aload_n 1, 1) := by decide +kernel
theorem dL_law_454 : decode cL_law 454 = .ok (.invokevirtual 70, 3) := by decide +kernel
theorem dL_law_457 : decode cL_law 457 = .ok (.aload_n 2, 1) := by decide +kernel
theorem dL_law_458 : decode cL_law 458 = .ok (.invokevirtual 73, 3) := by decide +kernel
theorem dL_law_461 : decode cL_law 461 = .ok (.if_icmp .eq 331, 3) := by decide +kernel
theorem dL_law_464 : decode cL_law 464 = .ok (.iconst 0, 1) := by decide +kernel
theorem dL_law_465 : decode cL_law 465 = .ok (.ireturn, 1) := by decide +kernel
theorem dL_law_466 : decode cL_law 466 = .ok (.aload_n 1, 1) := by decide +kernel
theorem dL_law_467 : decode cL_law 467 = .ok (.invokevirtual 74, 3) := by decide +kernel
theorem dL_law_470 : decode cL_law 470 = .ok (.aload_n 2, 1) := by decide +kernel
theorem dL_law_471 : decode cL_law 471 = .ok (.invokevirtual 77, 3) := by decide +kernel
theorem dL_law_474 : decode cL_law 474 = .ok (.if_icmp .eq 318, 3) := by decide +kernel
theorem dL_law_477 : decode cL_law 477 = .ok (.iconst 0, 1) := by decide +kernel
theorem dL_law_478 : decode cL_law 478 = .ok (.ireturn, 1) := by decide +kernel
theorem dL_law_479 : decode cL_law 479 = .ok (.aload_n 1, 1) := by decide +kernel
theorem dL_law_480 : decode cL_law 480 = .ok (.invokevirtual 78, 3) := by decide +kernel
theorem dL_law_483 : decode cL_law 483 = .ok (.aload_n 2, 1) := by decide +kernel
theorem dL_law_484 : decode cL_law 484 = .ok (.invokevirtual 81, 3) := by decide +kernel
theorem dL_law_487 : decode cL_law 487 = .ok (.if_icmp .eq 305, 3) := by decide +kernel
theorem dL_law_490 : decode cL_law 490 = .ok (.iconst 0, 1) := by decide +kernel
theorem dL_law_491 : decode cL_law 491 = .ok (.ireturn, 1) := by decide +kernel
theorem dL_law_492 : decode cL_law 492 = .ok (.aload_n 1, 1) := by decide +kernel
theorem dL_law_493 : decode cL_law 493 = .ok (.aload_n 0, 1) := by decide +kernel
theorem dL_law_494 : decode cL_law 494 = .ok (.iload_n 3, 1) := by decide +kernel
theorem dL_law_495 : decode cL_law 495 = .ok (.iconst 1, 1) := by decide +kernel
theorem dL_law_496 : decode cL_law 496 = .ok (.iadd, 1) := by decide +kernel
theorem dL_law_497 : decode cL_law 497 = .ok (.iaload, 1) := by decide +kernel
theorem dL_law_498 : decode cL_law 498 = .ok (.aload_n 0, 1) := by decide +kernel
theorem dL_law_499 : decode cL_law 499 = .ok (.iload_n 3, 1) := by decide +kernel
theorem dL_law_500 : decode cL_law 500 = .ok (.iconst 2, 1) := by decide +kernel
theorem dL_law_501 : decode cL_law 501 = .ok (.iadd, 1) := by decide +kernel
theorem dL_law_502 : decode cL_law 502 = .ok (.iaload, 1) := by decide +kernel
theorem dL_law_503 : decode cL_law 503 = .ok (.invokevirtual 82, 3) := by decide +kernel
theorem dL_law_506 : decode cL_law 506 = .ok (.aload_n 2, 1) := by decide +kernel
theorem dL_law_507 : decode cL_law 507 = .ok (.aload_n 0, 1) := by decide +kernel
theorem dL_law_508 : decode cL_law 508 = .ok (.iload_n 3, 1) := by decide +kernel
theorem dL_law_509 : decode cL_law 509 = .ok (.iconst 1, 1) := by decide +kernel
theorem dL_law_510 : decode cL_law 510 = .ok (.iadd, 1) := by decide +kernel
theorem dL_law_511 : decode cL_law 511 = .ok (.iaload, 1) := by decide +kernel
theorem dL_law_512 : decode cL_law 512 = .ok (.aload_n 0, 1) := by decide +kernel
theorem dL_law_513 : decode cL_law 513 = .ok (.iload_n 3, 1) := by decide +kernel
theorem dL_law_514 : decode cL_law 514 = .ok (.iconst 2, 1) := by decide +kernel
theorem dL_law_515 : decode cL_law 515 = .ok (.iadd, 1) := by decide +kernel
theorem dL_law_516 : decode cL_law 516 = .ok (.iaload, 1) := by decide +kernel
theorem dL_law_517 : decode cL_law 517 = .ok (.invokevirtual 85, 3) := by decide +kernel
theorem dL_law_520 : decode cL_law 520 = .ok (.if_icmp .eq 272, 3) := by decide +kernel
theorem dL_law_523 : decode cL_law 523 = .ok (.iconst 0, 1) := by decide +kernel
theorem dL_law_524 : decode cL_law 524 = .ok (.ireturn, 1) := by decide +kernel
theorem dL_law_525 : decode cL_law 525 = .ok (.aload_n 1, 1) := by decide +kernel
theorem dL_law_526 : decode cL_law 526 = .ok (.aload_n 0, 1) := by decide +kernel
theorem dL_law_527 : decode cL_law 527 = .ok (.iload_n 3, 1) := by decide +kernel
theorem dL_law_528 : decode cL_law 528 = .ok (.iconst 1, 1) := by decide +kernel
theorem dL_law_529 : decode cL_law 529 = .ok (.iadd, 1) := by decide +kernel
theorem dL_law_530 : decode cL_law 530 = .ok (.iaload, 1) := by decide +kernel
theorem dL_law_531 : decode cL_law 531 = .ok (.invokevirtual 86, 3) := by decide +kernel
theorem dL_law_534 : decode cL_law 534 = .ok (.aload_n 2, 1) := by decide +kernel
theorem dL_law_535 : decode cL_law 535 = .ok (.aload_n 0, 1) := by decide +kernel
theorem dL_law_536 : decode cL_law 536 = .ok (.iload_n 3, 1) := by decide +kernel
theorem dL_law_537 : decode cL_law 537 = .ok (.iconst 1, 1) := by decide +kernel
theorem dL_law_538 : decode cL_law 538 = .ok (.iadd, 1) := by decide +kernel
theorem dL_law_539 : decode cL_law 539 = .ok (.iaload, 1) := by decide +kernel
theorem dL_law_540 : decode cL_law 540 = .ok (.invokevirtual 89, 3) := by decide +kernel
theorem dL_law_543 : decode cL_law 543 = .ok (.if_icmp .eq 249, 3) := by decide +kernel
theorem dL_law_546 : decode cL_law 546 = .ok (.iconst 0, 1) := by decide +kernel
theorem dL_law_547 : decode cL_law 547 = .ok (.ireturn, 1) := by decide +kernel
theorem dL_law_548 : decode cL_law 548 = .ok (.aload_n 1, 1) := by decide +kernel
theorem dL_law_549 : decode cL_law 549 = .ok (.aload_n 0, 1) := by decide +kernel
theorem dL_law_550 : decode cL_law 550 = .ok (.iload_n 3, 1) := by decide +kernel
theorem dL_law_551 : decode cL_law 551 = .ok (.iconst 1, 1) := by decide +kernel
theorem dL_law_552 : decode cL_law 552 = .ok (.iadd, 1) := by decide +kernel
theorem dL_law_553 : decode cL_law 553 = .ok (.iaload, 1) := by decide +kernel
theorem dL_law_554 : decode cL_law 554 = .ok (.aload_n 0, 1) := by decide +kernel
theorem dL_law_555 : decode cL_law 555 = .ok (.iload_n 3, 1) := by decide +kernel
theorem dL_law_556 : decode cL_law 556 = .ok (.iconst 2, 1) := by decide +kernel
theorem dL_law_557 : decode cL_law 557 = .ok (.iadd, 1) := by decide +kernel
theorem dL_law_558 : decode cL_law 558 = .ok (.iaload, 1) := by decide +kernel
theorem dL_law_559 : decode cL_law 559 = .ok (.aload_n 0, 1) := by decide +kernel
theorem dL_law_560 : decode cL_law 560 = .ok (.iload_n 3, 1) := by decide +kernel
theorem dL_law_561 : decode cL_law 561 = .ok (.iconst 3, 1) := by decide +kernel
theorem dL_law_562 : decode cL_law 562 = .ok (.iadd, 1) := by decide +kernel
theorem dL_law_563 : decode cL_law 563 = .ok (.iaload, 1) := by decide +kernel
theorem dL_law_564 : decode cL_law 564 = .ok (.invokevirtual 90, 3) := by decide +kernel
theorem dL_law_567 : decode cL_law 567 = .ok (.aload_n 2, 1) := by decide +kernel
theorem dL_law_568 : decode cL_law 568 = .ok (.aload_n 0, 1) := by decide +kernel
theorem dL_law_569 : decode cL_law 569 = .ok (.iload_n 3, 1) := by decide +kernel
theorem dL_law_570 : decode cL_law 570 = .ok (.iconst 1, 1) := by decide +kernel
theorem dL_law_571 : decode cL_law 571 = .ok (.iadd, 1) := by decide +kernel
theorem dL_law_572 : decode cL_law 572 = .ok (.iaload, 1) := by decide +kernel
theorem dL_law_573 : decode cL_law 573 = .ok (.aload_n 0, 1) := by decide +kernel
theorem dL_law_574 : decode cL_law 574 = .ok (.iload_n 3, 1) := by decide +kernel
theorem dL_law_575 : decode cL_law 575 = .ok (.iconst 2, 1) := by decide +kernel
theorem dL_law_576 : decode cL_law 576 = .ok (.iadd, 1) := by decide +kernel
theorem dL_law_577 : decode cL_law 577 = .ok (.iaload, 1) := by decide +kernel
theorem dL_law_578 : decode cL_law 578 = .ok (.aload_n 0, 1) := by decide +kernel
theorem dL_law_579 : decode cL_law 579 = .ok (.iload_n 3, 1) := by decide +kernel
theorem dL_law_580 : decode cL_law 580 = .ok (.iconst 3, 1) := by decide +kernel
theorem dL_law_581 : decode cL_law 581 = .ok (.iadd, 1) := by decide +kernel
theorem dL_law_582 : decode cL_law 582 = .ok (.iaload, 1) := by decide +kernel
theorem dL_law_583 : decode cL_law 583 = .ok (.invokevirtual 93, 3) := by decide +kernel
theorem dL_law_586 : decode cL_law 586 = .ok (.if_icmp .eq 206, 3) := by decide +kernel
theorem dL_law_589 : decode cL_law 589 = .ok (.iconst 0, 1) := by decide +kernel
theorem dL_law_590 : decode cL_law 590 = .ok (.ireturn, 1) := by decide +kernel
theorem dL_law_591 : decode cL_law 591 = .ok (.aload_n 1, 1) := by decide +kernel
theorem dL_law_592 : decode cL_law 592 = .ok (.aload_n 0, 1) := by decide +kernel
theorem dL_law_593 : decode cL_law 593 = .ok (.iload_n 3, 1) := by decide +kernel
theorem dL_law_594 : decode cL_law 594 = .ok (.iconst 1, 1) := by decide +kernel
theorem dL_law_595 : decode cL_law 595 = .ok (.iadd, 1) := by decide +kernel
theorem dL_law_596 : decode cL_law 596 = .ok (.iaload, 1) := by decide +kernel
theorem dL_law_597 : decode cL_law 597 = .ok (.aload_n 0, 1) := by decide +kernel
theorem dL_law_598 : decode cL_law 598 = .ok (.iload_n 3, 1) := by decide +kernel
theorem dL_law_599 : decode cL_law 599 = .ok (.iconst 2, 1) := by decide +kernel
theorem dL_law_600 : decode cL_law 600 = .ok (.iadd, 1) := by decide +kernel
theorem dL_law_601 : decode cL_law 601 = .ok (.iaload, 1) := by decide +kernel
theorem dL_law_602 : decode cL_law 602 = .ok (.aload_n 0, 1) := by decide +kernel
theorem dL_law_603 : decode cL_law 603 = .ok (.iload_n 3, 1) := by decide +kernel
theorem dL_law_604 : decode cL_law 604 = .ok (.iconst 3, 1) := by decide +kernel
theorem dL_law_605 : decode cL_law 605 = .ok (.iadd, 1) := by decide +kernel
theorem dL_law_606 : decode cL_law 606 = .ok (.iaload, 1) := by decide +kernel
theorem dL_law_607 : decode cL_law 607 = .ok (.invokevirtual 94, 3) := by decide +kernel
theorem dL_law_610 : decode cL_law 610 = .ok (.aload_n 2, 1) := by decide +kernel
theorem dL_law_611 : decode cL_law 611 = .ok (.aload_n 0, 1) := by decide +kernel
theorem dL_law_612 : decode cL_law 612 = .ok (.iload_n 3, 1) := by decide +kernel
theorem dL_law_613 : decode cL_law 613 = .ok (.iconst 1, 1) := by decide +kernel
theorem dL_law_614 : decode cL_law 614 = .ok (.iadd, 1) := by decide +kernel
theorem dL_law_615 : decode cL_law 615 = .ok (.iaload, 1) := by decide +kernel
theorem dL_law_616 : decode cL_law 616 = .ok (.aload_n 0, 1) := by decide +kernel
theorem dL_law_617 : decode cL_law 617 = .ok (.iload_n 3, 1) := by decide +kernel
theorem dL_law_618 : decode cL_law 618 = .ok (.iconst 2, 1) := by decide +kernel
theorem dL_law_619 : decode cL_law 619 = .ok (.iadd, 1) := by decide +kernel
theorem dL_law_620 : decode cL_law 620 = .ok (.iaload, 1) := by decide +kernel
theorem dL_law_621 : decode cL_law 621 = .ok (.aload_n 0, 1) := by decide +kernel
theorem dL_law_622 : decode cL_law 622 = .ok (.iload_n 3, 1) := by decide +kernel
theorem dL_law_623 : decode cL_law 623 = .ok (.iconst 3, 1) := by decide +kernel
theorem dL_law_624 : decode cL_law 624 = .ok (.iadd, 1) := by decide +kernel
theorem dL_law_625 : decode cL_law 625 = .ok (.iaload, 1) := by decide +kernel
theorem dL_law_626 : decode cL_law 626 = .ok (.invokevirtual 97, 3) := by decide +kernel
theorem dL_law_629 : decode cL_law 629 = .ok (.if_icmp .eq 163, 3) := by decide +kernel
theorem dL_law_632 : decode cL_law 632 = .ok (.iconst 0, 1) := by decide +kernel
theorem dL_law_633 : decode cL_law 633 = .ok (.ireturn, 1) := by decide +kernel
theorem dL_law_634 : decode cL_law 634 = .ok (.aload_n 1, 1) := by decide +kernel
theorem dL_law_635 : decode cL_law 635 = .ok (.aload_n 0, 1) := by decide +kernel
theorem dL_law_636 : decode cL_law 636 = .ok (.iload_n 3, 1) := by decide +kernel
theorem dL_law_637 : decode cL_law 637 = .ok (.iconst 1, 1) := by decide +kernel
theorem dL_law_638 : decode cL_law 638 = .ok (.iadd, 1) := by decide +kernel
theorem dL_law_639 : decode cL_law 639 = .ok (.iaload, 1) := by decide +kernel
theorem dL_law_640 : decode cL_law 640 = .ok (.aload_n 0, 1) := by decide +kernel
theorem dL_law_641 : decode cL_law 641 = .ok (.iload_n 3, 1) := by decide +kernel
theorem dL_law_642 : decode cL_law 642 = .ok (.iconst 2, 1) := by decide +kernel
theorem dL_law_643 : decode cL_law 643 = .ok (.iadd, 1) := by decide +kernel
theorem dL_law_644 : decode cL_law 644 = .ok (.iaload, 1) := by decide +kernel
theorem dL_law_645 : decode cL_law 645 = .ok (.invokevirtual 98, 3) := by decide +kernel
theorem dL_law_648 : decode cL_law 648 = .ok (.aload_n 2, 1) := by decide +kernel
theorem dL_law_649 : decode cL_law 649 = .ok (.aload_n 0, 1) := by decide +kernel
theorem dL_law_650 : decode cL_law 650 = .ok (.iload_n 3, 1) := by decide +kernel
theorem dL_law_651 : decode cL_law 651 = .ok (.iconst 1, 1) := by decide +kernel
theorem dL_law_652 : decode cL_law 652 = .ok (.iadd, 1) := by decide +kernel
theorem dL_law_653 : decode cL_law 653 = .ok (.iaload, 1) := by decide +kernel
theorem dL_law_654 : decode cL_law 654 = .ok (.aload_n 0, 1) := by decide +kernel
theorem dL_law_655 : decode cL_law 655 = .ok (.iload_n 3, 1) := by decide +kernel
theorem dL_law_656 : decode cL_law 656 = .ok (.iconst 2, 1) := by decide +kernel
theorem dL_law_657 : decode cL_law 657 = .ok (.iadd, 1) := by decide +kernel
theorem dL_law_658 : decode cL_law 658 = .ok (.iaload, 1) := by decide +kernel
theorem dL_law_659 : decode cL_law 659 = .ok (.invokevirtual 101, 3) := by decide +kernel
theorem dL_law_662 : decode cL_law 662 = .ok (.if_icmp .eq 130, 3) := by decide +kernel
theorem dL_law_665 : decode cL_law 665 = .ok (.iconst 0, 1) := by decide +kernel
theorem dL_law_666 : decode cL_law 666 = .ok (.ireturn, 1) := by decide +kernel
theorem dL_law_667 : decode cL_law 667 = .ok (.aload_n 1, 1) := by decide +kernel
theorem dL_law_668 : decode cL_law 668 = .ok (.aload_n 0, 1) := by decide +kernel
theorem dL_law_669 : decode cL_law 669 = .ok (.iload_n 3, 1) := by decide +kernel
theorem dL_law_670 : decode cL_law 670 = .ok (.iconst 1, 1) := by decide +kernel
theorem dL_law_671 : decode cL_law 671 = .ok (.iadd, 1) := by decide +kernel
theorem dL_law_672 : decode cL_law 672 = .ok (.iaload, 1) := by decide +kernel
theorem dL_law_673 : decode cL_law 673 = .ok (.aload_n 0, 1) := by decide +kernel
theorem dL_law_674 : decode cL_law 674 = .ok (.iload_n 3, 1) := by decide +kernel
theorem dL_law_675 : decode cL_law 675 = .ok (.iconst 2, 1) := by decide +kernel
theorem dL_law_676 : decode cL_law 676 = .ok (.iadd, 1) := by decide +kernel
theorem dL_law_677 : decode cL_law 677 = .ok (.iaload, 1) := by decide +kernel
theorem dL_law_678 : decode cL_law 678 = .ok (.invokevirtual 102, 3) := by decide +kernel
theorem dL_law_681 : decode cL_law 681 = .ok (.aload_n 2, 1) := by decide +kernel
theorem dL_law_682 : decode cL_law 682 = .ok (.aload_n 0, 1) := by decide +kernel
theorem dL_law_683 : decode cL_law 683 = .ok (.iload_n 3, 1) := by decide +kernel
theorem dL_law_684 : decode cL_law 684 = .ok (.iconst 1, 1) := by decide +kernel
theorem dL_law_685 : decode cL_law 685 = .ok (.iadd, 1) := by decide +kernel
theorem dL_law_686 : decode cL_law 686 = .ok (.iaload, 1) := by decide +kernel
theorem dL_law_687 : decode cL_law 687 = .ok (.aload_n 0, 1) := by decide +kernel
theorem dL_law_688 : decode cL_law 688 = .ok (.iload_n 3, 1) := by decide +kernel
theorem dL_law_689 : decode cL_law 689 = .ok (.iconst 2, 1) := by decide +kernel
theorem dL_law_690 : decode cL_law 690 = .ok (.iadd, 1) := by decide +kernel
theorem dL_law_691 : decode cL_law 691 = .ok (.iaload, 1) := by decide +kernel
theorem dL_law_692 : decode cL_law 692 = .ok (.invokevirtual 105, 3) := by decide +kernel
theorem dL_law_695 : decode cL_law 695 = .ok (.if_icmp .eq 97, 3) := by decide +kernel
theorem dL_law_698 : decode cL_law 698 = .ok (.iconst 0, 1) := by decide +kernel
theorem dL_law_699 : decode cL_law 699 = .ok (.ireturn, 1) := by decide +kernel
theorem dL_law_700 : decode cL_law 700 = .ok (.aload_n 1, 1) := by decide +kernel
theorem dL_law_701 : decode cL_law 701 = .ok (.aload_n 0, 1) := by decide +kernel
theorem dL_law_702 : decode cL_law 702 = .ok (.iload_n 3, 1) := by decide +kernel
theorem dL_law_703 : decode cL_law 703 = .ok (.iconst 1, 1) := by decide +kernel
theorem dL_law_704 : decode cL_law 704 = .ok (.iadd, 1) := by decide +kernel
theorem dL_law_705 : decode cL_law 705 = .ok (.iaload, 1) := by decide +kernel
theorem dL_law_706 : decode cL_law 706 = .ok (.invokevirtual 106, 3) := by decide +kernel
theorem dL_law_709 : decode cL_law 709 = .ok (.aload_n 2, 1) := by decide +kernel
theorem dL_law_710 : decode cL_law 710 = .ok (.aload_n 0, 1) := by decide +kernel
theorem dL_law_711 : decode cL_law 711 = .ok (.iload_n 3, 1) := by decide +kernel
theorem dL_law_712 : decode cL_law 712 = .ok (.iconst 1, 1) := by decide +kernel
theorem dL_law_713 : decode cL_law 713 = .ok (.iadd, 1) := by decide +kernel
theorem dL_law_714 : decode cL_law 714 = .ok (.iaload, 1) := by decide +kernel
theorem dL_law_715 : decode cL_law 715 = .ok (.invokevirtual 109, 3) := by decide +kernel
theorem dL_law_718 : decode cL_law 718 = .ok (.if_icmp .eq 74, 3) := by decide +kernel
theorem dL_law_721 : decode cL_law 721 = .ok (.iconst 0, 1) := by decide +kernel
theorem dL_law_722 : decode cL_law 722 = .ok (.ireturn, 1) := by decide +kernel
theorem dL_law_723 : decode cL_law 723 = .ok (.aload_n 1, 1) := by decide +kernel
theorem dL_law_724 : decode cL_law 724 = .ok (.invokevirtual 110, 3) := by decide +kernel
theorem dL_law_727 : decode cL_law 727 = .ok (.aload_n 2, 1) := by decide +kernel
theorem dL_law_728 : decode cL_law 728 = .ok (.invokevirtual 113, 3) := by decide +kernel
theorem dL_law_731 : decode cL_law 731 = .ok (.if_icmp .eq 61, 3) := by decide +kernel
theorem dL_law_734 : decode cL_law 734 = .ok (.iconst 0, 1) := by decide +kernel
theorem dL_law_735 : decode cL_law 735 = .ok (.ireturn, 1) := by decide +kernel
theorem dL_law_736 : decode cL_law 736 = .ok (.aload_n 1, 1) := by decide +kernel
theorem dL_law_737 : decode cL_law 737 = .ok (.aload_n 0, 1) := by decide +kernel
theorem dL_law_738 : decode cL_law 738 = .ok (.iload_n 3, 1) := by decide +kernel
theorem dL_law_739 : decode cL_law 739 = .ok (.iconst 1, 1) := by decide +kernel
theorem dL_law_740 : decode cL_law 740 = .ok (.iadd, 1) := by decide +kernel
theorem dL_law_741 : decode cL_law 741 = .ok (.iaload, 1) := by decide +kernel
theorem dL_law_742 : decode cL_law 742 = .ok (.aload_n 0, 1) := by decide +kernel
theorem dL_law_743 : decode cL_law 743 = .ok (.iload_n 3, 1) := by decide +kernel
theorem dL_law_744 : decode cL_law 744 = .ok (.iconst 2, 1) := by decide +kernel
theorem dL_law_745 : decode cL_law 745 = .ok (.iadd, 1) := by decide +kernel
theorem dL_law_746 : decode cL_law 746 = .ok (.iaload, 1) := by decide +kernel
theorem dL_law_747 : decode cL_law 747 = .ok (.invokevirtual 114, 3) := by decide +kernel
theorem dL_law_750 : decode cL_law 750 = .ok (.aload_n 2, 1) := by decide +kernel
theorem dL_law_751 : decode cL_law 751 = .ok (.aload_n 0, 1) := by decide +kernel
theorem dL_law_752 : decode cL_law 752 = .ok (.iload_n 3, 1) := by decide +kernel
theorem dL_law_753 : decode cL_law 753 = .ok (.iconst 1, 1) := by decide +kernel
theorem dL_law_754 : decode cL_law 754 = .ok (.iadd, 1) := by decide +kernel
theorem dL_law_755 : decode cL_law 755 = .ok (.iaload, 1) := by decide +kernel
theorem dL_law_756 : decode cL_law 756 = .ok (.aload_n 0, 1) := by decide +kernel
theorem dL_law_757 : decode cL_law 757 = .ok (.iload_n 3, 1) := by decide +kernel
theorem dL_law_758 : decode cL_law 758 = .ok (.iconst 2, 1) := by decide +kernel
theorem dL_law_759 : decode cL_law 759 = .ok (.iadd, 1) := by decide +kernel
theorem dL_law_760 : decode cL_law 760 = .ok (.iaload, 1) := by decide +kernel
theorem dL_law_761 : decode cL_law 761 = .ok (.invokevirtual 117, 3) := by decide +kernel
theorem dL_law_764 : decode cL_law 764 = .ok (.if_icmp .eq 28, 3) := by decide +kernel
theorem dL_law_767 : decode cL_law 767 = .ok (.iconst 0, 1) := by decide +kernel
theorem dL_law_768 : decode cL_law 768 = .ok (.ireturn, 1) := by decide +kernel
theorem dL_law_769 : decode cL_law 769 = .ok (.aload_n 1, 1) := by decide +kernel
theorem dL_law_770 : decode cL_law 770 = .ok (.aload_n 0, 1) := by decide +kernel
theorem dL_law_771 : decode cL_law 771 = .ok (.iload_n 3, 1) := by decide +kernel
theorem dL_law_772 : decode cL_law 772 = .ok (.iconst 1, 1) := by decide +kernel
theorem dL_law_773 : decode cL_law 773 = .ok (.iadd, 1) := by decide +kernel
theorem dL_law_774 : decode cL_law 774 = .ok (.iaload, 1) := by decide +kernel
theorem dL_law_775 : decode cL_law 775 = .ok (.invokevirtual 118, 3) := by decide +kernel
theorem dL_law_778 : decode cL_law 778 = .ok (.aload_n 2, 1) := by decide +kernel
theorem dL_law_779 : decode cL_law 779 = .ok (.aload_n 0, 1) := by decide +kernel
theorem dL_law_780 : decode cL_law 780 = .ok (.iload_n 3, 1) := by decide +kernel
theorem dL_law_781 : decode cL_law 781 = .ok (.iconst 1, 1) := by decide +kernel
theorem dL_law_782 : decode cL_law 782 = .ok (.iadd, 1) := by decide +kernel
theorem dL_law_783 : decode cL_law 783 = .ok (.iaload, 1) := by decide +kernel
theorem dL_law_784 : decode cL_law 784 = .ok (.invokevirtual 121, 3) := by decide +kernel
theorem dL_law_787 : decode cL_law 787 = .ok (.if_icmp .eq 5, 3) := by decide +kernel
theorem dL_law_790 : decode cL_law 790 = .ok (.iconst 0, 1) := by decide +kernel
theorem dL_law_791 : decode cL_law 791 = .ok (.ireturn, 1) := by decide +kernel
theorem dL_law_792 : decode cL_law 792 = .ok (.iinc 3 4, 3) := by decide +kernel
theorem dL_law_795 : decode cL_law 795 = .ok (.goto (-777), 3) := by decide +kernel
theorem dL_law_798 : decode cL_law 798 = .ok (.iconst 1, 1) := by decide +kernel
theorem dL_law_799 : decode cL_law 799 = .ok (.ireturn, 1) := by decide +kernel
