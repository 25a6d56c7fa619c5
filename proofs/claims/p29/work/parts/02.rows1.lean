theorem dX0_init_0 : decode cX0_init 0 = .ok (.aload_n 0, 1) := by decide +kernel
theorem dX0_init_1 : decode cX0_init 1 = .ok (.invokespecial 3, 3) := by decide +kernel
theorem dX0_init_4 : decode cX0_init 4 = .ok (.aload_n 0, 1) := by decide +kernel
theorem dX0_init_5 : decode cX0_init 5 = .ok (.iconst 2, 1) := by decide +kernel
theorem dX0_init_6 : decode cX0_init 6 = .ok (.putfield 9, 3) := by decide +kernel
theorem dX0_init_9 : decode cX0_init 9 = .ok (.aload_n 0, 1) := by decide +kernel
theorem dX0_init_10 : decode cX0_init 10 = .ok (.bipush 48, 2) := by decide +kernel
theorem dX0_init_12 : decode cX0_init 12 = .ok (.newarray .int, 2) := by decide +kernel
theorem dX0_init_14 : decode cX0_init 14 = .ok (.putfield 15, 3) := by decide +kernel
theorem dX0_init_17 : decode cX0_init 17 = .ok (.aload_n 0, 1) := by decide +kernel
theorem dX0_init_18 : decode cX0_init 18 = .ok (.iconst 2, 1) := by decide +kernel
theorem dX0_init_19 : decode cX0_init 19 = .ok (.putfield 19, 3) := by decide +kernel
theorem dX0_init_22 : decode cX0_init 22 = .ok (.aload_n 0, 1) := by decide +kernel
theorem dX0_init_23 : decode cX0_init 23 = .ok (.bipush 6, 2) := by decide +kernel
theorem dX0_init_25 : decode cX0_init 25 = .ok (.newarray .int, 2) := by decide +kernel
theorem dX0_init_27 : decode cX0_init 27 = .ok (.putfield 22, 3) := by decide +kernel
theorem dX0_init_30 : decode cX0_init 30 = .ok (.aload_n 0, 1) := by decide +kernel
theorem dX0_init_31 : decode cX0_init 31 = .ok (.iconst 0, 1) := by decide +kernel
theorem dX0_init_32 : decode cX0_init 32 = .ok (.putfield 25, 3) := by decide +kernel
theorem dX0_init_35 : decode cX0_init 35 = .ok (.aload_n 0, 1) := by decide +kernel
theorem dX0_init_36 : decode cX0_init 36 = .ok (.iconst 0, 1) := by decide +kernel
theorem dX0_init_37 : decode cX0_init 37 = .ok (.putfield 28, 3) := by decide +kernel
theorem dX0_init_40 : decode cX0_init 40 = .ok (.aload_n 0, 1) := by decide +kernel
theorem dX0_init_41 : decode cX0_init 41 = .ok (.iconst 0, 1) := by decide +kernel
theorem dX0_init_42 : decode cX0_init 42 = .ok (.putfield 31, 3) := by decide +kernel
theorem dX0_init_45 : decode cX0_init 45 = .ok (.aload_n 0, 1) := by decide +kernel
theorem dX0_init_46 : decode cX0_init 46 = .ok (.iconst 0, 1) := by decide +kernel
theorem dX0_init_47 : decode cX0_init 47 = .ok (.putfield 34, 3) := by decide +kernel
theorem dX0_init_50 : decode cX0_init 50 = .ok (.aload_n 0, 1) := by decide +kernel
theorem dX0_init_51 : decode cX0_init 51 = .ok (.iconst 0, 1) := by decide +kernel
theorem dX0_init_52 : decode cX0_init 52 = .ok (.putfield 37, 3) := by decide +kernel
theorem dX0_init_55 : decode cX0_init 55 = .ok (.aload_n 0, 1) := by decide +kernel
theorem dX0_init_56 : decode cX0_init 56 = .ok (.invokevirtual 40, 3) := by decide +kernel
theorem dX0_init_59 : decode cX0_init 59 = .ok (.return_, 1) := by decide +kernel
theorem dX0_copyFrom_0 : decode cX0_copyFrom 0 = .ok (.aload_n 0, 1) := by decide +kernel
theorem dX0_copyFrom_1 : decode cX0_copyFrom 1 = .ok (.aload_n 1, 1) := by decide +kernel
theorem dX0_copyFrom_2 : decode cX0_copyFrom 2 = .ok (.getfield 9, 3) := by decide +kernel
theorem dX0_copyFrom_5 : decode cX0_copyFrom 5 = .ok (.putfield 9, 3) := by decide +kernel
theorem dX0_copyFrom_8 : decode cX0_copyFrom 8 = .ok (.aload_n 1, 1) := by decide +kernel
theorem dX0_copyFrom_9 : decode cX0_copyFrom 9 = .ok (.getfield 15, 3) := by decide +kernel
theorem dX0_copyFrom_12 : decode cX0_copyFrom 12 = .ok (.aload_n 0, 1) := by decide +kernel
theorem dX0_copyFrom_13 : decode cX0_copyFrom 13 = .ok (.getfield 15, 3) := by decide +kernel
theorem dX0_copyFrom_16 : decode cX0_copyFrom 16 = .ok (.invokestatic 43, 3) := by decide +kernel
theorem dX0_copyFrom_19 : decode cX0_copyFrom 19 = .ok (.aload_n 0, 1) := by decide +kernel
theorem dX0_copyFrom_20 : decode cX0_copyFrom 20 = .ok (.aload_n 1, 1) := by decide +kernel
theorem dX0_copyFrom_21 : decode cX0_copyFrom 21 = .ok (.getfield 19, 3) := by decide +kernel
theorem dX0_copyFrom_24 : decode cX0_copyFrom 24 = .ok (.putfield 19, 3) := by decide +kernel
theorem dX0_copyFrom_27 : decode cX0_copyFrom 27 = .ok (.aload_n 1, 1) := by decide +kernel
theorem dX0_copyFrom_28 : decode cX0_copyFrom 28 = .ok (.getfield 22, 3) := by decide +kernel
theorem dX0_copyFrom_31 : decode cX0_copyFrom 31 = .ok (.aload_n 0, 1) := by decide +kernel
theorem dX0_copyFrom_32 : decode cX0_copyFrom 32 = .ok (.getfield 22, 3) := by decide +kernel
theorem dX0_copyFrom_35 : decode cX0_copyFrom 35 = .ok (.invokestatic 43, 3) := by decide +kernel
theorem dX0_copyFrom_38 : decode cX0_copyFrom 38 = .ok (.aload_n 0, 1) := by decide +kernel
theorem dX0_copyFrom_39 : decode cX0_copyFrom 39 = .ok (.aload_n 1, 1) := by decide +kernel
theorem dX0_copyFrom_40 : decode cX0_copyFrom 40 = .ok (.getfield 25, 3) := by decide +kernel
theorem dX0_copyFrom_43 : decode cX0_copyFrom 43 = .ok (.putfield 25, 3) := by decide +kernel
theorem dX0_copyFrom_46 : decode cX0_copyFrom 46 = .ok (.aload_n 0, 1) := by decide +kernel
theorem dX0_copyFrom_47 : decode cX0_copyFrom 47 = .ok (.aload_n 1, 1) := by decide +kernel
theorem dX0_copyFrom_48 : decode cX0_copyFrom 48 = .ok (.getfield 28, 3) := by decide +kernel
theorem dX0_copyFrom_51 : decode cX0_copyFrom 51 = .ok (.putfield 28, 3) := by decide +kernel
theorem dX0_copyFrom_54 : decode cX0_copyFrom 54 = .ok (.aload_n 0, 1) := by decide +kernel
theorem dX0_copyFrom_55 : decode cX0_copyFrom 55 = .ok (.aload_n 1, 1) := by decide +kernel
theorem dX0_copyFrom_56 : decode cX0_copyFrom 56 = .ok (.getfield 31, 3) := by decide +kernel
theorem dX0_copyFrom_59 : decode cX0_copyFrom 59 = .ok (.putfield 31, 3) := by decide +kernel
theorem dX0_copyFrom_62 : decode cX0_copyFrom 62 = .ok (.aload_n 0, 1) := by decide +kernel
theorem dX0_copyFrom_63 : decode cX0_copyFrom 63 = .ok (.aload_n 1, 1) := by decide +kernel
theorem dX0_copyFrom_64 : decode cX0_copyFrom 64 = .ok (.getfield 34, 3) := by decide +kernel
theorem dX0_copyFrom_67 : decode cX0_copyFrom 67 = .ok (.putfield 34, 3) := by decide +kernel
theorem dX0_copyFrom_70 : decode cX0_copyFrom 70 = .ok (.aload_n 0, 1) := by decide +kernel
theorem dX0_copyFrom_71 : decode cX0_copyFrom 71 = .ok (.aload_n 1, 1) := by decide +kernel
theorem dX0_copyFrom_72 : decode cX0_copyFrom 72 = .ok (.getfield 37, 3) := by decide +kernel
theorem dX0_copyFrom_75 : decode cX0_copyFrom 75 = .ok (.putfield 37, 3) := by decide +kernel
theorem dX0_copyFrom_78 : decode cX0_copyFrom 78 = .ok (.return_, 1) := by decide +kernel
theorem dX0_hasView_0 : decode cX0_hasView 0 = .ok (.iload_n 1, 1) := by decide +kernel
theorem dX0_hasView_1 : decode cX0_hasView 1 = .ok (.iconst 0, 1) := by decide +kernel
theorem dX0_hasView_2 : decode cX0_hasView 2 = .ok (.aload_n 0, 1) := by decide +kernel
theorem dX0_hasView_3 : decode cX0_hasView 3 = .ok (.getfield 9, 3) := by decide +kernel
theorem dX0_hasView_6 : decode cX0_hasView 6 = .ok (.iconst 1, 1) := by decide +kernel
theorem dX0_hasView_7 : decode cX0_hasView 7 = .ok (.isub, 1) := by decide +kernel
theorem dX0_hasView_8 : decode cX0_hasView 8 = .ok (.invokestatic 47, 3) := by decide +kernel
theorem dX0_hasView_11 : decode cX0_hasView 11 = .ok (.ireturn, 1) := by decide +kernel
theorem dX0_hasSlice_0 : decode cX0_hasSlice 0 = .ok (.iload_n 1, 1) := by decide +kernel
theorem dX0_hasSlice_1 : decode cX0_hasSlice 1 = .ok (.iconst 0, 1) := by decide +kernel
theorem dX0_hasSlice_2 : decode cX0_hasSlice 2 = .ok (.aload_n 0, 1) := by decide +kernel
theorem dX0_hasSlice_3 : decode cX0_hasSlice 3 = .ok (.getfield 19, 3) := by decide +kernel
theorem dX0_hasSlice_6 : decode cX0_hasSlice 6 = .ok (.iconst 1, 1) := by decide +kernel
theorem dX0_hasSlice_7 : decode cX0_hasSlice 7 = .ok (.isub, 1) := by decide +kernel
theorem dX0_hasSlice_8 : decode cX0_hasSlice 8 = .ok (.invokestatic 47, 3) := by decide +kernel
theorem dX0_hasSlice_11 : decode cX0_hasSlice 11 = .ok (.ireturn, 1) := by decide +kernel
theorem dX0_colourIn_0 : decode cX0_colourIn 0 = .ok (.iload_n 1, 1) := by decide +kernel
theorem dX0_colourIn_1 : decode cX0_colourIn 1 = .ok (.iconst 0, 1) := by decide +kernel
theorem dX0_colourIn_2 : decode cX0_colourIn 2 = .ok (.iconst 3, 1) := by decide +kernel
theorem dX0_colourIn_3 : decode cX0_colourIn 3 = .ok (.invokestatic 47, 3) := by decide +kernel
theorem dX0_colourIn_6 : decode cX0_colourIn 6 = .ok (.ifCond .eq 10, 3) := by decide +kernel
theorem dX0_colourIn_9 : decode cX0_colourIn 9 = .ok (.iload_n 2, 1) := by decide +kernel
theorem dX0_colourIn_10 : decode cX0_colourIn 10 = .ok (.invokestatic 51, 3) := by decide +kernel
theorem dX0_colourIn_13 : decode cX0_colourIn 13 = .ok (.ifCond .ne 5, 3) := by decide +kernel
theorem dX0_colourIn_16 : decode cX0_colourIn 16 = .ok (.iconst (-1), 1) := by decide +kernel
theorem dX0_colourIn_17 : decode cX0_colourIn 17 = .ok (.ireturn, 1) := by decide +kernel
theorem dX0_colourIn_18 : decode cX0_colourIn 18 = .ok (.aload_n 0, 1) := by decide +kernel
theorem dX0_colourIn_19 : decode cX0_colourIn 19 = .ok (.getfield 15, 3) := by decide +kernel
theorem dX0_colourIn_22 : decode cX0_colourIn 22 = .ok (.iload_n 1, 1) := by decide +kernel
theorem dX0_colourIn_23 : decode cX0_colourIn 23 = .ok (.bipush 12, 2) := by decide +kernel
theorem dX0_colourIn_25 : decode cX0_colourIn 25 = .ok (.imul, 1) := by decide +kernel
theorem dX0_colourIn_26 : decode cX0_colourIn 26 = .ok (.iload_n 2, 1) := by decide +kernel
theorem dX0_colourIn_27 : decode cX0_colourIn 27 = .ok (.iadd, 1) := by decide +kernel
theorem dX0_colourIn_28 : decode cX0_colourIn 28 = .ok (.iaload, 1) := by decide +kernel
theorem dX0_colourIn_29 : decode cX0_colourIn 29 = .ok (.ireturn, 1) := by decide +kernel
theorem dX0_paint_0 : decode cX0_paint 0 = .ok (.iload_n 1, 1) := by decide +kernel
theorem dX0_paint_1 : decode cX0_paint 1 = .ok (.iconst 0, 1) := by decide +kernel
theorem dX0_paint_2 : decode cX0_paint 2 = .ok (.iconst 3, 1) := by decide +kernel
theorem dX0_paint_3 : decode cX0_paint 3 = .ok (.invokestatic 47, 3) := by decide +kernel
theorem dX0_paint_6 : decode cX0_paint 6 = .ok (.ifCond .eq 22, 3) := by decide +kernel
theorem dX0_paint_9 : decode cX0_paint 9 = .ok (.iload_n 2, 1) := by decide +kernel
theorem dX0_paint_10 : decode cX0_paint 10 = .ok (.invokestatic 51, 3) := by decide +kernel
theorem dX0_paint_13 : decode cX0_paint 13 = .ok (.ifCond .eq 15, 3) := by decide +kernel
theorem dX0_paint_16 : decode cX0_paint 16 = .ok (.aload_n 0, 1) := by decide +kernel
theorem dX0_paint_17 : decode cX0_paint 17 = .ok (.getfield 15, 3) := by decide +kernel
theorem dX0_paint_20 : decode cX0_paint 20 = .ok (.iload_n 1, 1) := by decide +kernel
theorem dX0_paint_21 : decode cX0_paint 21 = .ok (.bipush 12, 2) := by decide +kernel
theorem dX0_paint_23 : decode cX0_paint 23 = .ok (.imul, 1) := by decide +kernel
theorem dX0_paint_24 : decode cX0_paint 24 = .ok (.iload_n 2, 1) := by decide +kernel
theorem dX0_paint_25 : decode cX0_paint 25 = .ok (.iadd, 1) := by decide +kernel
theorem dX0_paint_26 : decode cX0_paint 26 = .ok (.iload_n 3, 1) := by decide +kernel
theorem dX0_paint_27 : decode cX0_paint 27 = .ok (.iastore, 1) := by decide +kernel
theorem dX0_paint_28 : decode cX0_paint 28 = .ok (.return_, 1) := by decide +kernel
theorem dX0_dropView_0 : decode cX0_dropView 0 = .ok (.iload_n 1, 1) := by decide +kernel
theorem dX0_dropView_1 : decode cX0_dropView 1 = .ok (.iconst 1, 1) := by decide +kernel
theorem dX0_dropView_2 : decode cX0_dropView 2 = .ok (.iadd, 1) := by decide +kernel
theorem dX0_dropView_3 : decode cX0_dropView 3 = .ok (.istore_n 2, 1) := by decide +kernel
theorem dX0_dropView_4 : decode cX0_dropView 4 = .ok (.iload_n 2, 1) := by decide +kernel
theorem dX0_dropView_5 : decode cX0_dropView 5 = .ok (.aload_n 0, 1) := by decide +kernel
theorem dX0_dropView_6 : decode cX0_dropView 6 = .ok (.getfield 9, 3) := by decide +kernel
theorem dX0_dropView_9 : decode cX0_dropView 9 = .ok (.if_icmp .ge 37, 3) := by decide +kernel
theorem dX0_dropView_12 : decode cX0_dropView 12 = .ok (.iconst 0, 1) := by decide +kernel
theorem dX0_dropView_13 : decode cX0_dropView 13 = .ok (.istore_n 3, 1) := by decide +kernel
theorem dX0_dropView_14 : decode cX0_dropView 14 = .ok (.iload_n 3, 1) := by decide +kernel
theorem dX0_dropView_15 : decode cX0_dropView 15 = .ok (.bipush 12, 2) := by decide +kernel
theorem dX0_dropView_17 : decode cX0_dropView 17 = .ok (.if_icmp .ge 23, 3) := by decide +kernel
theorem dX0_dropView_20 : decode cX0_dropView 20 = .ok (.aload_n 0, 1) := by decide +kernel
theorem dX0_dropView_21 : decode cX0_dropView 21 = .ok (.iload_n 2, 1) := by decide +kernel
theorem dX0_dropView_22 : decode cX0_dropView 22 = .ok (.iconst 1, 1) := by decide +kernel
theorem dX0_dropView_23 : decode cX0_dropView 23 = .ok (.isub, 1) := by decide +kernel
theorem dX0_dropView_24 : decode cX0_dropView 24 = .ok (.iload_n 3, 1) := by decide +kernel
theorem dX0_dropView_25 : decode cX0_dropView 25 = .ok (.aload_n 0, 1) := by decide +kernel
theorem dX0_dropView_26 : decode cX0_dropView 26 = .ok (.iload_n 2, 1) := by decide +kernel
theorem dX0_dropView_27 : decode cX0_dropView 27 = .ok (.iload_n 3, 1) := by decide +kernel
theorem dX0_dropView_28 : decode cX0_dropView 28 = .ok (.invokevirtual 59, 3) := by decide +kernel
theorem dX0_dropView_31 : decode cX0_dropView 31 = .ok (.invokevirtual 55, 3) := by decide +kernel
theorem dX0_dropView_34 : decode cX0_dropView 34 = .ok (.iinc 3 1, 3) := by decide +kernel
theorem dX0_dropView_37 : decode cX0_dropView 37 = .ok (.goto (-23), 3) := by decide +kernel
theorem dX0_dropView_40 : decode cX0_dropView 40 = .ok (.iinc 2 1, 3) := by decide +kernel
theorem dX0_dropView_43 : decode cX0_dropView 43 = .ok (.goto (-39), 3) := by decide +kernel
theorem dX0_dropView_46 : decode cX0_dropView 46 = .ok (.aload_n 0, 1) := by decide +kernel
theorem dX0_dropView_47 : decode cX0_dropView 47 = .ok (.dup, 1) := by decide +kernel
theorem dX0_dropView_48 : decode cX0_dropView 48 = .ok (.getfield 9, 3) := by decide +kernel
theorem dX0_dropView_51 : decode cX0_dropView 51 = .ok (.iconst 1, 1) := by decide +kernel
theorem dX0_dropView_52 : decode cX0_dropView 52 = .ok (.isub, 1) := by decide +kernel
theorem dX0_dropView_53 : decode cX0_dropView 53 = .ok (.putfield 9, 3) := by decide +kernel
theorem dX0_dropView_56 : decode cX0_dropView 56 = .ok (.aload_n 0, 1) := by decide +kernel
theorem dX0_dropView_57 : decode cX0_dropView 57 = .ok (.invokevirtual 40, 3) := by decide +kernel
theorem dX0_dropView_60 : decode cX0_dropView 60 = .ok (.return_, 1) := by decide +kernel
theorem dX0_exchangeViews_0 : decode cX0_exchangeViews 0 = .ok (.iconst 0, 1) := by decide +kernel
theorem dX0_exchangeViews_1 : decode cX0_exchangeViews 1 = .ok (.istore_n 3, 1) := by decide +kernel
theorem dX0_exchangeViews_2 : decode cX0_exchangeViews 2 = .ok (.iconst 0, 1) := by decide +kernel
theorem dX0_exchangeViews_3 : decode cX0_exchangeViews 3 = .ok (.istore 4, 2) := by decide +kernel
theorem dX0_exchangeViews_5 : decode cX0_exchangeViews 5 = .ok (.iload 4, 2) := by decide +kernel
theorem dX0_exchangeViews_7 : decode cX0_exchangeViews 7 = .ok (.bipush 12, 2) := by decide +kernel
theorem dX0_exchangeViews_9 : decode cX0_exchangeViews 9 = .ok (.if_icmp .ge 55, 3) := by decide +kernel
theorem dX0_exchangeViews_12 : decode cX0_exchangeViews 12 = .ok (.aload_n 0, 1) := by decide +kernel
theorem dX0_exchangeViews_13 : decode cX0_exchangeViews 13 = .ok (.iload_n 1, 1) := by decide +kernel
theorem dX0_exchangeViews_14 : decode cX0_exchangeViews 14 = .ok (.iload 4, 2) := by decide +kernel
theorem dX0_exchangeViews_16 : decode cX0_exchangeViews 16 = .ok (.invokevirtual 59, 3) := by decide +kernel
theorem dX0_exchangeViews_19 : decode cX0_exchangeViews 19 = .ok (.istore 5, 2) := by decide +kernel
theorem dX0_exchangeViews_21 : decode cX0_exchangeViews 21 = .ok (.aload_n 0, 1) := by decide +kernel
theorem dX0_exchangeViews_22 : decode cX0_exchangeViews 22 = .ok (.iload_n 2, 1) := by decide +kernel
theorem dX0_exchangeViews_23 : decode cX0_exchangeViews 23 = .ok (.iload 4, 2) := by decide +kernel
theorem dX0_exchangeViews_25 : decode cX0_exchangeViews 25 = .ok (.invokevirtual 59, 3) := by decide +kernel
theorem dX0_exchangeViews_28 : decode cX0_exchangeViews 28 = .ok (.istore 6, 2) := by decide +kernel
theorem dX0_exchangeViews_30 : decode cX0_exchangeViews 30 = .ok (.iload 5, 2) := by decide +kernel
theorem dX0_exchangeViews_32 : decode cX0_exchangeViews 32 = .ok (.iload 6, 2) := by decide +kernel
theorem dX0_exchangeViews_34 : decode cX0_exchangeViews 34 = .ok (.if_icmp .eq 6, 3) := by decide +kernel
theorem dX0_exchangeViews_37 : decode cX0_exchangeViews 37 = .ok (.iinc 3 1, 3) := by decide +kernel
theorem dX0_exchangeViews_40 : decode cX0_exchangeViews 40 = .ok (.aload_n 0, 1) := by decide +kernel
theorem dX0_exchangeViews_41 : decode cX0_exchangeViews 41 = .ok (.iload_n 1, 1) := by decide +kernel
theorem dX0_exchangeViews_42 : decode cX0_exchangeViews 42 = .ok (.iload 4, 2) := by decide +kernel
theorem dX0_exchangeViews_44 : decode cX0_exchangeViews 44 = .ok (.iload 6, 2) := by decide +kernel
theorem dX0_exchangeViews_46 : decode cX0_exchangeViews 46 = .ok (.invokevirtual 55, 3) := by decide +kernel
theorem dX0_exchangeViews_49 : decode cX0_exchangeViews 49 = .ok (.aload_n 0, 1) := by decide +kernel
theorem dX0_exchangeViews_50 : decode cX0_exchangeViews 50 = .ok (.iload_n 2, 1) := by decide +kernel
theorem dX0_exchangeViews_51 : decode cX0_exchangeViews 51 = .ok (.iload 4, 2) := by decide +kernel
theorem dX0_exchangeViews_53 : decode cX0_exchangeViews 53 = .ok (.iload 5, 2) := by decide +kernel
theorem dX0_exchangeViews_55 : decode cX0_exchangeViews 55 = .ok (.invokevirtual 55, 3) := by decide +kernel
theorem dX0_exchangeViews_58 : decode cX0_exchangeViews 58 = .ok (.iinc 4 1, 3) := by decide +kernel
theorem dX0_exchangeViews_61 : decode cX0_exchangeViews 61 = .ok (.goto (-56), 3) := by decide +kernel
theorem dX0_exchangeViews_64 : decode cX0_exchangeViews 64 = .ok (.iload_n 3, 1) := by decide +kernel
theorem dX0_exchangeViews_65 : decode cX0_exchangeViews 65 = .ok (.ireturn, 1) := by decide +kernel
theorem dX0_resetSlices_0 : decode cX0_resetSlices 0 = .ok (.iconst 0, 1) := by decide +kernel
theorem dX0_resetSlices_1 : decode cX0_resetSlices 1 = .ok (.istore_n 1, 1) := by decide +kernel
theorem dX0_resetSlices_2 : decode cX0_resetSlices 2 = .ok (.iconst 0, 1) := by decide +kernel
theorem dX0_resetSlices_3 : decode cX0_resetSlices 3 = .ok (.istore_n 2, 1) := by decide +kernel
theorem dX0_resetSlices_4 : decode cX0_resetSlices 4 = .ok (.iload_n 2, 1) := by decide +kernel
theorem dX0_resetSlices_5 : decode cX0_resetSlices 5 = .ok (.bipush 6, 2) := by decide +kernel
theorem dX0_resetSlices_7 : decode cX0_resetSlices 7 = .ok (.if_icmp .ge 34, 3) := by decide +kernel
theorem dX0_resetSlices_10 : decode cX0_resetSlices 10 = .ok (.aload_n 0, 1) := by decide +kernel
theorem dX0_resetSlices_11 : decode cX0_resetSlices 11 = .ok (.getfield 22, 3) := by decide +kernel
theorem dX0_resetSlices_14 : decode cX0_resetSlices 14 = .ok (.iload_n 2, 1) := by decide +kernel
theorem dX0_resetSlices_15 : decode cX0_resetSlices 15 = .ok (.iload_n 1, 1) := by decide +kernel
theorem dX0_resetSlices_16 : decode cX0_resetSlices 16 = .ok (.iastore, 1) := by decide +kernel
theorem dX0_resetSlices_17 : decode cX0_resetSlices 17 = .ok (.iload_n 1, 1) := by decide +kernel
theorem dX0_resetSlices_18 : decode cX0_resetSlices 18 = .ok (.iconst 1, 1) := by decide +kernel
theorem dX0_resetSlices_19 : decode cX0_resetSlices 19 = .ok (.iadd, 1) := by decide +kernel
theorem dX0_resetSlices_20 : decode cX0_resetSlices 20 = .ok (.aload_n 0, 1) := by decide +kernel
theorem dX0_resetSlices_21 : decode cX0_resetSlices 21 = .ok (.getfield 9, 3) := by decide +kernel
theorem dX0_resetSlices_24 : decode cX0_resetSlices 24 = .ok (.if_icmp .ge 9, 3) := by decide +kernel
theorem dX0_resetSlices_27 : decode cX0_resetSlices 27 = .ok (.iload_n 1, 1) := by decide +kernel
theorem dX0_resetSlices_28 : decode cX0_resetSlices 28 = .ok (.iconst 1, 1) := by decide +kernel
theorem dX0_resetSlices_29 : decode cX0_resetSlices 29 = .ok (.iadd, 1) := by decide +kernel
theorem dX0_resetSlices_30 : decode cX0_resetSlices 30 = .ok (.goto 4, 3) := by decide +kernel
theorem dX0_resetSlices_33 : decode cX0_resetSlices 33 = .ok (.iconst 0, 1) := by decide +kernel
theorem dX0_resetSlices_34 : decode cX0_resetSlices 34 = .ok (.istore_n 1, 1) := by decide +kernel
theorem dX0_resetSlices_35 : decode cX0_resetSlices 35 = .ok (.iinc 2 1, 3) := by decide +kernel
theorem dX0_resetSlices_38 : decode cX0_resetSlices 38 = .ok (.goto (-34), 3) := by decide +kernel
theorem dX0_resetSlices_41 : decode cX0_resetSlices 41 = .ok (.return_, 1) := by decide +kernel
theorem dX0_viewDue_0 : decode cX0_viewDue 0 = .ok (.iload_n 1, 1) := by decide +kernel
theorem dX0_viewDue_1 : decode cX0_viewDue 1 = .ok (.ifCond .lt 9, 3) := by decide +kernel
theorem dX0_viewDue_4 : decode cX0_viewDue 4 = .ok (.iload_n 1, 1) := by decide +kernel
theorem dX0_viewDue_5 : decode cX0_viewDue 5 = .ok (.bipush 6, 2) := by decide +kernel
theorem dX0_viewDue_7 : decode cX0_viewDue 7 = .ok (.if_icmp .lt 5, 3) := by decide +kernel
theorem dX0_viewDue_10 : decode cX0_viewDue 10 = .ok (.iconst (-1), 1) := by decide +kernel
theorem dX0_viewDue_11 : decode cX0_viewDue 11 = .ok (.ireturn, 1) := by decide +kernel
theorem dX0_viewDue_12 : decode cX0_viewDue 12 = .ok (.aload_n 0, 1) := by decide +kernel
theorem dX0_viewDue_13 : decode cX0_viewDue 13 = .ok (.getfield 22, 3) := by decide +kernel
theorem dX0_viewDue_16 : decode cX0_viewDue 16 = .ok (.iload_n 1, 1) := by decide +kernel
theorem dX0_viewDue_17 : decode cX0_viewDue 17 = .ok (.iaload, 1) := by decide +kernel
theorem dX0_viewDue_18 : decode cX0_viewDue 18 = .ok (.ireturn, 1) := by decide +kernel
theorem dX0_putSlice_0 : decode cX0_putSlice 0 = .ok (.iload_n 1, 1) := by decide +kernel
theorem dX0_putSlice_1 : decode cX0_putSlice 1 = .ok (.iconst 0, 1) := by decide +kernel
theorem dX0_putSlice_2 : decode cX0_putSlice 2 = .ok (.iconst 5, 1) := by decide +kernel
theorem dX0_putSlice_3 : decode cX0_putSlice 3 = .ok (.invokestatic 47, 3) := by decide +kernel
theorem dX0_putSlice_6 : decode cX0_putSlice 6 = .ok (.ifCond .eq 10, 3) := by decide +kernel
theorem dX0_putSlice_9 : decode cX0_putSlice 9 = .ok (.aload_n 0, 1) := by decide +kernel
theorem dX0_putSlice_10 : decode cX0_putSlice 10 = .ok (.getfield 22, 3) := by decide +kernel
theorem dX0_putSlice_13 : decode cX0_putSlice 13 = .ok (.iload_n 1, 1) := by decide +kernel
theorem dX0_putSlice_14 : decode cX0_putSlice 14 = .ok (.iload_n 2, 1) := by decide +kernel
theorem dX0_putSlice_15 : decode cX0_putSlice 15 = .ok (.iastore, 1) := by decide +kernel
theorem dX0_putSlice_16 : decode cX0_putSlice 16 = .ok (.return_, 1) := by decide +kernel
theorem dX0_slicesShowing_0 : decode cX0_slicesShowing 0 = .ok (.iconst 0, 1) := by decide +kernel
theorem dX0_slicesShowing_1 : decode cX0_slicesShowing 1 = .ok (.istore_n 2, 1) := by decide +kernel
theorem dX0_slicesShowing_2 : decode cX0_slicesShowing 2 = .ok (.iconst 0, 1) := by decide +kernel
theorem dX0_slicesShowing_3 : decode cX0_slicesShowing 3 = .ok (.istore_n 3, 1) := by decide +kernel
theorem dX0_slicesShowing_4 : decode cX0_slicesShowing 4 = .ok (.iload_n 3, 1) := by decide +kernel
theorem dX0_slicesShowing_5 : decode cX0_slicesShowing 5 = .ok (.aload_n 0, 1) := by decide +kernel
theorem dX0_slicesShowing_6 : decode cX0_slicesShowing 6 = .ok (.getfield 19, 3) := by decide +kernel
theorem dX0_slicesShowing_9 : decode cX0_slicesShowing 9 = .ok (.if_icmp .ge 21, 3) := by decide +kernel
theorem dX0_slicesShowing_12 : decode cX0_slicesShowing 12 = .ok (.aload_n 0, 1) := by decide +kernel
theorem dX0_slicesShowing_13 : decode cX0_slicesShowing 13 = .ok (.iload_n 3, 1) := by decide +kernel
theorem dX0_slicesShowing_14 : decode cX0_slicesShowing 14 = .ok (.invokevirtual 63, 3) := by decide +kernel
theorem dX0_slicesShowing_17 : decode cX0_slicesShowing 17 = .ok (.iload_n 1, 1) := by decide +kernel
theorem dX0_slicesShowing_18 : decode cX0_slicesShowing 18 = .ok (.if_icmp .ne 6, 3) := by decide +kernel
theorem dX0_slicesShowing_21 : decode cX0_slicesShowing 21 = .ok (.iinc 2 1, 3) := by decide +kernel
theorem dX0_slicesShowing_24 : decode cX0_slicesShowing 24 = .ok (.iinc 3 1, 3) := by decide +kernel
theorem dX0_slicesShowing_27 : decode cX0_slicesShowing 27 = .ok (.goto (-23), 3) := by decide +kernel
theorem dX0_slicesShowing_30 : decode cX0_slicesShowing 30 = .ok (.iload_n 2, 1) := by decide +kernel
theorem dX0_slicesShowing_31 : decode cX0_slicesShowing 31 = .ok (.ireturn, 1) := by decide +kernel
theorem dX0_spotBehind_0 : decode cX0_spotBehind 0 = .ok (.iload_n 1, 1) := by decide +kernel
theorem dX0_spotBehind_1 : decode cX0_spotBehind 1 = .ok (.aload_n 0, 1) := by decide +kernel
theorem dX0_spotBehind_2 : decode cX0_spotBehind 2 = .ok (.getfield 19, 3) := by decide +kernel
theorem dX0_spotBehind_5 : decode cX0_spotBehind 5 = .ok (.imul, 1) := by decide +kernel
theorem dX0_spotBehind_6 : decode cX0_spotBehind 6 = .ok (.iload_n 2, 1) := by decide +kernel
theorem dX0_spotBehind_7 : decode cX0_spotBehind 7 = .ok (.iadd, 1) := by decide +kernel
theorem dX0_spotBehind_8 : decode cX0_spotBehind 8 = .ok (.aload_n 0, 1) := by decide +kernel
theorem dX0_spotBehind_9 : decode cX0_spotBehind 9 = .ok (.getfield 25, 3) := by decide +kernel
theorem dX0_spotBehind_12 : decode cX0_spotBehind 12 = .ok (.isub, 1) := by decide +kernel
theorem dX0_spotBehind_13 : decode cX0_spotBehind 13 = .ok (.istore_n 3, 1) := by decide +kernel
theorem dX0_spotBehind_14 : decode cX0_spotBehind 14 = .ok (.iload_n 3, 1) := by decide +kernel
theorem dX0_spotBehind_15 : decode cX0_spotBehind 15 = .ok (.iconst 0, 1) := by decide +kernel
theorem dX0_spotBehind_16 : decode cX0_spotBehind 16 = .ok (.bipush 12, 2) := by decide +kernel
theorem dX0_spotBehind_18 : decode cX0_spotBehind 18 = .ok (.aload_n 0, 1) := by decide +kernel
theorem dX0_spotBehind_19 : decode cX0_spotBehind 19 = .ok (.getfield 19, 3) := by decide +kernel
theorem dX0_spotBehind_22 : decode cX0_spotBehind 22 = .ok (.imul, 1) := by decide +kernel
theorem dX0_spotBehind_23 : decode cX0_spotBehind 23 = .ok (.iconst 1, 1) := by decide +kernel
theorem dX0_spotBehind_24 : decode cX0_spotBehind 24 = .ok (.isub, 1) := by decide +kernel
theorem dX0_spotBehind_25 : decode cX0_spotBehind 25 = .ok (.invokestatic 47, 3) := by decide +kernel
theorem dX0_spotBehind_28 : decode cX0_spotBehind 28 = .ok (.ifCond .eq 7, 3) := by decide +kernel
theorem dX0_spotBehind_31 : decode cX0_spotBehind 31 = .ok (.iload_n 3, 1) := by decide +kernel
theorem dX0_spotBehind_32 : decode cX0_spotBehind 32 = .ok (.goto 4, 3) := by decide +kernel
theorem dX0_spotBehind_35 : decode cX0_spotBehind 35 = .ok (.iconst (-1), 1) := by decide +kernel
theorem dX0_spotBehind_36 : decode cX0_spotBehind 36 = .ok (.ireturn, 1) := by decide +kernel
theorem dX0_sliceBehind_0 : decode cX0_sliceBehind 0 = .ok (.aload_n 0, 1) := by decide +kernel
theorem dX0_sliceBehind_1 : decode cX0_sliceBehind 1 = .ok (.iload_n 1, 1) := by decide +kernel
theorem dX0_sliceBehind_2 : decode cX0_sliceBehind 2 = .ok (.iload_n 2, 1) := by decide +kernel
theorem dX0_sliceBehind_3 : decode cX0_sliceBehind 3 = .ok (.invokevirtual 82, 3) := by decide +kernel
theorem dX0_sliceBehind_6 : decode cX0_sliceBehind 6 = .ok (.istore_n 3, 1) := by decide +kernel
theorem dX0_sliceBehind_7 : decode cX0_sliceBehind 7 = .ok (.iload_n 3, 1) := by decide +kernel
theorem dX0_sliceBehind_8 : decode cX0_sliceBehind 8 = .ok (.iconst (-1), 1) := by decide +kernel
theorem dX0_sliceBehind_9 : decode cX0_sliceBehind 9 = .ok (.if_icmp .eq 11, 3) := by decide +kernel
theorem dX0_sliceBehind_12 : decode cX0_sliceBehind 12 = .ok (.aload_n 0, 1) := by decide +kernel
theorem dX0_sliceBehind_13 : decode cX0_sliceBehind 13 = .ok (.getfield 19, 3) := by decide +kernel
theorem dX0_sliceBehind_16 : decode cX0_sliceBehind 16 = .ok (.iconst 1, 1) := by decide +kernel
theorem dX0_sliceBehind_17 : decode cX0_sliceBehind 17 = .ok (.if_icmp .ge 7, 3) := by decide +kernel
theorem dX0_sliceBehind_20 : decode cX0_sliceBehind 20 = .ok (.iconst (-1), 1) := by decide +kernel
theorem dX0_sliceBehind_21 : decode cX0_sliceBehind 21 = .ok (.goto 9, 3) := by decide +kernel
theorem dX0_sliceBehind_24 : decode cX0_sliceBehind 24 = .ok (.iload_n 3, 1) := by decide +kernel
theorem dX0_sliceBehind_25 : decode cX0_sliceBehind 25 = .ok (.aload_n 0, 1) := by decide +kernel
theorem dX0_sliceBehind_26 : decode cX0_sliceBehind 26 = .ok (.getfield 19, 3) := by decide +kernel
theorem dX0_sliceBehind_29 : decode cX0_sliceBehind 29 = .ok (.irem, 1) := by decide +kernel
theorem dX0_sliceBehind_30 : decode cX0_sliceBehind 30 = .ok (.ireturn, 1) := by decide +kernel
theorem dX0_ridgeBehind_0 : decode cX0_ridgeBehind 0 = .ok (.aload_n 0, 1) := by decide +kernel
theorem dX0_ridgeBehind_1 : decode cX0_ridgeBehind 1 = .ok (.iload_n 1, 1) := by decide +kernel
theorem dX0_ridgeBehind_2 : decode cX0_ridgeBehind 2 = .ok (.iload_n 2, 1) := by decide +kernel
theorem dX0_ridgeBehind_3 : decode cX0_ridgeBehind 3 = .ok (.invokevirtual 82, 3) := by decide +kernel
theorem dX0_ridgeBehind_6 : decode cX0_ridgeBehind 6 = .ok (.istore_n 3, 1) := by decide +kernel
theorem dX0_ridgeBehind_7 : decode cX0_ridgeBehind 7 = .ok (.iload_n 3, 1) := by decide +kernel
theorem dX0_ridgeBehind_8 : decode cX0_ridgeBehind 8 = .ok (.iconst (-1), 1) := by decide +kernel
theorem dX0_ridgeBehind_9 : decode cX0_ridgeBehind 9 = .ok (.if_icmp .eq 11, 3) := by decide +kernel
theorem dX0_ridgeBehind_12 : decode cX0_ridgeBehind 12 = .ok (.aload_n 0, 1) := by decide +kernel
theorem dX0_ridgeBehind_13 : decode cX0_ridgeBehind 13 = .ok (.getfield 19, 3) := by decide +kernel
theorem dX0_ridgeBehind_16 : decode cX0_ridgeBehind 16 = .ok (.iconst 1, 1) := by decide +kernel
theorem dX0_ridgeBehind_17 : decode cX0_ridgeBehind 17 = .ok (.if_icmp .ge 7, 3) := by decide +kernel
theorem dX0_ridgeBehind_20 : decode cX0_ridgeBehind 20 = .ok (.iconst (-1), 1) := by decide +kernel
theorem dX0_ridgeBehind_21 : decode cX0_ridgeBehind 21 = .ok (.goto 9, 3) := by decide +kernel
theorem dX0_ridgeBehind_24 : decode cX0_ridgeBehind 24 = .ok (.iload_n 3, 1) := by decide +kernel
theorem dX0_ridgeBehind_25 : decode cX0_ridgeBehind 25 = .ok (.aload_n 0, 1) := by decide +kernel
theorem dX0_ridgeBehind_26 : decode cX0_ridgeBehind 26 = .ok (.getfield 19, 3) := by decide +kernel
theorem dX0_ridgeBehind_29 : decode cX0_ridgeBehind 29 = .ok (.idiv, 1) := by decide +kernel
theorem dX0_ridgeBehind_30 : decode cX0_ridgeBehind 30 = .ok (.ireturn, 1) := by decide +kernel
theorem dX0_viewBehind_0 : decode cX0_viewBehind 0 = .ok (.aload_n 0, 1) := by decide +kernel
theorem dX0_viewBehind_1 : decode cX0_viewBehind 1 = .ok (.aload_n 0, 1) := by decide +kernel
theorem dX0_viewBehind_2 : decode cX0_viewBehind 2 = .ok (.iload_n 1, 1) := by decide +kernel
theorem dX0_viewBehind_3 : decode cX0_viewBehind 3 = .ok (.iload_n 2, 1) := by decide +kernel
theorem dX0_viewBehind_4 : decode cX0_viewBehind 4 = .ok (.invokevirtual 85, 3) := by decide +kernel
theorem dX0_viewBehind_7 : decode cX0_viewBehind 7 = .ok (.invokevirtual 63, 3) := by decide +kernel
theorem dX0_viewBehind_10 : decode cX0_viewBehind 10 = .ok (.ireturn, 1) := by decide +kernel
theorem dX0_colourBehind_0 : decode cX0_colourBehind 0 = .ok (.aload_n 0, 1) := by decide +kernel
theorem dX0_colourBehind_1 : decode cX0_colourBehind 1 = .ok (.aload_n 0, 1) := by decide +kernel
theorem dX0_colourBehind_2 : decode cX0_colourBehind 2 = .ok (.iload_n 1, 1) := by decide +kernel
theorem dX0_colourBehind_3 : decode cX0_colourBehind 3 = .ok (.iload_n 2, 1) := by decide +kernel
theorem dX0_colourBehind_4 : decode cX0_colourBehind 4 = .ok (.invokevirtual 88, 3) := by decide +kernel
theorem dX0_colourBehind_7 : decode cX0_colourBehind 7 = .ok (.aload_n 0, 1) := by decide +kernel
theorem dX0_colourBehind_8 : decode cX0_colourBehind 8 = .ok (.iload_n 1, 1) := by decide +kernel
theorem dX0_colourBehind_9 : decode cX0_colourBehind 9 = .ok (.iload_n 2, 1) := by decide +kernel
theorem dX0_colourBehind_10 : decode cX0_colourBehind 10 = .ok (.invokevirtual 91, 3) := by decide +kernel
theorem dX0_colourBehind_13 : decode cX0_colourBehind 13 = .ok (.invokevirtual 59, 3) := by decide +kernel
theorem dX0_colourBehind_16 : decode cX0_colourBehind 16 = .ok (.ireturn, 1) := by decide +kernel
theorem dX0_stepAt_0 : decode cX0_stepAt 0 = .ok (.aload_n 0, 1) := by decide +kernel
theorem dX0_stepAt_1 : decode cX0_stepAt 1 = .ok (.getfield 19, 3) := by decide +kernel
theorem dX0_stepAt_4 : decode cX0_stepAt 4 = .ok (.iload_n 1, 1) := by decide +kernel
theorem dX0_stepAt_5 : decode cX0_stepAt 5 = .ok (.bipush 9, 2) := by decide +kernel
theorem dX0_stepAt_7 : decode cX0_stepAt 7 = .ok (.iadd, 1) := by decide +kernel
theorem dX0_stepAt_8 : decode cX0_stepAt 8 = .ok (.imul, 1) := by decide +kernel
theorem dX0_stepAt_9 : decode cX0_stepAt 9 = .ok (.bipush 19, 2) := by decide +kernel
theorem dX0_stepAt_11 : decode cX0_stepAt 11 = .ok (.idiv, 1) := by decide +kernel
theorem dX0_stepAt_12 : decode cX0_stepAt 12 = .ok (.ireturn, 1) := by decide +kernel
theorem dX0_placeSeen_0 : decode cX0_placeSeen 0 = .ok (.iload_n 1, 1) := by decide +kernel
theorem dX0_placeSeen_1 : decode cX0_placeSeen 1 = .ok (.aload_n 0, 1) := by decide +kernel
theorem dX0_placeSeen_2 : decode cX0_placeSeen 2 = .ok (.getfield 28, 3) := by decide +kernel
theorem dX0_placeSeen_5 : decode cX0_placeSeen 5 = .ok (.iload_n 2, 1) := by decide +kernel
theorem dX0_placeSeen_6 : decode cX0_placeSeen 6 = .ok (.bipush 6, 2) := by decide +kernel
theorem dX0_placeSeen_8 : decode cX0_placeSeen 8 = .ok (.isub, 1) := by decide +kernel
theorem dX0_placeSeen_9 : decode cX0_placeSeen 9 = .ok (.imul, 1) := by decide +kernel
theorem dX0_placeSeen_10 : decode cX0_placeSeen 10 = .ok (.iconst 4, 1) := by decide +kernel
theorem dX0_placeSeen_11 : decode cX0_placeSeen 11 = .ok (.idiv, 1) := by decide +kernel
theorem dX0_placeSeen_12 : decode cX0_placeSeen 12 = .ok (.iadd, 1) := by decide +kernel
theorem dX0_placeSeen_13 : decode cX0_placeSeen 13 = .ok (.istore_n 3, 1) := by decide +kernel
theorem dX0_placeSeen_14 : decode cX0_placeSeen 14 = .ok (.iconst 0, 1) := by decide +kernel
theorem dX0_placeSeen_15 : decode cX0_placeSeen 15 = .ok (.iload_n 3, 1) := by decide +kernel
theorem dX0_placeSeen_16 : decode cX0_placeSeen 16 = .ok (.aload_n 0, 1) := by decide +kernel
theorem dX0_placeSeen_17 : decode cX0_placeSeen 17 = .ok (.getfield 19, 3) := by decide +kernel
theorem dX0_placeSeen_20 : decode cX0_placeSeen 20 = .ok (.iconst 1, 1) := by decide +kernel
theorem dX0_placeSeen_21 : decode cX0_placeSeen 21 = .ok (.isub, 1) := by decide +kernel
theorem dX0_placeSeen_22 : decode cX0_placeSeen 22 = .ok (.invokestatic 94, 3) := by decide +kernel
theorem dX0_placeSeen_25 : decode cX0_placeSeen 25 = .ok (.invokestatic 77, 3) := by decide +kernel
theorem dX0_placeSeen_28 : decode cX0_placeSeen 28 = .ok (.ireturn, 1) := by decide +kernel
theorem dX1_init_0 : decode cX1_init 0 = .ok (.aload_n 0, 1) := by decide +kernel
theorem dX1_init_1 : decode cX1_init 1 = .ok (.invokespecial 3, 3) := by decide +kernel
theorem dX1_init_4 : decode cX1_init 4 = .ok (.aload_n 0, 1) := by decide +kernel
theorem dX1_init_5 : decode cX1_init 5 = .ok (.bipush 80, 2) := by decide +kernel
theorem dX1_init_7 : decode cX1_init 7 = .ok (.newarray .char, 2) := by decide +kernel
theorem dX1_init_9 : decode cX1_init 9 = .ok (.putfield 9, 3) := by decide +kernel
theorem dX1_init_12 : decode cX1_init 12 = .ok (.aload_n 0, 1) := by decide +kernel
theorem dX1_init_13 : decode cX1_init 13 = .ok (.iconst 0, 1) := by decide +kernel
theorem dX1_init_14 : decode cX1_init 14 = .ok (.putfield 15, 3) := by decide +kernel
theorem dX1_init_17 : decode cX1_init 17 = .ok (.aload_n 0, 1) := by decide +kernel
theorem dX1_init_18 : decode cX1_init 18 = .ok (.iconst (-1), 1) := by decide +kernel
theorem dX1_init_19 : decode cX1_init 19 = .ok (.putfield 19, 3) := by decide +kernel
theorem dX1_init_22 : decode cX1_init 22 = .ok (.return_, 1) := by decide +kernel
theorem dX1_isFull_0 : decode cX1_isFull 0 = .ok (.aload_n 0, 1) := by decide +kernel
theorem dX1_isFull_1 : decode cX1_isFull 1 = .ok (.getfield 15, 3) := by decide +kernel
theorem dX1_isFull_4 : decode cX1_isFull 4 = .ok (.bipush 80, 2) := by decide +kernel
theorem dX1_isFull_6 : decode cX1_isFull 6 = .ok (.if_icmp .lt 7, 3) := by decide +kernel
theorem dX1_isFull_9 : decode cX1_isFull 9 = .ok (.iconst 1, 1) := by decide +kernel
theorem dX1_isFull_10 : decode cX1_isFull 10 = .ok (.goto 4, 3) := by decide +kernel
theorem dX1_isFull_13 : decode cX1_isFull 13 = .ok (.iconst 0, 1) := by decide +kernel
theorem dX1_isFull_14 : decode cX1_isFull 14 = .ok (.ireturn, 1) := by decide +kernel
theorem dX1_append_0 : decode cX1_append 0 = .ok (.aload_n 0, 1) := by decide +kernel
theorem dX1_append_1 : decode cX1_append 1 = .ok (.getfield 15, 3) := by decide +kernel
theorem dX1_append_4 : decode cX1_append 4 = .ok (.ifCond .lt 43, 3) := by decide +kernel
theorem dX1_append_7 : decode cX1_append 7 = .ok (.aload_n 0, 1) := by decide +kernel
theorem dX1_append_8 : decode cX1_append 8 = .ok (.getfield 15, 3) := by decide +kernel
theorem dX1_append_11 : decode cX1_append 11 = .ok (.bipush 80, 2) := by decide +kernel
theorem dX1_append_13 : decode cX1_append 13 = .ok (.if_icmp .ge 34, 3) := by decide +kernel
theorem dX1_append_16 : decode cX1_append 16 = .ok (.aload_n 0, 1) := by decide +kernel
theorem dX1_append_17 : decode cX1_append 17 = .ok (.getfield 9, 3) := by decide +kernel
theorem dX1_append_20 : decode cX1_append 20 = .ok (.aload_n 0, 1) := by decide +kernel
theorem dX1_append_21 : decode cX1_append 21 = .ok (.getfield 15, 3) := by decide +kernel
theorem dX1_append_24 : decode cX1_append 24 = .ok (.iload_n 1, 1) := by decide +kernel
theorem dX1_append_25 : decode cX1_append 25 = .ok (.sipush 255, 3) := by decide +kernel
theorem dX1_append_28 : decode cX1_append 28 = .ok (.if_icmp .gt 7, 3) := by decide +kernel
theorem dX1_append_31 : decode cX1_append 31 = .ok (.iload_n 1, 1) := by decide +kernel
theorem dX1_append_32 : decode cX1_append 32 = .ok (.goto 4, 3) := by decide +kernel
theorem dX1_append_35 : decode cX1_append 35 = .ok (.iconst 0, 1) := by decide +kernel
theorem dX1_append_36 : decode cX1_append 36 = .ok (.castore, 1) := by decide +kernel
theorem dX1_append_37 : decode cX1_append 37 = .ok (.aload_n 0, 1) := by decide +kernel
theorem dX1_append_38 : decode cX1_append 38 = .ok (.dup, 1) := by decide +kernel
theorem dX1_append_39 : decode cX1_append 39 = .ok (.getfield 15, 3) := by decide +kernel
theorem dX1_append_42 : decode cX1_append 42 = .ok (.iconst 1, 1) := by decide +kernel
theorem dX1_append_43 : decode cX1_append 43 = .ok (.iadd, 1) := by decide +kernel
theorem dX1_append_44 : decode cX1_append 44 = .ok (.putfield 15, 3) := by decide +kernel
theorem dX1_append_47 : decode cX1_append 47 = .ok (.return_, 1) := by decide +kernel
theorem dX1_empty_0 : decode cX1_empty 0 = .ok (.aload_n 0, 1) := by decide +kernel
theorem dX1_empty_1 : decode cX1_empty 1 = .ok (.iconst 0, 1) := by decide +kernel
theorem dX1_empty_2 : decode cX1_empty 2 = .ok (.putfield 15, 3) := by decide +kernel
theorem dX1_empty_5 : decode cX1_empty 5 = .ok (.return_, 1) := by decide +kernel
theorem dX1_charAt_0 : decode cX1_charAt 0 = .ok (.iload_n 1, 1) := by decide +kernel
theorem dX1_charAt_1 : decode cX1_charAt 1 = .ok (.ifCond .lt 18, 3) := by decide +kernel
theorem dX1_charAt_4 : decode cX1_charAt 4 = .ok (.iload_n 1, 1) := by decide +kernel
theorem dX1_charAt_5 : decode cX1_charAt 5 = .ok (.bipush 80, 2) := by decide +kernel
theorem dX1_charAt_7 : decode cX1_charAt 7 = .ok (.if_icmp .ge 12, 3) := by decide +kernel
theorem dX1_charAt_10 : decode cX1_charAt 10 = .ok (.aload_n 0, 1) := by decide +kernel
theorem dX1_charAt_11 : decode cX1_charAt 11 = .ok (.getfield 9, 3) := by decide +kernel
theorem dX1_charAt_14 : decode cX1_charAt 14 = .ok (.iload_n 1, 1) := by decide +kernel
theorem dX1_charAt_15 : decode cX1_charAt 15 = .ok (.caload, 1) := by decide +kernel
theorem dX1_charAt_16 : decode cX1_charAt 16 = .ok (.goto 4, 3) := by decide +kernel
theorem dX1_charAt_19 : decode cX1_charAt 19 = .ok (.iconst 0, 1) := by decide +kernel
theorem dX1_charAt_20 : decode cX1_charAt 20 = .ok (.ireturn, 1) := by decide +kernel
theorem dX1_digitAt_0 : decode cX1_digitAt 0 = .ok (.aload_n 0, 1) := by decide +kernel
theorem dX1_digitAt_1 : decode cX1_digitAt 1 = .ok (.iload_n 1, 1) := by decide +kernel
theorem dX1_digitAt_2 : decode cX1_digitAt 2 = .ok (.invokevirtual 22, 3) := by decide +kernel
theorem dX1_digitAt_5 : decode cX1_digitAt 5 = .ok (.istore_n 2, 1) := by decide +kernel
theorem dX1_digitAt_6 : decode cX1_digitAt 6 = .ok (.iload_n 2, 1) := by decide +kernel
theorem dX1_digitAt_7 : decode cX1_digitAt 7 = .ok (.bipush 48, 2) := by decide +kernel
theorem dX1_digitAt_9 : decode cX1_digitAt 9 = .ok (.if_icmp .lt 16, 3) := by decide +kernel
theorem dX1_digitAt_12 : decode cX1_digitAt 12 = .ok (.iload_n 2, 1) := by decide +kernel
theorem dX1_digitAt_13 : decode cX1_digitAt 13 = .ok (.bipush 57, 2) := by decide +kernel
theorem dX1_digitAt_15 : decode cX1_digitAt 15 = .ok (.if_icmp .gt 10, 3) := by decide +kernel
theorem dX1_digitAt_18 : decode cX1_digitAt 18 = .ok (.iload_n 2, 1) := by decide +kernel
theorem dX1_digitAt_19 : decode cX1_digitAt 19 = .ok (.bipush 48, 2) := by decide +kernel
theorem dX1_digitAt_21 : decode cX1_digitAt 21 = .ok (.isub, 1) := by decide +kernel
theorem dX1_digitAt_22 : decode cX1_digitAt 22 = .ok (.goto 4, 3) := by decide +kernel
theorem dX1_digitAt_25 : decode cX1_digitAt 25 = .ok (.iconst (-1), 1) := by decide +kernel
theorem dX1_digitAt_26 : decode cX1_digitAt 26 = .ok (.ireturn, 1) := by decide +kernel
theorem dX1_findFault_0 : decode cX1_findFault 0 = .ok (.aload_n 0, 1) := by decide +kernel
theorem dX1_findFault_1 : decode cX1_findFault 1 = .ok (.iconst (-1), 1) := by decide +kernel
theorem dX1_findFault_2 : decode cX1_findFault 2 = .ok (.putfield 19, 3) := by decide +kernel
theorem dX1_findFault_5 : decode cX1_findFault 5 = .ok (.iconst 0, 1) := by decide +kernel
theorem dX1_findFault_6 : decode cX1_findFault 6 = .ok (.istore_n 1, 1) := by decide +kernel
theorem dX1_findFault_7 : decode cX1_findFault 7 = .ok (.iload_n 1, 1) := by decide +kernel
theorem dX1_findFault_8 : decode cX1_findFault 8 = .ok (.aload_n 0, 1) := by decide +kernel
theorem dX1_findFault_9 : decode cX1_findFault 9 = .ok (.getfield 15, 3) := by decide +kernel
theorem dX1_findFault_12 : decode cX1_findFault 12 = .ok (.if_icmp .ge 34, 3) := by decide +kernel
theorem dX1_findFault_15 : decode cX1_findFault 15 = .ok (.aload_n 0, 1) := by decide +kernel
theorem dX1_findFault_16 : decode cX1_findFault 16 = .ok (.iload_n 1, 1) := by decide +kernel
theorem dX1_findFault_17 : decode cX1_findFault 17 = .ok (.invokevirtual 26, 3) := by decide +kernel
theorem dX1_findFault_20 : decode cX1_findFault 20 = .ok (.ifCond .ne 5, 3) := by decide +kernel
theorem dX1_findFault_23 : decode cX1_findFault 23 = .ok (.iload_n 1, 1) := by decide +kernel
theorem dX1_findFault_24 : decode cX1_findFault 24 = .ok (.ireturn, 1) := by decide +kernel
theorem dX1_findFault_25 : decode cX1_findFault 25 = .ok (.aload_n 0, 1) := by decide +kernel
theorem dX1_findFault_26 : decode cX1_findFault 26 = .ok (.iload_n 1, 1) := by decide +kernel
theorem dX1_findFault_27 : decode cX1_findFault 27 = .ok (.invokevirtual 22, 3) := by decide +kernel
theorem dX1_findFault_30 : decode cX1_findFault 30 = .ok (.bipush 58, 2) := by decide +kernel
theorem dX1_findFault_32 : decode cX1_findFault 32 = .ok (.if_icmp .ne 8, 3) := by decide +kernel
theorem dX1_findFault_35 : decode cX1_findFault 35 = .ok (.aload_n 0, 1) := by decide +kernel
theorem dX1_findFault_36 : decode cX1_findFault 36 = .ok (.iload_n 1, 1) := by decide +kernel
theorem dX1_findFault_37 : decode cX1_findFault 37 = .ok (.putfield 19, 3) := by decide +kernel
theorem dX1_findFault_40 : decode cX1_findFault 40 = .ok (.iinc 1 1, 3) := by decide +kernel
theorem dX1_findFault_43 : decode cX1_findFault 43 = .ok (.goto (-36), 3) := by decide +kernel
theorem dX1_findFault_46 : decode cX1_findFault 46 = .ok (.aload_n 0, 1) := by decide +kernel
theorem dX1_findFault_47 : decode cX1_findFault 47 = .ok (.invokevirtual 30, 3) := by decide +kernel
theorem dX1_findFault_50 : decode cX1_findFault 50 = .ok (.ifCond .eq 7, 3) := by decide +kernel
theorem dX1_findFault_53 : decode cX1_findFault 53 = .ok (.iconst (-1), 1) := by decide +kernel
theorem dX1_findFault_54 : decode cX1_findFault 54 = .ok (.goto 7, 3) := by decide +kernel
theorem dX1_findFault_57 : decode cX1_findFault 57 = .ok (.aload_n 0, 1) := by decide +kernel
theorem dX1_findFault_58 : decode cX1_findFault 58 = .ok (.getfield 15, 3) := by decide +kernel
theorem dX1_findFault_61 : decode cX1_findFault 61 = .ok (.ireturn, 1) := by decide +kernel
theorem dX1_isAllowed_0 : decode cX1_isAllowed 0 = .ok (.aload_n 0, 1) := by decide +kernel
theorem dX1_isAllowed_1 : decode cX1_isAllowed 1 = .ok (.getfield 19, 3) := by decide +kernel
theorem dX1_isAllowed_4 : decode cX1_isAllowed 4 = .ok (.iconst (-1), 1) := by decide +kernel
theorem dX1_isAllowed_5 : decode cX1_isAllowed 5 = .ok (.if_icmp .eq 41, 3) := by decide +kernel
theorem dX1_isAllowed_8 : decode cX1_isAllowed 8 = .ok (.iload_n 1, 1) := by decide +kernel
theorem dX1_isAllowed_9 : decode cX1_isAllowed 9 = .ok (.aload_n 0, 1) := by decide +kernel
theorem dX1_isAllowed_10 : decode cX1_isAllowed 10 = .ok (.getfield 19, 3) := by decide +kernel
theorem dX1_isAllowed_13 : decode cX1_isAllowed 13 = .ok (.isub, 1) := by decide +kernel
theorem dX1_isAllowed_14 : decode cX1_isAllowed 14 = .ok (.bipush 6, 2) := by decide +kernel
theorem dX1_isAllowed_16 : decode cX1_isAllowed 16 = .ok (.if_icmp .gt 28, 3) := by decide +kernel
theorem dX1_isAllowed_19 : decode cX1_isAllowed 19 = .ok (.aload_n 0, 1) := by decide +kernel
theorem dX1_isAllowed_20 : decode cX1_isAllowed 20 = .ok (.iload_n 1, 1) := by decide +kernel
theorem dX1_isAllowed_21 : decode cX1_isAllowed 21 = .ok (.invokevirtual 34, 3) := by decide +kernel
theorem dX1_isAllowed_24 : decode cX1_isAllowed 24 = .ok (.iconst 0, 1) := by decide +kernel
theorem dX1_isAllowed_25 : decode cX1_isAllowed 25 = .ok (.aload_n 0, 1) := by decide +kernel
theorem dX1_isAllowed_26 : decode cX1_isAllowed 26 = .ok (.getfield 19, 3) := by decide +kernel
theorem dX1_isAllowed_29 : decode cX1_isAllowed 29 = .ok (.invokestatic 38, 3) := by decide +kernel
theorem dX1_isAllowed_32 : decode cX1_isAllowed 32 = .ok (.iconst 1, 1) := by decide +kernel
theorem dX1_isAllowed_33 : decode cX1_isAllowed 33 = .ok (.isub, 1) := by decide +kernel
theorem dX1_isAllowed_34 : decode cX1_isAllowed 34 = .ok (.invokestatic 41, 3) := by decide +kernel
theorem dX1_isAllowed_37 : decode cX1_isAllowed 37 = .ok (.ifCond .eq 7, 3) := by decide +kernel
theorem dX1_isAllowed_40 : decode cX1_isAllowed 40 = .ok (.iconst 1, 1) := by decide +kernel
theorem dX1_isAllowed_41 : decode cX1_isAllowed 41 = .ok (.goto 4, 3) := by decide +kernel
theorem dX1_isAllowed_44 : decode cX1_isAllowed 44 = .ok (.iconst 0, 1) := by decide +kernel
theorem dX1_isAllowed_45 : decode cX1_isAllowed 45 = .ok (.ireturn, 1) := by decide +kernel
theorem dX1_isAllowed_46 : decode cX1_isAllowed 46 = .ok (.iload_n 1, 1) := by decide +kernel
theorem dX1_isAllowed_47 : decode cX1_isAllowed 47 = .ok (.iconst 1, 1) := by decide +kernel
theorem dX1_isAllowed_48 : decode cX1_isAllowed 48 = .ok (.iadd, 1) := by decide +kernel
theorem dX1_isAllowed_49 : decode cX1_isAllowed 49 = .ok (.bipush 13, 2) := by decide +kernel
theorem dX1_isAllowed_51 : decode cX1_isAllowed 51 = .ok (.irem, 1) := by decide +kernel
theorem dX1_isAllowed_52 : decode cX1_isAllowed 52 = .ok (.ifCond .eq 18, 3) := by decide +kernel
theorem dX1_isAllowed_55 : decode cX1_isAllowed 55 = .ok (.aload_n 0, 1) := by decide +kernel
theorem dX1_isAllowed_56 : decode cX1_isAllowed 56 = .ok (.iload_n 1, 1) := by decide +kernel
theorem dX1_isAllowed_57 : decode cX1_isAllowed 57 = .ok (.invokevirtual 34, 3) := by decide +kernel
theorem dX1_isAllowed_60 : decode cX1_isAllowed 60 = .ok (.iconst (-1), 1) := by decide +kernel
theorem dX1_isAllowed_61 : decode cX1_isAllowed 61 = .ok (.if_icmp .eq 7, 3) := by decide +kernel
theorem dX1_isAllowed_64 : decode cX1_isAllowed 64 = .ok (.iconst 1, 1) := by decide +kernel
theorem dX1_isAllowed_65 : decode cX1_isAllowed 65 = .ok (.goto 4, 3) := by decide +kernel
theorem dX1_isAllowed_68 : decode cX1_isAllowed 68 = .ok (.iconst 0, 1) := by decide +kernel
theorem dX1_isAllowed_69 : decode cX1_isAllowed 69 = .ok (.ireturn, 1) := by decide +kernel
theorem dX1_isAllowed_70 : decode cX1_isAllowed 70 = .ok (.aload_n 0, 1) := by decide +kernel
theorem dX1_isAllowed_71 : decode cX1_isAllowed 71 = .ok (.iload_n 1, 1) := by decide +kernel
theorem dX1_isAllowed_72 : decode cX1_isAllowed 72 = .ok (.invokevirtual 22, 3) := by decide +kernel
theorem dX1_isAllowed_75 : decode cX1_isAllowed 75 = .ok (.bipush 47, 2) := by decide +kernel
theorem dX1_isAllowed_77 : decode cX1_isAllowed 77 = .ok (.if_icmp .ne 11, 3) := by decide +kernel
theorem dX1_isAllowed_80 : decode cX1_isAllowed 80 = .ok (.iload_n 1, 1) := by decide +kernel
theorem dX1_isAllowed_81 : decode cX1_isAllowed 81 = .ok (.invokestatic 38, 3) := by decide +kernel
theorem dX1_isAllowed_84 : decode cX1_isAllowed 84 = .ok (.iconst 4, 1) := by decide +kernel
theorem dX1_isAllowed_85 : decode cX1_isAllowed 85 = .ok (.if_icmp .lt 21, 3) := by decide +kernel
theorem dX1_isAllowed_88 : decode cX1_isAllowed 88 = .ok (.aload_n 0, 1) := by decide +kernel
theorem dX1_isAllowed_89 : decode cX1_isAllowed 89 = .ok (.iload_n 1, 1) := by decide +kernel
theorem dX1_isAllowed_90 : decode cX1_isAllowed 90 = .ok (.invokevirtual 22, 3) := by decide +kernel
theorem dX1_isAllowed_93 : decode cX1_isAllowed 93 = .ok (.bipush 58, 2) := by decide +kernel
theorem dX1_isAllowed_95 : decode cX1_isAllowed 95 = .ok (.if_icmp .ne 15, 3) := by decide +kernel
theorem dX1_isAllowed_98 : decode cX1_isAllowed 98 = .ok (.iload_n 1, 1) := by decide +kernel
theorem dX1_isAllowed_99 : decode cX1_isAllowed 99 = .ok (.invokestatic 38, 3) := by decide +kernel
theorem dX1_isAllowed_102 : decode cX1_isAllowed 102 = .ok (.iconst 2, 1) := by decide +kernel
theorem dX1_isAllowed_103 : decode cX1_isAllowed 103 = .ok (.if_icmp .lt 7, 3) := by decide +kernel
theorem dX1_isAllowed_106 : decode cX1_isAllowed 106 = .ok (.iconst 1, 1) := by decide +kernel
theorem dX1_isAllowed_107 : decode cX1_isAllowed 107 = .ok (.goto 4, 3) := by decide +kernel
theorem dX1_isAllowed_110 : decode cX1_isAllowed 110 = .ok (.iconst 0, 1) := by decide +kernel
theorem dX1_isAllowed_111 : decode cX1_isAllowed 111 = .ok (.ireturn, 1) := by decide +kernel
theorem dX1_isEnded_0 : decode cX1_isEnded 0 = .ok (.aload_n 0, 1) := by decide +kernel
theorem dX1_isEnded_1 : decode cX1_isEnded 1 = .ok (.getfield 19, 3) := by decide +kernel
theorem dX1_isEnded_4 : decode cX1_isEnded 4 = .ok (.iconst (-1), 1) := by decide +kernel
theorem dX1_isEnded_5 : decode cX1_isEnded 5 = .ok (.if_icmp .eq 24, 3) := by decide +kernel
theorem dX1_isEnded_8 : decode cX1_isEnded 8 = .ok (.aload_n 0, 1) := by decide +kernel
theorem dX1_isEnded_9 : decode cX1_isEnded 9 = .ok (.getfield 15, 3) := by decide +kernel
theorem dX1_isEnded_12 : decode cX1_isEnded 12 = .ok (.aload_n 0, 1) := by decide +kernel
theorem dX1_isEnded_13 : decode cX1_isEnded 13 = .ok (.getfield 19, 3) := by decide +kernel
theorem dX1_isEnded_16 : decode cX1_isEnded 16 = .ok (.isub, 1) := by decide +kernel
theorem dX1_isEnded_17 : decode cX1_isEnded 17 = .ok (.iconst 1, 1) := by decide +kernel
theorem dX1_isEnded_18 : decode cX1_isEnded 18 = .ok (.isub, 1) := by decide +kernel
theorem dX1_isEnded_19 : decode cX1_isEnded 19 = .ok (.iconst 2, 1) := by decide +kernel
theorem dX1_isEnded_20 : decode cX1_isEnded 20 = .ok (.if_icmp .lt 7, 3) := by decide +kernel
theorem dX1_isEnded_23 : decode cX1_isEnded 23 = .ok (.iconst 1, 1) := by decide +kernel
theorem dX1_isEnded_24 : decode cX1_isEnded 24 = .ok (.goto 4, 3) := by decide +kernel
theorem dX1_isEnded_27 : decode cX1_isEnded 27 = .ok (.iconst 0, 1) := by decide +kernel
theorem dX1_isEnded_28 : decode cX1_isEnded 28 = .ok (.ireturn, 1) := by decide +kernel
theorem dX1_isEnded_29 : decode cX1_isEnded 29 = .ok (.aload_n 0, 1) := by decide +kernel
theorem dX1_isEnded_30 : decode cX1_isEnded 30 = .ok (.getfield 15, 3) := by decide +kernel
theorem dX1_isEnded_33 : decode cX1_isEnded 33 = .ok (.iconst 1, 1) := by decide +kernel
theorem dX1_isEnded_34 : decode cX1_isEnded 34 = .ok (.iadd, 1) := by decide +kernel
theorem dX1_isEnded_35 : decode cX1_isEnded 35 = .ok (.bipush 13, 2) := by decide +kernel
theorem dX1_isEnded_37 : decode cX1_isEnded 37 = .ok (.irem, 1) := by decide +kernel
theorem dX1_isEnded_38 : decode cX1_isEnded 38 = .ok (.ifCond .ne 18, 3) := by decide +kernel
theorem dX1_isEnded_41 : decode cX1_isEnded 41 = .ok (.aload_n 0, 1) := by decide +kernel
theorem dX1_isEnded_42 : decode cX1_isEnded 42 = .ok (.getfield 15, 3) := by decide +kernel
theorem dX1_isEnded_45 : decode cX1_isEnded 45 = .ok (.invokestatic 38, 3) := by decide +kernel
theorem dX1_isEnded_48 : decode cX1_isEnded 48 = .ok (.iconst 2, 1) := by decide +kernel
theorem dX1_isEnded_49 : decode cX1_isEnded 49 = .ok (.if_icmp .lt 7, 3) := by decide +kernel
theorem dX1_isEnded_52 : decode cX1_isEnded 52 = .ok (.iconst 1, 1) := by decide +kernel
theorem dX1_isEnded_53 : decode cX1_isEnded 53 = .ok (.goto 4, 3) := by decide +kernel
theorem dX1_isEnded_56 : decode cX1_isEnded 56 = .ok (.iconst 0, 1) := by decide +kernel
theorem dX1_isEnded_57 : decode cX1_isEnded 57 = .ok (.ireturn, 1) := by decide +kernel
theorem dX1_viewsUpTo_0 : decode cX1_viewsUpTo 0 = .ok (.iload_n 0, 1) := by decide +kernel
theorem dX1_viewsUpTo_1 : decode cX1_viewsUpTo 1 = .ok (.iconst 1, 1) := by decide +kernel
theorem dX1_viewsUpTo_2 : decode cX1_viewsUpTo 2 = .ok (.iadd, 1) := by decide +kernel
theorem dX1_viewsUpTo_3 : decode cX1_viewsUpTo 3 = .ok (.bipush 13, 2) := by decide +kernel
theorem dX1_viewsUpTo_5 : decode cX1_viewsUpTo 5 = .ok (.idiv, 1) := by decide +kernel
theorem dX1_viewsUpTo_6 : decode cX1_viewsUpTo 6 = .ok (.ireturn, 1) := by decide +kernel
theorem dX1_writeTo_0 : decode cX1_writeTo 0 = .ok (.aload_n 1, 1) := by decide +kernel
theorem dX1_writeTo_1 : decode cX1_writeTo 1 = .ok (.aload_n 0, 1) := by decide +kernel
theorem dX1_writeTo_2 : decode cX1_writeTo 2 = .ok (.getfield 19, 3) := by decide +kernel
theorem dX1_writeTo_5 : decode cX1_writeTo 5 = .ok (.iconst (-1), 1) := by decide +kernel
theorem dX1_writeTo_6 : decode cX1_writeTo 6 = .ok (.if_icmp .ne 10, 3) := by decide +kernel
theorem dX1_writeTo_9 : decode cX1_writeTo 9 = .ok (.aload_n 0, 1) := by decide +kernel
theorem dX1_writeTo_10 : decode cX1_writeTo 10 = .ok (.getfield 15, 3) := by decide +kernel
theorem dX1_writeTo_13 : decode cX1_writeTo 13 = .ok (.goto 7, 3) := by decide +kernel
theorem dX1_writeTo_16 : decode cX1_writeTo 16 = .ok (.aload_n 0, 1) := by decide +kernel
theorem dX1_writeTo_17 : decode cX1_writeTo 17 = .ok (.getfield 19, 3) := by decide +kernel
theorem dX1_writeTo_20 : decode cX1_writeTo 20 = .ok (.invokestatic 38, 3) := by decide +kernel
theorem dX1_writeTo_23 : decode cX1_writeTo 23 = .ok (.putfield 45, 3) := by decide +kernel
theorem dX1_writeTo_26 : decode cX1_writeTo 26 = .ok (.iconst 0, 1) := by decide +kernel
theorem dX1_writeTo_27 : decode cX1_writeTo 27 = .ok (.istore_n 2, 1) := by decide +kernel
theorem dX1_writeTo_28 : decode cX1_writeTo 28 = .ok (.iload_n 2, 1) := by decide +kernel
theorem dX1_writeTo_29 : decode cX1_writeTo 29 = .ok (.aload_n 1, 1) := by decide +kernel
theorem dX1_writeTo_30 : decode cX1_writeTo 30 = .ok (.getfield 45, 3) := by decide +kernel
theorem dX1_writeTo_33 : decode cX1_writeTo 33 = .ok (.if_icmp .ge 39, 3) := by decide +kernel
theorem dX1_writeTo_36 : decode cX1_writeTo 36 = .ok (.iconst 0, 1) := by decide +kernel
theorem dX1_writeTo_37 : decode cX1_writeTo 37 = .ok (.istore_n 3, 1) := by decide +kernel
theorem dX1_writeTo_38 : decode cX1_writeTo 38 = .ok (.iload_n 3, 1) := by decide +kernel
theorem dX1_writeTo_39 : decode cX1_writeTo 39 = .ok (.bipush 12, 2) := by decide +kernel
theorem dX1_writeTo_41 : decode cX1_writeTo 41 = .ok (.if_icmp .ge 25, 3) := by decide +kernel
theorem dX1_writeTo_44 : decode cX1_writeTo 44 = .ok (.aload_n 1, 1) := by decide +kernel
theorem dX1_writeTo_45 : decode cX1_writeTo 45 = .ok (.iload_n 2, 1) := by decide +kernel
theorem dX1_writeTo_46 : decode cX1_writeTo 46 = .ok (.iload_n 3, 1) := by decide +kernel
theorem dX1_writeTo_47 : decode cX1_writeTo 47 = .ok (.aload_n 0, 1) := by decide +kernel
theorem dX1_writeTo_48 : decode cX1_writeTo 48 = .ok (.iload_n 2, 1) := by decide +kernel
theorem dX1_writeTo_49 : decode cX1_writeTo 49 = .ok (.bipush 13, 2) := by decide +kernel
theorem dX1_writeTo_51 : decode cX1_writeTo 51 = .ok (.imul, 1) := by decide +kernel
theorem dX1_writeTo_52 : decode cX1_writeTo 52 = .ok (.iload_n 3, 1) := by decide +kernel
theorem dX1_writeTo_53 : decode cX1_writeTo 53 = .ok (.iadd, 1) := by decide +kernel
theorem dX1_writeTo_54 : decode cX1_writeTo 54 = .ok (.invokevirtual 34, 3) := by decide +kernel
theorem dX1_writeTo_57 : decode cX1_writeTo 57 = .ok (.invokevirtual 50, 3) := by decide +kernel
theorem dX1_writeTo_60 : decode cX1_writeTo 60 = .ok (.iinc 3 1, 3) := by decide +kernel
theorem dX1_writeTo_63 : decode cX1_writeTo 63 = .ok (.goto (-25), 3) := by decide +kernel
theorem dX1_writeTo_66 : decode cX1_writeTo 66 = .ok (.iinc 2 1, 3) := by decide +kernel
theorem dX1_writeTo_69 : decode cX1_writeTo 69 = .ok (.goto (-41), 3) := by decide +kernel
theorem dX1_writeTo_72 : decode cX1_writeTo 72 = .ok (.aload_n 1, 1) := by decide +kernel
theorem dX1_writeTo_73 : decode cX1_writeTo 73 = .ok (.invokevirtual 54, 3) := by decide +kernel
theorem dX1_writeTo_76 : decode cX1_writeTo 76 = .ok (.aload_n 0, 1) := by decide +kernel
theorem dX1_writeTo_77 : decode cX1_writeTo 77 = .ok (.getfield 19, 3) := by decide +kernel
theorem dX1_writeTo_80 : decode cX1_writeTo 80 = .ok (.iconst (-1), 1) := by decide +kernel
theorem dX1_writeTo_81 : decode cX1_writeTo 81 = .ok (.if_icmp .eq 51, 3) := by decide +kernel
theorem dX1_writeTo_84 : decode cX1_writeTo 84 = .ok (.aload_n 1, 1) := by decide +kernel
theorem dX1_writeTo_85 : decode cX1_writeTo 85 = .ok (.aload_n 0, 1) := by decide +kernel
theorem dX1_writeTo_86 : decode cX1_writeTo 86 = .ok (.getfield 15, 3) := by decide +kernel
theorem dX1_writeTo_89 : decode cX1_writeTo 89 = .ok (.aload_n 0, 1) := by decide +kernel
theorem dX1_writeTo_90 : decode cX1_writeTo 90 = .ok (.getfield 19, 3) := by decide +kernel
theorem dX1_writeTo_93 : decode cX1_writeTo 93 = .ok (.isub, 1) := by decide +kernel
theorem dX1_writeTo_94 : decode cX1_writeTo 94 = .ok (.iconst 1, 1) := by decide +kernel
theorem dX1_writeTo_95 : decode cX1_writeTo 95 = .ok (.isub, 1) := by decide +kernel
theorem dX1_writeTo_96 : decode cX1_writeTo 96 = .ok (.putfield 57, 3) := by decide +kernel
theorem dX1_writeTo_99 : decode cX1_writeTo 99 = .ok (.iconst 0, 1) := by decide +kernel
theorem dX1_writeTo_100 : decode cX1_writeTo 100 = .ok (.istore_n 2, 1) := by decide +kernel
theorem dX1_writeTo_101 : decode cX1_writeTo 101 = .ok (.iload_n 2, 1) := by decide +kernel
theorem dX1_writeTo_102 : decode cX1_writeTo 102 = .ok (.aload_n 1, 1) := by decide +kernel
theorem dX1_writeTo_103 : decode cX1_writeTo 103 = .ok (.getfield 57, 3) := by decide +kernel
theorem dX1_writeTo_106 : decode cX1_writeTo 106 = .ok (.if_icmp .ge 26, 3) := by decide +kernel
theorem dX1_writeTo_109 : decode cX1_writeTo 109 = .ok (.aload_n 1, 1) := by decide +kernel
theorem dX1_writeTo_110 : decode cX1_writeTo 110 = .ok (.iload_n 2, 1) := by decide +kernel
theorem dX1_writeTo_111 : decode cX1_writeTo 111 = .ok (.aload_n 0, 1) := by decide +kernel
theorem dX1_writeTo_112 : decode cX1_writeTo 112 = .ok (.aload_n 0, 1) := by decide +kernel
theorem dX1_writeTo_113 : decode cX1_writeTo 113 = .ok (.getfield 19, 3) := by decide +kernel
theorem dX1_writeTo_116 : decode cX1_writeTo 116 = .ok (.iconst 1, 1) := by decide +kernel
theorem dX1_writeTo_117 : decode cX1_writeTo 117 = .ok (.iadd, 1) := by decide +kernel
theorem dX1_writeTo_118 : decode cX1_writeTo 118 = .ok (.iload_n 2, 1) := by decide +kernel
theorem dX1_writeTo_119 : decode cX1_writeTo 119 = .ok (.iadd, 1) := by decide +kernel
theorem dX1_writeTo_120 : decode cX1_writeTo 120 = .ok (.invokevirtual 34, 3) := by decide +kernel
theorem dX1_writeTo_123 : decode cX1_writeTo 123 = .ok (.invokevirtual 60, 3) := by decide +kernel
theorem dX1_writeTo_126 : decode cX1_writeTo 126 = .ok (.iinc 2 1, 3) := by decide +kernel
theorem dX1_writeTo_129 : decode cX1_writeTo 129 = .ok (.goto (-28), 3) := by decide +kernel
theorem dX1_writeTo_132 : decode cX1_writeTo 132 = .ok (.return_, 1) := by decide +kernel
theorem dX2_init_0 : decode cX2_init 0 = .ok (.aload_n 0, 1) := by decide +kernel
theorem dX2_init_1 : decode cX2_init 1 = .ok (.invokespecial 3, 3) := by decide +kernel
theorem dX2_init_4 : decode cX2_init 4 = .ok (.aload_n 0, 1) := by decide +kernel
theorem dX2_init_5 : decode cX2_init 5 = .ok (.iconst 4, 1) := by decide +kernel
theorem dX2_init_6 : decode cX2_init 6 = .ok (.anewarray 9, 3) := by decide +kernel
theorem dX2_init_9 : decode cX2_init 9 = .ok (.putfield 11, 3) := by decide +kernel
theorem dX2_init_12 : decode cX2_init 12 = .ok (.aload_n 0, 1) := by decide +kernel
theorem dX2_init_13 : decode cX2_init 13 = .ok (.iconst 0, 1) := by decide +kernel
theorem dX2_init_14 : decode cX2_init 14 = .ok (.putfield 17, 3) := by decide +kernel
theorem dX2_init_17 : decode cX2_init 17 = .ok (.iconst 0, 1) := by decide +kernel
theorem dX2_init_18 : decode cX2_init 18 = .ok (.istore_n 1, 1) := by decide +kernel
theorem dX2_init_19 : decode cX2_init 19 = .ok (.iload_n 1, 1) := by decide +kernel
theorem dX2_init_20 : decode cX2_init 20 = .ok (.iconst 4, 1) := by decide +kernel
theorem dX2_init_21 : decode cX2_init 21 = .ok (.if_icmp .ge 22, 3) := by decide +kernel
theorem dX2_init_24 : decode cX2_init 24 = .ok (.aload_n 0, 1) := by decide +kernel
theorem dX2_init_25 : decode cX2_init 25 = .ok (.getfield 11, 3) := by decide +kernel
theorem dX2_init_28 : decode cX2_init 28 = .ok (.iload_n 1, 1) := by decide +kernel
theorem dX2_init_29 : decode cX2_init 29 = .ok (.new 9, 3) := by decide +kernel
theorem dX2_init_32 : decode cX2_init 32 = .ok (.dup, 1) := by decide +kernel
theorem dX2_init_33 : decode cX2_init 33 = .ok (.invokespecial 21, 3) := by decide +kernel
theorem dX2_init_36 : decode cX2_init 36 = .ok (.aastore, 1) := by decide +kernel
theorem dX2_init_37 : decode cX2_init 37 = .ok (.iinc 1 1, 3) := by decide +kernel
theorem dX2_init_40 : decode cX2_init 40 = .ok (.goto (-21), 3) := by decide +kernel
theorem dX2_init_43 : decode cX2_init 43 = .ok (.return_, 1) := by decide +kernel
theorem dX2_record_0 : decode cX2_record 0 = .ok (.aload_n 0, 1) := by decide +kernel
theorem dX2_record_1 : decode cX2_record 1 = .ok (.getfield 17, 3) := by decide +kernel
theorem dX2_record_4 : decode cX2_record 4 = .ok (.iconst 4, 1) := by decide +kernel
theorem dX2_record_5 : decode cX2_record 5 = .ok (.if_icmp .lt 7, 3) := by decide +kernel
theorem dX2_record_8 : decode cX2_record 8 = .ok (.aload_n 0, 1) := by decide +kernel
theorem dX2_record_9 : decode cX2_record 9 = .ok (.invokevirtual 22, 3) := by decide +kernel
theorem dX2_record_12 : decode cX2_record 12 = .ok (.aload_n 0, 1) := by decide +kernel
theorem dX2_record_13 : decode cX2_record 13 = .ok (.aload_n 0, 1) := by decide +kernel
theorem dX2_record_14 : decode cX2_record 14 = .ok (.getfield 17, 3) := by decide +kernel
theorem dX2_record_17 : decode cX2_record 17 = .ok (.invokevirtual 25, 3) := by decide +kernel
theorem dX2_record_20 : decode cX2_record 20 = .ok (.astore_n 2, 1) := by decide +kernel
theorem dX2_record_21 : decode cX2_record 21 = .ok (.aload_n 2, 1) := by decide +kernel
theorem dX2_record_22 : decode cX2_record 22 = .ok (.ifnull 18, 3) := by decide +kernel
theorem dX2_record_25 : decode cX2_record 25 = .ok (.aload_n 2, 1) := by decide +kernel
theorem dX2_record_26 : decode cX2_record 26 = .ok (.aload_n 1, 1) := by decide +kernel
theorem dX2_record_27 : decode cX2_record 27 = .ok (.invokevirtual 29, 3) := by decide +kernel
theorem dX2_record_30 : decode cX2_record 30 = .ok (.aload_n 0, 1) := by decide +kernel
theorem dX2_record_31 : decode cX2_record 31 = .ok (.dup, 1) := by decide +kernel
theorem dX2_record_32 : decode cX2_record 32 = .ok (.getfield 17, 3) := by decide +kernel
theorem dX2_record_35 : decode cX2_record 35 = .ok (.iconst 1, 1) := by decide +kernel
theorem dX2_record_36 : decode cX2_record 36 = .ok (.iadd, 1) := by decide +kernel
theorem dX2_record_37 : decode cX2_record 37 = .ok (.putfield 17, 3) := by decide +kernel
theorem dX2_record_40 : decode cX2_record 40 = .ok (.return_, 1) := by decide +kernel
theorem dX2_dropOldest_0 : decode cX2_dropOldest 0 = .ok (.aload_n 0, 1) := by decide +kernel
theorem dX2_dropOldest_1 : decode cX2_dropOldest 1 = .ok (.getfield 11, 3) := by decide +kernel
theorem dX2_dropOldest_4 : decode cX2_dropOldest 4 = .ok (.iconst 0, 1) := by decide +kernel
theorem dX2_dropOldest_5 : decode cX2_dropOldest 5 = .ok (.aaload, 1) := by decide +kernel
theorem dX2_dropOldest_6 : decode cX2_dropOldest 6 = .ok (.astore_n 1, 1) := by decide +kernel
theorem dX2_dropOldest_7 : decode cX2_dropOldest 7 = .ok (.iconst 1, 1) := by decide +kernel
theorem dX2_dropOldest_8 : decode cX2_dropOldest 8 = .ok (.istore_n 2, 1) := by decide +kernel
theorem dX2_dropOldest_9 : decode cX2_dropOldest 9 = .ok (.iload_n 2, 1) := by decide +kernel
theorem dX2_dropOldest_10 : decode cX2_dropOldest 10 = .ok (.iconst 4, 1) := by decide +kernel
theorem dX2_dropOldest_11 : decode cX2_dropOldest 11 = .ok (.if_icmp .ge 23, 3) := by decide +kernel
theorem dX2_dropOldest_14 : decode cX2_dropOldest 14 = .ok (.aload_n 0, 1) := by decide +kernel
theorem dX2_dropOldest_15 : decode cX2_dropOldest 15 = .ok (.getfield 11, 3) := by decide +kernel
theorem dX2_dropOldest_18 : decode cX2_dropOldest 18 = .ok (.iload_n 2, 1) := by decide +kernel
theorem dX2_dropOldest_19 : decode cX2_dropOldest 19 = .ok (.iconst 1, 1) := by decide +kernel
theorem dX2_dropOldest_20 : decode cX2_dropOldest 20 = .ok (.isub, 1) := by decide +kernel
theorem dX2_dropOldest_21 : decode cX2_dropOldest 21 = .ok (.aload_n 0, 1) := by decide +kernel
theorem dX2_dropOldest_22 : decode cX2_dropOldest 22 = .ok (.getfield 11, 3) := by decide +kernel
theorem dX2_dropOldest_25 : decode cX2_dropOldest 25 = .ok (.iload_n 2, 1) := by decide +kernel
theorem dX2_dropOldest_26 : decode cX2_dropOldest 26 = .ok (.aaload, 1) := by decide +kernel
theorem dX2_dropOldest_27 : decode cX2_dropOldest 27 = .ok (.aastore, 1) := by decide +kernel
theorem dX2_dropOldest_28 : decode cX2_dropOldest 28 = .ok (.iinc 2 1, 3) := by decide +kernel
theorem dX2_dropOldest_31 : decode cX2_dropOldest 31 = .ok (.goto (-22), 3) := by decide +kernel
theorem dX2_dropOldest_34 : decode cX2_dropOldest 34 = .ok (.aload_n 0, 1) := by decide +kernel
theorem dX2_dropOldest_35 : decode cX2_dropOldest 35 = .ok (.getfield 11, 3) := by decide +kernel
theorem dX2_dropOldest_38 : decode cX2_dropOldest 38 = .ok (.iconst 3, 1) := by decide +kernel
theorem dX2_dropOldest_39 : decode cX2_dropOldest 39 = .ok (.aload_n 1, 1) := by decide +kernel
theorem dX2_dropOldest_40 : decode cX2_dropOldest 40 = .ok (.aastore, 1) := by decide +kernel
theorem dX2_dropOldest_41 : decode cX2_dropOldest 41 = .ok (.aload_n 0, 1) := by decide +kernel
theorem dX2_dropOldest_42 : decode cX2_dropOldest 42 = .ok (.dup, 1) := by decide +kernel
theorem dX2_dropOldest_43 : decode cX2_dropOldest 43 = .ok (.getfield 17, 3) := by decide +kernel
theorem dX2_dropOldest_46 : decode cX2_dropOldest 46 = .ok (.iconst 1, 1) := by decide +kernel
theorem dX2_dropOldest_47 : decode cX2_dropOldest 47 = .ok (.isub, 1) := by decide +kernel
theorem dX2_dropOldest_48 : decode cX2_dropOldest 48 = .ok (.putfield 17, 3) := by decide +kernel
theorem dX2_dropOldest_51 : decode cX2_dropOldest 51 = .ok (.return_, 1) := by decide +kernel
theorem dX2_stateAt_0 : decode cX2_stateAt 0 = .ok (.iload_n 1, 1) := by decide +kernel
theorem dX2_stateAt_1 : decode cX2_stateAt 1 = .ok (.ifCond .lt 17, 3) := by decide +kernel
theorem dX2_stateAt_4 : decode cX2_stateAt 4 = .ok (.iload_n 1, 1) := by decide +kernel
theorem dX2_stateAt_5 : decode cX2_stateAt 5 = .ok (.iconst 4, 1) := by decide +kernel
theorem dX2_stateAt_6 : decode cX2_stateAt 6 = .ok (.if_icmp .ge 12, 3) := by decide +kernel
theorem dX2_stateAt_9 : decode cX2_stateAt 9 = .ok (.aload_n 0, 1) := by decide +kernel
theorem dX2_stateAt_10 : decode cX2_stateAt 10 = .ok (.getfield 11, 3) := by decide +kernel
theorem dX2_stateAt_13 : decode cX2_stateAt 13 = .ok (.iload_n 1, 1) := by decide +kernel
theorem dX2_stateAt_14 : decode cX2_stateAt 14 = .ok (.aaload, 1) := by decide +kernel
theorem dX2_stateAt_15 : decode cX2_stateAt 15 = .ok (.goto 4, 3) := by decide +kernel
theorem dX2_stateAt_18 : decode cX2_stateAt 18 = .ok (.aconst_null, 1) := by decide +kernel
theorem dX2_stateAt_19 : decode cX2_stateAt 19 = .ok (.areturn, 1) := by decide +kernel
theorem dX3_init_0 : decode cX3_init 0 = .ok (.aload_n 0, 1) := by decide +kernel
theorem dX3_init_1 : decode cX3_init 1 = .ok (.invokespecial 3, 3) := by decide +kernel
theorem dX3_init_4 : decode cX3_init 4 = .ok (.aload_n 0, 1) := by decide +kernel
theorem dX3_init_5 : decode cX3_init 5 = .ok (.new 9, 3) := by decide +kernel
theorem dX3_init_8 : decode cX3_init 8 = .ok (.dup, 1) := by decide +kernel
theorem dX3_init_9 : decode cX3_init 9 = .ok (.invokespecial 11, 3) := by decide +kernel
theorem dX3_init_12 : decode cX3_init 12 = .ok (.putfield 12, 3) := by decide +kernel
theorem dX3_init_15 : decode cX3_init 15 = .ok (.aload_n 0, 1) := by decide +kernel
theorem dX3_init_16 : decode cX3_init 16 = .ok (.bipush 72, 2) := by decide +kernel
theorem dX3_init_18 : decode cX3_init 18 = .ok (.newarray .int, 2) := by decide +kernel
theorem dX3_init_20 : decode cX3_init 20 = .ok (.putfield 18, 3) := by decide +kernel
theorem dX3_init_23 : decode cX3_init 23 = .ok (.aload_n 0, 1) := by decide +kernel
theorem dX3_init_24 : decode cX3_init 24 = .ok (.bipush 6, 2) := by decide +kernel
theorem dX3_init_26 : decode cX3_init 26 = .ok (.newarray .int, 2) := by decide +kernel
theorem dX3_init_28 : decode cX3_init 28 = .ok (.putfield 22, 3) := by decide +kernel
theorem dX3_init_31 : decode cX3_init 31 = .ok (.return_, 1) := by decide +kernel
theorem dX3_aim_0 : decode cX3_aim 0 = .ok (.iconst 0, 1) := by decide +kernel
theorem dX3_aim_1 : decode cX3_aim 1 = .ok (.istore_n 1, 1) := by decide +kernel
theorem dX3_aim_2 : decode cX3_aim 2 = .ok (.iload_n 1, 1) := by decide +kernel
theorem dX3_aim_3 : decode cX3_aim 3 = .ok (.bipush 6, 2) := by decide +kernel
theorem dX3_aim_5 : decode cX3_aim 5 = .ok (.if_icmp .ge 58, 3) := by decide +kernel
theorem dX3_aim_8 : decode cX3_aim 8 = .ok (.aload_n 0, 1) := by decide +kernel
theorem dX3_aim_9 : decode cX3_aim 9 = .ok (.getfield 22, 3) := by decide +kernel
theorem dX3_aim_12 : decode cX3_aim 12 = .ok (.iload_n 1, 1) := by decide +kernel
theorem dX3_aim_13 : decode cX3_aim 13 = .ok (.iconst 0, 1) := by decide +kernel
theorem dX3_aim_14 : decode cX3_aim 14 = .ok (.iastore, 1) := by decide +kernel
theorem dX3_aim_15 : decode cX3_aim 15 = .ok (.iconst 0, 1) := by decide +kernel
theorem dX3_aim_16 : decode cX3_aim 16 = .ok (.istore_n 2, 1) := by decide +kernel
theorem dX3_aim_17 : decode cX3_aim 17 = .ok (.iload_n 2, 1) := by decide +kernel
theorem dX3_aim_18 : decode cX3_aim 18 = .ok (.bipush 12, 2) := by decide +kernel
theorem dX3_aim_20 : decode cX3_aim 20 = .ok (.if_icmp .ge 37, 3) := by decide +kernel
theorem dX3_aim_23 : decode cX3_aim 23 = .ok (.aload_n 0, 1) := by decide +kernel
theorem dX3_aim_24 : decode cX3_aim 24 = .ok (.getfield 18, 3) := by decide +kernel
theorem dX3_aim_27 : decode cX3_aim 27 = .ok (.iload_n 1, 1) := by decide +kernel
theorem dX3_aim_28 : decode cX3_aim 28 = .ok (.bipush 12, 2) := by decide +kernel
theorem dX3_aim_30 : decode cX3_aim 30 = .ok (.imul, 1) := by decide +kernel
theorem dX3_aim_31 : decode cX3_aim 31 = .ok (.iload_n 2, 1) := by decide +kernel
theorem dX3_aim_32 : decode cX3_aim 32 = .ok (.iadd, 1) := by decide +kernel
theorem dX3_aim_33 : decode cX3_aim 33 = .ok (.aload_n 0, 1) := by decide +kernel
theorem dX3_aim_34 : decode cX3_aim 34 = .ok (.getfield 12, 3) := by decide +kernel
theorem dX3_aim_37 : decode cX3_aim 37 = .ok (.iload_n 2, 1) := by decide +kernel
theorem dX3_aim_38 : decode cX3_aim 38 = .ok (.aload_n 0, 1) := by decide +kernel
theorem dX3_aim_39 : decode cX3_aim 39 = .ok (.getfield 12, 3) := by decide +kernel
theorem dX3_aim_42 : decode cX3_aim 42 = .ok (.iload_n 1, 1) := by decide +kernel
theorem dX3_aim_43 : decode cX3_aim 43 = .ok (.iload_n 2, 1) := by decide +kernel
theorem dX3_aim_44 : decode cX3_aim 44 = .ok (.invokevirtual 25, 3) := by decide +kernel
theorem dX3_aim_47 : decode cX3_aim 47 = .ok (.invokevirtual 29, 3) := by decide +kernel
theorem dX3_aim_50 : decode cX3_aim 50 = .ok (.iastore, 1) := by decide +kernel
theorem dX3_aim_51 : decode cX3_aim 51 = .ok (.iinc 2 1, 3) := by decide +kernel
theorem dX3_aim_54 : decode cX3_aim 54 = .ok (.goto (-37), 3) := by decide +kernel
theorem dX3_aim_57 : decode cX3_aim 57 = .ok (.iinc 1 1, 3) := by decide +kernel
theorem dX3_aim_60 : decode cX3_aim 60 = .ok (.goto (-58), 3) := by decide +kernel
theorem dX3_aim_63 : decode cX3_aim 63 = .ok (.bipush (-9), 2) := by decide +kernel
theorem dX3_aim_65 : decode cX3_aim 65 = .ok (.istore_n 1, 1) := by decide +kernel
theorem dX3_aim_66 : decode cX3_aim 66 = .ok (.iload_n 1, 1) := by decide +kernel
theorem dX3_aim_67 : decode cX3_aim 67 = .ok (.bipush 9, 2) := by decide +kernel
theorem dX3_aim_69 : decode cX3_aim 69 = .ok (.if_icmp .gt 37, 3) := by decide +kernel
theorem dX3_aim_72 : decode cX3_aim 72 = .ok (.aload_n 0, 1) := by decide +kernel
theorem dX3_aim_73 : decode cX3_aim 73 = .ok (.getfield 12, 3) := by decide +kernel
theorem dX3_aim_76 : decode cX3_aim 76 = .ok (.iload_n 1, 1) := by decide +kernel
theorem dX3_aim_77 : decode cX3_aim 77 = .ok (.invokevirtual 32, 3) := by decide +kernel
theorem dX3_aim_80 : decode cX3_aim 80 = .ok (.istore_n 2, 1) := by decide +kernel
theorem dX3_aim_81 : decode cX3_aim 81 = .ok (.iload_n 2, 1) := by decide +kernel
theorem dX3_aim_82 : decode cX3_aim 82 = .ok (.iconst 0, 1) := by decide +kernel
theorem dX3_aim_83 : decode cX3_aim 83 = .ok (.iconst 5, 1) := by decide +kernel
theorem dX3_aim_84 : decode cX3_aim 84 = .ok (.invokestatic 36, 3) := by decide +kernel
theorem dX3_aim_87 : decode cX3_aim 87 = .ok (.ifCond .eq 13, 3) := by decide +kernel
theorem dX3_aim_90 : decode cX3_aim 90 = .ok (.aload_n 0, 1) := by decide +kernel
theorem dX3_aim_91 : decode cX3_aim 91 = .ok (.getfield 22, 3) := by decide +kernel
theorem dX3_aim_94 : decode cX3_aim 94 = .ok (.iload_n 2, 1) := by decide +kernel
theorem dX3_aim_95 : decode cX3_aim 95 = .ok (.dup2, 1) := by decide +kernel
theorem dX3_aim_96 : decode cX3_aim 96 = .ok (.iaload, 1) := by decide +kernel
theorem dX3_aim_97 : decode cX3_aim 97 = .ok (.iconst 1, 1) := by decide +kernel
theorem dX3_aim_98 : decode cX3_aim 98 = .ok (.iadd, 1) := by decide +kernel
theorem dX3_aim_99 : decode cX3_aim 99 = .ok (.iastore, 1) := by decide +kernel
theorem dX3_aim_100 : decode cX3_aim 100 = .ok (.iinc 1 1, 3) := by decide +kernel
theorem dX3_aim_103 : decode cX3_aim 103 = .ok (.goto (-37), 3) := by decide +kernel
theorem dX3_aim_106 : decode cX3_aim 106 = .ok (.return_, 1) := by decide +kernel
theorem dX3_viewSeen_0 : decode cX3_viewSeen 0 = .ok (.iload_n 1, 1) := by decide +kernel
theorem dX3_viewSeen_1 : decode cX3_viewSeen 1 = .ok (.ifCond .lt 19, 3) := by decide +kernel
theorem dX3_viewSeen_4 : decode cX3_viewSeen 4 = .ok (.iload_n 1, 1) := by decide +kernel
theorem dX3_viewSeen_5 : decode cX3_viewSeen 5 = .ok (.bipush 6, 2) := by decide +kernel
theorem dX3_viewSeen_7 : decode cX3_viewSeen 7 = .ok (.if_icmp .ge 13, 3) := by decide +kernel
theorem dX3_viewSeen_10 : decode cX3_viewSeen 10 = .ok (.iload_n 2, 1) := by decide +kernel
theorem dX3_viewSeen_11 : decode cX3_viewSeen 11 = .ok (.ifCond .lt 9, 3) := by decide +kernel
theorem dX3_viewSeen_14 : decode cX3_viewSeen 14 = .ok (.iload_n 2, 1) := by decide +kernel
theorem dX3_viewSeen_15 : decode cX3_viewSeen 15 = .ok (.bipush 12, 2) := by decide +kernel
theorem dX3_viewSeen_17 : decode cX3_viewSeen 17 = .ok (.if_icmp .lt 5, 3) := by decide +kernel
theorem dX3_viewSeen_20 : decode cX3_viewSeen 20 = .ok (.iconst (-1), 1) := by decide +kernel
theorem dX3_viewSeen_21 : decode cX3_viewSeen 21 = .ok (.ireturn, 1) := by decide +kernel
theorem dX3_viewSeen_22 : decode cX3_viewSeen 22 = .ok (.aload_n 0, 1) := by decide +kernel
theorem dX3_viewSeen_23 : decode cX3_viewSeen 23 = .ok (.getfield 12, 3) := by decide +kernel
theorem dX3_viewSeen_26 : decode cX3_viewSeen 26 = .ok (.aload_n 0, 1) := by decide +kernel
theorem dX3_viewSeen_27 : decode cX3_viewSeen 27 = .ok (.getfield 18, 3) := by decide +kernel
theorem dX3_viewSeen_30 : decode cX3_viewSeen 30 = .ok (.iload_n 1, 1) := by decide +kernel
theorem dX3_viewSeen_31 : decode cX3_viewSeen 31 = .ok (.bipush 12, 2) := by decide +kernel
theorem dX3_viewSeen_33 : decode cX3_viewSeen 33 = .ok (.imul, 1) := by decide +kernel
theorem dX3_viewSeen_34 : decode cX3_viewSeen 34 = .ok (.iload_n 2, 1) := by decide +kernel
theorem dX3_viewSeen_35 : decode cX3_viewSeen 35 = .ok (.iadd, 1) := by decide +kernel
theorem dX3_viewSeen_36 : decode cX3_viewSeen 36 = .ok (.iaload, 1) := by decide +kernel
theorem dX3_viewSeen_37 : decode cX3_viewSeen 37 = .ok (.invokevirtual 40, 3) := by decide +kernel
theorem dX3_viewSeen_40 : decode cX3_viewSeen 40 = .ok (.ireturn, 1) := by decide +kernel
theorem dX3_isGhost_0 : decode cX3_isGhost 0 = .ok (.aload_n 0, 1) := by decide +kernel
theorem dX3_isGhost_1 : decode cX3_isGhost 1 = .ok (.iload_n 1, 1) := by decide +kernel
theorem dX3_isGhost_2 : decode cX3_isGhost 2 = .ok (.iload_n 2, 1) := by decide +kernel
theorem dX3_isGhost_3 : decode cX3_isGhost 3 = .ok (.invokevirtual 43, 3) := by decide +kernel
theorem dX3_isGhost_6 : decode cX3_isGhost 6 = .ok (.istore_n 3, 1) := by decide +kernel
theorem dX3_isGhost_7 : decode cX3_isGhost 7 = .ok (.iload_n 2, 1) := by decide +kernel
theorem dX3_isGhost_8 : decode cX3_isGhost 8 = .ok (.ifCond .le 15, 3) := by decide +kernel
theorem dX3_isGhost_11 : decode cX3_isGhost 11 = .ok (.aload_n 0, 1) := by decide +kernel
theorem dX3_isGhost_12 : decode cX3_isGhost 12 = .ok (.iload_n 1, 1) := by decide +kernel
theorem dX3_isGhost_13 : decode cX3_isGhost 13 = .ok (.iload_n 2, 1) := by decide +kernel
theorem dX3_isGhost_14 : decode cX3_isGhost 14 = .ok (.iconst 1, 1) := by decide +kernel
theorem dX3_isGhost_15 : decode cX3_isGhost 15 = .ok (.isub, 1) := by decide +kernel
theorem dX3_isGhost_16 : decode cX3_isGhost 16 = .ok (.invokevirtual 43, 3) := by decide +kernel
theorem dX3_isGhost_19 : decode cX3_isGhost 19 = .ok (.iload_n 3, 1) := by decide +kernel
theorem dX3_isGhost_20 : decode cX3_isGhost 20 = .ok (.if_icmp .ne 21, 3) := by decide +kernel
theorem dX3_isGhost_23 : decode cX3_isGhost 23 = .ok (.iload_n 2, 1) := by decide +kernel
theorem dX3_isGhost_24 : decode cX3_isGhost 24 = .ok (.bipush 11, 2) := by decide +kernel
theorem dX3_isGhost_26 : decode cX3_isGhost 26 = .ok (.if_icmp .ge 19, 3) := by decide +kernel
theorem dX3_isGhost_29 : decode cX3_isGhost 29 = .ok (.aload_n 0, 1) := by decide +kernel
theorem dX3_isGhost_30 : decode cX3_isGhost 30 = .ok (.iload_n 1, 1) := by decide +kernel
theorem dX3_isGhost_31 : decode cX3_isGhost 31 = .ok (.iload_n 2, 1) := by decide +kernel
theorem dX3_isGhost_32 : decode cX3_isGhost 32 = .ok (.iconst 1, 1) := by decide +kernel
theorem dX3_isGhost_33 : decode cX3_isGhost 33 = .ok (.iadd, 1) := by decide +kernel
theorem dX3_isGhost_34 : decode cX3_isGhost 34 = .ok (.invokevirtual 43, 3) := by decide +kernel
theorem dX3_isGhost_37 : decode cX3_isGhost 37 = .ok (.iload_n 3, 1) := by decide +kernel
theorem dX3_isGhost_38 : decode cX3_isGhost 38 = .ok (.if_icmp .eq 7, 3) := by decide +kernel
theorem dX3_isGhost_41 : decode cX3_isGhost 41 = .ok (.iconst 1, 1) := by decide +kernel
theorem dX3_isGhost_42 : decode cX3_isGhost 42 = .ok (.goto 4, 3) := by decide +kernel
theorem dX3_isGhost_45 : decode cX3_isGhost 45 = .ok (.iconst 0, 1) := by decide +kernel
theorem dX3_isGhost_46 : decode cX3_isGhost 46 = .ok (.ireturn, 1) := by decide +kernel
theorem dX3_ghosts_0 : decode cX3_ghosts 0 = .ok (.iconst 0, 1) := by decide +kernel
theorem dX3_ghosts_1 : decode cX3_ghosts 1 = .ok (.istore_n 2, 1) := by decide +kernel
theorem dX3_ghosts_2 : decode cX3_ghosts 2 = .ok (.iconst 0, 1) := by decide +kernel
theorem dX3_ghosts_3 : decode cX3_ghosts 3 = .ok (.istore_n 3, 1) := by decide +kernel
theorem dX3_ghosts_4 : decode cX3_ghosts 4 = .ok (.iload_n 3, 1) := by decide +kernel
theorem dX3_ghosts_5 : decode cX3_ghosts 5 = .ok (.bipush 12, 2) := by decide +kernel
theorem dX3_ghosts_7 : decode cX3_ghosts 7 = .ok (.if_icmp .ge 21, 3) := by decide +kernel
theorem dX3_ghosts_10 : decode cX3_ghosts 10 = .ok (.aload_n 0, 1) := by decide +kernel
theorem dX3_ghosts_11 : decode cX3_ghosts 11 = .ok (.iload_n 1, 1) := by decide +kernel
theorem dX3_ghosts_12 : decode cX3_ghosts 12 = .ok (.iload_n 3, 1) := by decide +kernel
theorem dX3_ghosts_13 : decode cX3_ghosts 13 = .ok (.invokevirtual 46, 3) := by decide +kernel
theorem dX3_ghosts_16 : decode cX3_ghosts 16 = .ok (.ifCond .eq 6, 3) := by decide +kernel
theorem dX3_ghosts_19 : decode cX3_ghosts 19 = .ok (.iinc 2 1, 3) := by decide +kernel
theorem dX3_ghosts_22 : decode cX3_ghosts 22 = .ok (.iinc 3 1, 3) := by decide +kernel
theorem dX3_ghosts_25 : decode cX3_ghosts 25 = .ok (.goto (-21), 3) := by decide +kernel
theorem dX3_ghosts_28 : decode cX3_ghosts 28 = .ok (.iload_n 2, 1) := by decide +kernel
theorem dX3_ghosts_29 : decode cX3_ghosts 29 = .ok (.ireturn, 1) := by decide +kernel
theorem dX3_ghostsAtAllAngles_0 : decode cX3_ghostsAtAllAngles 0 = .ok (.iconst 0, 1) := by decide +kernel
theorem dX3_ghostsAtAllAngles_1 : decode cX3_ghostsAtAllAngles 1 = .ok (.istore_n 1, 1) := by decide +kernel
theorem dX3_ghostsAtAllAngles_2 : decode cX3_ghostsAtAllAngles 2 = .ok (.iconst 0, 1) := by decide +kernel
theorem dX3_ghostsAtAllAngles_3 : decode cX3_ghostsAtAllAngles 3 = .ok (.istore_n 2, 1) := by decide +kernel
theorem dX3_ghostsAtAllAngles_4 : decode cX3_ghostsAtAllAngles 4 = .ok (.iload_n 2, 1) := by decide +kernel
theorem dX3_ghostsAtAllAngles_5 : decode cX3_ghostsAtAllAngles 5 = .ok (.aload_n 0, 1) := by decide +kernel
theorem dX3_ghostsAtAllAngles_6 : decode cX3_ghostsAtAllAngles 6 = .ok (.getfield 12, 3) := by decide +kernel
theorem dX3_ghostsAtAllAngles_9 : decode cX3_ghostsAtAllAngles 9 = .ok (.getfield 50, 3) := by decide +kernel
theorem dX3_ghostsAtAllAngles_12 : decode cX3_ghostsAtAllAngles 12 = .ok (.if_icmp .ge 30, 3) := by decide +kernel
theorem dX3_ghostsAtAllAngles_15 : decode cX3_ghostsAtAllAngles 15 = .ok (.iload_n 2, 1) := by decide +kernel
theorem dX3_ghostsAtAllAngles_16 : decode cX3_ghostsAtAllAngles 16 = .ok (.bipush 6, 2) := by decide +kernel
theorem dX3_ghostsAtAllAngles_18 : decode cX3_ghostsAtAllAngles 18 = .ok (.if_icmp .ge 24, 3) := by decide +kernel
theorem dX3_ghostsAtAllAngles_21 : decode cX3_ghostsAtAllAngles 21 = .ok (.iload_n 1, 1) := by decide +kernel
theorem dX3_ghostsAtAllAngles_22 : decode cX3_ghostsAtAllAngles 22 = .ok (.aload_n 0, 1) := by decide +kernel
theorem dX3_ghostsAtAllAngles_23 : decode cX3_ghostsAtAllAngles 23 = .ok (.getfield 22, 3) := by decide +kernel
theorem dX3_ghostsAtAllAngles_26 : decode cX3_ghostsAtAllAngles 26 = .ok (.iload_n 2, 1) := by decide +kernel
theorem dX3_ghostsAtAllAngles_27 : decode cX3_ghostsAtAllAngles 27 = .ok (.iaload, 1) := by decide +kernel
theorem dX3_ghostsAtAllAngles_28 : decode cX3_ghostsAtAllAngles 28 = .ok (.aload_n 0, 1) := by decide +kernel
theorem dX3_ghostsAtAllAngles_29 : decode cX3_ghostsAtAllAngles 29 = .ok (.iload_n 2, 1) := by decide +kernel
theorem dX3_ghostsAtAllAngles_30 : decode cX3_ghostsAtAllAngles 30 = .ok (.invokevirtual 54, 3) := by decide +kernel
theorem dX3_ghostsAtAllAngles_33 : decode cX3_ghostsAtAllAngles 33 = .ok (.imul, 1) := by decide +kernel
theorem dX3_ghostsAtAllAngles_34 : decode cX3_ghostsAtAllAngles 34 = .ok (.iadd, 1) := by decide +kernel
theorem dX3_ghostsAtAllAngles_35 : decode cX3_ghostsAtAllAngles 35 = .ok (.istore_n 1, 1) := by decide +kernel
theorem dX3_ghostsAtAllAngles_36 : decode cX3_ghostsAtAllAngles 36 = .ok (.iinc 2 1, 3) := by decide +kernel
theorem dX3_ghostsAtAllAngles_39 : decode cX3_ghostsAtAllAngles 39 = .ok (.goto (-35), 3) := by decide +kernel
theorem dX3_ghostsAtAllAngles_42 : decode cX3_ghostsAtAllAngles 42 = .ok (.iload_n 1, 1) := by decide +kernel
theorem dX3_ghostsAtAllAngles_43 : decode cX3_ghostsAtAllAngles 43 = .ok (.ireturn, 1) := by decide +kernel
theorem dX3_ridgesShowing_0 : decode cX3_ridgesShowing 0 = .ok (.iconst 0, 1) := by decide +kernel
theorem dX3_ridgesShowing_1 : decode cX3_ridgesShowing 1 = .ok (.istore_n 3, 1) := by decide +kernel
theorem dX3_ridgesShowing_2 : decode cX3_ridgesShowing 2 = .ok (.iconst 0, 1) := by decide +kernel
theorem dX3_ridgesShowing_3 : decode cX3_ridgesShowing 3 = .ok (.istore 4, 2) := by decide +kernel
theorem dX3_ridgesShowing_5 : decode cX3_ridgesShowing 5 = .ok (.iload 4, 2) := by decide +kernel
theorem dX3_ridgesShowing_7 : decode cX3_ridgesShowing 7 = .ok (.bipush 12, 2) := by decide +kernel
theorem dX3_ridgesShowing_9 : decode cX3_ridgesShowing 9 = .ok (.if_icmp .ge 23, 3) := by decide +kernel
theorem dX3_ridgesShowing_12 : decode cX3_ridgesShowing 12 = .ok (.aload_n 0, 1) := by decide +kernel
theorem dX3_ridgesShowing_13 : decode cX3_ridgesShowing 13 = .ok (.iload_n 1, 1) := by decide +kernel
theorem dX3_ridgesShowing_14 : decode cX3_ridgesShowing 14 = .ok (.iload 4, 2) := by decide +kernel
theorem dX3_ridgesShowing_16 : decode cX3_ridgesShowing 16 = .ok (.invokevirtual 43, 3) := by decide +kernel
theorem dX3_ridgesShowing_19 : decode cX3_ridgesShowing 19 = .ok (.iload_n 2, 1) := by decide +kernel
theorem dX3_ridgesShowing_20 : decode cX3_ridgesShowing 20 = .ok (.if_icmp .ne 6, 3) := by decide +kernel
theorem dX3_ridgesShowing_23 : decode cX3_ridgesShowing 23 = .ok (.iinc 3 1, 3) := by decide +kernel
theorem dX3_ridgesShowing_26 : decode cX3_ridgesShowing 26 = .ok (.iinc 4 1, 3) := by decide +kernel
theorem dX3_ridgesShowing_29 : decode cX3_ridgesShowing 29 = .ok (.goto (-24), 3) := by decide +kernel
theorem dX3_ridgesShowing_32 : decode cX3_ridgesShowing 32 = .ok (.iload_n 3, 1) := by decide +kernel
theorem dX3_ridgesShowing_33 : decode cX3_ridgesShowing 33 = .ok (.ireturn, 1) := by decide +kernel
theorem dX3_wholeView_0 : decode cX3_wholeView 0 = .ok (.aload_n 0, 1) := by decide +kernel
theorem dX3_wholeView_1 : decode cX3_wholeView 1 = .ok (.iload_n 1, 1) := by decide +kernel
theorem dX3_wholeView_2 : decode cX3_wholeView 2 = .ok (.iconst 0, 1) := by decide +kernel
theorem dX3_wholeView_3 : decode cX3_wholeView 3 = .ok (.invokevirtual 43, 3) := by decide +kernel
theorem dX3_wholeView_6 : decode cX3_wholeView 6 = .ok (.istore_n 2, 1) := by decide +kernel
theorem dX3_wholeView_7 : decode cX3_wholeView 7 = .ok (.aload_n 0, 1) := by decide +kernel
theorem dX3_wholeView_8 : decode cX3_wholeView 8 = .ok (.iload_n 1, 1) := by decide +kernel
theorem dX3_wholeView_9 : decode cX3_wholeView 9 = .ok (.iload_n 2, 1) := by decide +kernel
theorem dX3_wholeView_10 : decode cX3_wholeView 10 = .ok (.invokevirtual 57, 3) := by decide +kernel
theorem dX3_wholeView_13 : decode cX3_wholeView 13 = .ok (.bipush 12, 2) := by decide +kernel
theorem dX3_wholeView_15 : decode cX3_wholeView 15 = .ok (.if_icmp .ne 7, 3) := by decide +kernel
theorem dX3_wholeView_18 : decode cX3_wholeView 18 = .ok (.iload_n 2, 1) := by decide +kernel
theorem dX3_wholeView_19 : decode cX3_wholeView 19 = .ok (.goto 4, 3) := by decide +kernel
theorem dX3_wholeView_22 : decode cX3_wholeView 22 = .ok (.iconst (-1), 1) := by decide +kernel
theorem dX3_wholeView_23 : decode cX3_wholeView 23 = .ok (.ireturn, 1) := by decide +kernel
theorem dX3_mostShownView_0 : decode cX3_mostShownView 0 = .ok (.iconst 0, 1) := by decide +kernel
theorem dX3_mostShownView_1 : decode cX3_mostShownView 1 = .ok (.istore_n 2, 1) := by decide +kernel
theorem dX3_mostShownView_2 : decode cX3_mostShownView 2 = .ok (.iconst (-1), 1) := by decide +kernel
theorem dX3_mostShownView_3 : decode cX3_mostShownView 3 = .ok (.istore_n 3, 1) := by decide +kernel
theorem dX3_mostShownView_4 : decode cX3_mostShownView 4 = .ok (.iconst 0, 1) := by decide +kernel
theorem dX3_mostShownView_5 : decode cX3_mostShownView 5 = .ok (.istore 4, 2) := by decide +kernel
theorem dX3_mostShownView_7 : decode cX3_mostShownView 7 = .ok (.iload 4, 2) := by decide +kernel
theorem dX3_mostShownView_9 : decode cX3_mostShownView 9 = .ok (.aload_n 0, 1) := by decide +kernel
theorem dX3_mostShownView_10 : decode cX3_mostShownView 10 = .ok (.getfield 12, 3) := by decide +kernel
theorem dX3_mostShownView_13 : decode cX3_mostShownView 13 = .ok (.getfield 60, 3) := by decide +kernel
theorem dX3_mostShownView_16 : decode cX3_mostShownView 16 = .ok (.if_icmp .ge 30, 3) := by decide +kernel
theorem dX3_mostShownView_19 : decode cX3_mostShownView 19 = .ok (.aload_n 0, 1) := by decide +kernel
theorem dX3_mostShownView_20 : decode cX3_mostShownView 20 = .ok (.iload_n 1, 1) := by decide +kernel
theorem dX3_mostShownView_21 : decode cX3_mostShownView 21 = .ok (.iload 4, 2) := by decide +kernel
theorem dX3_mostShownView_23 : decode cX3_mostShownView 23 = .ok (.invokevirtual 57, 3) := by decide +kernel
theorem dX3_mostShownView_26 : decode cX3_mostShownView 26 = .ok (.istore 5, 2) := by decide +kernel
theorem dX3_mostShownView_28 : decode cX3_mostShownView 28 = .ok (.iload 5, 2) := by decide +kernel
theorem dX3_mostShownView_30 : decode cX3_mostShownView 30 = .ok (.iload_n 2, 1) := by decide +kernel
theorem dX3_mostShownView_31 : decode cX3_mostShownView 31 = .ok (.if_icmp .le 9, 3) := by decide +kernel
theorem dX3_mostShownView_34 : decode cX3_mostShownView 34 = .ok (.iload 5, 2) := by decide +kernel
theorem dX3_mostShownView_36 : decode cX3_mostShownView 36 = .ok (.istore_n 2, 1) := by decide +kernel
theorem dX3_mostShownView_37 : decode cX3_mostShownView 37 = .ok (.iload 4, 2) := by decide +kernel
theorem dX3_mostShownView_39 : decode cX3_mostShownView 39 = .ok (.istore_n 3, 1) := by decide +kernel
theorem dX3_mostShownView_40 : decode cX3_mostShownView 40 = .ok (.iinc 4 1, 3) := by decide +kernel
theorem dX3_mostShownView_43 : decode cX3_mostShownView 43 = .ok (.goto (-36), 3) := by decide +kernel
theorem dX3_mostShownView_46 : decode cX3_mostShownView 46 = .ok (.iload_n 3, 1) := by decide +kernel
theorem dX3_mostShownView_47 : decode cX3_mostShownView 47 = .ok (.ireturn, 1) := by decide +kernel
theorem dX3_mostShownRidges_0 : decode cX3_mostShownRidges 0 = .ok (.aload_n 0, 1) := by decide +kernel
theorem dX3_mostShownRidges_1 : decode cX3_mostShownRidges 1 = .ok (.iload_n 1, 1) := by decide +kernel
theorem dX3_mostShownRidges_2 : decode cX3_mostShownRidges 2 = .ok (.invokevirtual 63, 3) := by decide +kernel
theorem dX3_mostShownRidges_5 : decode cX3_mostShownRidges 5 = .ok (.istore_n 2, 1) := by decide +kernel
theorem dX3_mostShownRidges_6 : decode cX3_mostShownRidges 6 = .ok (.iload_n 2, 1) := by decide +kernel
theorem dX3_mostShownRidges_7 : decode cX3_mostShownRidges 7 = .ok (.iconst (-1), 1) := by decide +kernel
theorem dX3_mostShownRidges_8 : decode cX3_mostShownRidges 8 = .ok (.if_icmp .ne 7, 3) := by decide +kernel
theorem dX3_mostShownRidges_11 : decode cX3_mostShownRidges 11 = .ok (.iconst 0, 1) := by decide +kernel
theorem dX3_mostShownRidges_12 : decode cX3_mostShownRidges 12 = .ok (.goto 9, 3) := by decide +kernel
theorem dX3_mostShownRidges_15 : decode cX3_mostShownRidges 15 = .ok (.aload_n 0, 1) := by decide +kernel
theorem dX3_mostShownRidges_16 : decode cX3_mostShownRidges 16 = .ok (.iload_n 1, 1) := by decide +kernel
theorem dX3_mostShownRidges_17 : decode cX3_mostShownRidges 17 = .ok (.iload_n 2, 1) := by decide +kernel
theorem dX3_mostShownRidges_18 : decode cX3_mostShownRidges 18 = .ok (.invokevirtual 57, 3) := by decide +kernel
theorem dX3_mostShownRidges_21 : decode cX3_mostShownRidges 21 = .ok (.ireturn, 1) := by decide +kernel
theorem dX3_anglesShowingWhole_0 : decode cX3_anglesShowingWhole 0 = .ok (.iconst 0, 1) := by decide +kernel
theorem dX3_anglesShowingWhole_1 : decode cX3_anglesShowingWhole 1 = .ok (.istore_n 2, 1) := by decide +kernel
theorem dX3_anglesShowingWhole_2 : decode cX3_anglesShowingWhole 2 = .ok (.iconst 0, 1) := by decide +kernel
theorem dX3_anglesShowingWhole_3 : decode cX3_anglesShowingWhole 3 = .ok (.istore_n 3, 1) := by decide +kernel
theorem dX3_anglesShowingWhole_4 : decode cX3_anglesShowingWhole 4 = .ok (.iload_n 3, 1) := by decide +kernel
theorem dX3_anglesShowingWhole_5 : decode cX3_anglesShowingWhole 5 = .ok (.aload_n 0, 1) := by decide +kernel
theorem dX3_anglesShowingWhole_6 : decode cX3_anglesShowingWhole 6 = .ok (.getfield 12, 3) := by decide +kernel
theorem dX3_anglesShowingWhole_9 : decode cX3_anglesShowingWhole 9 = .ok (.getfield 50, 3) := by decide +kernel
theorem dX3_anglesShowingWhole_12 : decode cX3_anglesShowingWhole 12 = .ok (.if_icmp .ge 33, 3) := by decide +kernel
theorem dX3_anglesShowingWhole_15 : decode cX3_anglesShowingWhole 15 = .ok (.iload_n 3, 1) := by decide +kernel
theorem dX3_anglesShowingWhole_16 : decode cX3_anglesShowingWhole 16 = .ok (.bipush 6, 2) := by decide +kernel
theorem dX3_anglesShowingWhole_18 : decode cX3_anglesShowingWhole 18 = .ok (.if_icmp .ge 27, 3) := by decide +kernel
theorem dX3_anglesShowingWhole_21 : decode cX3_anglesShowingWhole 21 = .ok (.aload_n 0, 1) := by decide +kernel
theorem dX3_anglesShowingWhole_22 : decode cX3_anglesShowingWhole 22 = .ok (.iload_n 3, 1) := by decide +kernel
theorem dX3_anglesShowingWhole_23 : decode cX3_anglesShowingWhole 23 = .ok (.invokevirtual 66, 3) := by decide +kernel
theorem dX3_anglesShowingWhole_26 : decode cX3_anglesShowingWhole 26 = .ok (.iload_n 1, 1) := by decide +kernel
theorem dX3_anglesShowingWhole_27 : decode cX3_anglesShowingWhole 27 = .ok (.if_icmp .ne 12, 3) := by decide +kernel
theorem dX3_anglesShowingWhole_30 : decode cX3_anglesShowingWhole 30 = .ok (.iload_n 2, 1) := by decide +kernel
theorem dX3_anglesShowingWhole_31 : decode cX3_anglesShowingWhole 31 = .ok (.aload_n 0, 1) := by decide +kernel
theorem dX3_anglesShowingWhole_32 : decode cX3_anglesShowingWhole 32 = .ok (.getfield 22, 3) := by decide +kernel
theorem dX3_anglesShowingWhole_35 : decode cX3_anglesShowingWhole 35 = .ok (.iload_n 3, 1) := by decide +kernel
theorem dX3_anglesShowingWhole_36 : decode cX3_anglesShowingWhole 36 = .ok (.iaload, 1) := by decide +kernel
theorem dX3_anglesShowingWhole_37 : decode cX3_anglesShowingWhole 37 = .ok (.iadd, 1) := by decide +kernel
theorem dX3_anglesShowingWhole_38 : decode cX3_anglesShowingWhole 38 = .ok (.istore_n 2, 1) := by decide +kernel
theorem dX3_anglesShowingWhole_39 : decode cX3_anglesShowingWhole 39 = .ok (.iinc 3 1, 3) := by decide +kernel
theorem dX3_anglesShowingWhole_42 : decode cX3_anglesShowingWhole 42 = .ok (.goto (-38), 3) := by decide +kernel
theorem dX3_anglesShowingWhole_45 : decode cX3_anglesShowingWhole 45 = .ok (.iload_n 2, 1) := by decide +kernel
theorem dX3_anglesShowingWhole_46 : decode cX3_anglesShowingWhole 46 = .ok (.ireturn, 1) := by decide +kernel
theorem dX3_anglesShowingAnyWhole_0 : decode cX3_anglesShowingAnyWhole 0 = .ok (.bipush 19, 2) := by decide +kernel
theorem dX3_anglesShowingAnyWhole_2 : decode cX3_anglesShowingAnyWhole 2 = .ok (.aload_n 0, 1) := by decide +kernel
theorem dX3_anglesShowingAnyWhole_3 : decode cX3_anglesShowingAnyWhole 3 = .ok (.iconst (-1), 1) := by decide +kernel
theorem dX3_anglesShowingAnyWhole_4 : decode cX3_anglesShowingAnyWhole 4 = .ok (.invokevirtual 69, 3) := by decide +kernel
theorem dX3_anglesShowingAnyWhole_7 : decode cX3_anglesShowingAnyWhole 7 = .ok (.isub, 1) := by decide +kernel
theorem dX3_anglesShowingAnyWhole_8 : decode cX3_anglesShowingAnyWhole 8 = .ok (.ireturn, 1) := by decide +kernel
theorem dX3_wholeViews_0 : decode cX3_wholeViews 0 = .ok (.iconst 0, 1) := by decide +kernel
theorem dX3_wholeViews_1 : decode cX3_wholeViews 1 = .ok (.istore_n 1, 1) := by decide +kernel
theorem dX3_wholeViews_2 : decode cX3_wholeViews 2 = .ok (.iconst 0, 1) := by decide +kernel
theorem dX3_wholeViews_3 : decode cX3_wholeViews 3 = .ok (.istore_n 2, 1) := by decide +kernel
theorem dX3_wholeViews_4 : decode cX3_wholeViews 4 = .ok (.iload_n 2, 1) := by decide +kernel
theorem dX3_wholeViews_5 : decode cX3_wholeViews 5 = .ok (.aload_n 0, 1) := by decide +kernel
theorem dX3_wholeViews_6 : decode cX3_wholeViews 6 = .ok (.getfield 12, 3) := by decide +kernel
theorem dX3_wholeViews_9 : decode cX3_wholeViews 9 = .ok (.getfield 60, 3) := by decide +kernel
theorem dX3_wholeViews_12 : decode cX3_wholeViews 12 = .ok (.if_icmp .ge 20, 3) := by decide +kernel
theorem dX3_wholeViews_15 : decode cX3_wholeViews 15 = .ok (.aload_n 0, 1) := by decide +kernel
theorem dX3_wholeViews_16 : decode cX3_wholeViews 16 = .ok (.iload_n 2, 1) := by decide +kernel
theorem dX3_wholeViews_17 : decode cX3_wholeViews 17 = .ok (.invokevirtual 69, 3) := by decide +kernel
theorem dX3_wholeViews_20 : decode cX3_wholeViews 20 = .ok (.ifCond .le 6, 3) := by decide +kernel
theorem dX3_wholeViews_23 : decode cX3_wholeViews 23 = .ok (.iinc 1 1, 3) := by decide +kernel
theorem dX3_wholeViews_26 : decode cX3_wholeViews 26 = .ok (.iinc 2 1, 3) := by decide +kernel
theorem dX3_wholeViews_29 : decode cX3_wholeViews 29 = .ok (.goto (-25), 3) := by decide +kernel
theorem dX3_wholeViews_32 : decode cX3_wholeViews 32 = .ok (.iload_n 1, 1) := by decide +kernel
theorem dX3_wholeViews_33 : decode cX3_wholeViews 33 = .ok (.ireturn, 1) := by decide +kernel
theorem dX3_clearestAngle_0 : decode cX3_clearestAngle 0 = .ok (.bipush (-9), 2) := by decide +kernel
theorem dX3_clearestAngle_2 : decode cX3_clearestAngle 2 = .ok (.istore_n 2, 1) := by decide +kernel
theorem dX3_clearestAngle_3 : decode cX3_clearestAngle 3 = .ok (.iconst (-1), 1) := by decide +kernel
theorem dX3_clearestAngle_4 : decode cX3_clearestAngle 4 = .ok (.istore_n 3, 1) := by decide +kernel
theorem dX3_clearestAngle_5 : decode cX3_clearestAngle 5 = .ok (.iconst 0, 1) := by decide +kernel
theorem dX3_clearestAngle_6 : decode cX3_clearestAngle 6 = .ok (.istore 4, 2) := by decide +kernel
theorem dX3_clearestAngle_8 : decode cX3_clearestAngle 8 = .ok (.bipush (-9), 2) := by decide +kernel
theorem dX3_clearestAngle_10 : decode cX3_clearestAngle 10 = .ok (.istore 5, 2) := by decide +kernel
theorem dX3_clearestAngle_12 : decode cX3_clearestAngle 12 = .ok (.iload 5, 2) := by decide +kernel
theorem dX3_clearestAngle_14 : decode cX3_clearestAngle 14 = .ok (.bipush 9, 2) := by decide +kernel
theorem dX3_clearestAngle_16 : decode cX3_clearestAngle 16 = .ok (.if_icmp .gt 66, 3) := by decide +kernel
theorem dX3_clearestAngle_19 : decode cX3_clearestAngle 19 = .ok (.aload_n 0, 1) := by decide +kernel
theorem dX3_clearestAngle_20 : decode cX3_clearestAngle 20 = .ok (.getfield 12, 3) := by decide +kernel
theorem dX3_clearestAngle_23 : decode cX3_clearestAngle 23 = .ok (.iload 5, 2) := by decide +kernel
theorem dX3_clearestAngle_25 : decode cX3_clearestAngle 25 = .ok (.invokevirtual 32, 3) := by decide +kernel
theorem dX3_clearestAngle_28 : decode cX3_clearestAngle 28 = .ok (.istore 6, 2) := by decide +kernel
theorem dX3_clearestAngle_30 : decode cX3_clearestAngle 30 = .ok (.aload_n 0, 1) := by decide +kernel
theorem dX3_clearestAngle_31 : decode cX3_clearestAngle 31 = .ok (.iload 6, 2) := by decide +kernel
theorem dX3_clearestAngle_33 : decode cX3_clearestAngle 33 = .ok (.iload_n 1, 1) := by decide +kernel
theorem dX3_clearestAngle_34 : decode cX3_clearestAngle 34 = .ok (.invokevirtual 57, 3) := by decide +kernel
theorem dX3_clearestAngle_37 : decode cX3_clearestAngle 37 = .ok (.istore 7, 2) := by decide +kernel
theorem dX3_clearestAngle_39 : decode cX3_clearestAngle 39 = .ok (.aload_n 0, 1) := by decide +kernel
theorem dX3_clearestAngle_40 : decode cX3_clearestAngle 40 = .ok (.iload 6, 2) := by decide +kernel
theorem dX3_clearestAngle_42 : decode cX3_clearestAngle 42 = .ok (.invokevirtual 54, 3) := by decide +kernel
theorem dX3_clearestAngle_45 : decode cX3_clearestAngle 45 = .ok (.istore 8, 2) := by decide +kernel
theorem dX3_clearestAngle_47 : decode cX3_clearestAngle 47 = .ok (.iload 7, 2) := by decide +kernel
theorem dX3_clearestAngle_49 : decode cX3_clearestAngle 49 = .ok (.iload_n 3, 1) := by decide +kernel
theorem dX3_clearestAngle_50 : decode cX3_clearestAngle 50 = .ok (.if_icmp .gt 16, 3) := by decide +kernel
theorem dX3_clearestAngle_53 : decode cX3_clearestAngle 53 = .ok (.iload 7, 2) := by decide +kernel
theorem dX3_clearestAngle_55 : decode cX3_clearestAngle 55 = .ok (.iload_n 3, 1) := by decide +kernel
theorem dX3_clearestAngle_56 : decode cX3_clearestAngle 56 = .ok (.if_icmp .ne 20, 3) := by decide +kernel
theorem dX3_clearestAngle_59 : decode cX3_clearestAngle 59 = .ok (.iload 8, 2) := by decide +kernel
theorem dX3_clearestAngle_61 : decode cX3_clearestAngle 61 = .ok (.iload 4, 2) := by decide +kernel
theorem dX3_clearestAngle_63 : decode cX3_clearestAngle 63 = .ok (.if_icmp .ge 13, 3) := by decide +kernel
theorem dX3_clearestAngle_66 : decode cX3_clearestAngle 66 = .ok (.iload 5, 2) := by decide +kernel
theorem dX3_clearestAngle_68 : decode cX3_clearestAngle 68 = .ok (.istore_n 2, 1) := by decide +kernel
theorem dX3_clearestAngle_69 : decode cX3_clearestAngle 69 = .ok (.iload 7, 2) := by decide +kernel
theorem dX3_clearestAngle_71 : decode cX3_clearestAngle 71 = .ok (.istore_n 3, 1) := by decide +kernel
theorem dX3_clearestAngle_72 : decode cX3_clearestAngle 72 = .ok (.iload 8, 2) := by decide +kernel
theorem dX3_clearestAngle_74 : decode cX3_clearestAngle 74 = .ok (.istore 4, 2) := by decide +kernel
theorem dX3_clearestAngle_76 : decode cX3_clearestAngle 76 = .ok (.iinc 5 1, 3) := by decide +kernel
theorem dX3_clearestAngle_79 : decode cX3_clearestAngle 79 = .ok (.goto (-67), 3) := by decide +kernel
theorem dX3_clearestAngle_82 : decode cX3_clearestAngle 82 = .ok (.iload_n 2, 1) := by decide +kernel
theorem dX3_clearestAngle_83 : decode cX3_clearestAngle 83 = .ok (.ireturn, 1) := by decide +kernel
theorem dX4_init_0 : decode cX4_init 0 = .ok (.aload_n 0, 1) := by decide +kernel
theorem dX4_init_1 : decode cX4_init 1 = .ok (.invokespecial 1, 3) := by decide +kernel
theorem dX4_init_4 : decode cX4_init 4 = .ok (.aload_n 0, 1) := by decide +kernel
theorem dX4_init_5 : decode cX4_init 5 = .ok (.new 7, 3) := by decide +kernel
theorem dX4_init_8 : decode cX4_init 8 = .ok (.dup, 1) := by decide +kernel
theorem dX4_init_9 : decode cX4_init 9 = .ok (.invokespecial 9, 3) := by decide +kernel
theorem dX4_init_12 : decode cX4_init 12 = .ok (.putfield 10, 3) := by decide +kernel
theorem dX4_init_15 : decode cX4_init 15 = .ok (.aload_n 0, 1) := by decide +kernel
theorem dX4_init_16 : decode cX4_init 16 = .ok (.aload_n 0, 1) := by decide +kernel
theorem dX4_init_17 : decode cX4_init 17 = .ok (.getfield 10, 3) := by decide +kernel
theorem dX4_init_20 : decode cX4_init 20 = .ok (.getfield 16, 3) := by decide +kernel
theorem dX4_init_23 : decode cX4_init 23 = .ok (.putfield 20, 3) := by decide +kernel
theorem dX4_init_26 : decode cX4_init 26 = .ok (.aload_n 0, 1) := by decide +kernel
theorem dX4_init_27 : decode cX4_init 27 = .ok (.new 7, 3) := by decide +kernel
theorem dX4_init_30 : decode cX4_init 30 = .ok (.dup, 1) := by decide +kernel
theorem dX4_init_31 : decode cX4_init 31 = .ok (.invokespecial 9, 3) := by decide +kernel
theorem dX4_init_34 : decode cX4_init 34 = .ok (.putfield 21, 3) := by decide +kernel
theorem dX4_init_37 : decode cX4_init 37 = .ok (.aload_n 0, 1) := by decide +kernel
theorem dX4_init_38 : decode cX4_init 38 = .ok (.aload_n 0, 1) := by decide +kernel
theorem dX4_init_39 : decode cX4_init 39 = .ok (.getfield 21, 3) := by decide +kernel
theorem dX4_init_42 : decode cX4_init 42 = .ok (.getfield 16, 3) := by decide +kernel
theorem dX4_init_45 : decode cX4_init 45 = .ok (.putfield 24, 3) := by decide +kernel
theorem dX4_init_48 : decode cX4_init 48 = .ok (.aload_n 0, 1) := by decide +kernel
theorem dX4_init_49 : decode cX4_init 49 = .ok (.bipush 6, 2) := by decide +kernel
theorem dX4_init_51 : decode cX4_init 51 = .ok (.newarray .int, 2) := by decide +kernel
theorem dX4_init_53 : decode cX4_init 53 = .ok (.putfield 27, 3) := by decide +kernel
theorem dX4_init_56 : decode cX4_init 56 = .ok (.aload_n 0, 1) := by decide +kernel
theorem dX4_init_57 : decode cX4_init 57 = .ok (.new 31, 3) := by decide +kernel
theorem dX4_init_60 : decode cX4_init 60 = .ok (.dup, 1) := by decide +kernel
theorem dX4_init_61 : decode cX4_init 61 = .ok (.invokespecial 33, 3) := by decide +kernel
theorem dX4_init_64 : decode cX4_init 64 = .ok (.putfield 34, 3) := by decide +kernel
theorem dX4_init_67 : decode cX4_init 67 = .ok (.aload_n 0, 1) := by decide +kernel
theorem dX4_init_68 : decode cX4_init 68 = .ok (.new 38, 3) := by decide +kernel
theorem dX4_init_71 : decode cX4_init 71 = .ok (.dup, 1) := by decide +kernel
theorem dX4_init_72 : decode cX4_init 72 = .ok (.invokespecial 40, 3) := by decide +kernel
theorem dX4_init_75 : decode cX4_init 75 = .ok (.putfield 41, 3) := by decide +kernel
theorem dX4_init_78 : decode cX4_init 78 = .ok (.aload_n 0, 1) := by decide +kernel
theorem dX4_init_79 : decode cX4_init 79 = .ok (.iconst 0, 1) := by decide +kernel
theorem dX4_init_80 : decode cX4_init 80 = .ok (.putfield 44, 3) := by decide +kernel
theorem dX4_init_83 : decode cX4_init 83 = .ok (.aload_n 0, 1) := by decide +kernel
theorem dX4_init_84 : decode cX4_init 84 = .ok (.new 48, 3) := by decide +kernel
theorem dX4_init_87 : decode cX4_init 87 = .ok (.dup, 1) := by decide +kernel
theorem dX4_init_88 : decode cX4_init 88 = .ok (.invokespecial 50, 3) := by decide +kernel
theorem dX4_init_91 : decode cX4_init 91 = .ok (.putfield 51, 3) := by decide +kernel
theorem dX4_init_94 : decode cX4_init 94 = .ok (.return_, 1) := by decide +kernel
theorem dX4_colour_0 : decode cX4_colour 0 = .ok (.aload_n 0, 1) := by decide +kernel
theorem dX4_colour_1 : decode cX4_colour 1 = .ok (.getfield 20, 3) := by decide +kernel
theorem dX4_colour_4 : decode cX4_colour 4 = .ok (.iload_n 1, 1) := by decide +kernel
theorem dX4_colour_5 : decode cX4_colour 5 = .ok (.invokevirtual 55, 3) := by decide +kernel
theorem dX4_colour_8 : decode cX4_colour 8 = .ok (.ifCond .eq 10, 3) := by decide +kernel
theorem dX4_colour_11 : decode cX4_colour 11 = .ok (.iload_n 2, 1) := by decide +kernel
theorem dX4_colour_12 : decode cX4_colour 12 = .ok (.invokestatic 59, 3) := by decide +kernel
theorem dX4_colour_15 : decode cX4_colour 15 = .ok (.ifCond .ne 6, 3) := by decide +kernel
theorem dX4_colour_18 : decode cX4_colour 18 = .ok (.bipush (-101), 2) := by decide +kernel
theorem dX4_colour_20 : decode cX4_colour 20 = .ok (.ireturn, 1) := by decide +kernel
theorem dX4_colour_21 : decode cX4_colour 21 = .ok (.iload_n 3, 1) := by decide +kernel
theorem dX4_colour_22 : decode cX4_colour 22 = .ok (.iconst 0, 1) := by decide +kernel
theorem dX4_colour_23 : decode cX4_colour 23 = .ok (.bipush 9, 2) := by decide +kernel
theorem dX4_colour_25 : decode cX4_colour 25 = .ok (.invokestatic 62, 3) := by decide +kernel
theorem dX4_colour_28 : decode cX4_colour 28 = .ok (.ifCond .ne 6, 3) := by decide +kernel
theorem dX4_colour_31 : decode cX4_colour 31 = .ok (.bipush (-102), 2) := by decide +kernel
theorem dX4_colour_33 : decode cX4_colour 33 = .ok (.ireturn, 1) := by decide +kernel
theorem dX4_colour_34 : decode cX4_colour 34 = .ok (.aload_n 0, 1) := by decide +kernel
theorem dX4_colour_35 : decode cX4_colour 35 = .ok (.getfield 20, 3) := by decide +kernel
theorem dX4_colour_38 : decode cX4_colour 38 = .ok (.iload_n 1, 1) := by decide +kernel
theorem dX4_colour_39 : decode cX4_colour 39 = .ok (.iload_n 2, 1) := by decide +kernel
theorem dX4_colour_40 : decode cX4_colour 40 = .ok (.invokevirtual 66, 3) := by decide +kernel
theorem dX4_colour_43 : decode cX4_colour 43 = .ok (.istore 4, 2) := by decide +kernel
theorem dX4_colour_45 : decode cX4_colour 45 = .ok (.iload 4, 2) := by decide +kernel
theorem dX4_colour_47 : decode cX4_colour 47 = .ok (.iload_n 3, 1) := by decide +kernel
theorem dX4_colour_48 : decode cX4_colour 48 = .ok (.if_icmp .ne 6, 3) := by decide +kernel
theorem dX4_colour_51 : decode cX4_colour 51 = .ok (.bipush (-105), 2) := by decide +kernel
theorem dX4_colour_53 : decode cX4_colour 53 = .ok (.ireturn, 1) := by decide +kernel
theorem dX4_colour_54 : decode cX4_colour 54 = .ok (.aload_n 0, 1) := by decide +kernel
theorem dX4_colour_55 : decode cX4_colour 55 = .ok (.getfield 34, 3) := by decide +kernel
theorem dX4_colour_58 : decode cX4_colour 58 = .ok (.aload_n 0, 1) := by decide +kernel
theorem dX4_colour_59 : decode cX4_colour 59 = .ok (.getfield 20, 3) := by decide +kernel
theorem dX4_colour_62 : decode cX4_colour 62 = .ok (.invokevirtual 70, 3) := by decide +kernel
theorem dX4_colour_65 : decode cX4_colour 65 = .ok (.aload_n 0, 1) := by decide +kernel
theorem dX4_colour_66 : decode cX4_colour 66 = .ok (.getfield 20, 3) := by decide +kernel
theorem dX4_colour_69 : decode cX4_colour 69 = .ok (.iload_n 1, 1) := by decide +kernel
theorem dX4_colour_70 : decode cX4_colour 70 = .ok (.iload_n 2, 1) := by decide +kernel
theorem dX4_colour_71 : decode cX4_colour 71 = .ok (.iload_n 3, 1) := by decide +kernel
theorem dX4_colour_72 : decode cX4_colour 72 = .ok (.invokevirtual 74, 3) := by decide +kernel
theorem dX4_colour_75 : decode cX4_colour 75 = .ok (.iload 4, 2) := by decide +kernel
theorem dX4_colour_77 : decode cX4_colour 77 = .ok (.ireturn, 1) := by decide +kernel
theorem dX4_removeView_0 : decode cX4_removeView 0 = .ok (.aload_n 0, 1) := by decide +kernel
theorem dX4_removeView_1 : decode cX4_removeView 1 = .ok (.getfield 20, 3) := by decide +kernel
theorem dX4_removeView_4 : decode cX4_removeView 4 = .ok (.iload_n 1, 1) := by decide +kernel
theorem dX4_removeView_5 : decode cX4_removeView 5 = .ok (.invokevirtual 55, 3) := by decide +kernel
theorem dX4_removeView_8 : decode cX4_removeView 8 = .ok (.ifCond .ne 6, 3) := by decide +kernel
theorem dX4_removeView_11 : decode cX4_removeView 11 = .ok (.bipush (-101), 2) := by decide +kernel
theorem dX4_removeView_13 : decode cX4_removeView 13 = .ok (.ireturn, 1) := by decide +kernel
theorem dX4_removeView_14 : decode cX4_removeView 14 = .ok (.aload_n 0, 1) := by decide +kernel
theorem dX4_removeView_15 : decode cX4_removeView 15 = .ok (.getfield 20, 3) := by decide +kernel
theorem dX4_removeView_18 : decode cX4_removeView 18 = .ok (.getfield 78, 3) := by decide +kernel
theorem dX4_removeView_21 : decode cX4_removeView 21 = .ok (.iconst 2, 1) := by decide +kernel
theorem dX4_removeView_22 : decode cX4_removeView 22 = .ok (.if_icmp .gt 6, 3) := by decide +kernel
theorem dX4_removeView_25 : decode cX4_removeView 25 = .ok (.bipush (-104), 2) := by decide +kernel
theorem dX4_removeView_27 : decode cX4_removeView 27 = .ok (.ireturn, 1) := by decide +kernel
theorem dX4_removeView_28 : decode cX4_removeView 28 = .ok (.aload_n 0, 1) := by decide +kernel
theorem dX4_removeView_29 : decode cX4_removeView 29 = .ok (.getfield 34, 3) := by decide +kernel
theorem dX4_removeView_32 : decode cX4_removeView 32 = .ok (.aload_n 0, 1) := by decide +kernel
theorem dX4_removeView_33 : decode cX4_removeView 33 = .ok (.getfield 20, 3) := by decide +kernel
theorem dX4_removeView_36 : decode cX4_removeView 36 = .ok (.invokevirtual 70, 3) := by decide +kernel
theorem dX4_removeView_39 : decode cX4_removeView 39 = .ok (.aload_n 0, 1) := by decide +kernel
theorem dX4_removeView_40 : decode cX4_removeView 40 = .ok (.getfield 20, 3) := by decide +kernel
theorem dX4_removeView_43 : decode cX4_removeView 43 = .ok (.iload_n 1, 1) := by decide +kernel
theorem dX4_removeView_44 : decode cX4_removeView 44 = .ok (.invokevirtual 85, 3) := by decide +kernel
theorem dX4_removeView_47 : decode cX4_removeView 47 = .ok (.aload_n 0, 1) := by decide +kernel
theorem dX4_removeView_48 : decode cX4_removeView 48 = .ok (.getfield 20, 3) := by decide +kernel
theorem dX4_removeView_51 : decode cX4_removeView 51 = .ok (.getfield 78, 3) := by decide +kernel
theorem dX4_removeView_54 : decode cX4_removeView 54 = .ok (.ireturn, 1) := by decide +kernel
theorem dX4_swap_0 : decode cX4_swap 0 = .ok (.aload_n 0, 1) := by decide +kernel
theorem dX4_swap_1 : decode cX4_swap 1 = .ok (.getfield 20, 3) := by decide +kernel
theorem dX4_swap_4 : decode cX4_swap 4 = .ok (.iload_n 1, 1) := by decide +kernel
theorem dX4_swap_5 : decode cX4_swap 5 = .ok (.invokevirtual 55, 3) := by decide +kernel
theorem dX4_swap_8 : decode cX4_swap 8 = .ok (.ifCond .eq 14, 3) := by decide +kernel
theorem dX4_swap_11 : decode cX4_swap 11 = .ok (.aload_n 0, 1) := by decide +kernel
theorem dX4_swap_12 : decode cX4_swap 12 = .ok (.getfield 20, 3) := by decide +kernel
theorem dX4_swap_15 : decode cX4_swap 15 = .ok (.iload_n 2, 1) := by decide +kernel
theorem dX4_swap_16 : decode cX4_swap 16 = .ok (.invokevirtual 55, 3) := by decide +kernel
theorem dX4_swap_19 : decode cX4_swap 19 = .ok (.ifCond .ne 6, 3) := by decide +kernel
theorem dX4_swap_22 : decode cX4_swap 22 = .ok (.bipush (-101), 2) := by decide +kernel
theorem dX4_swap_24 : decode cX4_swap 24 = .ok (.ireturn, 1) := by decide +kernel
theorem dX4_swap_25 : decode cX4_swap 25 = .ok (.iload_n 1, 1) := by decide +kernel
theorem dX4_swap_26 : decode cX4_swap 26 = .ok (.iload_n 2, 1) := by decide +kernel
theorem dX4_swap_27 : decode cX4_swap 27 = .ok (.if_icmp .ne 6, 3) := by decide +kernel
theorem dX4_swap_30 : decode cX4_swap 30 = .ok (.bipush (-105), 2) := by decide +kernel
theorem dX4_swap_32 : decode cX4_swap 32 = .ok (.ireturn, 1) := by decide +kernel
theorem dX4_swap_33 : decode cX4_swap 33 = .ok (.aload_n 0, 1) := by decide +kernel
theorem dX4_swap_34 : decode cX4_swap 34 = .ok (.getfield 34, 3) := by decide +kernel
theorem dX4_swap_37 : decode cX4_swap 37 = .ok (.aload_n 0, 1) := by decide +kernel
theorem dX4_swap_38 : decode cX4_swap 38 = .ok (.getfield 20, 3) := by decide +kernel
theorem dX4_swap_41 : decode cX4_swap 41 = .ok (.invokevirtual 70, 3) := by decide +kernel
theorem dX4_swap_44 : decode cX4_swap 44 = .ok (.aload_n 0, 1) := by decide +kernel
theorem dX4_swap_45 : decode cX4_swap 45 = .ok (.getfield 20, 3) := by decide +kernel
theorem dX4_swap_48 : decode cX4_swap 48 = .ok (.iload_n 1, 1) := by decide +kernel
theorem dX4_swap_49 : decode cX4_swap 49 = .ok (.iload_n 2, 1) := by decide +kernel
theorem dX4_swap_50 : decode cX4_swap 50 = .ok (.invokevirtual 89, 3) := by decide +kernel
theorem dX4_swap_53 : decode cX4_swap 53 = .ok (.ireturn, 1) := by decide +kernel
theorem dX4_setPitch_0 : decode cX4_setPitch 0 = .ok (.iload_n 1, 1) := by decide +kernel
theorem dX4_setPitch_1 : decode cX4_setPitch 1 = .ok (.iconst 2, 1) := by decide +kernel
theorem dX4_setPitch_2 : decode cX4_setPitch 2 = .ok (.bipush 6, 2) := by decide +kernel
theorem dX4_setPitch_4 : decode cX4_setPitch 4 = .ok (.invokestatic 62, 3) := by decide +kernel
theorem dX4_setPitch_7 : decode cX4_setPitch 7 = .ok (.ifCond .ne 6, 3) := by decide +kernel
theorem dX4_setPitch_10 : decode cX4_setPitch 10 = .ok (.bipush (-102), 2) := by decide +kernel
theorem dX4_setPitch_12 : decode cX4_setPitch 12 = .ok (.ireturn, 1) := by decide +kernel
theorem dX4_setPitch_13 : decode cX4_setPitch 13 = .ok (.aload_n 0, 1) := by decide +kernel
theorem dX4_setPitch_14 : decode cX4_setPitch 14 = .ok (.getfield 20, 3) := by decide +kernel
theorem dX4_setPitch_17 : decode cX4_setPitch 17 = .ok (.getfield 92, 3) := by decide +kernel
theorem dX4_setPitch_20 : decode cX4_setPitch 20 = .ok (.istore_n 2, 1) := by decide +kernel
theorem dX4_setPitch_21 : decode cX4_setPitch 21 = .ok (.iload_n 2, 1) := by decide +kernel
theorem dX4_setPitch_22 : decode cX4_setPitch 22 = .ok (.iload_n 1, 1) := by decide +kernel
theorem dX4_setPitch_23 : decode cX4_setPitch 23 = .ok (.if_icmp .ne 6, 3) := by decide +kernel
theorem dX4_setPitch_26 : decode cX4_setPitch 26 = .ok (.bipush (-105), 2) := by decide +kernel
theorem dX4_setPitch_28 : decode cX4_setPitch 28 = .ok (.ireturn, 1) := by decide +kernel
theorem dX4_setPitch_29 : decode cX4_setPitch 29 = .ok (.aload_n 0, 1) := by decide +kernel
theorem dX4_setPitch_30 : decode cX4_setPitch 30 = .ok (.getfield 34, 3) := by decide +kernel
theorem dX4_setPitch_33 : decode cX4_setPitch 33 = .ok (.aload_n 0, 1) := by decide +kernel
theorem dX4_setPitch_34 : decode cX4_setPitch 34 = .ok (.getfield 20, 3) := by decide +kernel
theorem dX4_setPitch_37 : decode cX4_setPitch 37 = .ok (.invokevirtual 70, 3) := by decide +kernel
theorem dX4_setPitch_40 : decode cX4_setPitch 40 = .ok (.aload_n 0, 1) := by decide +kernel
theorem dX4_setPitch_41 : decode cX4_setPitch 41 = .ok (.getfield 20, 3) := by decide +kernel
theorem dX4_setPitch_44 : decode cX4_setPitch 44 = .ok (.iload_n 1, 1) := by decide +kernel
theorem dX4_setPitch_45 : decode cX4_setPitch 45 = .ok (.putfield 92, 3) := by decide +kernel
theorem dX4_setPitch_48 : decode cX4_setPitch 48 = .ok (.aload_n 0, 1) := by decide +kernel
theorem dX4_setPitch_49 : decode cX4_setPitch 49 = .ok (.getfield 20, 3) := by decide +kernel
theorem dX4_setPitch_52 : decode cX4_setPitch 52 = .ok (.invokevirtual 95, 3) := by decide +kernel
theorem dX4_setPitch_55 : decode cX4_setPitch 55 = .ok (.iload_n 2, 1) := by decide +kernel
theorem dX4_setPitch_56 : decode cX4_setPitch 56 = .ok (.ireturn, 1) := by decide +kernel
theorem dX4_slice_0 : decode cX4_slice 0 = .ok (.aload_n 0, 1) := by decide +kernel
theorem dX4_slice_1 : decode cX4_slice 1 = .ok (.getfield 20, 3) := by decide +kernel
theorem dX4_slice_4 : decode cX4_slice 4 = .ok (.iload_n 1, 1) := by decide +kernel
theorem dX4_slice_5 : decode cX4_slice 5 = .ok (.invokevirtual 98, 3) := by decide +kernel
theorem dX4_slice_8 : decode cX4_slice 8 = .ok (.ifCond .eq 14, 3) := by decide +kernel
theorem dX4_slice_11 : decode cX4_slice 11 = .ok (.aload_n 0, 1) := by decide +kernel
theorem dX4_slice_12 : decode cX4_slice 12 = .ok (.getfield 20, 3) := by decide +kernel
theorem dX4_slice_15 : decode cX4_slice 15 = .ok (.iload_n 2, 1) := by decide +kernel
theorem dX4_slice_16 : decode cX4_slice 16 = .ok (.invokevirtual 55, 3) := by decide +kernel
theorem dX4_slice_19 : decode cX4_slice 19 = .ok (.ifCond .ne 6, 3) := by decide +kernel
theorem dX4_slice_22 : decode cX4_slice 22 = .ok (.bipush (-101), 2) := by decide +kernel
theorem dX4_slice_24 : decode cX4_slice 24 = .ok (.ireturn, 1) := by decide +kernel
theorem dX4_slice_25 : decode cX4_slice 25 = .ok (.aload_n 0, 1) := by decide +kernel
theorem dX4_slice_26 : decode cX4_slice 26 = .ok (.getfield 20, 3) := by decide +kernel
theorem dX4_slice_29 : decode cX4_slice 29 = .ok (.iload_n 1, 1) := by decide +kernel
theorem dX4_slice_30 : decode cX4_slice 30 = .ok (.invokevirtual 101, 3) := by decide +kernel
theorem dX4_slice_33 : decode cX4_slice 33 = .ok (.istore_n 3, 1) := by decide +kernel
theorem dX4_slice_34 : decode cX4_slice 34 = .ok (.iload_n 3, 1) := by decide +kernel
theorem dX4_slice_35 : decode cX4_slice 35 = .ok (.iload_n 2, 1) := by decide +kernel
theorem dX4_slice_36 : decode cX4_slice 36 = .ok (.if_icmp .ne 6, 3) := by decide +kernel
theorem dX4_slice_39 : decode cX4_slice 39 = .ok (.bipush (-105), 2) := by decide +kernel
theorem dX4_slice_41 : decode cX4_slice 41 = .ok (.ireturn, 1) := by decide +kernel
theorem dX4_slice_42 : decode cX4_slice 42 = .ok (.aload_n 0, 1) := by decide +kernel
theorem dX4_slice_43 : decode cX4_slice 43 = .ok (.getfield 34, 3) := by decide +kernel
theorem dX4_slice_46 : decode cX4_slice 46 = .ok (.aload_n 0, 1) := by decide +kernel
theorem dX4_slice_47 : decode cX4_slice 47 = .ok (.getfield 20, 3) := by decide +kernel
theorem dX4_slice_50 : decode cX4_slice 50 = .ok (.invokevirtual 70, 3) := by decide +kernel
theorem dX4_slice_53 : decode cX4_slice 53 = .ok (.aload_n 0, 1) := by decide +kernel
theorem dX4_slice_54 : decode cX4_slice 54 = .ok (.getfield 20, 3) := by decide +kernel
theorem dX4_slice_57 : decode cX4_slice 57 = .ok (.iload_n 1, 1) := by decide +kernel
theorem dX4_slice_58 : decode cX4_slice 58 = .ok (.iload_n 2, 1) := by decide +kernel
theorem dX4_slice_59 : decode cX4_slice 59 = .ok (.invokevirtual 105, 3) := by decide +kernel
theorem dX4_slice_62 : decode cX4_slice 62 = .ok (.iload_n 3, 1) := by decide +kernel
theorem dX4_slice_63 : decode cX4_slice 63 = .ok (.ireturn, 1) := by decide +kernel
theorem dX4_setShift_0 : decode cX4_setShift 0 = .ok (.iload_n 1, 1) := by decide +kernel
theorem dX4_setShift_1 : decode cX4_setShift 1 = .ok (.bipush (-3), 2) := by decide +kernel
theorem dX4_setShift_3 : decode cX4_setShift 3 = .ok (.iconst 3, 1) := by decide +kernel
theorem dX4_setShift_4 : decode cX4_setShift 4 = .ok (.invokestatic 62, 3) := by decide +kernel
theorem dX4_setShift_7 : decode cX4_setShift 7 = .ok (.ifCond .ne 6, 3) := by decide +kernel
theorem dX4_setShift_10 : decode cX4_setShift 10 = .ok (.bipush (-102), 2) := by decide +kernel
theorem dX4_setShift_12 : decode cX4_setShift 12 = .ok (.ireturn, 1) := by decide +kernel
theorem dX4_setShift_13 : decode cX4_setShift 13 = .ok (.aload_n 0, 1) := by decide +kernel
theorem dX4_setShift_14 : decode cX4_setShift 14 = .ok (.getfield 20, 3) := by decide +kernel
theorem dX4_setShift_17 : decode cX4_setShift 17 = .ok (.getfield 109, 3) := by decide +kernel
theorem dX4_setShift_20 : decode cX4_setShift 20 = .ok (.istore_n 2, 1) := by decide +kernel
theorem dX4_setShift_21 : decode cX4_setShift 21 = .ok (.iload_n 2, 1) := by decide +kernel
theorem dX4_setShift_22 : decode cX4_setShift 22 = .ok (.iload_n 1, 1) := by decide +kernel
theorem dX4_setShift_23 : decode cX4_setShift 23 = .ok (.if_icmp .ne 6, 3) := by decide +kernel
theorem dX4_setShift_26 : decode cX4_setShift 26 = .ok (.bipush (-105), 2) := by decide +kernel
theorem dX4_setShift_28 : decode cX4_setShift 28 = .ok (.ireturn, 1) := by decide +kernel
theorem dX4_setShift_29 : decode cX4_setShift 29 = .ok (.aload_n 0, 1) := by decide +kernel
theorem dX4_setShift_30 : decode cX4_setShift 30 = .ok (.getfield 34, 3) := by decide +kernel
theorem dX4_setShift_33 : decode cX4_setShift 33 = .ok (.aload_n 0, 1) := by decide +kernel
theorem dX4_setShift_34 : decode cX4_setShift 34 = .ok (.getfield 20, 3) := by decide +kernel
theorem dX4_setShift_37 : decode cX4_setShift 37 = .ok (.invokevirtual 70, 3) := by decide +kernel
theorem dX4_setShift_40 : decode cX4_setShift 40 = .ok (.aload_n 0, 1) := by decide +kernel
theorem dX4_setShift_41 : decode cX4_setShift 41 = .ok (.getfield 20, 3) := by decide +kernel
theorem dX4_setShift_44 : decode cX4_setShift 44 = .ok (.iload_n 1, 1) := by decide +kernel
theorem dX4_setShift_45 : decode cX4_setShift 45 = .ok (.putfield 109, 3) := by decide +kernel
theorem dX4_setShift_48 : decode cX4_setShift 48 = .ok (.iload_n 2, 1) := by decide +kernel
theorem dX4_setShift_49 : decode cX4_setShift 49 = .ok (.ireturn, 1) := by decide +kernel
theorem dX4_setLean_0 : decode cX4_setLean 0 = .ok (.iload_n 1, 1) := by decide +kernel
theorem dX4_setLean_1 : decode cX4_setLean 1 = .ok (.iconst 0, 1) := by decide +kernel
theorem dX4_setLean_2 : decode cX4_setLean 2 = .ok (.iconst 3, 1) := by decide +kernel
theorem dX4_setLean_3 : decode cX4_setLean 3 = .ok (.invokestatic 62, 3) := by decide +kernel
theorem dX4_setLean_6 : decode cX4_setLean 6 = .ok (.ifCond .ne 6, 3) := by decide +kernel
theorem dX4_setLean_9 : decode cX4_setLean 9 = .ok (.bipush (-102), 2) := by decide +kernel
theorem dX4_setLean_11 : decode cX4_setLean 11 = .ok (.ireturn, 1) := by decide +kernel
theorem dX4_setLean_12 : decode cX4_setLean 12 = .ok (.aload_n 0, 1) := by decide +kernel
theorem dX4_setLean_13 : decode cX4_setLean 13 = .ok (.getfield 20, 3) := by decide +kernel
theorem dX4_setLean_16 : decode cX4_setLean 16 = .ok (.getfield 112, 3) := by decide +kernel
theorem dX4_setLean_19 : decode cX4_setLean 19 = .ok (.istore_n 2, 1) := by decide +kernel
theorem dX4_setLean_20 : decode cX4_setLean 20 = .ok (.iload_n 2, 1) := by decide +kernel
theorem dX4_setLean_21 : decode cX4_setLean 21 = .ok (.iload_n 1, 1) := by decide +kernel
theorem dX4_setLean_22 : decode cX4_setLean 22 = .ok (.if_icmp .ne 6, 3) := by decide +kernel
theorem dX4_setLean_25 : decode cX4_setLean 25 = .ok (.bipush (-105), 2) := by decide +kernel
theorem dX4_setLean_27 : decode cX4_setLean 27 = .ok (.ireturn, 1) := by decide +kernel
theorem dX4_setLean_28 : decode cX4_setLean 28 = .ok (.aload_n 0, 1) := by decide +kernel
theorem dX4_setLean_29 : decode cX4_setLean 29 = .ok (.getfield 34, 3) := by decide +kernel
theorem dX4_setLean_32 : decode cX4_setLean 32 = .ok (.aload_n 0, 1) := by decide +kernel
theorem dX4_setLean_33 : decode cX4_setLean 33 = .ok (.getfield 20, 3) := by decide +kernel
theorem dX4_setLean_36 : decode cX4_setLean 36 = .ok (.invokevirtual 70, 3) := by decide +kernel
theorem dX4_setLean_39 : decode cX4_setLean 39 = .ok (.aload_n 0, 1) := by decide +kernel
theorem dX4_setLean_40 : decode cX4_setLean 40 = .ok (.getfield 20, 3) := by decide +kernel
theorem dX4_setLean_43 : decode cX4_setLean 43 = .ok (.iload_n 1, 1) := by decide +kernel
theorem dX4_setLean_44 : decode cX4_setLean 44 = .ok (.putfield 112, 3) := by decide +kernel
theorem dX4_setLean_47 : decode cX4_setLean 47 = .ok (.iload_n 2, 1) := by decide +kernel
theorem dX4_setLean_48 : decode cX4_setLean 48 = .ok (.ireturn, 1) := by decide +kernel
theorem dX4_read_0 : decode cX4_read 0 = .ok (.aload_n 0, 1) := by decide +kernel
theorem dX4_read_1 : decode cX4_read 1 = .ok (.getfield 51, 3) := by decide +kernel
theorem dX4_read_4 : decode cX4_read 4 = .ok (.invokevirtual 134, 3) := by decide +kernel
theorem dX4_read_7 : decode cX4_read 7 = .ok (.istore_n 1, 1) := by decide +kernel
theorem dX4_read_8 : decode cX4_read 8 = .ok (.iload_n 1, 1) := by decide +kernel
theorem dX4_read_9 : decode cX4_read 9 = .ok (.iconst (-1), 1) := by decide +kernel
theorem dX4_read_10 : decode cX4_read 10 = .ok (.if_icmp .eq 9, 3) := by decide +kernel
theorem dX4_read_13 : decode cX4_read 13 = .ok (.sipush (-200), 3) := by decide +kernel
theorem dX4_read_16 : decode cX4_read 16 = .ok (.iload_n 1, 1) := by decide +kernel
theorem dX4_read_17 : decode cX4_read 17 = .ok (.isub, 1) := by decide +kernel
theorem dX4_read_18 : decode cX4_read 18 = .ok (.ireturn, 1) := by decide +kernel
theorem dX4_read_19 : decode cX4_read 19 = .ok (.aload_n 0, 1) := by decide +kernel
theorem dX4_read_20 : decode cX4_read 20 = .ok (.getfield 34, 3) := by decide +kernel
theorem dX4_read_23 : decode cX4_read 23 = .ok (.aload_n 0, 1) := by decide +kernel
theorem dX4_read_24 : decode cX4_read 24 = .ok (.getfield 20, 3) := by decide +kernel
theorem dX4_read_27 : decode cX4_read 27 = .ok (.invokevirtual 70, 3) := by decide +kernel
theorem dX4_read_30 : decode cX4_read 30 = .ok (.aload_n 0, 1) := by decide +kernel
theorem dX4_read_31 : decode cX4_read 31 = .ok (.getfield 51, 3) := by decide +kernel
theorem dX4_read_34 : decode cX4_read 34 = .ok (.aload_n 0, 1) := by decide +kernel
theorem dX4_read_35 : decode cX4_read 35 = .ok (.getfield 20, 3) := by decide +kernel
theorem dX4_read_38 : decode cX4_read 38 = .ok (.invokevirtual 137, 3) := by decide +kernel
theorem dX4_read_41 : decode cX4_read 41 = .ok (.aload_n 0, 1) := by decide +kernel
theorem dX4_read_42 : decode cX4_read 42 = .ok (.getfield 20, 3) := by decide +kernel
theorem dX4_read_45 : decode cX4_read 45 = .ok (.getfield 78, 3) := by decide +kernel
theorem dX4_read_48 : decode cX4_read 48 = .ok (.ireturn, 1) := by decide +kernel
theorem dX4_press_0 : decode cX4_press 0 = .ok (.iload_n 1, 1) := by decide +kernel
theorem dX4_press_1 : decode cX4_press 1 = .ok (.iconst 1, 1) := by decide +kernel
theorem dX4_press_2 : decode cX4_press 2 = .ok (.sipush 999, 3) := by decide +kernel
theorem dX4_press_5 : decode cX4_press 5 = .ok (.invokestatic 62, 3) := by decide +kernel
theorem dX4_press_8 : decode cX4_press 8 = .ok (.ifCond .ne 6, 3) := by decide +kernel
theorem dX4_press_11 : decode cX4_press 11 = .ok (.bipush (-102), 2) := by decide +kernel
theorem dX4_press_13 : decode cX4_press 13 = .ok (.ireturn, 1) := by decide +kernel
theorem dX4_press_14 : decode cX4_press 14 = .ok (.aload_n 0, 1) := by decide +kernel
theorem dX4_press_15 : decode cX4_press 15 = .ok (.getfield 20, 3) := by decide +kernel
theorem dX4_press_18 : decode cX4_press 18 = .ok (.getfield 140, 3) := by decide +kernel
theorem dX4_press_21 : decode cX4_press 21 = .ok (.iload_n 1, 1) := by decide +kernel
theorem dX4_press_22 : decode cX4_press 22 = .ok (.iadd, 1) := by decide +kernel
theorem dX4_press_23 : decode cX4_press 23 = .ok (.ldc 143, 2) := by decide +kernel
theorem dX4_press_25 : decode cX4_press 25 = .ok (.if_icmp .le 6, 3) := by decide +kernel
theorem dX4_press_28 : decode cX4_press 28 = .ok (.bipush (-103), 2) := by decide +kernel
theorem dX4_press_30 : decode cX4_press 30 = .ok (.ireturn, 1) := by decide +kernel
theorem dX4_press_31 : decode cX4_press 31 = .ok (.aload_n 0, 1) := by decide +kernel
theorem dX4_press_32 : decode cX4_press 32 = .ok (.invokevirtual 126, 3) := by decide +kernel
theorem dX4_press_35 : decode cX4_press 35 = .ok (.invokevirtual 144, 3) := by decide +kernel
theorem dX4_press_38 : decode cX4_press 38 = .ok (.aload_n 0, 1) := by decide +kernel
theorem dX4_press_39 : decode cX4_press 39 = .ok (.getfield 20, 3) := by decide +kernel
theorem dX4_press_42 : decode cX4_press 42 = .ok (.getfield 78, 3) := by decide +kernel
theorem dX4_press_45 : decode cX4_press 45 = .ok (.if_icmp .ne 7, 3) := by decide +kernel
theorem dX4_press_48 : decode cX4_press 48 = .ok (.iload_n 1, 1) := by decide +kernel
theorem dX4_press_49 : decode cX4_press 49 = .ok (.goto 4, 3) := by decide +kernel
theorem dX4_press_52 : decode cX4_press 52 = .ok (.iconst 0, 1) := by decide +kernel
theorem dX4_press_53 : decode cX4_press 53 = .ok (.istore_n 2, 1) := by decide +kernel
theorem dX4_press_54 : decode cX4_press 54 = .ok (.aload_n 0, 1) := by decide +kernel
theorem dX4_press_55 : decode cX4_press 55 = .ok (.getfield 34, 3) := by decide +kernel
theorem dX4_press_58 : decode cX4_press 58 = .ok (.aload_n 0, 1) := by decide +kernel
theorem dX4_press_59 : decode cX4_press 59 = .ok (.getfield 20, 3) := by decide +kernel
theorem dX4_press_62 : decode cX4_press 62 = .ok (.invokevirtual 70, 3) := by decide +kernel
theorem dX4_press_65 : decode cX4_press 65 = .ok (.aload_n 0, 1) := by decide +kernel
theorem dX4_press_66 : decode cX4_press 66 = .ok (.getfield 20, 3) := by decide +kernel
theorem dX4_press_69 : decode cX4_press 69 = .ok (.dup, 1) := by decide +kernel
theorem dX4_press_70 : decode cX4_press 70 = .ok (.getfield 140, 3) := by decide +kernel
theorem dX4_press_73 : decode cX4_press 73 = .ok (.iload_n 1, 1) := by decide +kernel
theorem dX4_press_74 : decode cX4_press 74 = .ok (.iadd, 1) := by decide +kernel
theorem dX4_press_75 : decode cX4_press 75 = .ok (.putfield 140, 3) := by decide +kernel
theorem dX4_press_78 : decode cX4_press 78 = .ok (.aload_n 0, 1) := by decide +kernel
theorem dX4_press_79 : decode cX4_press 79 = .ok (.getfield 20, 3) := by decide +kernel
theorem dX4_press_82 : decode cX4_press 82 = .ok (.dup, 1) := by decide +kernel
theorem dX4_press_83 : decode cX4_press 83 = .ok (.getfield 147, 3) := by decide +kernel
theorem dX4_press_86 : decode cX4_press 86 = .ok (.iload_n 2, 1) := by decide +kernel
theorem dX4_press_87 : decode cX4_press 87 = .ok (.iadd, 1) := by decide +kernel
theorem dX4_press_88 : decode cX4_press 88 = .ok (.putfield 147, 3) := by decide +kernel
theorem dX4_press_91 : decode cX4_press 91 = .ok (.aload_n 0, 1) := by decide +kernel
theorem dX4_press_92 : decode cX4_press 92 = .ok (.getfield 20, 3) := by decide +kernel
theorem dX4_press_95 : decode cX4_press 95 = .ok (.dup, 1) := by decide +kernel
theorem dX4_press_96 : decode cX4_press 96 = .ok (.getfield 150, 3) := by decide +kernel
theorem dX4_press_99 : decode cX4_press 99 = .ok (.iload_n 1, 1) := by decide +kernel
theorem dX4_press_100 : decode cX4_press 100 = .ok (.iconst 3, 1) := by decide +kernel
theorem dX4_press_101 : decode cX4_press 101 = .ok (.aload_n 0, 1) := by decide +kernel
theorem dX4_press_102 : decode cX4_press 102 = .ok (.getfield 20, 3) := by decide +kernel
theorem dX4_press_105 : decode cX4_press 105 = .ok (.getfield 92, 3) := by decide +kernel
theorem dX4_press_108 : decode cX4_press 108 = .ok (.iadd, 1) := by decide +kernel
theorem dX4_press_109 : decode cX4_press 109 = .ok (.imul, 1) := by decide +kernel
theorem dX4_press_110 : decode cX4_press 110 = .ok (.iadd, 1) := by decide +kernel
theorem dX4_press_111 : decode cX4_press 111 = .ok (.putfield 150, 3) := by decide +kernel
theorem dX4_press_114 : decode cX4_press 114 = .ok (.iload_n 2, 1) := by decide +kernel
theorem dX4_press_115 : decode cX4_press 115 = .ok (.ireturn, 1) := by decide +kernel
theorem dX4_type_0 : decode cX4_type 0 = .ok (.aload_n 0, 1) := by decide +kernel
theorem dX4_type_1 : decode cX4_type 1 = .ok (.getfield 51, 3) := by decide +kernel
theorem dX4_type_4 : decode cX4_type 4 = .ok (.invokevirtual 153, 3) := by decide +kernel
theorem dX4_type_7 : decode cX4_type 7 = .ok (.ifCond .eq 6, 3) := by decide +kernel
theorem dX4_type_10 : decode cX4_type 10 = .ok (.bipush (-103), 2) := by decide +kernel
theorem dX4_type_12 : decode cX4_type 12 = .ok (.ireturn, 1) := by decide +kernel
theorem dX4_type_13 : decode cX4_type 13 = .ok (.aload_n 0, 1) := by decide +kernel
theorem dX4_type_14 : decode cX4_type 14 = .ok (.getfield 51, 3) := by decide +kernel
theorem dX4_type_17 : decode cX4_type 17 = .ok (.iload_n 1, 1) := by decide +kernel
theorem dX4_type_18 : decode cX4_type 18 = .ok (.invokevirtual 157, 3) := by decide +kernel
theorem dX4_type_21 : decode cX4_type 21 = .ok (.aload_n 0, 1) := by decide +kernel
theorem dX4_type_22 : decode cX4_type 22 = .ok (.getfield 51, 3) := by decide +kernel
theorem dX4_type_25 : decode cX4_type 25 = .ok (.getfield 161, 3) := by decide +kernel
theorem dX4_type_28 : decode cX4_type 28 = .ok (.ireturn, 1) := by decide +kernel
theorem dX4_clearText_0 : decode cX4_clearText 0 = .ok (.aload_n 0, 1) := by decide +kernel
theorem dX4_clearText_1 : decode cX4_clearText 1 = .ok (.getfield 51, 3) := by decide +kernel
theorem dX4_clearText_4 : decode cX4_clearText 4 = .ok (.getfield 161, 3) := by decide +kernel
theorem dX4_clearText_7 : decode cX4_clearText 7 = .ok (.istore_n 1, 1) := by decide +kernel
theorem dX4_clearText_8 : decode cX4_clearText 8 = .ok (.aload_n 0, 1) := by decide +kernel
theorem dX4_clearText_9 : decode cX4_clearText 9 = .ok (.getfield 51, 3) := by decide +kernel
theorem dX4_clearText_12 : decode cX4_clearText 12 = .ok (.invokevirtual 164, 3) := by decide +kernel
theorem dX4_clearText_15 : decode cX4_clearText 15 = .ok (.iload_n 1, 1) := by decide +kernel
theorem dX4_clearText_16 : decode cX4_clearText 16 = .ok (.ireturn, 1) := by decide +kernel
theorem dX4_colourOf_0 : decode cX4_colourOf 0 = .ok (.aload_n 0, 1) := by decide +kernel
theorem dX4_colourOf_1 : decode cX4_colourOf 1 = .ok (.getfield 20, 3) := by decide +kernel
theorem dX4_colourOf_4 : decode cX4_colourOf 4 = .ok (.iload_n 1, 1) := by decide +kernel
theorem dX4_colourOf_5 : decode cX4_colourOf 5 = .ok (.invokevirtual 55, 3) := by decide +kernel
theorem dX4_colourOf_8 : decode cX4_colourOf 8 = .ok (.ifCond .eq 10, 3) := by decide +kernel
theorem dX4_colourOf_11 : decode cX4_colourOf 11 = .ok (.iload_n 2, 1) := by decide +kernel
theorem dX4_colourOf_12 : decode cX4_colourOf 12 = .ok (.invokestatic 59, 3) := by decide +kernel
theorem dX4_colourOf_15 : decode cX4_colourOf 15 = .ok (.ifCond .ne 6, 3) := by decide +kernel
theorem dX4_colourOf_18 : decode cX4_colourOf 18 = .ok (.bipush (-101), 2) := by decide +kernel
theorem dX4_colourOf_20 : decode cX4_colourOf 20 = .ok (.ireturn, 1) := by decide +kernel
theorem dX4_colourOf_21 : decode cX4_colourOf 21 = .ok (.aload_n 0, 1) := by decide +kernel
theorem dX4_colourOf_22 : decode cX4_colourOf 22 = .ok (.getfield 20, 3) := by decide +kernel
theorem dX4_colourOf_25 : decode cX4_colourOf 25 = .ok (.iload_n 1, 1) := by decide +kernel
theorem dX4_colourOf_26 : decode cX4_colourOf 26 = .ok (.iload_n 2, 1) := by decide +kernel
theorem dX4_colourOf_27 : decode cX4_colourOf 27 = .ok (.invokevirtual 66, 3) := by decide +kernel
theorem dX4_colourOf_30 : decode cX4_colourOf 30 = .ok (.ireturn, 1) := by decide +kernel
theorem dX4_viewOf_0 : decode cX4_viewOf 0 = .ok (.aload_n 0, 1) := by decide +kernel
theorem dX4_viewOf_1 : decode cX4_viewOf 1 = .ok (.getfield 20, 3) := by decide +kernel
theorem dX4_viewOf_4 : decode cX4_viewOf 4 = .ok (.iload_n 1, 1) := by decide +kernel
theorem dX4_viewOf_5 : decode cX4_viewOf 5 = .ok (.invokevirtual 98, 3) := by decide +kernel
theorem dX4_viewOf_8 : decode cX4_viewOf 8 = .ok (.ifCond .ne 6, 3) := by decide +kernel
theorem dX4_viewOf_11 : decode cX4_viewOf 11 = .ok (.bipush (-101), 2) := by decide +kernel
theorem dX4_viewOf_13 : decode cX4_viewOf 13 = .ok (.ireturn, 1) := by decide +kernel
theorem dX4_viewOf_14 : decode cX4_viewOf 14 = .ok (.aload_n 0, 1) := by decide +kernel
theorem dX4_viewOf_15 : decode cX4_viewOf 15 = .ok (.getfield 20, 3) := by decide +kernel
theorem dX4_viewOf_18 : decode cX4_viewOf 18 = .ok (.iload_n 1, 1) := by decide +kernel
theorem dX4_viewOf_19 : decode cX4_viewOf 19 = .ok (.invokevirtual 101, 3) := by decide +kernel
theorem dX4_viewOf_22 : decode cX4_viewOf 22 = .ok (.ireturn, 1) := by decide +kernel
theorem dX4_behind_0 : decode cX4_behind 0 = .ok (.iload_n 1, 1) := by decide +kernel
theorem dX4_behind_1 : decode cX4_behind 1 = .ok (.invokestatic 59, 3) := by decide +kernel
theorem dX4_behind_4 : decode cX4_behind 4 = .ok (.ifCond .eq 14, 3) := by decide +kernel
theorem dX4_behind_7 : decode cX4_behind 7 = .ok (.aload_n 0, 1) := by decide +kernel
theorem dX4_behind_8 : decode cX4_behind 8 = .ok (.getfield 20, 3) := by decide +kernel
theorem dX4_behind_11 : decode cX4_behind 11 = .ok (.iload_n 2, 1) := by decide +kernel
theorem dX4_behind_12 : decode cX4_behind 12 = .ok (.invokevirtual 98, 3) := by decide +kernel
theorem dX4_behind_15 : decode cX4_behind 15 = .ok (.ifCond .ne 6, 3) := by decide +kernel
theorem dX4_behind_18 : decode cX4_behind 18 = .ok (.bipush (-101), 2) := by decide +kernel
theorem dX4_behind_20 : decode cX4_behind 20 = .ok (.ireturn, 1) := by decide +kernel
theorem dX4_behind_21 : decode cX4_behind 21 = .ok (.iload_n 3, 1) := by decide +kernel
theorem dX4_behind_22 : decode cX4_behind 22 = .ok (.tableswitch 65 0 2 #[26, 39, 52], 26) := by decide +kernel
theorem dX4_behind_48 : decode cX4_behind 48 = .ok (.aload_n 0, 1) := by decide +kernel
theorem dX4_behind_49 : decode cX4_behind 49 = .ok (.getfield 20, 3) := by decide +kernel
theorem dX4_behind_52 : decode cX4_behind 52 = .ok (.iload_n 1, 1) := by decide +kernel
theorem dX4_behind_53 : decode cX4_behind 53 = .ok (.iload_n 2, 1) := by decide +kernel
theorem dX4_behind_54 : decode cX4_behind 54 = .ok (.invokevirtual 176, 3) := by decide +kernel
theorem dX4_behind_57 : decode cX4_behind 57 = .ok (.invokestatic 179, 3) := by decide +kernel
theorem dX4_behind_60 : decode cX4_behind 60 = .ok (.ireturn, 1) := by decide +kernel
theorem dX4_behind_61 : decode cX4_behind 61 = .ok (.aload_n 0, 1) := by decide +kernel
theorem dX4_behind_62 : decode cX4_behind 62 = .ok (.getfield 20, 3) := by decide +kernel
theorem dX4_behind_65 : decode cX4_behind 65 = .ok (.iload_n 1, 1) := by decide +kernel
theorem dX4_behind_66 : decode cX4_behind 66 = .ok (.iload_n 2, 1) := by decide +kernel
theorem dX4_behind_67 : decode cX4_behind 67 = .ok (.invokevirtual 182, 3) := by decide +kernel
theorem dX4_behind_70 : decode cX4_behind 70 = .ok (.invokestatic 179, 3) := by decide +kernel
theorem dX4_behind_73 : decode cX4_behind 73 = .ok (.ireturn, 1) := by decide +kernel
theorem dX4_behind_74 : decode cX4_behind 74 = .ok (.aload_n 0, 1) := by decide +kernel
theorem dX4_behind_75 : decode cX4_behind 75 = .ok (.getfield 20, 3) := by decide +kernel
theorem dX4_behind_78 : decode cX4_behind 78 = .ok (.iload_n 1, 1) := by decide +kernel
theorem dX4_behind_79 : decode cX4_behind 79 = .ok (.iload_n 2, 1) := by decide +kernel
theorem dX4_behind_80 : decode cX4_behind 80 = .ok (.invokevirtual 185, 3) := by decide +kernel
theorem dX4_behind_83 : decode cX4_behind 83 = .ok (.invokestatic 179, 3) := by decide +kernel
theorem dX4_behind_86 : decode cX4_behind 86 = .ok (.ireturn, 1) := by decide +kernel
theorem dX4_behind_87 : decode cX4_behind 87 = .ok (.bipush (-102), 2) := by decide +kernel
theorem dX4_behind_89 : decode cX4_behind 89 = .ok (.ireturn, 1) := by decide +kernel
theorem dX4_seen_0 : decode cX4_seen 0 = .ok (.iload_n 1, 1) := by decide +kernel
theorem dX4_seen_1 : decode cX4_seen 1 = .ok (.invokestatic 188, 3) := by decide +kernel
theorem dX4_seen_4 : decode cX4_seen 4 = .ok (.ifCond .eq 10, 3) := by decide +kernel
theorem dX4_seen_7 : decode cX4_seen 7 = .ok (.iload_n 2, 1) := by decide +kernel
theorem dX4_seen_8 : decode cX4_seen 8 = .ok (.invokestatic 59, 3) := by decide +kernel
theorem dX4_seen_11 : decode cX4_seen 11 = .ok (.ifCond .ne 6, 3) := by decide +kernel
theorem dX4_seen_14 : decode cX4_seen 14 = .ok (.bipush (-101), 2) := by decide +kernel
theorem dX4_seen_16 : decode cX4_seen 16 = .ok (.ireturn, 1) := by decide +kernel
theorem dX4_seen_17 : decode cX4_seen 17 = .ok (.aload_n 0, 1) := by decide +kernel
theorem dX4_seen_18 : decode cX4_seen 18 = .ok (.getfield 20, 3) := by decide +kernel
theorem dX4_seen_21 : decode cX4_seen 21 = .ok (.iload_n 1, 1) := by decide +kernel
