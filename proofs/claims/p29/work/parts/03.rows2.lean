theorem dX4_seen_22 : decode cX4_seen 22 = .ok (.invokevirtual 191, 3) := by decide +kernel
theorem dX4_seen_25 : decode cX4_seen 25 = .ok (.istore 4, 2) := by decide +kernel
theorem dX4_seen_27 : decode cX4_seen 27 = .ok (.aload_n 0, 1) := by decide +kernel
theorem dX4_seen_28 : decode cX4_seen 28 = .ok (.getfield 20, 3) := by decide +kernel
theorem dX4_seen_31 : decode cX4_seen 31 = .ok (.iload 4, 2) := by decide +kernel
theorem dX4_seen_33 : decode cX4_seen 33 = .ok (.iload_n 2, 1) := by decide +kernel
theorem dX4_seen_34 : decode cX4_seen 34 = .ok (.invokevirtual 194, 3) := by decide +kernel
theorem dX4_seen_37 : decode cX4_seen 37 = .ok (.istore 5, 2) := by decide +kernel
theorem dX4_seen_39 : decode cX4_seen 39 = .ok (.iload_n 3, 1) := by decide +kernel
theorem dX4_seen_40 : decode cX4_seen 40 = .ok (.tableswitch 82 0 3 #[32, 46, 60, 63], 32) := by decide +kernel
theorem dX4_seen_72 : decode cX4_seen 72 = .ok (.aload_n 0, 1) := by decide +kernel
theorem dX4_seen_73 : decode cX4_seen 73 = .ok (.getfield 20, 3) := by decide +kernel
theorem dX4_seen_76 : decode cX4_seen 76 = .ok (.iload_n 2, 1) := by decide +kernel
theorem dX4_seen_77 : decode cX4_seen 77 = .ok (.iload 5, 2) := by decide +kernel
theorem dX4_seen_79 : decode cX4_seen 79 = .ok (.invokevirtual 176, 3) := by decide +kernel
theorem dX4_seen_82 : decode cX4_seen 82 = .ok (.invokestatic 179, 3) := by decide +kernel
theorem dX4_seen_85 : decode cX4_seen 85 = .ok (.ireturn, 1) := by decide +kernel
theorem dX4_seen_86 : decode cX4_seen 86 = .ok (.aload_n 0, 1) := by decide +kernel
theorem dX4_seen_87 : decode cX4_seen 87 = .ok (.getfield 20, 3) := by decide +kernel
theorem dX4_seen_90 : decode cX4_seen 90 = .ok (.iload_n 2, 1) := by decide +kernel
theorem dX4_seen_91 : decode cX4_seen 91 = .ok (.iload 5, 2) := by decide +kernel
theorem dX4_seen_93 : decode cX4_seen 93 = .ok (.invokevirtual 182, 3) := by decide +kernel
theorem dX4_seen_96 : decode cX4_seen 96 = .ok (.invokestatic 179, 3) := by decide +kernel
theorem dX4_seen_99 : decode cX4_seen 99 = .ok (.ireturn, 1) := by decide +kernel
theorem dX4_seen_100 : decode cX4_seen 100 = .ok (.iload 5, 2) := by decide +kernel
theorem dX4_seen_102 : decode cX4_seen 102 = .ok (.ireturn, 1) := by decide +kernel
theorem dX4_seen_103 : decode cX4_seen 103 = .ok (.aload_n 0, 1) := by decide +kernel
theorem dX4_seen_104 : decode cX4_seen 104 = .ok (.invokevirtual 126, 3) := by decide +kernel
theorem dX4_seen_107 : decode cX4_seen 107 = .ok (.iload 4, 2) := by decide +kernel
theorem dX4_seen_109 : decode cX4_seen 109 = .ok (.iload_n 2, 1) := by decide +kernel
theorem dX4_seen_110 : decode cX4_seen 110 = .ok (.invokevirtual 197, 3) := by decide +kernel
theorem dX4_seen_113 : decode cX4_seen 113 = .ok (.ifCond .eq 7, 3) := by decide +kernel
theorem dX4_seen_116 : decode cX4_seen 116 = .ok (.iconst 1, 1) := by decide +kernel
theorem dX4_seen_117 : decode cX4_seen 117 = .ok (.goto 4, 3) := by decide +kernel
theorem dX4_seen_120 : decode cX4_seen 120 = .ok (.iconst 0, 1) := by decide +kernel
theorem dX4_seen_121 : decode cX4_seen 121 = .ok (.ireturn, 1) := by decide +kernel
theorem dX4_seen_122 : decode cX4_seen 122 = .ok (.bipush (-102), 2) := by decide +kernel
theorem dX4_seen_124 : decode cX4_seen 124 = .ok (.ireturn, 1) := by decide +kernel
theorem dX4_at_0 : decode cX4_at 0 = .ok (.iload_n 1, 1) := by decide +kernel
theorem dX4_at_1 : decode cX4_at 1 = .ok (.invokestatic 188, 3) := by decide +kernel
theorem dX4_at_4 : decode cX4_at 4 = .ok (.ifCond .ne 6, 3) := by decide +kernel
theorem dX4_at_7 : decode cX4_at 7 = .ok (.bipush (-101), 2) := by decide +kernel
theorem dX4_at_9 : decode cX4_at 9 = .ok (.ireturn, 1) := by decide +kernel
theorem dX4_at_10 : decode cX4_at 10 = .ok (.aload_n 0, 1) := by decide +kernel
theorem dX4_at_11 : decode cX4_at 11 = .ok (.getfield 20, 3) := by decide +kernel
theorem dX4_at_14 : decode cX4_at 14 = .ok (.iload_n 1, 1) := by decide +kernel
theorem dX4_at_15 : decode cX4_at 15 = .ok (.invokevirtual 191, 3) := by decide +kernel
theorem dX4_at_18 : decode cX4_at 18 = .ok (.istore_n 3, 1) := by decide +kernel
theorem dX4_at_19 : decode cX4_at 19 = .ok (.aload_n 0, 1) := by decide +kernel
theorem dX4_at_20 : decode cX4_at 20 = .ok (.invokevirtual 126, 3) := by decide +kernel
theorem dX4_at_23 : decode cX4_at 23 = .ok (.pop, 1) := by decide +kernel
theorem dX4_at_24 : decode cX4_at 24 = .ok (.iload_n 2, 1) := by decide +kernel
theorem dX4_at_25 : decode cX4_at 25 = .ok (.tableswitch 87 0 4 #[35, 44, 56, 68, 77], 35) := by decide +kernel
theorem dX4_at_60 : decode cX4_at 60 = .ok (.aload_n 0, 1) := by decide +kernel
theorem dX4_at_61 : decode cX4_at 61 = .ok (.getfield 10, 3) := by decide +kernel
theorem dX4_at_64 : decode cX4_at 64 = .ok (.iload_n 3, 1) := by decide +kernel
theorem dX4_at_65 : decode cX4_at 65 = .ok (.invokevirtual 201, 3) := by decide +kernel
theorem dX4_at_68 : decode cX4_at 68 = .ok (.ireturn, 1) := by decide +kernel
theorem dX4_at_69 : decode cX4_at 69 = .ok (.aload_n 0, 1) := by decide +kernel
theorem dX4_at_70 : decode cX4_at 70 = .ok (.getfield 10, 3) := by decide +kernel
theorem dX4_at_73 : decode cX4_at 73 = .ok (.iload_n 3, 1) := by decide +kernel
theorem dX4_at_74 : decode cX4_at 74 = .ok (.invokevirtual 204, 3) := by decide +kernel
theorem dX4_at_77 : decode cX4_at 77 = .ok (.invokestatic 179, 3) := by decide +kernel
theorem dX4_at_80 : decode cX4_at 80 = .ok (.ireturn, 1) := by decide +kernel
theorem dX4_at_81 : decode cX4_at 81 = .ok (.aload_n 0, 1) := by decide +kernel
theorem dX4_at_82 : decode cX4_at 82 = .ok (.getfield 10, 3) := by decide +kernel
theorem dX4_at_85 : decode cX4_at 85 = .ok (.iload_n 3, 1) := by decide +kernel
theorem dX4_at_86 : decode cX4_at 86 = .ok (.invokevirtual 207, 3) := by decide +kernel
theorem dX4_at_89 : decode cX4_at 89 = .ok (.invokestatic 179, 3) := by decide +kernel
theorem dX4_at_92 : decode cX4_at 92 = .ok (.ireturn, 1) := by decide +kernel
theorem dX4_at_93 : decode cX4_at 93 = .ok (.aload_n 0, 1) := by decide +kernel
theorem dX4_at_94 : decode cX4_at 94 = .ok (.getfield 10, 3) := by decide +kernel
theorem dX4_at_97 : decode cX4_at 97 = .ok (.iload_n 3, 1) := by decide +kernel
theorem dX4_at_98 : decode cX4_at 98 = .ok (.invokevirtual 210, 3) := by decide +kernel
theorem dX4_at_101 : decode cX4_at 101 = .ok (.ireturn, 1) := by decide +kernel
theorem dX4_at_102 : decode cX4_at 102 = .ok (.aload_n 0, 1) := by decide +kernel
theorem dX4_at_103 : decode cX4_at 103 = .ok (.getfield 10, 3) := by decide +kernel
theorem dX4_at_106 : decode cX4_at 106 = .ok (.iload_n 3, 1) := by decide +kernel
theorem dX4_at_107 : decode cX4_at 107 = .ok (.iconst (-1), 1) := by decide +kernel
theorem dX4_at_108 : decode cX4_at 108 = .ok (.invokevirtual 213, 3) := by decide +kernel
theorem dX4_at_111 : decode cX4_at 111 = .ok (.ireturn, 1) := by decide +kernel
theorem dX4_at_112 : decode cX4_at 112 = .ok (.bipush (-102), 2) := by decide +kernel
theorem dX4_at_114 : decode cX4_at 114 = .ok (.ireturn, 1) := by decide +kernel
theorem dX4_view_0 : decode cX4_view 0 = .ok (.aload_n 0, 1) := by decide +kernel
theorem dX4_view_1 : decode cX4_view 1 = .ok (.getfield 20, 3) := by decide +kernel
theorem dX4_view_4 : decode cX4_view 4 = .ok (.iload_n 1, 1) := by decide +kernel
theorem dX4_view_5 : decode cX4_view 5 = .ok (.invokevirtual 55, 3) := by decide +kernel
theorem dX4_view_8 : decode cX4_view 8 = .ok (.ifCond .ne 6, 3) := by decide +kernel
theorem dX4_view_11 : decode cX4_view 11 = .ok (.bipush (-101), 2) := by decide +kernel
theorem dX4_view_13 : decode cX4_view 13 = .ok (.ireturn, 1) := by decide +kernel
theorem dX4_view_14 : decode cX4_view 14 = .ok (.aload_n 0, 1) := by decide +kernel
theorem dX4_view_15 : decode cX4_view 15 = .ok (.invokevirtual 126, 3) := by decide +kernel
theorem dX4_view_18 : decode cX4_view 18 = .ok (.pop, 1) := by decide +kernel
theorem dX4_view_19 : decode cX4_view 19 = .ok (.iload_n 2, 1) := by decide +kernel
theorem dX4_view_20 : decode cX4_view 20 = .ok (.tableswitch 83 0 3 #[32, 41, 50, 59], 32) := by decide +kernel
theorem dX4_view_52 : decode cX4_view 52 = .ok (.aload_n 0, 1) := by decide +kernel
theorem dX4_view_53 : decode cX4_view 53 = .ok (.getfield 20, 3) := by decide +kernel
theorem dX4_view_56 : decode cX4_view 56 = .ok (.iload_n 1, 1) := by decide +kernel
theorem dX4_view_57 : decode cX4_view 57 = .ok (.invokevirtual 216, 3) := by decide +kernel
theorem dX4_view_60 : decode cX4_view 60 = .ok (.ireturn, 1) := by decide +kernel
theorem dX4_view_61 : decode cX4_view 61 = .ok (.aload_n 0, 1) := by decide +kernel
theorem dX4_view_62 : decode cX4_view 62 = .ok (.getfield 10, 3) := by decide +kernel
theorem dX4_view_65 : decode cX4_view 65 = .ok (.iload_n 1, 1) := by decide +kernel
theorem dX4_view_66 : decode cX4_view 66 = .ok (.invokevirtual 219, 3) := by decide +kernel
theorem dX4_view_69 : decode cX4_view 69 = .ok (.ireturn, 1) := by decide +kernel
theorem dX4_view_70 : decode cX4_view 70 = .ok (.aload_n 0, 1) := by decide +kernel
theorem dX4_view_71 : decode cX4_view 71 = .ok (.getfield 10, 3) := by decide +kernel
theorem dX4_view_74 : decode cX4_view 74 = .ok (.iload_n 1, 1) := by decide +kernel
theorem dX4_view_75 : decode cX4_view 75 = .ok (.invokevirtual 222, 3) := by decide +kernel
theorem dX4_view_78 : decode cX4_view 78 = .ok (.ireturn, 1) := by decide +kernel
theorem dX4_view_79 : decode cX4_view 79 = .ok (.aload_n 0, 1) := by decide +kernel
theorem dX4_view_80 : decode cX4_view 80 = .ok (.getfield 10, 3) := by decide +kernel
theorem dX4_view_83 : decode cX4_view 83 = .ok (.aload_n 0, 1) := by decide +kernel
theorem dX4_view_84 : decode cX4_view 84 = .ok (.getfield 20, 3) := by decide +kernel
theorem dX4_view_87 : decode cX4_view 87 = .ok (.aload_n 0, 1) := by decide +kernel
theorem dX4_view_88 : decode cX4_view 88 = .ok (.getfield 10, 3) := by decide +kernel
theorem dX4_view_91 : decode cX4_view 91 = .ok (.iload_n 1, 1) := by decide +kernel
theorem dX4_view_92 : decode cX4_view 92 = .ok (.invokevirtual 222, 3) := by decide +kernel
theorem dX4_view_95 : decode cX4_view 95 = .ok (.invokevirtual 191, 3) := by decide +kernel
theorem dX4_view_98 : decode cX4_view 98 = .ok (.iload_n 1, 1) := by decide +kernel
theorem dX4_view_99 : decode cX4_view 99 = .ok (.invokevirtual 213, 3) := by decide +kernel
theorem dX4_view_102 : decode cX4_view 102 = .ok (.ireturn, 1) := by decide +kernel
theorem dX4_view_103 : decode cX4_view 103 = .ok (.bipush (-102), 2) := by decide +kernel
theorem dX4_view_105 : decode cX4_view 105 = .ok (.ireturn, 1) := by decide +kernel
theorem dX4_bestShift_0 : decode cX4_bestShift 0 = .ok (.aload_n 0, 1) := by decide +kernel
theorem dX4_bestShift_1 : decode cX4_bestShift 1 = .ok (.getfield 24, 3) := by decide +kernel
theorem dX4_bestShift_4 : decode cX4_bestShift 4 = .ok (.aload_n 0, 1) := by decide +kernel
theorem dX4_bestShift_5 : decode cX4_bestShift 5 = .ok (.getfield 20, 3) := by decide +kernel
theorem dX4_bestShift_8 : decode cX4_bestShift 8 = .ok (.invokevirtual 173, 3) := by decide +kernel
theorem dX4_bestShift_11 : decode cX4_bestShift 11 = .ok (.iconst 0, 1) := by decide +kernel
theorem dX4_bestShift_12 : decode cX4_bestShift 12 = .ok (.istore_n 1, 1) := by decide +kernel
theorem dX4_bestShift_13 : decode cX4_bestShift 13 = .ok (.aload_n 0, 1) := by decide +kernel
theorem dX4_bestShift_14 : decode cX4_bestShift 14 = .ok (.iconst 0, 1) := by decide +kernel
theorem dX4_bestShift_15 : decode cX4_bestShift 15 = .ok (.invokevirtual 225, 3) := by decide +kernel
theorem dX4_bestShift_18 : decode cX4_bestShift 18 = .ok (.istore_n 2, 1) := by decide +kernel
theorem dX4_bestShift_19 : decode cX4_bestShift 19 = .ok (.iconst 1, 1) := by decide +kernel
theorem dX4_bestShift_20 : decode cX4_bestShift 20 = .ok (.istore_n 3, 1) := by decide +kernel
theorem dX4_bestShift_21 : decode cX4_bestShift 21 = .ok (.iload_n 3, 1) := by decide +kernel
theorem dX4_bestShift_22 : decode cX4_bestShift 22 = .ok (.iconst 3, 1) := by decide +kernel
theorem dX4_bestShift_23 : decode cX4_bestShift 23 = .ok (.if_icmp .gt 47, 3) := by decide +kernel
theorem dX4_bestShift_26 : decode cX4_bestShift 26 = .ok (.aload_n 0, 1) := by decide +kernel
theorem dX4_bestShift_27 : decode cX4_bestShift 27 = .ok (.iload_n 3, 1) := by decide +kernel
theorem dX4_bestShift_28 : decode cX4_bestShift 28 = .ok (.ineg, 1) := by decide +kernel
theorem dX4_bestShift_29 : decode cX4_bestShift 29 = .ok (.invokevirtual 225, 3) := by decide +kernel
theorem dX4_bestShift_32 : decode cX4_bestShift 32 = .ok (.istore 4, 2) := by decide +kernel
theorem dX4_bestShift_34 : decode cX4_bestShift 34 = .ok (.iload 4, 2) := by decide +kernel
theorem dX4_bestShift_36 : decode cX4_bestShift 36 = .ok (.iload_n 2, 1) := by decide +kernel
theorem dX4_bestShift_37 : decode cX4_bestShift 37 = .ok (.if_icmp .ge 9, 3) := by decide +kernel
theorem dX4_bestShift_40 : decode cX4_bestShift 40 = .ok (.iload 4, 2) := by decide +kernel
theorem dX4_bestShift_42 : decode cX4_bestShift 42 = .ok (.istore_n 2, 1) := by decide +kernel
theorem dX4_bestShift_43 : decode cX4_bestShift 43 = .ok (.iload_n 3, 1) := by decide +kernel
theorem dX4_bestShift_44 : decode cX4_bestShift 44 = .ok (.ineg, 1) := by decide +kernel
theorem dX4_bestShift_45 : decode cX4_bestShift 45 = .ok (.istore_n 1, 1) := by decide +kernel
theorem dX4_bestShift_46 : decode cX4_bestShift 46 = .ok (.aload_n 0, 1) := by decide +kernel
theorem dX4_bestShift_47 : decode cX4_bestShift 47 = .ok (.iload_n 3, 1) := by decide +kernel
theorem dX4_bestShift_48 : decode cX4_bestShift 48 = .ok (.invokevirtual 225, 3) := by decide +kernel
theorem dX4_bestShift_51 : decode cX4_bestShift 51 = .ok (.istore 5, 2) := by decide +kernel
theorem dX4_bestShift_53 : decode cX4_bestShift 53 = .ok (.iload 5, 2) := by decide +kernel
theorem dX4_bestShift_55 : decode cX4_bestShift 55 = .ok (.iload_n 2, 1) := by decide +kernel
theorem dX4_bestShift_56 : decode cX4_bestShift 56 = .ok (.if_icmp .ge 8, 3) := by decide +kernel
theorem dX4_bestShift_59 : decode cX4_bestShift 59 = .ok (.iload 5, 2) := by decide +kernel
theorem dX4_bestShift_61 : decode cX4_bestShift 61 = .ok (.istore_n 2, 1) := by decide +kernel
theorem dX4_bestShift_62 : decode cX4_bestShift 62 = .ok (.iload_n 3, 1) := by decide +kernel
theorem dX4_bestShift_63 : decode cX4_bestShift 63 = .ok (.istore_n 1, 1) := by decide +kernel
theorem dX4_bestShift_64 : decode cX4_bestShift 64 = .ok (.iinc 3 1, 3) := by decide +kernel
theorem dX4_bestShift_67 : decode cX4_bestShift 67 = .ok (.goto (-46), 3) := by decide +kernel
theorem dX4_bestShift_70 : decode cX4_bestShift 70 = .ok (.iload_n 1, 1) := by decide +kernel
theorem dX4_bestShift_71 : decode cX4_bestShift 71 = .ok (.ireturn, 1) := by decide +kernel
theorem dX4_ifSlice_0 : decode cX4_ifSlice 0 = .ok (.aload_n 0, 1) := by decide +kernel
theorem dX4_ifSlice_1 : decode cX4_ifSlice 1 = .ok (.getfield 20, 3) := by decide +kernel
theorem dX4_ifSlice_4 : decode cX4_ifSlice 4 = .ok (.iload_n 1, 1) := by decide +kernel
theorem dX4_ifSlice_5 : decode cX4_ifSlice 5 = .ok (.invokevirtual 98, 3) := by decide +kernel
theorem dX4_ifSlice_8 : decode cX4_ifSlice 8 = .ok (.ifCond .eq 14, 3) := by decide +kernel
theorem dX4_ifSlice_11 : decode cX4_ifSlice 11 = .ok (.aload_n 0, 1) := by decide +kernel
theorem dX4_ifSlice_12 : decode cX4_ifSlice 12 = .ok (.getfield 20, 3) := by decide +kernel
theorem dX4_ifSlice_15 : decode cX4_ifSlice 15 = .ok (.iload_n 2, 1) := by decide +kernel
theorem dX4_ifSlice_16 : decode cX4_ifSlice 16 = .ok (.invokevirtual 55, 3) := by decide +kernel
theorem dX4_ifSlice_19 : decode cX4_ifSlice 19 = .ok (.ifCond .ne 6, 3) := by decide +kernel
theorem dX4_ifSlice_22 : decode cX4_ifSlice 22 = .ok (.bipush (-101), 2) := by decide +kernel
theorem dX4_ifSlice_24 : decode cX4_ifSlice 24 = .ok (.ireturn, 1) := by decide +kernel
theorem dX4_ifSlice_25 : decode cX4_ifSlice 25 = .ok (.aload_n 0, 1) := by decide +kernel
theorem dX4_ifSlice_26 : decode cX4_ifSlice 26 = .ok (.getfield 24, 3) := by decide +kernel
theorem dX4_ifSlice_29 : decode cX4_ifSlice 29 = .ok (.aload_n 0, 1) := by decide +kernel
theorem dX4_ifSlice_30 : decode cX4_ifSlice 30 = .ok (.getfield 20, 3) := by decide +kernel
theorem dX4_ifSlice_33 : decode cX4_ifSlice 33 = .ok (.invokevirtual 173, 3) := by decide +kernel
theorem dX4_ifSlice_36 : decode cX4_ifSlice 36 = .ok (.aload_n 0, 1) := by decide +kernel
theorem dX4_ifSlice_37 : decode cX4_ifSlice 37 = .ok (.getfield 24, 3) := by decide +kernel
theorem dX4_ifSlice_40 : decode cX4_ifSlice 40 = .ok (.iload_n 1, 1) := by decide +kernel
theorem dX4_ifSlice_41 : decode cX4_ifSlice 41 = .ok (.iload_n 2, 1) := by decide +kernel
theorem dX4_ifSlice_42 : decode cX4_ifSlice 42 = .ok (.invokevirtual 105, 3) := by decide +kernel
theorem dX4_ifSlice_45 : decode cX4_ifSlice 45 = .ok (.aload_n 0, 1) := by decide +kernel
theorem dX4_ifSlice_46 : decode cX4_ifSlice 46 = .ok (.getfield 21, 3) := by decide +kernel
theorem dX4_ifSlice_49 : decode cX4_ifSlice 49 = .ok (.invokevirtual 228, 3) := by decide +kernel
theorem dX4_ifSlice_52 : decode cX4_ifSlice 52 = .ok (.aload_n 0, 1) := by decide +kernel
theorem dX4_ifSlice_53 : decode cX4_ifSlice 53 = .ok (.getfield 21, 3) := by decide +kernel
theorem dX4_ifSlice_56 : decode cX4_ifSlice 56 = .ok (.invokevirtual 130, 3) := by decide +kernel
theorem dX4_ifSlice_59 : decode cX4_ifSlice 59 = .ok (.ireturn, 1) := by decide +kernel
theorem dX4_count_0 : decode cX4_count 0 = .ok (.iload_n 1, 1) := by decide +kernel
theorem dX4_count_1 : decode cX4_count 1 = .ok (.tableswitch 179 0 12 #[67, 75, 83, 91, 99, 107, 115, 123, 131, 139, 155, 163, 171], 67) := by decide +kernel
theorem dX4_count_68 : decode cX4_count 68 = .ok (.aload_n 0, 1) := by decide +kernel
theorem dX4_count_69 : decode cX4_count 69 = .ok (.getfield 20, 3) := by decide +kernel
theorem dX4_count_72 : decode cX4_count 72 = .ok (.getfield 78, 3) := by decide +kernel
theorem dX4_count_75 : decode cX4_count 75 = .ok (.ireturn, 1) := by decide +kernel
theorem dX4_count_76 : decode cX4_count 76 = .ok (.aload_n 0, 1) := by decide +kernel
theorem dX4_count_77 : decode cX4_count 77 = .ok (.getfield 20, 3) := by decide +kernel
theorem dX4_count_80 : decode cX4_count 80 = .ok (.getfield 92, 3) := by decide +kernel
theorem dX4_count_83 : decode cX4_count 83 = .ok (.ireturn, 1) := by decide +kernel
theorem dX4_count_84 : decode cX4_count 84 = .ok (.aload_n 0, 1) := by decide +kernel
theorem dX4_count_85 : decode cX4_count 85 = .ok (.getfield 20, 3) := by decide +kernel
theorem dX4_count_88 : decode cX4_count 88 = .ok (.getfield 109, 3) := by decide +kernel
theorem dX4_count_91 : decode cX4_count 91 = .ok (.ireturn, 1) := by decide +kernel
theorem dX4_count_92 : decode cX4_count 92 = .ok (.aload_n 0, 1) := by decide +kernel
theorem dX4_count_93 : decode cX4_count 93 = .ok (.getfield 20, 3) := by decide +kernel
theorem dX4_count_96 : decode cX4_count 96 = .ok (.getfield 112, 3) := by decide +kernel
theorem dX4_count_99 : decode cX4_count 99 = .ok (.ireturn, 1) := by decide +kernel
theorem dX4_count_100 : decode cX4_count 100 = .ok (.aload_n 0, 1) := by decide +kernel
theorem dX4_count_101 : decode cX4_count 101 = .ok (.invokevirtual 126, 3) := by decide +kernel
theorem dX4_count_104 : decode cX4_count 104 = .ok (.invokevirtual 130, 3) := by decide +kernel
theorem dX4_count_107 : decode cX4_count 107 = .ok (.ireturn, 1) := by decide +kernel
theorem dX4_count_108 : decode cX4_count 108 = .ok (.aload_n 0, 1) := by decide +kernel
theorem dX4_count_109 : decode cX4_count 109 = .ok (.invokevirtual 126, 3) := by decide +kernel
theorem dX4_count_112 : decode cX4_count 112 = .ok (.invokevirtual 231, 3) := by decide +kernel
theorem dX4_count_115 : decode cX4_count 115 = .ok (.ireturn, 1) := by decide +kernel
theorem dX4_count_116 : decode cX4_count 116 = .ok (.aload_n 0, 1) := by decide +kernel
theorem dX4_count_117 : decode cX4_count 117 = .ok (.invokevirtual 126, 3) := by decide +kernel
theorem dX4_count_120 : decode cX4_count 120 = .ok (.invokevirtual 144, 3) := by decide +kernel
theorem dX4_count_123 : decode cX4_count 123 = .ok (.ireturn, 1) := by decide +kernel
theorem dX4_count_124 : decode cX4_count 124 = .ok (.aload_n 0, 1) := by decide +kernel
theorem dX4_count_125 : decode cX4_count 125 = .ok (.getfield 20, 3) := by decide +kernel
theorem dX4_count_128 : decode cX4_count 128 = .ok (.getfield 140, 3) := by decide +kernel
theorem dX4_count_131 : decode cX4_count 131 = .ok (.ireturn, 1) := by decide +kernel
theorem dX4_count_132 : decode cX4_count 132 = .ok (.aload_n 0, 1) := by decide +kernel
theorem dX4_count_133 : decode cX4_count 133 = .ok (.getfield 20, 3) := by decide +kernel
theorem dX4_count_136 : decode cX4_count 136 = .ok (.getfield 147, 3) := by decide +kernel
theorem dX4_count_139 : decode cX4_count 139 = .ok (.ireturn, 1) := by decide +kernel
theorem dX4_count_140 : decode cX4_count 140 = .ok (.aload_n 0, 1) := by decide +kernel
theorem dX4_count_141 : decode cX4_count 141 = .ok (.getfield 20, 3) := by decide +kernel
theorem dX4_count_144 : decode cX4_count 144 = .ok (.getfield 140, 3) := by decide +kernel
theorem dX4_count_147 : decode cX4_count 147 = .ok (.aload_n 0, 1) := by decide +kernel
theorem dX4_count_148 : decode cX4_count 148 = .ok (.getfield 20, 3) := by decide +kernel
theorem dX4_count_151 : decode cX4_count 151 = .ok (.getfield 147, 3) := by decide +kernel
theorem dX4_count_154 : decode cX4_count 154 = .ok (.isub, 1) := by decide +kernel
theorem dX4_count_155 : decode cX4_count 155 = .ok (.ireturn, 1) := by decide +kernel
theorem dX4_count_156 : decode cX4_count 156 = .ok (.aload_n 0, 1) := by decide +kernel
theorem dX4_count_157 : decode cX4_count 157 = .ok (.getfield 20, 3) := by decide +kernel
theorem dX4_count_160 : decode cX4_count 160 = .ok (.getfield 150, 3) := by decide +kernel
theorem dX4_count_163 : decode cX4_count 163 = .ok (.ireturn, 1) := by decide +kernel
theorem dX4_count_164 : decode cX4_count 164 = .ok (.aload_n 0, 1) := by decide +kernel
theorem dX4_count_165 : decode cX4_count 165 = .ok (.getfield 34, 3) := by decide +kernel
theorem dX4_count_168 : decode cX4_count 168 = .ok (.getfield 167, 3) := by decide +kernel
theorem dX4_count_171 : decode cX4_count 171 = .ok (.ireturn, 1) := by decide +kernel
theorem dX4_count_172 : decode cX4_count 172 = .ok (.aload_n 0, 1) := by decide +kernel
theorem dX4_count_173 : decode cX4_count 173 = .ok (.getfield 51, 3) := by decide +kernel
theorem dX4_count_176 : decode cX4_count 176 = .ok (.getfield 161, 3) := by decide +kernel
theorem dX4_count_179 : decode cX4_count 179 = .ok (.ireturn, 1) := by decide +kernel
theorem dX4_count_180 : decode cX4_count 180 = .ok (.bipush (-102), 2) := by decide +kernel
theorem dX4_count_182 : decode cX4_count 182 = .ok (.ireturn, 1) := by decide +kernel
theorem dX4_isWithin_0 : decode cX4_isWithin 0 = .ok (.iload_n 0, 1) := by decide +kernel
theorem dX4_isWithin_1 : decode cX4_isWithin 1 = .ok (.iload_n 1, 1) := by decide +kernel
theorem dX4_isWithin_2 : decode cX4_isWithin 2 = .ok (.if_icmp .lt 12, 3) := by decide +kernel
theorem dX4_isWithin_5 : decode cX4_isWithin 5 = .ok (.iload_n 0, 1) := by decide +kernel
theorem dX4_isWithin_6 : decode cX4_isWithin 6 = .ok (.iload_n 2, 1) := by decide +kernel
theorem dX4_isWithin_7 : decode cX4_isWithin 7 = .ok (.if_icmp .gt 7, 3) := by decide +kernel
theorem dX4_isWithin_10 : decode cX4_isWithin 10 = .ok (.iconst 1, 1) := by decide +kernel
theorem dX4_isWithin_11 : decode cX4_isWithin 11 = .ok (.goto 4, 3) := by decide +kernel
theorem dX4_isWithin_14 : decode cX4_isWithin 14 = .ok (.iconst 0, 1) := by decide +kernel
theorem dX4_isWithin_15 : decode cX4_isWithin 15 = .ok (.ireturn, 1) := by decide +kernel
theorem dX4_isRidge_0 : decode cX4_isRidge 0 = .ok (.iload_n 0, 1) := by decide +kernel
theorem dX4_isRidge_1 : decode cX4_isRidge 1 = .ok (.iconst 0, 1) := by decide +kernel
theorem dX4_isRidge_2 : decode cX4_isRidge 2 = .ok (.bipush 11, 2) := by decide +kernel
theorem dX4_isRidge_4 : decode cX4_isRidge 4 = .ok (.invokestatic 62, 3) := by decide +kernel
theorem dX4_isRidge_7 : decode cX4_isRidge 7 = .ok (.ireturn, 1) := by decide +kernel
theorem dX4_isAngle_0 : decode cX4_isAngle 0 = .ok (.iload_n 0, 1) := by decide +kernel
theorem dX4_isAngle_1 : decode cX4_isAngle 1 = .ok (.bipush (-9), 2) := by decide +kernel
theorem dX4_isAngle_3 : decode cX4_isAngle 3 = .ok (.bipush 9, 2) := by decide +kernel
theorem dX4_isAngle_5 : decode cX4_isAngle 5 = .ok (.invokestatic 62, 3) := by decide +kernel
theorem dX4_isAngle_8 : decode cX4_isAngle 8 = .ok (.ireturn, 1) := by decide +kernel
theorem dX4_noneForNothing_0 : decode cX4_noneForNothing 0 = .ok (.iload_n 0, 1) := by decide +kernel
theorem dX4_noneForNothing_1 : decode cX4_noneForNothing 1 = .ok (.iconst (-1), 1) := by decide +kernel
theorem dX4_noneForNothing_2 : decode cX4_noneForNothing 2 = .ok (.if_icmp .ne 8, 3) := by decide +kernel
theorem dX4_noneForNothing_5 : decode cX4_noneForNothing 5 = .ok (.bipush (-105), 2) := by decide +kernel
theorem dX4_noneForNothing_7 : decode cX4_noneForNothing 7 = .ok (.goto 4, 3) := by decide +kernel
theorem dX4_noneForNothing_10 : decode cX4_noneForNothing 10 = .ok (.iload_n 0, 1) := by decide +kernel
theorem dX4_noneForNothing_11 : decode cX4_noneForNothing 11 = .ok (.ireturn, 1) := by decide +kernel
theorem dX4_copyNumbers_0 : decode cX4_copyNumbers 0 = .ok (.iconst 0, 1) := by decide +kernel
theorem dX4_copyNumbers_1 : decode cX4_copyNumbers 1 = .ok (.istore_n 2, 1) := by decide +kernel
theorem dX4_copyNumbers_2 : decode cX4_copyNumbers 2 = .ok (.iload_n 2, 1) := by decide +kernel
theorem dX4_copyNumbers_3 : decode cX4_copyNumbers 3 = .ok (.aload_n 0, 1) := by decide +kernel
theorem dX4_copyNumbers_4 : decode cX4_copyNumbers 4 = .ok (.arraylength, 1) := by decide +kernel
theorem dX4_copyNumbers_5 : decode cX4_copyNumbers 5 = .ok (.if_icmp .ge 21, 3) := by decide +kernel
theorem dX4_copyNumbers_8 : decode cX4_copyNumbers 8 = .ok (.iload_n 2, 1) := by decide +kernel
theorem dX4_copyNumbers_9 : decode cX4_copyNumbers 9 = .ok (.aload_n 1, 1) := by decide +kernel
theorem dX4_copyNumbers_10 : decode cX4_copyNumbers 10 = .ok (.arraylength, 1) := by decide +kernel
theorem dX4_copyNumbers_11 : decode cX4_copyNumbers 11 = .ok (.if_icmp .ge 15, 3) := by decide +kernel
theorem dX4_copyNumbers_14 : decode cX4_copyNumbers 14 = .ok (.aload_n 1, 1) := by decide +kernel
theorem dX4_copyNumbers_15 : decode cX4_copyNumbers 15 = .ok (.iload_n 2, 1) := by decide +kernel
theorem dX4_copyNumbers_16 : decode cX4_copyNumbers 16 = .ok (.aload_n 0, 1) := by decide +kernel
theorem dX4_copyNumbers_17 : decode cX4_copyNumbers 17 = .ok (.iload_n 2, 1) := by decide +kernel
theorem dX4_copyNumbers_18 : decode cX4_copyNumbers 18 = .ok (.iaload, 1) := by decide +kernel
theorem dX4_copyNumbers_19 : decode cX4_copyNumbers 19 = .ok (.iastore, 1) := by decide +kernel
theorem dX4_copyNumbers_20 : decode cX4_copyNumbers 20 = .ok (.iinc 2 1, 3) := by decide +kernel
theorem dX4_copyNumbers_23 : decode cX4_copyNumbers 23 = .ok (.goto (-21), 3) := by decide +kernel
theorem dX4_copyNumbers_26 : decode cX4_copyNumbers 26 = .ok (.return_, 1) := by decide +kernel
theorem dX4_look_0 : decode cX4_look 0 = .ok (.aload_n 0, 1) := by decide +kernel
theorem dX4_look_1 : decode cX4_look 1 = .ok (.getfield 10, 3) := by decide +kernel
theorem dX4_look_4 : decode cX4_look 4 = .ok (.invokevirtual 228, 3) := by decide +kernel
theorem dX4_look_7 : decode cX4_look 7 = .ok (.aload_n 0, 1) := by decide +kernel
theorem dX4_look_8 : decode cX4_look 8 = .ok (.getfield 10, 3) := by decide +kernel
theorem dX4_look_11 : decode cX4_look 11 = .ok (.areturn, 1) := by decide +kernel
theorem dX4_ghostsWithShift_0 : decode cX4_ghostsWithShift 0 = .ok (.aload_n 0, 1) := by decide +kernel
theorem dX4_ghostsWithShift_1 : decode cX4_ghostsWithShift 1 = .ok (.getfield 24, 3) := by decide +kernel
theorem dX4_ghostsWithShift_4 : decode cX4_ghostsWithShift 4 = .ok (.iload_n 1, 1) := by decide +kernel
theorem dX4_ghostsWithShift_5 : decode cX4_ghostsWithShift 5 = .ok (.putfield 109, 3) := by decide +kernel
theorem dX4_ghostsWithShift_8 : decode cX4_ghostsWithShift 8 = .ok (.aload_n 0, 1) := by decide +kernel
theorem dX4_ghostsWithShift_9 : decode cX4_ghostsWithShift 9 = .ok (.getfield 21, 3) := by decide +kernel
theorem dX4_ghostsWithShift_12 : decode cX4_ghostsWithShift 12 = .ok (.invokevirtual 228, 3) := by decide +kernel
theorem dX4_ghostsWithShift_15 : decode cX4_ghostsWithShift 15 = .ok (.aload_n 0, 1) := by decide +kernel
theorem dX4_ghostsWithShift_16 : decode cX4_ghostsWithShift 16 = .ok (.getfield 21, 3) := by decide +kernel
theorem dX4_ghostsWithShift_19 : decode cX4_ghostsWithShift 19 = .ok (.invokevirtual 130, 3) := by decide +kernel
theorem dX4_ghostsWithShift_22 : decode cX4_ghostsWithShift 22 = .ok (.ireturn, 1) := by decide +kernel
theorem dJ9_max_7cf53_0 : decode cJ9_max_7cf53 0 = .ok (.iload_n 0, 1) := by decide +kernel
theorem dJ9_max_7cf53_1 : decode cJ9_max_7cf53 1 = .ok (.iload_n 1, 1) := by decide +kernel
theorem dJ9_max_7cf53_2 : decode cJ9_max_7cf53 2 = .ok (.if_icmp .lt 7, 3) := by decide +kernel
theorem dJ9_max_7cf53_5 : decode cJ9_max_7cf53 5 = .ok (.iload_n 0, 1) := by decide +kernel
theorem dJ9_max_7cf53_6 : decode cJ9_max_7cf53 6 = .ok (.goto 4, 3) := by decide +kernel
theorem dJ9_max_7cf53_9 : decode cJ9_max_7cf53 9 = .ok (.iload_n 1, 1) := by decide +kernel
theorem dJ9_max_7cf53_10 : decode cJ9_max_7cf53 10 = .ok (.ireturn, 1) := by decide +kernel
theorem dJ9_min_7cf53_0 : decode cJ9_min_7cf53 0 = .ok (.iload_n 0, 1) := by decide +kernel
theorem dJ9_min_7cf53_1 : decode cJ9_min_7cf53 1 = .ok (.iload_n 1, 1) := by decide +kernel
theorem dJ9_min_7cf53_2 : decode cJ9_min_7cf53 2 = .ok (.if_icmp .gt 7, 3) := by decide +kernel
theorem dJ9_min_7cf53_5 : decode cJ9_min_7cf53 5 = .ok (.iload_n 0, 1) := by decide +kernel
theorem dJ9_min_7cf53_6 : decode cJ9_min_7cf53 6 = .ok (.goto 4, 3) := by decide +kernel
theorem dJ9_min_7cf53_9 : decode cJ9_min_7cf53 9 = .ok (.iload_n 1, 1) := by decide +kernel
theorem dJ9_min_7cf53_10 : decode cJ9_min_7cf53 10 = .ok (.ireturn, 1) := by decide +kernel
theorem dL_cell_0 : decode cL_cell 0 = .ok (.iload_n 1, 1) := by decide +kernel
theorem dL_cell_1 : decode cL_cell 1 = .ok (.aload_n 0, 1) := by decide +kernel
theorem dL_cell_2 : decode cL_cell 2 = .ok (.arraylength, 1) := by decide +kernel
theorem dL_cell_3 : decode cL_cell 3 = .ok (.if_icmp .ge 9, 3) := by decide +kernel
theorem dL_cell_6 : decode cL_cell 6 = .ok (.aload_n 0, 1) := by decide +kernel
theorem dL_cell_7 : decode cL_cell 7 = .ok (.iload_n 1, 1) := by decide +kernel
theorem dL_cell_8 : decode cL_cell 8 = .ok (.iaload, 1) := by decide +kernel
theorem dL_cell_9 : decode cL_cell 9 = .ok (.goto 11, 3) := by decide +kernel
theorem dL_cell_12 : decode cL_cell 12 = .ok (.ldc 7, 2) := by decide +kernel
theorem dL_cell_14 : decode cL_cell 14 = .ok (.iload_n 1, 1) := by decide +kernel
theorem dL_cell_15 : decode cL_cell 15 = .ok (.sipush 1277, 3) := by decide +kernel
theorem dL_cell_18 : decode cL_cell 18 = .ok (.iadd, 1) := by decide +kernel
theorem dL_cell_19 : decode cL_cell 19 = .ok (.imul, 1) := by decide +kernel
theorem dL_cell_20 : decode cL_cell 20 = .ok (.ireturn, 1) := by decide +kernel
theorem dL_up_0 : decode cL_up 0 = .ok (.iload_n 0, 1) := by decide +kernel
theorem dL_up_1 : decode cL_up 1 = .ok (.ldc 8, 2) := by decide +kernel
theorem dL_up_3 : decode cL_up 3 = .ok (.iand, 1) := by decide +kernel
theorem dL_up_4 : decode cL_up 4 = .ok (.iload_n 1, 1) := by decide +kernel
theorem dL_up_5 : decode cL_up 5 = .ok (.irem, 1) := by decide +kernel
theorem dL_up_6 : decode cL_up 6 = .ok (.ireturn, 1) := by decide +kernel
theorem dL_there_0 : decode cL_there 0 = .ok (.iload_n 1, 1) := by decide +kernel
theorem dL_there_1 : decode cL_there 1 = .ok (.ifCond .lt 12, 3) := by decide +kernel
theorem dL_there_4 : decode cL_there 4 = .ok (.iload_n 1, 1) := by decide +kernel
theorem dL_there_5 : decode cL_there 5 = .ok (.aload_n 0, 1) := by decide +kernel
theorem dL_there_6 : decode cL_there 6 = .ok (.iconst 0, 1) := by decide +kernel
theorem dL_there_7 : decode cL_there 7 = .ok (.invokevirtual 9, 3) := by decide +kernel
theorem dL_there_10 : decode cL_there 10 = .ok (.if_icmp .lt 7, 3) := by decide +kernel
theorem dL_there_13 : decode cL_there 13 = .ok (.iload_n 1, 1) := by decide +kernel
theorem dL_there_14 : decode cL_there 14 = .ok (.goto 12, 3) := by decide +kernel
theorem dL_there_17 : decode cL_there 17 = .ok (.aload_n 0, 1) := by decide +kernel
theorem dL_there_18 : decode cL_there 18 = .ok (.iconst 0, 1) := by decide +kernel
theorem dL_there_19 : decode cL_there 19 = .ok (.invokevirtual 9, 3) := by decide +kernel
theorem dL_there_22 : decode cL_there 22 = .ok (.iconst 1, 1) := by decide +kernel
theorem dL_there_23 : decode cL_there 23 = .ok (.isub, 1) := by decide +kernel
theorem dL_there_24 : decode cL_there 24 = .ok (.iload_n 1, 1) := by decide +kernel
theorem dL_there_25 : decode cL_there 25 = .ok (.isub, 1) := by decide +kernel
theorem dL_there_26 : decode cL_there 26 = .ok (.ireturn, 1) := by decide +kernel
theorem dL_colour_0 : decode cL_colour 0 = .ok (.iload_n 0, 1) := by decide +kernel
theorem dL_colour_1 : decode cL_colour 1 = .ok (.ifCond .lt 9, 3) := by decide +kernel
theorem dL_colour_4 : decode cL_colour 4 = .ok (.iload_n 0, 1) := by decide +kernel
theorem dL_colour_5 : decode cL_colour 5 = .ok (.bipush 9, 2) := by decide +kernel
theorem dL_colour_7 : decode cL_colour 7 = .ok (.if_icmp .le 7, 3) := by decide +kernel
theorem dL_colour_10 : decode cL_colour 10 = .ok (.iload_n 0, 1) := by decide +kernel
theorem dL_colour_11 : decode cL_colour 11 = .ok (.goto 7, 3) := by decide +kernel
theorem dL_colour_14 : decode cL_colour 14 = .ok (.bipush 9, 2) := by decide +kernel
theorem dL_colour_16 : decode cL_colour 16 = .ok (.iload_n 0, 1) := by decide +kernel
theorem dL_colour_17 : decode cL_colour 17 = .ok (.isub, 1) := by decide +kernel
theorem dL_colour_18 : decode cL_colour 18 = .ok (.ireturn, 1) := by decide +kernel
theorem dL_areSlices_0 : decode cL_areSlices 0 = .ok (.iconst 1, 1) := by decide +kernel
theorem dL_areSlices_1 : decode cL_areSlices 1 = .ok (.istore_n 2, 1) := by decide +kernel
theorem dL_areSlices_2 : decode cL_areSlices 2 = .ok (.iconst 0, 1) := by decide +kernel
theorem dL_areSlices_3 : decode cL_areSlices 3 = .ok (.istore_n 3, 1) := by decide +kernel
theorem dL_areSlices_4 : decode cL_areSlices 4 = .ok (.iload_n 3, 1) := by decide +kernel
theorem dL_areSlices_5 : decode cL_areSlices 5 = .ok (.aload_n 0, 1) := by decide +kernel
theorem dL_areSlices_6 : decode cL_areSlices 6 = .ok (.iconst 1, 1) := by decide +kernel
theorem dL_areSlices_7 : decode cL_areSlices 7 = .ok (.invokevirtual 9, 3) := by decide +kernel
theorem dL_areSlices_10 : decode cL_areSlices 10 = .ok (.if_icmp .ge 38, 3) := by decide +kernel
theorem dL_areSlices_13 : decode cL_areSlices 13 = .ok (.iload_n 2, 1) := by decide +kernel
theorem dL_areSlices_14 : decode cL_areSlices 14 = .ok (.ifCond .eq 26, 3) := by decide +kernel
theorem dL_areSlices_17 : decode cL_areSlices 17 = .ok (.aload_n 1, 1) := by decide +kernel
theorem dL_areSlices_18 : decode cL_areSlices 18 = .ok (.iload_n 3, 1) := by decide +kernel
theorem dL_areSlices_19 : decode cL_areSlices 19 = .ok (.aload_n 0, 1) := by decide +kernel
theorem dL_areSlices_20 : decode cL_areSlices 20 = .ok (.aload_n 0, 1) := by decide +kernel
theorem dL_areSlices_21 : decode cL_areSlices 21 = .ok (.iload_n 3, 1) := by decide +kernel
theorem dL_areSlices_22 : decode cL_areSlices 22 = .ok (.invokevirtual 15, 3) := by decide +kernel
theorem dL_areSlices_25 : decode cL_areSlices 25 = .ok (.invokestatic 18, 3) := by decide +kernel
theorem dL_areSlices_28 : decode cL_areSlices 28 = .ok (.invokevirtual 24, 3) := by decide +kernel
theorem dL_areSlices_31 : decode cL_areSlices 31 = .ok (.bipush (-101), 2) := by decide +kernel
theorem dL_areSlices_33 : decode cL_areSlices 33 = .ok (.if_icmp .eq 7, 3) := by decide +kernel
theorem dL_areSlices_36 : decode cL_areSlices 36 = .ok (.iconst 1, 1) := by decide +kernel
theorem dL_areSlices_37 : decode cL_areSlices 37 = .ok (.goto 4, 3) := by decide +kernel
theorem dL_areSlices_40 : decode cL_areSlices 40 = .ok (.iconst 0, 1) := by decide +kernel
theorem dL_areSlices_41 : decode cL_areSlices 41 = .ok (.istore_n 2, 1) := by decide +kernel
theorem dL_areSlices_42 : decode cL_areSlices 42 = .ok (.iinc 3 1, 3) := by decide +kernel
theorem dL_areSlices_45 : decode cL_areSlices 45 = .ok (.goto (-41), 3) := by decide +kernel
theorem dL_areSlices_48 : decode cL_areSlices 48 = .ok (.iload_n 2, 1) := by decide +kernel
theorem dL_areSlices_49 : decode cL_areSlices 49 = .ok (.ireturn, 1) := by decide +kernel
theorem dL_isRead_0 : decode cL_isRead 0 = .ok (.iconst 2, 1) := by decide +kernel
theorem dL_isRead_1 : decode cL_isRead 1 = .ok (.iload_n 2, 1) := by decide +kernel
theorem dL_isRead_2 : decode cL_isRead 2 = .ok (.iconst 3, 1) := by decide +kernel
theorem dL_isRead_3 : decode cL_isRead 3 = .ok (.invokestatic 28, 3) := by decide +kernel
theorem dL_isRead_6 : decode cL_isRead 6 = .ok (.iadd, 1) := by decide +kernel
theorem dL_isRead_7 : decode cL_isRead 7 = .ok (.istore 4, 2) := by decide +kernel
theorem dL_isRead_9 : decode cL_isRead 9 = .ok (.iconst 2, 1) := by decide +kernel
theorem dL_isRead_10 : decode cL_isRead 10 = .ok (.iload_n 2, 1) := by decide +kernel
theorem dL_isRead_11 : decode cL_isRead 11 = .ok (.iconst 3, 1) := by decide +kernel
theorem dL_isRead_12 : decode cL_isRead 12 = .ok (.ishr, 1) := by decide +kernel
theorem dL_isRead_13 : decode cL_isRead 13 = .ok (.iconst 5, 1) := by decide +kernel
theorem dL_isRead_14 : decode cL_isRead 14 = .ok (.invokestatic 28, 3) := by decide +kernel
theorem dL_isRead_17 : decode cL_isRead 17 = .ok (.iadd, 1) := by decide +kernel
theorem dL_isRead_18 : decode cL_isRead 18 = .ok (.istore 5, 2) := by decide +kernel
theorem dL_isRead_20 : decode cL_isRead 20 = .ok (.aload_n 0, 1) := by decide +kernel
theorem dL_isRead_21 : decode cL_isRead 21 = .ok (.invokevirtual 31, 3) := by decide +kernel
theorem dL_isRead_24 : decode cL_isRead 24 = .ok (.ifCond .lt 14, 3) := by decide +kernel
theorem dL_isRead_27 : decode cL_isRead 27 = .ok (.aload_n 1, 1) := by decide +kernel
theorem dL_isRead_28 : decode cL_isRead 28 = .ok (.invokevirtual 31, 3) := by decide +kernel
theorem dL_isRead_31 : decode cL_isRead 31 = .ok (.ifCond .lt 7, 3) := by decide +kernel
theorem dL_isRead_34 : decode cL_isRead 34 = .ok (.iconst 1, 1) := by decide +kernel
theorem dL_isRead_35 : decode cL_isRead 35 = .ok (.goto 4, 3) := by decide +kernel
theorem dL_isRead_38 : decode cL_isRead 38 = .ok (.iconst 0, 1) := by decide +kernel
theorem dL_isRead_39 : decode cL_isRead 39 = .ok (.istore 6, 2) := by decide +kernel
theorem dL_isRead_41 : decode cL_isRead 41 = .ok (.iconst 0, 1) := by decide +kernel
theorem dL_isRead_42 : decode cL_isRead 42 = .ok (.istore 7, 2) := by decide +kernel
theorem dL_isRead_44 : decode cL_isRead 44 = .ok (.iload 7, 2) := by decide +kernel
theorem dL_isRead_46 : decode cL_isRead 46 = .ok (.bipush 12, 2) := by decide +kernel
theorem dL_isRead_48 : decode cL_isRead 48 = .ok (.iload 4, 2) := by decide +kernel
theorem dL_isRead_50 : decode cL_isRead 50 = .ok (.imul, 1) := by decide +kernel
theorem dL_isRead_51 : decode cL_isRead 51 = .ok (.if_icmp .ge 139, 3) := by decide +kernel
theorem dL_isRead_54 : decode cL_isRead 54 = .ok (.bipush 12, 2) := by decide +kernel
theorem dL_isRead_56 : decode cL_isRead 56 = .ok (.iload 4, 2) := by decide +kernel
theorem dL_isRead_58 : decode cL_isRead 58 = .ok (.iconst 1, 1) := by decide +kernel
theorem dL_isRead_59 : decode cL_isRead 59 = .ok (.isub, 1) := by decide +kernel
theorem dL_isRead_60 : decode cL_isRead 60 = .ok (.iload 7, 2) := by decide +kernel
theorem dL_isRead_62 : decode cL_isRead 62 = .ok (.bipush 12, 2) := by decide +kernel
theorem dL_isRead_64 : decode cL_isRead 64 = .ok (.idiv, 1) := by decide +kernel
theorem dL_isRead_65 : decode cL_isRead 65 = .ok (.isub, 1) := by decide +kernel
theorem dL_isRead_66 : decode cL_isRead 66 = .ok (.imul, 1) := by decide +kernel
theorem dL_isRead_67 : decode cL_isRead 67 = .ok (.iload 7, 2) := by decide +kernel
theorem dL_isRead_69 : decode cL_isRead 69 = .ok (.bipush 12, 2) := by decide +kernel
theorem dL_isRead_71 : decode cL_isRead 71 = .ok (.irem, 1) := by decide +kernel
theorem dL_isRead_72 : decode cL_isRead 72 = .ok (.iadd, 1) := by decide +kernel
theorem dL_isRead_73 : decode cL_isRead 73 = .ok (.istore 8, 2) := by decide +kernel
theorem dL_isRead_75 : decode cL_isRead 75 = .ok (.iload 6, 2) := by decide +kernel
theorem dL_isRead_77 : decode cL_isRead 77 = .ok (.ifCond .eq 104, 3) := by decide +kernel
theorem dL_isRead_80 : decode cL_isRead 80 = .ok (.iload 7, 2) := by decide +kernel
theorem dL_isRead_82 : decode cL_isRead 82 = .ok (.ifCond .eq 26, 3) := by decide +kernel
theorem dL_isRead_85 : decode cL_isRead 85 = .ok (.iload 7, 2) := by decide +kernel
theorem dL_isRead_87 : decode cL_isRead 87 = .ok (.bipush 12, 2) := by decide +kernel
theorem dL_isRead_89 : decode cL_isRead 89 = .ok (.irem, 1) := by decide +kernel
theorem dL_isRead_90 : decode cL_isRead 90 = .ok (.ifCond .gt 18, 3) := by decide +kernel
theorem dL_isRead_93 : decode cL_isRead 93 = .ok (.aload_n 0, 1) := by decide +kernel
theorem dL_isRead_94 : decode cL_isRead 94 = .ok (.bipush 47, 2) := by decide +kernel
theorem dL_isRead_96 : decode cL_isRead 96 = .ok (.invokevirtual 35, 3) := by decide +kernel
theorem dL_isRead_99 : decode cL_isRead 99 = .ok (.aload_n 1, 1) := by decide +kernel
theorem dL_isRead_100 : decode cL_isRead 100 = .ok (.bipush 47, 2) := by decide +kernel
theorem dL_isRead_102 : decode cL_isRead 102 = .ok (.invokevirtual 35, 3) := by decide +kernel
theorem dL_isRead_105 : decode cL_isRead 105 = .ok (.if_icmp .ne 76, 3) := by decide +kernel
theorem dL_isRead_108 : decode cL_isRead 108 = .ok (.aload_n 0, 1) := by decide +kernel
theorem dL_isRead_109 : decode cL_isRead 109 = .ok (.bipush 48, 2) := by decide +kernel
theorem dL_isRead_111 : decode cL_isRead 111 = .ok (.iload_n 2, 1) := by decide +kernel
theorem dL_isRead_112 : decode cL_isRead 112 = .ok (.iload 7, 2) := by decide +kernel
theorem dL_isRead_114 : decode cL_isRead 114 = .ok (.bipush 17, 2) := by decide +kernel
theorem dL_isRead_116 : decode cL_isRead 116 = .ok (.irem, 1) := by decide +kernel
theorem dL_isRead_117 : decode cL_isRead 117 = .ok (.ishr, 1) := by decide +kernel
theorem dL_isRead_118 : decode cL_isRead 118 = .ok (.iload_n 3, 1) := by decide +kernel
theorem dL_isRead_119 : decode cL_isRead 119 = .ok (.iload 7, 2) := by decide +kernel
theorem dL_isRead_121 : decode cL_isRead 121 = .ok (.bipush 11, 2) := by decide +kernel
theorem dL_isRead_123 : decode cL_isRead 123 = .ok (.irem, 1) := by decide +kernel
theorem dL_isRead_124 : decode cL_isRead 124 = .ok (.ishr, 1) := by decide +kernel
theorem dL_isRead_125 : decode cL_isRead 125 = .ok (.ixor, 1) := by decide +kernel
theorem dL_isRead_126 : decode cL_isRead 126 = .ok (.iconst 3, 1) := by decide +kernel
theorem dL_isRead_127 : decode cL_isRead 127 = .ok (.iload 7, 2) := by decide +kernel
theorem dL_isRead_129 : decode cL_isRead 129 = .ok (.imul, 1) := by decide +kernel
theorem dL_isRead_130 : decode cL_isRead 130 = .ok (.ixor, 1) := by decide +kernel
theorem dL_isRead_131 : decode cL_isRead 131 = .ok (.bipush 10, 2) := by decide +kernel
theorem dL_isRead_133 : decode cL_isRead 133 = .ok (.invokestatic 28, 3) := by decide +kernel
theorem dL_isRead_136 : decode cL_isRead 136 = .ok (.iadd, 1) := by decide +kernel
theorem dL_isRead_137 : decode cL_isRead 137 = .ok (.i2c, 1) := by decide +kernel
theorem dL_isRead_138 : decode cL_isRead 138 = .ok (.invokevirtual 35, 3) := by decide +kernel
theorem dL_isRead_141 : decode cL_isRead 141 = .ok (.aload_n 1, 1) := by decide +kernel
theorem dL_isRead_142 : decode cL_isRead 142 = .ok (.bipush 57, 2) := by decide +kernel
theorem dL_isRead_144 : decode cL_isRead 144 = .ok (.iload_n 2, 1) := by decide +kernel
theorem dL_isRead_145 : decode cL_isRead 145 = .ok (.iload 8, 2) := by decide +kernel
theorem dL_isRead_147 : decode cL_isRead 147 = .ok (.bipush 17, 2) := by decide +kernel
theorem dL_isRead_149 : decode cL_isRead 149 = .ok (.irem, 1) := by decide +kernel
theorem dL_isRead_150 : decode cL_isRead 150 = .ok (.ishr, 1) := by decide +kernel
theorem dL_isRead_151 : decode cL_isRead 151 = .ok (.iload_n 3, 1) := by decide +kernel
theorem dL_isRead_152 : decode cL_isRead 152 = .ok (.iload 8, 2) := by decide +kernel
theorem dL_isRead_154 : decode cL_isRead 154 = .ok (.bipush 11, 2) := by decide +kernel
theorem dL_isRead_156 : decode cL_isRead 156 = .ok (.irem, 1) := by decide +kernel
theorem dL_isRead_157 : decode cL_isRead 157 = .ok (.ishr, 1) := by decide +kernel
theorem dL_isRead_158 : decode cL_isRead 158 = .ok (.ixor, 1) := by decide +kernel
theorem dL_isRead_159 : decode cL_isRead 159 = .ok (.iconst 3, 1) := by decide +kernel
theorem dL_isRead_160 : decode cL_isRead 160 = .ok (.iload 8, 2) := by decide +kernel
theorem dL_isRead_162 : decode cL_isRead 162 = .ok (.imul, 1) := by decide +kernel
theorem dL_isRead_163 : decode cL_isRead 163 = .ok (.ixor, 1) := by decide +kernel
theorem dL_isRead_164 : decode cL_isRead 164 = .ok (.bipush 10, 2) := by decide +kernel
theorem dL_isRead_166 : decode cL_isRead 166 = .ok (.invokestatic 28, 3) := by decide +kernel
theorem dL_isRead_169 : decode cL_isRead 169 = .ok (.isub, 1) := by decide +kernel
theorem dL_isRead_170 : decode cL_isRead 170 = .ok (.i2c, 1) := by decide +kernel
theorem dL_isRead_171 : decode cL_isRead 171 = .ok (.invokevirtual 35, 3) := by decide +kernel
theorem dL_isRead_174 : decode cL_isRead 174 = .ok (.if_icmp .ne 7, 3) := by decide +kernel
theorem dL_isRead_177 : decode cL_isRead 177 = .ok (.iconst 1, 1) := by decide +kernel
theorem dL_isRead_178 : decode cL_isRead 178 = .ok (.goto 4, 3) := by decide +kernel
theorem dL_isRead_181 : decode cL_isRead 181 = .ok (.iconst 0, 1) := by decide +kernel
theorem dL_isRead_182 : decode cL_isRead 182 = .ok (.istore 6, 2) := by decide +kernel
theorem dL_isRead_184 : decode cL_isRead 184 = .ok (.iinc 7 1, 3) := by decide +kernel
theorem dL_isRead_187 : decode cL_isRead 187 = .ok (.goto (-143), 3) := by decide +kernel
theorem dL_isRead_190 : decode cL_isRead 190 = .ok (.iload 6, 2) := by decide +kernel
theorem dL_isRead_192 : decode cL_isRead 192 = .ok (.ifCond .eq 22, 3) := by decide +kernel
theorem dL_isRead_195 : decode cL_isRead 195 = .ok (.aload_n 0, 1) := by decide +kernel
theorem dL_isRead_196 : decode cL_isRead 196 = .ok (.bipush 58, 2) := by decide +kernel
theorem dL_isRead_198 : decode cL_isRead 198 = .ok (.invokevirtual 35, 3) := by decide +kernel
theorem dL_isRead_201 : decode cL_isRead 201 = .ok (.aload_n 1, 1) := by decide +kernel
theorem dL_isRead_202 : decode cL_isRead 202 = .ok (.bipush 58, 2) := by decide +kernel
theorem dL_isRead_204 : decode cL_isRead 204 = .ok (.invokevirtual 35, 3) := by decide +kernel
theorem dL_isRead_207 : decode cL_isRead 207 = .ok (.if_icmp .ne 7, 3) := by decide +kernel
theorem dL_isRead_210 : decode cL_isRead 210 = .ok (.iconst 1, 1) := by decide +kernel
theorem dL_isRead_211 : decode cL_isRead 211 = .ok (.goto 4, 3) := by decide +kernel
theorem dL_isRead_214 : decode cL_isRead 214 = .ok (.iconst 0, 1) := by decide +kernel
theorem dL_isRead_215 : decode cL_isRead 215 = .ok (.istore 6, 2) := by decide +kernel
theorem dL_isRead_217 : decode cL_isRead 217 = .ok (.iconst 0, 1) := by decide +kernel
theorem dL_isRead_218 : decode cL_isRead 218 = .ok (.istore 7, 2) := by decide +kernel
theorem dL_isRead_220 : decode cL_isRead 220 = .ok (.iload 7, 2) := by decide +kernel
theorem dL_isRead_222 : decode cL_isRead 222 = .ok (.iload 5, 2) := by decide +kernel
theorem dL_isRead_224 : decode cL_isRead 224 = .ok (.if_icmp .ge 62, 3) := by decide +kernel
theorem dL_isRead_227 : decode cL_isRead 227 = .ok (.iload_n 3, 1) := by decide +kernel
theorem dL_isRead_228 : decode cL_isRead 228 = .ok (.iconst 2, 1) := by decide +kernel
theorem dL_isRead_229 : decode cL_isRead 229 = .ok (.iload 7, 2) := by decide +kernel
theorem dL_isRead_231 : decode cL_isRead 231 = .ok (.imul, 1) := by decide +kernel
theorem dL_isRead_232 : decode cL_isRead 232 = .ok (.ishr, 1) := by decide +kernel
theorem dL_isRead_233 : decode cL_isRead 233 = .ok (.iload 4, 2) := by decide +kernel
theorem dL_isRead_235 : decode cL_isRead 235 = .ok (.invokestatic 28, 3) := by decide +kernel
theorem dL_isRead_238 : decode cL_isRead 238 = .ok (.istore 8, 2) := by decide +kernel
theorem dL_isRead_240 : decode cL_isRead 240 = .ok (.iload 6, 2) := by decide +kernel
theorem dL_isRead_242 : decode cL_isRead 242 = .ok (.ifCond .eq 35, 3) := by decide +kernel
theorem dL_isRead_245 : decode cL_isRead 245 = .ok (.aload_n 0, 1) := by decide +kernel
theorem dL_isRead_246 : decode cL_isRead 246 = .ok (.bipush 48, 2) := by decide +kernel
theorem dL_isRead_248 : decode cL_isRead 248 = .ok (.iload 8, 2) := by decide +kernel
theorem dL_isRead_250 : decode cL_isRead 250 = .ok (.iadd, 1) := by decide +kernel
theorem dL_isRead_251 : decode cL_isRead 251 = .ok (.i2c, 1) := by decide +kernel
theorem dL_isRead_252 : decode cL_isRead 252 = .ok (.invokevirtual 35, 3) := by decide +kernel
theorem dL_isRead_255 : decode cL_isRead 255 = .ok (.aload_n 1, 1) := by decide +kernel
theorem dL_isRead_256 : decode cL_isRead 256 = .ok (.bipush 48, 2) := by decide +kernel
theorem dL_isRead_258 : decode cL_isRead 258 = .ok (.iload 4, 2) := by decide +kernel
theorem dL_isRead_260 : decode cL_isRead 260 = .ok (.iadd, 1) := by decide +kernel
theorem dL_isRead_261 : decode cL_isRead 261 = .ok (.iconst 1, 1) := by decide +kernel
theorem dL_isRead_262 : decode cL_isRead 262 = .ok (.isub, 1) := by decide +kernel
theorem dL_isRead_263 : decode cL_isRead 263 = .ok (.iload 8, 2) := by decide +kernel
theorem dL_isRead_265 : decode cL_isRead 265 = .ok (.isub, 1) := by decide +kernel
theorem dL_isRead_266 : decode cL_isRead 266 = .ok (.i2c, 1) := by decide +kernel
theorem dL_isRead_267 : decode cL_isRead 267 = .ok (.invokevirtual 35, 3) := by decide +kernel
theorem dL_isRead_270 : decode cL_isRead 270 = .ok (.if_icmp .ne 7, 3) := by decide +kernel
theorem dL_isRead_273 : decode cL_isRead 273 = .ok (.iconst 1, 1) := by decide +kernel
theorem dL_isRead_274 : decode cL_isRead 274 = .ok (.goto 4, 3) := by decide +kernel
theorem dL_isRead_277 : decode cL_isRead 277 = .ok (.iconst 0, 1) := by decide +kernel
theorem dL_isRead_278 : decode cL_isRead 278 = .ok (.istore 6, 2) := by decide +kernel
theorem dL_isRead_280 : decode cL_isRead 280 = .ok (.iinc 7 1, 3) := by decide +kernel
theorem dL_isRead_283 : decode cL_isRead 283 = .ok (.goto (-63), 3) := by decide +kernel
theorem dL_isRead_286 : decode cL_isRead 286 = .ok (.iload 6, 2) := by decide +kernel
theorem dL_isRead_288 : decode cL_isRead 288 = .ok (.ifCond .eq 35, 3) := by decide +kernel
theorem dL_isRead_291 : decode cL_isRead 291 = .ok (.aload_n 0, 1) := by decide +kernel
theorem dL_isRead_292 : decode cL_isRead 292 = .ok (.invokevirtual 39, 3) := by decide +kernel
theorem dL_isRead_295 : decode cL_isRead 295 = .ok (.iload 4, 2) := by decide +kernel
theorem dL_isRead_297 : decode cL_isRead 297 = .ok (.if_icmp .ne 26, 3) := by decide +kernel
theorem dL_isRead_300 : decode cL_isRead 300 = .ok (.aload_n 1, 1) := by decide +kernel
theorem dL_isRead_301 : decode cL_isRead 301 = .ok (.invokevirtual 39, 3) := by decide +kernel
theorem dL_isRead_304 : decode cL_isRead 304 = .ok (.iload 4, 2) := by decide +kernel
theorem dL_isRead_306 : decode cL_isRead 306 = .ok (.if_icmp .ne 17, 3) := by decide +kernel
theorem dL_isRead_309 : decode cL_isRead 309 = .ok (.aload_n 0, 1) := by decide +kernel
theorem dL_isRead_310 : decode cL_isRead 310 = .ok (.iconst 1, 1) := by decide +kernel
theorem dL_isRead_311 : decode cL_isRead 311 = .ok (.invokevirtual 9, 3) := by decide +kernel
theorem dL_isRead_314 : decode cL_isRead 314 = .ok (.iload 5, 2) := by decide +kernel
theorem dL_isRead_316 : decode cL_isRead 316 = .ok (.if_icmp .ne 7, 3) := by decide +kernel
theorem dL_isRead_319 : decode cL_isRead 319 = .ok (.iconst 1, 1) := by decide +kernel
theorem dL_isRead_320 : decode cL_isRead 320 = .ok (.goto 4, 3) := by decide +kernel
theorem dL_isRead_323 : decode cL_isRead 323 = .ok (.iconst 0, 1) := by decide +kernel
theorem dL_isRead_324 : decode cL_isRead 324 = .ok (.ireturn, 1) := by decide +kernel
theorem dL_isStep_0 : decode cL_isStep 0 = .ok (.iload_n 2, 1) := by decide +kernel
theorem dL_isStep_1 : decode cL_isStep 1 = .ok (.iconst 4, 1) := by decide +kernel
theorem dL_isStep_2 : decode cL_isStep 2 = .ok (.ishr, 1) := by decide +kernel
theorem dL_isStep_3 : decode cL_isStep 3 = .ok (.istore 4, 2) := by decide +kernel
theorem dL_isStep_5 : decode cL_isStep 5 = .ok (.aload_n 0, 1) := by decide +kernel
theorem dL_isStep_6 : decode cL_isStep 6 = .ok (.iconst 0, 1) := by decide +kernel
theorem dL_isStep_7 : decode cL_isStep 7 = .ok (.invokevirtual 9, 3) := by decide +kernel
theorem dL_isStep_10 : decode cL_isStep 10 = .ok (.istore 5, 2) := by decide +kernel
theorem dL_isStep_12 : decode cL_isStep 12 = .ok (.iload 4, 2) := by decide +kernel
theorem dL_isStep_14 : decode cL_isStep 14 = .ok (.iload 5, 2) := by decide +kernel
theorem dL_isStep_16 : decode cL_isStep 16 = .ok (.invokestatic 28, 3) := by decide +kernel
theorem dL_isStep_19 : decode cL_isStep 19 = .ok (.istore 6, 2) := by decide +kernel
theorem dL_isStep_21 : decode cL_isStep 21 = .ok (.iload 4, 2) := by decide +kernel
theorem dL_isStep_23 : decode cL_isStep 23 = .ok (.iconst 3, 1) := by decide +kernel
theorem dL_isStep_24 : decode cL_isStep 24 = .ok (.ishr, 1) := by decide +kernel
theorem dL_isStep_25 : decode cL_isStep 25 = .ok (.aload_n 0, 1) := by decide +kernel
theorem dL_isStep_26 : decode cL_isStep 26 = .ok (.iconst 1, 1) := by decide +kernel
theorem dL_isStep_27 : decode cL_isStep 27 = .ok (.invokevirtual 9, 3) := by decide +kernel
theorem dL_isStep_30 : decode cL_isStep 30 = .ok (.invokestatic 28, 3) := by decide +kernel
theorem dL_isStep_33 : decode cL_isStep 33 = .ok (.istore 7, 2) := by decide +kernel
theorem dL_isStep_35 : decode cL_isStep 35 = .ok (.iload_n 2, 1) := by decide +kernel
theorem dL_isStep_36 : decode cL_isStep 36 = .ok (.bipush 14, 2) := by decide +kernel
theorem dL_isStep_38 : decode cL_isStep 38 = .ok (.invokestatic 28, 3) := by decide +kernel
theorem dL_isStep_41 : decode cL_isStep 41 = .ok (.tableswitch 588 0 12 #[67, 67, 174, 232, 280, 280, 280, 382, 382, 423, 423, 461, 524], 67) := by decide +kernel
theorem dL_isStep_108 : decode cL_isStep 108 = .ok (.iload_n 3, 1) := by decide +kernel
theorem dL_isStep_109 : decode cL_isStep 109 = .ok (.bipush 12, 2) := by decide +kernel
theorem dL_isStep_111 : decode cL_isStep 111 = .ok (.invokestatic 28, 3) := by decide +kernel
theorem dL_isStep_114 : decode cL_isStep 114 = .ok (.istore 8, 2) := by decide +kernel
theorem dL_isStep_116 : decode cL_isStep 116 = .ok (.iload_n 3, 1) := by decide +kernel
theorem dL_isStep_117 : decode cL_isStep 117 = .ok (.iconst 5, 1) := by decide +kernel
theorem dL_isStep_118 : decode cL_isStep 118 = .ok (.ishr, 1) := by decide +kernel
theorem dL_isStep_119 : decode cL_isStep 119 = .ok (.bipush 10, 2) := by decide +kernel
theorem dL_isStep_121 : decode cL_isStep 121 = .ok (.invokestatic 28, 3) := by decide +kernel
theorem dL_isStep_124 : decode cL_isStep 124 = .ok (.istore 9, 2) := by decide +kernel
theorem dL_isStep_126 : decode cL_isStep 126 = .ok (.aload_n 0, 1) := by decide +kernel
theorem dL_isStep_127 : decode cL_isStep 127 = .ok (.iload 6, 2) := by decide +kernel
theorem dL_isStep_129 : decode cL_isStep 129 = .ok (.iload 8, 2) := by decide +kernel
theorem dL_isStep_131 : decode cL_isStep 131 = .ok (.invokevirtual 42, 3) := by decide +kernel
theorem dL_isStep_134 : decode cL_isStep 134 = .ok (.istore 10, 2) := by decide +kernel
theorem dL_isStep_136 : decode cL_isStep 136 = .ok (.aload_n 0, 1) := by decide +kernel
theorem dL_isStep_137 : decode cL_isStep 137 = .ok (.iload 6, 2) := by decide +kernel
theorem dL_isStep_139 : decode cL_isStep 139 = .ok (.iload 8, 2) := by decide +kernel
theorem dL_isStep_141 : decode cL_isStep 141 = .ok (.iload 9, 2) := by decide +kernel
theorem dL_isStep_143 : decode cL_isStep 143 = .ok (.invokevirtual 45, 3) := by decide +kernel
theorem dL_isStep_146 : decode cL_isStep 146 = .ok (.istore 11, 2) := by decide +kernel
theorem dL_isStep_148 : decode cL_isStep 148 = .ok (.aload_n 1, 1) := by decide +kernel
theorem dL_isStep_149 : decode cL_isStep 149 = .ok (.aload_n 0, 1) := by decide +kernel
theorem dL_isStep_150 : decode cL_isStep 150 = .ok (.iload 6, 2) := by decide +kernel
theorem dL_isStep_152 : decode cL_isStep 152 = .ok (.invokestatic 18, 3) := by decide +kernel
theorem dL_isStep_155 : decode cL_isStep 155 = .ok (.iload 8, 2) := by decide +kernel
theorem dL_isStep_157 : decode cL_isStep 157 = .ok (.bipush 9, 2) := by decide +kernel
theorem dL_isStep_159 : decode cL_isStep 159 = .ok (.iload 9, 2) := by decide +kernel
theorem dL_isStep_161 : decode cL_isStep 161 = .ok (.isub, 1) := by decide +kernel
theorem dL_isStep_162 : decode cL_isStep 162 = .ok (.invokevirtual 45, 3) := by decide +kernel
theorem dL_isStep_165 : decode cL_isStep 165 = .ok (.istore 12, 2) := by decide +kernel
theorem dL_isStep_167 : decode cL_isStep 167 = .ok (.iload 11, 2) := by decide +kernel
theorem dL_isStep_169 : decode cL_isStep 169 = .ok (.iload 10, 2) := by decide +kernel
theorem dL_isStep_171 : decode cL_isStep 171 = .ok (.iload 9, 2) := by decide +kernel
theorem dL_isStep_173 : decode cL_isStep 173 = .ok (.if_icmp .ne 8, 3) := by decide +kernel
theorem dL_isStep_176 : decode cL_isStep 176 = .ok (.bipush (-105), 2) := by decide +kernel
theorem dL_isStep_178 : decode cL_isStep 178 = .ok (.goto 5, 3) := by decide +kernel
theorem dL_isStep_181 : decode cL_isStep 181 = .ok (.iload 10, 2) := by decide +kernel
theorem dL_isStep_183 : decode cL_isStep 183 = .ok (.if_icmp .ne 30, 3) := by decide +kernel
theorem dL_isStep_186 : decode cL_isStep 186 = .ok (.iload 12, 2) := by decide +kernel
theorem dL_isStep_188 : decode cL_isStep 188 = .ok (.iload 11, 2) := by decide +kernel
theorem dL_isStep_190 : decode cL_isStep 190 = .ok (.invokestatic 49, 3) := by decide +kernel
theorem dL_isStep_193 : decode cL_isStep 193 = .ok (.if_icmp .ne 20, 3) := by decide +kernel
theorem dL_isStep_196 : decode cL_isStep 196 = .ok (.aload_n 0, 1) := by decide +kernel
theorem dL_isStep_197 : decode cL_isStep 197 = .ok (.iload 6, 2) := by decide +kernel
theorem dL_isStep_199 : decode cL_isStep 199 = .ok (.iload 8, 2) := by decide +kernel
theorem dL_isStep_201 : decode cL_isStep 201 = .ok (.invokevirtual 42, 3) := by decide +kernel
theorem dL_isStep_204 : decode cL_isStep 204 = .ok (.iload 9, 2) := by decide +kernel
theorem dL_isStep_206 : decode cL_isStep 206 = .ok (.if_icmp .ne 7, 3) := by decide +kernel
theorem dL_isStep_209 : decode cL_isStep 209 = .ok (.iconst 1, 1) := by decide +kernel
theorem dL_isStep_210 : decode cL_isStep 210 = .ok (.goto 4, 3) := by decide +kernel
theorem dL_isStep_213 : decode cL_isStep 213 = .ok (.iconst 0, 1) := by decide +kernel
theorem dL_isStep_214 : decode cL_isStep 214 = .ok (.ireturn, 1) := by decide +kernel
theorem dL_isStep_215 : decode cL_isStep 215 = .ok (.iload_n 3, 1) := by decide +kernel
theorem dL_isStep_216 : decode cL_isStep 216 = .ok (.iconst 3, 1) := by decide +kernel
theorem dL_isStep_217 : decode cL_isStep 217 = .ok (.invokestatic 28, 3) := by decide +kernel
theorem dL_isStep_220 : decode cL_isStep 220 = .ok (.ifCond .le 12, 3) := by decide +kernel
theorem dL_isStep_223 : decode cL_isStep 223 = .ok (.aload_n 0, 1) := by decide +kernel
theorem dL_isStep_224 : decode cL_isStep 224 = .ok (.aload_n 1, 1) := by decide +kernel
theorem dL_isStep_225 : decode cL_isStep 225 = .ok (.iload 4, 2) := by decide +kernel
theorem dL_isStep_227 : decode cL_isStep 227 = .ok (.iload_n 3, 1) := by decide +kernel
theorem dL_isStep_228 : decode cL_isStep 228 = .ok (.invokestatic 51, 3) := by decide +kernel
theorem dL_isStep_231 : decode cL_isStep 231 = .ok (.ireturn, 1) := by decide +kernel
theorem dL_isStep_232 : decode cL_isStep 232 = .ok (.aload_n 0, 1) := by decide +kernel
theorem dL_isStep_233 : decode cL_isStep 233 = .ok (.iload 6, 2) := by decide +kernel
theorem dL_isStep_235 : decode cL_isStep 235 = .ok (.iload_n 3, 1) := by decide +kernel
theorem dL_isStep_236 : decode cL_isStep 236 = .ok (.iload 5, 2) := by decide +kernel
theorem dL_isStep_238 : decode cL_isStep 238 = .ok (.invokestatic 28, 3) := by decide +kernel
theorem dL_isStep_241 : decode cL_isStep 241 = .ok (.invokevirtual 55, 3) := by decide +kernel
theorem dL_isStep_244 : decode cL_isStep 244 = .ok (.aload_n 1, 1) := by decide +kernel
theorem dL_isStep_245 : decode cL_isStep 245 = .ok (.aload_n 0, 1) := by decide +kernel
theorem dL_isStep_246 : decode cL_isStep 246 = .ok (.iload 6, 2) := by decide +kernel
theorem dL_isStep_248 : decode cL_isStep 248 = .ok (.invokestatic 18, 3) := by decide +kernel
theorem dL_isStep_251 : decode cL_isStep 251 = .ok (.aload_n 0, 1) := by decide +kernel
theorem dL_isStep_252 : decode cL_isStep 252 = .ok (.iload_n 3, 1) := by decide +kernel
theorem dL_isStep_253 : decode cL_isStep 253 = .ok (.iload 5, 2) := by decide +kernel
theorem dL_isStep_255 : decode cL_isStep 255 = .ok (.invokestatic 28, 3) := by decide +kernel
theorem dL_isStep_258 : decode cL_isStep 258 = .ok (.invokestatic 18, 3) := by decide +kernel
theorem dL_isStep_261 : decode cL_isStep 261 = .ok (.invokevirtual 55, 3) := by decide +kernel
theorem dL_isStep_264 : decode cL_isStep 264 = .ok (.if_icmp .ne 7, 3) := by decide +kernel
theorem dL_isStep_267 : decode cL_isStep 267 = .ok (.iconst 1, 1) := by decide +kernel
theorem dL_isStep_268 : decode cL_isStep 268 = .ok (.goto 4, 3) := by decide +kernel
theorem dL_isStep_271 : decode cL_isStep 271 = .ok (.iconst 0, 1) := by decide +kernel
theorem dL_isStep_272 : decode cL_isStep 272 = .ok (.ireturn, 1) := by decide +kernel
theorem dL_isStep_273 : decode cL_isStep 273 = .ok (.iconst 2, 1) := by decide +kernel
theorem dL_isStep_274 : decode cL_isStep 274 = .ok (.iload_n 3, 1) := by decide +kernel
theorem dL_isStep_275 : decode cL_isStep 275 = .ok (.iconst 5, 1) := by decide +kernel
theorem dL_isStep_276 : decode cL_isStep 276 = .ok (.invokestatic 28, 3) := by decide +kernel
theorem dL_isStep_279 : decode cL_isStep 279 = .ok (.iadd, 1) := by decide +kernel
theorem dL_isStep_280 : decode cL_isStep 280 = .ok (.istore 8, 2) := by decide +kernel
theorem dL_isStep_282 : decode cL_isStep 282 = .ok (.aload_n 0, 1) := by decide +kernel
theorem dL_isStep_283 : decode cL_isStep 283 = .ok (.iload 8, 2) := by decide +kernel
theorem dL_isStep_285 : decode cL_isStep 285 = .ok (.invokevirtual 58, 3) := by decide +kernel
theorem dL_isStep_288 : decode cL_isStep 288 = .ok (.aload_n 1, 1) := by decide +kernel
theorem dL_isStep_289 : decode cL_isStep 289 = .ok (.iload 8, 2) := by decide +kernel
theorem dL_isStep_291 : decode cL_isStep 291 = .ok (.invokevirtual 58, 3) := by decide +kernel
theorem dL_isStep_294 : decode cL_isStep 294 = .ok (.if_icmp .ne 25, 3) := by decide +kernel
theorem dL_isStep_297 : decode cL_isStep 297 = .ok (.aload_n 0, 1) := by decide +kernel
theorem dL_isStep_298 : decode cL_isStep 298 = .ok (.aload_n 1, 1) := by decide +kernel
theorem dL_isStep_299 : decode cL_isStep 299 = .ok (.invokestatic 61, 3) := by decide +kernel
theorem dL_isStep_302 : decode cL_isStep 302 = .ok (.ifCond .eq 17, 3) := by decide +kernel
theorem dL_isStep_305 : decode cL_isStep 305 = .ok (.aload_n 0, 1) := by decide +kernel
theorem dL_isStep_306 : decode cL_isStep 306 = .ok (.iconst 1, 1) := by decide +kernel
theorem dL_isStep_307 : decode cL_isStep 307 = .ok (.invokevirtual 9, 3) := by decide +kernel
theorem dL_isStep_310 : decode cL_isStep 310 = .ok (.iload 8, 2) := by decide +kernel
theorem dL_isStep_312 : decode cL_isStep 312 = .ok (.if_icmp .ne 7, 3) := by decide +kernel
theorem dL_isStep_315 : decode cL_isStep 315 = .ok (.iconst 1, 1) := by decide +kernel
theorem dL_isStep_316 : decode cL_isStep 316 = .ok (.goto 4, 3) := by decide +kernel
theorem dL_isStep_319 : decode cL_isStep 319 = .ok (.iconst 0, 1) := by decide +kernel
theorem dL_isStep_320 : decode cL_isStep 320 = .ok (.ireturn, 1) := by decide +kernel
theorem dL_isStep_321 : decode cL_isStep 321 = .ok (.iload_n 3, 1) := by decide +kernel
theorem dL_isStep_322 : decode cL_isStep 322 = .ok (.iload 5, 2) := by decide +kernel
theorem dL_isStep_324 : decode cL_isStep 324 = .ok (.invokestatic 28, 3) := by decide +kernel
theorem dL_isStep_327 : decode cL_isStep 327 = .ok (.istore 8, 2) := by decide +kernel
theorem dL_isStep_329 : decode cL_isStep 329 = .ok (.aload_n 0, 1) := by decide +kernel
theorem dL_isStep_330 : decode cL_isStep 330 = .ok (.iload 7, 2) := by decide +kernel
theorem dL_isStep_332 : decode cL_isStep 332 = .ok (.invokevirtual 15, 3) := by decide +kernel
theorem dL_isStep_335 : decode cL_isStep 335 = .ok (.istore 9, 2) := by decide +kernel
theorem dL_isStep_337 : decode cL_isStep 337 = .ok (.aload_n 0, 1) := by decide +kernel
theorem dL_isStep_338 : decode cL_isStep 338 = .ok (.iload 7, 2) := by decide +kernel
theorem dL_isStep_340 : decode cL_isStep 340 = .ok (.iload 8, 2) := by decide +kernel
theorem dL_isStep_342 : decode cL_isStep 342 = .ok (.invokevirtual 65, 3) := by decide +kernel
theorem dL_isStep_345 : decode cL_isStep 345 = .ok (.istore 10, 2) := by decide +kernel
theorem dL_isStep_347 : decode cL_isStep 347 = .ok (.aload_n 0, 1) := by decide +kernel
theorem dL_isStep_348 : decode cL_isStep 348 = .ok (.iload 7, 2) := by decide +kernel
theorem dL_isStep_350 : decode cL_isStep 350 = .ok (.iload 8, 2) := by decide +kernel
theorem dL_isStep_352 : decode cL_isStep 352 = .ok (.invokevirtual 24, 3) := by decide +kernel
theorem dL_isStep_355 : decode cL_isStep 355 = .ok (.istore 11, 2) := by decide +kernel
theorem dL_isStep_357 : decode cL_isStep 357 = .ok (.iload 11, 2) := by decide +kernel
theorem dL_isStep_359 : decode cL_isStep 359 = .ok (.iload 9, 2) := by decide +kernel
theorem dL_isStep_361 : decode cL_isStep 361 = .ok (.iload 8, 2) := by decide +kernel
theorem dL_isStep_363 : decode cL_isStep 363 = .ok (.if_icmp .ne 8, 3) := by decide +kernel
theorem dL_isStep_366 : decode cL_isStep 366 = .ok (.bipush (-105), 2) := by decide +kernel
theorem dL_isStep_368 : decode cL_isStep 368 = .ok (.goto 5, 3) := by decide +kernel
theorem dL_isStep_371 : decode cL_isStep 371 = .ok (.iload 9, 2) := by decide +kernel
theorem dL_isStep_373 : decode cL_isStep 373 = .ok (.if_icmp .ne 48, 3) := by decide +kernel
theorem dL_isStep_376 : decode cL_isStep 376 = .ok (.aload_n 1, 1) := by decide +kernel
theorem dL_isStep_377 : decode cL_isStep 377 = .ok (.iload 7, 2) := by decide +kernel
theorem dL_isStep_379 : decode cL_isStep 379 = .ok (.aload_n 0, 1) := by decide +kernel
theorem dL_isStep_380 : decode cL_isStep 380 = .ok (.iload 8, 2) := by decide +kernel
theorem dL_isStep_382 : decode cL_isStep 382 = .ok (.invokestatic 18, 3) := by decide +kernel
theorem dL_isStep_385 : decode cL_isStep 385 = .ok (.invokevirtual 24, 3) := by decide +kernel
theorem dL_isStep_388 : decode cL_isStep 388 = .ok (.iload 11, 2) := by decide +kernel
theorem dL_isStep_390 : decode cL_isStep 390 = .ok (.ifCond .ge 8, 3) := by decide +kernel
theorem dL_isStep_393 : decode cL_isStep 393 = .ok (.iload 11, 2) := by decide +kernel
theorem dL_isStep_395 : decode cL_isStep 395 = .ok (.goto 9, 3) := by decide +kernel
theorem dL_isStep_398 : decode cL_isStep 398 = .ok (.aload_n 0, 1) := by decide +kernel
theorem dL_isStep_399 : decode cL_isStep 399 = .ok (.iload 11, 2) := by decide +kernel
theorem dL_isStep_401 : decode cL_isStep 401 = .ok (.invokestatic 18, 3) := by decide +kernel
theorem dL_isStep_404 : decode cL_isStep 404 = .ok (.if_icmp .ne 17, 3) := by decide +kernel
theorem dL_isStep_407 : decode cL_isStep 407 = .ok (.aload_n 0, 1) := by decide +kernel
theorem dL_isStep_408 : decode cL_isStep 408 = .ok (.iconst 4, 1) := by decide +kernel
theorem dL_isStep_409 : decode cL_isStep 409 = .ok (.invokevirtual 9, 3) := by decide +kernel
theorem dL_isStep_412 : decode cL_isStep 412 = .ok (.iload 10, 2) := by decide +kernel
theorem dL_isStep_414 : decode cL_isStep 414 = .ok (.if_icmp .ne 7, 3) := by decide +kernel
theorem dL_isStep_417 : decode cL_isStep 417 = .ok (.iconst 1, 1) := by decide +kernel
theorem dL_isStep_418 : decode cL_isStep 418 = .ok (.goto 4, 3) := by decide +kernel
theorem dL_isStep_421 : decode cL_isStep 421 = .ok (.iconst 0, 1) := by decide +kernel
theorem dL_isStep_422 : decode cL_isStep 422 = .ok (.ireturn, 1) := by decide +kernel
theorem dL_isStep_423 : decode cL_isStep 423 = .ok (.iload_n 3, 1) := by decide +kernel
theorem dL_isStep_424 : decode cL_isStep 424 = .ok (.bipush 7, 2) := by decide +kernel
theorem dL_isStep_426 : decode cL_isStep 426 = .ok (.invokestatic 28, 3) := by decide +kernel
theorem dL_isStep_429 : decode cL_isStep 429 = .ok (.iconst 3, 1) := by decide +kernel
theorem dL_isStep_430 : decode cL_isStep 430 = .ok (.isub, 1) := by decide +kernel
theorem dL_isStep_431 : decode cL_isStep 431 = .ok (.istore 8, 2) := by decide +kernel
theorem dL_isStep_433 : decode cL_isStep 433 = .ok (.aload_n 0, 1) := by decide +kernel
theorem dL_isStep_434 : decode cL_isStep 434 = .ok (.iload 8, 2) := by decide +kernel
theorem dL_isStep_436 : decode cL_isStep 436 = .ok (.invokevirtual 68, 3) := by decide +kernel
theorem dL_isStep_439 : decode cL_isStep 439 = .ok (.aload_n 1, 1) := by decide +kernel
theorem dL_isStep_440 : decode cL_isStep 440 = .ok (.iload 8, 2) := by decide +kernel
theorem dL_isStep_442 : decode cL_isStep 442 = .ok (.invokevirtual 68, 3) := by decide +kernel
theorem dL_isStep_445 : decode cL_isStep 445 = .ok (.if_icmp .ne 17, 3) := by decide +kernel
theorem dL_isStep_448 : decode cL_isStep 448 = .ok (.aload_n 0, 1) := by decide +kernel
theorem dL_isStep_449 : decode cL_isStep 449 = .ok (.iconst 2, 1) := by decide +kernel
theorem dL_isStep_450 : decode cL_isStep 450 = .ok (.invokevirtual 9, 3) := by decide +kernel
theorem dL_isStep_453 : decode cL_isStep 453 = .ok (.iload 8, 2) := by decide +kernel
theorem dL_isStep_455 : decode cL_isStep 455 = .ok (.if_icmp .ne 7, 3) := by decide +kernel
theorem dL_isStep_458 : decode cL_isStep 458 = .ok (.iconst 1, 1) := by decide +kernel
theorem dL_isStep_459 : decode cL_isStep 459 = .ok (.goto 4, 3) := by decide +kernel
theorem dL_isStep_462 : decode cL_isStep 462 = .ok (.iconst 0, 1) := by decide +kernel
theorem dL_isStep_463 : decode cL_isStep 463 = .ok (.ireturn, 1) := by decide +kernel
theorem dL_isStep_464 : decode cL_isStep 464 = .ok (.iload_n 3, 1) := by decide +kernel
theorem dL_isStep_465 : decode cL_isStep 465 = .ok (.iconst 4, 1) := by decide +kernel
theorem dL_isStep_466 : decode cL_isStep 466 = .ok (.invokestatic 28, 3) := by decide +kernel
theorem dL_isStep_469 : decode cL_isStep 469 = .ok (.istore 8, 2) := by decide +kernel
theorem dL_isStep_471 : decode cL_isStep 471 = .ok (.aload_n 0, 1) := by decide +kernel
theorem dL_isStep_472 : decode cL_isStep 472 = .ok (.iload 8, 2) := by decide +kernel
theorem dL_isStep_474 : decode cL_isStep 474 = .ok (.invokevirtual 71, 3) := by decide +kernel
theorem dL_isStep_477 : decode cL_isStep 477 = .ok (.aload_n 1, 1) := by decide +kernel
theorem dL_isStep_478 : decode cL_isStep 478 = .ok (.iload 8, 2) := by decide +kernel
theorem dL_isStep_480 : decode cL_isStep 480 = .ok (.invokevirtual 71, 3) := by decide +kernel
theorem dL_isStep_483 : decode cL_isStep 483 = .ok (.if_icmp .ne 17, 3) := by decide +kernel
theorem dL_isStep_486 : decode cL_isStep 486 = .ok (.aload_n 0, 1) := by decide +kernel
theorem dL_isStep_487 : decode cL_isStep 487 = .ok (.iconst 3, 1) := by decide +kernel
theorem dL_isStep_488 : decode cL_isStep 488 = .ok (.invokevirtual 9, 3) := by decide +kernel
theorem dL_isStep_491 : decode cL_isStep 491 = .ok (.iload 8, 2) := by decide +kernel
theorem dL_isStep_493 : decode cL_isStep 493 = .ok (.if_icmp .ne 7, 3) := by decide +kernel
theorem dL_isStep_496 : decode cL_isStep 496 = .ok (.iconst 1, 1) := by decide +kernel
theorem dL_isStep_497 : decode cL_isStep 497 = .ok (.goto 4, 3) := by decide +kernel
theorem dL_isStep_500 : decode cL_isStep 500 = .ok (.iconst 0, 1) := by decide +kernel
theorem dL_isStep_501 : decode cL_isStep 501 = .ok (.ireturn, 1) := by decide +kernel
theorem dL_isStep_502 : decode cL_isStep 502 = .ok (.iconst 1, 1) := by decide +kernel
theorem dL_isStep_503 : decode cL_isStep 503 = .ok (.iload_n 3, 1) := by decide +kernel
theorem dL_isStep_504 : decode cL_isStep 504 = .ok (.sipush 999, 3) := by decide +kernel
theorem dL_isStep_507 : decode cL_isStep 507 = .ok (.invokestatic 28, 3) := by decide +kernel
theorem dL_isStep_510 : decode cL_isStep 510 = .ok (.iadd, 1) := by decide +kernel
theorem dL_isStep_511 : decode cL_isStep 511 = .ok (.istore 8, 2) := by decide +kernel
theorem dL_isStep_513 : decode cL_isStep 513 = .ok (.aload_n 0, 1) := by decide +kernel
theorem dL_isStep_514 : decode cL_isStep 514 = .ok (.iload 8, 2) := by decide +kernel
theorem dL_isStep_516 : decode cL_isStep 516 = .ok (.invokevirtual 74, 3) := by decide +kernel
theorem dL_isStep_519 : decode cL_isStep 519 = .ok (.istore 9, 2) := by decide +kernel
theorem dL_isStep_521 : decode cL_isStep 521 = .ok (.iload 9, 2) := by decide +kernel
theorem dL_isStep_523 : decode cL_isStep 523 = .ok (.aload_n 1, 1) := by decide +kernel
theorem dL_isStep_524 : decode cL_isStep 524 = .ok (.iload 8, 2) := by decide +kernel
theorem dL_isStep_526 : decode cL_isStep 526 = .ok (.invokevirtual 74, 3) := by decide +kernel
theorem dL_isStep_529 : decode cL_isStep 529 = .ok (.if_icmp .ne 34, 3) := by decide +kernel
theorem dL_isStep_532 : decode cL_isStep 532 = .ok (.iload 9, 2) := by decide +kernel
theorem dL_isStep_534 : decode cL_isStep 534 = .ok (.ifCond .lt 25, 3) := by decide +kernel
theorem dL_isStep_537 : decode cL_isStep 537 = .ok (.iload 9, 2) := by decide +kernel
theorem dL_isStep_539 : decode cL_isStep 539 = .ok (.aload_n 0, 1) := by decide +kernel
theorem dL_isStep_540 : decode cL_isStep 540 = .ok (.bipush 6, 2) := by decide +kernel
theorem dL_isStep_542 : decode cL_isStep 542 = .ok (.invokevirtual 9, 3) := by decide +kernel
theorem dL_isStep_545 : decode cL_isStep 545 = .ok (.iload 5, 2) := by decide +kernel
theorem dL_isStep_547 : decode cL_isStep 547 = .ok (.if_icmp .ne 8, 3) := by decide +kernel
theorem dL_isStep_550 : decode cL_isStep 550 = .ok (.iload 8, 2) := by decide +kernel
theorem dL_isStep_552 : decode cL_isStep 552 = .ok (.goto 4, 3) := by decide +kernel
theorem dL_isStep_555 : decode cL_isStep 555 = .ok (.iconst 0, 1) := by decide +kernel
theorem dL_isStep_556 : decode cL_isStep 556 = .ok (.if_icmp .ne 7, 3) := by decide +kernel
theorem dL_isStep_559 : decode cL_isStep 559 = .ok (.iconst 1, 1) := by decide +kernel
theorem dL_isStep_560 : decode cL_isStep 560 = .ok (.goto 4, 3) := by decide +kernel
theorem dL_isStep_563 : decode cL_isStep 563 = .ok (.iconst 0, 1) := by decide +kernel
theorem dL_isStep_564 : decode cL_isStep 564 = .ok (.ireturn, 1) := by decide +kernel
theorem dL_isStep_565 : decode cL_isStep 565 = .ok (.iload 5, 2) := by decide +kernel
theorem dL_isStep_567 : decode cL_isStep 567 = .ok (.iconst 2, 1) := by decide +kernel
theorem dL_isStep_568 : decode cL_isStep 568 = .ok (.if_icmp .eq 11, 3) := by decide +kernel
theorem dL_isStep_571 : decode cL_isStep 571 = .ok (.iload_n 3, 1) := by decide +kernel
theorem dL_isStep_572 : decode cL_isStep 572 = .ok (.iconst 3, 1) := by decide +kernel
theorem dL_isStep_573 : decode cL_isStep 573 = .ok (.invokestatic 28, 3) := by decide +kernel
theorem dL_isStep_576 : decode cL_isStep 576 = .ok (.ifCond .le 5, 3) := by decide +kernel
theorem dL_isStep_579 : decode cL_isStep 579 = .ok (.iconst 1, 1) := by decide +kernel
theorem dL_isStep_580 : decode cL_isStep 580 = .ok (.ireturn, 1) := by decide +kernel
theorem dL_isStep_581 : decode cL_isStep 581 = .ok (.aload_n 0, 1) := by decide +kernel
theorem dL_isStep_582 : decode cL_isStep 582 = .ok (.iload 6, 2) := by decide +kernel
theorem dL_isStep_584 : decode cL_isStep 584 = .ok (.invokestatic 18, 3) := by decide +kernel
theorem dL_isStep_587 : decode cL_isStep 587 = .ok (.istore 8, 2) := by decide +kernel
theorem dL_isStep_589 : decode cL_isStep 589 = .ok (.aload_n 0, 1) := by decide +kernel
theorem dL_isStep_590 : decode cL_isStep 590 = .ok (.iload 6, 2) := by decide +kernel
theorem dL_isStep_592 : decode cL_isStep 592 = .ok (.invokevirtual 77, 3) := by decide +kernel
theorem dL_isStep_595 : decode cL_isStep 595 = .ok (.iload 5, 2) := by decide +kernel
theorem dL_isStep_597 : decode cL_isStep 597 = .ok (.iconst 1, 1) := by decide +kernel
theorem dL_isStep_598 : decode cL_isStep 598 = .ok (.isub, 1) := by decide +kernel
theorem dL_isStep_599 : decode cL_isStep 599 = .ok (.if_icmp .ne 28, 3) := by decide +kernel
theorem dL_isStep_602 : decode cL_isStep 602 = .ok (.aload_n 1, 1) := by decide +kernel
theorem dL_isStep_603 : decode cL_isStep 603 = .ok (.iload 8, 2) := by decide +kernel
theorem dL_isStep_605 : decode cL_isStep 605 = .ok (.invokevirtual 77, 3) := by decide +kernel
theorem dL_isStep_608 : decode cL_isStep 608 = .ok (.iload 5, 2) := by decide +kernel
theorem dL_isStep_610 : decode cL_isStep 610 = .ok (.iconst 1, 1) := by decide +kernel
theorem dL_isStep_611 : decode cL_isStep 611 = .ok (.isub, 1) := by decide +kernel
theorem dL_isStep_612 : decode cL_isStep 612 = .ok (.if_icmp .ne 15, 3) := by decide +kernel
theorem dL_isStep_615 : decode cL_isStep 615 = .ok (.aload_n 0, 1) := by decide +kernel
theorem dL_isStep_616 : decode cL_isStep 616 = .ok (.aload_n 1, 1) := by decide +kernel
theorem dL_isStep_617 : decode cL_isStep 617 = .ok (.invokestatic 61, 3) := by decide +kernel
theorem dL_isStep_620 : decode cL_isStep 620 = .ok (.ifCond .eq 7, 3) := by decide +kernel
theorem dL_isStep_623 : decode cL_isStep 623 = .ok (.iconst 1, 1) := by decide +kernel
theorem dL_isStep_624 : decode cL_isStep 624 = .ok (.goto 4, 3) := by decide +kernel
theorem dL_isStep_627 : decode cL_isStep 627 = .ok (.iconst 0, 1) := by decide +kernel
theorem dL_isStep_628 : decode cL_isStep 628 = .ok (.ireturn, 1) := by decide +kernel
theorem dL_isStep_629 : decode cL_isStep 629 = .ok (.aload_n 0, 1) := by decide +kernel
theorem dL_isStep_630 : decode cL_isStep 630 = .ok (.invokevirtual 80, 3) := by decide +kernel
theorem dL_isStep_633 : decode cL_isStep 633 = .ok (.istore 8, 2) := by decide +kernel
theorem dL_isStep_635 : decode cL_isStep 635 = .ok (.iload 8, 2) := by decide +kernel
theorem dL_isStep_637 : decode cL_isStep 637 = .ok (.aload_n 1, 1) := by decide +kernel
theorem dL_isStep_638 : decode cL_isStep 638 = .ok (.invokevirtual 80, 3) := by decide +kernel
theorem dL_isStep_641 : decode cL_isStep 641 = .ok (.if_icmp .ne 20, 3) := by decide +kernel
theorem dL_isStep_644 : decode cL_isStep 644 = .ok (.iload 8, 2) := by decide +kernel
theorem dL_isStep_646 : decode cL_isStep 646 = .ok (.bipush (-3), 2) := by decide +kernel
theorem dL_isStep_648 : decode cL_isStep 648 = .ok (.if_icmp .lt 13, 3) := by decide +kernel
theorem dL_isStep_651 : decode cL_isStep 651 = .ok (.iload 8, 2) := by decide +kernel
theorem dL_isStep_653 : decode cL_isStep 653 = .ok (.iconst 3, 1) := by decide +kernel
theorem dL_isStep_654 : decode cL_isStep 654 = .ok (.if_icmp .gt 7, 3) := by decide +kernel
theorem dL_isStep_657 : decode cL_isStep 657 = .ok (.iconst 1, 1) := by decide +kernel
theorem dL_isStep_658 : decode cL_isStep 658 = .ok (.goto 4, 3) := by decide +kernel
theorem dL_isStep_661 : decode cL_isStep 661 = .ok (.iconst 0, 1) := by decide +kernel
theorem dL_isStep_662 : decode cL_isStep 662 = .ok (.ireturn, 1) := by decide +kernel
theorem dL_areAlike_0 : decode cL_areAlike 0 = .ok (.iconst 1, 1) := by decide +kernel
theorem dL_areAlike_1 : decode cL_areAlike 1 = .ok (.istore_n 2, 1) := by decide +kernel
theorem dL_areAlike_2 : decode cL_areAlike 2 = .ok (.iconst 0, 1) := by decide +kernel
theorem dL_areAlike_3 : decode cL_areAlike 3 = .ok (.istore_n 3, 1) := by decide +kernel
theorem dL_areAlike_4 : decode cL_areAlike 4 = .ok (.iload_n 3, 1) := by decide +kernel
theorem dL_areAlike_5 : decode cL_areAlike 5 = .ok (.bipush 11, 2) := by decide +kernel
theorem dL_areAlike_7 : decode cL_areAlike 7 = .ok (.if_icmp .ge 32, 3) := by decide +kernel
theorem dL_areAlike_10 : decode cL_areAlike 10 = .ok (.iload_n 2, 1) := by decide +kernel
theorem dL_areAlike_11 : decode cL_areAlike 11 = .ok (.ifCond .eq 20, 3) := by decide +kernel
theorem dL_areAlike_14 : decode cL_areAlike 14 = .ok (.aload_n 0, 1) := by decide +kernel
theorem dL_areAlike_15 : decode cL_areAlike 15 = .ok (.iload_n 3, 1) := by decide +kernel
theorem dL_areAlike_16 : decode cL_areAlike 16 = .ok (.invokevirtual 9, 3) := by decide +kernel
theorem dL_areAlike_19 : decode cL_areAlike 19 = .ok (.aload_n 1, 1) := by decide +kernel
theorem dL_areAlike_20 : decode cL_areAlike 20 = .ok (.iload_n 3, 1) := by decide +kernel
theorem dL_areAlike_21 : decode cL_areAlike 21 = .ok (.invokevirtual 9, 3) := by decide +kernel
theorem dL_areAlike_24 : decode cL_areAlike 24 = .ok (.if_icmp .ne 7, 3) := by decide +kernel
theorem dL_areAlike_27 : decode cL_areAlike 27 = .ok (.iconst 1, 1) := by decide +kernel
theorem dL_areAlike_28 : decode cL_areAlike 28 = .ok (.goto 4, 3) := by decide +kernel
theorem dL_areAlike_31 : decode cL_areAlike 31 = .ok (.iconst 0, 1) := by decide +kernel
theorem dL_areAlike_32 : decode cL_areAlike 32 = .ok (.istore_n 2, 1) := by decide +kernel
theorem dL_areAlike_33 : decode cL_areAlike 33 = .ok (.iinc 3 1, 3) := by decide +kernel
theorem dL_areAlike_36 : decode cL_areAlike 36 = .ok (.goto (-32), 3) := by decide +kernel
theorem dL_areAlike_39 : decode cL_areAlike 39 = .ok (.iconst 0, 1) := by decide +kernel
theorem dL_areAlike_40 : decode cL_areAlike 40 = .ok (.istore_n 3, 1) := by decide +kernel
theorem dL_areAlike_41 : decode cL_areAlike 41 = .ok (.iload_n 3, 1) := by decide +kernel
theorem dL_areAlike_42 : decode cL_areAlike 42 = .ok (.aload_n 0, 1) := by decide +kernel
theorem dL_areAlike_43 : decode cL_areAlike 43 = .ok (.iconst 1, 1) := by decide +kernel
theorem dL_areAlike_44 : decode cL_areAlike 44 = .ok (.invokevirtual 9, 3) := by decide +kernel
theorem dL_areAlike_47 : decode cL_areAlike 47 = .ok (.if_icmp .ge 36, 3) := by decide +kernel
theorem dL_areAlike_50 : decode cL_areAlike 50 = .ok (.iload_n 2, 1) := by decide +kernel
theorem dL_areAlike_51 : decode cL_areAlike 51 = .ok (.ifCond .eq 24, 3) := by decide +kernel
theorem dL_areAlike_54 : decode cL_areAlike 54 = .ok (.aload_n 0, 1) := by decide +kernel
theorem dL_areAlike_55 : decode cL_areAlike 55 = .ok (.aload_n 0, 1) := by decide +kernel
theorem dL_areAlike_56 : decode cL_areAlike 56 = .ok (.iload_n 3, 1) := by decide +kernel
theorem dL_areAlike_57 : decode cL_areAlike 57 = .ok (.invokevirtual 15, 3) := by decide +kernel
theorem dL_areAlike_60 : decode cL_areAlike 60 = .ok (.invokestatic 18, 3) := by decide +kernel
theorem dL_areAlike_63 : decode cL_areAlike 63 = .ok (.aload_n 1, 1) := by decide +kernel
theorem dL_areAlike_64 : decode cL_areAlike 64 = .ok (.iload_n 3, 1) := by decide +kernel
theorem dL_areAlike_65 : decode cL_areAlike 65 = .ok (.invokevirtual 15, 3) := by decide +kernel
theorem dL_areAlike_68 : decode cL_areAlike 68 = .ok (.if_icmp .ne 7, 3) := by decide +kernel
theorem dL_areAlike_71 : decode cL_areAlike 71 = .ok (.iconst 1, 1) := by decide +kernel
theorem dL_areAlike_72 : decode cL_areAlike 72 = .ok (.goto 4, 3) := by decide +kernel
theorem dL_areAlike_75 : decode cL_areAlike 75 = .ok (.iconst 0, 1) := by decide +kernel
theorem dL_areAlike_76 : decode cL_areAlike 76 = .ok (.istore_n 2, 1) := by decide +kernel
theorem dL_areAlike_77 : decode cL_areAlike 77 = .ok (.iinc 3 1, 3) := by decide +kernel
theorem dL_areAlike_80 : decode cL_areAlike 80 = .ok (.goto (-39), 3) := by decide +kernel
theorem dL_areAlike_83 : decode cL_areAlike 83 = .ok (.iconst 0, 1) := by decide +kernel
theorem dL_areAlike_84 : decode cL_areAlike 84 = .ok (.istore_n 3, 1) := by decide +kernel
theorem dL_areAlike_85 : decode cL_areAlike 85 = .ok (.iload_n 3, 1) := by decide +kernel
theorem dL_areAlike_86 : decode cL_areAlike 86 = .ok (.bipush 12, 2) := by decide +kernel
theorem dL_areAlike_88 : decode cL_areAlike 88 = .ok (.aload_n 0, 1) := by decide +kernel
theorem dL_areAlike_89 : decode cL_areAlike 89 = .ok (.iconst 0, 1) := by decide +kernel
theorem dL_areAlike_90 : decode cL_areAlike 90 = .ok (.invokevirtual 9, 3) := by decide +kernel
theorem dL_areAlike_93 : decode cL_areAlike 93 = .ok (.imul, 1) := by decide +kernel
theorem dL_areAlike_94 : decode cL_areAlike 94 = .ok (.if_icmp .ge 53, 3) := by decide +kernel
theorem dL_areAlike_97 : decode cL_areAlike 97 = .ok (.iload_n 2, 1) := by decide +kernel
theorem dL_areAlike_98 : decode cL_areAlike 98 = .ok (.ifCond .eq 41, 3) := by decide +kernel
theorem dL_areAlike_101 : decode cL_areAlike 101 = .ok (.aload_n 0, 1) := by decide +kernel
theorem dL_areAlike_102 : decode cL_areAlike 102 = .ok (.iload_n 3, 1) := by decide +kernel
theorem dL_areAlike_103 : decode cL_areAlike 103 = .ok (.bipush 12, 2) := by decide +kernel
theorem dL_areAlike_105 : decode cL_areAlike 105 = .ok (.idiv, 1) := by decide +kernel
theorem dL_areAlike_106 : decode cL_areAlike 106 = .ok (.iload_n 3, 1) := by decide +kernel
theorem dL_areAlike_107 : decode cL_areAlike 107 = .ok (.bipush 12, 2) := by decide +kernel
theorem dL_areAlike_109 : decode cL_areAlike 109 = .ok (.irem, 1) := by decide +kernel
theorem dL_areAlike_110 : decode cL_areAlike 110 = .ok (.invokevirtual 42, 3) := by decide +kernel
theorem dL_areAlike_113 : decode cL_areAlike 113 = .ok (.invokestatic 49, 3) := by decide +kernel
theorem dL_areAlike_116 : decode cL_areAlike 116 = .ok (.aload_n 1, 1) := by decide +kernel
theorem dL_areAlike_117 : decode cL_areAlike 117 = .ok (.aload_n 0, 1) := by decide +kernel
theorem dL_areAlike_118 : decode cL_areAlike 118 = .ok (.iload_n 3, 1) := by decide +kernel
theorem dL_areAlike_119 : decode cL_areAlike 119 = .ok (.bipush 12, 2) := by decide +kernel
theorem dL_areAlike_121 : decode cL_areAlike 121 = .ok (.idiv, 1) := by decide +kernel
theorem dL_areAlike_122 : decode cL_areAlike 122 = .ok (.invokestatic 18, 3) := by decide +kernel
theorem dL_areAlike_125 : decode cL_areAlike 125 = .ok (.iload_n 3, 1) := by decide +kernel
theorem dL_areAlike_126 : decode cL_areAlike 126 = .ok (.bipush 12, 2) := by decide +kernel
theorem dL_areAlike_128 : decode cL_areAlike 128 = .ok (.irem, 1) := by decide +kernel
theorem dL_areAlike_129 : decode cL_areAlike 129 = .ok (.invokevirtual 42, 3) := by decide +kernel
theorem dL_areAlike_132 : decode cL_areAlike 132 = .ok (.if_icmp .ne 7, 3) := by decide +kernel
theorem dL_areAlike_135 : decode cL_areAlike 135 = .ok (.iconst 1, 1) := by decide +kernel
theorem dL_areAlike_136 : decode cL_areAlike 136 = .ok (.goto 4, 3) := by decide +kernel
theorem dL_areAlike_139 : decode cL_areAlike 139 = .ok (.iconst 0, 1) := by decide +kernel
theorem dL_areAlike_140 : decode cL_areAlike 140 = .ok (.istore_n 2, 1) := by decide +kernel
theorem dL_areAlike_141 : decode cL_areAlike 141 = .ok (.iinc 3 1, 3) := by decide +kernel
theorem dL_areAlike_144 : decode cL_areAlike 144 = .ok (.goto (-59), 3) := by decide +kernel
theorem dL_areAlike_147 : decode cL_areAlike 147 = .ok (.bipush (-9), 2) := by decide +kernel
theorem dL_areAlike_149 : decode cL_areAlike 149 = .ok (.istore_n 3, 1) := by decide +kernel
theorem dL_areAlike_150 : decode cL_areAlike 150 = .ok (.iload_n 3, 1) := by decide +kernel
theorem dL_areAlike_151 : decode cL_areAlike 151 = .ok (.bipush 10, 2) := by decide +kernel
theorem dL_areAlike_153 : decode cL_areAlike 153 = .ok (.if_icmp .ge 204, 3) := by decide +kernel
theorem dL_areAlike_156 : decode cL_areAlike 156 = .ok (.iload_n 2, 1) := by decide +kernel
theorem dL_areAlike_157 : decode cL_areAlike 157 = .ok (.ifCond .eq 200, 3) := by decide +kernel
theorem dL_areAlike_160 : decode cL_areAlike 160 = .ok (.aload_n 0, 1) := by decide +kernel
theorem dL_areAlike_161 : decode cL_areAlike 161 = .ok (.iload_n 3, 1) := by decide +kernel
theorem dL_areAlike_162 : decode cL_areAlike 162 = .ok (.iconst 0, 1) := by decide +kernel
theorem dL_areAlike_163 : decode cL_areAlike 163 = .ok (.invokevirtual 83, 3) := by decide +kernel
theorem dL_areAlike_166 : decode cL_areAlike 166 = .ok (.aload_n 1, 1) := by decide +kernel
theorem dL_areAlike_167 : decode cL_areAlike 167 = .ok (.iload_n 3, 1) := by decide +kernel
theorem dL_areAlike_168 : decode cL_areAlike 168 = .ok (.iconst 0, 1) := by decide +kernel
theorem dL_areAlike_169 : decode cL_areAlike 169 = .ok (.invokevirtual 83, 3) := by decide +kernel
theorem dL_areAlike_172 : decode cL_areAlike 172 = .ok (.if_icmp .ne 56, 3) := by decide +kernel
theorem dL_areAlike_175 : decode cL_areAlike 175 = .ok (.aload_n 0, 1) := by decide +kernel
theorem dL_areAlike_176 : decode cL_areAlike 176 = .ok (.aload_n 0, 1) := by decide +kernel
theorem dL_areAlike_177 : decode cL_areAlike 177 = .ok (.iload_n 3, 1) := by decide +kernel
theorem dL_areAlike_178 : decode cL_areAlike 178 = .ok (.iconst 1, 1) := by decide +kernel
theorem dL_areAlike_179 : decode cL_areAlike 179 = .ok (.invokevirtual 83, 3) := by decide +kernel
theorem dL_areAlike_182 : decode cL_areAlike 182 = .ok (.invokestatic 18, 3) := by decide +kernel
theorem dL_areAlike_185 : decode cL_areAlike 185 = .ok (.aload_n 1, 1) := by decide +kernel
theorem dL_areAlike_186 : decode cL_areAlike 186 = .ok (.iload_n 3, 1) := by decide +kernel
theorem dL_areAlike_187 : decode cL_areAlike 187 = .ok (.iconst 1, 1) := by decide +kernel
theorem dL_areAlike_188 : decode cL_areAlike 188 = .ok (.invokevirtual 83, 3) := by decide +kernel
theorem dL_areAlike_191 : decode cL_areAlike 191 = .ok (.if_icmp .ne 37, 3) := by decide +kernel
theorem dL_areAlike_194 : decode cL_areAlike 194 = .ok (.aload_n 0, 1) := by decide +kernel
theorem dL_areAlike_195 : decode cL_areAlike 195 = .ok (.iload_n 3, 1) := by decide +kernel
theorem dL_areAlike_196 : decode cL_areAlike 196 = .ok (.iconst 3, 1) := by decide +kernel
theorem dL_areAlike_197 : decode cL_areAlike 197 = .ok (.invokevirtual 83, 3) := by decide +kernel
theorem dL_areAlike_200 : decode cL_areAlike 200 = .ok (.aload_n 1, 1) := by decide +kernel
theorem dL_areAlike_201 : decode cL_areAlike 201 = .ok (.iload_n 3, 1) := by decide +kernel
theorem dL_areAlike_202 : decode cL_areAlike 202 = .ok (.iconst 3, 1) := by decide +kernel
theorem dL_areAlike_203 : decode cL_areAlike 203 = .ok (.invokevirtual 83, 3) := by decide +kernel
theorem dL_areAlike_206 : decode cL_areAlike 206 = .ok (.if_icmp .ne 22, 3) := by decide +kernel
theorem dL_areAlike_209 : decode cL_areAlike 209 = .ok (.aload_n 0, 1) := by decide +kernel
theorem dL_areAlike_210 : decode cL_areAlike 210 = .ok (.iload_n 3, 1) := by decide +kernel
theorem dL_areAlike_211 : decode cL_areAlike 211 = .ok (.iconst 4, 1) := by decide +kernel
theorem dL_areAlike_212 : decode cL_areAlike 212 = .ok (.invokevirtual 83, 3) := by decide +kernel
theorem dL_areAlike_215 : decode cL_areAlike 215 = .ok (.aload_n 1, 1) := by decide +kernel
theorem dL_areAlike_216 : decode cL_areAlike 216 = .ok (.iload_n 3, 1) := by decide +kernel
theorem dL_areAlike_217 : decode cL_areAlike 217 = .ok (.iconst 4, 1) := by decide +kernel
theorem dL_areAlike_218 : decode cL_areAlike 218 = .ok (.invokevirtual 83, 3) := by decide +kernel
theorem dL_areAlike_221 : decode cL_areAlike 221 = .ok (.if_icmp .ne 7, 3) := by decide +kernel
theorem dL_areAlike_224 : decode cL_areAlike 224 = .ok (.iconst 1, 1) := by decide +kernel
theorem dL_areAlike_225 : decode cL_areAlike 225 = .ok (.goto 4, 3) := by decide +kernel
theorem dL_areAlike_228 : decode cL_areAlike 228 = .ok (.iconst 0, 1) := by decide +kernel
theorem dL_areAlike_229 : decode cL_areAlike 229 = .ok (.istore_n 2, 1) := by decide +kernel
theorem dL_areAlike_230 : decode cL_areAlike 230 = .ok (.iconst 0, 1) := by decide +kernel
theorem dL_areAlike_231 : decode cL_areAlike 231 = .ok (.istore 4, 2) := by decide +kernel
theorem dL_areAlike_233 : decode cL_areAlike 233 = .ok (.iload 4, 2) := by decide +kernel
theorem dL_areAlike_235 : decode cL_areAlike 235 = .ok (.bipush 12, 2) := by decide +kernel
theorem dL_areAlike_237 : decode cL_areAlike 237 = .ok (.if_icmp .ge 114, 3) := by decide +kernel
theorem dL_areAlike_240 : decode cL_areAlike 240 = .ok (.iload_n 2, 1) := by decide +kernel
theorem dL_areAlike_241 : decode cL_areAlike 241 = .ok (.ifCond .eq 90, 3) := by decide +kernel
theorem dL_areAlike_244 : decode cL_areAlike 244 = .ok (.aload_n 0, 1) := by decide +kernel
theorem dL_areAlike_245 : decode cL_areAlike 245 = .ok (.aload_n 0, 1) := by decide +kernel
theorem dL_areAlike_246 : decode cL_areAlike 246 = .ok (.iload_n 3, 1) := by decide +kernel
theorem dL_areAlike_247 : decode cL_areAlike 247 = .ok (.iload 4, 2) := by decide +kernel
theorem dL_areAlike_249 : decode cL_areAlike 249 = .ok (.iconst 0, 1) := by decide +kernel
theorem dL_areAlike_250 : decode cL_areAlike 250 = .ok (.invokevirtual 86, 3) := by decide +kernel
theorem dL_areAlike_253 : decode cL_areAlike 253 = .ok (.invokestatic 18, 3) := by decide +kernel
theorem dL_areAlike_256 : decode cL_areAlike 256 = .ok (.aload_n 1, 1) := by decide +kernel
theorem dL_areAlike_257 : decode cL_areAlike 257 = .ok (.iload_n 3, 1) := by decide +kernel
theorem dL_areAlike_258 : decode cL_areAlike 258 = .ok (.iload 4, 2) := by decide +kernel
theorem dL_areAlike_260 : decode cL_areAlike 260 = .ok (.iconst 0, 1) := by decide +kernel
theorem dL_areAlike_261 : decode cL_areAlike 261 = .ok (.invokevirtual 86, 3) := by decide +kernel
theorem dL_areAlike_264 : decode cL_areAlike 264 = .ok (.if_icmp .ne 67, 3) := by decide +kernel
theorem dL_areAlike_267 : decode cL_areAlike 267 = .ok (.aload_n 0, 1) := by decide +kernel
theorem dL_areAlike_268 : decode cL_areAlike 268 = .ok (.iload_n 3, 1) := by decide +kernel
theorem dL_areAlike_269 : decode cL_areAlike 269 = .ok (.iload 4, 2) := by decide +kernel
theorem dL_areAlike_271 : decode cL_areAlike 271 = .ok (.iconst 1, 1) := by decide +kernel
theorem dL_areAlike_272 : decode cL_areAlike 272 = .ok (.invokevirtual 86, 3) := by decide +kernel
theorem dL_areAlike_275 : decode cL_areAlike 275 = .ok (.invokestatic 49, 3) := by decide +kernel
theorem dL_areAlike_278 : decode cL_areAlike 278 = .ok (.aload_n 1, 1) := by decide +kernel
theorem dL_areAlike_279 : decode cL_areAlike 279 = .ok (.iload_n 3, 1) := by decide +kernel
theorem dL_areAlike_280 : decode cL_areAlike 280 = .ok (.iload 4, 2) := by decide +kernel
theorem dL_areAlike_282 : decode cL_areAlike 282 = .ok (.iconst 1, 1) := by decide +kernel
theorem dL_areAlike_283 : decode cL_areAlike 283 = .ok (.invokevirtual 86, 3) := by decide +kernel
theorem dL_areAlike_286 : decode cL_areAlike 286 = .ok (.if_icmp .ne 45, 3) := by decide +kernel
theorem dL_areAlike_289 : decode cL_areAlike 289 = .ok (.aload_n 0, 1) := by decide +kernel
theorem dL_areAlike_290 : decode cL_areAlike 290 = .ok (.iload_n 3, 1) := by decide +kernel
theorem dL_areAlike_291 : decode cL_areAlike 291 = .ok (.iload 4, 2) := by decide +kernel
theorem dL_areAlike_293 : decode cL_areAlike 293 = .ok (.iconst 2, 1) := by decide +kernel
theorem dL_areAlike_294 : decode cL_areAlike 294 = .ok (.invokevirtual 86, 3) := by decide +kernel
theorem dL_areAlike_297 : decode cL_areAlike 297 = .ok (.aload_n 1, 1) := by decide +kernel
theorem dL_areAlike_298 : decode cL_areAlike 298 = .ok (.iload_n 3, 1) := by decide +kernel
theorem dL_areAlike_299 : decode cL_areAlike 299 = .ok (.iload 4, 2) := by decide +kernel
theorem dL_areAlike_301 : decode cL_areAlike 301 = .ok (.iconst 2, 1) := by decide +kernel
theorem dL_areAlike_302 : decode cL_areAlike 302 = .ok (.invokevirtual 86, 3) := by decide +kernel
theorem dL_areAlike_305 : decode cL_areAlike 305 = .ok (.if_icmp .ne 26, 3) := by decide +kernel
theorem dL_areAlike_308 : decode cL_areAlike 308 = .ok (.aload_n 0, 1) := by decide +kernel
theorem dL_areAlike_309 : decode cL_areAlike 309 = .ok (.iload_n 3, 1) := by decide +kernel
theorem dL_areAlike_310 : decode cL_areAlike 310 = .ok (.iload 4, 2) := by decide +kernel
theorem dL_areAlike_312 : decode cL_areAlike 312 = .ok (.iconst 3, 1) := by decide +kernel
theorem dL_areAlike_313 : decode cL_areAlike 313 = .ok (.invokevirtual 86, 3) := by decide +kernel
theorem dL_areAlike_316 : decode cL_areAlike 316 = .ok (.aload_n 1, 1) := by decide +kernel
theorem dL_areAlike_317 : decode cL_areAlike 317 = .ok (.iload_n 3, 1) := by decide +kernel
theorem dL_areAlike_318 : decode cL_areAlike 318 = .ok (.iload 4, 2) := by decide +kernel
theorem dL_areAlike_320 : decode cL_areAlike 320 = .ok (.iconst 3, 1) := by decide +kernel
theorem dL_areAlike_321 : decode cL_areAlike 321 = .ok (.invokevirtual 86, 3) := by decide +kernel
theorem dL_areAlike_324 : decode cL_areAlike 324 = .ok (.if_icmp .ne 7, 3) := by decide +kernel
theorem dL_areAlike_327 : decode cL_areAlike 327 = .ok (.iconst 1, 1) := by decide +kernel
theorem dL_areAlike_328 : decode cL_areAlike 328 = .ok (.goto 4, 3) := by decide +kernel
theorem dL_areAlike_331 : decode cL_areAlike 331 = .ok (.iconst 0, 1) := by decide +kernel
theorem dL_areAlike_332 : decode cL_areAlike 332 = .ok (.istore_n 2, 1) := by decide +kernel
theorem dL_areAlike_333 : decode cL_areAlike 333 = .ok (.iload 4, 2) := by decide +kernel
theorem dL_areAlike_335 : decode cL_areAlike 335 = .ok (.iconst 1, 1) := by decide +kernel
theorem dL_areAlike_336 : decode cL_areAlike 336 = .ok (.iload_n 3, 1) := by decide +kernel
theorem dL_areAlike_337 : decode cL_areAlike 337 = .ok (.bipush 9, 2) := by decide +kernel
theorem dL_areAlike_339 : decode cL_areAlike 339 = .ok (.iadd, 1) := by decide +kernel
theorem dL_areAlike_340 : decode cL_areAlike 340 = .ok (.iconst 3, 1) := by decide +kernel
theorem dL_areAlike_341 : decode cL_areAlike 341 = .ok (.invokestatic 28, 3) := by decide +kernel
theorem dL_areAlike_344 : decode cL_areAlike 344 = .ok (.iadd, 1) := by decide +kernel
theorem dL_areAlike_345 : decode cL_areAlike 345 = .ok (.iadd, 1) := by decide +kernel
theorem dL_areAlike_346 : decode cL_areAlike 346 = .ok (.istore 4, 2) := by decide +kernel
theorem dL_areAlike_348 : decode cL_areAlike 348 = .ok (.goto (-115), 3) := by decide +kernel
theorem dL_areAlike_351 : decode cL_areAlike 351 = .ok (.iinc 3 1, 3) := by decide +kernel
theorem dL_areAlike_354 : decode cL_areAlike 354 = .ok (.goto (-204), 3) := by decide +kernel
theorem dL_areAlike_357 : decode cL_areAlike 357 = .ok (.iconst 0, 1) := by decide +kernel
theorem dL_areAlike_358 : decode cL_areAlike 358 = .ok (.istore_n 3, 1) := by decide +kernel
theorem dL_areAlike_359 : decode cL_areAlike 359 = .ok (.iload_n 3, 1) := by decide +kernel
theorem dL_areAlike_360 : decode cL_areAlike 360 = .ok (.aload_n 0, 1) := by decide +kernel
theorem dL_areAlike_361 : decode cL_areAlike 361 = .ok (.iconst 0, 1) := by decide +kernel
theorem dL_areAlike_362 : decode cL_areAlike 362 = .ok (.invokevirtual 9, 3) := by decide +kernel
theorem dL_areAlike_365 : decode cL_areAlike 365 = .ok (.if_icmp .ge 55, 3) := by decide +kernel
theorem dL_areAlike_368 : decode cL_areAlike 368 = .ok (.iconst 0, 1) := by decide +kernel
theorem dL_areAlike_369 : decode cL_areAlike 369 = .ok (.istore 4, 2) := by decide +kernel
theorem dL_areAlike_371 : decode cL_areAlike 371 = .ok (.iload 4, 2) := by decide +kernel
theorem dL_areAlike_373 : decode cL_areAlike 373 = .ok (.iconst 4, 1) := by decide +kernel
theorem dL_areAlike_374 : decode cL_areAlike 374 = .ok (.if_icmp .ge 40, 3) := by decide +kernel
theorem dL_areAlike_377 : decode cL_areAlike 377 = .ok (.iload_n 2, 1) := by decide +kernel
theorem dL_areAlike_378 : decode cL_areAlike 378 = .ok (.ifCond .eq 28, 3) := by decide +kernel
theorem dL_areAlike_381 : decode cL_areAlike 381 = .ok (.aload_n 0, 1) := by decide +kernel
theorem dL_areAlike_382 : decode cL_areAlike 382 = .ok (.iload_n 3, 1) := by decide +kernel
theorem dL_areAlike_383 : decode cL_areAlike 383 = .ok (.iload 4, 2) := by decide +kernel
theorem dL_areAlike_385 : decode cL_areAlike 385 = .ok (.invokevirtual 89, 3) := by decide +kernel
theorem dL_areAlike_388 : decode cL_areAlike 388 = .ok (.aload_n 1, 1) := by decide +kernel
theorem dL_areAlike_389 : decode cL_areAlike 389 = .ok (.aload_n 0, 1) := by decide +kernel
theorem dL_areAlike_390 : decode cL_areAlike 390 = .ok (.iload_n 3, 1) := by decide +kernel
theorem dL_areAlike_391 : decode cL_areAlike 391 = .ok (.invokestatic 18, 3) := by decide +kernel
theorem dL_areAlike_394 : decode cL_areAlike 394 = .ok (.iload 4, 2) := by decide +kernel
theorem dL_areAlike_396 : decode cL_areAlike 396 = .ok (.invokevirtual 89, 3) := by decide +kernel
theorem dL_areAlike_399 : decode cL_areAlike 399 = .ok (.if_icmp .ne 7, 3) := by decide +kernel
theorem dL_areAlike_402 : decode cL_areAlike 402 = .ok (.iconst 1, 1) := by decide +kernel
theorem dL_areAlike_403 : decode cL_areAlike 403 = .ok (.goto 4, 3) := by decide +kernel
theorem dL_areAlike_406 : decode cL_areAlike 406 = .ok (.iconst 0, 1) := by decide +kernel
theorem dL_areAlike_407 : decode cL_areAlike 407 = .ok (.istore_n 2, 1) := by decide +kernel
theorem dL_areAlike_408 : decode cL_areAlike 408 = .ok (.iinc 4 1, 3) := by decide +kernel
theorem dL_areAlike_411 : decode cL_areAlike 411 = .ok (.goto (-40), 3) := by decide +kernel
theorem dL_areAlike_414 : decode cL_areAlike 414 = .ok (.iinc 3 1, 3) := by decide +kernel
theorem dL_areAlike_417 : decode cL_areAlike 417 = .ok (.goto (-58), 3) := by decide +kernel
theorem dL_areAlike_420 : decode cL_areAlike 420 = .ok (.iload_n 2, 1) := by decide +kernel
theorem dL_areAlike_421 : decode cL_areAlike 421 = .ok (.ireturn, 1) := by decide +kernel
theorem dL_isWell_0 : decode cL_isWell 0 = .ok (.aload_n 0, 1) := by decide +kernel
theorem dL_isWell_1 : decode cL_isWell 1 = .ok (.iconst 1, 1) := by decide +kernel
theorem dL_isWell_2 : decode cL_isWell 2 = .ok (.invokevirtual 9, 3) := by decide +kernel
theorem dL_isWell_5 : decode cL_isWell 5 = .ok (.istore_n 2, 1) := by decide +kernel
theorem dL_isWell_6 : decode cL_isWell 6 = .ok (.iconst 0, 1) := by decide +kernel
theorem dL_isWell_7 : decode cL_isWell 7 = .ok (.istore_n 3, 1) := by decide +kernel
theorem dL_isWell_8 : decode cL_isWell 8 = .ok (.iconst 0, 1) := by decide +kernel
theorem dL_isWell_9 : decode cL_isWell 9 = .ok (.istore 4, 2) := by decide +kernel
theorem dL_isWell_11 : decode cL_isWell 11 = .ok (.iconst 0, 1) := by decide +kernel
theorem dL_isWell_12 : decode cL_isWell 12 = .ok (.istore 5, 2) := by decide +kernel
theorem dL_isWell_14 : decode cL_isWell 14 = .ok (.iconst 1, 1) := by decide +kernel
theorem dL_isWell_15 : decode cL_isWell 15 = .ok (.istore 6, 2) := by decide +kernel
theorem dL_isWell_17 : decode cL_isWell 17 = .ok (.bipush (-9), 2) := by decide +kernel
theorem dL_isWell_19 : decode cL_isWell 19 = .ok (.istore 7, 2) := by decide +kernel
theorem dL_isWell_21 : decode cL_isWell 21 = .ok (.iload 7, 2) := by decide +kernel
theorem dL_isWell_23 : decode cL_isWell 23 = .ok (.bipush 10, 2) := by decide +kernel
theorem dL_isWell_25 : decode cL_isWell 25 = .ok (.if_icmp .ge 380, 3) := by decide +kernel
theorem dL_isWell_28 : decode cL_isWell 28 = .ok (.iload 6, 2) := by decide +kernel
theorem dL_isWell_30 : decode cL_isWell 30 = .ok (.ifCond .eq 375, 3) := by decide +kernel
theorem dL_isWell_33 : decode cL_isWell 33 = .ok (.iconst 0, 1) := by decide +kernel
theorem dL_isWell_34 : decode cL_isWell 34 = .ok (.istore 8, 2) := by decide +kernel
theorem dL_isWell_36 : decode cL_isWell 36 = .ok (.iconst 0, 1) := by decide +kernel
theorem dL_isWell_37 : decode cL_isWell 37 = .ok (.istore 9, 2) := by decide +kernel
theorem dL_isWell_39 : decode cL_isWell 39 = .ok (.iconst 0, 1) := by decide +kernel
theorem dL_isWell_40 : decode cL_isWell 40 = .ok (.istore 10, 2) := by decide +kernel
theorem dL_isWell_42 : decode cL_isWell 42 = .ok (.iconst 0, 1) := by decide +kernel
theorem dL_isWell_43 : decode cL_isWell 43 = .ok (.istore 11, 2) := by decide +kernel
theorem dL_isWell_45 : decode cL_isWell 45 = .ok (.iload 11, 2) := by decide +kernel
theorem dL_isWell_47 : decode cL_isWell 47 = .ok (.bipush 12, 2) := by decide +kernel
theorem dL_isWell_49 : decode cL_isWell 49 = .ok (.if_icmp .ge 200, 3) := by decide +kernel
theorem dL_isWell_52 : decode cL_isWell 52 = .ok (.iload 6, 2) := by decide +kernel
theorem dL_isWell_54 : decode cL_isWell 54 = .ok (.ifCond .eq 195, 3) := by decide +kernel
theorem dL_isWell_57 : decode cL_isWell 57 = .ok (.aload_n 0, 1) := by decide +kernel
theorem dL_isWell_58 : decode cL_isWell 58 = .ok (.iload 7, 2) := by decide +kernel
theorem dL_isWell_60 : decode cL_isWell 60 = .ok (.iload 11, 2) := by decide +kernel
theorem dL_isWell_62 : decode cL_isWell 62 = .ok (.iconst 2, 1) := by decide +kernel
theorem dL_isWell_63 : decode cL_isWell 63 = .ok (.invokevirtual 86, 3) := by decide +kernel
theorem dL_isWell_66 : decode cL_isWell 66 = .ok (.istore 12, 2) := by decide +kernel
theorem dL_isWell_68 : decode cL_isWell 68 = .ok (.aload_n 0, 1) := by decide +kernel
theorem dL_isWell_69 : decode cL_isWell 69 = .ok (.iload 7, 2) := by decide +kernel
theorem dL_isWell_71 : decode cL_isWell 71 = .ok (.iload 11, 2) := by decide +kernel
theorem dL_isWell_73 : decode cL_isWell 73 = .ok (.iconst 0, 1) := by decide +kernel
theorem dL_isWell_74 : decode cL_isWell 74 = .ok (.invokevirtual 86, 3) := by decide +kernel
theorem dL_isWell_77 : decode cL_isWell 77 = .ok (.istore 13, 2) := by decide +kernel
theorem dL_isWell_79 : decode cL_isWell 79 = .ok (.iload 8, 2) := by decide +kernel
theorem dL_isWell_81 : decode cL_isWell 81 = .ok (.aload_n 0, 1) := by decide +kernel
theorem dL_isWell_82 : decode cL_isWell 82 = .ok (.iload 7, 2) := by decide +kernel
theorem dL_isWell_84 : decode cL_isWell 84 = .ok (.iload 11, 2) := by decide +kernel
theorem dL_isWell_86 : decode cL_isWell 86 = .ok (.iconst 3, 1) := by decide +kernel
theorem dL_isWell_87 : decode cL_isWell 87 = .ok (.invokevirtual 86, 3) := by decide +kernel
theorem dL_isWell_90 : decode cL_isWell 90 = .ok (.iadd, 1) := by decide +kernel
theorem dL_isWell_91 : decode cL_isWell 91 = .ok (.istore 8, 2) := by decide +kernel
theorem dL_isWell_93 : decode cL_isWell 93 = .ok (.iload 9, 2) := by decide +kernel
theorem dL_isWell_95 : decode cL_isWell 95 = .ok (.iload 13, 2) := by decide +kernel
theorem dL_isWell_97 : decode cL_isWell 97 = .ok (.bipush (-105), 2) := by decide +kernel
theorem dL_isWell_99 : decode cL_isWell 99 = .ok (.if_icmp .ne 7, 3) := by decide +kernel
theorem dL_isWell_102 : decode cL_isWell 102 = .ok (.iconst 1, 1) := by decide +kernel
theorem dL_isWell_103 : decode cL_isWell 103 = .ok (.goto 4, 3) := by decide +kernel
theorem dL_isWell_106 : decode cL_isWell 106 = .ok (.iconst 0, 1) := by decide +kernel
theorem dL_isWell_107 : decode cL_isWell 107 = .ok (.iadd, 1) := by decide +kernel
theorem dL_isWell_108 : decode cL_isWell 108 = .ok (.istore 9, 2) := by decide +kernel
theorem dL_isWell_110 : decode cL_isWell 110 = .ok (.iload 10, 2) := by decide +kernel
theorem dL_isWell_112 : decode cL_isWell 112 = .ok (.iload 13, 2) := by decide +kernel
theorem dL_isWell_114 : decode cL_isWell 114 = .ok (.aload_n 0, 1) := by decide +kernel
theorem dL_isWell_115 : decode cL_isWell 115 = .ok (.iload 7, 2) := by decide +kernel
theorem dL_isWell_117 : decode cL_isWell 117 = .ok (.iconst 0, 1) := by decide +kernel
theorem dL_isWell_118 : decode cL_isWell 118 = .ok (.iconst 0, 1) := by decide +kernel
theorem dL_isWell_119 : decode cL_isWell 119 = .ok (.invokevirtual 86, 3) := by decide +kernel
theorem dL_isWell_122 : decode cL_isWell 122 = .ok (.if_icmp .ne 7, 3) := by decide +kernel
theorem dL_isWell_125 : decode cL_isWell 125 = .ok (.iconst 1, 1) := by decide +kernel
theorem dL_isWell_126 : decode cL_isWell 126 = .ok (.goto 4, 3) := by decide +kernel
theorem dL_isWell_129 : decode cL_isWell 129 = .ok (.iconst 0, 1) := by decide +kernel
theorem dL_isWell_130 : decode cL_isWell 130 = .ok (.iadd, 1) := by decide +kernel
theorem dL_isWell_131 : decode cL_isWell 131 = .ok (.istore 10, 2) := by decide +kernel
theorem dL_isWell_133 : decode cL_isWell 133 = .ok (.iload 12, 2) := by decide +kernel
theorem dL_isWell_135 : decode cL_isWell 135 = .ok (.ifCond .lt 105, 3) := by decide +kernel
theorem dL_isWell_138 : decode cL_isWell 138 = .ok (.iload 12, 2) := by decide +kernel
theorem dL_isWell_140 : decode cL_isWell 140 = .ok (.iload_n 2, 1) := by decide +kernel
theorem dL_isWell_141 : decode cL_isWell 141 = .ok (.if_icmp .ge 99, 3) := by decide +kernel
theorem dL_isWell_144 : decode cL_isWell 144 = .ok (.aload_n 0, 1) := by decide +kernel
theorem dL_isWell_145 : decode cL_isWell 145 = .ok (.iload 11, 2) := by decide +kernel
theorem dL_isWell_147 : decode cL_isWell 147 = .ok (.iload 12, 2) := by decide +kernel
theorem dL_isWell_149 : decode cL_isWell 149 = .ok (.iconst 0, 1) := by decide +kernel
theorem dL_isWell_150 : decode cL_isWell 150 = .ok (.invokevirtual 92, 3) := by decide +kernel
theorem dL_isWell_153 : decode cL_isWell 153 = .ok (.iload 13, 2) := by decide +kernel
theorem dL_isWell_155 : decode cL_isWell 155 = .ok (.if_icmp .ne 85, 3) := by decide +kernel
theorem dL_isWell_158 : decode cL_isWell 158 = .ok (.aload_n 0, 1) := by decide +kernel
theorem dL_isWell_159 : decode cL_isWell 159 = .ok (.iload 11, 2) := by decide +kernel
theorem dL_isWell_161 : decode cL_isWell 161 = .ok (.iload 12, 2) := by decide +kernel
theorem dL_isWell_163 : decode cL_isWell 163 = .ok (.iconst 1, 1) := by decide +kernel
theorem dL_isWell_164 : decode cL_isWell 164 = .ok (.invokevirtual 92, 3) := by decide +kernel
theorem dL_isWell_167 : decode cL_isWell 167 = .ok (.aload_n 0, 1) := by decide +kernel
theorem dL_isWell_168 : decode cL_isWell 168 = .ok (.iload 7, 2) := by decide +kernel
theorem dL_isWell_170 : decode cL_isWell 170 = .ok (.iload 11, 2) := by decide +kernel
theorem dL_isWell_172 : decode cL_isWell 172 = .ok (.iconst 1, 1) := by decide +kernel
theorem dL_isWell_173 : decode cL_isWell 173 = .ok (.invokevirtual 86, 3) := by decide +kernel
theorem dL_isWell_176 : decode cL_isWell 176 = .ok (.if_icmp .ne 64, 3) := by decide +kernel
theorem dL_isWell_179 : decode cL_isWell 179 = .ok (.iload 7, 2) := by decide +kernel
theorem dL_isWell_181 : decode cL_isWell 181 = .ok (.bipush (-9), 2) := by decide +kernel
theorem dL_isWell_183 : decode cL_isWell 183 = .ok (.if_icmp .eq 19, 3) := by decide +kernel
theorem dL_isWell_186 : decode cL_isWell 186 = .ok (.iload 12, 2) := by decide +kernel
theorem dL_isWell_188 : decode cL_isWell 188 = .ok (.aload_n 0, 1) := by decide +kernel
theorem dL_isWell_189 : decode cL_isWell 189 = .ok (.iload 7, 2) := by decide +kernel
theorem dL_isWell_191 : decode cL_isWell 191 = .ok (.iconst 1, 1) := by decide +kernel
theorem dL_isWell_192 : decode cL_isWell 192 = .ok (.isub, 1) := by decide +kernel
theorem dL_isWell_193 : decode cL_isWell 193 = .ok (.iload 11, 2) := by decide +kernel
theorem dL_isWell_195 : decode cL_isWell 195 = .ok (.iconst 2, 1) := by decide +kernel
theorem dL_isWell_196 : decode cL_isWell 196 = .ok (.invokevirtual 86, 3) := by decide +kernel
theorem dL_isWell_199 : decode cL_isWell 199 = .ok (.if_icmp .lt 41, 3) := by decide +kernel
theorem dL_isWell_202 : decode cL_isWell 202 = .ok (.iload 13, 2) := by decide +kernel
theorem dL_isWell_204 : decode cL_isWell 204 = .ok (.bipush (-105), 2) := by decide +kernel
theorem dL_isWell_206 : decode cL_isWell 206 = .ok (.if_icmp .eq 30, 3) := by decide +kernel
theorem dL_isWell_209 : decode cL_isWell 209 = .ok (.aload_n 0, 1) := by decide +kernel
theorem dL_isWell_210 : decode cL_isWell 210 = .ok (.iload 7, 2) := by decide +kernel
theorem dL_isWell_212 : decode cL_isWell 212 = .ok (.iload 11, 2) := by decide +kernel
theorem dL_isWell_214 : decode cL_isWell 214 = .ok (.iconst 1, 1) := by decide +kernel
theorem dL_isWell_215 : decode cL_isWell 215 = .ok (.invokevirtual 86, 3) := by decide +kernel
theorem dL_isWell_218 : decode cL_isWell 218 = .ok (.aload_n 0, 1) := by decide +kernel
theorem dL_isWell_219 : decode cL_isWell 219 = .ok (.iload 13, 2) := by decide +kernel
theorem dL_isWell_221 : decode cL_isWell 221 = .ok (.aload_n 0, 1) := by decide +kernel
theorem dL_isWell_222 : decode cL_isWell 222 = .ok (.iload 11, 2) := by decide +kernel
theorem dL_isWell_224 : decode cL_isWell 224 = .ok (.iload 12, 2) := by decide +kernel
theorem dL_isWell_226 : decode cL_isWell 226 = .ok (.iconst 2, 1) := by decide +kernel
theorem dL_isWell_227 : decode cL_isWell 227 = .ok (.invokevirtual 92, 3) := by decide +kernel
theorem dL_isWell_230 : decode cL_isWell 230 = .ok (.invokevirtual 42, 3) := by decide +kernel
theorem dL_isWell_233 : decode cL_isWell 233 = .ok (.if_icmp .ne 7, 3) := by decide +kernel
theorem dL_isWell_236 : decode cL_isWell 236 = .ok (.iconst 1, 1) := by decide +kernel
theorem dL_isWell_237 : decode cL_isWell 237 = .ok (.goto 4, 3) := by decide +kernel
theorem dL_isWell_240 : decode cL_isWell 240 = .ok (.iconst 0, 1) := by decide +kernel
theorem dL_isWell_241 : decode cL_isWell 241 = .ok (.istore 6, 2) := by decide +kernel
theorem dL_isWell_243 : decode cL_isWell 243 = .ok (.iinc 11 1, 3) := by decide +kernel
theorem dL_isWell_246 : decode cL_isWell 246 = .ok (.goto (-201), 3) := by decide +kernel
theorem dL_isWell_249 : decode cL_isWell 249 = .ok (.aload_n 0, 1) := by decide +kernel
theorem dL_isWell_250 : decode cL_isWell 250 = .ok (.iload 7, 2) := by decide +kernel
theorem dL_isWell_252 : decode cL_isWell 252 = .ok (.iconst 1, 1) := by decide +kernel
theorem dL_isWell_253 : decode cL_isWell 253 = .ok (.invokevirtual 83, 3) := by decide +kernel
theorem dL_isWell_256 : decode cL_isWell 256 = .ok (.istore 11, 2) := by decide +kernel
theorem dL_isWell_258 : decode cL_isWell 258 = .ok (.iload_n 3, 1) := by decide +kernel
theorem dL_isWell_259 : decode cL_isWell 259 = .ok (.iload 8, 2) := by decide +kernel
theorem dL_isWell_261 : decode cL_isWell 261 = .ok (.iadd, 1) := by decide +kernel
theorem dL_isWell_262 : decode cL_isWell 262 = .ok (.istore_n 3, 1) := by decide +kernel
theorem dL_isWell_263 : decode cL_isWell 263 = .ok (.iload 4, 2) := by decide +kernel
theorem dL_isWell_265 : decode cL_isWell 265 = .ok (.iload 11, 2) := by decide +kernel
theorem dL_isWell_267 : decode cL_isWell 267 = .ok (.bipush (-105), 2) := by decide +kernel
theorem dL_isWell_269 : decode cL_isWell 269 = .ok (.if_icmp .ne 7, 3) := by decide +kernel
theorem dL_isWell_272 : decode cL_isWell 272 = .ok (.iconst 0, 1) := by decide +kernel
theorem dL_isWell_273 : decode cL_isWell 273 = .ok (.goto 4, 3) := by decide +kernel
theorem dL_isWell_276 : decode cL_isWell 276 = .ok (.iconst 1, 1) := by decide +kernel
theorem dL_isWell_277 : decode cL_isWell 277 = .ok (.iadd, 1) := by decide +kernel
theorem dL_isWell_278 : decode cL_isWell 278 = .ok (.istore 4, 2) := by decide +kernel
theorem dL_isWell_280 : decode cL_isWell 280 = .ok (.iload 5, 2) := by decide +kernel
theorem dL_isWell_282 : decode cL_isWell 282 = .ok (.iload 11, 2) := by decide +kernel
theorem dL_isWell_284 : decode cL_isWell 284 = .ok (.bipush (-105), 2) := by decide +kernel
theorem dL_isWell_286 : decode cL_isWell 286 = .ok (.if_icmp .ne 7, 3) := by decide +kernel
theorem dL_isWell_289 : decode cL_isWell 289 = .ok (.iconst 0, 1) := by decide +kernel
theorem dL_isWell_290 : decode cL_isWell 290 = .ok (.goto 7, 3) := by decide +kernel
theorem dL_isWell_293 : decode cL_isWell 293 = .ok (.iconst 1, 1) := by decide +kernel
theorem dL_isWell_294 : decode cL_isWell 294 = .ok (.iload 11, 2) := by decide +kernel
theorem dL_isWell_296 : decode cL_isWell 296 = .ok (.ishl, 1) := by decide +kernel
theorem dL_isWell_297 : decode cL_isWell 297 = .ok (.ior, 1) := by decide +kernel
theorem dL_isWell_298 : decode cL_isWell 298 = .ok (.istore 5, 2) := by decide +kernel
theorem dL_isWell_300 : decode cL_isWell 300 = .ok (.iload 6, 2) := by decide +kernel
theorem dL_isWell_302 : decode cL_isWell 302 = .ok (.ifCond .eq 94, 3) := by decide +kernel
theorem dL_isWell_305 : decode cL_isWell 305 = .ok (.aload_n 0, 1) := by decide +kernel
theorem dL_isWell_306 : decode cL_isWell 306 = .ok (.iload 7, 2) := by decide +kernel
theorem dL_isWell_308 : decode cL_isWell 308 = .ok (.iconst 0, 1) := by decide +kernel
theorem dL_isWell_309 : decode cL_isWell 309 = .ok (.invokevirtual 83, 3) := by decide +kernel
theorem dL_isWell_312 : decode cL_isWell 312 = .ok (.iload 8, 2) := by decide +kernel
theorem dL_isWell_314 : decode cL_isWell 314 = .ok (.if_icmp .ne 82, 3) := by decide +kernel
theorem dL_isWell_317 : decode cL_isWell 317 = .ok (.aload_n 0, 1) := by decide +kernel
theorem dL_isWell_318 : decode cL_isWell 318 = .ok (.iload 7, 2) := by decide +kernel
theorem dL_isWell_320 : decode cL_isWell 320 = .ok (.iconst 4, 1) := by decide +kernel
theorem dL_isWell_321 : decode cL_isWell 321 = .ok (.invokevirtual 83, 3) := by decide +kernel
theorem dL_isWell_324 : decode cL_isWell 324 = .ok (.iload 9, 2) := by decide +kernel
theorem dL_isWell_326 : decode cL_isWell 326 = .ok (.if_icmp .ne 70, 3) := by decide +kernel
theorem dL_isWell_329 : decode cL_isWell 329 = .ok (.iload 8, 2) := by decide +kernel
theorem dL_isWell_331 : decode cL_isWell 331 = .ok (.ifCond .ne 7, 3) := by decide +kernel
theorem dL_isWell_334 : decode cL_isWell 334 = .ok (.iconst 1, 1) := by decide +kernel
theorem dL_isWell_335 : decode cL_isWell 335 = .ok (.goto 4, 3) := by decide +kernel
theorem dL_isWell_338 : decode cL_isWell 338 = .ok (.iconst 0, 1) := by decide +kernel
theorem dL_isWell_339 : decode cL_isWell 339 = .ok (.iload 10, 2) := by decide +kernel
theorem dL_isWell_341 : decode cL_isWell 341 = .ok (.bipush 12, 2) := by decide +kernel
theorem dL_isWell_343 : decode cL_isWell 343 = .ok (.if_icmp .ne 7, 3) := by decide +kernel
theorem dL_isWell_346 : decode cL_isWell 346 = .ok (.iconst 1, 1) := by decide +kernel
theorem dL_isWell_347 : decode cL_isWell 347 = .ok (.goto 4, 3) := by decide +kernel
theorem dL_isWell_350 : decode cL_isWell 350 = .ok (.iconst 0, 1) := by decide +kernel
theorem dL_isWell_351 : decode cL_isWell 351 = .ok (.if_icmp .ne 45, 3) := by decide +kernel
theorem dL_isWell_354 : decode cL_isWell 354 = .ok (.iload 11, 2) := by decide +kernel
theorem dL_isWell_356 : decode cL_isWell 356 = .ok (.bipush (-105), 2) := by decide +kernel
theorem dL_isWell_358 : decode cL_isWell 358 = .ok (.if_icmp .eq 7, 3) := by decide +kernel
theorem dL_isWell_361 : decode cL_isWell 361 = .ok (.iconst 1, 1) := by decide +kernel
theorem dL_isWell_362 : decode cL_isWell 362 = .ok (.goto 4, 3) := by decide +kernel
theorem dL_isWell_365 : decode cL_isWell 365 = .ok (.iconst 0, 1) := by decide +kernel
theorem dL_isWell_366 : decode cL_isWell 366 = .ok (.iload 10, 2) := by decide +kernel
theorem dL_isWell_368 : decode cL_isWell 368 = .ok (.bipush 12, 2) := by decide +kernel
theorem dL_isWell_370 : decode cL_isWell 370 = .ok (.if_icmp .ne 12, 3) := by decide +kernel
theorem dL_isWell_373 : decode cL_isWell 373 = .ok (.iload 9, 2) := by decide +kernel
theorem dL_isWell_375 : decode cL_isWell 375 = .ok (.ifCond .ne 7, 3) := by decide +kernel
theorem dL_isWell_378 : decode cL_isWell 378 = .ok (.iconst 1, 1) := by decide +kernel
theorem dL_isWell_379 : decode cL_isWell 379 = .ok (.goto 4, 3) := by decide +kernel
theorem dL_isWell_382 : decode cL_isWell 382 = .ok (.iconst 0, 1) := by decide +kernel
theorem dL_isWell_383 : decode cL_isWell 383 = .ok (.if_icmp .ne 13, 3) := by decide +kernel
theorem dL_isWell_386 : decode cL_isWell 386 = .ok (.iload 8, 2) := by decide +kernel
theorem dL_isWell_388 : decode cL_isWell 388 = .ok (.iconst 1, 1) := by decide +kernel
theorem dL_isWell_389 : decode cL_isWell 389 = .ok (.if_icmp .eq 7, 3) := by decide +kernel
theorem dL_isWell_392 : decode cL_isWell 392 = .ok (.iconst 1, 1) := by decide +kernel
theorem dL_isWell_393 : decode cL_isWell 393 = .ok (.goto 4, 3) := by decide +kernel
theorem dL_isWell_396 : decode cL_isWell 396 = .ok (.iconst 0, 1) := by decide +kernel
theorem dL_isWell_397 : decode cL_isWell 397 = .ok (.istore 6, 2) := by decide +kernel
theorem dL_isWell_399 : decode cL_isWell 399 = .ok (.iinc 7 1, 3) := by decide +kernel
theorem dL_isWell_402 : decode cL_isWell 402 = .ok (.goto (-381), 3) := by decide +kernel
theorem dL_isWell_405 : decode cL_isWell 405 = .ok (.iload 5, 2) := by decide +kernel
theorem dL_isWell_407 : decode cL_isWell 407 = .ok (.iconst 1, 1) := by decide +kernel
theorem dL_isWell_408 : decode cL_isWell 408 = .ok (.iand, 1) := by decide +kernel
theorem dL_isWell_409 : decode cL_isWell 409 = .ok (.iload 5, 2) := by decide +kernel
theorem dL_isWell_411 : decode cL_isWell 411 = .ok (.iconst 1, 1) := by decide +kernel
theorem dL_isWell_412 : decode cL_isWell 412 = .ok (.ishr, 1) := by decide +kernel
theorem dL_isWell_413 : decode cL_isWell 413 = .ok (.iconst 1, 1) := by decide +kernel
theorem dL_isWell_414 : decode cL_isWell 414 = .ok (.iand, 1) := by decide +kernel
theorem dL_isWell_415 : decode cL_isWell 415 = .ok (.iadd, 1) := by decide +kernel
theorem dL_isWell_416 : decode cL_isWell 416 = .ok (.iload 5, 2) := by decide +kernel
theorem dL_isWell_418 : decode cL_isWell 418 = .ok (.iconst 2, 1) := by decide +kernel
theorem dL_isWell_419 : decode cL_isWell 419 = .ok (.ishr, 1) := by decide +kernel
theorem dL_isWell_420 : decode cL_isWell 420 = .ok (.iconst 1, 1) := by decide +kernel
theorem dL_isWell_421 : decode cL_isWell 421 = .ok (.iand, 1) := by decide +kernel
theorem dL_isWell_422 : decode cL_isWell 422 = .ok (.iadd, 1) := by decide +kernel
theorem dL_isWell_423 : decode cL_isWell 423 = .ok (.iload 5, 2) := by decide +kernel
theorem dL_isWell_425 : decode cL_isWell 425 = .ok (.iconst 3, 1) := by decide +kernel
theorem dL_isWell_426 : decode cL_isWell 426 = .ok (.ishr, 1) := by decide +kernel
theorem dL_isWell_427 : decode cL_isWell 427 = .ok (.iconst 1, 1) := by decide +kernel
theorem dL_isWell_428 : decode cL_isWell 428 = .ok (.iand, 1) := by decide +kernel
theorem dL_isWell_429 : decode cL_isWell 429 = .ok (.iadd, 1) := by decide +kernel
theorem dL_isWell_430 : decode cL_isWell 430 = .ok (.istore 7, 2) := by decide +kernel
theorem dL_isWell_432 : decode cL_isWell 432 = .ok (.iload_n 1, 1) := by decide +kernel
theorem dL_isWell_433 : decode cL_isWell 433 = .ok (.bipush 12, 2) := by decide +kernel
theorem dL_isWell_435 : decode cL_isWell 435 = .ok (.invokestatic 28, 3) := by decide +kernel
theorem dL_isWell_438 : decode cL_isWell 438 = .ok (.istore 8, 2) := by decide +kernel
theorem dL_isWell_440 : decode cL_isWell 440 = .ok (.iload_n 1, 1) := by decide +kernel
theorem dL_isWell_441 : decode cL_isWell 441 = .ok (.iconst 4, 1) := by decide +kernel
theorem dL_isWell_442 : decode cL_isWell 442 = .ok (.ishr, 1) := by decide +kernel
theorem dL_isWell_443 : decode cL_isWell 443 = .ok (.iload_n 2, 1) := by decide +kernel
theorem dL_isWell_444 : decode cL_isWell 444 = .ok (.invokestatic 28, 3) := by decide +kernel
theorem dL_isWell_447 : decode cL_isWell 447 = .ok (.istore 9, 2) := by decide +kernel
theorem dL_isWell_449 : decode cL_isWell 449 = .ok (.iload 8, 2) := by decide +kernel
theorem dL_isWell_451 : decode cL_isWell 451 = .ok (.iload_n 2, 1) := by decide +kernel
theorem dL_isWell_452 : decode cL_isWell 452 = .ok (.imul, 1) := by decide +kernel
theorem dL_isWell_453 : decode cL_isWell 453 = .ok (.iload 9, 2) := by decide +kernel
theorem dL_isWell_455 : decode cL_isWell 455 = .ok (.iadd, 1) := by decide +kernel
theorem dL_isWell_456 : decode cL_isWell 456 = .ok (.aload_n 0, 1) := by decide +kernel
theorem dL_isWell_457 : decode cL_isWell 457 = .ok (.iconst 2, 1) := by decide +kernel
theorem dL_isWell_458 : decode cL_isWell 458 = .ok (.invokevirtual 9, 3) := by decide +kernel
theorem dL_isWell_461 : decode cL_isWell 461 = .ok (.isub, 1) := by decide +kernel
theorem dL_isWell_462 : decode cL_isWell 462 = .ok (.istore 10, 2) := by decide +kernel
theorem dL_isWell_464 : decode cL_isWell 464 = .ok (.iload 10, 2) := by decide +kernel
theorem dL_isWell_466 : decode cL_isWell 466 = .ok (.ifCond .lt 16, 3) := by decide +kernel
theorem dL_isWell_469 : decode cL_isWell 469 = .ok (.iload 10, 2) := by decide +kernel
theorem dL_isWell_471 : decode cL_isWell 471 = .ok (.bipush 12, 2) := by decide +kernel
theorem dL_isWell_473 : decode cL_isWell 473 = .ok (.iload_n 2, 1) := by decide +kernel
theorem dL_isWell_474 : decode cL_isWell 474 = .ok (.imul, 1) := by decide +kernel
theorem dL_isWell_475 : decode cL_isWell 475 = .ok (.if_icmp .ge 7, 3) := by decide +kernel
theorem dL_isWell_478 : decode cL_isWell 478 = .ok (.iconst 1, 1) := by decide +kernel
theorem dL_isWell_479 : decode cL_isWell 479 = .ok (.goto 4, 3) := by decide +kernel
theorem dL_isWell_482 : decode cL_isWell 482 = .ok (.iconst 0, 1) := by decide +kernel
theorem dL_isWell_483 : decode cL_isWell 483 = .ok (.istore 11, 2) := by decide +kernel
theorem dL_isWell_485 : decode cL_isWell 485 = .ok (.iload 6, 2) := by decide +kernel
theorem dL_isWell_487 : decode cL_isWell 487 = .ok (.ifCond .eq 63, 3) := by decide +kernel
theorem dL_isWell_490 : decode cL_isWell 490 = .ok (.aload_n 0, 1) := by decide +kernel
theorem dL_isWell_491 : decode cL_isWell 491 = .ok (.iload 8, 2) := by decide +kernel
theorem dL_isWell_493 : decode cL_isWell 493 = .ok (.iload 9, 2) := by decide +kernel
theorem dL_isWell_495 : decode cL_isWell 495 = .ok (.iconst 0, 1) := by decide +kernel
theorem dL_isWell_496 : decode cL_isWell 496 = .ok (.invokevirtual 92, 3) := by decide +kernel
theorem dL_isWell_499 : decode cL_isWell 499 = .ok (.iload 11, 2) := by decide +kernel
theorem dL_isWell_501 : decode cL_isWell 501 = .ok (.ifCond .eq 14, 3) := by decide +kernel
theorem dL_isWell_504 : decode cL_isWell 504 = .ok (.aload_n 0, 1) := by decide +kernel
theorem dL_isWell_505 : decode cL_isWell 505 = .ok (.iload 10, 2) := by decide +kernel
theorem dL_isWell_507 : decode cL_isWell 507 = .ok (.iload_n 2, 1) := by decide +kernel
theorem dL_isWell_508 : decode cL_isWell 508 = .ok (.irem, 1) := by decide +kernel
theorem dL_isWell_509 : decode cL_isWell 509 = .ok (.invokevirtual 15, 3) := by decide +kernel
theorem dL_isWell_512 : decode cL_isWell 512 = .ok (.goto 5, 3) := by decide +kernel
theorem dL_isWell_515 : decode cL_isWell 515 = .ok (.bipush (-105), 2) := by decide +kernel
theorem dL_isWell_517 : decode cL_isWell 517 = .ok (.if_icmp .ne 33, 3) := by decide +kernel
theorem dL_isWell_520 : decode cL_isWell 520 = .ok (.aload_n 0, 1) := by decide +kernel
theorem dL_isWell_521 : decode cL_isWell 521 = .ok (.iload 8, 2) := by decide +kernel
theorem dL_isWell_523 : decode cL_isWell 523 = .ok (.iload 9, 2) := by decide +kernel
theorem dL_isWell_525 : decode cL_isWell 525 = .ok (.iconst 2, 1) := by decide +kernel
theorem dL_isWell_526 : decode cL_isWell 526 = .ok (.invokevirtual 92, 3) := by decide +kernel
theorem dL_isWell_529 : decode cL_isWell 529 = .ok (.iload 11, 2) := by decide +kernel
theorem dL_isWell_531 : decode cL_isWell 531 = .ok (.ifCond .eq 10, 3) := by decide +kernel
theorem dL_isWell_534 : decode cL_isWell 534 = .ok (.iload 10, 2) := by decide +kernel
theorem dL_isWell_536 : decode cL_isWell 536 = .ok (.iload_n 2, 1) := by decide +kernel
theorem dL_isWell_537 : decode cL_isWell 537 = .ok (.idiv, 1) := by decide +kernel
theorem dL_isWell_538 : decode cL_isWell 538 = .ok (.goto 5, 3) := by decide +kernel
theorem dL_isWell_541 : decode cL_isWell 541 = .ok (.bipush (-105), 2) := by decide +kernel
theorem dL_isWell_543 : decode cL_isWell 543 = .ok (.if_icmp .ne 7, 3) := by decide +kernel
theorem dL_isWell_546 : decode cL_isWell 546 = .ok (.iconst 1, 1) := by decide +kernel
theorem dL_isWell_547 : decode cL_isWell 547 = .ok (.goto 4, 3) := by decide +kernel
theorem dL_isWell_550 : decode cL_isWell 550 = .ok (.iconst 0, 1) := by decide +kernel
theorem dL_isWell_551 : decode cL_isWell 551 = .ok (.istore 6, 2) := by decide +kernel
theorem dL_isWell_553 : decode cL_isWell 553 = .ok (.iload 6, 2) := by decide +kernel
theorem dL_isWell_555 : decode cL_isWell 555 = .ok (.ifCond .eq 59, 3) := by decide +kernel
theorem dL_isWell_558 : decode cL_isWell 558 = .ok (.iload_n 3, 1) := by decide +kernel
theorem dL_isWell_559 : decode cL_isWell 559 = .ok (.aload_n 0, 1) := by decide +kernel
theorem dL_isWell_560 : decode cL_isWell 560 = .ok (.iconst 4, 1) := by decide +kernel
theorem dL_isWell_561 : decode cL_isWell 561 = .ok (.invokevirtual 9, 3) := by decide +kernel
theorem dL_isWell_564 : decode cL_isWell 564 = .ok (.if_icmp .ne 50, 3) := by decide +kernel
theorem dL_isWell_567 : decode cL_isWell 567 = .ok (.iload 4, 2) := by decide +kernel
theorem dL_isWell_569 : decode cL_isWell 569 = .ok (.aload_n 0, 1) := by decide +kernel
theorem dL_isWell_570 : decode cL_isWell 570 = .ok (.iconst 5, 1) := by decide +kernel
theorem dL_isWell_571 : decode cL_isWell 571 = .ok (.invokevirtual 9, 3) := by decide +kernel
theorem dL_isWell_574 : decode cL_isWell 574 = .ok (.if_icmp .ne 40, 3) := by decide +kernel
theorem dL_isWell_577 : decode cL_isWell 577 = .ok (.iload 7, 2) := by decide +kernel
theorem dL_isWell_579 : decode cL_isWell 579 = .ok (.aload_n 0, 1) := by decide +kernel
theorem dL_isWell_580 : decode cL_isWell 580 = .ok (.bipush 6, 2) := by decide +kernel
theorem dL_isWell_582 : decode cL_isWell 582 = .ok (.invokevirtual 9, 3) := by decide +kernel
theorem dL_isWell_585 : decode cL_isWell 585 = .ok (.if_icmp .ne 29, 3) := by decide +kernel
theorem dL_isWell_588 : decode cL_isWell 588 = .ok (.aload_n 0, 1) := by decide +kernel
theorem dL_isWell_589 : decode cL_isWell 589 = .ok (.bipush 8, 2) := by decide +kernel
theorem dL_isWell_591 : decode cL_isWell 591 = .ok (.invokevirtual 9, 3) := by decide +kernel
theorem dL_isWell_594 : decode cL_isWell 594 = .ok (.aload_n 0, 1) := by decide +kernel
theorem dL_isWell_595 : decode cL_isWell 595 = .ok (.bipush 9, 2) := by decide +kernel
theorem dL_isWell_597 : decode cL_isWell 597 = .ok (.invokevirtual 9, 3) := by decide +kernel
theorem dL_isWell_600 : decode cL_isWell 600 = .ok (.iadd, 1) := by decide +kernel
theorem dL_isWell_601 : decode cL_isWell 601 = .ok (.aload_n 0, 1) := by decide +kernel
theorem dL_isWell_602 : decode cL_isWell 602 = .ok (.bipush 7, 2) := by decide +kernel
theorem dL_isWell_604 : decode cL_isWell 604 = .ok (.invokevirtual 9, 3) := by decide +kernel
theorem dL_isWell_607 : decode cL_isWell 607 = .ok (.if_icmp .ne 7, 3) := by decide +kernel
theorem dL_isWell_610 : decode cL_isWell 610 = .ok (.iconst 1, 1) := by decide +kernel
theorem dL_isWell_611 : decode cL_isWell 611 = .ok (.goto 4, 3) := by decide +kernel
theorem dL_isWell_614 : decode cL_isWell 614 = .ok (.iconst 0, 1) := by decide +kernel
theorem dL_isWell_615 : decode cL_isWell 615 = .ok (.ireturn, 1) := by decide +kernel
theorem dL_law_0 : decode cL_law 0 = .ok (.new 10, 3) := by decide +kernel
theorem dL_law_3 : decode cL_law 3 = .ok (.dup, 1) := by decide +kernel
theorem dL_law_4 : decode cL_law 4 = .ok (.invokespecial 95, 3) := by decide +kernel
theorem dL_law_7 : decode cL_law 7 = .ok (.astore_n 1, 1) := by decide +kernel
theorem dL_law_8 : decode cL_law 8 = .ok (.new 10, 3) := by decide +kernel
theorem dL_law_11 : decode cL_law 11 = .ok (.dup, 1) := by decide +kernel
theorem dL_law_12 : decode cL_law 12 = .ok (.invokespecial 95, 3) := by decide +kernel
theorem dL_law_15 : decode cL_law 15 = .ok (.astore_n 2, 1) := by decide +kernel
theorem dL_law_16 : decode cL_law 16 = .ok (.aload_n 1, 1) := by decide +kernel
theorem dL_law_17 : decode cL_law 17 = .ok (.aload_n 2, 1) := by decide +kernel
theorem dL_law_18 : decode cL_law 18 = .ok (.aload_n 0, 1) := by decide +kernel
theorem dL_law_19 : decode cL_law 19 = .ok (.iconst 0, 1) := by decide +kernel
theorem dL_law_20 : decode cL_law 20 = .ok (.invokestatic 96, 3) := by decide +kernel
theorem dL_law_23 : decode cL_law 23 = .ok (.aload_n 0, 1) := by decide +kernel
theorem dL_law_24 : decode cL_law 24 = .ok (.iconst 1, 1) := by decide +kernel
theorem dL_law_25 : decode cL_law 25 = .ok (.invokestatic 96, 3) := by decide +kernel
theorem dL_law_28 : decode cL_law 28 = .ok (.invokestatic 51, 3) := by decide +kernel
theorem dL_law_31 : decode cL_law 31 = .ok (.istore_n 3, 1) := by decide +kernel
theorem dL_law_32 : decode cL_law 32 = .ok (.iconst 2, 1) := by decide +kernel
theorem dL_law_33 : decode cL_law 33 = .ok (.istore 4, 2) := by decide +kernel
theorem dL_law_35 : decode cL_law 35 = .ok (.iload 4, 2) := by decide +kernel
theorem dL_law_37 : decode cL_law 37 = .ok (.bipush 44, 2) := by decide +kernel
theorem dL_law_39 : decode cL_law 39 = .ok (.if_icmp .ge 67, 3) := by decide +kernel
theorem dL_law_42 : decode cL_law 42 = .ok (.iload_n 3, 1) := by decide +kernel
theorem dL_law_43 : decode cL_law 43 = .ok (.ifCond .eq 63, 3) := by decide +kernel
theorem dL_law_46 : decode cL_law 46 = .ok (.aload_n 1, 1) := by decide +kernel
theorem dL_law_47 : decode cL_law 47 = .ok (.aload_n 2, 1) := by decide +kernel
theorem dL_law_48 : decode cL_law 48 = .ok (.aload_n 0, 1) := by decide +kernel
theorem dL_law_49 : decode cL_law 49 = .ok (.iload 4, 2) := by decide +kernel
theorem dL_law_51 : decode cL_law 51 = .ok (.invokestatic 96, 3) := by decide +kernel
theorem dL_law_54 : decode cL_law 54 = .ok (.aload_n 0, 1) := by decide +kernel
theorem dL_law_55 : decode cL_law 55 = .ok (.iload 4, 2) := by decide +kernel
theorem dL_law_57 : decode cL_law 57 = .ok (.iconst 1, 1) := by decide +kernel
theorem dL_law_58 : decode cL_law 58 = .ok (.iadd, 1) := by decide +kernel
theorem dL_law_59 : decode cL_law 59 = .ok (.invokestatic 96, 3) := by decide +kernel
theorem dL_law_62 : decode cL_law 62 = .ok (.iconst 2, 1) := by decide +kernel
theorem dL_law_63 : decode cL_law 63 = .ok (.ishr, 1) := by decide +kernel
theorem dL_law_64 : decode cL_law 64 = .ok (.invokestatic 100, 3) := by decide +kernel
theorem dL_law_67 : decode cL_law 67 = .ok (.ifCond .eq 31, 3) := by decide +kernel
theorem dL_law_70 : decode cL_law 70 = .ok (.iload 4, 2) := by decide +kernel
theorem dL_law_72 : decode cL_law 72 = .ok (.bipush 7, 2) := by decide +kernel
theorem dL_law_74 : decode cL_law 74 = .ok (.irem, 1) := by decide +kernel
theorem dL_law_75 : decode cL_law 75 = .ok (.ifCond .gt 19, 3) := by decide +kernel
theorem dL_law_78 : decode cL_law 78 = .ok (.aload_n 1, 1) := by decide +kernel
theorem dL_law_79 : decode cL_law 79 = .ok (.aload_n 0, 1) := by decide +kernel
theorem dL_law_80 : decode cL_law 80 = .ok (.iload 4, 2) := by decide +kernel
theorem dL_law_82 : decode cL_law 82 = .ok (.invokestatic 96, 3) := by decide +kernel
theorem dL_law_85 : decode cL_law 85 = .ok (.bipush 8, 2) := by decide +kernel
theorem dL_law_87 : decode cL_law 87 = .ok (.ishr, 1) := by decide +kernel
theorem dL_law_88 : decode cL_law 88 = .ok (.invokestatic 103, 3) := by decide +kernel
theorem dL_law_91 : decode cL_law 91 = .ok (.ifCond .eq 7, 3) := by decide +kernel
theorem dL_law_94 : decode cL_law 94 = .ok (.iconst 1, 1) := by decide +kernel
theorem dL_law_95 : decode cL_law 95 = .ok (.goto 4, 3) := by decide +kernel
theorem dL_law_98 : decode cL_law 98 = .ok (.iconst 0, 1) := by decide +kernel
theorem dL_law_99 : decode cL_law 99 = .ok (.istore_n 3, 1) := by decide +kernel
theorem dL_law_100 : decode cL_law 100 = .ok (.iinc 4 1, 3) := by decide +kernel
theorem dL_law_103 : decode cL_law 103 = .ok (.goto (-68), 3) := by decide +kernel
theorem dL_law_106 : decode cL_law 106 = .ok (.iload_n 3, 1) := by decide +kernel
theorem dL_law_107 : decode cL_law 107 = .ok (.ifCond .eq 28, 3) := by decide +kernel
theorem dL_law_110 : decode cL_law 110 = .ok (.aload_n 1, 1) := by decide +kernel
theorem dL_law_111 : decode cL_law 111 = .ok (.aload_n 0, 1) := by decide +kernel
theorem dL_law_112 : decode cL_law 112 = .ok (.bipush 44, 2) := by decide +kernel
theorem dL_law_114 : decode cL_law 114 = .ok (.invokestatic 96, 3) := by decide +kernel
theorem dL_law_117 : decode cL_law 117 = .ok (.invokestatic 103, 3) := by decide +kernel
theorem dL_law_120 : decode cL_law 120 = .ok (.ifCond .eq 15, 3) := by decide +kernel
theorem dL_law_123 : decode cL_law 123 = .ok (.aload_n 1, 1) := by decide +kernel
theorem dL_law_124 : decode cL_law 124 = .ok (.aload_n 2, 1) := by decide +kernel
theorem dL_law_125 : decode cL_law 125 = .ok (.invokestatic 107, 3) := by decide +kernel
theorem dL_law_128 : decode cL_law 128 = .ok (.ifCond .eq 7, 3) := by decide +kernel
theorem dL_law_131 : decode cL_law 131 = .ok (.iconst 1, 1) := by decide +kernel
theorem dL_law_132 : decode cL_law 132 = .ok (.goto 4, 3) := by decide +kernel
theorem dL_law_135 : decode cL_law 135 = .ok (.iconst 0, 1) := by decide +kernel
theorem dL_law_136 : decode cL_law 136 = .ok (.ireturn, 1) := by decide +kernel
