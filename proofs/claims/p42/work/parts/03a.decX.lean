theorem dX0_init_0 : decode cX0_init 0 = .ok (.aload_n 0, 1) := by decide +kernel
theorem dX0_init_1 : decode cX0_init 1 = .ok (.invokespecial 3, 3) := by decide +kernel
theorem dX0_init_4 : decode cX0_init 4 = .ok (.aload_n 0, 1) := by decide +kernel
theorem dX0_init_5 : decode cX0_init 5 = .ok (.new 9, 3) := by decide +kernel
theorem dX0_init_8 : decode cX0_init 8 = .ok (.dup, 1) := by decide +kernel
theorem dX0_init_9 : decode cX0_init 9 = .ok (.invokespecial 11, 3) := by decide +kernel
theorem dX0_init_12 : decode cX0_init 12 = .ok (.putfield 12, 3) := by decide +kernel
theorem dX0_init_15 : decode cX0_init 15 = .ok (.return_, 1) := by decide +kernel
theorem dX0_size_0 : decode cX0_size 0 = .ok (.aload_n 0, 1) := by decide +kernel
theorem dX0_size_1 : decode cX0_size 1 = .ok (.getfield 12, 3) := by decide +kernel
theorem dX0_size_4 : decode cX0_size 4 = .ok (.invokeinterface 18 1, 5) := by decide +kernel
theorem dX0_size_9 : decode cX0_size 9 = .ok (.ireturn, 1) := by decide +kernel
theorem dX0_at_0 : decode cX0_at 0 = .ok (.aload_n 0, 1) := by decide +kernel
theorem dX0_at_1 : decode cX0_at 1 = .ok (.getfield 12, 3) := by decide +kernel
theorem dX0_at_4 : decode cX0_at 4 = .ok (.iload_n 1, 1) := by decide +kernel
theorem dX0_at_5 : decode cX0_at 5 = .ok (.invokeinterface 24 2, 5) := by decide +kernel
theorem dX0_at_10 : decode cX0_at 10 = .ok (.checkcast 28, 3) := by decide +kernel
theorem dX0_at_13 : decode cX0_at 13 = .ok (.areturn, 1) := by decide +kernel
theorem dX0_cut_0 : decode cX0_cut 0 = .ok (.aload_n 0, 1) := by decide +kernel
theorem dX0_cut_1 : decode cX0_cut 1 = .ok (.getfield 12, 3) := by decide +kernel
theorem dX0_cut_4 : decode cX0_cut 4 = .ok (.invokeinterface 30 1, 5) := by decide +kernel
theorem dX0_cut_9 : decode cX0_cut 9 = .ok (.iconst 0, 1) := by decide +kernel
theorem dX0_cut_10 : decode cX0_cut 10 = .ok (.istore_n 3, 1) := by decide +kernel
theorem dX0_cut_11 : decode cX0_cut 11 = .ok (.iconst 0, 1) := by decide +kernel
theorem dX0_cut_12 : decode cX0_cut 12 = .ok (.istore 4, 2) := by decide +kernel
theorem dX0_cut_14 : decode cX0_cut 14 = .ok (.iconst 0, 1) := by decide +kernel
theorem dX0_cut_15 : decode cX0_cut 15 = .ok (.istore 5, 2) := by decide +kernel
theorem dX0_cut_17 : decode cX0_cut 17 = .ok (.iload 5, 2) := by decide +kernel
theorem dX0_cut_19 : decode cX0_cut 19 = .ok (.aload_n 1, 1) := by decide +kernel
theorem dX0_cut_20 : decode cX0_cut 20 = .ok (.invokevirtual 33, 3) := by decide +kernel
theorem dX0_cut_23 : decode cX0_cut 23 = .ok (.if_icmp .ge 117, 3) := by decide +kernel
theorem dX0_cut_26 : decode cX0_cut 26 = .ok (.iload 4, 2) := by decide +kernel
theorem dX0_cut_28 : decode cX0_cut 28 = .ok (.ifCond .ne 13, 3) := by decide +kernel
theorem dX0_cut_31 : decode cX0_cut 31 = .ok (.aload_n 1, 1) := by decide +kernel
theorem dX0_cut_32 : decode cX0_cut 32 = .ok (.iload 5, 2) := by decide +kernel
theorem dX0_cut_34 : decode cX0_cut 34 = .ok (.aload_n 2, 1) := by decide +kernel
theorem dX0_cut_35 : decode cX0_cut 35 = .ok (.invokestatic 36, 3) := by decide +kernel
theorem dX0_cut_38 : decode cX0_cut 38 = .ok (.ifCond .eq 7, 3) := by decide +kernel
theorem dX0_cut_41 : decode cX0_cut 41 = .ok (.iconst 1, 1) := by decide +kernel
theorem dX0_cut_42 : decode cX0_cut 42 = .ok (.goto 4, 3) := by decide +kernel
theorem dX0_cut_45 : decode cX0_cut 45 = .ok (.iconst 0, 1) := by decide +kernel
theorem dX0_cut_46 : decode cX0_cut 46 = .ok (.istore 4, 2) := by decide +kernel
theorem dX0_cut_48 : decode cX0_cut 48 = .ok (.iload 5, 2) := by decide +kernel
theorem dX0_cut_50 : decode cX0_cut 50 = .ok (.iconst 1, 1) := by decide +kernel
theorem dX0_cut_51 : decode cX0_cut 51 = .ok (.iadd, 1) := by decide +kernel
theorem dX0_cut_52 : decode cX0_cut 52 = .ok (.aload_n 1, 1) := by decide +kernel
theorem dX0_cut_53 : decode cX0_cut 53 = .ok (.invokevirtual 33, 3) := by decide +kernel
theorem dX0_cut_56 : decode cX0_cut 56 = .ok (.if_icmp .ne 7, 3) := by decide +kernel
theorem dX0_cut_59 : decode cX0_cut 59 = .ok (.iconst 1, 1) := by decide +kernel
theorem dX0_cut_60 : decode cX0_cut 60 = .ok (.goto 4, 3) := by decide +kernel
theorem dX0_cut_63 : decode cX0_cut 63 = .ok (.iconst 0, 1) := by decide +kernel
theorem dX0_cut_64 : decode cX0_cut 64 = .ok (.istore 6, 2) := by decide +kernel
theorem dX0_cut_66 : decode cX0_cut 66 = .ok (.iload 6, 2) := by decide +kernel
theorem dX0_cut_68 : decode cX0_cut 68 = .ok (.ifCond .ne 23, 3) := by decide +kernel
theorem dX0_cut_71 : decode cX0_cut 71 = .ok (.iload 4, 2) := by decide +kernel
theorem dX0_cut_73 : decode cX0_cut 73 = .ok (.ifCond .eq 61, 3) := by decide +kernel
theorem dX0_cut_76 : decode cX0_cut 76 = .ok (.aload_n 1, 1) := by decide +kernel
theorem dX0_cut_77 : decode cX0_cut 77 = .ok (.iload 5, 2) := by decide +kernel
theorem dX0_cut_79 : decode cX0_cut 79 = .ok (.iconst 1, 1) := by decide +kernel
theorem dX0_cut_80 : decode cX0_cut 80 = .ok (.iadd, 1) := by decide +kernel
theorem dX0_cut_81 : decode cX0_cut 81 = .ok (.invokevirtual 40, 3) := by decide +kernel
theorem dX0_cut_84 : decode cX0_cut 84 = .ok (.invokestatic 44, 3) := by decide +kernel
theorem dX0_cut_87 : decode cX0_cut 87 = .ok (.iconst 2, 1) := by decide +kernel
theorem dX0_cut_88 : decode cX0_cut 88 = .ok (.if_icmp .eq 46, 3) := by decide +kernel
theorem dX0_cut_91 : decode cX0_cut 91 = .ok (.new 28, 3) := by decide +kernel
theorem dX0_cut_94 : decode cX0_cut 94 = .ok (.dup, 1) := by decide +kernel
theorem dX0_cut_95 : decode cX0_cut 95 = .ok (.invokespecial 49, 3) := by decide +kernel
theorem dX0_cut_98 : decode cX0_cut 98 = .ok (.astore 7, 2) := by decide +kernel
theorem dX0_cut_100 : decode cX0_cut 100 = .ok (.aload 7, 2) := by decide +kernel
theorem dX0_cut_102 : decode cX0_cut 102 = .ok (.getfield 50, 3) := by decide +kernel
theorem dX0_cut_105 : decode cX0_cut 105 = .ok (.aload_n 1, 1) := by decide +kernel
theorem dX0_cut_106 : decode cX0_cut 106 = .ok (.iload_n 3, 1) := by decide +kernel
theorem dX0_cut_107 : decode cX0_cut 107 = .ok (.iload 5, 2) := by decide +kernel
theorem dX0_cut_109 : decode cX0_cut 109 = .ok (.iconst 1, 1) := by decide +kernel
theorem dX0_cut_110 : decode cX0_cut 110 = .ok (.iadd, 1) := by decide +kernel
theorem dX0_cut_111 : decode cX0_cut 111 = .ok (.invokevirtual 54, 3) := by decide +kernel
theorem dX0_cut_114 : decode cX0_cut 114 = .ok (.aload_n 0, 1) := by decide +kernel
theorem dX0_cut_115 : decode cX0_cut 115 = .ok (.getfield 12, 3) := by decide +kernel
theorem dX0_cut_118 : decode cX0_cut 118 = .ok (.aload 7, 2) := by decide +kernel
theorem dX0_cut_120 : decode cX0_cut 120 = .ok (.invokeinterface 58 2, 5) := by decide +kernel
theorem dX0_cut_125 : decode cX0_cut 125 = .ok (.pop, 1) := by decide +kernel
theorem dX0_cut_126 : decode cX0_cut 126 = .ok (.iload 5, 2) := by decide +kernel
theorem dX0_cut_128 : decode cX0_cut 128 = .ok (.iconst 1, 1) := by decide +kernel
theorem dX0_cut_129 : decode cX0_cut 129 = .ok (.iadd, 1) := by decide +kernel
theorem dX0_cut_130 : decode cX0_cut 130 = .ok (.istore_n 3, 1) := by decide +kernel
theorem dX0_cut_131 : decode cX0_cut 131 = .ok (.iconst 0, 1) := by decide +kernel
theorem dX0_cut_132 : decode cX0_cut 132 = .ok (.istore 4, 2) := by decide +kernel
theorem dX0_cut_134 : decode cX0_cut 134 = .ok (.iinc 5 1, 3) := by decide +kernel
theorem dX0_cut_137 : decode cX0_cut 137 = .ok (.goto (-120), 3) := by decide +kernel
theorem dX0_cut_140 : decode cX0_cut 140 = .ok (.return_, 1) := by decide +kernel
theorem dX0_isEnd_0 : decode cX0_isEnd 0 = .ok (.aload_n 0, 1) := by decide +kernel
theorem dX0_isEnd_1 : decode cX0_isEnd 1 = .ok (.iload_n 1, 1) := by decide +kernel
theorem dX0_isEnd_2 : decode cX0_isEnd 2 = .ok (.invokevirtual 40, 3) := by decide +kernel
theorem dX0_isEnd_5 : decode cX0_isEnd 5 = .ok (.istore_n 3, 1) := by decide +kernel
theorem dX0_isEnd_6 : decode cX0_isEnd 6 = .ok (.iload_n 3, 1) := by decide +kernel
theorem dX0_isEnd_7 : decode cX0_isEnd 7 = .ok (.iconst 3, 1) := by decide +kernel
theorem dX0_isEnd_8 : decode cX0_isEnd 8 = .ok (.bipush 33, 2) := by decide +kernel
theorem dX0_isEnd_10 : decode cX0_isEnd 10 = .ok (.invokestatic 62, 3) := by decide +kernel
theorem dX0_isEnd_13 : decode cX0_isEnd 13 = .ok (.if_icmp .eq 13, 3) := by decide +kernel
theorem dX0_isEnd_16 : decode cX0_isEnd 16 = .ok (.iload_n 3, 1) := by decide +kernel
theorem dX0_isEnd_17 : decode cX0_isEnd 17 = .ok (.iconst 3, 1) := by decide +kernel
theorem dX0_isEnd_18 : decode cX0_isEnd 18 = .ok (.bipush 63, 2) := by decide +kernel
theorem dX0_isEnd_20 : decode cX0_isEnd 20 = .ok (.invokestatic 62, 3) := by decide +kernel
theorem dX0_isEnd_23 : decode cX0_isEnd 23 = .ok (.if_icmp .ne 5, 3) := by decide +kernel
theorem dX0_isEnd_26 : decode cX0_isEnd 26 = .ok (.iconst 1, 1) := by decide +kernel
theorem dX0_isEnd_27 : decode cX0_isEnd 27 = .ok (.ireturn, 1) := by decide +kernel
theorem dX0_isEnd_28 : decode cX0_isEnd 28 = .ok (.iload_n 3, 1) := by decide +kernel
theorem dX0_isEnd_29 : decode cX0_isEnd 29 = .ok (.iconst 3, 1) := by decide +kernel
theorem dX0_isEnd_30 : decode cX0_isEnd 30 = .ok (.bipush 46, 2) := by decide +kernel
theorem dX0_isEnd_32 : decode cX0_isEnd 32 = .ok (.invokestatic 62, 3) := by decide +kernel
theorem dX0_isEnd_35 : decode cX0_isEnd 35 = .ok (.if_icmp .eq 5, 3) := by decide +kernel
theorem dX0_isEnd_38 : decode cX0_isEnd 38 = .ok (.iconst 0, 1) := by decide +kernel
theorem dX0_isEnd_39 : decode cX0_isEnd 39 = .ok (.ireturn, 1) := by decide +kernel
theorem dX0_isEnd_40 : decode cX0_isEnd 40 = .ok (.aload_n 0, 1) := by decide +kernel
theorem dX0_isEnd_41 : decode cX0_isEnd 41 = .ok (.iload_n 1, 1) := by decide +kernel
theorem dX0_isEnd_42 : decode cX0_isEnd 42 = .ok (.iconst 1, 1) := by decide +kernel
theorem dX0_isEnd_43 : decode cX0_isEnd 43 = .ok (.isub, 1) := by decide +kernel
theorem dX0_isEnd_44 : decode cX0_isEnd 44 = .ok (.invokevirtual 40, 3) := by decide +kernel
theorem dX0_isEnd_47 : decode cX0_isEnd 47 = .ok (.istore 4, 2) := by decide +kernel
theorem dX0_isEnd_49 : decode cX0_isEnd 49 = .ok (.aload_n 0, 1) := by decide +kernel
theorem dX0_isEnd_50 : decode cX0_isEnd 50 = .ok (.iload_n 1, 1) := by decide +kernel
theorem dX0_isEnd_51 : decode cX0_isEnd 51 = .ok (.iconst 1, 1) := by decide +kernel
theorem dX0_isEnd_52 : decode cX0_isEnd 52 = .ok (.iadd, 1) := by decide +kernel
theorem dX0_isEnd_53 : decode cX0_isEnd 53 = .ok (.invokevirtual 40, 3) := by decide +kernel
theorem dX0_isEnd_56 : decode cX0_isEnd 56 = .ok (.istore 5, 2) := by decide +kernel
theorem dX0_isEnd_58 : decode cX0_isEnd 58 = .ok (.iload 4, 2) := by decide +kernel
theorem dX0_isEnd_60 : decode cX0_isEnd 60 = .ok (.invokestatic 44, 3) := by decide +kernel
theorem dX0_isEnd_63 : decode cX0_isEnd 63 = .ok (.iconst 1, 1) := by decide +kernel
theorem dX0_isEnd_64 : decode cX0_isEnd 64 = .ok (.if_icmp .ne 16, 3) := by decide +kernel
theorem dX0_isEnd_67 : decode cX0_isEnd 67 = .ok (.iload 5, 2) := by decide +kernel
theorem dX0_isEnd_69 : decode cX0_isEnd 69 = .ok (.invokestatic 44, 3) := by decide +kernel
theorem dX0_isEnd_72 : decode cX0_isEnd 72 = .ok (.iconst 1, 1) := by decide +kernel
theorem dX0_isEnd_73 : decode cX0_isEnd 73 = .ok (.if_icmp .ne 7, 3) := by decide +kernel
theorem dX0_isEnd_76 : decode cX0_isEnd 76 = .ok (.iconst 1, 1) := by decide +kernel
theorem dX0_isEnd_77 : decode cX0_isEnd 77 = .ok (.goto 4, 3) := by decide +kernel
theorem dX0_isEnd_80 : decode cX0_isEnd 80 = .ok (.iconst 0, 1) := by decide +kernel
theorem dX0_isEnd_81 : decode cX0_isEnd 81 = .ok (.istore 6, 2) := by decide +kernel
theorem dX0_isEnd_83 : decode cX0_isEnd 83 = .ok (.iload 6, 2) := by decide +kernel
theorem dX0_isEnd_85 : decode cX0_isEnd 85 = .ok (.ifCond .ne 16, 3) := by decide +kernel
theorem dX0_isEnd_88 : decode cX0_isEnd 88 = .ok (.iload 4, 2) := by decide +kernel
theorem dX0_isEnd_90 : decode cX0_isEnd 90 = .ok (.aload_n 2, 1) := by decide +kernel
theorem dX0_isEnd_91 : decode cX0_isEnd 91 = .ok (.invokestatic 66, 3) := by decide +kernel
theorem dX0_isEnd_94 : decode cX0_isEnd 94 = .ok (.ifCond .ne 7, 3) := by decide +kernel
theorem dX0_isEnd_97 : decode cX0_isEnd 97 = .ok (.iconst 1, 1) := by decide +kernel
theorem dX0_isEnd_98 : decode cX0_isEnd 98 = .ok (.goto 4, 3) := by decide +kernel
theorem dX0_isEnd_101 : decode cX0_isEnd 101 = .ok (.iconst 0, 1) := by decide +kernel
theorem dX0_isEnd_102 : decode cX0_isEnd 102 = .ok (.ireturn, 1) := by decide +kernel
theorem dX0_isAbbreviation_0 : decode cX0_isAbbreviation 0 = .ok (.iload_n 0, 1) := by decide +kernel
theorem dX0_isAbbreviation_1 : decode cX0_isAbbreviation 1 = .ok (.invokestatic 70, 3) := by decide +kernel
theorem dX0_isAbbreviation_4 : decode cX0_isAbbreviation 4 = .ok (.istore_n 2, 1) := by decide +kernel
theorem dX0_isAbbreviation_5 : decode cX0_isAbbreviation 5 = .ok (.iload_n 0, 1) := by decide +kernel
theorem dX0_isAbbreviation_6 : decode cX0_isAbbreviation 6 = .ok (.invokestatic 44, 3) := by decide +kernel
theorem dX0_isAbbreviation_9 : decode cX0_isAbbreviation 9 = .ok (.ifCond .ne 23, 3) := by decide +kernel
theorem dX0_isAbbreviation_12 : decode cX0_isAbbreviation 12 = .ok (.iload_n 2, 1) := by decide +kernel
theorem dX0_isAbbreviation_13 : decode cX0_isAbbreviation 13 = .ok (.ifCond .lt 19, 3) := by decide +kernel
theorem dX0_isAbbreviation_16 : decode cX0_isAbbreviation 16 = .ok (.iload_n 2, 1) := by decide +kernel
theorem dX0_isAbbreviation_17 : decode cX0_isAbbreviation 17 = .ok (.aload_n 1, 1) := by decide +kernel
theorem dX0_isAbbreviation_18 : decode cX0_isAbbreviation 18 = .ok (.arraylength, 1) := by decide +kernel
theorem dX0_isAbbreviation_19 : decode cX0_isAbbreviation 19 = .ok (.if_icmp .ge 13, 3) := by decide +kernel
theorem dX0_isAbbreviation_22 : decode cX0_isAbbreviation 22 = .ok (.aload_n 1, 1) := by decide +kernel
theorem dX0_isAbbreviation_23 : decode cX0_isAbbreviation 23 = .ok (.iload_n 2, 1) := by decide +kernel
theorem dX0_isAbbreviation_24 : decode cX0_isAbbreviation 24 = .ok (.baload, 1) := by decide +kernel
theorem dX0_isAbbreviation_25 : decode cX0_isAbbreviation 25 = .ok (.ifCond .eq 7, 3) := by decide +kernel
theorem dX0_isAbbreviation_28 : decode cX0_isAbbreviation 28 = .ok (.iconst 1, 1) := by decide +kernel
theorem dX0_isAbbreviation_29 : decode cX0_isAbbreviation 29 = .ok (.goto 4, 3) := by decide +kernel
theorem dX0_isAbbreviation_32 : decode cX0_isAbbreviation 32 = .ok (.iconst 0, 1) := by decide +kernel
theorem dX0_isAbbreviation_33 : decode cX0_isAbbreviation 33 = .ok (.ireturn, 1) := by decide +kernel
theorem dX0_hasEqualBefore_0 : decode cX0_hasEqualBefore 0 = .ok (.aload_n 0, 1) := by decide +kernel
theorem dX0_hasEqualBefore_1 : decode cX0_hasEqualBefore 1 = .ok (.iload_n 1, 1) := by decide +kernel
theorem dX0_hasEqualBefore_2 : decode cX0_hasEqualBefore 2 = .ok (.invokevirtual 73, 3) := by decide +kernel
theorem dX0_hasEqualBefore_5 : decode cX0_hasEqualBefore 5 = .ok (.getfield 50, 3) := by decide +kernel
theorem dX0_hasEqualBefore_8 : decode cX0_hasEqualBefore 8 = .ok (.astore_n 2, 1) := by decide +kernel
theorem dX0_hasEqualBefore_9 : decode cX0_hasEqualBefore 9 = .ok (.iconst 0, 1) := by decide +kernel
theorem dX0_hasEqualBefore_10 : decode cX0_hasEqualBefore 10 = .ok (.istore_n 3, 1) := by decide +kernel
theorem dX0_hasEqualBefore_11 : decode cX0_hasEqualBefore 11 = .ok (.iload_n 3, 1) := by decide +kernel
theorem dX0_hasEqualBefore_12 : decode cX0_hasEqualBefore 12 = .ok (.iload_n 1, 1) := by decide +kernel
theorem dX0_hasEqualBefore_13 : decode cX0_hasEqualBefore 13 = .ok (.if_icmp .ge 26, 3) := by decide +kernel
theorem dX0_hasEqualBefore_16 : decode cX0_hasEqualBefore 16 = .ok (.aload_n 0, 1) := by decide +kernel
theorem dX0_hasEqualBefore_17 : decode cX0_hasEqualBefore 17 = .ok (.iload_n 3, 1) := by decide +kernel
theorem dX0_hasEqualBefore_18 : decode cX0_hasEqualBefore 18 = .ok (.invokevirtual 73, 3) := by decide +kernel
theorem dX0_hasEqualBefore_21 : decode cX0_hasEqualBefore 21 = .ok (.getfield 50, 3) := by decide +kernel
theorem dX0_hasEqualBefore_24 : decode cX0_hasEqualBefore 24 = .ok (.aload_n 2, 1) := by decide +kernel
theorem dX0_hasEqualBefore_25 : decode cX0_hasEqualBefore 25 = .ok (.invokevirtual 76, 3) := by decide +kernel
theorem dX0_hasEqualBefore_28 : decode cX0_hasEqualBefore 28 = .ok (.ifCond .eq 5, 3) := by decide +kernel
theorem dX0_hasEqualBefore_31 : decode cX0_hasEqualBefore 31 = .ok (.iconst 1, 1) := by decide +kernel
theorem dX0_hasEqualBefore_32 : decode cX0_hasEqualBefore 32 = .ok (.ireturn, 1) := by decide +kernel
theorem dX0_hasEqualBefore_33 : decode cX0_hasEqualBefore 33 = .ok (.iinc 3 1, 3) := by decide +kernel
theorem dX0_hasEqualBefore_36 : decode cX0_hasEqualBefore 36 = .ok (.goto (-25), 3) := by decide +kernel
theorem dX0_hasEqualBefore_39 : decode cX0_hasEqualBefore 39 = .ok (.iconst 0, 1) := by decide +kernel
theorem dX0_hasEqualBefore_40 : decode cX0_hasEqualBefore 40 = .ok (.ireturn, 1) := by decide +kernel
theorem dX0_firstFilledEqualBefore_0 : decode cX0_firstFilledEqualBefore 0 = .ok (.aload_n 0, 1) := by decide +kernel
theorem dX0_firstFilledEqualBefore_1 : decode cX0_firstFilledEqualBefore 1 = .ok (.iload_n 1, 1) := by decide +kernel
theorem dX0_firstFilledEqualBefore_2 : decode cX0_firstFilledEqualBefore 2 = .ok (.invokevirtual 73, 3) := by decide +kernel
theorem dX0_firstFilledEqualBefore_5 : decode cX0_firstFilledEqualBefore 5 = .ok (.getfield 50, 3) := by decide +kernel
theorem dX0_firstFilledEqualBefore_8 : decode cX0_firstFilledEqualBefore 8 = .ok (.astore_n 2, 1) := by decide +kernel
theorem dX0_firstFilledEqualBefore_9 : decode cX0_firstFilledEqualBefore 9 = .ok (.iconst 0, 1) := by decide +kernel
theorem dX0_firstFilledEqualBefore_10 : decode cX0_firstFilledEqualBefore 10 = .ok (.istore_n 3, 1) := by decide +kernel
theorem dX0_firstFilledEqualBefore_11 : decode cX0_firstFilledEqualBefore 11 = .ok (.iload_n 3, 1) := by decide +kernel
theorem dX0_firstFilledEqualBefore_12 : decode cX0_firstFilledEqualBefore 12 = .ok (.iload_n 1, 1) := by decide +kernel
theorem dX0_firstFilledEqualBefore_13 : decode cX0_firstFilledEqualBefore 13 = .ok (.if_icmp .ge 38, 3) := by decide +kernel
theorem dX0_firstFilledEqualBefore_16 : decode cX0_firstFilledEqualBefore 16 = .ok (.aload_n 0, 1) := by decide +kernel
theorem dX0_firstFilledEqualBefore_17 : decode cX0_firstFilledEqualBefore 17 = .ok (.iload_n 3, 1) := by decide +kernel
theorem dX0_firstFilledEqualBefore_18 : decode cX0_firstFilledEqualBefore 18 = .ok (.invokevirtual 73, 3) := by decide +kernel
theorem dX0_firstFilledEqualBefore_21 : decode cX0_firstFilledEqualBefore 21 = .ok (.astore 4, 2) := by decide +kernel
theorem dX0_firstFilledEqualBefore_23 : decode cX0_firstFilledEqualBefore 23 = .ok (.aload 4, 2) := by decide +kernel
theorem dX0_firstFilledEqualBefore_25 : decode cX0_firstFilledEqualBefore 25 = .ok (.invokevirtual 80, 3) := by decide +kernel
theorem dX0_firstFilledEqualBefore_28 : decode cX0_firstFilledEqualBefore 28 = .ok (.ifCond .ne 17, 3) := by decide +kernel
theorem dX0_firstFilledEqualBefore_31 : decode cX0_firstFilledEqualBefore 31 = .ok (.aload 4, 2) := by decide +kernel
theorem dX0_firstFilledEqualBefore_33 : decode cX0_firstFilledEqualBefore 33 = .ok (.getfield 50, 3) := by decide +kernel
theorem dX0_firstFilledEqualBefore_36 : decode cX0_firstFilledEqualBefore 36 = .ok (.aload_n 2, 1) := by decide +kernel
theorem dX0_firstFilledEqualBefore_37 : decode cX0_firstFilledEqualBefore 37 = .ok (.invokevirtual 76, 3) := by decide +kernel
theorem dX0_firstFilledEqualBefore_40 : decode cX0_firstFilledEqualBefore 40 = .ok (.ifCond .eq 5, 3) := by decide +kernel
theorem dX0_firstFilledEqualBefore_43 : decode cX0_firstFilledEqualBefore 43 = .ok (.iload_n 3, 1) := by decide +kernel
theorem dX0_firstFilledEqualBefore_44 : decode cX0_firstFilledEqualBefore 44 = .ok (.ireturn, 1) := by decide +kernel
theorem dX0_firstFilledEqualBefore_45 : decode cX0_firstFilledEqualBefore 45 = .ok (.iinc 3 1, 3) := by decide +kernel
theorem dX0_firstFilledEqualBefore_48 : decode cX0_firstFilledEqualBefore 48 = .ok (.goto (-37), 3) := by decide +kernel
theorem dX0_firstFilledEqualBefore_51 : decode cX0_firstFilledEqualBefore 51 = .ok (.iconst (-1), 1) := by decide +kernel
theorem dX0_firstFilledEqualBefore_52 : decode cX0_firstFilledEqualBefore 52 = .ok (.ireturn, 1) := by decide +kernel
theorem dX0_spreadAnswer_0 : decode cX0_spreadAnswer 0 = .ok (.aload_n 0, 1) := by decide +kernel
theorem dX0_spreadAnswer_1 : decode cX0_spreadAnswer 1 = .ok (.iload_n 1, 1) := by decide +kernel
theorem dX0_spreadAnswer_2 : decode cX0_spreadAnswer 2 = .ok (.invokevirtual 73, 3) := by decide +kernel
theorem dX0_spreadAnswer_5 : decode cX0_spreadAnswer 5 = .ok (.astore_n 2, 1) := by decide +kernel
theorem dX0_spreadAnswer_6 : decode cX0_spreadAnswer 6 = .ok (.iconst 0, 1) := by decide +kernel
theorem dX0_spreadAnswer_7 : decode cX0_spreadAnswer 7 = .ok (.istore_n 3, 1) := by decide +kernel
theorem dX0_spreadAnswer_8 : decode cX0_spreadAnswer 8 = .ok (.iconst 0, 1) := by decide +kernel
theorem dX0_spreadAnswer_9 : decode cX0_spreadAnswer 9 = .ok (.istore 4, 2) := by decide +kernel
theorem dX0_spreadAnswer_11 : decode cX0_spreadAnswer 11 = .ok (.iload 4, 2) := by decide +kernel
theorem dX0_spreadAnswer_13 : decode cX0_spreadAnswer 13 = .ok (.aload_n 0, 1) := by decide +kernel
theorem dX0_spreadAnswer_14 : decode cX0_spreadAnswer 14 = .ok (.getfield 12, 3) := by decide +kernel
theorem dX0_spreadAnswer_17 : decode cX0_spreadAnswer 17 = .ok (.invokeinterface 18 1, 5) := by decide +kernel
theorem dX0_spreadAnswer_22 : decode cX0_spreadAnswer 22 = .ok (.if_icmp .ge 72, 3) := by decide +kernel
theorem dX0_spreadAnswer_25 : decode cX0_spreadAnswer 25 = .ok (.aload_n 0, 1) := by decide +kernel
theorem dX0_spreadAnswer_26 : decode cX0_spreadAnswer 26 = .ok (.iload 4, 2) := by decide +kernel
theorem dX0_spreadAnswer_28 : decode cX0_spreadAnswer 28 = .ok (.invokevirtual 73, 3) := by decide +kernel
theorem dX0_spreadAnswer_31 : decode cX0_spreadAnswer 31 = .ok (.astore 5, 2) := by decide +kernel
theorem dX0_spreadAnswer_33 : decode cX0_spreadAnswer 33 = .ok (.iload 4, 2) := by decide +kernel
theorem dX0_spreadAnswer_35 : decode cX0_spreadAnswer 35 = .ok (.iload_n 1, 1) := by decide +kernel
theorem dX0_spreadAnswer_36 : decode cX0_spreadAnswer 36 = .ok (.if_icmp .eq 17, 3) := by decide +kernel
theorem dX0_spreadAnswer_39 : decode cX0_spreadAnswer 39 = .ok (.aload 5, 2) := by decide +kernel
theorem dX0_spreadAnswer_41 : decode cX0_spreadAnswer 41 = .ok (.getfield 84, 3) := by decide +kernel
theorem dX0_spreadAnswer_44 : decode cX0_spreadAnswer 44 = .ok (.bipush 97, 2) := by decide +kernel
theorem dX0_spreadAnswer_46 : decode cX0_spreadAnswer 46 = .ok (.if_icmp .eq 7, 3) := by decide +kernel
theorem dX0_spreadAnswer_49 : decode cX0_spreadAnswer 49 = .ok (.iconst 1, 1) := by decide +kernel
theorem dX0_spreadAnswer_50 : decode cX0_spreadAnswer 50 = .ok (.goto 4, 3) := by decide +kernel
theorem dX0_spreadAnswer_53 : decode cX0_spreadAnswer 53 = .ok (.iconst 0, 1) := by decide +kernel
theorem dX0_spreadAnswer_54 : decode cX0_spreadAnswer 54 = .ok (.istore 6, 2) := by decide +kernel
theorem dX0_spreadAnswer_56 : decode cX0_spreadAnswer 56 = .ok (.iload 6, 2) := by decide +kernel
theorem dX0_spreadAnswer_58 : decode cX0_spreadAnswer 58 = .ok (.ifCond .eq 30, 3) := by decide +kernel
theorem dX0_spreadAnswer_61 : decode cX0_spreadAnswer 61 = .ok (.aload 5, 2) := by decide +kernel
theorem dX0_spreadAnswer_63 : decode cX0_spreadAnswer 63 = .ok (.getfield 50, 3) := by decide +kernel
theorem dX0_spreadAnswer_66 : decode cX0_spreadAnswer 66 = .ok (.aload_n 2, 1) := by decide +kernel
theorem dX0_spreadAnswer_67 : decode cX0_spreadAnswer 67 = .ok (.getfield 50, 3) := by decide +kernel
theorem dX0_spreadAnswer_70 : decode cX0_spreadAnswer 70 = .ok (.invokevirtual 76, 3) := by decide +kernel
theorem dX0_spreadAnswer_73 : decode cX0_spreadAnswer 73 = .ok (.ifCond .eq 15, 3) := by decide +kernel
theorem dX0_spreadAnswer_76 : decode cX0_spreadAnswer 76 = .ok (.aload 5, 2) := by decide +kernel
theorem dX0_spreadAnswer_78 : decode cX0_spreadAnswer 78 = .ok (.aload_n 2, 1) := by decide +kernel
theorem dX0_spreadAnswer_79 : decode cX0_spreadAnswer 79 = .ok (.getfield 88, 3) := by decide +kernel
theorem dX0_spreadAnswer_82 : decode cX0_spreadAnswer 82 = .ok (.invokevirtual 91, 3) := by decide +kernel
theorem dX0_spreadAnswer_85 : decode cX0_spreadAnswer 85 = .ok (.iinc 3 1, 3) := by decide +kernel
theorem dX0_spreadAnswer_88 : decode cX0_spreadAnswer 88 = .ok (.iinc 4 1, 3) := by decide +kernel
theorem dX0_spreadAnswer_91 : decode cX0_spreadAnswer 91 = .ok (.goto (-80), 3) := by decide +kernel
theorem dX0_spreadAnswer_94 : decode cX0_spreadAnswer 94 = .ok (.iload_n 3, 1) := by decide +kernel
theorem dX0_spreadAnswer_95 : decode cX0_spreadAnswer 95 = .ok (.ireturn, 1) := by decide +kernel
theorem dX0_countNotEmpty_0 : decode cX0_countNotEmpty 0 = .ok (.iconst 0, 1) := by decide +kernel
theorem dX0_countNotEmpty_1 : decode cX0_countNotEmpty 1 = .ok (.istore_n 1, 1) := by decide +kernel
theorem dX0_countNotEmpty_2 : decode cX0_countNotEmpty 2 = .ok (.iconst 0, 1) := by decide +kernel
theorem dX0_countNotEmpty_3 : decode cX0_countNotEmpty 3 = .ok (.istore_n 2, 1) := by decide +kernel
theorem dX0_countNotEmpty_4 : decode cX0_countNotEmpty 4 = .ok (.iload_n 2, 1) := by decide +kernel
theorem dX0_countNotEmpty_5 : decode cX0_countNotEmpty 5 = .ok (.aload_n 0, 1) := by decide +kernel
theorem dX0_countNotEmpty_6 : decode cX0_countNotEmpty 6 = .ok (.getfield 12, 3) := by decide +kernel
theorem dX0_countNotEmpty_9 : decode cX0_countNotEmpty 9 = .ok (.invokeinterface 18 1, 5) := by decide +kernel
theorem dX0_countNotEmpty_14 : decode cX0_countNotEmpty 14 = .ok (.if_icmp .ge 23, 3) := by decide +kernel
theorem dX0_countNotEmpty_17 : decode cX0_countNotEmpty 17 = .ok (.aload_n 0, 1) := by decide +kernel
theorem dX0_countNotEmpty_18 : decode cX0_countNotEmpty 18 = .ok (.iload_n 2, 1) := by decide +kernel
theorem dX0_countNotEmpty_19 : decode cX0_countNotEmpty 19 = .ok (.invokevirtual 73, 3) := by decide +kernel
theorem dX0_countNotEmpty_22 : decode cX0_countNotEmpty 22 = .ok (.invokevirtual 80, 3) := by decide +kernel
theorem dX0_countNotEmpty_25 : decode cX0_countNotEmpty 25 = .ok (.ifCond .ne 6, 3) := by decide +kernel
theorem dX0_countNotEmpty_28 : decode cX0_countNotEmpty 28 = .ok (.iinc 1 1, 3) := by decide +kernel
theorem dX0_countNotEmpty_31 : decode cX0_countNotEmpty 31 = .ok (.iinc 2 1, 3) := by decide +kernel
theorem dX0_countNotEmpty_34 : decode cX0_countNotEmpty 34 = .ok (.goto (-30), 3) := by decide +kernel
theorem dX0_countNotEmpty_37 : decode cX0_countNotEmpty 37 = .ok (.iload_n 1, 1) := by decide +kernel
theorem dX0_countNotEmpty_38 : decode cX0_countNotEmpty 38 = .ok (.ireturn, 1) := by decide +kernel
theorem dX1_init_0 : decode cX1_init 0 = .ok (.aload_n 0, 1) := by decide +kernel
theorem dX1_init_1 : decode cX1_init 1 = .ok (.invokespecial 3, 3) := by decide +kernel
theorem dX1_init_4 : decode cX1_init 4 = .ok (.aload_n 0, 1) := by decide +kernel
theorem dX1_init_5 : decode cX1_init 5 = .ok (.new 9, 3) := by decide +kernel
theorem dX1_init_8 : decode cX1_init 8 = .ok (.dup, 1) := by decide +kernel
theorem dX1_init_9 : decode cX1_init 9 = .ok (.invokespecial 11, 3) := by decide +kernel
theorem dX1_init_12 : decode cX1_init 12 = .ok (.putfield 12, 3) := by decide +kernel
theorem dX1_init_15 : decode cX1_init 15 = .ok (.aload_n 0, 1) := by decide +kernel
theorem dX1_init_16 : decode cX1_init 16 = .ok (.bipush 61, 2) := by decide +kernel
theorem dX1_init_18 : decode cX1_init 18 = .ok (.newarray .int, 2) := by decide +kernel
theorem dX1_init_20 : decode cX1_init 20 = .ok (.putfield 18, 3) := by decide +kernel
theorem dX1_init_23 : decode cX1_init 23 = .ok (.aload_n 0, 1) := by decide +kernel
theorem dX1_init_24 : decode cX1_init 24 = .ok (.bipush 61, 2) := by decide +kernel
theorem dX1_init_26 : decode cX1_init 26 = .ok (.newarray .int, 2) := by decide +kernel
theorem dX1_init_28 : decode cX1_init 28 = .ok (.putfield 22, 3) := by decide +kernel
theorem dX1_init_31 : decode cX1_init 31 = .ok (.aload_n 0, 1) := by decide +kernel
theorem dX1_init_32 : decode cX1_init 32 = .ok (.bipush 60, 2) := by decide +kernel
theorem dX1_init_34 : decode cX1_init 34 = .ok (.newarray .int, 2) := by decide +kernel
theorem dX1_init_36 : decode cX1_init 36 = .ok (.putfield 25, 3) := by decide +kernel
theorem dX1_init_39 : decode cX1_init 39 = .ok (.return_, 1) := by decide +kernel
theorem dX1_costByRows_0 : decode cX1_costByRows 0 = .ok (.aload_n 0, 1) := by decide +kernel
theorem dX1_costByRows_1 : decode cX1_costByRows 1 = .ok (.getfield 18, 3) := by decide +kernel
theorem dX1_costByRows_4 : decode cX1_costByRows 4 = .ok (.astore_n 3, 1) := by decide +kernel
theorem dX1_costByRows_5 : decode cX1_costByRows 5 = .ok (.aload_n 0, 1) := by decide +kernel
theorem dX1_costByRows_6 : decode cX1_costByRows 6 = .ok (.getfield 22, 3) := by decide +kernel
theorem dX1_costByRows_9 : decode cX1_costByRows 9 = .ok (.astore 4, 2) := by decide +kernel
theorem dX1_costByRows_11 : decode cX1_costByRows 11 = .ok (.aload_n 2, 1) := by decide +kernel
theorem dX1_costByRows_12 : decode cX1_costByRows 12 = .ok (.invokevirtual 28, 3) := by decide +kernel
theorem dX1_costByRows_15 : decode cX1_costByRows 15 = .ok (.bipush 60, 2) := by decide +kernel
theorem dX1_costByRows_17 : decode cX1_costByRows 17 = .ok (.invokestatic 34, 3) := by decide +kernel
theorem dX1_costByRows_20 : decode cX1_costByRows 20 = .ok (.istore 5, 2) := by decide +kernel
theorem dX1_costByRows_22 : decode cX1_costByRows 22 = .ok (.aload_n 3, 1) := by decide +kernel
theorem dX1_costByRows_23 : decode cX1_costByRows 23 = .ok (.iconst 0, 1) := by decide +kernel
theorem dX1_costByRows_24 : decode cX1_costByRows 24 = .ok (.iconst 0, 1) := by decide +kernel
theorem dX1_costByRows_25 : decode cX1_costByRows 25 = .ok (.iastore, 1) := by decide +kernel
theorem dX1_costByRows_26 : decode cX1_costByRows 26 = .ok (.iconst 1, 1) := by decide +kernel
theorem dX1_costByRows_27 : decode cX1_costByRows 27 = .ok (.istore 6, 2) := by decide +kernel
theorem dX1_costByRows_29 : decode cX1_costByRows 29 = .ok (.iload 6, 2) := by decide +kernel
theorem dX1_costByRows_31 : decode cX1_costByRows 31 = .ok (.iload 5, 2) := by decide +kernel
theorem dX1_costByRows_33 : decode cX1_costByRows 33 = .ok (.if_icmp .gt 53, 3) := by decide +kernel
theorem dX1_costByRows_36 : decode cX1_costByRows 36 = .ok (.aload_n 0, 1) := by decide +kernel
theorem dX1_costByRows_37 : decode cX1_costByRows 37 = .ok (.getfield 25, 3) := by decide +kernel
theorem dX1_costByRows_40 : decode cX1_costByRows 40 = .ok (.iload 6, 2) := by decide +kernel
theorem dX1_costByRows_42 : decode cX1_costByRows 42 = .ok (.iconst 1, 1) := by decide +kernel
theorem dX1_costByRows_43 : decode cX1_costByRows 43 = .ok (.isub, 1) := by decide +kernel
theorem dX1_costByRows_44 : decode cX1_costByRows 44 = .ok (.aload_n 0, 1) := by decide +kernel
theorem dX1_costByRows_45 : decode cX1_costByRows 45 = .ok (.getfield 12, 3) := by decide +kernel
theorem dX1_costByRows_48 : decode cX1_costByRows 48 = .ok (.aload_n 2, 1) := by decide +kernel
theorem dX1_costByRows_49 : decode cX1_costByRows 49 = .ok (.iload 6, 2) := by decide +kernel
theorem dX1_costByRows_51 : decode cX1_costByRows 51 = .ok (.iconst 1, 1) := by decide +kernel
theorem dX1_costByRows_52 : decode cX1_costByRows 52 = .ok (.isub, 1) := by decide +kernel
theorem dX1_costByRows_53 : decode cX1_costByRows 53 = .ok (.invokevirtual 40, 3) := by decide +kernel
theorem dX1_costByRows_56 : decode cX1_costByRows 56 = .ok (.invokevirtual 44, 3) := by decide +kernel
theorem dX1_costByRows_59 : decode cX1_costByRows 59 = .ok (.iastore, 1) := by decide +kernel
theorem dX1_costByRows_60 : decode cX1_costByRows 60 = .ok (.aload_n 3, 1) := by decide +kernel
theorem dX1_costByRows_61 : decode cX1_costByRows 61 = .ok (.iload 6, 2) := by decide +kernel
theorem dX1_costByRows_63 : decode cX1_costByRows 63 = .ok (.aload_n 3, 1) := by decide +kernel
theorem dX1_costByRows_64 : decode cX1_costByRows 64 = .ok (.iload 6, 2) := by decide +kernel
theorem dX1_costByRows_66 : decode cX1_costByRows 66 = .ok (.iconst 1, 1) := by decide +kernel
theorem dX1_costByRows_67 : decode cX1_costByRows 67 = .ok (.isub, 1) := by decide +kernel
theorem dX1_costByRows_68 : decode cX1_costByRows 68 = .ok (.iaload, 1) := by decide +kernel
theorem dX1_costByRows_69 : decode cX1_costByRows 69 = .ok (.aload_n 0, 1) := by decide +kernel
theorem dX1_costByRows_70 : decode cX1_costByRows 70 = .ok (.getfield 25, 3) := by decide +kernel
theorem dX1_costByRows_73 : decode cX1_costByRows 73 = .ok (.iload 6, 2) := by decide +kernel
theorem dX1_costByRows_75 : decode cX1_costByRows 75 = .ok (.iconst 1, 1) := by decide +kernel
theorem dX1_costByRows_76 : decode cX1_costByRows 76 = .ok (.isub, 1) := by decide +kernel
theorem dX1_costByRows_77 : decode cX1_costByRows 77 = .ok (.iaload, 1) := by decide +kernel
theorem dX1_costByRows_78 : decode cX1_costByRows 78 = .ok (.iadd, 1) := by decide +kernel
theorem dX1_costByRows_79 : decode cX1_costByRows 79 = .ok (.iastore, 1) := by decide +kernel
theorem dX1_costByRows_80 : decode cX1_costByRows 80 = .ok (.iinc 6 1, 3) := by decide +kernel
theorem dX1_costByRows_83 : decode cX1_costByRows 83 = .ok (.goto (-54), 3) := by decide +kernel
theorem dX1_costByRows_86 : decode cX1_costByRows 86 = .ok (.iconst 0, 1) := by decide +kernel
theorem dX1_costByRows_87 : decode cX1_costByRows 87 = .ok (.istore 6, 2) := by decide +kernel
theorem dX1_costByRows_89 : decode cX1_costByRows 89 = .ok (.iload 6, 2) := by decide +kernel
theorem dX1_costByRows_91 : decode cX1_costByRows 91 = .ok (.aload_n 1, 1) := by decide +kernel
theorem dX1_costByRows_92 : decode cX1_costByRows 92 = .ok (.invokevirtual 28, 3) := by decide +kernel
theorem dX1_costByRows_95 : decode cX1_costByRows 95 = .ok (.if_icmp .ge 131, 3) := by decide +kernel
theorem dX1_costByRows_98 : decode cX1_costByRows 98 = .ok (.aload_n 1, 1) := by decide +kernel
theorem dX1_costByRows_99 : decode cX1_costByRows 99 = .ok (.iload 6, 2) := by decide +kernel
theorem dX1_costByRows_101 : decode cX1_costByRows 101 = .ok (.invokevirtual 40, 3) := by decide +kernel
theorem dX1_costByRows_104 : decode cX1_costByRows 104 = .ok (.istore 7, 2) := by decide +kernel
theorem dX1_costByRows_106 : decode cX1_costByRows 106 = .ok (.aload_n 0, 1) := by decide +kernel
theorem dX1_costByRows_107 : decode cX1_costByRows 107 = .ok (.getfield 12, 3) := by decide +kernel
theorem dX1_costByRows_110 : decode cX1_costByRows 110 = .ok (.iload 7, 2) := by decide +kernel
theorem dX1_costByRows_112 : decode cX1_costByRows 112 = .ok (.invokevirtual 44, 3) := by decide +kernel
theorem dX1_costByRows_115 : decode cX1_costByRows 115 = .ok (.istore 8, 2) := by decide +kernel
theorem dX1_costByRows_117 : decode cX1_costByRows 117 = .ok (.aload 4, 2) := by decide +kernel
theorem dX1_costByRows_119 : decode cX1_costByRows 119 = .ok (.iconst 0, 1) := by decide +kernel
theorem dX1_costByRows_120 : decode cX1_costByRows 120 = .ok (.aload_n 3, 1) := by decide +kernel
theorem dX1_costByRows_121 : decode cX1_costByRows 121 = .ok (.iconst 0, 1) := by decide +kernel
theorem dX1_costByRows_122 : decode cX1_costByRows 122 = .ok (.iaload, 1) := by decide +kernel
theorem dX1_costByRows_123 : decode cX1_costByRows 123 = .ok (.iload 8, 2) := by decide +kernel
theorem dX1_costByRows_125 : decode cX1_costByRows 125 = .ok (.iadd, 1) := by decide +kernel
theorem dX1_costByRows_126 : decode cX1_costByRows 126 = .ok (.iastore, 1) := by decide +kernel
theorem dX1_costByRows_127 : decode cX1_costByRows 127 = .ok (.iconst 1, 1) := by decide +kernel
theorem dX1_costByRows_128 : decode cX1_costByRows 128 = .ok (.istore 9, 2) := by decide +kernel
theorem dX1_costByRows_130 : decode cX1_costByRows 130 = .ok (.iload 9, 2) := by decide +kernel
theorem dX1_costByRows_132 : decode cX1_costByRows 132 = .ok (.iload 5, 2) := by decide +kernel
theorem dX1_costByRows_134 : decode cX1_costByRows 134 = .ok (.if_icmp .gt 76, 3) := by decide +kernel
theorem dX1_costByRows_137 : decode cX1_costByRows 137 = .ok (.aload_n 0, 1) := by decide +kernel
theorem dX1_costByRows_138 : decode cX1_costByRows 138 = .ok (.getfield 12, 3) := by decide +kernel
theorem dX1_costByRows_141 : decode cX1_costByRows 141 = .ok (.iload 7, 2) := by decide +kernel
theorem dX1_costByRows_143 : decode cX1_costByRows 143 = .ok (.aload_n 2, 1) := by decide +kernel
theorem dX1_costByRows_144 : decode cX1_costByRows 144 = .ok (.iload 9, 2) := by decide +kernel
theorem dX1_costByRows_146 : decode cX1_costByRows 146 = .ok (.iconst 1, 1) := by decide +kernel
theorem dX1_costByRows_147 : decode cX1_costByRows 147 = .ok (.isub, 1) := by decide +kernel
theorem dX1_costByRows_148 : decode cX1_costByRows 148 = .ok (.invokevirtual 40, 3) := by decide +kernel
theorem dX1_costByRows_151 : decode cX1_costByRows 151 = .ok (.invokevirtual 47, 3) := by decide +kernel
theorem dX1_costByRows_154 : decode cX1_costByRows 154 = .ok (.istore 10, 2) := by decide +kernel
theorem dX1_costByRows_156 : decode cX1_costByRows 156 = .ok (.aload_n 3, 1) := by decide +kernel
theorem dX1_costByRows_157 : decode cX1_costByRows 157 = .ok (.iload 9, 2) := by decide +kernel
theorem dX1_costByRows_159 : decode cX1_costByRows 159 = .ok (.iaload, 1) := by decide +kernel
theorem dX1_costByRows_160 : decode cX1_costByRows 160 = .ok (.iload 8, 2) := by decide +kernel
theorem dX1_costByRows_162 : decode cX1_costByRows 162 = .ok (.iadd, 1) := by decide +kernel
theorem dX1_costByRows_163 : decode cX1_costByRows 163 = .ok (.aload 4, 2) := by decide +kernel
theorem dX1_costByRows_165 : decode cX1_costByRows 165 = .ok (.iload 9, 2) := by decide +kernel
theorem dX1_costByRows_167 : decode cX1_costByRows 167 = .ok (.iconst 1, 1) := by decide +kernel
theorem dX1_costByRows_168 : decode cX1_costByRows 168 = .ok (.isub, 1) := by decide +kernel
theorem dX1_costByRows_169 : decode cX1_costByRows 169 = .ok (.iaload, 1) := by decide +kernel
theorem dX1_costByRows_170 : decode cX1_costByRows 170 = .ok (.aload_n 0, 1) := by decide +kernel
theorem dX1_costByRows_171 : decode cX1_costByRows 171 = .ok (.getfield 25, 3) := by decide +kernel
theorem dX1_costByRows_174 : decode cX1_costByRows 174 = .ok (.iload 9, 2) := by decide +kernel
theorem dX1_costByRows_176 : decode cX1_costByRows 176 = .ok (.iconst 1, 1) := by decide +kernel
theorem dX1_costByRows_177 : decode cX1_costByRows 177 = .ok (.isub, 1) := by decide +kernel
theorem dX1_costByRows_178 : decode cX1_costByRows 178 = .ok (.iaload, 1) := by decide +kernel
theorem dX1_costByRows_179 : decode cX1_costByRows 179 = .ok (.iadd, 1) := by decide +kernel
theorem dX1_costByRows_180 : decode cX1_costByRows 180 = .ok (.invokestatic 34, 3) := by decide +kernel
theorem dX1_costByRows_183 : decode cX1_costByRows 183 = .ok (.istore 11, 2) := by decide +kernel
theorem dX1_costByRows_185 : decode cX1_costByRows 185 = .ok (.aload 4, 2) := by decide +kernel
theorem dX1_costByRows_187 : decode cX1_costByRows 187 = .ok (.iload 9, 2) := by decide +kernel
theorem dX1_costByRows_189 : decode cX1_costByRows 189 = .ok (.iload 11, 2) := by decide +kernel
theorem dX1_costByRows_191 : decode cX1_costByRows 191 = .ok (.aload_n 3, 1) := by decide +kernel
theorem dX1_costByRows_192 : decode cX1_costByRows 192 = .ok (.iload 9, 2) := by decide +kernel
theorem dX1_costByRows_194 : decode cX1_costByRows 194 = .ok (.iconst 1, 1) := by decide +kernel
theorem dX1_costByRows_195 : decode cX1_costByRows 195 = .ok (.isub, 1) := by decide +kernel
theorem dX1_costByRows_196 : decode cX1_costByRows 196 = .ok (.iaload, 1) := by decide +kernel
theorem dX1_costByRows_197 : decode cX1_costByRows 197 = .ok (.iload 10, 2) := by decide +kernel
theorem dX1_costByRows_199 : decode cX1_costByRows 199 = .ok (.iadd, 1) := by decide +kernel
theorem dX1_costByRows_200 : decode cX1_costByRows 200 = .ok (.invokestatic 34, 3) := by decide +kernel
theorem dX1_costByRows_203 : decode cX1_costByRows 203 = .ok (.iastore, 1) := by decide +kernel
theorem dX1_costByRows_204 : decode cX1_costByRows 204 = .ok (.iinc 9 1, 3) := by decide +kernel
theorem dX1_costByRows_207 : decode cX1_costByRows 207 = .ok (.goto (-77), 3) := by decide +kernel
theorem dX1_costByRows_210 : decode cX1_costByRows 210 = .ok (.aload_n 3, 1) := by decide +kernel
theorem dX1_costByRows_211 : decode cX1_costByRows 211 = .ok (.astore 9, 2) := by decide +kernel
theorem dX1_costByRows_213 : decode cX1_costByRows 213 = .ok (.aload 4, 2) := by decide +kernel
theorem dX1_costByRows_215 : decode cX1_costByRows 215 = .ok (.astore_n 3, 1) := by decide +kernel
theorem dX1_costByRows_216 : decode cX1_costByRows 216 = .ok (.aload 9, 2) := by decide +kernel
theorem dX1_costByRows_218 : decode cX1_costByRows 218 = .ok (.astore 4, 2) := by decide +kernel
theorem dX1_costByRows_220 : decode cX1_costByRows 220 = .ok (.iinc 6 1, 3) := by decide +kernel
theorem dX1_costByRows_223 : decode cX1_costByRows 223 = .ok (.goto (-134), 3) := by decide +kernel
theorem dX1_costByRows_226 : decode cX1_costByRows 226 = .ok (.aload_n 3, 1) := by decide +kernel
theorem dX1_costByRows_227 : decode cX1_costByRows 227 = .ok (.iload 5, 2) := by decide +kernel
theorem dX1_costByRows_229 : decode cX1_costByRows 229 = .ok (.iaload, 1) := by decide +kernel
theorem dX1_costByRows_230 : decode cX1_costByRows 230 = .ok (.ireturn, 1) := by decide +kernel
theorem dX1_costByTails_0 : decode cX1_costByTails 0 = .ok (.aload_n 0, 1) := by decide +kernel
theorem dX1_costByTails_1 : decode cX1_costByTails 1 = .ok (.getfield 18, 3) := by decide +kernel
theorem dX1_costByTails_4 : decode cX1_costByTails 4 = .ok (.astore_n 3, 1) := by decide +kernel
theorem dX1_costByTails_5 : decode cX1_costByTails 5 = .ok (.aload_n 0, 1) := by decide +kernel
theorem dX1_costByTails_6 : decode cX1_costByTails 6 = .ok (.getfield 22, 3) := by decide +kernel
theorem dX1_costByTails_9 : decode cX1_costByTails 9 = .ok (.astore 4, 2) := by decide +kernel
theorem dX1_costByTails_11 : decode cX1_costByTails 11 = .ok (.aload_n 2, 1) := by decide +kernel
theorem dX1_costByTails_12 : decode cX1_costByTails 12 = .ok (.invokevirtual 28, 3) := by decide +kernel
theorem dX1_costByTails_15 : decode cX1_costByTails 15 = .ok (.bipush 60, 2) := by decide +kernel
theorem dX1_costByTails_17 : decode cX1_costByTails 17 = .ok (.invokestatic 34, 3) := by decide +kernel
theorem dX1_costByTails_20 : decode cX1_costByTails 20 = .ok (.istore 5, 2) := by decide +kernel
theorem dX1_costByTails_22 : decode cX1_costByTails 22 = .ok (.aload_n 3, 1) := by decide +kernel
theorem dX1_costByTails_23 : decode cX1_costByTails 23 = .ok (.iload 5, 2) := by decide +kernel
theorem dX1_costByTails_25 : decode cX1_costByTails 25 = .ok (.iconst 0, 1) := by decide +kernel
theorem dX1_costByTails_26 : decode cX1_costByTails 26 = .ok (.iastore, 1) := by decide +kernel
theorem dX1_costByTails_27 : decode cX1_costByTails 27 = .ok (.iload 5, 2) := by decide +kernel
theorem dX1_costByTails_29 : decode cX1_costByTails 29 = .ok (.iconst 1, 1) := by decide +kernel
theorem dX1_costByTails_30 : decode cX1_costByTails 30 = .ok (.isub, 1) := by decide +kernel
theorem dX1_costByTails_31 : decode cX1_costByTails 31 = .ok (.istore 6, 2) := by decide +kernel
theorem dX1_costByTails_33 : decode cX1_costByTails 33 = .ok (.iload 6, 2) := by decide +kernel
theorem dX1_costByTails_35 : decode cX1_costByTails 35 = .ok (.ifCond .lt 47, 3) := by decide +kernel
theorem dX1_costByTails_38 : decode cX1_costByTails 38 = .ok (.aload_n 0, 1) := by decide +kernel
theorem dX1_costByTails_39 : decode cX1_costByTails 39 = .ok (.getfield 25, 3) := by decide +kernel
theorem dX1_costByTails_42 : decode cX1_costByTails 42 = .ok (.iload 6, 2) := by decide +kernel
theorem dX1_costByTails_44 : decode cX1_costByTails 44 = .ok (.aload_n 0, 1) := by decide +kernel
theorem dX1_costByTails_45 : decode cX1_costByTails 45 = .ok (.getfield 12, 3) := by decide +kernel
theorem dX1_costByTails_48 : decode cX1_costByTails 48 = .ok (.aload_n 2, 1) := by decide +kernel
theorem dX1_costByTails_49 : decode cX1_costByTails 49 = .ok (.iload 6, 2) := by decide +kernel
theorem dX1_costByTails_51 : decode cX1_costByTails 51 = .ok (.invokevirtual 40, 3) := by decide +kernel
theorem dX1_costByTails_54 : decode cX1_costByTails 54 = .ok (.invokevirtual 44, 3) := by decide +kernel
theorem dX1_costByTails_57 : decode cX1_costByTails 57 = .ok (.iastore, 1) := by decide +kernel
theorem dX1_costByTails_58 : decode cX1_costByTails 58 = .ok (.aload_n 3, 1) := by decide +kernel
theorem dX1_costByTails_59 : decode cX1_costByTails 59 = .ok (.iload 6, 2) := by decide +kernel
theorem dX1_costByTails_61 : decode cX1_costByTails 61 = .ok (.aload_n 3, 1) := by decide +kernel
theorem dX1_costByTails_62 : decode cX1_costByTails 62 = .ok (.iload 6, 2) := by decide +kernel
theorem dX1_costByTails_64 : decode cX1_costByTails 64 = .ok (.iconst 1, 1) := by decide +kernel
theorem dX1_costByTails_65 : decode cX1_costByTails 65 = .ok (.iadd, 1) := by decide +kernel
theorem dX1_costByTails_66 : decode cX1_costByTails 66 = .ok (.iaload, 1) := by decide +kernel
theorem dX1_costByTails_67 : decode cX1_costByTails 67 = .ok (.aload_n 0, 1) := by decide +kernel
theorem dX1_costByTails_68 : decode cX1_costByTails 68 = .ok (.getfield 25, 3) := by decide +kernel
theorem dX1_costByTails_71 : decode cX1_costByTails 71 = .ok (.iload 6, 2) := by decide +kernel
theorem dX1_costByTails_73 : decode cX1_costByTails 73 = .ok (.iaload, 1) := by decide +kernel
theorem dX1_costByTails_74 : decode cX1_costByTails 74 = .ok (.iadd, 1) := by decide +kernel
theorem dX1_costByTails_75 : decode cX1_costByTails 75 = .ok (.iastore, 1) := by decide +kernel
theorem dX1_costByTails_76 : decode cX1_costByTails 76 = .ok (.iinc 6 (-1), 3) := by decide +kernel
theorem dX1_costByTails_79 : decode cX1_costByTails 79 = .ok (.goto (-46), 3) := by decide +kernel
theorem dX1_costByTails_82 : decode cX1_costByTails 82 = .ok (.aload_n 1, 1) := by decide +kernel
theorem dX1_costByTails_83 : decode cX1_costByTails 83 = .ok (.invokevirtual 28, 3) := by decide +kernel
theorem dX1_costByTails_86 : decode cX1_costByTails 86 = .ok (.iconst 1, 1) := by decide +kernel
theorem dX1_costByTails_87 : decode cX1_costByTails 87 = .ok (.isub, 1) := by decide +kernel
theorem dX1_costByTails_88 : decode cX1_costByTails 88 = .ok (.istore 6, 2) := by decide +kernel
theorem dX1_costByTails_90 : decode cX1_costByTails 90 = .ok (.iload 6, 2) := by decide +kernel
theorem dX1_costByTails_92 : decode cX1_costByTails 92 = .ok (.ifCond .lt 130, 3) := by decide +kernel
theorem dX1_costByTails_95 : decode cX1_costByTails 95 = .ok (.aload_n 1, 1) := by decide +kernel
theorem dX1_costByTails_96 : decode cX1_costByTails 96 = .ok (.iload 6, 2) := by decide +kernel
theorem dX1_costByTails_98 : decode cX1_costByTails 98 = .ok (.invokevirtual 40, 3) := by decide +kernel
theorem dX1_costByTails_101 : decode cX1_costByTails 101 = .ok (.istore 7, 2) := by decide +kernel
theorem dX1_costByTails_103 : decode cX1_costByTails 103 = .ok (.aload_n 0, 1) := by decide +kernel
theorem dX1_costByTails_104 : decode cX1_costByTails 104 = .ok (.getfield 12, 3) := by decide +kernel
theorem dX1_costByTails_107 : decode cX1_costByTails 107 = .ok (.iload 7, 2) := by decide +kernel
theorem dX1_costByTails_109 : decode cX1_costByTails 109 = .ok (.invokevirtual 44, 3) := by decide +kernel
theorem dX1_costByTails_112 : decode cX1_costByTails 112 = .ok (.istore 8, 2) := by decide +kernel
theorem dX1_costByTails_114 : decode cX1_costByTails 114 = .ok (.aload 4, 2) := by decide +kernel
theorem dX1_costByTails_116 : decode cX1_costByTails 116 = .ok (.iload 5, 2) := by decide +kernel
theorem dX1_costByTails_118 : decode cX1_costByTails 118 = .ok (.aload_n 3, 1) := by decide +kernel
theorem dX1_costByTails_119 : decode cX1_costByTails 119 = .ok (.iload 5, 2) := by decide +kernel
theorem dX1_costByTails_121 : decode cX1_costByTails 121 = .ok (.iaload, 1) := by decide +kernel
theorem dX1_costByTails_122 : decode cX1_costByTails 122 = .ok (.iload 8, 2) := by decide +kernel
theorem dX1_costByTails_124 : decode cX1_costByTails 124 = .ok (.iadd, 1) := by decide +kernel
theorem dX1_costByTails_125 : decode cX1_costByTails 125 = .ok (.iastore, 1) := by decide +kernel
theorem dX1_costByTails_126 : decode cX1_costByTails 126 = .ok (.iload 5, 2) := by decide +kernel
theorem dX1_costByTails_128 : decode cX1_costByTails 128 = .ok (.iconst 1, 1) := by decide +kernel
theorem dX1_costByTails_129 : decode cX1_costByTails 129 = .ok (.isub, 1) := by decide +kernel
theorem dX1_costByTails_130 : decode cX1_costByTails 130 = .ok (.istore 9, 2) := by decide +kernel
theorem dX1_costByTails_132 : decode cX1_costByTails 132 = .ok (.iload 9, 2) := by decide +kernel
theorem dX1_costByTails_134 : decode cX1_costByTails 134 = .ok (.ifCond .lt 72, 3) := by decide +kernel
theorem dX1_costByTails_137 : decode cX1_costByTails 137 = .ok (.aload_n 0, 1) := by decide +kernel
theorem dX1_costByTails_138 : decode cX1_costByTails 138 = .ok (.getfield 12, 3) := by decide +kernel
theorem dX1_costByTails_141 : decode cX1_costByTails 141 = .ok (.iload 7, 2) := by decide +kernel
theorem dX1_costByTails_143 : decode cX1_costByTails 143 = .ok (.aload_n 2, 1) := by decide +kernel
theorem dX1_costByTails_144 : decode cX1_costByTails 144 = .ok (.iload 9, 2) := by decide +kernel
theorem dX1_costByTails_146 : decode cX1_costByTails 146 = .ok (.invokevirtual 40, 3) := by decide +kernel
theorem dX1_costByTails_149 : decode cX1_costByTails 149 = .ok (.invokevirtual 47, 3) := by decide +kernel
theorem dX1_costByTails_152 : decode cX1_costByTails 152 = .ok (.istore 10, 2) := by decide +kernel
theorem dX1_costByTails_154 : decode cX1_costByTails 154 = .ok (.aload_n 3, 1) := by decide +kernel
theorem dX1_costByTails_155 : decode cX1_costByTails 155 = .ok (.iload 9, 2) := by decide +kernel
theorem dX1_costByTails_157 : decode cX1_costByTails 157 = .ok (.iaload, 1) := by decide +kernel
theorem dX1_costByTails_158 : decode cX1_costByTails 158 = .ok (.iload 8, 2) := by decide +kernel
theorem dX1_costByTails_160 : decode cX1_costByTails 160 = .ok (.iadd, 1) := by decide +kernel
theorem dX1_costByTails_161 : decode cX1_costByTails 161 = .ok (.aload 4, 2) := by decide +kernel
theorem dX1_costByTails_163 : decode cX1_costByTails 163 = .ok (.iload 9, 2) := by decide +kernel
theorem dX1_costByTails_165 : decode cX1_costByTails 165 = .ok (.iconst 1, 1) := by decide +kernel
theorem dX1_costByTails_166 : decode cX1_costByTails 166 = .ok (.iadd, 1) := by decide +kernel
theorem dX1_costByTails_167 : decode cX1_costByTails 167 = .ok (.iaload, 1) := by decide +kernel
theorem dX1_costByTails_168 : decode cX1_costByTails 168 = .ok (.aload_n 0, 1) := by decide +kernel
theorem dX1_costByTails_169 : decode cX1_costByTails 169 = .ok (.getfield 25, 3) := by decide +kernel
theorem dX1_costByTails_172 : decode cX1_costByTails 172 = .ok (.iload 9, 2) := by decide +kernel
theorem dX1_costByTails_174 : decode cX1_costByTails 174 = .ok (.iaload, 1) := by decide +kernel
theorem dX1_costByTails_175 : decode cX1_costByTails 175 = .ok (.iadd, 1) := by decide +kernel
theorem dX1_costByTails_176 : decode cX1_costByTails 176 = .ok (.invokestatic 34, 3) := by decide +kernel
theorem dX1_costByTails_179 : decode cX1_costByTails 179 = .ok (.istore 11, 2) := by decide +kernel
theorem dX1_costByTails_181 : decode cX1_costByTails 181 = .ok (.aload 4, 2) := by decide +kernel
theorem dX1_costByTails_183 : decode cX1_costByTails 183 = .ok (.iload 9, 2) := by decide +kernel
theorem dX1_costByTails_185 : decode cX1_costByTails 185 = .ok (.iload 11, 2) := by decide +kernel
theorem dX1_costByTails_187 : decode cX1_costByTails 187 = .ok (.aload_n 3, 1) := by decide +kernel
theorem dX1_costByTails_188 : decode cX1_costByTails 188 = .ok (.iload 9, 2) := by decide +kernel
theorem dX1_costByTails_190 : decode cX1_costByTails 190 = .ok (.iconst 1, 1) := by decide +kernel
theorem dX1_costByTails_191 : decode cX1_costByTails 191 = .ok (.iadd, 1) := by decide +kernel
theorem dX1_costByTails_192 : decode cX1_costByTails 192 = .ok (.iaload, 1) := by decide +kernel
theorem dX1_costByTails_193 : decode cX1_costByTails 193 = .ok (.iload 10, 2) := by decide +kernel
theorem dX1_costByTails_195 : decode cX1_costByTails 195 = .ok (.iadd, 1) := by decide +kernel
theorem dX1_costByTails_196 : decode cX1_costByTails 196 = .ok (.invokestatic 34, 3) := by decide +kernel
theorem dX1_costByTails_199 : decode cX1_costByTails 199 = .ok (.iastore, 1) := by decide +kernel
theorem dX1_costByTails_200 : decode cX1_costByTails 200 = .ok (.iinc 9 (-1), 3) := by decide +kernel
theorem dX1_costByTails_203 : decode cX1_costByTails 203 = .ok (.goto (-71), 3) := by decide +kernel
theorem dX1_costByTails_206 : decode cX1_costByTails 206 = .ok (.aload_n 3, 1) := by decide +kernel
theorem dX1_costByTails_207 : decode cX1_costByTails 207 = .ok (.astore 9, 2) := by decide +kernel
theorem dX1_costByTails_209 : decode cX1_costByTails 209 = .ok (.aload 4, 2) := by decide +kernel
theorem dX1_costByTails_211 : decode cX1_costByTails 211 = .ok (.astore_n 3, 1) := by decide +kernel
theorem dX1_costByTails_212 : decode cX1_costByTails 212 = .ok (.aload 9, 2) := by decide +kernel
theorem dX1_costByTails_214 : decode cX1_costByTails 214 = .ok (.astore 4, 2) := by decide +kernel
theorem dX1_costByTails_216 : decode cX1_costByTails 216 = .ok (.iinc 6 (-1), 3) := by decide +kernel
theorem dX1_costByTails_219 : decode cX1_costByTails 219 = .ok (.goto (-129), 3) := by decide +kernel
theorem dX1_costByTails_222 : decode cX1_costByTails 222 = .ok (.aload_n 3, 1) := by decide +kernel
theorem dX1_costByTails_223 : decode cX1_costByTails 223 = .ok (.iconst 0, 1) := by decide +kernel
theorem dX1_costByTails_224 : decode cX1_costByTails 224 = .ok (.iaload, 1) := by decide +kernel
theorem dX1_costByTails_225 : decode cX1_costByTails 225 = .ok (.ireturn, 1) := by decide +kernel
theorem dX1_compare_0 : decode cX1_compare 0 = .ok (.aload_n 0, 1) := by decide +kernel
theorem dX1_compare_1 : decode cX1_compare 1 = .ok (.aload_n 1, 1) := by decide +kernel
theorem dX1_compare_2 : decode cX1_compare 2 = .ok (.aload_n 2, 1) := by decide +kernel
theorem dX1_compare_3 : decode cX1_compare 3 = .ok (.aload_n 0, 1) := by decide +kernel
theorem dX1_compare_4 : decode cX1_compare 4 = .ok (.aload_n 1, 1) := by decide +kernel
theorem dX1_compare_5 : decode cX1_compare 5 = .ok (.aload_n 2, 1) := by decide +kernel
theorem dX1_compare_6 : decode cX1_compare 6 = .ok (.invokevirtual 50, 3) := by decide +kernel
theorem dX1_compare_9 : decode cX1_compare 9 = .ok (.invokevirtual 54, 3) := by decide +kernel
theorem dX1_compare_12 : decode cX1_compare 12 = .ok (.ireturn, 1) := by decide +kernel
theorem dX1_compareAtMost_0 : decode cX1_compareAtMost 0 = .ok (.aload_n 0, 1) := by decide +kernel
theorem dX1_compareAtMost_1 : decode cX1_compareAtMost 1 = .ok (.aload_n 1, 1) := by decide +kernel
theorem dX1_compareAtMost_2 : decode cX1_compareAtMost 2 = .ok (.aload_n 2, 1) := by decide +kernel
theorem dX1_compareAtMost_3 : decode cX1_compareAtMost 3 = .ok (.aload_n 0, 1) := by decide +kernel
theorem dX1_compareAtMost_4 : decode cX1_compareAtMost 4 = .ok (.aload_n 1, 1) := by decide +kernel
theorem dX1_compareAtMost_5 : decode cX1_compareAtMost 5 = .ok (.aload_n 2, 1) := by decide +kernel
theorem dX1_compareAtMost_6 : decode cX1_compareAtMost 6 = .ok (.invokevirtual 58, 3) := by decide +kernel
theorem dX1_compareAtMost_9 : decode cX1_compareAtMost 9 = .ok (.invokevirtual 54, 3) := by decide +kernel
theorem dX1_compareAtMost_12 : decode cX1_compareAtMost 12 = .ok (.ireturn, 1) := by decide +kernel
theorem dX1_costAtLeast_0 : decode cX1_costAtLeast 0 = .ok (.iconst 0, 1) := by decide +kernel
theorem dX1_costAtLeast_1 : decode cX1_costAtLeast 1 = .ok (.istore_n 3, 1) := by decide +kernel
theorem dX1_costAtLeast_2 : decode cX1_costAtLeast 2 = .ok (.iconst 0, 1) := by decide +kernel
theorem dX1_costAtLeast_3 : decode cX1_costAtLeast 3 = .ok (.istore 4, 2) := by decide +kernel
theorem dX1_costAtLeast_5 : decode cX1_costAtLeast 5 = .ok (.iload 4, 2) := by decide +kernel
theorem dX1_costAtLeast_7 : decode cX1_costAtLeast 7 = .ok (.iconst 4, 1) := by decide +kernel
theorem dX1_costAtLeast_8 : decode cX1_costAtLeast 8 = .ok (.if_icmp .ge 42, 3) := by decide +kernel
theorem dX1_costAtLeast_11 : decode cX1_costAtLeast 11 = .ok (.aload_n 1, 1) := by decide +kernel
theorem dX1_costAtLeast_12 : decode cX1_costAtLeast 12 = .ok (.iload 4, 2) := by decide +kernel
theorem dX1_costAtLeast_14 : decode cX1_costAtLeast 14 = .ok (.invokevirtual 61, 3) := by decide +kernel
theorem dX1_costAtLeast_17 : decode cX1_costAtLeast 17 = .ok (.aload_n 2, 1) := by decide +kernel
theorem dX1_costAtLeast_18 : decode cX1_costAtLeast 18 = .ok (.iload 4, 2) := by decide +kernel
theorem dX1_costAtLeast_20 : decode cX1_costAtLeast 20 = .ok (.invokevirtual 61, 3) := by decide +kernel
theorem dX1_costAtLeast_23 : decode cX1_costAtLeast 23 = .ok (.isub, 1) := by decide +kernel
theorem dX1_costAtLeast_24 : decode cX1_costAtLeast 24 = .ok (.invokestatic 64, 3) := by decide +kernel
theorem dX1_costAtLeast_27 : decode cX1_costAtLeast 27 = .ok (.istore 5, 2) := by decide +kernel
theorem dX1_costAtLeast_29 : decode cX1_costAtLeast 29 = .ok (.iload_n 3, 1) := by decide +kernel
theorem dX1_costAtLeast_30 : decode cX1_costAtLeast 30 = .ok (.iload 5, 2) := by decide +kernel
theorem dX1_costAtLeast_32 : decode cX1_costAtLeast 32 = .ok (.aload_n 0, 1) := by decide +kernel
theorem dX1_costAtLeast_33 : decode cX1_costAtLeast 33 = .ok (.getfield 12, 3) := by decide +kernel
theorem dX1_costAtLeast_36 : decode cX1_costAtLeast 36 = .ok (.iload 4, 2) := by decide +kernel
theorem dX1_costAtLeast_38 : decode cX1_costAtLeast 38 = .ok (.invokevirtual 67, 3) := by decide +kernel
theorem dX1_costAtLeast_41 : decode cX1_costAtLeast 41 = .ok (.imul, 1) := by decide +kernel
theorem dX1_costAtLeast_42 : decode cX1_costAtLeast 42 = .ok (.iadd, 1) := by decide +kernel
theorem dX1_costAtLeast_43 : decode cX1_costAtLeast 43 = .ok (.istore_n 3, 1) := by decide +kernel
theorem dX1_costAtLeast_44 : decode cX1_costAtLeast 44 = .ok (.iinc 4 1, 3) := by decide +kernel
theorem dX1_costAtLeast_47 : decode cX1_costAtLeast 47 = .ok (.goto (-42), 3) := by decide +kernel
theorem dX1_costAtLeast_50 : decode cX1_costAtLeast 50 = .ok (.iload_n 3, 1) := by decide +kernel
theorem dX1_costAtLeast_51 : decode cX1_costAtLeast 51 = .ok (.ireturn, 1) := by decide +kernel
theorem dX1_share_0 : decode cX1_share 0 = .ok (.aload_n 0, 1) := by decide +kernel
theorem dX1_share_1 : decode cX1_share 1 = .ok (.getfield 12, 3) := by decide +kernel
theorem dX1_share_4 : decode cX1_share 4 = .ok (.aload_n 1, 1) := by decide +kernel
theorem dX1_share_5 : decode cX1_share 5 = .ok (.invokevirtual 70, 3) := by decide +kernel
theorem dX1_share_8 : decode cX1_share 8 = .ok (.aload_n 0, 1) := by decide +kernel
theorem dX1_share_9 : decode cX1_share 9 = .ok (.getfield 12, 3) := by decide +kernel
theorem dX1_share_12 : decode cX1_share 12 = .ok (.aload_n 2, 1) := by decide +kernel
theorem dX1_share_13 : decode cX1_share 13 = .ok (.invokevirtual 70, 3) := by decide +kernel
theorem dX1_share_16 : decode cX1_share 16 = .ok (.invokestatic 74, 3) := by decide +kernel
theorem dX1_share_19 : decode cX1_share 19 = .ok (.istore 4, 2) := by decide +kernel
theorem dX1_share_21 : decode cX1_share 21 = .ok (.iload 4, 2) := by decide +kernel
theorem dX1_share_23 : decode cX1_share 23 = .ok (.ifCond .le 9, 3) := by decide +kernel
theorem dX1_share_26 : decode cX1_share 26 = .ok (.iload_n 3, 1) := by decide +kernel
theorem dX1_share_27 : decode cX1_share 27 = .ok (.iload 4, 2) := by decide +kernel
theorem dX1_share_29 : decode cX1_share 29 = .ok (.if_icmp .lt 5, 3) := by decide +kernel
theorem dX1_share_32 : decode cX1_share 32 = .ok (.iconst 0, 1) := by decide +kernel
theorem dX1_share_33 : decode cX1_share 33 = .ok (.ireturn, 1) := by decide +kernel
theorem dX1_share_34 : decode cX1_share 34 = .ok (.bipush 100, 2) := by decide +kernel
theorem dX1_share_36 : decode cX1_share 36 = .ok (.iload 4, 2) := by decide +kernel
theorem dX1_share_38 : decode cX1_share 38 = .ok (.iload_n 3, 1) := by decide +kernel
theorem dX1_share_39 : decode cX1_share 39 = .ok (.isub, 1) := by decide +kernel
theorem dX1_share_40 : decode cX1_share 40 = .ok (.imul, 1) := by decide +kernel
theorem dX1_share_41 : decode cX1_share 41 = .ok (.iload 4, 2) := by decide +kernel
theorem dX1_share_43 : decode cX1_share 43 = .ok (.idiv, 1) := by decide +kernel
theorem dX1_share_44 : decode cX1_share 44 = .ok (.ireturn, 1) := by decide +kernel
theorem dX2_init_0 : decode cX2_init 0 = .ok (.aload_n 0, 1) := by decide +kernel
theorem dX2_init_1 : decode cX2_init 1 = .ok (.invokespecial 3, 3) := by decide +kernel
theorem dX2_init_4 : decode cX2_init 4 = .ok (.aload_n 0, 1) := by decide +kernel
theorem dX2_init_5 : decode cX2_init 5 = .ok (.new 9, 3) := by decide +kernel
theorem dX2_init_8 : decode cX2_init 8 = .ok (.dup, 1) := by decide +kernel
theorem dX2_init_9 : decode cX2_init 9 = .ok (.invokespecial 11, 3) := by decide +kernel
theorem dX2_init_12 : decode cX2_init 12 = .ok (.putfield 12, 3) := by decide +kernel
theorem dX2_init_15 : decode cX2_init 15 = .ok (.aload_n 0, 1) := by decide +kernel
theorem dX2_init_16 : decode cX2_init 16 = .ok (.new 18, 3) := by decide +kernel
theorem dX2_init_19 : decode cX2_init 19 = .ok (.dup, 1) := by decide +kernel
theorem dX2_init_20 : decode cX2_init 20 = .ok (.invokespecial 20, 3) := by decide +kernel
theorem dX2_init_23 : decode cX2_init 23 = .ok (.putfield 21, 3) := by decide +kernel
theorem dX2_init_26 : decode cX2_init 26 = .ok (.aload_n 0, 1) := by decide +kernel
theorem dX2_init_27 : decode cX2_init 27 = .ok (.new 25, 3) := by decide +kernel
theorem dX2_init_30 : decode cX2_init 30 = .ok (.dup, 1) := by decide +kernel
theorem dX2_init_31 : decode cX2_init 31 = .ok (.invokespecial 27, 3) := by decide +kernel
theorem dX2_init_34 : decode cX2_init 34 = .ok (.putfield 28, 3) := by decide +kernel
theorem dX2_init_37 : decode cX2_init 37 = .ok (.return_, 1) := by decide +kernel
theorem dX2_size_0 : decode cX2_size 0 = .ok (.aload_n 0, 1) := by decide +kernel
theorem dX2_size_1 : decode cX2_size 1 = .ok (.getfield 28, 3) := by decide +kernel
theorem dX2_size_4 : decode cX2_size 4 = .ok (.invokeinterface 32 1, 5) := by decide +kernel
theorem dX2_size_9 : decode cX2_size 9 = .ok (.ireturn, 1) := by decide +kernel
theorem dX2_at_0 : decode cX2_at 0 = .ok (.aload_n 0, 1) := by decide +kernel
theorem dX2_at_1 : decode cX2_at 1 = .ok (.getfield 28, 3) := by decide +kernel
theorem dX2_at_4 : decode cX2_at 4 = .ok (.iload_n 1, 1) := by decide +kernel
theorem dX2_at_5 : decode cX2_at 5 = .ok (.invokeinterface 38 2, 5) := by decide +kernel
theorem dX2_at_10 : decode cX2_at 10 = .ok (.checkcast 42, 3) := by decide +kernel
theorem dX2_at_13 : decode cX2_at 13 = .ok (.areturn, 1) := by decide +kernel
theorem dX2_put_0 : decode cX2_put 0 = .ok (.new 42, 3) := by decide +kernel
theorem dX2_put_3 : decode cX2_put 3 = .ok (.dup, 1) := by decide +kernel
theorem dX2_put_4 : decode cX2_put 4 = .ok (.invokespecial 44, 3) := by decide +kernel
theorem dX2_put_7 : decode cX2_put 7 = .ok (.astore_n 3, 1) := by decide +kernel
theorem dX2_put_8 : decode cX2_put 8 = .ok (.aload_n 3, 1) := by decide +kernel
theorem dX2_put_9 : decode cX2_put 9 = .ok (.getfield 45, 3) := by decide +kernel
theorem dX2_put_12 : decode cX2_put 12 = .ok (.aload_n 1, 1) := by decide +kernel
theorem dX2_put_13 : decode cX2_put 13 = .ok (.invokevirtual 49, 3) := by decide +kernel
theorem dX2_put_16 : decode cX2_put 16 = .ok (.aload_n 3, 1) := by decide +kernel
theorem dX2_put_17 : decode cX2_put 17 = .ok (.getfield 55, 3) := by decide +kernel
theorem dX2_put_20 : decode cX2_put 20 = .ok (.aload_n 2, 1) := by decide +kernel
theorem dX2_put_21 : decode cX2_put 21 = .ok (.invokevirtual 49, 3) := by decide +kernel
theorem dX2_put_24 : decode cX2_put 24 = .ok (.aload_n 0, 1) := by decide +kernel
theorem dX2_put_25 : decode cX2_put 25 = .ok (.getfield 28, 3) := by decide +kernel
theorem dX2_put_28 : decode cX2_put 28 = .ok (.aload_n 3, 1) := by decide +kernel
theorem dX2_put_29 : decode cX2_put 29 = .ok (.invokeinterface 58 2, 5) := by decide +kernel
theorem dX2_put_34 : decode cX2_put 34 = .ok (.pop, 1) := by decide +kernel
theorem dX2_put_35 : decode cX2_put 35 = .ok (.aload_n 0, 1) := by decide +kernel
theorem dX2_put_36 : decode cX2_put 36 = .ok (.getfield 28, 3) := by decide +kernel
theorem dX2_put_39 : decode cX2_put 39 = .ok (.invokeinterface 32 1, 5) := by decide +kernel
theorem dX2_put_44 : decode cX2_put 44 = .ok (.iconst 1, 1) := by decide +kernel
theorem dX2_put_45 : decode cX2_put 45 = .ok (.isub, 1) := by decide +kernel
theorem dX2_put_46 : decode cX2_put 46 = .ok (.ireturn, 1) := by decide +kernel
theorem dX2_countLive_0 : decode cX2_countLive 0 = .ok (.iconst 0, 1) := by decide +kernel
theorem dX2_countLive_1 : decode cX2_countLive 1 = .ok (.istore_n 1, 1) := by decide +kernel
theorem dX2_countLive_2 : decode cX2_countLive 2 = .ok (.iconst 0, 1) := by decide +kernel
theorem dX2_countLive_3 : decode cX2_countLive 3 = .ok (.istore_n 2, 1) := by decide +kernel
theorem dX2_countLive_4 : decode cX2_countLive 4 = .ok (.iload_n 2, 1) := by decide +kernel
theorem dX2_countLive_5 : decode cX2_countLive 5 = .ok (.aload_n 0, 1) := by decide +kernel
theorem dX2_countLive_6 : decode cX2_countLive 6 = .ok (.getfield 28, 3) := by decide +kernel
theorem dX2_countLive_9 : decode cX2_countLive 9 = .ok (.invokeinterface 32 1, 5) := by decide +kernel
theorem dX2_countLive_14 : decode cX2_countLive 14 = .ok (.if_icmp .ge 31, 3) := by decide +kernel
theorem dX2_countLive_17 : decode cX2_countLive 17 = .ok (.aload_n 0, 1) := by decide +kernel
theorem dX2_countLive_18 : decode cX2_countLive 18 = .ok (.getfield 28, 3) := by decide +kernel
theorem dX2_countLive_21 : decode cX2_countLive 21 = .ok (.iload_n 2, 1) := by decide +kernel
theorem dX2_countLive_22 : decode cX2_countLive 22 = .ok (.invokeinterface 38 2, 5) := by decide +kernel
theorem dX2_countLive_27 : decode cX2_countLive 27 = .ok (.checkcast 42, 3) := by decide +kernel
theorem dX2_countLive_30 : decode cX2_countLive 30 = .ok (.getfield 62, 3) := by decide +kernel
theorem dX2_countLive_33 : decode cX2_countLive 33 = .ok (.ifCond .eq 6, 3) := by decide +kernel
theorem dX2_countLive_36 : decode cX2_countLive 36 = .ok (.iinc 1 1, 3) := by decide +kernel
theorem dX2_countLive_39 : decode cX2_countLive 39 = .ok (.iinc 2 1, 3) := by decide +kernel
theorem dX2_countLive_42 : decode cX2_countLive 42 = .ok (.goto (-38), 3) := by decide +kernel
theorem dX2_countLive_45 : decode cX2_countLive 45 = .ok (.iload_n 1, 1) := by decide +kernel
theorem dX2_countLive_46 : decode cX2_countLive 46 = .ok (.ireturn, 1) := by decide +kernel
theorem dX2_rate_0 : decode cX2_rate 0 = .ok (.aload_n 0, 1) := by decide +kernel
theorem dX2_rate_1 : decode cX2_rate 1 = .ok (.getfield 12, 3) := by decide +kernel
theorem dX2_rate_4 : decode cX2_rate 4 = .ok (.aload_n 1, 1) := by decide +kernel
theorem dX2_rate_5 : decode cX2_rate 5 = .ok (.aload_n 2, 1) := by decide +kernel
theorem dX2_rate_6 : decode cX2_rate 6 = .ok (.getfield 45, 3) := by decide +kernel
theorem dX2_rate_9 : decode cX2_rate 9 = .ok (.invokevirtual 66, 3) := by decide +kernel
theorem dX2_rate_12 : decode cX2_rate 12 = .ok (.aload_n 0, 1) := by decide +kernel
theorem dX2_rate_13 : decode cX2_rate 13 = .ok (.getfield 21, 3) := by decide +kernel
theorem dX2_rate_16 : decode cX2_rate 16 = .ok (.aload_n 1, 1) := by decide +kernel
theorem dX2_rate_17 : decode cX2_rate 17 = .ok (.aload_n 2, 1) := by decide +kernel
theorem dX2_rate_18 : decode cX2_rate 18 = .ok (.getfield 55, 3) := by decide +kernel
theorem dX2_rate_21 : decode cX2_rate 21 = .ok (.invokevirtual 70, 3) := by decide +kernel
theorem dX2_rate_24 : decode cX2_rate 24 = .ok (.invokestatic 73, 3) := by decide +kernel
theorem dX2_rate_27 : decode cX2_rate 27 = .ok (.ireturn, 1) := by decide +kernel
theorem dX2_findByBounds_0 : decode cX2_findByBounds 0 = .ok (.iconst (-1), 1) := by decide +kernel
theorem dX2_findByBounds_1 : decode cX2_findByBounds 1 = .ok (.istore_n 2, 1) := by decide +kernel
theorem dX2_findByBounds_2 : decode cX2_findByBounds 2 = .ok (.iconst 0, 1) := by decide +kernel
theorem dX2_findByBounds_3 : decode cX2_findByBounds 3 = .ok (.istore_n 3, 1) := by decide +kernel
theorem dX2_findByBounds_4 : decode cX2_findByBounds 4 = .ok (.bipush 100, 2) := by decide +kernel
theorem dX2_findByBounds_6 : decode cX2_findByBounds 6 = .ok (.istore 4, 2) := by decide +kernel
theorem dX2_findByBounds_8 : decode cX2_findByBounds 8 = .ok (.aload_n 0, 1) := by decide +kernel
theorem dX2_findByBounds_9 : decode cX2_findByBounds 9 = .ok (.getfield 28, 3) := by decide +kernel
theorem dX2_findByBounds_12 : decode cX2_findByBounds 12 = .ok (.invokeinterface 32 1, 5) := by decide +kernel
theorem dX2_findByBounds_17 : decode cX2_findByBounds 17 = .ok (.iconst 1, 1) := by decide +kernel
theorem dX2_findByBounds_18 : decode cX2_findByBounds 18 = .ok (.isub, 1) := by decide +kernel
theorem dX2_findByBounds_19 : decode cX2_findByBounds 19 = .ok (.istore 5, 2) := by decide +kernel
theorem dX2_findByBounds_21 : decode cX2_findByBounds 21 = .ok (.iload 5, 2) := by decide +kernel
theorem dX2_findByBounds_23 : decode cX2_findByBounds 23 = .ok (.ifCond .lt 134, 3) := by decide +kernel
theorem dX2_findByBounds_26 : decode cX2_findByBounds 26 = .ok (.aload_n 0, 1) := by decide +kernel
theorem dX2_findByBounds_27 : decode cX2_findByBounds 27 = .ok (.getfield 28, 3) := by decide +kernel
theorem dX2_findByBounds_30 : decode cX2_findByBounds 30 = .ok (.iload 5, 2) := by decide +kernel
theorem dX2_findByBounds_32 : decode cX2_findByBounds 32 = .ok (.invokeinterface 38 2, 5) := by decide +kernel
theorem dX2_findByBounds_37 : decode cX2_findByBounds 37 = .ok (.checkcast 42, 3) := by decide +kernel
theorem dX2_findByBounds_40 : decode cX2_findByBounds 40 = .ok (.astore 6, 2) := by decide +kernel
theorem dX2_findByBounds_42 : decode cX2_findByBounds 42 = .ok (.aload 6, 2) := by decide +kernel
theorem dX2_findByBounds_44 : decode cX2_findByBounds 44 = .ok (.getfield 62, 3) := by decide +kernel
theorem dX2_findByBounds_47 : decode cX2_findByBounds 47 = .ok (.ifCond .ne 6, 3) := by decide +kernel
theorem dX2_findByBounds_50 : decode cX2_findByBounds 50 = .ok (.goto 101, 3) := by decide +kernel
theorem dX2_findByBounds_53 : decode cX2_findByBounds 53 = .ok (.aload_n 0, 1) := by decide +kernel
theorem dX2_findByBounds_54 : decode cX2_findByBounds 54 = .ok (.getfield 21, 3) := by decide +kernel
theorem dX2_findByBounds_57 : decode cX2_findByBounds 57 = .ok (.aload_n 1, 1) := by decide +kernel
theorem dX2_findByBounds_58 : decode cX2_findByBounds 58 = .ok (.aload 6, 2) := by decide +kernel
theorem dX2_findByBounds_60 : decode cX2_findByBounds 60 = .ok (.getfield 55, 3) := by decide +kernel
theorem dX2_findByBounds_63 : decode cX2_findByBounds 63 = .ok (.invokevirtual 70, 3) := by decide +kernel
theorem dX2_findByBounds_66 : decode cX2_findByBounds 66 = .ok (.istore 7, 2) := by decide +kernel
theorem dX2_findByBounds_68 : decode cX2_findByBounds 68 = .ok (.aload_n 0, 1) := by decide +kernel
theorem dX2_findByBounds_69 : decode cX2_findByBounds 69 = .ok (.getfield 12, 3) := by decide +kernel
theorem dX2_findByBounds_72 : decode cX2_findByBounds 72 = .ok (.aload_n 1, 1) := by decide +kernel
theorem dX2_findByBounds_73 : decode cX2_findByBounds 73 = .ok (.aload 6, 2) := by decide +kernel
theorem dX2_findByBounds_75 : decode cX2_findByBounds 75 = .ok (.getfield 45, 3) := by decide +kernel
theorem dX2_findByBounds_78 : decode cX2_findByBounds 78 = .ok (.invokevirtual 77, 3) := by decide +kernel
theorem dX2_findByBounds_81 : decode cX2_findByBounds 81 = .ok (.istore 8, 2) := by decide +kernel
theorem dX2_findByBounds_83 : decode cX2_findByBounds 83 = .ok (.iload 8, 2) := by decide +kernel
theorem dX2_findByBounds_85 : decode cX2_findByBounds 85 = .ok (.iload 7, 2) := by decide +kernel
theorem dX2_findByBounds_87 : decode cX2_findByBounds 87 = .ok (.invokestatic 73, 3) := by decide +kernel
theorem dX2_findByBounds_90 : decode cX2_findByBounds 90 = .ok (.iload 8, 2) := by decide +kernel
theorem dX2_findByBounds_92 : decode cX2_findByBounds 92 = .ok (.iload_n 3, 1) := by decide +kernel
theorem dX2_findByBounds_93 : decode cX2_findByBounds 93 = .ok (.iload 4, 2) := by decide +kernel
theorem dX2_findByBounds_95 : decode cX2_findByBounds 95 = .ok (.invokestatic 80, 3) := by decide +kernel
theorem dX2_findByBounds_98 : decode cX2_findByBounds 98 = .ok (.ifCond .ne 6, 3) := by decide +kernel
theorem dX2_findByBounds_101 : decode cX2_findByBounds 101 = .ok (.goto 50, 3) := by decide +kernel
theorem dX2_findByBounds_104 : decode cX2_findByBounds 104 = .ok (.aload_n 0, 1) := by decide +kernel
theorem dX2_findByBounds_105 : decode cX2_findByBounds 105 = .ok (.getfield 12, 3) := by decide +kernel
theorem dX2_findByBounds_108 : decode cX2_findByBounds 108 = .ok (.aload_n 1, 1) := by decide +kernel
theorem dX2_findByBounds_109 : decode cX2_findByBounds 109 = .ok (.aload 6, 2) := by decide +kernel
theorem dX2_findByBounds_111 : decode cX2_findByBounds 111 = .ok (.getfield 45, 3) := by decide +kernel
theorem dX2_findByBounds_114 : decode cX2_findByBounds 114 = .ok (.invokevirtual 66, 3) := by decide +kernel
theorem dX2_findByBounds_117 : decode cX2_findByBounds 117 = .ok (.istore 9, 2) := by decide +kernel
theorem dX2_findByBounds_119 : decode cX2_findByBounds 119 = .ok (.iload 9, 2) := by decide +kernel
theorem dX2_findByBounds_121 : decode cX2_findByBounds 121 = .ok (.iload 7, 2) := by decide +kernel
theorem dX2_findByBounds_123 : decode cX2_findByBounds 123 = .ok (.invokestatic 73, 3) := by decide +kernel
theorem dX2_findByBounds_126 : decode cX2_findByBounds 126 = .ok (.istore 10, 2) := by decide +kernel
theorem dX2_findByBounds_128 : decode cX2_findByBounds 128 = .ok (.iload 10, 2) := by decide +kernel
theorem dX2_findByBounds_130 : decode cX2_findByBounds 130 = .ok (.iload 9, 2) := by decide +kernel
theorem dX2_findByBounds_132 : decode cX2_findByBounds 132 = .ok (.iload_n 3, 1) := by decide +kernel
theorem dX2_findByBounds_133 : decode cX2_findByBounds 133 = .ok (.iload 4, 2) := by decide +kernel
theorem dX2_findByBounds_135 : decode cX2_findByBounds 135 = .ok (.invokestatic 80, 3) := by decide +kernel
theorem dX2_findByBounds_138 : decode cX2_findByBounds 138 = .ok (.ifCond .eq 13, 3) := by decide +kernel
theorem dX2_findByBounds_141 : decode cX2_findByBounds 141 = .ok (.iload 5, 2) := by decide +kernel
theorem dX2_findByBounds_143 : decode cX2_findByBounds 143 = .ok (.istore_n 2, 1) := by decide +kernel
theorem dX2_findByBounds_144 : decode cX2_findByBounds 144 = .ok (.iload 10, 2) := by decide +kernel
theorem dX2_findByBounds_146 : decode cX2_findByBounds 146 = .ok (.istore_n 3, 1) := by decide +kernel
theorem dX2_findByBounds_147 : decode cX2_findByBounds 147 = .ok (.iload 9, 2) := by decide +kernel
theorem dX2_findByBounds_149 : decode cX2_findByBounds 149 = .ok (.istore 4, 2) := by decide +kernel
theorem dX2_findByBounds_151 : decode cX2_findByBounds 151 = .ok (.iinc 5 (-1), 3) := by decide +kernel
theorem dX2_findByBounds_154 : decode cX2_findByBounds 154 = .ok (.goto (-133), 3) := by decide +kernel
theorem dX2_findByBounds_157 : decode cX2_findByBounds 157 = .ok (.iload_n 2, 1) := by decide +kernel
theorem dX2_findByBounds_158 : decode cX2_findByBounds 158 = .ok (.ireturn, 1) := by decide +kernel
theorem dX2_findAmongAll_0 : decode cX2_findAmongAll 0 = .ok (.iconst (-1), 1) := by decide +kernel
theorem dX2_findAmongAll_1 : decode cX2_findAmongAll 1 = .ok (.istore_n 2, 1) := by decide +kernel
theorem dX2_findAmongAll_2 : decode cX2_findAmongAll 2 = .ok (.iconst 0, 1) := by decide +kernel
theorem dX2_findAmongAll_3 : decode cX2_findAmongAll 3 = .ok (.istore_n 3, 1) := by decide +kernel
theorem dX2_findAmongAll_4 : decode cX2_findAmongAll 4 = .ok (.iconst 0, 1) := by decide +kernel
theorem dX2_findAmongAll_5 : decode cX2_findAmongAll 5 = .ok (.istore 4, 2) := by decide +kernel
theorem dX2_findAmongAll_7 : decode cX2_findAmongAll 7 = .ok (.iconst 0, 1) := by decide +kernel
theorem dX2_findAmongAll_8 : decode cX2_findAmongAll 8 = .ok (.istore 5, 2) := by decide +kernel
theorem dX2_findAmongAll_10 : decode cX2_findAmongAll 10 = .ok (.iload 5, 2) := by decide +kernel
theorem dX2_findAmongAll_12 : decode cX2_findAmongAll 12 = .ok (.aload_n 0, 1) := by decide +kernel
theorem dX2_findAmongAll_13 : decode cX2_findAmongAll 13 = .ok (.getfield 28, 3) := by decide +kernel
theorem dX2_findAmongAll_16 : decode cX2_findAmongAll 16 = .ok (.invokeinterface 32 1, 5) := by decide +kernel
theorem dX2_findAmongAll_21 : decode cX2_findAmongAll 21 = .ok (.if_icmp .ge 109, 3) := by decide +kernel
theorem dX2_findAmongAll_24 : decode cX2_findAmongAll 24 = .ok (.aload_n 0, 1) := by decide +kernel
theorem dX2_findAmongAll_25 : decode cX2_findAmongAll 25 = .ok (.getfield 28, 3) := by decide +kernel
theorem dX2_findAmongAll_28 : decode cX2_findAmongAll 28 = .ok (.iload 5, 2) := by decide +kernel
theorem dX2_findAmongAll_30 : decode cX2_findAmongAll 30 = .ok (.invokeinterface 38 2, 5) := by decide +kernel
theorem dX2_findAmongAll_35 : decode cX2_findAmongAll 35 = .ok (.checkcast 42, 3) := by decide +kernel
theorem dX2_findAmongAll_38 : decode cX2_findAmongAll 38 = .ok (.astore 6, 2) := by decide +kernel
theorem dX2_findAmongAll_40 : decode cX2_findAmongAll 40 = .ok (.aload_n 0, 1) := by decide +kernel
theorem dX2_findAmongAll_41 : decode cX2_findAmongAll 41 = .ok (.getfield 12, 3) := by decide +kernel
theorem dX2_findAmongAll_44 : decode cX2_findAmongAll 44 = .ok (.aload_n 1, 1) := by decide +kernel
theorem dX2_findAmongAll_45 : decode cX2_findAmongAll 45 = .ok (.aload 6, 2) := by decide +kernel
theorem dX2_findAmongAll_47 : decode cX2_findAmongAll 47 = .ok (.getfield 45, 3) := by decide +kernel
theorem dX2_findAmongAll_50 : decode cX2_findAmongAll 50 = .ok (.invokevirtual 66, 3) := by decide +kernel
theorem dX2_findAmongAll_53 : decode cX2_findAmongAll 53 = .ok (.istore 7, 2) := by decide +kernel
theorem dX2_findAmongAll_55 : decode cX2_findAmongAll 55 = .ok (.iload 7, 2) := by decide +kernel
theorem dX2_findAmongAll_57 : decode cX2_findAmongAll 57 = .ok (.aload_n 0, 1) := by decide +kernel
theorem dX2_findAmongAll_58 : decode cX2_findAmongAll 58 = .ok (.getfield 21, 3) := by decide +kernel
theorem dX2_findAmongAll_61 : decode cX2_findAmongAll 61 = .ok (.aload_n 1, 1) := by decide +kernel
theorem dX2_findAmongAll_62 : decode cX2_findAmongAll 62 = .ok (.aload 6, 2) := by decide +kernel
theorem dX2_findAmongAll_64 : decode cX2_findAmongAll 64 = .ok (.getfield 55, 3) := by decide +kernel
theorem dX2_findAmongAll_67 : decode cX2_findAmongAll 67 = .ok (.invokevirtual 70, 3) := by decide +kernel
theorem dX2_findAmongAll_70 : decode cX2_findAmongAll 70 = .ok (.invokestatic 73, 3) := by decide +kernel
theorem dX2_findAmongAll_73 : decode cX2_findAmongAll 73 = .ok (.istore 8, 2) := by decide +kernel
theorem dX2_findAmongAll_75 : decode cX2_findAmongAll 75 = .ok (.aload 6, 2) := by decide +kernel
theorem dX2_findAmongAll_77 : decode cX2_findAmongAll 77 = .ok (.getfield 62, 3) := by decide +kernel
theorem dX2_findAmongAll_80 : decode cX2_findAmongAll 80 = .ok (.ifCond .eq 13, 3) := by decide +kernel
theorem dX2_findAmongAll_83 : decode cX2_findAmongAll 83 = .ok (.iload 8, 2) := by decide +kernel
theorem dX2_findAmongAll_85 : decode cX2_findAmongAll 85 = .ok (.iconst 1, 1) := by decide +kernel
theorem dX2_findAmongAll_86 : decode cX2_findAmongAll 86 = .ok (.if_icmp .lt 7, 3) := by decide +kernel
theorem dX2_findAmongAll_89 : decode cX2_findAmongAll 89 = .ok (.iconst 1, 1) := by decide +kernel
theorem dX2_findAmongAll_90 : decode cX2_findAmongAll 90 = .ok (.goto 4, 3) := by decide +kernel
theorem dX2_findAmongAll_93 : decode cX2_findAmongAll 93 = .ok (.iconst 0, 1) := by decide +kernel
theorem dX2_findAmongAll_94 : decode cX2_findAmongAll 94 = .ok (.istore 9, 2) := by decide +kernel
theorem dX2_findAmongAll_96 : decode cX2_findAmongAll 96 = .ok (.iload 9, 2) := by decide +kernel
theorem dX2_findAmongAll_98 : decode cX2_findAmongAll 98 = .ok (.ifCond .eq 26, 3) := by decide +kernel
theorem dX2_findAmongAll_101 : decode cX2_findAmongAll 101 = .ok (.iload_n 3, 1) := by decide +kernel
theorem dX2_findAmongAll_102 : decode cX2_findAmongAll 102 = .ok (.iload 4, 2) := by decide +kernel
theorem dX2_findAmongAll_104 : decode cX2_findAmongAll 104 = .ok (.iload 8, 2) := by decide +kernel
theorem dX2_findAmongAll_106 : decode cX2_findAmongAll 106 = .ok (.iload 7, 2) := by decide +kernel
theorem dX2_findAmongAll_108 : decode cX2_findAmongAll 108 = .ok (.invokestatic 80, 3) := by decide +kernel
theorem dX2_findAmongAll_111 : decode cX2_findAmongAll 111 = .ok (.ifCond .ne 13, 3) := by decide +kernel
theorem dX2_findAmongAll_114 : decode cX2_findAmongAll 114 = .ok (.iload 5, 2) := by decide +kernel
theorem dX2_findAmongAll_116 : decode cX2_findAmongAll 116 = .ok (.istore_n 2, 1) := by decide +kernel
theorem dX2_findAmongAll_117 : decode cX2_findAmongAll 117 = .ok (.iload 8, 2) := by decide +kernel
theorem dX2_findAmongAll_119 : decode cX2_findAmongAll 119 = .ok (.istore_n 3, 1) := by decide +kernel
theorem dX2_findAmongAll_120 : decode cX2_findAmongAll 120 = .ok (.iload 7, 2) := by decide +kernel
theorem dX2_findAmongAll_122 : decode cX2_findAmongAll 122 = .ok (.istore 4, 2) := by decide +kernel
theorem dX2_findAmongAll_124 : decode cX2_findAmongAll 124 = .ok (.iinc 5 1, 3) := by decide +kernel
theorem dX2_findAmongAll_127 : decode cX2_findAmongAll 127 = .ok (.goto (-117), 3) := by decide +kernel
theorem dX2_findAmongAll_130 : decode cX2_findAmongAll 130 = .ok (.iload_n 2, 1) := by decide +kernel
theorem dX2_findAmongAll_131 : decode cX2_findAmongAll 131 = .ok (.ireturn, 1) := by decide +kernel
theorem dX2_agreesOn_0 : decode cX2_agreesOn 0 = .ok (.iconst 0, 1) := by decide +kernel
theorem dX2_agreesOn_1 : decode cX2_agreesOn 1 = .ok (.istore_n 2, 1) := by decide +kernel
theorem dX2_agreesOn_2 : decode cX2_agreesOn 2 = .ok (.iload_n 2, 1) := by decide +kernel
theorem dX2_agreesOn_3 : decode cX2_agreesOn 3 = .ok (.aload_n 0, 1) := by decide +kernel
theorem dX2_agreesOn_4 : decode cX2_agreesOn 4 = .ok (.getfield 28, 3) := by decide +kernel
theorem dX2_agreesOn_7 : decode cX2_agreesOn 7 = .ok (.invokeinterface 32 1, 5) := by decide +kernel
theorem dX2_agreesOn_12 : decode cX2_agreesOn 12 = .ok (.if_icmp .ge 49, 3) := by decide +kernel
theorem dX2_agreesOn_15 : decode cX2_agreesOn 15 = .ok (.aload_n 0, 1) := by decide +kernel
theorem dX2_agreesOn_16 : decode cX2_agreesOn 16 = .ok (.getfield 28, 3) := by decide +kernel
theorem dX2_agreesOn_19 : decode cX2_agreesOn 19 = .ok (.iload_n 2, 1) := by decide +kernel
theorem dX2_agreesOn_20 : decode cX2_agreesOn 20 = .ok (.invokeinterface 38 2, 5) := by decide +kernel
theorem dX2_agreesOn_25 : decode cX2_agreesOn 25 = .ok (.checkcast 42, 3) := by decide +kernel
theorem dX2_agreesOn_28 : decode cX2_agreesOn 28 = .ok (.getfield 45, 3) := by decide +kernel
theorem dX2_agreesOn_31 : decode cX2_agreesOn 31 = .ok (.astore_n 3, 1) := by decide +kernel
theorem dX2_agreesOn_32 : decode cX2_agreesOn 32 = .ok (.aload_n 0, 1) := by decide +kernel
theorem dX2_agreesOn_33 : decode cX2_agreesOn 33 = .ok (.getfield 12, 3) := by decide +kernel
theorem dX2_agreesOn_36 : decode cX2_agreesOn 36 = .ok (.aload_n 1, 1) := by decide +kernel
theorem dX2_agreesOn_37 : decode cX2_agreesOn 37 = .ok (.aload_n 3, 1) := by decide +kernel
theorem dX2_agreesOn_38 : decode cX2_agreesOn 38 = .ok (.invokevirtual 84, 3) := by decide +kernel
theorem dX2_agreesOn_41 : decode cX2_agreesOn 41 = .ok (.aload_n 0, 1) := by decide +kernel
theorem dX2_agreesOn_42 : decode cX2_agreesOn 42 = .ok (.getfield 12, 3) := by decide +kernel
theorem dX2_agreesOn_45 : decode cX2_agreesOn 45 = .ok (.aload_n 1, 1) := by decide +kernel
theorem dX2_agreesOn_46 : decode cX2_agreesOn 46 = .ok (.aload_n 3, 1) := by decide +kernel
theorem dX2_agreesOn_47 : decode cX2_agreesOn 47 = .ok (.invokevirtual 87, 3) := by decide +kernel
theorem dX2_agreesOn_50 : decode cX2_agreesOn 50 = .ok (.if_icmp .eq 5, 3) := by decide +kernel
theorem dX2_agreesOn_53 : decode cX2_agreesOn 53 = .ok (.iconst 0, 1) := by decide +kernel
theorem dX2_agreesOn_54 : decode cX2_agreesOn 54 = .ok (.ireturn, 1) := by decide +kernel
theorem dX2_agreesOn_55 : decode cX2_agreesOn 55 = .ok (.iinc 2 1, 3) := by decide +kernel
theorem dX2_agreesOn_58 : decode cX2_agreesOn 58 = .ok (.goto (-56), 3) := by decide +kernel
theorem dX2_agreesOn_61 : decode cX2_agreesOn 61 = .ok (.aload_n 0, 1) := by decide +kernel
theorem dX2_agreesOn_62 : decode cX2_agreesOn 62 = .ok (.aload_n 1, 1) := by decide +kernel
theorem dX2_agreesOn_63 : decode cX2_agreesOn 63 = .ok (.invokevirtual 90, 3) := by decide +kernel
theorem dX2_agreesOn_66 : decode cX2_agreesOn 66 = .ok (.aload_n 0, 1) := by decide +kernel
theorem dX2_agreesOn_67 : decode cX2_agreesOn 67 = .ok (.aload_n 1, 1) := by decide +kernel
theorem dX2_agreesOn_68 : decode cX2_agreesOn 68 = .ok (.invokevirtual 94, 3) := by decide +kernel
theorem dX2_agreesOn_71 : decode cX2_agreesOn 71 = .ok (.if_icmp .ne 7, 3) := by decide +kernel
theorem dX2_agreesOn_74 : decode cX2_agreesOn 74 = .ok (.iconst 1, 1) := by decide +kernel
theorem dX2_agreesOn_75 : decode cX2_agreesOn 75 = .ok (.goto 4, 3) := by decide +kernel
theorem dX2_agreesOn_78 : decode cX2_agreesOn 78 = .ok (.iconst 0, 1) := by decide +kernel
theorem dX2_agreesOn_79 : decode cX2_agreesOn 79 = .ok (.ireturn, 1) := by decide +kernel
theorem dX2_lessMissed_0 : decode cX2_lessMissed 0 = .ok (.iconst 0, 1) := by decide +kernel
theorem dX2_lessMissed_1 : decode cX2_lessMissed 1 = .ok (.iload_n 0, 1) := by decide +kernel
theorem dX2_lessMissed_2 : decode cX2_lessMissed 2 = .ok (.bipush 10, 2) := by decide +kernel
theorem dX2_lessMissed_4 : decode cX2_lessMissed 4 = .ok (.iload_n 1, 1) := by decide +kernel
theorem dX2_lessMissed_5 : decode cX2_lessMissed 5 = .ok (.imul, 1) := by decide +kernel
theorem dX2_lessMissed_6 : decode cX2_lessMissed 6 = .ok (.isub, 1) := by decide +kernel
theorem dX2_lessMissed_7 : decode cX2_lessMissed 7 = .ok (.invokestatic 97, 3) := by decide +kernel
theorem dX2_lessMissed_10 : decode cX2_lessMissed 10 = .ok (.ireturn, 1) := by decide +kernel
theorem dX2_isBetter_0 : decode cX2_isBetter 0 = .ok (.iload_n 0, 1) := by decide +kernel
theorem dX2_isBetter_1 : decode cX2_isBetter 1 = .ok (.iload_n 2, 1) := by decide +kernel
theorem dX2_isBetter_2 : decode cX2_isBetter 2 = .ok (.if_icmp .gt 13, 3) := by decide +kernel
theorem dX2_isBetter_5 : decode cX2_isBetter 5 = .ok (.iload_n 0, 1) := by decide +kernel
theorem dX2_isBetter_6 : decode cX2_isBetter 6 = .ok (.iload_n 2, 1) := by decide +kernel
theorem dX2_isBetter_7 : decode cX2_isBetter 7 = .ok (.if_icmp .ne 12, 3) := by decide +kernel
theorem dX2_isBetter_10 : decode cX2_isBetter 10 = .ok (.iload_n 1, 1) := by decide +kernel
theorem dX2_isBetter_11 : decode cX2_isBetter 11 = .ok (.iload_n 3, 1) := by decide +kernel
theorem dX2_isBetter_12 : decode cX2_isBetter 12 = .ok (.if_icmp .le 7, 3) := by decide +kernel
theorem dX2_isBetter_15 : decode cX2_isBetter 15 = .ok (.iconst 1, 1) := by decide +kernel
theorem dX2_isBetter_16 : decode cX2_isBetter 16 = .ok (.goto 4, 3) := by decide +kernel
theorem dX2_isBetter_19 : decode cX2_isBetter 19 = .ok (.iconst 0, 1) := by decide +kernel
theorem dX2_isBetter_20 : decode cX2_isBetter 20 = .ok (.ireturn, 1) := by decide +kernel
theorem dX3_init_0 : decode cX3_init 0 = .ok (.aload_n 0, 1) := by decide +kernel
theorem dX3_init_1 : decode cX3_init 1 = .ok (.invokespecial 3, 3) := by decide +kernel
theorem dX3_init_4 : decode cX3_init 4 = .ok (.aload_n 0, 1) := by decide +kernel
theorem dX3_init_5 : decode cX3_init 5 = .ok (.new 9, 3) := by decide +kernel
theorem dX3_init_8 : decode cX3_init 8 = .ok (.dup, 1) := by decide +kernel
theorem dX3_init_9 : decode cX3_init 9 = .ok (.invokespecial 11, 3) := by decide +kernel
theorem dX3_init_12 : decode cX3_init 12 = .ok (.putfield 12, 3) := by decide +kernel
theorem dX3_init_15 : decode cX3_init 15 = .ok (.aload_n 0, 1) := by decide +kernel
theorem dX3_init_16 : decode cX3_init 16 = .ok (.new 9, 3) := by decide +kernel
theorem dX3_init_19 : decode cX3_init 19 = .ok (.dup, 1) := by decide +kernel
theorem dX3_init_20 : decode cX3_init 20 = .ok (.invokespecial 11, 3) := by decide +kernel
theorem dX3_init_23 : decode cX3_init 23 = .ok (.putfield 18, 3) := by decide +kernel
theorem dX3_init_26 : decode cX3_init 26 = .ok (.return_, 1) := by decide +kernel
theorem dX3_countShared_0 : decode cX3_countShared 0 = .ok (.aload_n 1, 1) := by decide +kernel
theorem dX3_countShared_1 : decode cX3_countShared 1 = .ok (.aload_n 0, 1) := by decide +kernel
theorem dX3_countShared_2 : decode cX3_countShared 2 = .ok (.getfield 12, 3) := by decide +kernel
theorem dX3_countShared_5 : decode cX3_countShared 5 = .ok (.invokestatic 21, 3) := by decide +kernel
theorem dX3_countShared_8 : decode cX3_countShared 8 = .ok (.aload_n 2, 1) := by decide +kernel
theorem dX3_countShared_9 : decode cX3_countShared 9 = .ok (.aload_n 0, 1) := by decide +kernel
theorem dX3_countShared_10 : decode cX3_countShared 10 = .ok (.getfield 18, 3) := by decide +kernel
theorem dX3_countShared_13 : decode cX3_countShared 13 = .ok (.invokestatic 21, 3) := by decide +kernel
theorem dX3_countShared_16 : decode cX3_countShared 16 = .ok (.iconst 0, 1) := by decide +kernel
theorem dX3_countShared_17 : decode cX3_countShared 17 = .ok (.istore_n 3, 1) := by decide +kernel
theorem dX3_countShared_18 : decode cX3_countShared 18 = .ok (.iconst 0, 1) := by decide +kernel
theorem dX3_countShared_19 : decode cX3_countShared 19 = .ok (.istore 4, 2) := by decide +kernel
theorem dX3_countShared_21 : decode cX3_countShared 21 = .ok (.iload 4, 2) := by decide +kernel
theorem dX3_countShared_23 : decode cX3_countShared 23 = .ok (.iconst 1, 1) := by decide +kernel
theorem dX3_countShared_24 : decode cX3_countShared 24 = .ok (.iadd, 1) := by decide +kernel
theorem dX3_countShared_25 : decode cX3_countShared 25 = .ok (.aload_n 0, 1) := by decide +kernel
theorem dX3_countShared_26 : decode cX3_countShared 26 = .ok (.getfield 12, 3) := by decide +kernel
theorem dX3_countShared_29 : decode cX3_countShared 29 = .ok (.invokevirtual 25, 3) := by decide +kernel
theorem dX3_countShared_32 : decode cX3_countShared 32 = .ok (.if_icmp .ge 75, 3) := by decide +kernel
theorem dX3_countShared_35 : decode cX3_countShared 35 = .ok (.aload_n 0, 1) := by decide +kernel
theorem dX3_countShared_36 : decode cX3_countShared 36 = .ok (.getfield 12, 3) := by decide +kernel
theorem dX3_countShared_39 : decode cX3_countShared 39 = .ok (.iload 4, 2) := by decide +kernel
theorem dX3_countShared_41 : decode cX3_countShared 41 = .ok (.invokevirtual 29, 3) := by decide +kernel
theorem dX3_countShared_44 : decode cX3_countShared 44 = .ok (.istore 5, 2) := by decide +kernel
theorem dX3_countShared_46 : decode cX3_countShared 46 = .ok (.aload_n 0, 1) := by decide +kernel
theorem dX3_countShared_47 : decode cX3_countShared 47 = .ok (.getfield 12, 3) := by decide +kernel
theorem dX3_countShared_50 : decode cX3_countShared 50 = .ok (.iload 4, 2) := by decide +kernel
theorem dX3_countShared_52 : decode cX3_countShared 52 = .ok (.iconst 1, 1) := by decide +kernel
theorem dX3_countShared_53 : decode cX3_countShared 53 = .ok (.iadd, 1) := by decide +kernel
theorem dX3_countShared_54 : decode cX3_countShared 54 = .ok (.invokevirtual 29, 3) := by decide +kernel
theorem dX3_countShared_57 : decode cX3_countShared 57 = .ok (.istore 6, 2) := by decide +kernel
theorem dX3_countShared_59 : decode cX3_countShared 59 = .ok (.aload_n 0, 1) := by decide +kernel
theorem dX3_countShared_60 : decode cX3_countShared 60 = .ok (.getfield 12, 3) := by decide +kernel
theorem dX3_countShared_63 : decode cX3_countShared 63 = .ok (.iload 4, 2) := by decide +kernel
theorem dX3_countShared_65 : decode cX3_countShared 65 = .ok (.iload 5, 2) := by decide +kernel
theorem dX3_countShared_67 : decode cX3_countShared 67 = .ok (.iload 6, 2) := by decide +kernel
theorem dX3_countShared_69 : decode cX3_countShared 69 = .ok (.invokestatic 33, 3) := by decide +kernel
theorem dX3_countShared_72 : decode cX3_countShared 72 = .ok (.ifCond .ne 29, 3) := by decide +kernel
theorem dX3_countShared_75 : decode cX3_countShared 75 = .ok (.aload_n 0, 1) := by decide +kernel
theorem dX3_countShared_76 : decode cX3_countShared 76 = .ok (.getfield 18, 3) := by decide +kernel
theorem dX3_countShared_79 : decode cX3_countShared 79 = .ok (.aload_n 0, 1) := by decide +kernel
theorem dX3_countShared_80 : decode cX3_countShared 80 = .ok (.getfield 18, 3) := by decide +kernel
theorem dX3_countShared_83 : decode cX3_countShared 83 = .ok (.invokevirtual 25, 3) := by decide +kernel
theorem dX3_countShared_86 : decode cX3_countShared 86 = .ok (.iconst 1, 1) := by decide +kernel
theorem dX3_countShared_87 : decode cX3_countShared 87 = .ok (.isub, 1) := by decide +kernel
theorem dX3_countShared_88 : decode cX3_countShared 88 = .ok (.iload 5, 2) := by decide +kernel
theorem dX3_countShared_90 : decode cX3_countShared 90 = .ok (.iload 6, 2) := by decide +kernel
theorem dX3_countShared_92 : decode cX3_countShared 92 = .ok (.invokestatic 33, 3) := by decide +kernel
theorem dX3_countShared_95 : decode cX3_countShared 95 = .ok (.ifCond .eq 6, 3) := by decide +kernel
theorem dX3_countShared_98 : decode cX3_countShared 98 = .ok (.iinc 3 1, 3) := by decide +kernel
theorem dX3_countShared_101 : decode cX3_countShared 101 = .ok (.iinc 4 1, 3) := by decide +kernel
theorem dX3_countShared_104 : decode cX3_countShared 104 = .ok (.goto (-83), 3) := by decide +kernel
theorem dX3_countShared_107 : decode cX3_countShared 107 = .ok (.iload_n 3, 1) := by decide +kernel
theorem dX3_countShared_108 : decode cX3_countShared 108 = .ok (.ireturn, 1) := by decide +kernel
theorem dX3_copyPlain_0 : decode cX3_copyPlain 0 = .ok (.aload_n 1, 1) := by decide +kernel
theorem dX3_copyPlain_1 : decode cX3_copyPlain 1 = .ok (.invokevirtual 37, 3) := by decide +kernel
theorem dX3_copyPlain_4 : decode cX3_copyPlain 4 = .ok (.iconst 0, 1) := by decide +kernel
theorem dX3_copyPlain_5 : decode cX3_copyPlain 5 = .ok (.istore_n 2, 1) := by decide +kernel
theorem dX3_copyPlain_6 : decode cX3_copyPlain 6 = .ok (.iload_n 2, 1) := by decide +kernel
theorem dX3_copyPlain_7 : decode cX3_copyPlain 7 = .ok (.aload_n 0, 1) := by decide +kernel
theorem dX3_copyPlain_8 : decode cX3_copyPlain 8 = .ok (.invokevirtual 25, 3) := by decide +kernel
theorem dX3_copyPlain_11 : decode cX3_copyPlain 11 = .ok (.if_icmp .ge 46, 3) := by decide +kernel
theorem dX3_copyPlain_14 : decode cX3_copyPlain 14 = .ok (.aload_n 0, 1) := by decide +kernel
theorem dX3_copyPlain_15 : decode cX3_copyPlain 15 = .ok (.iload_n 2, 1) := by decide +kernel
theorem dX3_copyPlain_16 : decode cX3_copyPlain 16 = .ok (.invokevirtual 29, 3) := by decide +kernel
theorem dX3_copyPlain_19 : decode cX3_copyPlain 19 = .ok (.istore_n 3, 1) := by decide +kernel
theorem dX3_copyPlain_20 : decode cX3_copyPlain 20 = .ok (.iload_n 3, 1) := by decide +kernel
theorem dX3_copyPlain_21 : decode cX3_copyPlain 21 = .ok (.invokestatic 40, 3) := by decide +kernel
theorem dX3_copyPlain_24 : decode cX3_copyPlain 24 = .ok (.istore 4, 2) := by decide +kernel
theorem dX3_copyPlain_26 : decode cX3_copyPlain 26 = .ok (.iload 4, 2) := by decide +kernel
theorem dX3_copyPlain_28 : decode cX3_copyPlain 28 = .ok (.iconst 2, 1) := by decide +kernel
theorem dX3_copyPlain_29 : decode cX3_copyPlain 29 = .ok (.if_icmp .eq 22, 3) := by decide +kernel
theorem dX3_copyPlain_32 : decode cX3_copyPlain 32 = .ok (.aload_n 1, 1) := by decide +kernel
theorem dX3_copyPlain_33 : decode cX3_copyPlain 33 = .ok (.iload 4, 2) := by decide +kernel
theorem dX3_copyPlain_35 : decode cX3_copyPlain 35 = .ok (.iconst 1, 1) := by decide +kernel
theorem dX3_copyPlain_36 : decode cX3_copyPlain 36 = .ok (.if_icmp .ne 11, 3) := by decide +kernel
theorem dX3_copyPlain_39 : decode cX3_copyPlain 39 = .ok (.iconst 1, 1) := by decide +kernel
theorem dX3_copyPlain_40 : decode cX3_copyPlain 40 = .ok (.iconst 0, 1) := by decide +kernel
theorem dX3_copyPlain_41 : decode cX3_copyPlain 41 = .ok (.invokestatic 45, 3) := by decide +kernel
theorem dX3_copyPlain_44 : decode cX3_copyPlain 44 = .ok (.goto 4, 3) := by decide +kernel
theorem dX3_copyPlain_47 : decode cX3_copyPlain 47 = .ok (.iload_n 3, 1) := by decide +kernel
theorem dX3_copyPlain_48 : decode cX3_copyPlain 48 = .ok (.invokevirtual 49, 3) := by decide +kernel
theorem dX3_copyPlain_51 : decode cX3_copyPlain 51 = .ok (.iinc 2 1, 3) := by decide +kernel
theorem dX3_copyPlain_54 : decode cX3_copyPlain 54 = .ok (.goto (-48), 3) := by decide +kernel
theorem dX3_copyPlain_57 : decode cX3_copyPlain 57 = .ok (.return_, 1) := by decide +kernel
theorem dX3_hasPair_0 : decode cX3_hasPair 0 = .ok (.iconst 0, 1) := by decide +kernel
theorem dX3_hasPair_1 : decode cX3_hasPair 1 = .ok (.istore 4, 2) := by decide +kernel
theorem dX3_hasPair_3 : decode cX3_hasPair 3 = .ok (.iload 4, 2) := by decide +kernel
theorem dX3_hasPair_5 : decode cX3_hasPair 5 = .ok (.iload_n 1, 1) := by decide +kernel
theorem dX3_hasPair_6 : decode cX3_hasPair 6 = .ok (.if_icmp .ge 33, 3) := by decide +kernel
theorem dX3_hasPair_9 : decode cX3_hasPair 9 = .ok (.aload_n 0, 1) := by decide +kernel
theorem dX3_hasPair_10 : decode cX3_hasPair 10 = .ok (.iload 4, 2) := by decide +kernel
theorem dX3_hasPair_12 : decode cX3_hasPair 12 = .ok (.invokevirtual 29, 3) := by decide +kernel
theorem dX3_hasPair_15 : decode cX3_hasPair 15 = .ok (.iload_n 2, 1) := by decide +kernel
theorem dX3_hasPair_16 : decode cX3_hasPair 16 = .ok (.if_icmp .ne 17, 3) := by decide +kernel
theorem dX3_hasPair_19 : decode cX3_hasPair 19 = .ok (.aload_n 0, 1) := by decide +kernel
theorem dX3_hasPair_20 : decode cX3_hasPair 20 = .ok (.iload 4, 2) := by decide +kernel
theorem dX3_hasPair_22 : decode cX3_hasPair 22 = .ok (.iconst 1, 1) := by decide +kernel
theorem dX3_hasPair_23 : decode cX3_hasPair 23 = .ok (.iadd, 1) := by decide +kernel
theorem dX3_hasPair_24 : decode cX3_hasPair 24 = .ok (.invokevirtual 29, 3) := by decide +kernel
theorem dX3_hasPair_27 : decode cX3_hasPair 27 = .ok (.iload_n 3, 1) := by decide +kernel
theorem dX3_hasPair_28 : decode cX3_hasPair 28 = .ok (.if_icmp .ne 5, 3) := by decide +kernel
theorem dX3_hasPair_31 : decode cX3_hasPair 31 = .ok (.iconst 1, 1) := by decide +kernel
theorem dX3_hasPair_32 : decode cX3_hasPair 32 = .ok (.ireturn, 1) := by decide +kernel
theorem dX3_hasPair_33 : decode cX3_hasPair 33 = .ok (.iinc 4 1, 3) := by decide +kernel
theorem dX3_hasPair_36 : decode cX3_hasPair 36 = .ok (.goto (-33), 3) := by decide +kernel
theorem dX3_hasPair_39 : decode cX3_hasPair 39 = .ok (.iconst 0, 1) := by decide +kernel
theorem dX3_hasPair_40 : decode cX3_hasPair 40 = .ok (.ireturn, 1) := by decide +kernel
theorem dX4_init_0 : decode cX4_init 0 = .ok (.aload_n 0, 1) := by decide +kernel
theorem dX4_init_1 : decode cX4_init 1 = .ok (.invokespecial 3, 3) := by decide +kernel
theorem dX4_init_4 : decode cX4_init 4 = .ok (.aload_n 0, 1) := by decide +kernel
theorem dX4_init_5 : decode cX4_init 5 = .ok (.new 9, 3) := by decide +kernel
theorem dX4_init_8 : decode cX4_init 8 = .ok (.dup, 1) := by decide +kernel
theorem dX4_init_9 : decode cX4_init 9 = .ok (.invokespecial 11, 3) := by decide +kernel
theorem dX4_init_12 : decode cX4_init 12 = .ok (.putfield 12, 3) := by decide +kernel
theorem dX4_init_15 : decode cX4_init 15 = .ok (.aload_n 0, 1) := by decide +kernel
theorem dX4_init_16 : decode cX4_init 16 = .ok (.new 9, 3) := by decide +kernel
theorem dX4_init_19 : decode cX4_init 19 = .ok (.dup, 1) := by decide +kernel
theorem dX4_init_20 : decode cX4_init 20 = .ok (.invokespecial 11, 3) := by decide +kernel
theorem dX4_init_23 : decode cX4_init 23 = .ok (.putfield 18, 3) := by decide +kernel
theorem dX4_init_26 : decode cX4_init 26 = .ok (.aload_n 0, 1) := by decide +kernel
theorem dX4_init_27 : decode cX4_init 27 = .ok (.bipush 101, 2) := by decide +kernel
theorem dX4_init_29 : decode cX4_init 29 = .ok (.putfield 21, 3) := by decide +kernel
theorem dX4_init_32 : decode cX4_init 32 = .ok (.aload_n 0, 1) := by decide +kernel
theorem dX4_init_33 : decode cX4_init 33 = .ok (.iconst (-1), 1) := by decide +kernel
theorem dX4_init_34 : decode cX4_init 34 = .ok (.putfield 25, 3) := by decide +kernel
theorem dX4_init_37 : decode cX4_init 37 = .ok (.aload_n 0, 1) := by decide +kernel
theorem dX4_init_38 : decode cX4_init 38 = .ok (.iconst 0, 1) := by decide +kernel
theorem dX4_init_39 : decode cX4_init 39 = .ok (.putfield 29, 3) := by decide +kernel
theorem dX4_init_42 : decode cX4_init 42 = .ok (.return_, 1) := by decide +kernel
theorem dX4_isEmpty_0 : decode cX4_isEmpty 0 = .ok (.aload_n 0, 1) := by decide +kernel
theorem dX4_isEmpty_1 : decode cX4_isEmpty 1 = .ok (.getfield 21, 3) := by decide +kernel
theorem dX4_isEmpty_4 : decode cX4_isEmpty 4 = .ok (.bipush 101, 2) := by decide +kernel
theorem dX4_isEmpty_6 : decode cX4_isEmpty 6 = .ok (.if_icmp .ne 7, 3) := by decide +kernel
theorem dX4_isEmpty_9 : decode cX4_isEmpty 9 = .ok (.iconst 1, 1) := by decide +kernel
theorem dX4_isEmpty_10 : decode cX4_isEmpty 10 = .ok (.goto 4, 3) := by decide +kernel
theorem dX4_isEmpty_13 : decode cX4_isEmpty 13 = .ok (.iconst 0, 1) := by decide +kernel
theorem dX4_isEmpty_14 : decode cX4_isEmpty 14 = .ok (.ireturn, 1) := by decide +kernel
theorem dX4_setFilling_0 : decode cX4_setFilling 0 = .ok (.aload_n 0, 1) := by decide +kernel
theorem dX4_setFilling_1 : decode cX4_setFilling 1 = .ok (.getfield 18, 3) := by decide +kernel
theorem dX4_setFilling_4 : decode cX4_setFilling 4 = .ok (.aload_n 1, 1) := by decide +kernel
theorem dX4_setFilling_5 : decode cX4_setFilling 5 = .ok (.getfield 32, 3) := by decide +kernel
theorem dX4_setFilling_8 : decode cX4_setFilling 8 = .ok (.invokevirtual 35, 3) := by decide +kernel
theorem dX4_setFilling_11 : decode cX4_setFilling 11 = .ok (.aload_n 0, 1) := by decide +kernel
theorem dX4_setFilling_12 : decode cX4_setFilling 12 = .ok (.getfield 12, 3) := by decide +kernel
theorem dX4_setFilling_15 : decode cX4_setFilling 15 = .ok (.iconst 1, 1) := by decide +kernel
theorem dX4_setFilling_16 : decode cX4_setFilling 16 = .ok (.invokevirtual 39, 3) := by decide +kernel
theorem dX4_setFilling_19 : decode cX4_setFilling 19 = .ok (.aload_n 1, 1) := by decide +kernel
theorem dX4_setFilling_20 : decode cX4_setFilling 20 = .ok (.getfield 43, 3) := by decide +kernel
theorem dX4_setFilling_23 : decode cX4_setFilling 23 = .ok (.iconst 1, 1) := by decide +kernel
theorem dX4_setFilling_24 : decode cX4_setFilling 24 = .ok (.invokevirtual 39, 3) := by decide +kernel
theorem dX4_setFilling_27 : decode cX4_setFilling 27 = .ok (.if_icmp .ne 11, 3) := by decide +kernel
theorem dX4_setFilling_30 : decode cX4_setFilling 30 = .ok (.aload_n 0, 1) := by decide +kernel
theorem dX4_setFilling_31 : decode cX4_setFilling 31 = .ok (.aload_n 1, 1) := by decide +kernel
theorem dX4_setFilling_32 : decode cX4_setFilling 32 = .ok (.getfield 43, 3) := by decide +kernel
theorem dX4_setFilling_35 : decode cX4_setFilling 35 = .ok (.invokevirtual 46, 3) := by decide +kernel
theorem dX4_setFilling_38 : decode cX4_setFilling 38 = .ok (.aload_n 0, 1) := by decide +kernel
theorem dX4_setFilling_39 : decode cX4_setFilling 39 = .ok (.iload_n 3, 1) := by decide +kernel
theorem dX4_setFilling_40 : decode cX4_setFilling 40 = .ok (.bipush 100, 2) := by decide +kernel
theorem dX4_setFilling_42 : decode cX4_setFilling 42 = .ok (.if_icmp .ne 8, 3) := by decide +kernel
theorem dX4_setFilling_45 : decode cX4_setFilling 45 = .ok (.bipush 120, 2) := by decide +kernel
theorem dX4_setFilling_47 : decode cX4_setFilling 47 = .ok (.goto 5, 3) := by decide +kernel
theorem dX4_setFilling_50 : decode cX4_setFilling 50 = .ok (.bipush 102, 2) := by decide +kernel
theorem dX4_setFilling_52 : decode cX4_setFilling 52 = .ok (.putfield 21, 3) := by decide +kernel
theorem dX4_setFilling_55 : decode cX4_setFilling 55 = .ok (.aload_n 0, 1) := by decide +kernel
theorem dX4_setFilling_56 : decode cX4_setFilling 56 = .ok (.iload_n 2, 1) := by decide +kernel
theorem dX4_setFilling_57 : decode cX4_setFilling 57 = .ok (.putfield 25, 3) := by decide +kernel
theorem dX4_setFilling_60 : decode cX4_setFilling 60 = .ok (.aload_n 0, 1) := by decide +kernel
theorem dX4_setFilling_61 : decode cX4_setFilling 61 = .ok (.iload_n 3, 1) := by decide +kernel
theorem dX4_setFilling_62 : decode cX4_setFilling 62 = .ok (.putfield 29, 3) := by decide +kernel
theorem dX4_setFilling_65 : decode cX4_setFilling 65 = .ok (.return_, 1) := by decide +kernel
theorem dX4_setRepeat_0 : decode cX4_setRepeat 0 = .ok (.aload_n 0, 1) := by decide +kernel
theorem dX4_setRepeat_1 : decode cX4_setRepeat 1 = .ok (.aload_n 1, 1) := by decide +kernel
theorem dX4_setRepeat_2 : decode cX4_setRepeat 2 = .ok (.bipush 114, 2) := by decide +kernel
theorem dX4_setRepeat_4 : decode cX4_setRepeat 4 = .ok (.invokevirtual 49, 3) := by decide +kernel
theorem dX4_setRepeat_7 : decode cX4_setRepeat 7 = .ok (.return_, 1) := by decide +kernel
theorem dX4_setAnswer_0 : decode cX4_setAnswer 0 = .ok (.aload_n 0, 1) := by decide +kernel
theorem dX4_setAnswer_1 : decode cX4_setAnswer 1 = .ok (.aload_n 1, 1) := by decide +kernel
theorem dX4_setAnswer_2 : decode cX4_setAnswer 2 = .ok (.bipush 97, 2) := by decide +kernel
theorem dX4_setAnswer_4 : decode cX4_setAnswer 4 = .ok (.invokevirtual 49, 3) := by decide +kernel
theorem dX4_setAnswer_7 : decode cX4_setAnswer 7 = .ok (.return_, 1) := by decide +kernel
theorem dX4_setGiven_0 : decode cX4_setGiven 0 = .ok (.aload_n 0, 1) := by decide +kernel
theorem dX4_setGiven_1 : decode cX4_setGiven 1 = .ok (.getfield 18, 3) := by decide +kernel
theorem dX4_setGiven_4 : decode cX4_setGiven 4 = .ok (.aload_n 1, 1) := by decide +kernel
theorem dX4_setGiven_5 : decode cX4_setGiven 5 = .ok (.invokevirtual 35, 3) := by decide +kernel
theorem dX4_setGiven_8 : decode cX4_setGiven 8 = .ok (.aload_n 0, 1) := by decide +kernel
theorem dX4_setGiven_9 : decode cX4_setGiven 9 = .ok (.iload_n 2, 1) := by decide +kernel
theorem dX4_setGiven_10 : decode cX4_setGiven 10 = .ok (.putfield 21, 3) := by decide +kernel
theorem dX4_setGiven_13 : decode cX4_setGiven 13 = .ok (.aload_n 0, 1) := by decide +kernel
theorem dX4_setGiven_14 : decode cX4_setGiven 14 = .ok (.iconst (-1), 1) := by decide +kernel
theorem dX4_setGiven_15 : decode cX4_setGiven 15 = .ok (.putfield 25, 3) := by decide +kernel
theorem dX4_setGiven_18 : decode cX4_setGiven 18 = .ok (.aload_n 0, 1) := by decide +kernel
theorem dX4_setGiven_19 : decode cX4_setGiven 19 = .ok (.iconst 0, 1) := by decide +kernel
theorem dX4_setGiven_20 : decode cX4_setGiven 20 = .ok (.putfield 29, 3) := by decide +kernel
theorem dX4_setGiven_23 : decode cX4_setGiven 23 = .ok (.return_, 1) := by decide +kernel
theorem dX4_adaptNumbers_0 : decode cX4_adaptNumbers 0 = .ok (.iconst 0, 1) := by decide +kernel
theorem dX4_adaptNumbers_1 : decode cX4_adaptNumbers 1 = .ok (.istore_n 2, 1) := by decide +kernel
theorem dX4_adaptNumbers_2 : decode cX4_adaptNumbers 2 = .ok (.iload_n 2, 1) := by decide +kernel
theorem dX4_adaptNumbers_3 : decode cX4_adaptNumbers 3 = .ok (.aload_n 0, 1) := by decide +kernel
theorem dX4_adaptNumbers_4 : decode cX4_adaptNumbers 4 = .ok (.getfield 18, 3) := by decide +kernel
theorem dX4_adaptNumbers_7 : decode cX4_adaptNumbers 7 = .ok (.invokevirtual 53, 3) := by decide +kernel
theorem dX4_adaptNumbers_10 : decode cX4_adaptNumbers 10 = .ok (.if_icmp .ge 74, 3) := by decide +kernel
theorem dX4_adaptNumbers_13 : decode cX4_adaptNumbers 13 = .ok (.aload_n 0, 1) := by decide +kernel
theorem dX4_adaptNumbers_14 : decode cX4_adaptNumbers 14 = .ok (.getfield 18, 3) := by decide +kernel
theorem dX4_adaptNumbers_17 : decode cX4_adaptNumbers 17 = .ok (.iload_n 2, 1) := by decide +kernel
theorem dX4_adaptNumbers_18 : decode cX4_adaptNumbers 18 = .ok (.invokevirtual 57, 3) := by decide +kernel
theorem dX4_adaptNumbers_21 : decode cX4_adaptNumbers 21 = .ok (.istore_n 3, 1) := by decide +kernel
theorem dX4_adaptNumbers_22 : decode cX4_adaptNumbers 22 = .ok (.iload_n 3, 1) := by decide +kernel
theorem dX4_adaptNumbers_23 : decode cX4_adaptNumbers 23 = .ok (.invokestatic 60, 3) := by decide +kernel
theorem dX4_adaptNumbers_26 : decode cX4_adaptNumbers 26 = .ok (.iconst 1, 1) := by decide +kernel
theorem dX4_adaptNumbers_27 : decode cX4_adaptNumbers 27 = .ok (.if_icmp .ne 11, 3) := by decide +kernel
theorem dX4_adaptNumbers_30 : decode cX4_adaptNumbers 30 = .ok (.aload_n 1, 1) := by decide +kernel
theorem dX4_adaptNumbers_31 : decode cX4_adaptNumbers 31 = .ok (.iload_n 3, 1) := by decide +kernel
theorem dX4_adaptNumbers_32 : decode cX4_adaptNumbers 32 = .ok (.invokevirtual 65, 3) := by decide +kernel
theorem dX4_adaptNumbers_35 : decode cX4_adaptNumbers 35 = .ok (.goto 4, 3) := by decide +kernel
theorem dX4_adaptNumbers_38 : decode cX4_adaptNumbers 38 = .ok (.iconst (-1), 1) := by decide +kernel
theorem dX4_adaptNumbers_39 : decode cX4_adaptNumbers 39 = .ok (.istore 4, 2) := by decide +kernel
theorem dX4_adaptNumbers_41 : decode cX4_adaptNumbers 41 = .ok (.iload 4, 2) := by decide +kernel
theorem dX4_adaptNumbers_43 : decode cX4_adaptNumbers 43 = .ok (.iconst (-1), 1) := by decide +kernel
theorem dX4_adaptNumbers_44 : decode cX4_adaptNumbers 44 = .ok (.if_icmp .ne 7, 3) := by decide +kernel
theorem dX4_adaptNumbers_47 : decode cX4_adaptNumbers 47 = .ok (.iconst (-1), 1) := by decide +kernel
theorem dX4_adaptNumbers_48 : decode cX4_adaptNumbers 48 = .ok (.goto 12, 3) := by decide +kernel
theorem dX4_adaptNumbers_51 : decode cX4_adaptNumbers 51 = .ok (.aload_n 0, 1) := by decide +kernel
theorem dX4_adaptNumbers_52 : decode cX4_adaptNumbers 52 = .ok (.getfield 12, 3) := by decide +kernel
theorem dX4_adaptNumbers_55 : decode cX4_adaptNumbers 55 = .ok (.iload 4, 2) := by decide +kernel
theorem dX4_adaptNumbers_57 : decode cX4_adaptNumbers 57 = .ok (.invokevirtual 68, 3) := by decide +kernel
theorem dX4_adaptNumbers_60 : decode cX4_adaptNumbers 60 = .ok (.istore 5, 2) := by decide +kernel
theorem dX4_adaptNumbers_62 : decode cX4_adaptNumbers 62 = .ok (.iload 5, 2) := by decide +kernel
theorem dX4_adaptNumbers_64 : decode cX4_adaptNumbers 64 = .ok (.iconst (-1), 1) := by decide +kernel
theorem dX4_adaptNumbers_65 : decode cX4_adaptNumbers 65 = .ok (.if_icmp .eq 13, 3) := by decide +kernel
theorem dX4_adaptNumbers_68 : decode cX4_adaptNumbers 68 = .ok (.aload_n 0, 1) := by decide +kernel
theorem dX4_adaptNumbers_69 : decode cX4_adaptNumbers 69 = .ok (.getfield 18, 3) := by decide +kernel
theorem dX4_adaptNumbers_72 : decode cX4_adaptNumbers 72 = .ok (.iload_n 2, 1) := by decide +kernel
theorem dX4_adaptNumbers_73 : decode cX4_adaptNumbers 73 = .ok (.iload 5, 2) := by decide +kernel
theorem dX4_adaptNumbers_75 : decode cX4_adaptNumbers 75 = .ok (.invokevirtual 71, 3) := by decide +kernel
theorem dX4_adaptNumbers_78 : decode cX4_adaptNumbers 78 = .ok (.iinc 2 1, 3) := by decide +kernel
theorem dX4_adaptNumbers_81 : decode cX4_adaptNumbers 81 = .ok (.goto (-79), 3) := by decide +kernel
theorem dX4_adaptNumbers_84 : decode cX4_adaptNumbers 84 = .ok (.return_, 1) := by decide +kernel
theorem dX5_init_0 : decode cX5_init 0 = .ok (.aload_n 0, 1) := by decide +kernel
theorem dX5_init_1 : decode cX5_init 1 = .ok (.invokespecial 3, 3) := by decide +kernel
theorem dX5_init_4 : decode cX5_init 4 = .ok (.aload_n 0, 1) := by decide +kernel
theorem dX5_init_5 : decode cX5_init 5 = .ok (.bipush 20, 2) := by decide +kernel
theorem dX5_init_7 : decode cX5_init 7 = .ok (.newarray .int, 2) := by decide +kernel
theorem dX5_init_9 : decode cX5_init 9 = .ok (.putfield 9, 3) := by decide +kernel
theorem dX5_init_12 : decode cX5_init 12 = .ok (.aload_n 0, 1) := by decide +kernel
theorem dX5_init_13 : decode cX5_init 13 = .ok (.bipush 20, 2) := by decide +kernel
theorem dX5_init_15 : decode cX5_init 15 = .ok (.newarray .int, 2) := by decide +kernel
theorem dX5_init_17 : decode cX5_init 17 = .ok (.putfield 15, 3) := by decide +kernel
theorem dX5_init_20 : decode cX5_init 20 = .ok (.aload_n 0, 1) := by decide +kernel
theorem dX5_init_21 : decode cX5_init 21 = .ok (.iconst 0, 1) := by decide +kernel
theorem dX5_init_22 : decode cX5_init 22 = .ok (.putfield 18, 3) := by decide +kernel
theorem dX5_init_25 : decode cX5_init 25 = .ok (.return_, 1) := by decide +kernel
theorem dX5_size_0 : decode cX5_size 0 = .ok (.aload_n 0, 1) := by decide +kernel
theorem dX5_size_1 : decode cX5_size 1 = .ok (.getfield 18, 3) := by decide +kernel
theorem dX5_size_4 : decode cX5_size 4 = .ok (.ireturn, 1) := by decide +kernel
theorem dX5_has_0 : decode cX5_has 0 = .ok (.iconst 0, 1) := by decide +kernel
theorem dX5_has_1 : decode cX5_has 1 = .ok (.istore_n 3, 1) := by decide +kernel
theorem dX5_has_2 : decode cX5_has 2 = .ok (.iload_n 3, 1) := by decide +kernel
theorem dX5_has_3 : decode cX5_has 3 = .ok (.aload_n 0, 1) := by decide +kernel
theorem dX5_has_4 : decode cX5_has 4 = .ok (.getfield 18, 3) := by decide +kernel
theorem dX5_has_7 : decode cX5_has 7 = .ok (.if_icmp .ge 31, 3) := by decide +kernel
theorem dX5_has_10 : decode cX5_has 10 = .ok (.aload_n 0, 1) := by decide +kernel
theorem dX5_has_11 : decode cX5_has 11 = .ok (.getfield 9, 3) := by decide +kernel
theorem dX5_has_14 : decode cX5_has 14 = .ok (.iload_n 3, 1) := by decide +kernel
theorem dX5_has_15 : decode cX5_has 15 = .ok (.iaload, 1) := by decide +kernel
theorem dX5_has_16 : decode cX5_has 16 = .ok (.iload_n 1, 1) := by decide +kernel
theorem dX5_has_17 : decode cX5_has 17 = .ok (.if_icmp .ne 15, 3) := by decide +kernel
theorem dX5_has_20 : decode cX5_has 20 = .ok (.aload_n 0, 1) := by decide +kernel
theorem dX5_has_21 : decode cX5_has 21 = .ok (.getfield 15, 3) := by decide +kernel
theorem dX5_has_24 : decode cX5_has 24 = .ok (.iload_n 3, 1) := by decide +kernel
theorem dX5_has_25 : decode cX5_has 25 = .ok (.iaload, 1) := by decide +kernel
theorem dX5_has_26 : decode cX5_has 26 = .ok (.iload_n 2, 1) := by decide +kernel
theorem dX5_has_27 : decode cX5_has 27 = .ok (.if_icmp .ne 5, 3) := by decide +kernel
theorem dX5_has_30 : decode cX5_has 30 = .ok (.iconst 1, 1) := by decide +kernel
theorem dX5_has_31 : decode cX5_has 31 = .ok (.ireturn, 1) := by decide +kernel
theorem dX5_has_32 : decode cX5_has 32 = .ok (.iinc 3 1, 3) := by decide +kernel
theorem dX5_has_35 : decode cX5_has 35 = .ok (.goto (-33), 3) := by decide +kernel
theorem dX5_has_38 : decode cX5_has 38 = .ok (.iconst 0, 1) := by decide +kernel
theorem dX5_has_39 : decode cX5_has 39 = .ok (.ireturn, 1) := by decide +kernel
theorem dX5_put_0 : decode cX5_put 0 = .ok (.aload_n 0, 1) := by decide +kernel
theorem dX5_put_1 : decode cX5_put 1 = .ok (.getfield 18, 3) := by decide +kernel
theorem dX5_put_4 : decode cX5_put 4 = .ok (.bipush 20, 2) := by decide +kernel
theorem dX5_put_6 : decode cX5_put 6 = .ok (.if_icmp .ge 33, 3) := by decide +kernel
theorem dX5_put_9 : decode cX5_put 9 = .ok (.aload_n 0, 1) := by decide +kernel
theorem dX5_put_10 : decode cX5_put 10 = .ok (.getfield 9, 3) := by decide +kernel
theorem dX5_put_13 : decode cX5_put 13 = .ok (.aload_n 0, 1) := by decide +kernel
theorem dX5_put_14 : decode cX5_put 14 = .ok (.getfield 18, 3) := by decide +kernel
theorem dX5_put_17 : decode cX5_put 17 = .ok (.iload_n 1, 1) := by decide +kernel
theorem dX5_put_18 : decode cX5_put 18 = .ok (.iastore, 1) := by decide +kernel
theorem dX5_put_19 : decode cX5_put 19 = .ok (.aload_n 0, 1) := by decide +kernel
theorem dX5_put_20 : decode cX5_put 20 = .ok (.getfield 15, 3) := by decide +kernel
theorem dX5_put_23 : decode cX5_put 23 = .ok (.aload_n 0, 1) := by decide +kernel
theorem dX5_put_24 : decode cX5_put 24 = .ok (.getfield 18, 3) := by decide +kernel
theorem dX5_put_27 : decode cX5_put 27 = .ok (.iload_n 2, 1) := by decide +kernel
theorem dX5_put_28 : decode cX5_put 28 = .ok (.iastore, 1) := by decide +kernel
theorem dX5_put_29 : decode cX5_put 29 = .ok (.aload_n 0, 1) := by decide +kernel
theorem dX5_put_30 : decode cX5_put 30 = .ok (.dup, 1) := by decide +kernel
theorem dX5_put_31 : decode cX5_put 31 = .ok (.getfield 18, 3) := by decide +kernel
theorem dX5_put_34 : decode cX5_put 34 = .ok (.iconst 1, 1) := by decide +kernel
theorem dX5_put_35 : decode cX5_put 35 = .ok (.iadd, 1) := by decide +kernel
theorem dX5_put_36 : decode cX5_put 36 = .ok (.putfield 18, 3) := by decide +kernel
theorem dX5_put_39 : decode cX5_put 39 = .ok (.return_, 1) := by decide +kernel
theorem dX5_countMissed_0 : decode cX5_countMissed 0 = .ok (.iconst 0, 1) := by decide +kernel
theorem dX5_countMissed_1 : decode cX5_countMissed 1 = .ok (.istore_n 3, 1) := by decide +kernel
theorem dX5_countMissed_2 : decode cX5_countMissed 2 = .ok (.iconst 0, 1) := by decide +kernel
theorem dX5_countMissed_3 : decode cX5_countMissed 3 = .ok (.istore 4, 2) := by decide +kernel
theorem dX5_countMissed_5 : decode cX5_countMissed 5 = .ok (.iload 4, 2) := by decide +kernel
theorem dX5_countMissed_7 : decode cX5_countMissed 7 = .ok (.aload_n 0, 1) := by decide +kernel
theorem dX5_countMissed_8 : decode cX5_countMissed 8 = .ok (.getfield 18, 3) := by decide +kernel
theorem dX5_countMissed_11 : decode cX5_countMissed 11 = .ok (.if_icmp .ge 48, 3) := by decide +kernel
theorem dX5_countMissed_14 : decode cX5_countMissed 14 = .ok (.aload_n 1, 1) := by decide +kernel
theorem dX5_countMissed_15 : decode cX5_countMissed 15 = .ok (.iconst 0, 1) := by decide +kernel
theorem dX5_countMissed_16 : decode cX5_countMissed 16 = .ok (.aload_n 0, 1) := by decide +kernel
theorem dX5_countMissed_17 : decode cX5_countMissed 17 = .ok (.getfield 9, 3) := by decide +kernel
theorem dX5_countMissed_20 : decode cX5_countMissed 20 = .ok (.iload 4, 2) := by decide +kernel
theorem dX5_countMissed_22 : decode cX5_countMissed 22 = .ok (.iaload, 1) := by decide +kernel
theorem dX5_countMissed_23 : decode cX5_countMissed 23 = .ok (.invokestatic 22, 3) := by decide +kernel
theorem dX5_countMissed_26 : decode cX5_countMissed 26 = .ok (.invokevirtual 28, 3) := by decide +kernel
theorem dX5_countMissed_29 : decode cX5_countMissed 29 = .ok (.ifCond .eq 24, 3) := by decide +kernel
theorem dX5_countMissed_32 : decode cX5_countMissed 32 = .ok (.aload_n 2, 1) := by decide +kernel
theorem dX5_countMissed_33 : decode cX5_countMissed 33 = .ok (.iconst 0, 1) := by decide +kernel
theorem dX5_countMissed_34 : decode cX5_countMissed 34 = .ok (.aload_n 0, 1) := by decide +kernel
theorem dX5_countMissed_35 : decode cX5_countMissed 35 = .ok (.getfield 15, 3) := by decide +kernel
theorem dX5_countMissed_38 : decode cX5_countMissed 38 = .ok (.iload 4, 2) := by decide +kernel
theorem dX5_countMissed_40 : decode cX5_countMissed 40 = .ok (.iaload, 1) := by decide +kernel
theorem dX5_countMissed_41 : decode cX5_countMissed 41 = .ok (.invokestatic 22, 3) := by decide +kernel
theorem dX5_countMissed_44 : decode cX5_countMissed 44 = .ok (.invokevirtual 28, 3) := by decide +kernel
theorem dX5_countMissed_47 : decode cX5_countMissed 47 = .ok (.ifCond .ne 6, 3) := by decide +kernel
theorem dX5_countMissed_50 : decode cX5_countMissed 50 = .ok (.iinc 3 1, 3) := by decide +kernel
theorem dX5_countMissed_53 : decode cX5_countMissed 53 = .ok (.iinc 4 1, 3) := by decide +kernel
theorem dX5_countMissed_56 : decode cX5_countMissed 56 = .ok (.goto (-51), 3) := by decide +kernel
theorem dX5_countMissed_59 : decode cX5_countMissed 59 = .ok (.iload_n 3, 1) := by decide +kernel
theorem dX5_countMissed_60 : decode cX5_countMissed 60 = .ok (.ireturn, 1) := by decide +kernel
theorem dX6_init_0 : decode cX6_init 0 = .ok (.aload_n 0, 1) := by decide +kernel
theorem dX6_init_1 : decode cX6_init 1 = .ok (.invokespecial 3, 3) := by decide +kernel
theorem dX6_init_4 : decode cX6_init 4 = .ok (.aload_n 0, 1) := by decide +kernel
theorem dX6_init_5 : decode cX6_init 5 = .ok (.bipush 60, 2) := by decide +kernel
theorem dX6_init_7 : decode cX6_init 7 = .ok (.newarray .int, 2) := by decide +kernel
theorem dX6_init_9 : decode cX6_init 9 = .ok (.putfield 9, 3) := by decide +kernel
theorem dX6_init_12 : decode cX6_init 12 = .ok (.aload_n 0, 1) := by decide +kernel
theorem dX6_init_13 : decode cX6_init 13 = .ok (.iconst 0, 1) := by decide +kernel
theorem dX6_init_14 : decode cX6_init 14 = .ok (.putfield 15, 3) := by decide +kernel
theorem dX6_init_17 : decode cX6_init 17 = .ok (.return_, 1) := by decide +kernel
theorem dX6_size_0 : decode cX6_size 0 = .ok (.aload_n 0, 1) := by decide +kernel
theorem dX6_size_1 : decode cX6_size 1 = .ok (.getfield 15, 3) := by decide +kernel
theorem dX6_size_4 : decode cX6_size 4 = .ok (.ireturn, 1) := by decide +kernel
theorem dX6_hasPlace_0 : decode cX6_hasPlace 0 = .ok (.iload_n 1, 1) := by decide +kernel
theorem dX6_hasPlace_1 : decode cX6_hasPlace 1 = .ok (.ifCond .lt 15, 3) := by decide +kernel
theorem dX6_hasPlace_4 : decode cX6_hasPlace 4 = .ok (.iload_n 1, 1) := by decide +kernel
theorem dX6_hasPlace_5 : decode cX6_hasPlace 5 = .ok (.aload_n 0, 1) := by decide +kernel
theorem dX6_hasPlace_6 : decode cX6_hasPlace 6 = .ok (.getfield 15, 3) := by decide +kernel
theorem dX6_hasPlace_9 : decode cX6_hasPlace 9 = .ok (.if_icmp .ge 7, 3) := by decide +kernel
theorem dX6_hasPlace_12 : decode cX6_hasPlace 12 = .ok (.iconst 1, 1) := by decide +kernel
theorem dX6_hasPlace_13 : decode cX6_hasPlace 13 = .ok (.goto 4, 3) := by decide +kernel
theorem dX6_hasPlace_16 : decode cX6_hasPlace 16 = .ok (.iconst 0, 1) := by decide +kernel
theorem dX6_hasPlace_17 : decode cX6_hasPlace 17 = .ok (.ireturn, 1) := by decide +kernel
theorem dX6_at_0 : decode cX6_at 0 = .ok (.iload_n 1, 1) := by decide +kernel
theorem dX6_at_1 : decode cX6_at 1 = .ok (.ifCond .lt 20, 3) := by decide +kernel
theorem dX6_at_4 : decode cX6_at 4 = .ok (.iload_n 1, 1) := by decide +kernel
theorem dX6_at_5 : decode cX6_at 5 = .ok (.aload_n 0, 1) := by decide +kernel
theorem dX6_at_6 : decode cX6_at 6 = .ok (.getfield 15, 3) := by decide +kernel
theorem dX6_at_9 : decode cX6_at 9 = .ok (.if_icmp .ge 12, 3) := by decide +kernel
theorem dX6_at_12 : decode cX6_at 12 = .ok (.aload_n 0, 1) := by decide +kernel
theorem dX6_at_13 : decode cX6_at 13 = .ok (.getfield 9, 3) := by decide +kernel
theorem dX6_at_16 : decode cX6_at 16 = .ok (.iload_n 1, 1) := by decide +kernel
theorem dX6_at_17 : decode cX6_at 17 = .ok (.iaload, 1) := by decide +kernel
theorem dX6_at_18 : decode cX6_at 18 = .ok (.goto 4, 3) := by decide +kernel
theorem dX6_at_21 : decode cX6_at 21 = .ok (.iconst (-1), 1) := by decide +kernel
theorem dX6_at_22 : decode cX6_at 22 = .ok (.ireturn, 1) := by decide +kernel
theorem dX6_put_0 : decode cX6_put 0 = .ok (.aload_n 0, 1) := by decide +kernel
theorem dX6_put_1 : decode cX6_put 1 = .ok (.getfield 15, 3) := by decide +kernel
theorem dX6_put_4 : decode cX6_put 4 = .ok (.aload_n 0, 1) := by decide +kernel
theorem dX6_put_5 : decode cX6_put 5 = .ok (.getfield 9, 3) := by decide +kernel
theorem dX6_put_8 : decode cX6_put 8 = .ok (.arraylength, 1) := by decide +kernel
theorem dX6_put_9 : decode cX6_put 9 = .ok (.if_icmp .ge 23, 3) := by decide +kernel
theorem dX6_put_12 : decode cX6_put 12 = .ok (.aload_n 0, 1) := by decide +kernel
theorem dX6_put_13 : decode cX6_put 13 = .ok (.getfield 9, 3) := by decide +kernel
theorem dX6_put_16 : decode cX6_put 16 = .ok (.aload_n 0, 1) := by decide +kernel
theorem dX6_put_17 : decode cX6_put 17 = .ok (.getfield 15, 3) := by decide +kernel
theorem dX6_put_20 : decode cX6_put 20 = .ok (.iload_n 1, 1) := by decide +kernel
theorem dX6_put_21 : decode cX6_put 21 = .ok (.iastore, 1) := by decide +kernel
theorem dX6_put_22 : decode cX6_put 22 = .ok (.aload_n 0, 1) := by decide +kernel
theorem dX6_put_23 : decode cX6_put 23 = .ok (.dup, 1) := by decide +kernel
theorem dX6_put_24 : decode cX6_put 24 = .ok (.getfield 15, 3) := by decide +kernel
theorem dX6_put_27 : decode cX6_put 27 = .ok (.iconst 1, 1) := by decide +kernel
theorem dX6_put_28 : decode cX6_put 28 = .ok (.iadd, 1) := by decide +kernel
theorem dX6_put_29 : decode cX6_put 29 = .ok (.putfield 15, 3) := by decide +kernel
theorem dX6_put_32 : decode cX6_put 32 = .ok (.return_, 1) := by decide +kernel
theorem dX6_replaceAt_0 : decode cX6_replaceAt 0 = .ok (.aload_n 0, 1) := by decide +kernel
theorem dX6_replaceAt_1 : decode cX6_replaceAt 1 = .ok (.iload_n 1, 1) := by decide +kernel
theorem dX6_replaceAt_2 : decode cX6_replaceAt 2 = .ok (.invokevirtual 19, 3) := by decide +kernel
theorem dX6_replaceAt_5 : decode cX6_replaceAt 5 = .ok (.ifCond .eq 10, 3) := by decide +kernel
theorem dX6_replaceAt_8 : decode cX6_replaceAt 8 = .ok (.aload_n 0, 1) := by decide +kernel
theorem dX6_replaceAt_9 : decode cX6_replaceAt 9 = .ok (.getfield 9, 3) := by decide +kernel
theorem dX6_replaceAt_12 : decode cX6_replaceAt 12 = .ok (.iload_n 1, 1) := by decide +kernel
theorem dX6_replaceAt_13 : decode cX6_replaceAt 13 = .ok (.iload_n 2, 1) := by decide +kernel
theorem dX6_replaceAt_14 : decode cX6_replaceAt 14 = .ok (.iastore, 1) := by decide +kernel
theorem dX6_replaceAt_15 : decode cX6_replaceAt 15 = .ok (.return_, 1) := by decide +kernel
theorem dX6_makeEmpty_0 : decode cX6_makeEmpty 0 = .ok (.aload_n 0, 1) := by decide +kernel
theorem dX6_makeEmpty_1 : decode cX6_makeEmpty 1 = .ok (.iconst 0, 1) := by decide +kernel
theorem dX6_makeEmpty_2 : decode cX6_makeEmpty 2 = .ok (.putfield 15, 3) := by decide +kernel
theorem dX6_makeEmpty_5 : decode cX6_makeEmpty 5 = .ok (.return_, 1) := by decide +kernel
theorem dX6_copyRange_0 : decode cX6_copyRange 0 = .ok (.aload_n 0, 1) := by decide +kernel
theorem dX6_copyRange_1 : decode cX6_copyRange 1 = .ok (.iconst 0, 1) := by decide +kernel
theorem dX6_copyRange_2 : decode cX6_copyRange 2 = .ok (.putfield 15, 3) := by decide +kernel
theorem dX6_copyRange_5 : decode cX6_copyRange 5 = .ok (.iload_n 2, 1) := by decide +kernel
theorem dX6_copyRange_6 : decode cX6_copyRange 6 = .ok (.istore 4, 2) := by decide +kernel
theorem dX6_copyRange_8 : decode cX6_copyRange 8 = .ok (.iload 4, 2) := by decide +kernel
theorem dX6_copyRange_10 : decode cX6_copyRange 10 = .ok (.iload_n 3, 1) := by decide +kernel
theorem dX6_copyRange_11 : decode cX6_copyRange 11 = .ok (.if_icmp .ge 19, 3) := by decide +kernel
theorem dX6_copyRange_14 : decode cX6_copyRange 14 = .ok (.aload_n 0, 1) := by decide +kernel
theorem dX6_copyRange_15 : decode cX6_copyRange 15 = .ok (.aload_n 1, 1) := by decide +kernel
theorem dX6_copyRange_16 : decode cX6_copyRange 16 = .ok (.iload 4, 2) := by decide +kernel
theorem dX6_copyRange_18 : decode cX6_copyRange 18 = .ok (.invokevirtual 23, 3) := by decide +kernel
theorem dX6_copyRange_21 : decode cX6_copyRange 21 = .ok (.invokevirtual 27, 3) := by decide +kernel
theorem dX6_copyRange_24 : decode cX6_copyRange 24 = .ok (.iinc 4 1, 3) := by decide +kernel
theorem dX6_copyRange_27 : decode cX6_copyRange 27 = .ok (.goto (-19), 3) := by decide +kernel
theorem dX6_copyRange_30 : decode cX6_copyRange 30 = .ok (.return_, 1) := by decide +kernel
theorem dX6_copyAll_0 : decode cX6_copyAll 0 = .ok (.aload_n 0, 1) := by decide +kernel
theorem dX6_copyAll_1 : decode cX6_copyAll 1 = .ok (.aload_n 1, 1) := by decide +kernel
theorem dX6_copyAll_2 : decode cX6_copyAll 2 = .ok (.iconst 0, 1) := by decide +kernel
theorem dX6_copyAll_3 : decode cX6_copyAll 3 = .ok (.aload_n 1, 1) := by decide +kernel
theorem dX6_copyAll_4 : decode cX6_copyAll 4 = .ok (.invokevirtual 31, 3) := by decide +kernel
theorem dX6_copyAll_7 : decode cX6_copyAll 7 = .ok (.invokevirtual 35, 3) := by decide +kernel
theorem dX6_copyAll_10 : decode cX6_copyAll 10 = .ok (.return_, 1) := by decide +kernel
theorem dX6_takeAll_0 : decode cX6_takeAll 0 = .ok (.aload_n 0, 1) := by decide +kernel
theorem dX6_takeAll_1 : decode cX6_takeAll 1 = .ok (.aload_n 1, 1) := by decide +kernel
theorem dX6_takeAll_2 : decode cX6_takeAll 2 = .ok (.invokevirtual 39, 3) := by decide +kernel
theorem dX6_takeAll_5 : decode cX6_takeAll 5 = .ok (.aload_n 1, 1) := by decide +kernel
theorem dX6_takeAll_6 : decode cX6_takeAll 6 = .ok (.invokevirtual 43, 3) := by decide +kernel
theorem dX6_takeAll_9 : decode cX6_takeAll 9 = .ok (.return_, 1) := by decide +kernel
theorem dX6_isSameAs_0 : decode cX6_isSameAs 0 = .ok (.aload_n 0, 1) := by decide +kernel
theorem dX6_isSameAs_1 : decode cX6_isSameAs 1 = .ok (.getfield 15, 3) := by decide +kernel
theorem dX6_isSameAs_4 : decode cX6_isSameAs 4 = .ok (.aload_n 1, 1) := by decide +kernel
theorem dX6_isSameAs_5 : decode cX6_isSameAs 5 = .ok (.getfield 15, 3) := by decide +kernel
theorem dX6_isSameAs_8 : decode cX6_isSameAs 8 = .ok (.if_icmp .eq 5, 3) := by decide +kernel
theorem dX6_isSameAs_11 : decode cX6_isSameAs 11 = .ok (.iconst 0, 1) := by decide +kernel
theorem dX6_isSameAs_12 : decode cX6_isSameAs 12 = .ok (.ireturn, 1) := by decide +kernel
theorem dX6_isSameAs_13 : decode cX6_isSameAs 13 = .ok (.iconst 0, 1) := by decide +kernel
theorem dX6_isSameAs_14 : decode cX6_isSameAs 14 = .ok (.istore_n 2, 1) := by decide +kernel
theorem dX6_isSameAs_15 : decode cX6_isSameAs 15 = .ok (.iload_n 2, 1) := by decide +kernel
theorem dX6_isSameAs_16 : decode cX6_isSameAs 16 = .ok (.aload_n 0, 1) := by decide +kernel
theorem dX6_isSameAs_17 : decode cX6_isSameAs 17 = .ok (.getfield 15, 3) := by decide +kernel
theorem dX6_isSameAs_20 : decode cX6_isSameAs 20 = .ok (.if_icmp .ge 24, 3) := by decide +kernel
theorem dX6_isSameAs_23 : decode cX6_isSameAs 23 = .ok (.aload_n 0, 1) := by decide +kernel
theorem dX6_isSameAs_24 : decode cX6_isSameAs 24 = .ok (.iload_n 2, 1) := by decide +kernel
theorem dX6_isSameAs_25 : decode cX6_isSameAs 25 = .ok (.invokevirtual 23, 3) := by decide +kernel
theorem dX6_isSameAs_28 : decode cX6_isSameAs 28 = .ok (.aload_n 1, 1) := by decide +kernel
theorem dX6_isSameAs_29 : decode cX6_isSameAs 29 = .ok (.iload_n 2, 1) := by decide +kernel
theorem dX6_isSameAs_30 : decode cX6_isSameAs 30 = .ok (.invokevirtual 23, 3) := by decide +kernel
theorem dX6_isSameAs_33 : decode cX6_isSameAs 33 = .ok (.if_icmp .eq 5, 3) := by decide +kernel
theorem dX6_isSameAs_36 : decode cX6_isSameAs 36 = .ok (.iconst 0, 1) := by decide +kernel
theorem dX6_isSameAs_37 : decode cX6_isSameAs 37 = .ok (.ireturn, 1) := by decide +kernel
theorem dX6_isSameAs_38 : decode cX6_isSameAs 38 = .ok (.iinc 2 1, 3) := by decide +kernel
theorem dX6_isSameAs_41 : decode cX6_isSameAs 41 = .ok (.goto (-26), 3) := by decide +kernel
theorem dX6_isSameAs_44 : decode cX6_isSameAs 44 = .ok (.iconst 1, 1) := by decide +kernel
theorem dX6_isSameAs_45 : decode cX6_isSameAs 45 = .ok (.ireturn, 1) := by decide +kernel
theorem dX6_has_0 : decode cX6_has 0 = .ok (.iconst 0, 1) := by decide +kernel
theorem dX6_has_1 : decode cX6_has 1 = .ok (.istore_n 2, 1) := by decide +kernel
theorem dX6_has_2 : decode cX6_has 2 = .ok (.iload_n 2, 1) := by decide +kernel
theorem dX6_has_3 : decode cX6_has 3 = .ok (.aload_n 0, 1) := by decide +kernel
theorem dX6_has_4 : decode cX6_has 4 = .ok (.getfield 15, 3) := by decide +kernel
theorem dX6_has_7 : decode cX6_has 7 = .ok (.if_icmp .ge 20, 3) := by decide +kernel
theorem dX6_has_10 : decode cX6_has 10 = .ok (.aload_n 0, 1) := by decide +kernel
theorem dX6_has_11 : decode cX6_has 11 = .ok (.iload_n 2, 1) := by decide +kernel
theorem dX6_has_12 : decode cX6_has 12 = .ok (.invokevirtual 23, 3) := by decide +kernel
theorem dX6_has_15 : decode cX6_has 15 = .ok (.iload_n 1, 1) := by decide +kernel
theorem dX6_has_16 : decode cX6_has 16 = .ok (.if_icmp .ne 5, 3) := by decide +kernel
theorem dX6_has_19 : decode cX6_has 19 = .ok (.iconst 1, 1) := by decide +kernel
theorem dX6_has_20 : decode cX6_has 20 = .ok (.ireturn, 1) := by decide +kernel
theorem dX6_has_21 : decode cX6_has 21 = .ok (.iinc 2 1, 3) := by decide +kernel
theorem dX6_has_24 : decode cX6_has 24 = .ok (.goto (-22), 3) := by decide +kernel
theorem dX6_has_27 : decode cX6_has 27 = .ok (.iconst 0, 1) := by decide +kernel
theorem dX6_has_28 : decode cX6_has 28 = .ok (.ireturn, 1) := by decide +kernel
theorem dX6_countKind_0 : decode cX6_countKind 0 = .ok (.iconst 0, 1) := by decide +kernel
theorem dX6_countKind_1 : decode cX6_countKind 1 = .ok (.istore_n 2, 1) := by decide +kernel
theorem dX6_countKind_2 : decode cX6_countKind 2 = .ok (.iconst 0, 1) := by decide +kernel
theorem dX6_countKind_3 : decode cX6_countKind 3 = .ok (.istore_n 3, 1) := by decide +kernel
theorem dX6_countKind_4 : decode cX6_countKind 4 = .ok (.iload_n 3, 1) := by decide +kernel
theorem dX6_countKind_5 : decode cX6_countKind 5 = .ok (.aload_n 0, 1) := by decide +kernel
theorem dX6_countKind_6 : decode cX6_countKind 6 = .ok (.getfield 15, 3) := by decide +kernel
theorem dX6_countKind_9 : decode cX6_countKind 9 = .ok (.if_icmp .ge 24, 3) := by decide +kernel
theorem dX6_countKind_12 : decode cX6_countKind 12 = .ok (.aload_n 0, 1) := by decide +kernel
theorem dX6_countKind_13 : decode cX6_countKind 13 = .ok (.iload_n 3, 1) := by decide +kernel
theorem dX6_countKind_14 : decode cX6_countKind 14 = .ok (.invokevirtual 23, 3) := by decide +kernel
theorem dX6_countKind_17 : decode cX6_countKind 17 = .ok (.invokestatic 46, 3) := by decide +kernel
theorem dX6_countKind_20 : decode cX6_countKind 20 = .ok (.iload_n 1, 1) := by decide +kernel
theorem dX6_countKind_21 : decode cX6_countKind 21 = .ok (.if_icmp .ne 6, 3) := by decide +kernel
theorem dX6_countKind_24 : decode cX6_countKind 24 = .ok (.iinc 2 1, 3) := by decide +kernel
theorem dX6_countKind_27 : decode cX6_countKind 27 = .ok (.iinc 3 1, 3) := by decide +kernel
theorem dX6_countKind_30 : decode cX6_countKind 30 = .ok (.goto (-26), 3) := by decide +kernel
theorem dX6_countKind_33 : decode cX6_countKind 33 = .ok (.iload_n 2, 1) := by decide +kernel
theorem dX6_countKind_34 : decode cX6_countKind 34 = .ok (.ireturn, 1) := by decide +kernel
theorem dX6_placeOfNumber_0 : decode cX6_placeOfNumber 0 = .ok (.iconst 0, 1) := by decide +kernel
theorem dX6_placeOfNumber_1 : decode cX6_placeOfNumber 1 = .ok (.istore_n 2, 1) := by decide +kernel
theorem dX6_placeOfNumber_2 : decode cX6_placeOfNumber 2 = .ok (.iconst 0, 1) := by decide +kernel
theorem dX6_placeOfNumber_3 : decode cX6_placeOfNumber 3 = .ok (.istore_n 3, 1) := by decide +kernel
theorem dX6_placeOfNumber_4 : decode cX6_placeOfNumber 4 = .ok (.iload_n 3, 1) := by decide +kernel
theorem dX6_placeOfNumber_5 : decode cX6_placeOfNumber 5 = .ok (.aload_n 0, 1) := by decide +kernel
theorem dX6_placeOfNumber_6 : decode cX6_placeOfNumber 6 = .ok (.getfield 15, 3) := by decide +kernel
theorem dX6_placeOfNumber_9 : decode cX6_placeOfNumber 9 = .ok (.if_icmp .ge 35, 3) := by decide +kernel
theorem dX6_placeOfNumber_12 : decode cX6_placeOfNumber 12 = .ok (.aload_n 0, 1) := by decide +kernel
theorem dX6_placeOfNumber_13 : decode cX6_placeOfNumber 13 = .ok (.iload_n 3, 1) := by decide +kernel
theorem dX6_placeOfNumber_14 : decode cX6_placeOfNumber 14 = .ok (.invokevirtual 23, 3) := by decide +kernel
theorem dX6_placeOfNumber_17 : decode cX6_placeOfNumber 17 = .ok (.iload_n 1, 1) := by decide +kernel
theorem dX6_placeOfNumber_18 : decode cX6_placeOfNumber 18 = .ok (.if_icmp .ne 5, 3) := by decide +kernel
theorem dX6_placeOfNumber_21 : decode cX6_placeOfNumber 21 = .ok (.iload_n 2, 1) := by decide +kernel
theorem dX6_placeOfNumber_22 : decode cX6_placeOfNumber 22 = .ok (.ireturn, 1) := by decide +kernel
theorem dX6_placeOfNumber_23 : decode cX6_placeOfNumber 23 = .ok (.aload_n 0, 1) := by decide +kernel
theorem dX6_placeOfNumber_24 : decode cX6_placeOfNumber 24 = .ok (.iload_n 3, 1) := by decide +kernel
theorem dX6_placeOfNumber_25 : decode cX6_placeOfNumber 25 = .ok (.invokevirtual 23, 3) := by decide +kernel
theorem dX6_placeOfNumber_28 : decode cX6_placeOfNumber 28 = .ok (.invokestatic 46, 3) := by decide +kernel
theorem dX6_placeOfNumber_31 : decode cX6_placeOfNumber 31 = .ok (.iconst 1, 1) := by decide +kernel
theorem dX6_placeOfNumber_32 : decode cX6_placeOfNumber 32 = .ok (.if_icmp .ne 6, 3) := by decide +kernel
theorem dX6_placeOfNumber_35 : decode cX6_placeOfNumber 35 = .ok (.iinc 2 1, 3) := by decide +kernel
theorem dX6_placeOfNumber_38 : decode cX6_placeOfNumber 38 = .ok (.iinc 3 1, 3) := by decide +kernel
theorem dX6_placeOfNumber_41 : decode cX6_placeOfNumber 41 = .ok (.goto (-37), 3) := by decide +kernel
theorem dX6_placeOfNumber_44 : decode cX6_placeOfNumber 44 = .ok (.iconst (-1), 1) := by decide +kernel
theorem dX6_placeOfNumber_45 : decode cX6_placeOfNumber 45 = .ok (.ireturn, 1) := by decide +kernel
theorem dX6_numberAtPlace_0 : decode cX6_numberAtPlace 0 = .ok (.iload_n 1, 1) := by decide +kernel
theorem dX6_numberAtPlace_1 : decode cX6_numberAtPlace 1 = .ok (.istore_n 2, 1) := by decide +kernel
theorem dX6_numberAtPlace_2 : decode cX6_numberAtPlace 2 = .ok (.iconst 0, 1) := by decide +kernel
theorem dX6_numberAtPlace_3 : decode cX6_numberAtPlace 3 = .ok (.istore_n 3, 1) := by decide +kernel
theorem dX6_numberAtPlace_4 : decode cX6_numberAtPlace 4 = .ok (.iload_n 3, 1) := by decide +kernel
theorem dX6_numberAtPlace_5 : decode cX6_numberAtPlace 5 = .ok (.aload_n 0, 1) := by decide +kernel
theorem dX6_numberAtPlace_6 : decode cX6_numberAtPlace 6 = .ok (.getfield 15, 3) := by decide +kernel
theorem dX6_numberAtPlace_9 : decode cX6_numberAtPlace 9 = .ok (.if_icmp .ge 34, 3) := by decide +kernel
theorem dX6_numberAtPlace_12 : decode cX6_numberAtPlace 12 = .ok (.aload_n 0, 1) := by decide +kernel
theorem dX6_numberAtPlace_13 : decode cX6_numberAtPlace 13 = .ok (.iload_n 3, 1) := by decide +kernel
theorem dX6_numberAtPlace_14 : decode cX6_numberAtPlace 14 = .ok (.invokevirtual 23, 3) := by decide +kernel
theorem dX6_numberAtPlace_17 : decode cX6_numberAtPlace 17 = .ok (.invokestatic 46, 3) := by decide +kernel
theorem dX6_numberAtPlace_20 : decode cX6_numberAtPlace 20 = .ok (.iconst 1, 1) := by decide +kernel
theorem dX6_numberAtPlace_21 : decode cX6_numberAtPlace 21 = .ok (.if_icmp .ne 16, 3) := by decide +kernel
theorem dX6_numberAtPlace_24 : decode cX6_numberAtPlace 24 = .ok (.iload_n 2, 1) := by decide +kernel
theorem dX6_numberAtPlace_25 : decode cX6_numberAtPlace 25 = .ok (.ifCond .ne 9, 3) := by decide +kernel
theorem dX6_numberAtPlace_28 : decode cX6_numberAtPlace 28 = .ok (.aload_n 0, 1) := by decide +kernel
theorem dX6_numberAtPlace_29 : decode cX6_numberAtPlace 29 = .ok (.iload_n 3, 1) := by decide +kernel
theorem dX6_numberAtPlace_30 : decode cX6_numberAtPlace 30 = .ok (.invokevirtual 23, 3) := by decide +kernel
theorem dX6_numberAtPlace_33 : decode cX6_numberAtPlace 33 = .ok (.ireturn, 1) := by decide +kernel
theorem dX6_numberAtPlace_34 : decode cX6_numberAtPlace 34 = .ok (.iinc 2 (-1), 3) := by decide +kernel
theorem dX6_numberAtPlace_37 : decode cX6_numberAtPlace 37 = .ok (.iinc 3 1, 3) := by decide +kernel
theorem dX6_numberAtPlace_40 : decode cX6_numberAtPlace 40 = .ok (.goto (-36), 3) := by decide +kernel
theorem dX6_numberAtPlace_43 : decode cX6_numberAtPlace 43 = .ok (.iconst (-1), 1) := by decide +kernel
theorem dX6_numberAtPlace_44 : decode cX6_numberAtPlace 44 = .ok (.ireturn, 1) := by decide +kernel
theorem dX7_codeOf_0 : decode cX7_codeOf 0 = .ok (.iload_n 0, 1) := by decide +kernel
theorem dX7_codeOf_1 : decode cX7_codeOf 1 = .ok (.sipush 10000, 3) := by decide +kernel
theorem dX7_codeOf_4 : decode cX7_codeOf 4 = .ok (.imul, 1) := by decide +kernel
theorem dX7_codeOf_5 : decode cX7_codeOf 5 = .ok (.iload_n 1, 1) := by decide +kernel
theorem dX7_codeOf_6 : decode cX7_codeOf 6 = .ok (.iadd, 1) := by decide +kernel
theorem dX7_codeOf_7 : decode cX7_codeOf 7 = .ok (.ireturn, 1) := by decide +kernel
theorem dX7_kindIn_0 : decode cX7_kindIn 0 = .ok (.iload_n 0, 1) := by decide +kernel
theorem dX7_kindIn_1 : decode cX7_kindIn 1 = .ok (.ifCond .ge 7, 3) := by decide +kernel
theorem dX7_kindIn_4 : decode cX7_kindIn 4 = .ok (.iconst (-1), 1) := by decide +kernel
theorem dX7_kindIn_5 : decode cX7_kindIn 5 = .ok (.goto 8, 3) := by decide +kernel
theorem dX7_kindIn_8 : decode cX7_kindIn 8 = .ok (.iload_n 0, 1) := by decide +kernel
theorem dX7_kindIn_9 : decode cX7_kindIn 9 = .ok (.sipush 10000, 3) := by decide +kernel
theorem dX7_kindIn_12 : decode cX7_kindIn 12 = .ok (.idiv, 1) := by decide +kernel
theorem dX7_kindIn_13 : decode cX7_kindIn 13 = .ok (.ireturn, 1) := by decide +kernel
theorem dX7_valueIn_0 : decode cX7_valueIn 0 = .ok (.iload_n 0, 1) := by decide +kernel
theorem dX7_valueIn_1 : decode cX7_valueIn 1 = .ok (.ifCond .ge 7, 3) := by decide +kernel
theorem dX7_valueIn_4 : decode cX7_valueIn 4 = .ok (.iconst (-1), 1) := by decide +kernel
theorem dX7_valueIn_5 : decode cX7_valueIn 5 = .ok (.goto 8, 3) := by decide +kernel
theorem dX7_valueIn_8 : decode cX7_valueIn 8 = .ok (.iload_n 0, 1) := by decide +kernel
theorem dX7_valueIn_9 : decode cX7_valueIn 9 = .ok (.sipush 10000, 3) := by decide +kernel
theorem dX7_valueIn_12 : decode cX7_valueIn 12 = .ok (.irem, 1) := by decide +kernel
theorem dX7_valueIn_13 : decode cX7_valueIn 13 = .ok (.ireturn, 1) := by decide +kernel
theorem dX7_stemIn_0 : decode cX7_stemIn 0 = .ok (.iload_n 0, 1) := by decide +kernel
theorem dX7_stemIn_1 : decode cX7_stemIn 1 = .ok (.ifCond .ge 7, 3) := by decide +kernel
theorem dX7_stemIn_4 : decode cX7_stemIn 4 = .ok (.iconst (-1), 1) := by decide +kernel
theorem dX7_stemIn_5 : decode cX7_stemIn 5 = .ok (.goto 11, 3) := by decide +kernel
theorem dX7_stemIn_8 : decode cX7_stemIn 8 = .ok (.iload_n 0, 1) := by decide +kernel
theorem dX7_stemIn_9 : decode cX7_stemIn 9 = .ok (.sipush 10000, 3) := by decide +kernel
theorem dX7_stemIn_12 : decode cX7_stemIn 12 = .ok (.irem, 1) := by decide +kernel
theorem dX7_stemIn_13 : decode cX7_stemIn 13 = .ok (.bipush 10, 2) := by decide +kernel
theorem dX7_stemIn_15 : decode cX7_stemIn 15 = .ok (.idiv, 1) := by decide +kernel
theorem dX7_stemIn_16 : decode cX7_stemIn 16 = .ok (.ireturn, 1) := by decide +kernel
theorem dX7_letterOf_0 : decode cX7_letterOf 0 = .ok (.iload_n 0, 1) := by decide +kernel
theorem dX7_letterOf_1 : decode cX7_letterOf 1 = .ok (.invokestatic 11, 3) := by decide +kernel
theorem dX7_letterOf_4 : decode cX7_letterOf 4 = .ok (.tableswitch 37 0 2 #[28, 31, 34], 28) := by decide +kernel
theorem dX7_letterOf_32 : decode cX7_letterOf 32 = .ok (.bipush 119, 2) := by decide +kernel
theorem dX7_letterOf_34 : decode cX7_letterOf 34 = .ok (.ireturn, 1) := by decide +kernel
theorem dX7_letterOf_35 : decode cX7_letterOf 35 = .ok (.bipush 110, 2) := by decide +kernel
theorem dX7_letterOf_37 : decode cX7_letterOf 37 = .ok (.ireturn, 1) := by decide +kernel
theorem dX7_letterOf_38 : decode cX7_letterOf 38 = .ok (.bipush 116, 2) := by decide +kernel
theorem dX7_letterOf_40 : decode cX7_letterOf 40 = .ok (.ireturn, 1) := by decide +kernel
theorem dX7_letterOf_41 : decode cX7_letterOf 41 = .ok (.bipush 109, 2) := by decide +kernel
theorem dX7_letterOf_43 : decode cX7_letterOf 43 = .ok (.ireturn, 1) := by decide +kernel
theorem dX8_init_0 : decode cX8_init 0 = .ok (.aload_n 0, 1) := by decide +kernel
theorem dX8_init_1 : decode cX8_init 1 = .ok (.invokespecial 1, 3) := by decide +kernel
theorem dX8_init_4 : decode cX8_init 4 = .ok (.aload_n 0, 1) := by decide +kernel
theorem dX8_init_5 : decode cX8_init 5 = .ok (.new 7, 3) := by decide +kernel
theorem dX8_init_8 : decode cX8_init 8 = .ok (.dup, 1) := by decide +kernel
theorem dX8_init_9 : decode cX8_init 9 = .ok (.invokespecial 9, 3) := by decide +kernel
theorem dX8_init_12 : decode cX8_init 12 = .ok (.putfield 10, 3) := by decide +kernel
theorem dX8_init_15 : decode cX8_init 15 = .ok (.aload_n 0, 1) := by decide +kernel
theorem dX8_init_16 : decode cX8_init 16 = .ok (.new 7, 3) := by decide +kernel
theorem dX8_init_19 : decode cX8_init 19 = .ok (.dup, 1) := by decide +kernel
theorem dX8_init_20 : decode cX8_init 20 = .ok (.invokespecial 9, 3) := by decide +kernel
theorem dX8_init_23 : decode cX8_init 23 = .ok (.putfield 16, 3) := by decide +kernel
theorem dX8_init_26 : decode cX8_init 26 = .ok (.aload_n 0, 1) := by decide +kernel
theorem dX8_init_27 : decode cX8_init 27 = .ok (.iconst 1, 1) := by decide +kernel
theorem dX8_init_28 : decode cX8_init 28 = .ok (.putfield 19, 3) := by decide +kernel
theorem dX8_init_31 : decode cX8_init 31 = .ok (.return_, 1) := by decide +kernel
theorem dX9_init_0 : decode cX9_init 0 = .ok (.aload_n 0, 1) := by decide +kernel
theorem dX9_init_1 : decode cX9_init 1 = .ok (.invokespecial 3, 3) := by decide +kernel
theorem dX9_init_4 : decode cX9_init 4 = .ok (.aload_n 0, 1) := by decide +kernel
theorem dX9_init_5 : decode cX9_init 5 = .ok (.iconst 4, 1) := by decide +kernel
theorem dX9_init_6 : decode cX9_init 6 = .ok (.newarray .int, 2) := by decide +kernel
theorem dX9_init_8 : decode cX9_init 8 = .ok (.dup, 1) := by decide +kernel
theorem dX9_init_9 : decode cX9_init 9 = .ok (.iconst 0, 1) := by decide +kernel
theorem dX9_init_10 : decode cX9_init 10 = .ok (.iconst 4, 1) := by decide +kernel
theorem dX9_init_11 : decode cX9_init 11 = .ok (.iastore, 1) := by decide +kernel
theorem dX9_init_12 : decode cX9_init 12 = .ok (.dup, 1) := by decide +kernel
theorem dX9_init_13 : decode cX9_init 13 = .ok (.iconst 1, 1) := by decide +kernel
theorem dX9_init_14 : decode cX9_init 14 = .ok (.iconst 2, 1) := by decide +kernel
theorem dX9_init_15 : decode cX9_init 15 = .ok (.iastore, 1) := by decide +kernel
theorem dX9_init_16 : decode cX9_init 16 = .ok (.dup, 1) := by decide +kernel
theorem dX9_init_17 : decode cX9_init 17 = .ok (.iconst 2, 1) := by decide +kernel
theorem dX9_init_18 : decode cX9_init 18 = .ok (.iconst 1, 1) := by decide +kernel
theorem dX9_init_19 : decode cX9_init 19 = .ok (.iastore, 1) := by decide +kernel
theorem dX9_init_20 : decode cX9_init 20 = .ok (.dup, 1) := by decide +kernel
theorem dX9_init_21 : decode cX9_init 21 = .ok (.iconst 3, 1) := by decide +kernel
theorem dX9_init_22 : decode cX9_init 22 = .ok (.iconst 1, 1) := by decide +kernel
theorem dX9_init_23 : decode cX9_init 23 = .ok (.iastore, 1) := by decide +kernel
theorem dX9_init_24 : decode cX9_init 24 = .ok (.putfield 9, 3) := by decide +kernel
theorem dX9_init_27 : decode cX9_init 27 = .ok (.return_, 1) := by decide +kernel
theorem dX9_ofKind_0 : decode cX9_ofKind 0 = .ok (.iload_n 1, 1) := by decide +kernel
theorem dX9_ofKind_1 : decode cX9_ofKind 1 = .ok (.ifCond .lt 21, 3) := by decide +kernel
theorem dX9_ofKind_4 : decode cX9_ofKind 4 = .ok (.iload_n 1, 1) := by decide +kernel
theorem dX9_ofKind_5 : decode cX9_ofKind 5 = .ok (.aload_n 0, 1) := by decide +kernel
theorem dX9_ofKind_6 : decode cX9_ofKind 6 = .ok (.getfield 9, 3) := by decide +kernel
theorem dX9_ofKind_9 : decode cX9_ofKind 9 = .ok (.arraylength, 1) := by decide +kernel
theorem dX9_ofKind_10 : decode cX9_ofKind 10 = .ok (.if_icmp .ge 12, 3) := by decide +kernel
theorem dX9_ofKind_13 : decode cX9_ofKind 13 = .ok (.aload_n 0, 1) := by decide +kernel
theorem dX9_ofKind_14 : decode cX9_ofKind 14 = .ok (.getfield 9, 3) := by decide +kernel
theorem dX9_ofKind_17 : decode cX9_ofKind 17 = .ok (.iload_n 1, 1) := by decide +kernel
theorem dX9_ofKind_18 : decode cX9_ofKind 18 = .ok (.iaload, 1) := by decide +kernel
theorem dX9_ofKind_19 : decode cX9_ofKind 19 = .ok (.goto 4, 3) := by decide +kernel
theorem dX9_ofKind_22 : decode cX9_ofKind 22 = .ok (.iconst 0, 1) := by decide +kernel
theorem dX9_ofKind_23 : decode cX9_ofKind 23 = .ok (.ireturn, 1) := by decide +kernel
theorem dX9_change_0 : decode cX9_change 0 = .ok (.iload_n 1, 1) := by decide +kernel
theorem dX9_change_1 : decode cX9_change 1 = .ok (.ifCond .lt 19, 3) := by decide +kernel
theorem dX9_change_4 : decode cX9_change 4 = .ok (.iload_n 1, 1) := by decide +kernel
theorem dX9_change_5 : decode cX9_change 5 = .ok (.aload_n 0, 1) := by decide +kernel
theorem dX9_change_6 : decode cX9_change 6 = .ok (.getfield 9, 3) := by decide +kernel
theorem dX9_change_9 : decode cX9_change 9 = .ok (.arraylength, 1) := by decide +kernel
theorem dX9_change_10 : decode cX9_change 10 = .ok (.if_icmp .ge 10, 3) := by decide +kernel
theorem dX9_change_13 : decode cX9_change 13 = .ok (.aload_n 0, 1) := by decide +kernel
theorem dX9_change_14 : decode cX9_change 14 = .ok (.getfield 9, 3) := by decide +kernel
theorem dX9_change_17 : decode cX9_change 17 = .ok (.iload_n 1, 1) := by decide +kernel
theorem dX9_change_18 : decode cX9_change 18 = .ok (.iload_n 2, 1) := by decide +kernel
theorem dX9_change_19 : decode cX9_change 19 = .ok (.iastore, 1) := by decide +kernel
theorem dX9_change_20 : decode cX9_change 20 = .ok (.return_, 1) := by decide +kernel
theorem dX9_ofToken_0 : decode cX9_ofToken 0 = .ok (.aload_n 0, 1) := by decide +kernel
theorem dX9_ofToken_1 : decode cX9_ofToken 1 = .ok (.iload_n 1, 1) := by decide +kernel
theorem dX9_ofToken_2 : decode cX9_ofToken 2 = .ok (.invokestatic 15, 3) := by decide +kernel
theorem dX9_ofToken_5 : decode cX9_ofToken 5 = .ok (.invokevirtual 21, 3) := by decide +kernel
theorem dX9_ofToken_8 : decode cX9_ofToken 8 = .ok (.ireturn, 1) := by decide +kernel
theorem dX9_ofText_0 : decode cX9_ofText 0 = .ok (.iconst 0, 1) := by decide +kernel
theorem dX9_ofText_1 : decode cX9_ofText 1 = .ok (.istore_n 2, 1) := by decide +kernel
theorem dX9_ofText_2 : decode cX9_ofText 2 = .ok (.iconst 0, 1) := by decide +kernel
theorem dX9_ofText_3 : decode cX9_ofText 3 = .ok (.istore_n 3, 1) := by decide +kernel
theorem dX9_ofText_4 : decode cX9_ofText 4 = .ok (.iload_n 3, 1) := by decide +kernel
theorem dX9_ofText_5 : decode cX9_ofText 5 = .ok (.aload_n 1, 1) := by decide +kernel
theorem dX9_ofText_6 : decode cX9_ofText 6 = .ok (.invokevirtual 24, 3) := by decide +kernel
theorem dX9_ofText_9 : decode cX9_ofText 9 = .ok (.if_icmp .ge 24, 3) := by decide +kernel
theorem dX9_ofText_12 : decode cX9_ofText 12 = .ok (.iload_n 2, 1) := by decide +kernel
theorem dX9_ofText_13 : decode cX9_ofText 13 = .ok (.aload_n 0, 1) := by decide +kernel
theorem dX9_ofText_14 : decode cX9_ofText 14 = .ok (.aload_n 1, 1) := by decide +kernel
theorem dX9_ofText_15 : decode cX9_ofText 15 = .ok (.iload_n 3, 1) := by decide +kernel
theorem dX9_ofText_16 : decode cX9_ofText 16 = .ok (.invokevirtual 30, 3) := by decide +kernel
theorem dX9_ofText_19 : decode cX9_ofText 19 = .ok (.invokestatic 15, 3) := by decide +kernel
theorem dX9_ofText_22 : decode cX9_ofText 22 = .ok (.invokevirtual 21, 3) := by decide +kernel
theorem dX9_ofText_25 : decode cX9_ofText 25 = .ok (.iadd, 1) := by decide +kernel
theorem dX9_ofText_26 : decode cX9_ofText 26 = .ok (.istore_n 2, 1) := by decide +kernel
theorem dX9_ofText_27 : decode cX9_ofText 27 = .ok (.iinc 3 1, 3) := by decide +kernel
theorem dX9_ofText_30 : decode cX9_ofText 30 = .ok (.goto (-26), 3) := by decide +kernel
theorem dX9_ofText_33 : decode cX9_ofText 33 = .ok (.iload_n 2, 1) := by decide +kernel
theorem dX9_ofText_34 : decode cX9_ofText 34 = .ok (.ireturn, 1) := by decide +kernel
theorem dX9_ofReplacing_0 : decode cX9_ofReplacing 0 = .ok (.iload_n 1, 1) := by decide +kernel
theorem dX9_ofReplacing_1 : decode cX9_ofReplacing 1 = .ok (.iload_n 2, 1) := by decide +kernel
theorem dX9_ofReplacing_2 : decode cX9_ofReplacing 2 = .ok (.if_icmp .ne 5, 3) := by decide +kernel
theorem dX9_ofReplacing_5 : decode cX9_ofReplacing 5 = .ok (.iconst 0, 1) := by decide +kernel
theorem dX9_ofReplacing_6 : decode cX9_ofReplacing 6 = .ok (.ireturn, 1) := by decide +kernel
theorem dX9_ofReplacing_7 : decode cX9_ofReplacing 7 = .ok (.iload_n 1, 1) := by decide +kernel
theorem dX9_ofReplacing_8 : decode cX9_ofReplacing 8 = .ok (.invokestatic 15, 3) := by decide +kernel
theorem dX9_ofReplacing_11 : decode cX9_ofReplacing 11 = .ok (.istore_n 3, 1) := by decide +kernel
theorem dX9_ofReplacing_12 : decode cX9_ofReplacing 12 = .ok (.iload_n 3, 1) := by decide +kernel
theorem dX9_ofReplacing_13 : decode cX9_ofReplacing 13 = .ok (.iload_n 2, 1) := by decide +kernel
theorem dX9_ofReplacing_14 : decode cX9_ofReplacing 14 = .ok (.invokestatic 15, 3) := by decide +kernel
theorem dX9_ofReplacing_17 : decode cX9_ofReplacing 17 = .ok (.if_icmp .eq 6, 3) := by decide +kernel
theorem dX9_ofReplacing_20 : decode cX9_ofReplacing 20 = .ok (.ldc 33, 2) := by decide +kernel
theorem dX9_ofReplacing_22 : decode cX9_ofReplacing 22 = .ok (.ireturn, 1) := by decide +kernel
theorem dX9_ofReplacing_23 : decode cX9_ofReplacing 23 = .ok (.aload_n 0, 1) := by decide +kernel
theorem dX9_ofReplacing_24 : decode cX9_ofReplacing 24 = .ok (.iload_n 3, 1) := by decide +kernel
theorem dX9_ofReplacing_25 : decode cX9_ofReplacing 25 = .ok (.invokevirtual 21, 3) := by decide +kernel
theorem dX9_ofReplacing_28 : decode cX9_ofReplacing 28 = .ok (.istore 4, 2) := by decide +kernel
theorem dX9_ofReplacing_30 : decode cX9_ofReplacing 30 = .ok (.iload_n 3, 1) := by decide +kernel
theorem dX9_ofReplacing_31 : decode cX9_ofReplacing 31 = .ok (.iconst 1, 1) := by decide +kernel
theorem dX9_ofReplacing_32 : decode cX9_ofReplacing 32 = .ok (.if_icmp .eq 18, 3) := by decide +kernel
theorem dX9_ofReplacing_35 : decode cX9_ofReplacing 35 = .ok (.iload_n 3, 1) := by decide +kernel
theorem dX9_ofReplacing_36 : decode cX9_ofReplacing 36 = .ok (.ifCond .ne 18, 3) := by decide +kernel
theorem dX9_ofReplacing_39 : decode cX9_ofReplacing 39 = .ok (.iload_n 1, 1) := by decide +kernel
theorem dX9_ofReplacing_40 : decode cX9_ofReplacing 40 = .ok (.invokestatic 34, 3) := by decide +kernel
theorem dX9_ofReplacing_43 : decode cX9_ofReplacing 43 = .ok (.iload_n 2, 1) := by decide +kernel
theorem dX9_ofReplacing_44 : decode cX9_ofReplacing 44 = .ok (.invokestatic 34, 3) := by decide +kernel
theorem dX9_ofReplacing_47 : decode cX9_ofReplacing 47 = .ok (.if_icmp .ne 7, 3) := by decide +kernel
theorem dX9_ofReplacing_50 : decode cX9_ofReplacing 50 = .ok (.iconst 1, 1) := by decide +kernel
theorem dX9_ofReplacing_51 : decode cX9_ofReplacing 51 = .ok (.goto 4, 3) := by decide +kernel
theorem dX9_ofReplacing_54 : decode cX9_ofReplacing 54 = .ok (.iconst 0, 1) := by decide +kernel
theorem dX9_ofReplacing_55 : decode cX9_ofReplacing 55 = .ok (.istore 5, 2) := by decide +kernel
theorem dX9_ofReplacing_57 : decode cX9_ofReplacing 57 = .ok (.iload 5, 2) := by decide +kernel
theorem dX9_ofReplacing_59 : decode cX9_ofReplacing 59 = .ok (.ifCond .eq 12, 3) := by decide +kernel
theorem dX9_ofReplacing_62 : decode cX9_ofReplacing 62 = .ok (.iload 4, 2) := by decide +kernel
theorem dX9_ofReplacing_64 : decode cX9_ofReplacing 64 = .ok (.iconst 1, 1) := by decide +kernel
theorem dX9_ofReplacing_65 : decode cX9_ofReplacing 65 = .ok (.iadd, 1) := by decide +kernel
theorem dX9_ofReplacing_66 : decode cX9_ofReplacing 66 = .ok (.iconst 2, 1) := by decide +kernel
theorem dX9_ofReplacing_67 : decode cX9_ofReplacing 67 = .ok (.idiv, 1) := by decide +kernel
theorem dX9_ofReplacing_68 : decode cX9_ofReplacing 68 = .ok (.goto 5, 3) := by decide +kernel
theorem dX9_ofReplacing_71 : decode cX9_ofReplacing 71 = .ok (.iload 4, 2) := by decide +kernel
theorem dX9_ofReplacing_73 : decode cX9_ofReplacing 73 = .ok (.ireturn, 1) := by decide +kernel
theorem dX10_init_0 : decode cX10_init 0 = .ok (.aload_n 0, 1) := by decide +kernel
theorem dX10_init_1 : decode cX10_init 1 = .ok (.invokespecial 1, 3) := by decide +kernel
theorem dX10_init_4 : decode cX10_init 4 = .ok (.aload_n 0, 1) := by decide +kernel
theorem dX10_init_5 : decode cX10_init 5 = .ok (.new 7, 3) := by decide +kernel
theorem dX10_init_8 : decode cX10_init 8 = .ok (.dup, 1) := by decide +kernel
theorem dX10_init_9 : decode cX10_init 9 = .ok (.invokespecial 9, 3) := by decide +kernel
theorem dX10_init_12 : decode cX10_init 12 = .ok (.putfield 10, 3) := by decide +kernel
theorem dX10_init_15 : decode cX10_init 15 = .ok (.aload_n 0, 1) := by decide +kernel
theorem dX10_init_16 : decode cX10_init 16 = .ok (.new 7, 3) := by decide +kernel
theorem dX10_init_19 : decode cX10_init 19 = .ok (.dup, 1) := by decide +kernel
theorem dX10_init_20 : decode cX10_init 20 = .ok (.invokespecial 9, 3) := by decide +kernel
theorem dX10_init_23 : decode cX10_init 23 = .ok (.putfield 16, 3) := by decide +kernel
theorem dX10_init_26 : decode cX10_init 26 = .ok (.aload_n 0, 1) := by decide +kernel
theorem dX10_init_27 : decode cX10_init 27 = .ok (.bipush 100, 2) := by decide +kernel
theorem dX10_init_29 : decode cX10_init 29 = .ok (.newarray .boolean, 2) := by decide +kernel
theorem dX10_init_31 : decode cX10_init 31 = .ok (.putfield 19, 3) := by decide +kernel
theorem dX10_init_34 : decode cX10_init 34 = .ok (.aload_n 0, 1) := by decide +kernel
theorem dX10_init_35 : decode cX10_init 35 = .ok (.new 23, 3) := by decide +kernel
theorem dX10_init_38 : decode cX10_init 38 = .ok (.dup, 1) := by decide +kernel
theorem dX10_init_39 : decode cX10_init 39 = .ok (.invokespecial 25, 3) := by decide +kernel
theorem dX10_init_42 : decode cX10_init 42 = .ok (.putfield 26, 3) := by decide +kernel
theorem dX10_init_45 : decode cX10_init 45 = .ok (.aload_n 0, 1) := by decide +kernel
theorem dX10_init_46 : decode cX10_init 46 = .ok (.aload_n 0, 1) := by decide +kernel
theorem dX10_init_47 : decode cX10_init 47 = .ok (.getfield 26, 3) := by decide +kernel
theorem dX10_init_50 : decode cX10_init 50 = .ok (.getfield 30, 3) := by decide +kernel
theorem dX10_init_53 : decode cX10_init 53 = .ok (.putfield 34, 3) := by decide +kernel
theorem dX10_init_56 : decode cX10_init 56 = .ok (.aload_n 0, 1) := by decide +kernel
theorem dX10_init_57 : decode cX10_init 57 = .ok (.aload_n 0, 1) := by decide +kernel
theorem dX10_init_58 : decode cX10_init 58 = .ok (.getfield 34, 3) := by decide +kernel
theorem dX10_init_61 : decode cX10_init 61 = .ok (.getfield 35, 3) := by decide +kernel
theorem dX10_init_64 : decode cX10_init 64 = .ok (.putfield 41, 3) := by decide +kernel
theorem dX10_init_67 : decode cX10_init 67 = .ok (.aload_n 0, 1) := by decide +kernel
theorem dX10_init_68 : decode cX10_init 68 = .ok (.aload_n 0, 1) := by decide +kernel
theorem dX10_init_69 : decode cX10_init 69 = .ok (.getfield 26, 3) := by decide +kernel
theorem dX10_init_72 : decode cX10_init 72 = .ok (.getfield 42, 3) := by decide +kernel
theorem dX10_init_75 : decode cX10_init 75 = .ok (.putfield 46, 3) := by decide +kernel
theorem dX10_init_78 : decode cX10_init 78 = .ok (.aload_n 0, 1) := by decide +kernel
theorem dX10_init_79 : decode cX10_init 79 = .ok (.new 47, 3) := by decide +kernel
theorem dX10_init_82 : decode cX10_init 82 = .ok (.dup, 1) := by decide +kernel
theorem dX10_init_83 : decode cX10_init 83 = .ok (.invokespecial 49, 3) := by decide +kernel
theorem dX10_init_86 : decode cX10_init 86 = .ok (.putfield 50, 3) := by decide +kernel
theorem dX10_init_89 : decode cX10_init 89 = .ok (.aload_n 0, 1) := by decide +kernel
theorem dX10_init_90 : decode cX10_init 90 = .ok (.new 54, 3) := by decide +kernel
theorem dX10_init_93 : decode cX10_init 93 = .ok (.dup, 1) := by decide +kernel
theorem dX10_init_94 : decode cX10_init 94 = .ok (.invokespecial 56, 3) := by decide +kernel
theorem dX10_init_97 : decode cX10_init 97 = .ok (.putfield 57, 3) := by decide +kernel
theorem dX10_init_100 : decode cX10_init 100 = .ok (.return_, 1) := by decide +kernel
theorem dX10_word_0 : decode cX10_word 0 = .ok (.iload_n 1, 1) := by decide +kernel
theorem dX10_word_1 : decode cX10_word 1 = .ok (.bipush 100, 2) := by decide +kernel
theorem dX10_word_3 : decode cX10_word 3 = .ok (.invokestatic 61, 3) := by decide +kernel
theorem dX10_word_6 : decode cX10_word 6 = .ok (.aload_n 0, 1) := by decide +kernel
theorem dX10_word_7 : decode cX10_word 7 = .ok (.iconst 0, 1) := by decide +kernel
theorem dX10_word_8 : decode cX10_word 8 = .ok (.iload_n 1, 1) := by decide +kernel
theorem dX10_word_9 : decode cX10_word 9 = .ok (.invokevirtual 65, 3) := by decide +kernel
theorem dX10_word_12 : decode cX10_word 12 = .ok (.ireturn, 1) := by decide +kernel
theorem dX10_number_0 : decode cX10_number 0 = .ok (.iload_n 1, 1) := by decide +kernel
theorem dX10_number_1 : decode cX10_number 1 = .ok (.sipush 10000, 3) := by decide +kernel
theorem dX10_number_4 : decode cX10_number 4 = .ok (.invokestatic 61, 3) := by decide +kernel
theorem dX10_number_7 : decode cX10_number 7 = .ok (.aload_n 0, 1) := by decide +kernel
theorem dX10_number_8 : decode cX10_number 8 = .ok (.iconst 1, 1) := by decide +kernel
theorem dX10_number_9 : decode cX10_number 9 = .ok (.iload_n 1, 1) := by decide +kernel
theorem dX10_number_10 : decode cX10_number 10 = .ok (.invokevirtual 65, 3) := by decide +kernel
theorem dX10_number_13 : decode cX10_number 13 = .ok (.ireturn, 1) := by decide +kernel
theorem dX10_tag_0 : decode cX10_tag 0 = .ok (.iload_n 1, 1) := by decide +kernel
theorem dX10_tag_1 : decode cX10_tag 1 = .ok (.bipush 10, 2) := by decide +kernel
theorem dX10_tag_3 : decode cX10_tag 3 = .ok (.invokestatic 61, 3) := by decide +kernel
theorem dX10_tag_6 : decode cX10_tag 6 = .ok (.aload_n 0, 1) := by decide +kernel
theorem dX10_tag_7 : decode cX10_tag 7 = .ok (.iconst 2, 1) := by decide +kernel
theorem dX10_tag_8 : decode cX10_tag 8 = .ok (.iload_n 1, 1) := by decide +kernel
theorem dX10_tag_9 : decode cX10_tag 9 = .ok (.invokevirtual 65, 3) := by decide +kernel
theorem dX10_tag_12 : decode cX10_tag 12 = .ok (.ireturn, 1) := by decide +kernel
theorem dX10_mark_0 : decode cX10_mark 0 = .ok (.iload_n 1, 1) := by decide +kernel
theorem dX10_mark_1 : decode cX10_mark 1 = .ok (.bipush 46, 2) := by decide +kernel
theorem dX10_mark_3 : decode cX10_mark 3 = .ok (.if_icmp .eq 37, 3) := by decide +kernel
theorem dX10_mark_6 : decode cX10_mark 6 = .ok (.iload_n 1, 1) := by decide +kernel
theorem dX10_mark_7 : decode cX10_mark 7 = .ok (.bipush 33, 2) := by decide +kernel
theorem dX10_mark_9 : decode cX10_mark 9 = .ok (.if_icmp .eq 31, 3) := by decide +kernel
theorem dX10_mark_12 : decode cX10_mark 12 = .ok (.iload_n 1, 1) := by decide +kernel
theorem dX10_mark_13 : decode cX10_mark 13 = .ok (.bipush 63, 2) := by decide +kernel
theorem dX10_mark_15 : decode cX10_mark 15 = .ok (.if_icmp .eq 25, 3) := by decide +kernel
theorem dX10_mark_18 : decode cX10_mark 18 = .ok (.iload_n 1, 1) := by decide +kernel
theorem dX10_mark_19 : decode cX10_mark 19 = .ok (.bipush 44, 2) := by decide +kernel
theorem dX10_mark_21 : decode cX10_mark 21 = .ok (.if_icmp .eq 19, 3) := by decide +kernel
theorem dX10_mark_24 : decode cX10_mark 24 = .ok (.iload_n 1, 1) := by decide +kernel
theorem dX10_mark_25 : decode cX10_mark 25 = .ok (.bipush 59, 2) := by decide +kernel
theorem dX10_mark_27 : decode cX10_mark 27 = .ok (.if_icmp .eq 13, 3) := by decide +kernel
theorem dX10_mark_30 : decode cX10_mark 30 = .ok (.new 69, 3) := by decide +kernel
theorem dX10_mark_33 : decode cX10_mark 33 = .ok (.dup, 1) := by decide +kernel
theorem dX10_mark_34 : decode cX10_mark 34 = .ok (.ldc 71, 2) := by decide +kernel
theorem dX10_mark_36 : decode cX10_mark 36 = .ok (.invokespecial 73, 3) := by decide +kernel
theorem dX10_mark_39 : decode cX10_mark 39 = .ok (.athrow, 1) := by decide +kernel
theorem dX10_mark_40 : decode cX10_mark 40 = .ok (.aload_n 0, 1) := by decide +kernel
theorem dX10_mark_41 : decode cX10_mark 41 = .ok (.iconst 3, 1) := by decide +kernel
theorem dX10_mark_42 : decode cX10_mark 42 = .ok (.iload_n 1, 1) := by decide +kernel
theorem dX10_mark_43 : decode cX10_mark 43 = .ok (.invokevirtual 65, 3) := by decide +kernel
theorem dX10_mark_46 : decode cX10_mark 46 = .ok (.ireturn, 1) := by decide +kernel
theorem dX10_clear_0 : decode cX10_clear 0 = .ok (.aload_n 0, 1) := by decide +kernel
theorem dX10_clear_1 : decode cX10_clear 1 = .ok (.getfield 10, 3) := by decide +kernel
theorem dX10_clear_4 : decode cX10_clear 4 = .ok (.invokevirtual 76, 3) := by decide +kernel
theorem dX10_clear_7 : decode cX10_clear 7 = .ok (.istore_n 1, 1) := by decide +kernel
theorem dX10_clear_8 : decode cX10_clear 8 = .ok (.aload_n 0, 1) := by decide +kernel
theorem dX10_clear_9 : decode cX10_clear 9 = .ok (.getfield 10, 3) := by decide +kernel
theorem dX10_clear_12 : decode cX10_clear 12 = .ok (.invokevirtual 80, 3) := by decide +kernel
theorem dX10_clear_15 : decode cX10_clear 15 = .ok (.iload_n 1, 1) := by decide +kernel
theorem dX10_clear_16 : decode cX10_clear 16 = .ok (.ireturn, 1) := by decide +kernel
theorem dX10_setWeights_0 : decode cX10_setWeights 0 = .ok (.iload_n 1, 1) := by decide +kernel
theorem dX10_setWeights_1 : decode cX10_setWeights 1 = .ok (.invokestatic 83, 3) := by decide +kernel
theorem dX10_setWeights_4 : decode cX10_setWeights 4 = .ok (.iload_n 2, 1) := by decide +kernel
theorem dX10_setWeights_5 : decode cX10_setWeights 5 = .ok (.invokestatic 83, 3) := by decide +kernel
theorem dX10_setWeights_8 : decode cX10_setWeights 8 = .ok (.iload_n 3, 1) := by decide +kernel
theorem dX10_setWeights_9 : decode cX10_setWeights 9 = .ok (.invokestatic 83, 3) := by decide +kernel
theorem dX10_setWeights_12 : decode cX10_setWeights 12 = .ok (.iload 4, 2) := by decide +kernel
theorem dX10_setWeights_14 : decode cX10_setWeights 14 = .ok (.invokestatic 83, 3) := by decide +kernel
theorem dX10_setWeights_17 : decode cX10_setWeights 17 = .ok (.aload_n 0, 1) := by decide +kernel
theorem dX10_setWeights_18 : decode cX10_setWeights 18 = .ok (.getfield 41, 3) := by decide +kernel
theorem dX10_setWeights_21 : decode cX10_setWeights 21 = .ok (.iconst 0, 1) := by decide +kernel
theorem dX10_setWeights_22 : decode cX10_setWeights 22 = .ok (.invokevirtual 87, 3) := by decide +kernel
theorem dX10_setWeights_25 : decode cX10_setWeights 25 = .ok (.istore 5, 2) := by decide +kernel
theorem dX10_setWeights_27 : decode cX10_setWeights 27 = .ok (.aload_n 0, 1) := by decide +kernel
theorem dX10_setWeights_28 : decode cX10_setWeights 28 = .ok (.getfield 41, 3) := by decide +kernel
theorem dX10_setWeights_31 : decode cX10_setWeights 31 = .ok (.iconst 0, 1) := by decide +kernel
theorem dX10_setWeights_32 : decode cX10_setWeights 32 = .ok (.iload_n 1, 1) := by decide +kernel
theorem dX10_setWeights_33 : decode cX10_setWeights 33 = .ok (.invokevirtual 93, 3) := by decide +kernel
theorem dX10_setWeights_36 : decode cX10_setWeights 36 = .ok (.aload_n 0, 1) := by decide +kernel
theorem dX10_setWeights_37 : decode cX10_setWeights 37 = .ok (.getfield 41, 3) := by decide +kernel
theorem dX10_setWeights_40 : decode cX10_setWeights 40 = .ok (.iconst 1, 1) := by decide +kernel
theorem dX10_setWeights_41 : decode cX10_setWeights 41 = .ok (.iload_n 2, 1) := by decide +kernel
theorem dX10_setWeights_42 : decode cX10_setWeights 42 = .ok (.invokevirtual 93, 3) := by decide +kernel
theorem dX10_setWeights_45 : decode cX10_setWeights 45 = .ok (.aload_n 0, 1) := by decide +kernel
theorem dX10_setWeights_46 : decode cX10_setWeights 46 = .ok (.getfield 41, 3) := by decide +kernel
theorem dX10_setWeights_49 : decode cX10_setWeights 49 = .ok (.iconst 2, 1) := by decide +kernel
theorem dX10_setWeights_50 : decode cX10_setWeights 50 = .ok (.iload_n 3, 1) := by decide +kernel
theorem dX10_setWeights_51 : decode cX10_setWeights 51 = .ok (.invokevirtual 93, 3) := by decide +kernel
theorem dX10_setWeights_54 : decode cX10_setWeights 54 = .ok (.aload_n 0, 1) := by decide +kernel
theorem dX10_setWeights_55 : decode cX10_setWeights 55 = .ok (.getfield 41, 3) := by decide +kernel
theorem dX10_setWeights_58 : decode cX10_setWeights 58 = .ok (.iconst 3, 1) := by decide +kernel
theorem dX10_setWeights_59 : decode cX10_setWeights 59 = .ok (.iload 4, 2) := by decide +kernel
theorem dX10_setWeights_61 : decode cX10_setWeights 61 = .ok (.invokevirtual 93, 3) := by decide +kernel
theorem dX10_setWeights_64 : decode cX10_setWeights 64 = .ok (.iload 5, 2) := by decide +kernel
theorem dX10_setWeights_66 : decode cX10_setWeights 66 = .ok (.ireturn, 1) := by decide +kernel
theorem dX10_addAbbreviation_0 : decode cX10_addAbbreviation 0 = .ok (.iload_n 1, 1) := by decide +kernel
theorem dX10_addAbbreviation_1 : decode cX10_addAbbreviation 1 = .ok (.bipush 100, 2) := by decide +kernel
theorem dX10_addAbbreviation_3 : decode cX10_addAbbreviation 3 = .ok (.invokestatic 61, 3) := by decide +kernel
theorem dX10_addAbbreviation_6 : decode cX10_addAbbreviation 6 = .ok (.aload_n 0, 1) := by decide +kernel
theorem dX10_addAbbreviation_7 : decode cX10_addAbbreviation 7 = .ok (.getfield 19, 3) := by decide +kernel
theorem dX10_addAbbreviation_10 : decode cX10_addAbbreviation 10 = .ok (.iload_n 1, 1) := by decide +kernel
theorem dX10_addAbbreviation_11 : decode cX10_addAbbreviation 11 = .ok (.baload, 1) := by decide +kernel
theorem dX10_addAbbreviation_12 : decode cX10_addAbbreviation 12 = .ok (.ifCond .ne 7, 3) := by decide +kernel
theorem dX10_addAbbreviation_15 : decode cX10_addAbbreviation 15 = .ok (.iconst 1, 1) := by decide +kernel
theorem dX10_addAbbreviation_16 : decode cX10_addAbbreviation 16 = .ok (.goto 4, 3) := by decide +kernel
theorem dX10_addAbbreviation_19 : decode cX10_addAbbreviation 19 = .ok (.iconst 0, 1) := by decide +kernel
theorem dX10_addAbbreviation_20 : decode cX10_addAbbreviation 20 = .ok (.istore_n 2, 1) := by decide +kernel
theorem dX10_addAbbreviation_21 : decode cX10_addAbbreviation 21 = .ok (.aload_n 0, 1) := by decide +kernel
theorem dX10_addAbbreviation_22 : decode cX10_addAbbreviation 22 = .ok (.getfield 19, 3) := by decide +kernel
theorem dX10_addAbbreviation_25 : decode cX10_addAbbreviation 25 = .ok (.iload_n 1, 1) := by decide +kernel
theorem dX10_addAbbreviation_26 : decode cX10_addAbbreviation 26 = .ok (.iconst 1, 1) := by decide +kernel
theorem dX10_addAbbreviation_27 : decode cX10_addAbbreviation 27 = .ok (.bastore, 1) := by decide +kernel
theorem dX10_addAbbreviation_28 : decode cX10_addAbbreviation 28 = .ok (.iload_n 2, 1) := by decide +kernel
theorem dX10_addAbbreviation_29 : decode cX10_addAbbreviation 29 = .ok (.ireturn, 1) := by decide +kernel
theorem dX10_addTerm_0 : decode cX10_addTerm 0 = .ok (.iload_n 1, 1) := by decide +kernel
theorem dX10_addTerm_1 : decode cX10_addTerm 1 = .ok (.bipush 100, 2) := by decide +kernel
theorem dX10_addTerm_3 : decode cX10_addTerm 3 = .ok (.invokestatic 61, 3) := by decide +kernel
theorem dX10_addTerm_6 : decode cX10_addTerm 6 = .ok (.iload_n 2, 1) := by decide +kernel
theorem dX10_addTerm_7 : decode cX10_addTerm 7 = .ok (.bipush 100, 2) := by decide +kernel
theorem dX10_addTerm_9 : decode cX10_addTerm 9 = .ok (.invokestatic 61, 3) := by decide +kernel
theorem dX10_addTerm_12 : decode cX10_addTerm 12 = .ok (.aload_n 0, 1) := by decide +kernel
theorem dX10_addTerm_13 : decode cX10_addTerm 13 = .ok (.getfield 46, 3) := by decide +kernel
theorem dX10_addTerm_16 : decode cX10_addTerm 16 = .ok (.iload_n 1, 1) := by decide +kernel
theorem dX10_addTerm_17 : decode cX10_addTerm 17 = .ok (.iload_n 2, 1) := by decide +kernel
theorem dX10_addTerm_18 : decode cX10_addTerm 18 = .ok (.invokevirtual 96, 3) := by decide +kernel
theorem dX10_addTerm_21 : decode cX10_addTerm 21 = .ok (.ifCond .eq 13, 3) := by decide +kernel
theorem dX10_addTerm_24 : decode cX10_addTerm 24 = .ok (.new 102, 3) := by decide +kernel
theorem dX10_addTerm_27 : decode cX10_addTerm 27 = .ok (.dup, 1) := by decide +kernel
theorem dX10_addTerm_28 : decode cX10_addTerm 28 = .ok (.ldc 104, 2) := by decide +kernel
theorem dX10_addTerm_30 : decode cX10_addTerm 30 = .ok (.invokespecial 106, 3) := by decide +kernel
theorem dX10_addTerm_33 : decode cX10_addTerm 33 = .ok (.athrow, 1) := by decide +kernel
theorem dX10_addTerm_34 : decode cX10_addTerm 34 = .ok (.aload_n 0, 1) := by decide +kernel
theorem dX10_addTerm_35 : decode cX10_addTerm 35 = .ok (.getfield 46, 3) := by decide +kernel
theorem dX10_addTerm_38 : decode cX10_addTerm 38 = .ok (.invokevirtual 107, 3) := by decide +kernel
theorem dX10_addTerm_41 : decode cX10_addTerm 41 = .ok (.bipush 20, 2) := by decide +kernel
theorem dX10_addTerm_43 : decode cX10_addTerm 43 = .ok (.if_icmp .lt 13, 3) := by decide +kernel
theorem dX10_addTerm_46 : decode cX10_addTerm 46 = .ok (.new 108, 3) := by decide +kernel
theorem dX10_addTerm_49 : decode cX10_addTerm 49 = .ok (.dup, 1) := by decide +kernel
theorem dX10_addTerm_50 : decode cX10_addTerm 50 = .ok (.ldc 110, 2) := by decide +kernel
theorem dX10_addTerm_52 : decode cX10_addTerm 52 = .ok (.invokespecial 112, 3) := by decide +kernel
theorem dX10_addTerm_55 : decode cX10_addTerm 55 = .ok (.athrow, 1) := by decide +kernel
theorem dX10_addTerm_56 : decode cX10_addTerm 56 = .ok (.aload_n 0, 1) := by decide +kernel
theorem dX10_addTerm_57 : decode cX10_addTerm 57 = .ok (.getfield 46, 3) := by decide +kernel
theorem dX10_addTerm_60 : decode cX10_addTerm 60 = .ok (.iload_n 1, 1) := by decide +kernel
theorem dX10_addTerm_61 : decode cX10_addTerm 61 = .ok (.iload_n 2, 1) := by decide +kernel
theorem dX10_addTerm_62 : decode cX10_addTerm 62 = .ok (.invokevirtual 113, 3) := by decide +kernel
theorem dX10_addTerm_65 : decode cX10_addTerm 65 = .ok (.aload_n 0, 1) := by decide +kernel
theorem dX10_addTerm_66 : decode cX10_addTerm 66 = .ok (.getfield 46, 3) := by decide +kernel
theorem dX10_addTerm_69 : decode cX10_addTerm 69 = .ok (.invokevirtual 107, 3) := by decide +kernel
theorem dX10_addTerm_72 : decode cX10_addTerm 72 = .ok (.ireturn, 1) := by decide +kernel
theorem dX10_takeSource_0 : decode cX10_takeSource 0 = .ok (.aload_n 0, 1) := by decide +kernel
theorem dX10_takeSource_1 : decode cX10_takeSource 1 = .ok (.invokevirtual 116, 3) := by decide +kernel
theorem dX10_takeSource_4 : decode cX10_takeSource 4 = .ok (.aload_n 0, 1) := by decide +kernel
theorem dX10_takeSource_5 : decode cX10_takeSource 5 = .ok (.getfield 16, 3) := by decide +kernel
theorem dX10_takeSource_8 : decode cX10_takeSource 8 = .ok (.aload_n 0, 1) := by decide +kernel
theorem dX10_takeSource_9 : decode cX10_takeSource 9 = .ok (.getfield 10, 3) := by decide +kernel
theorem dX10_takeSource_12 : decode cX10_takeSource 12 = .ok (.invokevirtual 119, 3) := by decide +kernel
theorem dX10_takeSource_15 : decode cX10_takeSource 15 = .ok (.aload_n 0, 1) := by decide +kernel
theorem dX10_takeSource_16 : decode cX10_takeSource 16 = .ok (.getfield 16, 3) := by decide +kernel
theorem dX10_takeSource_19 : decode cX10_takeSource 19 = .ok (.invokevirtual 76, 3) := by decide +kernel
theorem dX10_takeSource_22 : decode cX10_takeSource 22 = .ok (.ireturn, 1) := by decide +kernel
theorem dX10_addUnit_0 : decode cX10_addUnit 0 = .ok (.aload_n 0, 1) := by decide +kernel
theorem dX10_addUnit_1 : decode cX10_addUnit 1 = .ok (.getfield 16, 3) := by decide +kernel
theorem dX10_addUnit_4 : decode cX10_addUnit 4 = .ok (.invokevirtual 76, 3) := by decide +kernel
theorem dX10_addUnit_7 : decode cX10_addUnit 7 = .ok (.ifCond .ne 13, 3) := by decide +kernel
theorem dX10_addUnit_10 : decode cX10_addUnit 10 = .ok (.new 123, 3) := by decide +kernel
theorem dX10_addUnit_13 : decode cX10_addUnit 13 = .ok (.dup, 1) := by decide +kernel
theorem dX10_addUnit_14 : decode cX10_addUnit 14 = .ok (.ldc 125, 2) := by decide +kernel
theorem dX10_addUnit_16 : decode cX10_addUnit 16 = .ok (.invokespecial 127, 3) := by decide +kernel
theorem dX10_addUnit_19 : decode cX10_addUnit 19 = .ok (.athrow, 1) := by decide +kernel
theorem dX10_addUnit_20 : decode cX10_addUnit 20 = .ok (.aload_n 0, 1) := by decide +kernel
theorem dX10_addUnit_21 : decode cX10_addUnit 21 = .ok (.invokevirtual 116, 3) := by decide +kernel
theorem dX10_addUnit_24 : decode cX10_addUnit 24 = .ok (.aload_n 0, 1) := by decide +kernel
theorem dX10_addUnit_25 : decode cX10_addUnit 25 = .ok (.invokevirtual 128, 3) := by decide +kernel
theorem dX10_addUnit_28 : decode cX10_addUnit 28 = .ok (.aload_n 0, 1) := by decide +kernel
theorem dX10_addUnit_29 : decode cX10_addUnit 29 = .ok (.getfield 26, 3) := by decide +kernel
theorem dX10_addUnit_32 : decode cX10_addUnit 32 = .ok (.aload_n 0, 1) := by decide +kernel
theorem dX10_addUnit_33 : decode cX10_addUnit 33 = .ok (.getfield 16, 3) := by decide +kernel
theorem dX10_addUnit_36 : decode cX10_addUnit 36 = .ok (.aload_n 0, 1) := by decide +kernel
theorem dX10_addUnit_37 : decode cX10_addUnit 37 = .ok (.getfield 10, 3) := by decide +kernel
theorem dX10_addUnit_40 : decode cX10_addUnit 40 = .ok (.invokevirtual 131, 3) := by decide +kernel
theorem dX10_addUnit_43 : decode cX10_addUnit 43 = .ok (.istore_n 1, 1) := by decide +kernel
theorem dX10_addUnit_44 : decode cX10_addUnit 44 = .ok (.aload_n 0, 1) := by decide +kernel
theorem dX10_addUnit_45 : decode cX10_addUnit 45 = .ok (.getfield 16, 3) := by decide +kernel
theorem dX10_addUnit_48 : decode cX10_addUnit 48 = .ok (.invokevirtual 80, 3) := by decide +kernel
theorem dX10_addUnit_51 : decode cX10_addUnit 51 = .ok (.aload_n 0, 1) := by decide +kernel
theorem dX10_addUnit_52 : decode cX10_addUnit 52 = .ok (.getfield 10, 3) := by decide +kernel
theorem dX10_addUnit_55 : decode cX10_addUnit 55 = .ok (.invokevirtual 80, 3) := by decide +kernel
theorem dX10_addUnit_58 : decode cX10_addUnit 58 = .ok (.iload_n 1, 1) := by decide +kernel
theorem dX10_addUnit_59 : decode cX10_addUnit 59 = .ok (.ireturn, 1) := by decide +kernel
theorem dX10_correct_0 : decode cX10_correct 0 = .ok (.aload_n 0, 1) := by decide +kernel
theorem dX10_correct_1 : decode cX10_correct 1 = .ok (.iload_n 1, 1) := by decide +kernel
theorem dX10_correct_2 : decode cX10_correct 2 = .ok (.invokevirtual 134, 3) := by decide +kernel
theorem dX10_correct_5 : decode cX10_correct 5 = .ok (.astore_n 2, 1) := by decide +kernel
theorem dX10_correct_6 : decode cX10_correct 6 = .ok (.aload_n 0, 1) := by decide +kernel
theorem dX10_correct_7 : decode cX10_correct 7 = .ok (.invokevirtual 116, 3) := by decide +kernel
theorem dX10_correct_10 : decode cX10_correct 10 = .ok (.aload_n 2, 1) := by decide +kernel
theorem dX10_correct_11 : decode cX10_correct 11 = .ok (.getfield 138, 3) := by decide +kernel
theorem dX10_correct_14 : decode cX10_correct 14 = .ok (.invokevirtual 76, 3) := by decide +kernel
theorem dX10_correct_17 : decode cX10_correct 17 = .ok (.istore_n 3, 1) := by decide +kernel
theorem dX10_correct_18 : decode cX10_correct 18 = .ok (.aload_n 2, 1) := by decide +kernel
theorem dX10_correct_19 : decode cX10_correct 19 = .ok (.getfield 138, 3) := by decide +kernel
theorem dX10_correct_22 : decode cX10_correct 22 = .ok (.aload_n 0, 1) := by decide +kernel
theorem dX10_correct_23 : decode cX10_correct 23 = .ok (.getfield 10, 3) := by decide +kernel
theorem dX10_correct_26 : decode cX10_correct 26 = .ok (.invokevirtual 119, 3) := by decide +kernel
theorem dX10_correct_29 : decode cX10_correct 29 = .ok (.iload_n 3, 1) := by decide +kernel
theorem dX10_correct_30 : decode cX10_correct 30 = .ok (.ireturn, 1) := by decide +kernel
theorem dX10_withdraw_0 : decode cX10_withdraw 0 = .ok (.aload_n 0, 1) := by decide +kernel
theorem dX10_withdraw_1 : decode cX10_withdraw 1 = .ok (.iload_n 1, 1) := by decide +kernel
theorem dX10_withdraw_2 : decode cX10_withdraw 2 = .ok (.invokevirtual 134, 3) := by decide +kernel
theorem dX10_withdraw_5 : decode cX10_withdraw 5 = .ok (.astore_n 2, 1) := by decide +kernel
theorem dX10_withdraw_6 : decode cX10_withdraw 6 = .ok (.aload_n 2, 1) := by decide +kernel
theorem dX10_withdraw_7 : decode cX10_withdraw 7 = .ok (.iconst 0, 1) := by decide +kernel
theorem dX10_withdraw_8 : decode cX10_withdraw 8 = .ok (.putfield 143, 3) := by decide +kernel
theorem dX10_withdraw_11 : decode cX10_withdraw 11 = .ok (.aload_n 0, 1) := by decide +kernel
theorem dX10_withdraw_12 : decode cX10_withdraw 12 = .ok (.getfield 26, 3) := by decide +kernel
theorem dX10_withdraw_15 : decode cX10_withdraw 15 = .ok (.invokevirtual 147, 3) := by decide +kernel
theorem dX10_withdraw_18 : decode cX10_withdraw 18 = .ok (.ireturn, 1) := by decide +kernel
theorem dX10_units_0 : decode cX10_units 0 = .ok (.aload_n 0, 1) := by decide +kernel
theorem dX10_units_1 : decode cX10_units 1 = .ok (.getfield 26, 3) := by decide +kernel
theorem dX10_units_4 : decode cX10_units 4 = .ok (.invokevirtual 150, 3) := by decide +kernel
theorem dX10_units_7 : decode cX10_units 7 = .ok (.ireturn, 1) := by decide +kernel
theorem dX10_isLive_0 : decode cX10_isLive 0 = .ok (.aload_n 0, 1) := by decide +kernel
theorem dX10_isLive_1 : decode cX10_isLive 1 = .ok (.iload_n 1, 1) := by decide +kernel
theorem dX10_isLive_2 : decode cX10_isLive 2 = .ok (.invokevirtual 151, 3) := by decide +kernel
theorem dX10_isLive_5 : decode cX10_isLive 5 = .ok (.getfield 143, 3) := by decide +kernel
theorem dX10_isLive_8 : decode cX10_isLive 8 = .ok (.ireturn, 1) := by decide +kernel
theorem dX10_cost_0 : decode cX10_cost 0 = .ok (.aload_n 0, 1) := by decide +kernel
theorem dX10_cost_1 : decode cX10_cost 1 = .ok (.iload_n 1, 1) := by decide +kernel
theorem dX10_cost_2 : decode cX10_cost 2 = .ok (.invokevirtual 154, 3) := by decide +kernel
theorem dX10_cost_5 : decode cX10_cost 5 = .ok (.astore_n 2, 1) := by decide +kernel
theorem dX10_cost_6 : decode cX10_cost 6 = .ok (.aload_n 0, 1) := by decide +kernel
theorem dX10_cost_7 : decode cX10_cost 7 = .ok (.getfield 34, 3) := by decide +kernel
theorem dX10_cost_10 : decode cX10_cost 10 = .ok (.aload_n 0, 1) := by decide +kernel
theorem dX10_cost_11 : decode cX10_cost 11 = .ok (.getfield 10, 3) := by decide +kernel
theorem dX10_cost_14 : decode cX10_cost 14 = .ok (.aload_n 2, 1) := by decide +kernel
theorem dX10_cost_15 : decode cX10_cost 15 = .ok (.getfield 157, 3) := by decide +kernel
theorem dX10_cost_18 : decode cX10_cost 18 = .ok (.invokevirtual 160, 3) := by decide +kernel
theorem dX10_cost_21 : decode cX10_cost 21 = .ok (.ireturn, 1) := by decide +kernel
theorem dX10_costFromEnds_0 : decode cX10_costFromEnds 0 = .ok (.aload_n 0, 1) := by decide +kernel
theorem dX10_costFromEnds_1 : decode cX10_costFromEnds 1 = .ok (.iload_n 1, 1) := by decide +kernel
theorem dX10_costFromEnds_2 : decode cX10_costFromEnds 2 = .ok (.invokevirtual 154, 3) := by decide +kernel
theorem dX10_costFromEnds_5 : decode cX10_costFromEnds 5 = .ok (.astore_n 2, 1) := by decide +kernel
theorem dX10_costFromEnds_6 : decode cX10_costFromEnds 6 = .ok (.aload_n 0, 1) := by decide +kernel
theorem dX10_costFromEnds_7 : decode cX10_costFromEnds 7 = .ok (.getfield 34, 3) := by decide +kernel
theorem dX10_costFromEnds_10 : decode cX10_costFromEnds 10 = .ok (.aload_n 0, 1) := by decide +kernel
theorem dX10_costFromEnds_11 : decode cX10_costFromEnds 11 = .ok (.getfield 10, 3) := by decide +kernel
theorem dX10_costFromEnds_14 : decode cX10_costFromEnds 14 = .ok (.aload_n 2, 1) := by decide +kernel
theorem dX10_costFromEnds_15 : decode cX10_costFromEnds 15 = .ok (.getfield 157, 3) := by decide +kernel
theorem dX10_costFromEnds_18 : decode cX10_costFromEnds 18 = .ok (.invokevirtual 163, 3) := by decide +kernel
theorem dX10_costFromEnds_21 : decode cX10_costFromEnds 21 = .ok (.ireturn, 1) := by decide +kernel
theorem dX10_likeness_0 : decode cX10_likeness 0 = .ok (.aload_n 0, 1) := by decide +kernel
theorem dX10_likeness_1 : decode cX10_likeness 1 = .ok (.iload_n 1, 1) := by decide +kernel
theorem dX10_likeness_2 : decode cX10_likeness 2 = .ok (.invokevirtual 154, 3) := by decide +kernel
theorem dX10_likeness_5 : decode cX10_likeness 5 = .ok (.astore_n 2, 1) := by decide +kernel
theorem dX10_likeness_6 : decode cX10_likeness 6 = .ok (.aload_n 0, 1) := by decide +kernel
theorem dX10_likeness_7 : decode cX10_likeness 7 = .ok (.getfield 34, 3) := by decide +kernel
theorem dX10_likeness_10 : decode cX10_likeness 10 = .ok (.aload_n 0, 1) := by decide +kernel
theorem dX10_likeness_11 : decode cX10_likeness 11 = .ok (.getfield 10, 3) := by decide +kernel
theorem dX10_likeness_14 : decode cX10_likeness 14 = .ok (.aload_n 2, 1) := by decide +kernel
theorem dX10_likeness_15 : decode cX10_likeness 15 = .ok (.getfield 157, 3) := by decide +kernel
theorem dX10_likeness_18 : decode cX10_likeness 18 = .ok (.invokevirtual 166, 3) := by decide +kernel
theorem dX10_likeness_21 : decode cX10_likeness 21 = .ok (.ireturn, 1) := by decide +kernel
theorem dX10_missing_0 : decode cX10_missing 0 = .ok (.aload_n 0, 1) := by decide +kernel
theorem dX10_missing_1 : decode cX10_missing 1 = .ok (.iload_n 1, 1) := by decide +kernel
theorem dX10_missing_2 : decode cX10_missing 2 = .ok (.invokevirtual 154, 3) := by decide +kernel
theorem dX10_missing_5 : decode cX10_missing 5 = .ok (.astore_n 2, 1) := by decide +kernel
theorem dX10_missing_6 : decode cX10_missing 6 = .ok (.aload_n 0, 1) := by decide +kernel
theorem dX10_missing_7 : decode cX10_missing 7 = .ok (.getfield 46, 3) := by decide +kernel
theorem dX10_missing_10 : decode cX10_missing 10 = .ok (.aload_n 0, 1) := by decide +kernel
theorem dX10_missing_11 : decode cX10_missing 11 = .ok (.getfield 10, 3) := by decide +kernel
theorem dX10_missing_14 : decode cX10_missing 14 = .ok (.aload_n 2, 1) := by decide +kernel
theorem dX10_missing_15 : decode cX10_missing 15 = .ok (.getfield 138, 3) := by decide +kernel
theorem dX10_missing_18 : decode cX10_missing 18 = .ok (.invokevirtual 169, 3) := by decide +kernel
theorem dX10_missing_21 : decode cX10_missing 21 = .ok (.ireturn, 1) := by decide +kernel
theorem dX10_score_0 : decode cX10_score 0 = .ok (.aload_n 0, 1) := by decide +kernel
theorem dX10_score_1 : decode cX10_score 1 = .ok (.iload_n 1, 1) := by decide +kernel
theorem dX10_score_2 : decode cX10_score 2 = .ok (.invokevirtual 154, 3) := by decide +kernel
theorem dX10_score_5 : decode cX10_score 5 = .ok (.astore_n 2, 1) := by decide +kernel
theorem dX10_score_6 : decode cX10_score 6 = .ok (.aload_n 0, 1) := by decide +kernel
theorem dX10_score_7 : decode cX10_score 7 = .ok (.getfield 26, 3) := by decide +kernel
theorem dX10_score_10 : decode cX10_score 10 = .ok (.aload_n 0, 1) := by decide +kernel
theorem dX10_score_11 : decode cX10_score 11 = .ok (.getfield 10, 3) := by decide +kernel
theorem dX10_score_14 : decode cX10_score 14 = .ok (.aload_n 2, 1) := by decide +kernel
theorem dX10_score_15 : decode cX10_score 15 = .ok (.invokevirtual 172, 3) := by decide +kernel
theorem dX10_score_18 : decode cX10_score 18 = .ok (.ireturn, 1) := by decide +kernel
theorem dX10_sharedPairs_0 : decode cX10_sharedPairs 0 = .ok (.aload_n 0, 1) := by decide +kernel
theorem dX10_sharedPairs_1 : decode cX10_sharedPairs 1 = .ok (.iload_n 1, 1) := by decide +kernel
theorem dX10_sharedPairs_2 : decode cX10_sharedPairs 2 = .ok (.invokevirtual 154, 3) := by decide +kernel
theorem dX10_sharedPairs_5 : decode cX10_sharedPairs 5 = .ok (.astore_n 2, 1) := by decide +kernel
theorem dX10_sharedPairs_6 : decode cX10_sharedPairs 6 = .ok (.aload_n 0, 1) := by decide +kernel
theorem dX10_sharedPairs_7 : decode cX10_sharedPairs 7 = .ok (.getfield 50, 3) := by decide +kernel
theorem dX10_sharedPairs_10 : decode cX10_sharedPairs 10 = .ok (.aload_n 0, 1) := by decide +kernel
theorem dX10_sharedPairs_11 : decode cX10_sharedPairs 11 = .ok (.getfield 10, 3) := by decide +kernel
theorem dX10_sharedPairs_14 : decode cX10_sharedPairs 14 = .ok (.aload_n 2, 1) := by decide +kernel
theorem dX10_sharedPairs_15 : decode cX10_sharedPairs 15 = .ok (.getfield 157, 3) := by decide +kernel
theorem dX10_sharedPairs_18 : decode cX10_sharedPairs 18 = .ok (.invokevirtual 176, 3) := by decide +kernel
theorem dX10_sharedPairs_21 : decode cX10_sharedPairs 21 = .ok (.ireturn, 1) := by decide +kernel
theorem dX10_best_0 : decode cX10_best 0 = .ok (.aload_n 0, 1) := by decide +kernel
theorem dX10_best_1 : decode cX10_best 1 = .ok (.invokevirtual 116, 3) := by decide +kernel
theorem dX10_best_4 : decode cX10_best 4 = .ok (.aload_n 0, 1) := by decide +kernel
theorem dX10_best_5 : decode cX10_best 5 = .ok (.getfield 26, 3) := by decide +kernel
theorem dX10_best_8 : decode cX10_best 8 = .ok (.aload_n 0, 1) := by decide +kernel
theorem dX10_best_9 : decode cX10_best 9 = .ok (.getfield 10, 3) := by decide +kernel
theorem dX10_best_12 : decode cX10_best 12 = .ok (.invokevirtual 179, 3) := by decide +kernel
theorem dX10_best_15 : decode cX10_best 15 = .ok (.invokestatic 183, 3) := by decide +kernel
theorem dX10_best_18 : decode cX10_best 18 = .ok (.ireturn, 1) := by decide +kernel
theorem dX10_bestOfAll_0 : decode cX10_bestOfAll 0 = .ok (.aload_n 0, 1) := by decide +kernel
theorem dX10_bestOfAll_1 : decode cX10_bestOfAll 1 = .ok (.invokevirtual 116, 3) := by decide +kernel
theorem dX10_bestOfAll_4 : decode cX10_bestOfAll 4 = .ok (.aload_n 0, 1) := by decide +kernel
theorem dX10_bestOfAll_5 : decode cX10_bestOfAll 5 = .ok (.getfield 26, 3) := by decide +kernel
theorem dX10_bestOfAll_8 : decode cX10_bestOfAll 8 = .ok (.aload_n 0, 1) := by decide +kernel
theorem dX10_bestOfAll_9 : decode cX10_bestOfAll 9 = .ok (.getfield 10, 3) := by decide +kernel
theorem dX10_bestOfAll_12 : decode cX10_bestOfAll 12 = .ok (.invokevirtual 186, 3) := by decide +kernel
theorem dX10_bestOfAll_15 : decode cX10_bestOfAll 15 = .ok (.invokestatic 183, 3) := by decide +kernel
theorem dX10_bestOfAll_18 : decode cX10_bestOfAll 18 = .ok (.ireturn, 1) := by decide +kernel
theorem dX10_open_0 : decode cX10_open 0 = .ok (.aload_n 0, 1) := by decide +kernel
theorem dX10_open_1 : decode cX10_open 1 = .ok (.invokevirtual 116, 3) := by decide +kernel
theorem dX10_open_4 : decode cX10_open 4 = .ok (.aload_n 0, 1) := by decide +kernel
theorem dX10_open_5 : decode cX10_open 5 = .ok (.getfield 57, 3) := by decide +kernel
theorem dX10_open_8 : decode cX10_open 8 = .ok (.aload_n 0, 1) := by decide +kernel
theorem dX10_open_9 : decode cX10_open 9 = .ok (.getfield 10, 3) := by decide +kernel
theorem dX10_open_12 : decode cX10_open 12 = .ok (.aload_n 0, 1) := by decide +kernel
theorem dX10_open_13 : decode cX10_open 13 = .ok (.getfield 19, 3) := by decide +kernel
theorem dX10_open_16 : decode cX10_open 16 = .ok (.invokevirtual 189, 3) := by decide +kernel
theorem dX10_open_19 : decode cX10_open 19 = .ok (.aload_n 0, 1) := by decide +kernel
theorem dX10_open_20 : decode cX10_open 20 = .ok (.getfield 10, 3) := by decide +kernel
theorem dX10_open_23 : decode cX10_open 23 = .ok (.invokevirtual 80, 3) := by decide +kernel
theorem dX10_open_26 : decode cX10_open 26 = .ok (.aload_n 0, 1) := by decide +kernel
theorem dX10_open_27 : decode cX10_open 27 = .ok (.getfield 57, 3) := by decide +kernel
theorem dX10_open_30 : decode cX10_open 30 = .ok (.invokevirtual 193, 3) := by decide +kernel
theorem dX10_open_33 : decode cX10_open 33 = .ok (.ireturn, 1) := by decide +kernel
theorem dX10_segments_0 : decode cX10_segments 0 = .ok (.aload_n 0, 1) := by decide +kernel
theorem dX10_segments_1 : decode cX10_segments 1 = .ok (.getfield 57, 3) := by decide +kernel
theorem dX10_segments_4 : decode cX10_segments 4 = .ok (.invokevirtual 193, 3) := by decide +kernel
theorem dX10_segments_7 : decode cX10_segments 7 = .ok (.ireturn, 1) := by decide +kernel
theorem dX10_fill_0 : decode cX10_fill 0 = .ok (.iload_n 1, 1) := by decide +kernel
theorem dX10_fill_1 : decode cX10_fill 1 = .ok (.iconst 1, 1) := by decide +kernel
theorem dX10_fill_2 : decode cX10_fill 2 = .ok (.if_icmp .lt 9, 3) := by decide +kernel
theorem dX10_fill_5 : decode cX10_fill 5 = .ok (.iload_n 1, 1) := by decide +kernel
theorem dX10_fill_6 : decode cX10_fill 6 = .ok (.bipush 100, 2) := by decide +kernel
theorem dX10_fill_8 : decode cX10_fill 8 = .ok (.if_icmp .le 13, 3) := by decide +kernel
theorem dX10_fill_11 : decode cX10_fill 11 = .ok (.new 69, 3) := by decide +kernel
theorem dX10_fill_14 : decode cX10_fill 14 = .ok (.dup, 1) := by decide +kernel
theorem dX10_fill_15 : decode cX10_fill 15 = .ok (.ldc 194, 2) := by decide +kernel
theorem dX10_fill_17 : decode cX10_fill 17 = .ok (.invokespecial 73, 3) := by decide +kernel
theorem dX10_fill_20 : decode cX10_fill 20 = .ok (.athrow, 1) := by decide +kernel
theorem dX10_fill_21 : decode cX10_fill 21 = .ok (.iconst 0, 1) := by decide +kernel
theorem dX10_fill_22 : decode cX10_fill 22 = .ok (.istore_n 2, 1) := by decide +kernel
theorem dX10_fill_23 : decode cX10_fill 23 = .ok (.iconst 0, 1) := by decide +kernel
theorem dX10_fill_24 : decode cX10_fill 24 = .ok (.istore_n 3, 1) := by decide +kernel
theorem dX10_fill_25 : decode cX10_fill 25 = .ok (.iload_n 3, 1) := by decide +kernel
theorem dX10_fill_26 : decode cX10_fill 26 = .ok (.aload_n 0, 1) := by decide +kernel
theorem dX10_fill_27 : decode cX10_fill 27 = .ok (.getfield 57, 3) := by decide +kernel
theorem dX10_fill_30 : decode cX10_fill 30 = .ok (.invokevirtual 193, 3) := by decide +kernel
theorem dX10_fill_33 : decode cX10_fill 33 = .ok (.if_icmp .ge 35, 3) := by decide +kernel
theorem dX10_fill_36 : decode cX10_fill 36 = .ok (.aload_n 0, 1) := by decide +kernel
theorem dX10_fill_37 : decode cX10_fill 37 = .ok (.getfield 57, 3) := by decide +kernel
theorem dX10_fill_40 : decode cX10_fill 40 = .ok (.iload_n 3, 1) := by decide +kernel
theorem dX10_fill_41 : decode cX10_fill 41 = .ok (.invokevirtual 196, 3) := by decide +kernel
theorem dX10_fill_44 : decode cX10_fill 44 = .ok (.invokevirtual 200, 3) := by decide +kernel
theorem dX10_fill_47 : decode cX10_fill 47 = .ok (.ifCond .eq 15, 3) := by decide +kernel
theorem dX10_fill_50 : decode cX10_fill 50 = .ok (.aload_n 0, 1) := by decide +kernel
theorem dX10_fill_51 : decode cX10_fill 51 = .ok (.iload_n 3, 1) := by decide +kernel
theorem dX10_fill_52 : decode cX10_fill 52 = .ok (.iload_n 1, 1) := by decide +kernel
theorem dX10_fill_53 : decode cX10_fill 53 = .ok (.invokevirtual 206, 3) := by decide +kernel
theorem dX10_fill_56 : decode cX10_fill 56 = .ok (.ifCond .eq 6, 3) := by decide +kernel
theorem dX10_fill_59 : decode cX10_fill 59 = .ok (.iinc 2 1, 3) := by decide +kernel
theorem dX10_fill_62 : decode cX10_fill 62 = .ok (.iinc 3 1, 3) := by decide +kernel
theorem dX10_fill_65 : decode cX10_fill 65 = .ok (.goto (-40), 3) := by decide +kernel
theorem dX10_fill_68 : decode cX10_fill 68 = .ok (.iload_n 2, 1) := by decide +kernel
theorem dX10_fill_69 : decode cX10_fill 69 = .ok (.ireturn, 1) := by decide +kernel
theorem dX10_answer_0 : decode cX10_answer 0 = .ok (.aload_n 0, 1) := by decide +kernel
theorem dX10_answer_1 : decode cX10_answer 1 = .ok (.iload_n 1, 1) := by decide +kernel
theorem dX10_answer_2 : decode cX10_answer 2 = .ok (.invokevirtual 209, 3) := by decide +kernel
theorem dX10_answer_5 : decode cX10_answer 5 = .ok (.astore_n 2, 1) := by decide +kernel
theorem dX10_answer_6 : decode cX10_answer 6 = .ok (.aload_n 0, 1) := by decide +kernel
theorem dX10_answer_7 : decode cX10_answer 7 = .ok (.invokevirtual 116, 3) := by decide +kernel
theorem dX10_answer_10 : decode cX10_answer 10 = .ok (.aload_n 0, 1) := by decide +kernel
theorem dX10_answer_11 : decode cX10_answer 11 = .ok (.invokevirtual 128, 3) := by decide +kernel
theorem dX10_answer_14 : decode cX10_answer 14 = .ok (.aload_n 2, 1) := by decide +kernel
theorem dX10_answer_15 : decode cX10_answer 15 = .ok (.aload_n 0, 1) := by decide +kernel
theorem dX10_answer_16 : decode cX10_answer 16 = .ok (.getfield 10, 3) := by decide +kernel
theorem dX10_answer_19 : decode cX10_answer 19 = .ok (.invokevirtual 212, 3) := by decide +kernel
theorem dX10_answer_22 : decode cX10_answer 22 = .ok (.aload_n 0, 1) := by decide +kernel
theorem dX10_answer_23 : decode cX10_answer 23 = .ok (.getfield 26, 3) := by decide +kernel
theorem dX10_answer_26 : decode cX10_answer 26 = .ok (.aload_n 2, 1) := by decide +kernel
theorem dX10_answer_27 : decode cX10_answer 27 = .ok (.getfield 215, 3) := by decide +kernel
theorem dX10_answer_30 : decode cX10_answer 30 = .ok (.aload_n 0, 1) := by decide +kernel
theorem dX10_answer_31 : decode cX10_answer 31 = .ok (.getfield 10, 3) := by decide +kernel
theorem dX10_answer_34 : decode cX10_answer 34 = .ok (.invokevirtual 131, 3) := by decide +kernel
theorem dX10_answer_37 : decode cX10_answer 37 = .ok (.pop, 1) := by decide +kernel
theorem dX10_answer_38 : decode cX10_answer 38 = .ok (.aload_n 0, 1) := by decide +kernel
theorem dX10_answer_39 : decode cX10_answer 39 = .ok (.getfield 10, 3) := by decide +kernel
theorem dX10_answer_42 : decode cX10_answer 42 = .ok (.invokevirtual 80, 3) := by decide +kernel
theorem dX10_answer_45 : decode cX10_answer 45 = .ok (.aload_n 0, 1) := by decide +kernel
theorem dX10_answer_46 : decode cX10_answer 46 = .ok (.getfield 57, 3) := by decide +kernel
theorem dX10_answer_49 : decode cX10_answer 49 = .ok (.iload_n 1, 1) := by decide +kernel
theorem dX10_answer_50 : decode cX10_answer 50 = .ok (.invokevirtual 218, 3) := by decide +kernel
theorem dX10_answer_53 : decode cX10_answer 53 = .ok (.ireturn, 1) := by decide +kernel
theorem dX10_stateOf_0 : decode cX10_stateOf 0 = .ok (.aload_n 0, 1) := by decide +kernel
theorem dX10_stateOf_1 : decode cX10_stateOf 1 = .ok (.iload_n 1, 1) := by decide +kernel
theorem dX10_stateOf_2 : decode cX10_stateOf 2 = .ok (.invokevirtual 209, 3) := by decide +kernel
theorem dX10_stateOf_5 : decode cX10_stateOf 5 = .ok (.getfield 221, 3) := by decide +kernel
theorem dX10_stateOf_8 : decode cX10_stateOf 8 = .ok (.ireturn, 1) := by decide +kernel
theorem dX10_unitOf_0 : decode cX10_unitOf 0 = .ok (.aload_n 0, 1) := by decide +kernel
theorem dX10_unitOf_1 : decode cX10_unitOf 1 = .ok (.iload_n 1, 1) := by decide +kernel
theorem dX10_unitOf_2 : decode cX10_unitOf 2 = .ok (.invokevirtual 225, 3) := by decide +kernel
theorem dX10_unitOf_5 : decode cX10_unitOf 5 = .ok (.getfield 228, 3) := by decide +kernel
theorem dX10_unitOf_8 : decode cX10_unitOf 8 = .ok (.ireturn, 1) := by decide +kernel
theorem dX10_scoreOf_0 : decode cX10_scoreOf 0 = .ok (.aload_n 0, 1) := by decide +kernel
theorem dX10_scoreOf_1 : decode cX10_scoreOf 1 = .ok (.iload_n 1, 1) := by decide +kernel
theorem dX10_scoreOf_2 : decode cX10_scoreOf 2 = .ok (.invokevirtual 225, 3) := by decide +kernel
theorem dX10_scoreOf_5 : decode cX10_scoreOf 5 = .ok (.getfield 232, 3) := by decide +kernel
theorem dX10_scoreOf_8 : decode cX10_scoreOf 8 = .ok (.ireturn, 1) := by decide +kernel
theorem dX10_segmentLength_0 : decode cX10_segmentLength 0 = .ok (.aload_n 0, 1) := by decide +kernel
theorem dX10_segmentLength_1 : decode cX10_segmentLength 1 = .ok (.iload_n 1, 1) := by decide +kernel
theorem dX10_segmentLength_2 : decode cX10_segmentLength 2 = .ok (.invokevirtual 209, 3) := by decide +kernel
theorem dX10_segmentLength_5 : decode cX10_segmentLength 5 = .ok (.getfield 215, 3) := by decide +kernel
theorem dX10_segmentLength_8 : decode cX10_segmentLength 8 = .ok (.invokevirtual 76, 3) := by decide +kernel
theorem dX10_segmentLength_11 : decode cX10_segmentLength 11 = .ok (.ireturn, 1) := by decide +kernel
theorem dX10_segmentToken_0 : decode cX10_segmentToken 0 = .ok (.aload_n 0, 1) := by decide +kernel
theorem dX10_segmentToken_1 : decode cX10_segmentToken 1 = .ok (.iload_n 1, 1) := by decide +kernel
theorem dX10_segmentToken_2 : decode cX10_segmentToken 2 = .ok (.invokevirtual 209, 3) := by decide +kernel
theorem dX10_segmentToken_5 : decode cX10_segmentToken 5 = .ok (.getfield 215, 3) := by decide +kernel
theorem dX10_segmentToken_8 : decode cX10_segmentToken 8 = .ok (.astore_n 3, 1) := by decide +kernel
theorem dX10_segmentToken_9 : decode cX10_segmentToken 9 = .ok (.aload_n 3, 1) := by decide +kernel
theorem dX10_segmentToken_10 : decode cX10_segmentToken 10 = .ok (.iload_n 2, 1) := by decide +kernel
theorem dX10_segmentToken_11 : decode cX10_segmentToken 11 = .ok (.invokevirtual 235, 3) := by decide +kernel
theorem dX10_segmentToken_14 : decode cX10_segmentToken 14 = .ok (.ifCond .ne 13, 3) := by decide +kernel
theorem dX10_segmentToken_17 : decode cX10_segmentToken 17 = .ok (.new 239, 3) := by decide +kernel
theorem dX10_segmentToken_20 : decode cX10_segmentToken 20 = .ok (.dup, 1) := by decide +kernel
theorem dX10_segmentToken_21 : decode cX10_segmentToken 21 = .ok (.ldc 241, 2) := by decide +kernel
theorem dX10_segmentToken_23 : decode cX10_segmentToken 23 = .ok (.invokespecial 243, 3) := by decide +kernel
theorem dX10_segmentToken_26 : decode cX10_segmentToken 26 = .ok (.athrow, 1) := by decide +kernel
theorem dX10_segmentToken_27 : decode cX10_segmentToken 27 = .ok (.aload_n 3, 1) := by decide +kernel
theorem dX10_segmentToken_28 : decode cX10_segmentToken 28 = .ok (.iload_n 2, 1) := by decide +kernel
theorem dX10_segmentToken_29 : decode cX10_segmentToken 29 = .ok (.invokevirtual 244, 3) := by decide +kernel
theorem dX10_segmentToken_32 : decode cX10_segmentToken 32 = .ok (.invokestatic 246, 3) := by decide +kernel
theorem dX10_segmentToken_35 : decode cX10_segmentToken 35 = .ok (.ireturn, 1) := by decide +kernel
theorem dX10_targetLength_0 : decode cX10_targetLength 0 = .ok (.aload_n 0, 1) := by decide +kernel
theorem dX10_targetLength_1 : decode cX10_targetLength 1 = .ok (.iload_n 1, 1) := by decide +kernel
theorem dX10_targetLength_2 : decode cX10_targetLength 2 = .ok (.invokevirtual 251, 3) := by decide +kernel
theorem dX10_targetLength_5 : decode cX10_targetLength 5 = .ok (.invokevirtual 76, 3) := by decide +kernel
theorem dX10_targetLength_8 : decode cX10_targetLength 8 = .ok (.ireturn, 1) := by decide +kernel
theorem dX10_targetToken_0 : decode cX10_targetToken 0 = .ok (.aload_n 0, 1) := by decide +kernel
theorem dX10_targetToken_1 : decode cX10_targetToken 1 = .ok (.iload_n 1, 1) := by decide +kernel
theorem dX10_targetToken_2 : decode cX10_targetToken 2 = .ok (.iload_n 2, 1) := by decide +kernel
theorem dX10_targetToken_3 : decode cX10_targetToken 3 = .ok (.invokevirtual 255, 3) := by decide +kernel
theorem dX10_targetToken_6 : decode cX10_targetToken 6 = .ok (.invokestatic 246, 3) := by decide +kernel
theorem dX10_targetToken_9 : decode cX10_targetToken 9 = .ok (.ireturn, 1) := by decide +kernel
theorem dX10_targetKind_0 : decode cX10_targetKind 0 = .ok (.aload_n 0, 1) := by decide +kernel
theorem dX10_targetKind_1 : decode cX10_targetKind 1 = .ok (.iload_n 1, 1) := by decide +kernel
theorem dX10_targetKind_2 : decode cX10_targetKind 2 = .ok (.iload_n 2, 1) := by decide +kernel
theorem dX10_targetKind_3 : decode cX10_targetKind 3 = .ok (.invokevirtual 255, 3) := by decide +kernel
theorem dX10_targetKind_6 : decode cX10_targetKind 6 = .ok (.invokestatic 258, 3) := by decide +kernel
theorem dX10_targetKind_9 : decode cX10_targetKind 9 = .ok (.ireturn, 1) := by decide +kernel
theorem dX10_repeats_0 : decode cX10_repeats 0 = .ok (.iconst 0, 1) := by decide +kernel
theorem dX10_repeats_1 : decode cX10_repeats 1 = .ok (.istore_n 1, 1) := by decide +kernel
theorem dX10_repeats_2 : decode cX10_repeats 2 = .ok (.iconst 0, 1) := by decide +kernel
theorem dX10_repeats_3 : decode cX10_repeats 3 = .ok (.istore_n 2, 1) := by decide +kernel
theorem dX10_repeats_4 : decode cX10_repeats 4 = .ok (.iload_n 2, 1) := by decide +kernel
theorem dX10_repeats_5 : decode cX10_repeats 5 = .ok (.aload_n 0, 1) := by decide +kernel
theorem dX10_repeats_6 : decode cX10_repeats 6 = .ok (.getfield 57, 3) := by decide +kernel
theorem dX10_repeats_9 : decode cX10_repeats 9 = .ok (.invokevirtual 193, 3) := by decide +kernel
theorem dX10_repeats_12 : decode cX10_repeats 12 = .ok (.if_icmp .ge 23, 3) := by decide +kernel
theorem dX10_repeats_15 : decode cX10_repeats 15 = .ok (.aload_n 0, 1) := by decide +kernel
theorem dX10_repeats_16 : decode cX10_repeats 16 = .ok (.getfield 57, 3) := by decide +kernel
theorem dX10_repeats_19 : decode cX10_repeats 19 = .ok (.iload_n 2, 1) := by decide +kernel
theorem dX10_repeats_20 : decode cX10_repeats 20 = .ok (.invokevirtual 262, 3) := by decide +kernel
theorem dX10_repeats_23 : decode cX10_repeats 23 = .ok (.ifCond .eq 6, 3) := by decide +kernel
theorem dX10_repeats_26 : decode cX10_repeats 26 = .ok (.iinc 1 1, 3) := by decide +kernel
theorem dX10_repeats_29 : decode cX10_repeats 29 = .ok (.iinc 2 1, 3) := by decide +kernel
theorem dX10_repeats_32 : decode cX10_repeats 32 = .ok (.goto (-28), 3) := by decide +kernel
theorem dX10_repeats_35 : decode cX10_repeats 35 = .ok (.iload_n 1, 1) := by decide +kernel
theorem dX10_repeats_36 : decode cX10_repeats 36 = .ok (.ireturn, 1) := by decide +kernel
theorem dX10_openWeight_0 : decode cX10_openWeight 0 = .ok (.lconst 0, 1) := by decide +kernel
theorem dX10_openWeight_1 : decode cX10_openWeight 1 = .ok (.lstore_n 1, 1) := by decide +kernel
theorem dX10_openWeight_2 : decode cX10_openWeight 2 = .ok (.iconst 0, 1) := by decide +kernel
theorem dX10_openWeight_3 : decode cX10_openWeight 3 = .ok (.istore_n 3, 1) := by decide +kernel
theorem dX10_openWeight_4 : decode cX10_openWeight 4 = .ok (.iload_n 3, 1) := by decide +kernel
theorem dX10_openWeight_5 : decode cX10_openWeight 5 = .ok (.aload_n 0, 1) := by decide +kernel
theorem dX10_openWeight_6 : decode cX10_openWeight 6 = .ok (.getfield 57, 3) := by decide +kernel
theorem dX10_openWeight_9 : decode cX10_openWeight 9 = .ok (.invokevirtual 193, 3) := by decide +kernel
theorem dX10_openWeight_12 : decode cX10_openWeight 12 = .ok (.if_icmp .ge 43, 3) := by decide +kernel
theorem dX10_openWeight_15 : decode cX10_openWeight 15 = .ok (.aload_n 0, 1) := by decide +kernel
theorem dX10_openWeight_16 : decode cX10_openWeight 16 = .ok (.getfield 57, 3) := by decide +kernel
theorem dX10_openWeight_19 : decode cX10_openWeight 19 = .ok (.iload_n 3, 1) := by decide +kernel
theorem dX10_openWeight_20 : decode cX10_openWeight 20 = .ok (.invokevirtual 196, 3) := by decide +kernel
theorem dX10_openWeight_23 : decode cX10_openWeight 23 = .ok (.astore 4, 2) := by decide +kernel
theorem dX10_openWeight_25 : decode cX10_openWeight 25 = .ok (.aload 4, 2) := by decide +kernel
theorem dX10_openWeight_27 : decode cX10_openWeight 27 = .ok (.invokevirtual 200, 3) := by decide +kernel
theorem dX10_openWeight_30 : decode cX10_openWeight 30 = .ok (.ifCond .eq 19, 3) := by decide +kernel
theorem dX10_openWeight_33 : decode cX10_openWeight 33 = .ok (.lload_n 1, 1) := by decide +kernel
theorem dX10_openWeight_34 : decode cX10_openWeight 34 = .ok (.aload_n 0, 1) := by decide +kernel
theorem dX10_openWeight_35 : decode cX10_openWeight 35 = .ok (.getfield 41, 3) := by decide +kernel
theorem dX10_openWeight_38 : decode cX10_openWeight 38 = .ok (.aload 4, 2) := by decide +kernel
theorem dX10_openWeight_40 : decode cX10_openWeight 40 = .ok (.getfield 215, 3) := by decide +kernel
theorem dX10_openWeight_43 : decode cX10_openWeight 43 = .ok (.invokevirtual 265, 3) := by decide +kernel
theorem dX10_openWeight_46 : decode cX10_openWeight 46 = .ok (.i2l, 1) := by decide +kernel
theorem dX10_openWeight_47 : decode cX10_openWeight 47 = .ok (.ladd, 1) := by decide +kernel
theorem dX10_openWeight_48 : decode cX10_openWeight 48 = .ok (.lstore_n 1, 1) := by decide +kernel
theorem dX10_openWeight_49 : decode cX10_openWeight 49 = .ok (.iinc 3 1, 3) := by decide +kernel
theorem dX10_openWeight_52 : decode cX10_openWeight 52 = .ok (.goto (-48), 3) := by decide +kernel
theorem dX10_openWeight_55 : decode cX10_openWeight 55 = .ok (.lload_n 1, 1) := by decide +kernel
theorem dX10_openWeight_56 : decode cX10_openWeight 56 = .ok (.lreturn, 1) := by decide +kernel
theorem dX10_filledShare_0 : decode cX10_filledShare 0 = .ok (.aload_n 0, 1) := by decide +kernel
theorem dX10_filledShare_1 : decode cX10_filledShare 1 = .ok (.getfield 57, 3) := by decide +kernel
theorem dX10_filledShare_4 : decode cX10_filledShare 4 = .ok (.invokevirtual 193, 3) := by decide +kernel
theorem dX10_filledShare_7 : decode cX10_filledShare 7 = .ok (.istore_n 1, 1) := by decide +kernel
theorem dX10_filledShare_8 : decode cX10_filledShare 8 = .ok (.iload_n 1, 1) := by decide +kernel
theorem dX10_filledShare_9 : decode cX10_filledShare 9 = .ok (.ifCond .ne 14, 3) := by decide +kernel
theorem dX10_filledShare_12 : decode cX10_filledShare 12 = .ok (.new 268, 3) := by decide +kernel
theorem dX10_filledShare_15 : decode cX10_filledShare 15 = .ok (.dup, 1) := by decide +kernel
theorem dX10_filledShare_16 : decode cX10_filledShare 16 = .ok (.ldc_w 270, 3) := by decide +kernel
theorem dX10_filledShare_19 : decode cX10_filledShare 19 = .ok (.invokespecial 272, 3) := by decide +kernel
theorem dX10_filledShare_22 : decode cX10_filledShare 22 = .ok (.athrow, 1) := by decide +kernel
theorem dX10_filledShare_23 : decode cX10_filledShare 23 = .ok (.aload_n 0, 1) := by decide +kernel
theorem dX10_filledShare_24 : decode cX10_filledShare 24 = .ok (.getfield 57, 3) := by decide +kernel
theorem dX10_filledShare_27 : decode cX10_filledShare 27 = .ok (.invokevirtual 273, 3) := by decide +kernel
theorem dX10_filledShare_30 : decode cX10_filledShare 30 = .ok (.i2f, 1) := by decide +kernel
theorem dX10_filledShare_31 : decode cX10_filledShare 31 = .ok (.iload_n 1, 1) := by decide +kernel
theorem dX10_filledShare_32 : decode cX10_filledShare 32 = .ok (.i2f, 1) := by decide +kernel
theorem dX10_filledShare_33 : decode cX10_filledShare 33 = .ok (.fdiv, 1) := by decide +kernel
theorem dX10_filledShare_34 : decode cX10_filledShare 34 = .ok (.freturn, 1) := by decide +kernel
theorem dX10_isSound_0 : decode cX10_isSound 0 = .ok (.iconst 0, 1) := by decide +kernel
theorem dX10_isSound_1 : decode cX10_isSound 1 = .ok (.istore_n 1, 1) := by decide +kernel
theorem dX10_isSound_2 : decode cX10_isSound 2 = .ok (.iload_n 1, 1) := by decide +kernel
theorem dX10_isSound_3 : decode cX10_isSound 3 = .ok (.aload_n 0, 1) := by decide +kernel
theorem dX10_isSound_4 : decode cX10_isSound 4 = .ok (.getfield 57, 3) := by decide +kernel
theorem dX10_isSound_7 : decode cX10_isSound 7 = .ok (.invokevirtual 193, 3) := by decide +kernel
theorem dX10_isSound_10 : decode cX10_isSound 10 = .ok (.if_icmp .ge 32, 3) := by decide +kernel
theorem dX10_isSound_13 : decode cX10_isSound 13 = .ok (.aload_n 0, 1) := by decide +kernel
theorem dX10_isSound_14 : decode cX10_isSound 14 = .ok (.getfield 26, 3) := by decide +kernel
theorem dX10_isSound_17 : decode cX10_isSound 17 = .ok (.aload_n 0, 1) := by decide +kernel
theorem dX10_isSound_18 : decode cX10_isSound 18 = .ok (.getfield 57, 3) := by decide +kernel
theorem dX10_isSound_21 : decode cX10_isSound 21 = .ok (.iload_n 1, 1) := by decide +kernel
theorem dX10_isSound_22 : decode cX10_isSound 22 = .ok (.invokevirtual 196, 3) := by decide +kernel
theorem dX10_isSound_25 : decode cX10_isSound 25 = .ok (.getfield 215, 3) := by decide +kernel
theorem dX10_isSound_28 : decode cX10_isSound 28 = .ok (.invokevirtual 281, 3) := by decide +kernel
theorem dX10_isSound_31 : decode cX10_isSound 31 = .ok (.ifCond .ne 5, 3) := by decide +kernel
theorem dX10_isSound_34 : decode cX10_isSound 34 = .ok (.iconst 0, 1) := by decide +kernel
theorem dX10_isSound_35 : decode cX10_isSound 35 = .ok (.ireturn, 1) := by decide +kernel
theorem dX10_isSound_36 : decode cX10_isSound 36 = .ok (.iinc 1 1, 3) := by decide +kernel
theorem dX10_isSound_39 : decode cX10_isSound 39 = .ok (.goto (-37), 3) := by decide +kernel
theorem dX10_isSound_42 : decode cX10_isSound 42 = .ok (.iconst 1, 1) := by decide +kernel
theorem dX10_isSound_43 : decode cX10_isSound 43 = .ok (.ireturn, 1) := by decide +kernel
theorem dX10_requireBelow_0 : decode cX10_requireBelow 0 = .ok (.iload_n 0, 1) := by decide +kernel
theorem dX10_requireBelow_1 : decode cX10_requireBelow 1 = .ok (.ifCond .lt 8, 3) := by decide +kernel
theorem dX10_requireBelow_4 : decode cX10_requireBelow 4 = .ok (.iload_n 0, 1) := by decide +kernel
theorem dX10_requireBelow_5 : decode cX10_requireBelow 5 = .ok (.iload_n 1, 1) := by decide +kernel
theorem dX10_requireBelow_6 : decode cX10_requireBelow 6 = .ok (.if_icmp .lt 14, 3) := by decide +kernel
theorem dX10_requireBelow_9 : decode cX10_requireBelow 9 = .ok (.new 69, 3) := by decide +kernel
theorem dX10_requireBelow_12 : decode cX10_requireBelow 12 = .ok (.dup, 1) := by decide +kernel
theorem dX10_requireBelow_13 : decode cX10_requireBelow 13 = .ok (.ldc_w 285, 3) := by decide +kernel
theorem dX10_requireBelow_16 : decode cX10_requireBelow 16 = .ok (.invokespecial 73, 3) := by decide +kernel
theorem dX10_requireBelow_19 : decode cX10_requireBelow 19 = .ok (.athrow, 1) := by decide +kernel
theorem dX10_requireBelow_20 : decode cX10_requireBelow 20 = .ok (.return_, 1) := by decide +kernel
theorem dX10_requireWeight_0 : decode cX10_requireWeight 0 = .ok (.iload_n 0, 1) := by decide +kernel
theorem dX10_requireWeight_1 : decode cX10_requireWeight 1 = .ok (.iconst 1, 1) := by decide +kernel
theorem dX10_requireWeight_2 : decode cX10_requireWeight 2 = .ok (.if_icmp .lt 9, 3) := by decide +kernel
theorem dX10_requireWeight_5 : decode cX10_requireWeight 5 = .ok (.iload_n 0, 1) := by decide +kernel
theorem dX10_requireWeight_6 : decode cX10_requireWeight 6 = .ok (.bipush 9, 2) := by decide +kernel
theorem dX10_requireWeight_8 : decode cX10_requireWeight 8 = .ok (.if_icmp .le 14, 3) := by decide +kernel
theorem dX10_requireWeight_11 : decode cX10_requireWeight 11 = .ok (.new 69, 3) := by decide +kernel
theorem dX10_requireWeight_14 : decode cX10_requireWeight 14 = .ok (.dup, 1) := by decide +kernel
theorem dX10_requireWeight_15 : decode cX10_requireWeight 15 = .ok (.ldc_w 287, 3) := by decide +kernel
theorem dX10_requireWeight_18 : decode cX10_requireWeight 18 = .ok (.invokespecial 73, 3) := by decide +kernel
theorem dX10_requireWeight_21 : decode cX10_requireWeight 21 = .ok (.athrow, 1) := by decide +kernel
theorem dX10_requireWeight_22 : decode cX10_requireWeight 22 = .ok (.return_, 1) := by decide +kernel
theorem dX10_requireOffered_0 : decode cX10_requireOffered 0 = .ok (.iload_n 0, 1) := by decide +kernel
theorem dX10_requireOffered_1 : decode cX10_requireOffered 1 = .ok (.iconst (-1), 1) := by decide +kernel
theorem dX10_requireOffered_2 : decode cX10_requireOffered 2 = .ok (.if_icmp .ne 14, 3) := by decide +kernel
theorem dX10_requireOffered_5 : decode cX10_requireOffered 5 = .ok (.new 123, 3) := by decide +kernel
theorem dX10_requireOffered_8 : decode cX10_requireOffered 8 = .ok (.dup, 1) := by decide +kernel
theorem dX10_requireOffered_9 : decode cX10_requireOffered 9 = .ok (.ldc_w 289, 3) := by decide +kernel
theorem dX10_requireOffered_12 : decode cX10_requireOffered 12 = .ok (.invokespecial 127, 3) := by decide +kernel
theorem dX10_requireOffered_15 : decode cX10_requireOffered 15 = .ok (.athrow, 1) := by decide +kernel
theorem dX10_requireOffered_16 : decode cX10_requireOffered 16 = .ok (.iload_n 0, 1) := by decide +kernel
theorem dX10_requireOffered_17 : decode cX10_requireOffered 17 = .ok (.ireturn, 1) := by decide +kernel
theorem dX10_requireDraft_0 : decode cX10_requireDraft 0 = .ok (.aload_n 0, 1) := by decide +kernel
theorem dX10_requireDraft_1 : decode cX10_requireDraft 1 = .ok (.getfield 10, 3) := by decide +kernel
theorem dX10_requireDraft_4 : decode cX10_requireDraft 4 = .ok (.invokevirtual 76, 3) := by decide +kernel
theorem dX10_requireDraft_7 : decode cX10_requireDraft 7 = .ok (.ifCond .ne 14, 3) := by decide +kernel
theorem dX10_requireDraft_10 : decode cX10_requireDraft 10 = .ok (.new 108, 3) := by decide +kernel
theorem dX10_requireDraft_13 : decode cX10_requireDraft 13 = .ok (.dup, 1) := by decide +kernel
theorem dX10_requireDraft_14 : decode cX10_requireDraft 14 = .ok (.ldc_w 291, 3) := by decide +kernel
theorem dX10_requireDraft_17 : decode cX10_requireDraft 17 = .ok (.invokespecial 112, 3) := by decide +kernel
theorem dX10_requireDraft_20 : decode cX10_requireDraft 20 = .ok (.athrow, 1) := by decide +kernel
theorem dX10_requireDraft_21 : decode cX10_requireDraft 21 = .ok (.return_, 1) := by decide +kernel
theorem dX10_requireRoomForUnit_0 : decode cX10_requireRoomForUnit 0 = .ok (.aload_n 0, 1) := by decide +kernel
theorem dX10_requireRoomForUnit_1 : decode cX10_requireRoomForUnit 1 = .ok (.getfield 26, 3) := by decide +kernel
theorem dX10_requireRoomForUnit_4 : decode cX10_requireRoomForUnit 4 = .ok (.invokevirtual 150, 3) := by decide +kernel
theorem dX10_requireRoomForUnit_7 : decode cX10_requireRoomForUnit 7 = .ok (.bipush 40, 2) := by decide +kernel
theorem dX10_requireRoomForUnit_9 : decode cX10_requireRoomForUnit 9 = .ok (.if_icmp .lt 14, 3) := by decide +kernel
theorem dX10_requireRoomForUnit_12 : decode cX10_requireRoomForUnit 12 = .ok (.new 108, 3) := by decide +kernel
theorem dX10_requireRoomForUnit_15 : decode cX10_requireRoomForUnit 15 = .ok (.dup, 1) := by decide +kernel
theorem dX10_requireRoomForUnit_16 : decode cX10_requireRoomForUnit 16 = .ok (.ldc_w 293, 3) := by decide +kernel
theorem dX10_requireRoomForUnit_19 : decode cX10_requireRoomForUnit 19 = .ok (.invokespecial 112, 3) := by decide +kernel
theorem dX10_requireRoomForUnit_22 : decode cX10_requireRoomForUnit 22 = .ok (.athrow, 1) := by decide +kernel
theorem dX10_requireRoomForUnit_23 : decode cX10_requireRoomForUnit 23 = .ok (.return_, 1) := by decide +kernel
theorem dX10_putToken_0 : decode cX10_putToken 0 = .ok (.aload_n 0, 1) := by decide +kernel
theorem dX10_putToken_1 : decode cX10_putToken 1 = .ok (.getfield 10, 3) := by decide +kernel
theorem dX10_putToken_4 : decode cX10_putToken 4 = .ok (.invokevirtual 76, 3) := by decide +kernel
theorem dX10_putToken_7 : decode cX10_putToken 7 = .ok (.bipush 60, 2) := by decide +kernel
theorem dX10_putToken_9 : decode cX10_putToken 9 = .ok (.if_icmp .lt 14, 3) := by decide +kernel
theorem dX10_putToken_12 : decode cX10_putToken 12 = .ok (.new 108, 3) := by decide +kernel
theorem dX10_putToken_15 : decode cX10_putToken 15 = .ok (.dup, 1) := by decide +kernel
theorem dX10_putToken_16 : decode cX10_putToken 16 = .ok (.ldc_w 295, 3) := by decide +kernel
theorem dX10_putToken_19 : decode cX10_putToken 19 = .ok (.invokespecial 112, 3) := by decide +kernel
theorem dX10_putToken_22 : decode cX10_putToken 22 = .ok (.athrow, 1) := by decide +kernel
theorem dX10_putToken_23 : decode cX10_putToken 23 = .ok (.aload_n 0, 1) := by decide +kernel
theorem dX10_putToken_24 : decode cX10_putToken 24 = .ok (.getfield 10, 3) := by decide +kernel
theorem dX10_putToken_27 : decode cX10_putToken 27 = .ok (.iload_n 1, 1) := by decide +kernel
theorem dX10_putToken_28 : decode cX10_putToken 28 = .ok (.iload_n 2, 1) := by decide +kernel
theorem dX10_putToken_29 : decode cX10_putToken 29 = .ok (.invokestatic 297, 3) := by decide +kernel
theorem dX10_putToken_32 : decode cX10_putToken 32 = .ok (.invokevirtual 300, 3) := by decide +kernel
theorem dX10_putToken_35 : decode cX10_putToken 35 = .ok (.aload_n 0, 1) := by decide +kernel
theorem dX10_putToken_36 : decode cX10_putToken 36 = .ok (.getfield 10, 3) := by decide +kernel
theorem dX10_putToken_39 : decode cX10_putToken 39 = .ok (.invokevirtual 76, 3) := by decide +kernel
theorem dX10_putToken_42 : decode cX10_putToken 42 = .ok (.ireturn, 1) := by decide +kernel
theorem dX10_unitAt_0 : decode cX10_unitAt 0 = .ok (.iload_n 1, 1) := by decide +kernel
theorem dX10_unitAt_1 : decode cX10_unitAt 1 = .ok (.ifCond .lt 14, 3) := by decide +kernel
theorem dX10_unitAt_4 : decode cX10_unitAt 4 = .ok (.iload_n 1, 1) := by decide +kernel
theorem dX10_unitAt_5 : decode cX10_unitAt 5 = .ok (.aload_n 0, 1) := by decide +kernel
theorem dX10_unitAt_6 : decode cX10_unitAt 6 = .ok (.getfield 26, 3) := by decide +kernel
theorem dX10_unitAt_9 : decode cX10_unitAt 9 = .ok (.invokevirtual 150, 3) := by decide +kernel
theorem dX10_unitAt_12 : decode cX10_unitAt 12 = .ok (.if_icmp .lt 14, 3) := by decide +kernel
theorem dX10_unitAt_15 : decode cX10_unitAt 15 = .ok (.new 123, 3) := by decide +kernel
theorem dX10_unitAt_18 : decode cX10_unitAt 18 = .ok (.dup, 1) := by decide +kernel
theorem dX10_unitAt_19 : decode cX10_unitAt 19 = .ok (.ldc_w 302, 3) := by decide +kernel
theorem dX10_unitAt_22 : decode cX10_unitAt 22 = .ok (.invokespecial 127, 3) := by decide +kernel
theorem dX10_unitAt_25 : decode cX10_unitAt 25 = .ok (.athrow, 1) := by decide +kernel
theorem dX10_unitAt_26 : decode cX10_unitAt 26 = .ok (.aload_n 0, 1) := by decide +kernel
theorem dX10_unitAt_27 : decode cX10_unitAt 27 = .ok (.getfield 26, 3) := by decide +kernel
theorem dX10_unitAt_30 : decode cX10_unitAt 30 = .ok (.iload_n 1, 1) := by decide +kernel
theorem dX10_unitAt_31 : decode cX10_unitAt 31 = .ok (.invokevirtual 304, 3) := by decide +kernel
theorem dX10_unitAt_34 : decode cX10_unitAt 34 = .ok (.areturn, 1) := by decide +kernel
theorem dX10_liveUnitAt_0 : decode cX10_liveUnitAt 0 = .ok (.aload_n 0, 1) := by decide +kernel
theorem dX10_liveUnitAt_1 : decode cX10_liveUnitAt 1 = .ok (.iload_n 1, 1) := by decide +kernel
theorem dX10_liveUnitAt_2 : decode cX10_liveUnitAt 2 = .ok (.invokevirtual 151, 3) := by decide +kernel
theorem dX10_liveUnitAt_5 : decode cX10_liveUnitAt 5 = .ok (.astore_n 2, 1) := by decide +kernel
theorem dX10_liveUnitAt_6 : decode cX10_liveUnitAt 6 = .ok (.aload_n 2, 1) := by decide +kernel
theorem dX10_liveUnitAt_7 : decode cX10_liveUnitAt 7 = .ok (.getfield 143, 3) := by decide +kernel
theorem dX10_liveUnitAt_10 : decode cX10_liveUnitAt 10 = .ok (.ifCond .ne 14, 3) := by decide +kernel
theorem dX10_liveUnitAt_13 : decode cX10_liveUnitAt 13 = .ok (.new 102, 3) := by decide +kernel
theorem dX10_liveUnitAt_16 : decode cX10_liveUnitAt 16 = .ok (.dup, 1) := by decide +kernel
theorem dX10_liveUnitAt_17 : decode cX10_liveUnitAt 17 = .ok (.ldc_w 306, 3) := by decide +kernel
theorem dX10_liveUnitAt_20 : decode cX10_liveUnitAt 20 = .ok (.invokespecial 106, 3) := by decide +kernel
theorem dX10_liveUnitAt_23 : decode cX10_liveUnitAt 23 = .ok (.athrow, 1) := by decide +kernel
theorem dX10_liveUnitAt_24 : decode cX10_liveUnitAt 24 = .ok (.aload_n 2, 1) := by decide +kernel
theorem dX10_liveUnitAt_25 : decode cX10_liveUnitAt 25 = .ok (.areturn, 1) := by decide +kernel
theorem dX10_unitForDraft_0 : decode cX10_unitForDraft 0 = .ok (.aload_n 0, 1) := by decide +kernel
theorem dX10_unitForDraft_1 : decode cX10_unitForDraft 1 = .ok (.iload_n 1, 1) := by decide +kernel
theorem dX10_unitForDraft_2 : decode cX10_unitForDraft 2 = .ok (.invokevirtual 151, 3) := by decide +kernel
theorem dX10_unitForDraft_5 : decode cX10_unitForDraft 5 = .ok (.astore_n 2, 1) := by decide +kernel
theorem dX10_unitForDraft_6 : decode cX10_unitForDraft 6 = .ok (.aload_n 0, 1) := by decide +kernel
theorem dX10_unitForDraft_7 : decode cX10_unitForDraft 7 = .ok (.invokevirtual 116, 3) := by decide +kernel
theorem dX10_unitForDraft_10 : decode cX10_unitForDraft 10 = .ok (.aload_n 2, 1) := by decide +kernel
theorem dX10_unitForDraft_11 : decode cX10_unitForDraft 11 = .ok (.areturn, 1) := by decide +kernel
theorem dX10_segmentAt_0 : decode cX10_segmentAt 0 = .ok (.iload_n 1, 1) := by decide +kernel
theorem dX10_segmentAt_1 : decode cX10_segmentAt 1 = .ok (.ifCond .lt 14, 3) := by decide +kernel
theorem dX10_segmentAt_4 : decode cX10_segmentAt 4 = .ok (.iload_n 1, 1) := by decide +kernel
theorem dX10_segmentAt_5 : decode cX10_segmentAt 5 = .ok (.aload_n 0, 1) := by decide +kernel
theorem dX10_segmentAt_6 : decode cX10_segmentAt 6 = .ok (.getfield 57, 3) := by decide +kernel
theorem dX10_segmentAt_9 : decode cX10_segmentAt 9 = .ok (.invokevirtual 193, 3) := by decide +kernel
theorem dX10_segmentAt_12 : decode cX10_segmentAt 12 = .ok (.if_icmp .lt 14, 3) := by decide +kernel
theorem dX10_segmentAt_15 : decode cX10_segmentAt 15 = .ok (.new 239, 3) := by decide +kernel
theorem dX10_segmentAt_18 : decode cX10_segmentAt 18 = .ok (.dup, 1) := by decide +kernel
theorem dX10_segmentAt_19 : decode cX10_segmentAt 19 = .ok (.ldc_w 308, 3) := by decide +kernel
theorem dX10_segmentAt_22 : decode cX10_segmentAt 22 = .ok (.invokespecial 243, 3) := by decide +kernel
theorem dX10_segmentAt_25 : decode cX10_segmentAt 25 = .ok (.athrow, 1) := by decide +kernel
theorem dX10_segmentAt_26 : decode cX10_segmentAt 26 = .ok (.aload_n 0, 1) := by decide +kernel
theorem dX10_segmentAt_27 : decode cX10_segmentAt 27 = .ok (.getfield 57, 3) := by decide +kernel
theorem dX10_segmentAt_30 : decode cX10_segmentAt 30 = .ok (.iload_n 1, 1) := by decide +kernel
theorem dX10_segmentAt_31 : decode cX10_segmentAt 31 = .ok (.invokevirtual 196, 3) := by decide +kernel
theorem dX10_segmentAt_34 : decode cX10_segmentAt 34 = .ok (.areturn, 1) := by decide +kernel
theorem dX10_segmentFilledByUnit_0 : decode cX10_segmentFilledByUnit 0 = .ok (.aload_n 0, 1) := by decide +kernel
theorem dX10_segmentFilledByUnit_1 : decode cX10_segmentFilledByUnit 1 = .ok (.iload_n 1, 1) := by decide +kernel
theorem dX10_segmentFilledByUnit_2 : decode cX10_segmentFilledByUnit 2 = .ok (.invokevirtual 209, 3) := by decide +kernel
theorem dX10_segmentFilledByUnit_5 : decode cX10_segmentFilledByUnit 5 = .ok (.astore_n 2, 1) := by decide +kernel
theorem dX10_segmentFilledByUnit_6 : decode cX10_segmentFilledByUnit 6 = .ok (.aload_n 2, 1) := by decide +kernel
theorem dX10_segmentFilledByUnit_7 : decode cX10_segmentFilledByUnit 7 = .ok (.getfield 228, 3) := by decide +kernel
theorem dX10_segmentFilledByUnit_10 : decode cX10_segmentFilledByUnit 10 = .ok (.iconst (-1), 1) := by decide +kernel
theorem dX10_segmentFilledByUnit_11 : decode cX10_segmentFilledByUnit 11 = .ok (.if_icmp .ne 14, 3) := by decide +kernel
theorem dX10_segmentFilledByUnit_14 : decode cX10_segmentFilledByUnit 14 = .ok (.new 123, 3) := by decide +kernel
theorem dX10_segmentFilledByUnit_17 : decode cX10_segmentFilledByUnit 17 = .ok (.dup, 1) := by decide +kernel
theorem dX10_segmentFilledByUnit_18 : decode cX10_segmentFilledByUnit 18 = .ok (.ldc_w 310, 3) := by decide +kernel
theorem dX10_segmentFilledByUnit_21 : decode cX10_segmentFilledByUnit 21 = .ok (.invokespecial 127, 3) := by decide +kernel
theorem dX10_segmentFilledByUnit_24 : decode cX10_segmentFilledByUnit 24 = .ok (.athrow, 1) := by decide +kernel
theorem dX10_segmentFilledByUnit_25 : decode cX10_segmentFilledByUnit 25 = .ok (.aload_n 2, 1) := by decide +kernel
theorem dX10_segmentFilledByUnit_26 : decode cX10_segmentFilledByUnit 26 = .ok (.areturn, 1) := by decide +kernel
theorem dX10_targetAt_0 : decode cX10_targetAt 0 = .ok (.aload_n 0, 1) := by decide +kernel
theorem dX10_targetAt_1 : decode cX10_targetAt 1 = .ok (.iload_n 1, 1) := by decide +kernel
theorem dX10_targetAt_2 : decode cX10_targetAt 2 = .ok (.invokevirtual 209, 3) := by decide +kernel
theorem dX10_targetAt_5 : decode cX10_targetAt 5 = .ok (.astore_n 2, 1) := by decide +kernel
theorem dX10_targetAt_6 : decode cX10_targetAt 6 = .ok (.aload_n 2, 1) := by decide +kernel
theorem dX10_targetAt_7 : decode cX10_targetAt 7 = .ok (.invokevirtual 200, 3) := by decide +kernel
theorem dX10_targetAt_10 : decode cX10_targetAt 10 = .ok (.ifCond .eq 14, 3) := by decide +kernel
theorem dX10_targetAt_13 : decode cX10_targetAt 13 = .ok (.new 123, 3) := by decide +kernel
theorem dX10_targetAt_16 : decode cX10_targetAt 16 = .ok (.dup, 1) := by decide +kernel
theorem dX10_targetAt_17 : decode cX10_targetAt 17 = .ok (.ldc_w 312, 3) := by decide +kernel
theorem dX10_targetAt_20 : decode cX10_targetAt 20 = .ok (.invokespecial 127, 3) := by decide +kernel
theorem dX10_targetAt_23 : decode cX10_targetAt 23 = .ok (.athrow, 1) := by decide +kernel
theorem dX10_targetAt_24 : decode cX10_targetAt 24 = .ok (.aload_n 2, 1) := by decide +kernel
theorem dX10_targetAt_25 : decode cX10_targetAt 25 = .ok (.getfield 314, 3) := by decide +kernel
theorem dX10_targetAt_28 : decode cX10_targetAt 28 = .ok (.areturn, 1) := by decide +kernel
theorem dX10_targetCode_0 : decode cX10_targetCode 0 = .ok (.aload_n 0, 1) := by decide +kernel
theorem dX10_targetCode_1 : decode cX10_targetCode 1 = .ok (.iload_n 1, 1) := by decide +kernel
theorem dX10_targetCode_2 : decode cX10_targetCode 2 = .ok (.invokevirtual 251, 3) := by decide +kernel
theorem dX10_targetCode_5 : decode cX10_targetCode 5 = .ok (.astore_n 3, 1) := by decide +kernel
theorem dX10_targetCode_6 : decode cX10_targetCode 6 = .ok (.aload_n 3, 1) := by decide +kernel
theorem dX10_targetCode_7 : decode cX10_targetCode 7 = .ok (.iload_n 2, 1) := by decide +kernel
theorem dX10_targetCode_8 : decode cX10_targetCode 8 = .ok (.invokevirtual 235, 3) := by decide +kernel
theorem dX10_targetCode_11 : decode cX10_targetCode 11 = .ok (.ifCond .ne 14, 3) := by decide +kernel
theorem dX10_targetCode_14 : decode cX10_targetCode 14 = .ok (.new 123, 3) := by decide +kernel
theorem dX10_targetCode_17 : decode cX10_targetCode 17 = .ok (.dup, 1) := by decide +kernel
theorem dX10_targetCode_18 : decode cX10_targetCode 18 = .ok (.ldc_w 315, 3) := by decide +kernel
theorem dX10_targetCode_21 : decode cX10_targetCode 21 = .ok (.invokespecial 127, 3) := by decide +kernel
theorem dX10_targetCode_24 : decode cX10_targetCode 24 = .ok (.athrow, 1) := by decide +kernel
theorem dX10_targetCode_25 : decode cX10_targetCode 25 = .ok (.aload_n 3, 1) := by decide +kernel
theorem dX10_targetCode_26 : decode cX10_targetCode 26 = .ok (.iload_n 2, 1) := by decide +kernel
theorem dX10_targetCode_27 : decode cX10_targetCode 27 = .ok (.invokevirtual 244, 3) := by decide +kernel
theorem dX10_targetCode_30 : decode cX10_targetCode 30 = .ok (.ireturn, 1) := by decide +kernel
theorem dX10_fillSegment_0 : decode cX10_fillSegment 0 = .ok (.aload_n 0, 1) := by decide +kernel
theorem dX10_fillSegment_1 : decode cX10_fillSegment 1 = .ok (.getfield 57, 3) := by decide +kernel
theorem dX10_fillSegment_4 : decode cX10_fillSegment 4 = .ok (.iload_n 1, 1) := by decide +kernel
theorem dX10_fillSegment_5 : decode cX10_fillSegment 5 = .ok (.invokevirtual 196, 3) := by decide +kernel
theorem dX10_fillSegment_8 : decode cX10_fillSegment 8 = .ok (.astore_n 3, 1) := by decide +kernel
theorem dX10_fillSegment_9 : decode cX10_fillSegment 9 = .ok (.aload_n 0, 1) := by decide +kernel
theorem dX10_fillSegment_10 : decode cX10_fillSegment 10 = .ok (.getfield 57, 3) := by decide +kernel
theorem dX10_fillSegment_13 : decode cX10_fillSegment 13 = .ok (.iload_n 1, 1) := by decide +kernel
theorem dX10_fillSegment_14 : decode cX10_fillSegment 14 = .ok (.invokevirtual 317, 3) := by decide +kernel
theorem dX10_fillSegment_17 : decode cX10_fillSegment 17 = .ok (.istore 4, 2) := by decide +kernel
theorem dX10_fillSegment_19 : decode cX10_fillSegment 19 = .ok (.iload 4, 2) := by decide +kernel
theorem dX10_fillSegment_21 : decode cX10_fillSegment 21 = .ok (.iconst (-1), 1) := by decide +kernel
theorem dX10_fillSegment_22 : decode cX10_fillSegment 22 = .ok (.if_icmp .eq 21, 3) := by decide +kernel
theorem dX10_fillSegment_25 : decode cX10_fillSegment 25 = .ok (.aload_n 3, 1) := by decide +kernel
theorem dX10_fillSegment_26 : decode cX10_fillSegment 26 = .ok (.aload_n 0, 1) := by decide +kernel
theorem dX10_fillSegment_27 : decode cX10_fillSegment 27 = .ok (.getfield 57, 3) := by decide +kernel
theorem dX10_fillSegment_30 : decode cX10_fillSegment 30 = .ok (.iload 4, 2) := by decide +kernel
theorem dX10_fillSegment_32 : decode cX10_fillSegment 32 = .ok (.invokevirtual 196, 3) := by decide +kernel
theorem dX10_fillSegment_35 : decode cX10_fillSegment 35 = .ok (.getfield 314, 3) := by decide +kernel
theorem dX10_fillSegment_38 : decode cX10_fillSegment 38 = .ok (.invokevirtual 320, 3) := by decide +kernel
theorem dX10_fillSegment_41 : decode cX10_fillSegment 41 = .ok (.iconst 1, 1) := by decide +kernel
theorem dX10_fillSegment_42 : decode cX10_fillSegment 42 = .ok (.ireturn, 1) := by decide +kernel
theorem dX10_fillSegment_43 : decode cX10_fillSegment 43 = .ok (.aload_n 0, 1) := by decide +kernel
theorem dX10_fillSegment_44 : decode cX10_fillSegment 44 = .ok (.getfield 26, 3) := by decide +kernel
theorem dX10_fillSegment_47 : decode cX10_fillSegment 47 = .ok (.aload_n 3, 1) := by decide +kernel
theorem dX10_fillSegment_48 : decode cX10_fillSegment 48 = .ok (.getfield 215, 3) := by decide +kernel
theorem dX10_fillSegment_51 : decode cX10_fillSegment 51 = .ok (.invokevirtual 179, 3) := by decide +kernel
theorem dX10_fillSegment_54 : decode cX10_fillSegment 54 = .ok (.istore 5, 2) := by decide +kernel
theorem dX10_fillSegment_56 : decode cX10_fillSegment 56 = .ok (.iload 5, 2) := by decide +kernel
theorem dX10_fillSegment_58 : decode cX10_fillSegment 58 = .ok (.iconst (-1), 1) := by decide +kernel
theorem dX10_fillSegment_59 : decode cX10_fillSegment 59 = .ok (.if_icmp .ne 5, 3) := by decide +kernel
theorem dX10_fillSegment_62 : decode cX10_fillSegment 62 = .ok (.iconst 0, 1) := by decide +kernel
theorem dX10_fillSegment_63 : decode cX10_fillSegment 63 = .ok (.ireturn, 1) := by decide +kernel
theorem dX10_fillSegment_64 : decode cX10_fillSegment 64 = .ok (.aload_n 0, 1) := by decide +kernel
theorem dX10_fillSegment_65 : decode cX10_fillSegment 65 = .ok (.getfield 26, 3) := by decide +kernel
theorem dX10_fillSegment_68 : decode cX10_fillSegment 68 = .ok (.iload 5, 2) := by decide +kernel
theorem dX10_fillSegment_70 : decode cX10_fillSegment 70 = .ok (.invokevirtual 304, 3) := by decide +kernel
theorem dX10_fillSegment_73 : decode cX10_fillSegment 73 = .ok (.astore 6, 2) := by decide +kernel
theorem dX10_fillSegment_75 : decode cX10_fillSegment 75 = .ok (.aload_n 0, 1) := by decide +kernel
theorem dX10_fillSegment_76 : decode cX10_fillSegment 76 = .ok (.getfield 26, 3) := by decide +kernel
theorem dX10_fillSegment_79 : decode cX10_fillSegment 79 = .ok (.aload_n 3, 1) := by decide +kernel
theorem dX10_fillSegment_80 : decode cX10_fillSegment 80 = .ok (.getfield 215, 3) := by decide +kernel
theorem dX10_fillSegment_83 : decode cX10_fillSegment 83 = .ok (.aload 6, 2) := by decide +kernel
theorem dX10_fillSegment_85 : decode cX10_fillSegment 85 = .ok (.invokevirtual 172, 3) := by decide +kernel
theorem dX10_fillSegment_88 : decode cX10_fillSegment 88 = .ok (.istore 7, 2) := by decide +kernel
theorem dX10_fillSegment_90 : decode cX10_fillSegment 90 = .ok (.iload 7, 2) := by decide +kernel
theorem dX10_fillSegment_92 : decode cX10_fillSegment 92 = .ok (.iload_n 2, 1) := by decide +kernel
theorem dX10_fillSegment_93 : decode cX10_fillSegment 93 = .ok (.if_icmp .ge 5, 3) := by decide +kernel
theorem dX10_fillSegment_96 : decode cX10_fillSegment 96 = .ok (.iconst 0, 1) := by decide +kernel
theorem dX10_fillSegment_97 : decode cX10_fillSegment 97 = .ok (.ireturn, 1) := by decide +kernel
theorem dX10_fillSegment_98 : decode cX10_fillSegment 98 = .ok (.aload_n 3, 1) := by decide +kernel
theorem dX10_fillSegment_99 : decode cX10_fillSegment 99 = .ok (.aload 6, 2) := by decide +kernel
theorem dX10_fillSegment_101 : decode cX10_fillSegment 101 = .ok (.iload 5, 2) := by decide +kernel
theorem dX10_fillSegment_103 : decode cX10_fillSegment 103 = .ok (.iload 7, 2) := by decide +kernel
theorem dX10_fillSegment_105 : decode cX10_fillSegment 105 = .ok (.invokevirtual 323, 3) := by decide +kernel
theorem dX10_fillSegment_108 : decode cX10_fillSegment 108 = .ok (.iconst 1, 1) := by decide +kernel
theorem dX10_fillSegment_109 : decode cX10_fillSegment 109 = .ok (.ireturn, 1) := by decide +kernel
theorem dJx00060_init_a7421_0 : decode cJx00060_init_a7421 0 = .ok (.aload_n 0, 1) := by decide +kernel
theorem dJx00060_init_a7421_1 : decode cJx00060_init_a7421 1 = .ok (.aload_n 1, 1) := by decide +kernel
theorem dJx00060_init_a7421_2 : decode cJx00060_init_a7421 2 = .ok (.invokespecial 7, 3) := by decide +kernel
theorem dJx00060_init_a7421_5 : decode cJx00060_init_a7421 5 = .ok (.return_, 1) := by decide +kernel
theorem dJ9_abs_0f7a4_0 : decode cJ9_abs_0f7a4 0 = .ok (.iload_n 0, 1) := by decide +kernel
theorem dJ9_abs_0f7a4_1 : decode cJ9_abs_0f7a4 1 = .ok (.ifCond .ge 8, 3) := by decide +kernel
theorem dJ9_abs_0f7a4_4 : decode cJ9_abs_0f7a4 4 = .ok (.iload_n 0, 1) := by decide +kernel
theorem dJ9_abs_0f7a4_5 : decode cJ9_abs_0f7a4 5 = .ok (.ineg, 1) := by decide +kernel
theorem dJ9_abs_0f7a4_6 : decode cJ9_abs_0f7a4 6 = .ok (.goto 4, 3) := by decide +kernel
theorem dJ9_abs_0f7a4_9 : decode cJ9_abs_0f7a4 9 = .ok (.iload_n 0, 1) := by decide +kernel
theorem dJ9_abs_0f7a4_10 : decode cJ9_abs_0f7a4 10 = .ok (.ireturn, 1) := by decide +kernel
theorem dJ9_max_7cf53_0 : decode cJ9_max_7cf53 0 = .ok (.iload_n 0, 1) := by decide +kernel
theorem dJ9_max_7cf53_1 : decode cJ9_max_7cf53 1 = .ok (.iload_n 1, 1) := by decide +kernel
theorem dJ9_max_7cf53_2 : decode cJ9_max_7cf53 2 = .ok (.if_icmp .lt 7, 3) := by decide +kernel
theorem dJ9_max_7cf53_5 : decode cJ9_max_7cf53 5 = .ok (.iload_n 0, 1) := by decide +kernel
theorem dJ9_max_7cf53_6 : decode cJ9_max_7cf53 6 = .ok (.goto 4, 3) := by decide +kernel
theorem dJ9_max_7cf53_9 : decode cJ9_max_7cf53 9 = .ok (.iload_n 1, 1) := by decide +kernel
theorem dJ9_max_7cf53_10 : decode cJ9_max_7cf53 10 = .ok (.ireturn, 1) := by decide +kernel
theorem dJ9_min_7cf53_0 : decode cJ9_min_7cf53 0 = .ok (.iload_n 0, 1) := by decide +kernel
theorem dJ9_min_7cf53_1 : decode cJ9_min_7cf53 1 = .ok (.iload_n 1, 1) := by decide +kernel
theorem dJ9_min_7cf53_2 : decode cJ9_min_7cf53 2 = .ok (.if_icmp .gt 7, 3) := by decide +kernel
theorem dJ9_min_7cf53_5 : decode cJ9_min_7cf53 5 = .ok (.iload_n 0, 1) := by decide +kernel
theorem dJ9_min_7cf53_6 : decode cJ9_min_7cf53 6 = .ok (.goto 4, 3) := by decide +kernel
theorem dJ9_min_7cf53_9 : decode cJ9_min_7cf53 9 = .ok (.iload_n 1, 1) := by decide +kernel
theorem dJ9_min_7cf53_10 : decode cJ9_min_7cf53 10 = .ok (.ireturn, 1) := by decide +kernel
theorem dJxa1e45_init_da8c8_0 : decode cJxa1e45_init_da8c8 0 = .ok (.aload_n 0, 1) := by decide +kernel
theorem dJxa1e45_init_da8c8_1 : decode cJxa1e45_init_da8c8 1 = .ok (.invokespecial 1, 3) := by decide +kernel
theorem dJxa1e45_init_da8c8_4 : decode cJxa1e45_init_da8c8 4 = .ok (.return_, 1) := by decide +kernel
theorem dJxc12de_init_da8c8_0 : decode cJxc12de_init_da8c8 0 = .ok (.aload_n 0, 1) := by decide +kernel
theorem dJxc12de_init_da8c8_1 : decode cJxc12de_init_da8c8 1 = .ok (.invokespecial 1, 3) := by decide +kernel
theorem dJxc12de_init_da8c8_4 : decode cJxc12de_init_da8c8 4 = .ok (.aload_n 0, 1) := by decide +kernel
theorem dJxc12de_init_da8c8_5 : decode cJxc12de_init_da8c8 5 = .ok (.iconst 0, 1) := by decide +kernel
theorem dJxc12de_init_da8c8_6 : decode cJxc12de_init_da8c8 6 = .ok (.putfield 7, 3) := by decide +kernel
theorem dJxc12de_init_da8c8_9 : decode cJxc12de_init_da8c8 9 = .ok (.return_, 1) := by decide +kernel
theorem dJx4a65c_init_da8c8_0 : decode cJx4a65c_init_da8c8 0 = .ok (.aload_n 0, 1) := by decide +kernel
theorem dJx4a65c_init_da8c8_1 : decode cJx4a65c_init_da8c8 1 = .ok (.invokespecial 1, 3) := by decide +kernel
theorem dJx4a65c_init_da8c8_4 : decode cJx4a65c_init_da8c8 4 = .ok (.aload_n 0, 1) := by decide +kernel
theorem dJx4a65c_init_da8c8_5 : decode cJx4a65c_init_da8c8 5 = .ok (.getstatic 39, 3) := by decide +kernel
theorem dJx4a65c_init_da8c8_8 : decode cJx4a65c_init_da8c8 8 = .ok (.putfield 9, 3) := by decide +kernel
theorem dJx4a65c_init_da8c8_11 : decode cJx4a65c_init_da8c8 11 = .ok (.return_, 1) := by decide +kernel
theorem dJx4a65c_grow_92f84_0 : decode cJx4a65c_grow_92f84 0 = .ok (.aload_n 0, 1) := by decide +kernel
theorem dJx4a65c_grow_92f84_1 : decode cJx4a65c_grow_92f84 1 = .ok (.getfield 9, 3) := by decide +kernel
theorem dJx4a65c_grow_92f84_4 : decode cJx4a65c_grow_92f84 4 = .ok (.arraylength, 1) := by decide +kernel
theorem dJx4a65c_grow_92f84_5 : decode cJx4a65c_grow_92f84 5 = .ok (.istore_n 2, 1) := by decide +kernel
theorem dJx4a65c_grow_92f84_6 : decode cJx4a65c_grow_92f84 6 = .ok (.iload_n 2, 1) := by decide +kernel
theorem dJx4a65c_grow_92f84_7 : decode cJx4a65c_grow_92f84 7 = .ok (.ifCond .gt 13, 3) := by decide +kernel
theorem dJx4a65c_grow_92f84_10 : decode cJx4a65c_grow_92f84 10 = .ok (.aload_n 0, 1) := by decide +kernel
theorem dJx4a65c_grow_92f84_11 : decode cJx4a65c_grow_92f84 11 = .ok (.getfield 9, 3) := by decide +kernel
theorem dJx4a65c_grow_92f84_14 : decode cJx4a65c_grow_92f84 14 = .ok (.getstatic 39, 3) := by decide +kernel
theorem dJx4a65c_grow_92f84_17 : decode cJx4a65c_grow_92f84 17 = .ok (.if_acmp .eq 28, 3) := by decide +kernel
theorem dJx4a65c_grow_92f84_20 : decode cJx4a65c_grow_92f84 20 = .ok (.iload_n 2, 1) := by decide +kernel
theorem dJx4a65c_grow_92f84_21 : decode cJx4a65c_grow_92f84 21 = .ok (.iload_n 1, 1) := by decide +kernel
theorem dJx4a65c_grow_92f84_22 : decode cJx4a65c_grow_92f84 22 = .ok (.iload_n 2, 1) := by decide +kernel
theorem dJx4a65c_grow_92f84_23 : decode cJx4a65c_grow_92f84 23 = .ok (.isub, 1) := by decide +kernel
theorem dJx4a65c_grow_92f84_24 : decode cJx4a65c_grow_92f84 24 = .ok (.iload_n 2, 1) := by decide +kernel
theorem dJx4a65c_grow_92f84_25 : decode cJx4a65c_grow_92f84 25 = .ok (.iconst 1, 1) := by decide +kernel
theorem dJx4a65c_grow_92f84_26 : decode cJx4a65c_grow_92f84 26 = .ok (.ishr, 1) := by decide +kernel
theorem dJx4a65c_grow_92f84_27 : decode cJx4a65c_grow_92f84 27 = .ok (.invokestatic 73, 3) := by decide +kernel
theorem dJx4a65c_grow_92f84_30 : decode cJx4a65c_grow_92f84 30 = .ok (.istore_n 3, 1) := by decide +kernel
theorem dJx4a65c_grow_92f84_31 : decode cJx4a65c_grow_92f84 31 = .ok (.aload_n 0, 1) := by decide +kernel
theorem dJx4a65c_grow_92f84_32 : decode cJx4a65c_grow_92f84 32 = .ok (.aload_n 0, 1) := by decide +kernel
theorem dJx4a65c_grow_92f84_33 : decode cJx4a65c_grow_92f84 33 = .ok (.getfield 9, 3) := by decide +kernel
theorem dJx4a65c_grow_92f84_36 : decode cJx4a65c_grow_92f84 36 = .ok (.iload_n 3, 1) := by decide +kernel
theorem dJx4a65c_grow_92f84_37 : decode cJx4a65c_grow_92f84 37 = .ok (.invokestatic 66, 3) := by decide +kernel
theorem dJx4a65c_grow_92f84_40 : decode cJx4a65c_grow_92f84 40 = .ok (.dup_x1, 1) := by decide +kernel
theorem dJx4a65c_grow_92f84_41 : decode cJx4a65c_grow_92f84 41 = .ok (.putfield 9, 3) := by decide +kernel
theorem dJx4a65c_grow_92f84_44 : decode cJx4a65c_grow_92f84 44 = .ok (.areturn, 1) := by decide +kernel
theorem dJx4a65c_grow_92f84_45 : decode cJx4a65c_grow_92f84 45 = .ok (.aload_n 0, 1) := by decide +kernel
theorem dJx4a65c_grow_92f84_46 : decode cJx4a65c_grow_92f84 46 = .ok (.bipush 10, 2) := by decide +kernel
theorem dJx4a65c_grow_92f84_48 : decode cJx4a65c_grow_92f84 48 = .ok (.iload_n 1, 1) := by decide +kernel
theorem dJx4a65c_grow_92f84_49 : decode cJx4a65c_grow_92f84 49 = .ok (.invokestatic 79, 3) := by decide +kernel
theorem dJx4a65c_grow_92f84_52 : decode cJx4a65c_grow_92f84 52 = .ok (.anewarray 7, 3) := by decide +kernel
theorem dJx4a65c_grow_92f84_55 : decode cJx4a65c_grow_92f84 55 = .ok (.dup_x1, 1) := by decide +kernel
theorem dJx4a65c_grow_92f84_56 : decode cJx4a65c_grow_92f84 56 = .ok (.putfield 9, 3) := by decide +kernel
theorem dJx4a65c_grow_92f84_59 : decode cJx4a65c_grow_92f84 59 = .ok (.areturn, 1) := by decide +kernel
theorem dJx4a65c_grow_d5877_0 : decode cJx4a65c_grow_d5877 0 = .ok (.aload_n 0, 1) := by decide +kernel
theorem dJx4a65c_grow_d5877_1 : decode cJx4a65c_grow_d5877 1 = .ok (.aload_n 0, 1) := by decide +kernel
theorem dJx4a65c_grow_d5877_2 : decode cJx4a65c_grow_d5877 2 = .ok (.getfield 48, 3) := by decide +kernel
theorem dJx4a65c_grow_d5877_5 : decode cJx4a65c_grow_d5877 5 = .ok (.iconst 1, 1) := by decide +kernel
theorem dJx4a65c_grow_d5877_6 : decode cJx4a65c_grow_d5877 6 = .ok (.iadd, 1) := by decide +kernel
theorem dJx4a65c_grow_d5877_7 : decode cJx4a65c_grow_d5877 7 = .ok (.invokevirtual 69, 3) := by decide +kernel
theorem dJx4a65c_grow_d5877_10 : decode cJx4a65c_grow_d5877 10 = .ok (.areturn, 1) := by decide +kernel
theorem dJx4a65c_size_8abf5_0 : decode cJx4a65c_size_8abf5 0 = .ok (.aload_n 0, 1) := by decide +kernel
theorem dJx4a65c_size_8abf5_1 : decode cJx4a65c_size_8abf5 1 = .ok (.getfield 48, 3) := by decide +kernel
theorem dJx4a65c_size_8abf5_4 : decode cJx4a65c_size_8abf5 4 = .ok (.ireturn, 1) := by decide +kernel
theorem dJx4a65c_elementData_915e3_0 : decode cJx4a65c_elementData_915e3 0 = .ok (.aload_n 0, 1) := by decide +kernel
theorem dJx4a65c_elementData_915e3_1 : decode cJx4a65c_elementData_915e3 1 = .ok (.getfield 9, 3) := by decide +kernel
theorem dJx4a65c_elementData_915e3_4 : decode cJx4a65c_elementData_915e3 4 = .ok (.iload_n 1, 1) := by decide +kernel
theorem dJx4a65c_elementData_915e3_5 : decode cJx4a65c_elementData_915e3 5 = .ok (.aaload, 1) := by decide +kernel
theorem dJx4a65c_elementData_915e3_6 : decode cJx4a65c_elementData_915e3 6 = .ok (.areturn, 1) := by decide +kernel
theorem dJx4a65c_get_915e3_0 : decode cJx4a65c_get_915e3 0 = .ok (.iload_n 1, 1) := by decide +kernel
theorem dJx4a65c_get_915e3_1 : decode cJx4a65c_get_915e3 1 = .ok (.aload_n 0, 1) := by decide +kernel
theorem dJx4a65c_get_915e3_2 : decode cJx4a65c_get_915e3 2 = .ok (.getfield 48, 3) := by decide +kernel
theorem dJx4a65c_get_915e3_5 : decode cJx4a65c_get_915e3 5 = .ok (.invokestatic 118, 3) := by decide +kernel
theorem dJx4a65c_get_915e3_8 : decode cJx4a65c_get_915e3 8 = .ok (.pop, 1) := by decide +kernel
theorem dJx4a65c_get_915e3_9 : decode cJx4a65c_get_915e3 9 = .ok (.aload_n 0, 1) := by decide +kernel
theorem dJx4a65c_get_915e3_10 : decode cJx4a65c_get_915e3 10 = .ok (.iload_n 1, 1) := by decide +kernel
theorem dJx4a65c_get_915e3_11 : decode cJx4a65c_get_915e3 11 = .ok (.invokevirtual 123, 3) := by decide +kernel
theorem dJx4a65c_get_915e3_14 : decode cJx4a65c_get_915e3 14 = .ok (.areturn, 1) := by decide +kernel
theorem dJx4a65c_add_72be8_0 : decode cJx4a65c_add_72be8 0 = .ok (.iload_n 3, 1) := by decide +kernel
theorem dJx4a65c_add_72be8_1 : decode cJx4a65c_add_72be8 1 = .ok (.aload_n 2, 1) := by decide +kernel
theorem dJx4a65c_add_72be8_2 : decode cJx4a65c_add_72be8 2 = .ok (.arraylength, 1) := by decide +kernel
theorem dJx4a65c_add_72be8_3 : decode cJx4a65c_add_72be8 3 = .ok (.if_icmp .ne 8, 3) := by decide +kernel
theorem dJx4a65c_add_72be8_6 : decode cJx4a65c_add_72be8 6 = .ok (.aload_n 0, 1) := by decide +kernel
theorem dJx4a65c_add_72be8_7 : decode cJx4a65c_add_72be8 7 = .ok (.invokevirtual 129, 3) := by decide +kernel
theorem dJx4a65c_add_72be8_10 : decode cJx4a65c_add_72be8 10 = .ok (.astore_n 2, 1) := by decide +kernel
theorem dJx4a65c_add_72be8_11 : decode cJx4a65c_add_72be8 11 = .ok (.aload_n 2, 1) := by decide +kernel
theorem dJx4a65c_add_72be8_12 : decode cJx4a65c_add_72be8 12 = .ok (.iload_n 3, 1) := by decide +kernel
theorem dJx4a65c_add_72be8_13 : decode cJx4a65c_add_72be8 13 = .ok (.aload_n 1, 1) := by decide +kernel
theorem dJx4a65c_add_72be8_14 : decode cJx4a65c_add_72be8 14 = .ok (.aastore, 1) := by decide +kernel
theorem dJx4a65c_add_72be8_15 : decode cJx4a65c_add_72be8 15 = .ok (.aload_n 0, 1) := by decide +kernel
theorem dJx4a65c_add_72be8_16 : decode cJx4a65c_add_72be8 16 = .ok (.iload_n 3, 1) := by decide +kernel
theorem dJx4a65c_add_72be8_17 : decode cJx4a65c_add_72be8 17 = .ok (.iconst 1, 1) := by decide +kernel
theorem dJx4a65c_add_72be8_18 : decode cJx4a65c_add_72be8 18 = .ok (.iadd, 1) := by decide +kernel
theorem dJx4a65c_add_72be8_19 : decode cJx4a65c_add_72be8 19 = .ok (.putfield 48, 3) := by decide +kernel
theorem dJx4a65c_add_72be8_22 : decode cJx4a65c_add_72be8 22 = .ok (.return_, 1) := by decide +kernel
theorem dJx4a65c_add_9ea2d_0 : decode cJx4a65c_add_9ea2d 0 = .ok (.aload_n 0, 1) := by decide +kernel
theorem dJx4a65c_add_9ea2d_1 : decode cJx4a65c_add_9ea2d 1 = .ok (.dup, 1) := by decide +kernel
theorem dJx4a65c_add_9ea2d_2 : decode cJx4a65c_add_9ea2d 2 = .ok (.getfield 63, 3) := by decide +kernel
theorem dJx4a65c_add_9ea2d_5 : decode cJx4a65c_add_9ea2d 5 = .ok (.iconst 1, 1) := by decide +kernel
theorem dJx4a65c_add_9ea2d_6 : decode cJx4a65c_add_9ea2d 6 = .ok (.iadd, 1) := by decide +kernel
theorem dJx4a65c_add_9ea2d_7 : decode cJx4a65c_add_9ea2d 7 = .ok (.putfield 63, 3) := by decide +kernel
theorem dJx4a65c_add_9ea2d_10 : decode cJx4a65c_add_9ea2d 10 = .ok (.aload_n 0, 1) := by decide +kernel
theorem dJx4a65c_add_9ea2d_11 : decode cJx4a65c_add_9ea2d 11 = .ok (.aload_n 1, 1) := by decide +kernel
theorem dJx4a65c_add_9ea2d_12 : decode cJx4a65c_add_9ea2d 12 = .ok (.aload_n 0, 1) := by decide +kernel
theorem dJx4a65c_add_9ea2d_13 : decode cJx4a65c_add_9ea2d 13 = .ok (.getfield 9, 3) := by decide +kernel
theorem dJx4a65c_add_9ea2d_16 : decode cJx4a65c_add_9ea2d 16 = .ok (.aload_n 0, 1) := by decide +kernel
theorem dJx4a65c_add_9ea2d_17 : decode cJx4a65c_add_9ea2d 17 = .ok (.getfield 48, 3) := by decide +kernel
theorem dJx4a65c_add_9ea2d_20 : decode cJx4a65c_add_9ea2d 20 = .ok (.invokevirtual 131, 3) := by decide +kernel
theorem dJx4a65c_add_9ea2d_23 : decode cJx4a65c_add_9ea2d 23 = .ok (.iconst 1, 1) := by decide +kernel
theorem dJx4a65c_add_9ea2d_24 : decode cJx4a65c_add_9ea2d 24 = .ok (.ireturn, 1) := by decide +kernel
theorem dJx4a65c_clear_da8c8_0 : decode cJx4a65c_clear_da8c8 0 = .ok (.aload_n 0, 1) := by decide +kernel
theorem dJx4a65c_clear_da8c8_1 : decode cJx4a65c_clear_da8c8 1 = .ok (.dup, 1) := by decide +kernel
theorem dJx4a65c_clear_da8c8_2 : decode cJx4a65c_clear_da8c8 2 = .ok (.getfield 63, 3) := by decide +kernel
theorem dJx4a65c_clear_da8c8_5 : decode cJx4a65c_clear_da8c8 5 = .ok (.iconst 1, 1) := by decide +kernel
theorem dJx4a65c_clear_da8c8_6 : decode cJx4a65c_clear_da8c8 6 = .ok (.iadd, 1) := by decide +kernel
theorem dJx4a65c_clear_da8c8_7 : decode cJx4a65c_clear_da8c8 7 = .ok (.putfield 63, 3) := by decide +kernel
theorem dJx4a65c_clear_da8c8_10 : decode cJx4a65c_clear_da8c8 10 = .ok (.aload_n 0, 1) := by decide +kernel
theorem dJx4a65c_clear_da8c8_11 : decode cJx4a65c_clear_da8c8 11 = .ok (.getfield 9, 3) := by decide +kernel
theorem dJx4a65c_clear_da8c8_14 : decode cJx4a65c_clear_da8c8 14 = .ok (.astore_n 1, 1) := by decide +kernel
theorem dJx4a65c_clear_da8c8_15 : decode cJx4a65c_clear_da8c8 15 = .ok (.aload_n 0, 1) := by decide +kernel
theorem dJx4a65c_clear_da8c8_16 : decode cJx4a65c_clear_da8c8 16 = .ok (.getfield 48, 3) := by decide +kernel
theorem dJx4a65c_clear_da8c8_19 : decode cJx4a65c_clear_da8c8 19 = .ok (.istore_n 2, 1) := by decide +kernel
theorem dJx4a65c_clear_da8c8_20 : decode cJx4a65c_clear_da8c8 20 = .ok (.aload_n 0, 1) := by decide +kernel
theorem dJx4a65c_clear_da8c8_21 : decode cJx4a65c_clear_da8c8 21 = .ok (.iconst 0, 1) := by decide +kernel
theorem dJx4a65c_clear_da8c8_22 : decode cJx4a65c_clear_da8c8 22 = .ok (.dup_x1, 1) := by decide +kernel
theorem dJx4a65c_clear_da8c8_23 : decode cJx4a65c_clear_da8c8 23 = .ok (.putfield 48, 3) := by decide +kernel
theorem dJx4a65c_clear_da8c8_26 : decode cJx4a65c_clear_da8c8 26 = .ok (.istore_n 3, 1) := by decide +kernel
theorem dJx4a65c_clear_da8c8_27 : decode cJx4a65c_clear_da8c8 27 = .ok (.iload_n 3, 1) := by decide +kernel
theorem dJx4a65c_clear_da8c8_28 : decode cJx4a65c_clear_da8c8 28 = .ok (.iload_n 2, 1) := by decide +kernel
theorem dJx4a65c_clear_da8c8_29 : decode cJx4a65c_clear_da8c8 29 = .ok (.if_icmp .ge 13, 3) := by decide +kernel
theorem dJx4a65c_clear_da8c8_32 : decode cJx4a65c_clear_da8c8 32 = .ok (.aload_n 1, 1) := by decide +kernel
theorem dJx4a65c_clear_da8c8_33 : decode cJx4a65c_clear_da8c8 33 = .ok (.iload_n 3, 1) := by decide +kernel
theorem dJx4a65c_clear_da8c8_34 : decode cJx4a65c_clear_da8c8 34 = .ok (.aconst_null, 1) := by decide +kernel
theorem dJx4a65c_clear_da8c8_35 : decode cJx4a65c_clear_da8c8 35 = .ok (.aastore, 1) := by decide +kernel
theorem dJx4a65c_clear_da8c8_36 : decode cJx4a65c_clear_da8c8 36 = .ok (.iinc 3 1, 3) := by decide +kernel
theorem dJx4a65c_clear_da8c8_39 : decode cJx4a65c_clear_da8c8 39 = .ok (.goto (-12), 3) := by decide +kernel
theorem dJx4a65c_clear_da8c8_42 : decode cJx4a65c_clear_da8c8 42 = .ok (.return_, 1) := by decide +kernel
theorem dJ7_copyOf_1904c_0 : decode cJ7_copyOf_1904c 0 = .ok (.aload_n 0, 1) := by decide +kernel
theorem dJ7_copyOf_1904c_1 : decode cJ7_copyOf_1904c 1 = .ok (.iload_n 1, 1) := by decide +kernel
theorem dJ7_copyOf_1904c_2 : decode cJ7_copyOf_1904c 2 = .ok (.aload_n 0, 1) := by decide +kernel
theorem dJ7_copyOf_1904c_3 : decode cJ7_copyOf_1904c 3 = .ok (.invokevirtual 86, 3) := by decide +kernel
theorem dJ7_copyOf_1904c_6 : decode cJ7_copyOf_1904c 6 = .ok (.invokestatic 300, 3) := by decide +kernel
theorem dJ7_copyOf_1904c_9 : decode cJ7_copyOf_1904c 9 = .ok (.areturn, 1) := by decide +kernel
theorem dJ7_copyOf_6403c_0 : decode cJ7_copyOf_6403c 0 = .ok (.aload_n 2, 1) := by decide +kernel
theorem dJ7_copyOf_6403c_1 : decode cJ7_copyOf_6403c 1 = .ok (.ldc 110, 2) := by decide +kernel
theorem dJ7_copyOf_6403c_3 : decode cJ7_copyOf_6403c 3 = .ok (.if_acmp .ne 10, 3) := by decide +kernel
theorem dJ7_copyOf_6403c_6 : decode cJ7_copyOf_6403c 6 = .ok (.iload_n 1, 1) := by decide +kernel
theorem dJ7_copyOf_6403c_7 : decode cJ7_copyOf_6403c 7 = .ok (.anewarray 2, 3) := by decide +kernel
theorem dJ7_copyOf_6403c_10 : decode cJ7_copyOf_6403c 10 = .ok (.goto 14, 3) := by decide +kernel
theorem dJ7_copyOf_6403c_13 : decode cJ7_copyOf_6403c 13 = .ok (.aload_n 2, 1) := by decide +kernel
theorem dJ7_copyOf_6403c_14 : decode cJ7_copyOf_6403c 14 = .ok (.invokevirtual 90, 3) := by decide +kernel
theorem dJ7_copyOf_6403c_17 : decode cJ7_copyOf_6403c 17 = .ok (.iload_n 1, 1) := by decide +kernel
theorem dJ7_copyOf_6403c_18 : decode cJ7_copyOf_6403c 18 = .ok (.invokestatic 95, 3) := by decide +kernel
theorem dJ7_copyOf_6403c_21 : decode cJ7_copyOf_6403c 21 = .ok (.checkcast 110, 3) := by decide +kernel
theorem dJ7_copyOf_6403c_24 : decode cJ7_copyOf_6403c 24 = .ok (.astore_n 3, 1) := by decide +kernel
theorem dJ7_copyOf_6403c_25 : decode cJ7_copyOf_6403c 25 = .ok (.aload_n 0, 1) := by decide +kernel
theorem dJ7_copyOf_6403c_26 : decode cJ7_copyOf_6403c 26 = .ok (.iconst 0, 1) := by decide +kernel
theorem dJ7_copyOf_6403c_27 : decode cJ7_copyOf_6403c 27 = .ok (.aload_n 3, 1) := by decide +kernel
theorem dJ7_copyOf_6403c_28 : decode cJ7_copyOf_6403c 28 = .ok (.iconst 0, 1) := by decide +kernel
theorem dJ7_copyOf_6403c_29 : decode cJ7_copyOf_6403c 29 = .ok (.aload_n 0, 1) := by decide +kernel
theorem dJ7_copyOf_6403c_30 : decode cJ7_copyOf_6403c 30 = .ok (.arraylength, 1) := by decide +kernel
theorem dJ7_copyOf_6403c_31 : decode cJ7_copyOf_6403c 31 = .ok (.iload_n 1, 1) := by decide +kernel
theorem dJ7_copyOf_6403c_32 : decode cJ7_copyOf_6403c 32 = .ok (.invokestatic 304, 3) := by decide +kernel
theorem dJ7_copyOf_6403c_35 : decode cJ7_copyOf_6403c 35 = .ok (.invokestatic 150, 3) := by decide +kernel
theorem dJ7_copyOf_6403c_38 : decode cJ7_copyOf_6403c 38 = .ok (.aload_n 3, 1) := by decide +kernel
theorem dJ7_copyOf_6403c_39 : decode cJ7_copyOf_6403c 39 = .ok (.areturn, 1) := by decide +kernel
theorem dJ15_checkIndex_7cf53_0 : decode cJ15_checkIndex_7cf53 0 = .ok (.iload_n 0, 1) := by decide +kernel
theorem dJ15_checkIndex_7cf53_1 : decode cJ15_checkIndex_7cf53 1 = .ok (.iload_n 1, 1) := by decide +kernel
theorem dJ15_checkIndex_7cf53_2 : decode cJ15_checkIndex_7cf53 2 = .ok (.aconst_null, 1) := by decide +kernel
theorem dJ15_checkIndex_7cf53_3 : decode cJ15_checkIndex_7cf53 3 = .ok (.invokestatic 105, 3) := by decide +kernel
theorem dJ15_checkIndex_7cf53_6 : decode cJ15_checkIndex_7cf53 6 = .ok (.ireturn, 1) := by decide +kernel
theorem dJ8_newLength_cabcc_0 : decode cJ8_newLength_cabcc 0 = .ok (.iload_n 0, 1) := by decide +kernel
theorem dJ8_newLength_cabcc_1 : decode cJ8_newLength_cabcc 1 = .ok (.iload_n 1, 1) := by decide +kernel
theorem dJ8_newLength_cabcc_2 : decode cJ8_newLength_cabcc 2 = .ok (.iload_n 2, 1) := by decide +kernel
theorem dJ8_newLength_cabcc_3 : decode cJ8_newLength_cabcc 3 = .ok (.invokestatic 194, 3) := by decide +kernel
theorem dJ8_newLength_cabcc_6 : decode cJ8_newLength_cabcc 6 = .ok (.iadd, 1) := by decide +kernel
theorem dJ8_newLength_cabcc_7 : decode cJ8_newLength_cabcc 7 = .ok (.istore_n 3, 1) := by decide +kernel
theorem dJ8_newLength_cabcc_8 : decode cJ8_newLength_cabcc 8 = .ok (.iconst 0, 1) := by decide +kernel
theorem dJ8_newLength_cabcc_9 : decode cJ8_newLength_cabcc 9 = .ok (.iload_n 3, 1) := by decide +kernel
theorem dJ8_newLength_cabcc_10 : decode cJ8_newLength_cabcc 10 = .ok (.if_icmp .ge 11, 3) := by decide +kernel
theorem dJ8_newLength_cabcc_13 : decode cJ8_newLength_cabcc 13 = .ok (.iload_n 3, 1) := by decide +kernel
theorem dJ8_newLength_cabcc_14 : decode cJ8_newLength_cabcc 14 = .ok (.ldc 200, 2) := by decide +kernel
theorem dJ8_newLength_cabcc_16 : decode cJ8_newLength_cabcc 16 = .ok (.if_icmp .gt 5, 3) := by decide +kernel
theorem dJ8_newLength_cabcc_19 : decode cJ8_newLength_cabcc 19 = .ok (.iload_n 3, 1) := by decide +kernel
theorem dJ8_newLength_cabcc_20 : decode cJ8_newLength_cabcc 20 = .ok (.ireturn, 1) := by decide +kernel
theorem dJ8_newLength_cabcc_21 : decode cJ8_newLength_cabcc 21 = .ok (.iload_n 0, 1) := by decide +kernel
theorem dJ8_newLength_cabcc_22 : decode cJ8_newLength_cabcc 22 = .ok (.iload_n 1, 1) := by decide +kernel
theorem dJ8_newLength_cabcc_23 : decode cJ8_newLength_cabcc 23 = .ok (.invokestatic 201, 3) := by decide +kernel
theorem dJ8_newLength_cabcc_26 : decode cJ8_newLength_cabcc 26 = .ok (.ireturn, 1) := by decide +kernel
theorem dJ8_hugeLength_7cf53_0 : decode cJ8_hugeLength_7cf53 0 = .ok (.iload_n 0, 1) := by decide +kernel
theorem dJ8_hugeLength_7cf53_1 : decode cJ8_hugeLength_7cf53 1 = .ok (.iload_n 1, 1) := by decide +kernel
theorem dJ8_hugeLength_7cf53_2 : decode cJ8_hugeLength_7cf53 2 = .ok (.iadd, 1) := by decide +kernel
theorem dJ8_hugeLength_7cf53_3 : decode cJ8_hugeLength_7cf53 3 = .ok (.istore_n 2, 1) := by decide +kernel
theorem dJ8_hugeLength_7cf53_4 : decode cJ8_hugeLength_7cf53 4 = .ok (.iload_n 2, 1) := by decide +kernel
theorem dJ8_hugeLength_7cf53_5 : decode cJ8_hugeLength_7cf53 5 = .ok (.ifCond .ge 44, 3) := by decide +kernel
theorem dJ8_hugeLength_7cf53_8 : decode cJ8_hugeLength_7cf53 8 = .ok (.new 204, 3) := by decide +kernel
theorem dJ8_hugeLength_7cf53_11 : decode cJ8_hugeLength_7cf53 11 = .ok (.dup, 1) := by decide +kernel
theorem dJ8_hugeLength_7cf53_12 : decode cJ8_hugeLength_7cf53 12 = .ok (.new 89, 3) := by decide +kernel
theorem dJ8_hugeLength_7cf53_15 : decode cJ8_hugeLength_7cf53 15 = .ok (.dup, 1) := by decide +kernel
theorem dJ8_hugeLength_7cf53_16 : decode cJ8_hugeLength_7cf53 16 = .ok (.invokespecial 91, 3) := by decide +kernel
theorem dJ8_hugeLength_7cf53_19 : decode cJ8_hugeLength_7cf53 19 = .ok (.ldc 206, 2) := by decide +kernel
theorem dJ8_hugeLength_7cf53_21 : decode cJ8_hugeLength_7cf53 21 = .ok (.invokevirtual 94, 3) := by decide +kernel
theorem dJ8_hugeLength_7cf53_24 : decode cJ8_hugeLength_7cf53 24 = .ok (.iload_n 0, 1) := by decide +kernel
theorem dJ8_hugeLength_7cf53_25 : decode cJ8_hugeLength_7cf53 25 = .ok (.invokevirtual 98, 3) := by decide +kernel
theorem dJ8_hugeLength_7cf53_28 : decode cJ8_hugeLength_7cf53 28 = .ok (.ldc 208, 2) := by decide +kernel
theorem dJ8_hugeLength_7cf53_30 : decode cJ8_hugeLength_7cf53 30 = .ok (.invokevirtual 94, 3) := by decide +kernel
theorem dJ8_hugeLength_7cf53_33 : decode cJ8_hugeLength_7cf53 33 = .ok (.iload_n 1, 1) := by decide +kernel
theorem dJ8_hugeLength_7cf53_34 : decode cJ8_hugeLength_7cf53 34 = .ok (.invokevirtual 98, 3) := by decide +kernel
theorem dJ8_hugeLength_7cf53_37 : decode cJ8_hugeLength_7cf53 37 = .ok (.ldc 210, 2) := by decide +kernel
theorem dJ8_hugeLength_7cf53_39 : decode cJ8_hugeLength_7cf53 39 = .ok (.invokevirtual 94, 3) := by decide +kernel
theorem dJ8_hugeLength_7cf53_42 : decode cJ8_hugeLength_7cf53 42 = .ok (.invokevirtual 101, 3) := by decide +kernel
theorem dJ8_hugeLength_7cf53_45 : decode cJ8_hugeLength_7cf53 45 = .ok (.invokespecial 212, 3) := by decide +kernel
theorem dJ8_hugeLength_7cf53_48 : decode cJ8_hugeLength_7cf53 48 = .ok (.athrow, 1) := by decide +kernel
theorem dJ8_hugeLength_7cf53_49 : decode cJ8_hugeLength_7cf53 49 = .ok (.iload_n 2, 1) := by decide +kernel
theorem dJ8_hugeLength_7cf53_50 : decode cJ8_hugeLength_7cf53 50 = .ok (.ldc 200, 2) := by decide +kernel
theorem dJ8_hugeLength_7cf53_52 : decode cJ8_hugeLength_7cf53 52 = .ok (.if_icmp .gt 6, 3) := by decide +kernel
theorem dJ8_hugeLength_7cf53_55 : decode cJ8_hugeLength_7cf53 55 = .ok (.ldc 200, 2) := by decide +kernel
theorem dJ8_hugeLength_7cf53_57 : decode cJ8_hugeLength_7cf53 57 = .ok (.ireturn, 1) := by decide +kernel
theorem dJ8_hugeLength_7cf53_58 : decode cJ8_hugeLength_7cf53 58 = .ok (.iload_n 2, 1) := by decide +kernel
theorem dJ8_hugeLength_7cf53_59 : decode cJ8_hugeLength_7cf53 59 = .ok (.ireturn, 1) := by decide +kernel
theorem dJ3_checkIndex_8e157_0 : decode cJ3_checkIndex_8e157 0 = .ok (.iload_n 0, 1) := by decide +kernel
theorem dJ3_checkIndex_8e157_1 : decode cJ3_checkIndex_8e157 1 = .ok (.ifCond .lt 8, 3) := by decide +kernel
theorem dJ3_checkIndex_8e157_4 : decode cJ3_checkIndex_8e157 4 = .ok (.iload_n 0, 1) := by decide +kernel
theorem dJ3_checkIndex_8e157_5 : decode cJ3_checkIndex_8e157 5 = .ok (.iload_n 1, 1) := by decide +kernel
theorem dJ3_checkIndex_8e157_6 : decode cJ3_checkIndex_8e157 6 = .ok (.if_icmp .lt 10, 3) := by decide +kernel
theorem dJ3_checkIndex_8e157_9 : decode cJ3_checkIndex_8e157 9 = .ok (.aload_n 2, 1) := by decide +kernel
theorem dJ3_checkIndex_8e157_10 : decode cJ3_checkIndex_8e157 10 = .ok (.iload_n 0, 1) := by decide +kernel
theorem dJ3_checkIndex_8e157_11 : decode cJ3_checkIndex_8e157 11 = .ok (.iload_n 1, 1) := by decide +kernel
theorem dJ3_checkIndex_8e157_12 : decode cJ3_checkIndex_8e157 12 = .ok (.invokestatic 95, 3) := by decide +kernel
theorem dJ3_checkIndex_8e157_15 : decode cJ3_checkIndex_8e157 15 = .ok (.athrow, 1) := by decide +kernel
theorem dJ3_checkIndex_8e157_16 : decode cJ3_checkIndex_8e157 16 = .ok (.iload_n 0, 1) := by decide +kernel
theorem dJ3_checkIndex_8e157_17 : decode cJ3_checkIndex_8e157 17 = .ok (.ireturn, 1) := by decide +kernel
