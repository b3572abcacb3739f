theorem dX0_init_0 : decode cX0_init 0 = .ok (.aload_n 0, 1) := by decide +kernel
theorem dX0_init_1 : decode cX0_init 1 = .ok (.invokespecial 3, 3) := by decide +kernel
theorem dX0_init_4 : decode cX0_init 4 = .ok (.aload_n 0, 1) := by decide +kernel
theorem dX0_init_5 : decode cX0_init 5 = .ok (.new 9, 3) := by decide +kernel
theorem dX0_init_8 : decode cX0_init 8 = .ok (.dup, 1) := by decide +kernel
theorem dX0_init_9 : decode cX0_init 9 = .ok (.bipush 60, 2) := by decide +kernel
theorem dX0_init_11 : decode cX0_init 11 = .ok (.iconst 4, 1) := by decide +kernel
theorem dX0_init_12 : decode cX0_init 12 = .ok (.invokespecial 11, 3) := by decide +kernel
theorem dX0_init_15 : decode cX0_init 15 = .ok (.putfield 14, 3) := by decide +kernel
theorem dX0_init_18 : decode cX0_init 18 = .ok (.aload_n 0, 1) := by decide +kernel
theorem dX0_init_19 : decode cX0_init 19 = .ok (.new 9, 3) := by decide +kernel
theorem dX0_init_22 : decode cX0_init 22 = .ok (.dup, 1) := by decide +kernel
theorem dX0_init_23 : decode cX0_init 23 = .ok (.bipush 80, 2) := by decide +kernel
theorem dX0_init_25 : decode cX0_init 25 = .ok (.bipush 120, 2) := by decide +kernel
theorem dX0_init_27 : decode cX0_init 27 = .ok (.invokespecial 11, 3) := by decide +kernel
theorem dX0_init_30 : decode cX0_init 30 = .ok (.putfield 20, 3) := by decide +kernel
theorem dX0_init_33 : decode cX0_init 33 = .ok (.aload_n 0, 1) := by decide +kernel
theorem dX0_init_34 : decode cX0_init 34 = .ok (.iconst 0, 1) := by decide +kernel
theorem dX0_init_35 : decode cX0_init 35 = .ok (.putfield 23, 3) := by decide +kernel
theorem dX0_init_38 : decode cX0_init 38 = .ok (.aload_n 0, 1) := by decide +kernel
theorem dX0_init_39 : decode cX0_init 39 = .ok (.bipush 60, 2) := by decide +kernel
theorem dX0_init_41 : decode cX0_init 41 = .ok (.newarray .int, 2) := by decide +kernel
theorem dX0_init_43 : decode cX0_init 43 = .ok (.putfield 27, 3) := by decide +kernel
theorem dX0_init_46 : decode cX0_init 46 = .ok (.aload_n 0, 1) := by decide +kernel
theorem dX0_init_47 : decode cX0_init 47 = .ok (.bipush 60, 2) := by decide +kernel
theorem dX0_init_49 : decode cX0_init 49 = .ok (.newarray .int, 2) := by decide +kernel
theorem dX0_init_51 : decode cX0_init 51 = .ok (.putfield 31, 3) := by decide +kernel
theorem dX0_init_54 : decode cX0_init 54 = .ok (.return_, 1) := by decide +kernel
theorem dX0_divide_0 : decode cX0_divide 0 = .ok (.aload_n 0, 1) := by decide +kernel
theorem dX0_divide_1 : decode cX0_divide 1 = .ok (.aload_n 1, 1) := by decide +kernel
theorem dX0_divide_2 : decode cX0_divide 2 = .ok (.invokevirtual 34, 3) := by decide +kernel
theorem dX0_divide_5 : decode cX0_divide 5 = .ok (.aload_n 0, 1) := by decide +kernel
theorem dX0_divide_6 : decode cX0_divide 6 = .ok (.iconst 0, 1) := by decide +kernel
theorem dX0_divide_7 : decode cX0_divide 7 = .ok (.putfield 23, 3) := by decide +kernel
theorem dX0_divide_10 : decode cX0_divide 10 = .ok (.iconst 0, 1) := by decide +kernel
theorem dX0_divide_11 : decode cX0_divide 11 = .ok (.istore_n 2, 1) := by decide +kernel
theorem dX0_divide_12 : decode cX0_divide 12 = .ok (.iload_n 2, 1) := by decide +kernel
theorem dX0_divide_13 : decode cX0_divide 13 = .ok (.sipush 140, 3) := by decide +kernel
theorem dX0_divide_16 : decode cX0_divide 16 = .ok (.if_icmp .ge 30, 3) := by decide +kernel
theorem dX0_divide_19 : decode cX0_divide 19 = .ok (.aload_n 0, 1) := by decide +kernel
theorem dX0_divide_20 : decode cX0_divide 20 = .ok (.aload_n 1, 1) := by decide +kernel
theorem dX0_divide_21 : decode cX0_divide 21 = .ok (.invokevirtual 38, 3) := by decide +kernel
theorem dX0_divide_24 : decode cX0_divide 24 = .ok (.ifCond .ne 6, 3) := by decide +kernel
theorem dX0_divide_27 : decode cX0_divide 27 = .ok (.goto 19, 3) := by decide +kernel
theorem dX0_divide_30 : decode cX0_divide 30 = .ok (.aload_n 0, 1) := by decide +kernel
theorem dX0_divide_31 : decode cX0_divide 31 = .ok (.dup, 1) := by decide +kernel
theorem dX0_divide_32 : decode cX0_divide 32 = .ok (.getfield 23, 3) := by decide +kernel
theorem dX0_divide_35 : decode cX0_divide 35 = .ok (.iconst 1, 1) := by decide +kernel
theorem dX0_divide_36 : decode cX0_divide 36 = .ok (.iadd, 1) := by decide +kernel
theorem dX0_divide_37 : decode cX0_divide 37 = .ok (.putfield 23, 3) := by decide +kernel
theorem dX0_divide_40 : decode cX0_divide 40 = .ok (.iinc 2 1, 3) := by decide +kernel
theorem dX0_divide_43 : decode cX0_divide 43 = .ok (.goto (-31), 3) := by decide +kernel
theorem dX0_divide_46 : decode cX0_divide 46 = .ok (.aload_n 0, 1) := by decide +kernel
theorem dX0_divide_47 : decode cX0_divide 47 = .ok (.aload_n 1, 1) := by decide +kernel
theorem dX0_divide_48 : decode cX0_divide 48 = .ok (.getfield 42, 3) := by decide +kernel
theorem dX0_divide_51 : decode cX0_divide 51 = .ok (.iconst 0, 1) := by decide +kernel
theorem dX0_divide_52 : decode cX0_divide 52 = .ok (.aload_n 0, 1) := by decide +kernel
theorem dX0_divide_53 : decode cX0_divide 53 = .ok (.getfield 27, 3) := by decide +kernel
theorem dX0_divide_56 : decode cX0_divide 56 = .ok (.invokevirtual 48, 3) := by decide +kernel
theorem dX0_divide_59 : decode cX0_divide 59 = .ok (.aload_n 0, 1) := by decide +kernel
theorem dX0_divide_60 : decode cX0_divide 60 = .ok (.aload_n 1, 1) := by decide +kernel
theorem dX0_divide_61 : decode cX0_divide 61 = .ok (.getfield 52, 3) := by decide +kernel
theorem dX0_divide_64 : decode cX0_divide 64 = .ok (.iconst 1, 1) := by decide +kernel
theorem dX0_divide_65 : decode cX0_divide 65 = .ok (.aload_n 0, 1) := by decide +kernel
theorem dX0_divide_66 : decode cX0_divide 66 = .ok (.getfield 31, 3) := by decide +kernel
theorem dX0_divide_69 : decode cX0_divide 69 = .ok (.invokevirtual 48, 3) := by decide +kernel
theorem dX0_divide_72 : decode cX0_divide 72 = .ok (.return_, 1) := by decide +kernel
theorem dX0_classOf_0 : decode cX0_classOf 0 = .ok (.aload_n 0, 1) := by decide +kernel
theorem dX0_classOf_1 : decode cX0_classOf 1 = .ok (.getfield 14, 3) := by decide +kernel
theorem dX0_classOf_4 : decode cX0_classOf 4 = .ok (.getfield 55, 3) := by decide +kernel
theorem dX0_classOf_7 : decode cX0_classOf 7 = .ok (.iload_n 1, 1) := by decide +kernel
theorem dX0_classOf_8 : decode cX0_classOf 8 = .ok (.bipush 30, 2) := by decide +kernel
theorem dX0_classOf_10 : decode cX0_classOf 10 = .ok (.imul, 1) := by decide +kernel
theorem dX0_classOf_11 : decode cX0_classOf 11 = .ok (.iload_n 2, 1) := by decide +kernel
theorem dX0_classOf_12 : decode cX0_classOf 12 = .ok (.iadd, 1) := by decide +kernel
theorem dX0_classOf_13 : decode cX0_classOf 13 = .ok (.iaload, 1) := by decide +kernel
theorem dX0_classOf_14 : decode cX0_classOf 14 = .ok (.ireturn, 1) := by decide +kernel
theorem dX0_alikeOnFirstSide_0 : decode cX0_alikeOnFirstSide 0 = .ok (.iconst 0, 1) := by decide +kernel
theorem dX0_alikeOnFirstSide_1 : decode cX0_alikeOnFirstSide 1 = .ok (.istore_n 2, 1) := by decide +kernel
theorem dX0_alikeOnFirstSide_2 : decode cX0_alikeOnFirstSide 2 = .ok (.iconst 0, 1) := by decide +kernel
theorem dX0_alikeOnFirstSide_3 : decode cX0_alikeOnFirstSide 3 = .ok (.istore_n 3, 1) := by decide +kernel
theorem dX0_alikeOnFirstSide_4 : decode cX0_alikeOnFirstSide 4 = .ok (.iload_n 3, 1) := by decide +kernel
theorem dX0_alikeOnFirstSide_5 : decode cX0_alikeOnFirstSide 5 = .ok (.aload_n 1, 1) := by decide +kernel
theorem dX0_alikeOnFirstSide_6 : decode cX0_alikeOnFirstSide 6 = .ok (.getfield 58, 3) := by decide +kernel
theorem dX0_alikeOnFirstSide_9 : decode cX0_alikeOnFirstSide 9 = .ok (.if_icmp .ge 36, 3) := by decide +kernel
theorem dX0_alikeOnFirstSide_12 : decode cX0_alikeOnFirstSide 12 = .ok (.aload_n 1, 1) := by decide +kernel
theorem dX0_alikeOnFirstSide_13 : decode cX0_alikeOnFirstSide 13 = .ok (.getfield 63, 3) := by decide +kernel
theorem dX0_alikeOnFirstSide_16 : decode cX0_alikeOnFirstSide 16 = .ok (.iload_n 3, 1) := by decide +kernel
theorem dX0_alikeOnFirstSide_17 : decode cX0_alikeOnFirstSide 17 = .ok (.baload, 1) := by decide +kernel
theorem dX0_alikeOnFirstSide_18 : decode cX0_alikeOnFirstSide 18 = .ok (.ifCond .ne 21, 3) := by decide +kernel
theorem dX0_alikeOnFirstSide_21 : decode cX0_alikeOnFirstSide 21 = .ok (.aload_n 0, 1) := by decide +kernel
theorem dX0_alikeOnFirstSide_22 : decode cX0_alikeOnFirstSide 22 = .ok (.getfield 27, 3) := by decide +kernel
theorem dX0_alikeOnFirstSide_25 : decode cX0_alikeOnFirstSide 25 = .ok (.aload_n 0, 1) := by decide +kernel
theorem dX0_alikeOnFirstSide_26 : decode cX0_alikeOnFirstSide 26 = .ok (.iconst 0, 1) := by decide +kernel
theorem dX0_alikeOnFirstSide_27 : decode cX0_alikeOnFirstSide 27 = .ok (.iload_n 3, 1) := by decide +kernel
theorem dX0_alikeOnFirstSide_28 : decode cX0_alikeOnFirstSide 28 = .ok (.invokevirtual 67, 3) := by decide +kernel
theorem dX0_alikeOnFirstSide_31 : decode cX0_alikeOnFirstSide 31 = .ok (.iaload, 1) := by decide +kernel
theorem dX0_alikeOnFirstSide_32 : decode cX0_alikeOnFirstSide 32 = .ok (.iconst 1, 1) := by decide +kernel
theorem dX0_alikeOnFirstSide_33 : decode cX0_alikeOnFirstSide 33 = .ok (.if_icmp .le 6, 3) := by decide +kernel
theorem dX0_alikeOnFirstSide_36 : decode cX0_alikeOnFirstSide 36 = .ok (.iinc 2 1, 3) := by decide +kernel
theorem dX0_alikeOnFirstSide_39 : decode cX0_alikeOnFirstSide 39 = .ok (.iinc 3 1, 3) := by decide +kernel
theorem dX0_alikeOnFirstSide_42 : decode cX0_alikeOnFirstSide 42 = .ok (.goto (-38), 3) := by decide +kernel
theorem dX0_alikeOnFirstSide_45 : decode cX0_alikeOnFirstSide 45 = .ok (.iload_n 2, 1) := by decide +kernel
theorem dX0_alikeOnFirstSide_46 : decode cX0_alikeOnFirstSide 46 = .ok (.ireturn, 1) := by decide +kernel
theorem dX0_enterAll_0 : decode cX0_enterAll 0 = .ok (.aload_n 0, 1) := by decide +kernel
theorem dX0_enterAll_1 : decode cX0_enterAll 1 = .ok (.getfield 14, 3) := by decide +kernel
theorem dX0_enterAll_4 : decode cX0_enterAll 4 = .ok (.invokevirtual 70, 3) := by decide +kernel
theorem dX0_enterAll_7 : decode cX0_enterAll 7 = .ok (.aload_n 0, 1) := by decide +kernel
theorem dX0_enterAll_8 : decode cX0_enterAll 8 = .ok (.getfield 20, 3) := by decide +kernel
theorem dX0_enterAll_11 : decode cX0_enterAll 11 = .ok (.invokevirtual 70, 3) := by decide +kernel
theorem dX0_enterAll_14 : decode cX0_enterAll 14 = .ok (.iconst 0, 1) := by decide +kernel
theorem dX0_enterAll_15 : decode cX0_enterAll 15 = .ok (.istore_n 2, 1) := by decide +kernel
theorem dX0_enterAll_16 : decode cX0_enterAll 16 = .ok (.iload_n 2, 1) := by decide +kernel
theorem dX0_enterAll_17 : decode cX0_enterAll 17 = .ok (.iconst 2, 1) := by decide +kernel
theorem dX0_enterAll_18 : decode cX0_enterAll 18 = .ok (.if_icmp .ge 113, 3) := by decide +kernel
theorem dX0_enterAll_21 : decode cX0_enterAll 21 = .ok (.aload_n 1, 1) := by decide +kernel
theorem dX0_enterAll_22 : decode cX0_enterAll 22 = .ok (.iload_n 2, 1) := by decide +kernel
theorem dX0_enterAll_23 : decode cX0_enterAll 23 = .ok (.invokevirtual 73, 3) := by decide +kernel
theorem dX0_enterAll_26 : decode cX0_enterAll 26 = .ok (.astore_n 3, 1) := by decide +kernel
theorem dX0_enterAll_27 : decode cX0_enterAll 27 = .ok (.iconst 0, 1) := by decide +kernel
theorem dX0_enterAll_28 : decode cX0_enterAll 28 = .ok (.istore 4, 2) := by decide +kernel
theorem dX0_enterAll_30 : decode cX0_enterAll 30 = .ok (.iload 4, 2) := by decide +kernel
theorem dX0_enterAll_32 : decode cX0_enterAll 32 = .ok (.aload_n 3, 1) := by decide +kernel
theorem dX0_enterAll_33 : decode cX0_enterAll 33 = .ok (.getfield 58, 3) := by decide +kernel
theorem dX0_enterAll_36 : decode cX0_enterAll 36 = .ok (.if_icmp .ge 40, 3) := by decide +kernel
theorem dX0_enterAll_39 : decode cX0_enterAll 39 = .ok (.aload_n 3, 1) := by decide +kernel
theorem dX0_enterAll_40 : decode cX0_enterAll 40 = .ok (.getfield 63, 3) := by decide +kernel
theorem dX0_enterAll_43 : decode cX0_enterAll 43 = .ok (.iload 4, 2) := by decide +kernel
theorem dX0_enterAll_45 : decode cX0_enterAll 45 = .ok (.baload, 1) := by decide +kernel
theorem dX0_enterAll_46 : decode cX0_enterAll 46 = .ok (.ifCond .ne 24, 3) := by decide +kernel
theorem dX0_enterAll_49 : decode cX0_enterAll 49 = .ok (.aload_n 0, 1) := by decide +kernel
theorem dX0_enterAll_50 : decode cX0_enterAll 50 = .ok (.getfield 14, 3) := by decide +kernel
theorem dX0_enterAll_53 : decode cX0_enterAll 53 = .ok (.iload_n 2, 1) := by decide +kernel
theorem dX0_enterAll_54 : decode cX0_enterAll 54 = .ok (.bipush 30, 2) := by decide +kernel
theorem dX0_enterAll_56 : decode cX0_enterAll 56 = .ok (.imul, 1) := by decide +kernel
theorem dX0_enterAll_57 : decode cX0_enterAll 57 = .ok (.iload 4, 2) := by decide +kernel
theorem dX0_enterAll_59 : decode cX0_enterAll 59 = .ok (.iadd, 1) := by decide +kernel
theorem dX0_enterAll_60 : decode cX0_enterAll 60 = .ok (.aload_n 3, 1) := by decide +kernel
theorem dX0_enterAll_61 : decode cX0_enterAll 61 = .ok (.getfield 77, 3) := by decide +kernel
theorem dX0_enterAll_64 : decode cX0_enterAll 64 = .ok (.iload 4, 2) := by decide +kernel
theorem dX0_enterAll_66 : decode cX0_enterAll 66 = .ok (.iaload, 1) := by decide +kernel
theorem dX0_enterAll_67 : decode cX0_enterAll 67 = .ok (.invokevirtual 80, 3) := by decide +kernel
theorem dX0_enterAll_70 : decode cX0_enterAll 70 = .ok (.iinc 4 1, 3) := by decide +kernel
theorem dX0_enterAll_73 : decode cX0_enterAll 73 = .ok (.goto (-43), 3) := by decide +kernel
theorem dX0_enterAll_76 : decode cX0_enterAll 76 = .ok (.iconst 0, 1) := by decide +kernel
theorem dX0_enterAll_77 : decode cX0_enterAll 77 = .ok (.istore 4, 2) := by decide +kernel
theorem dX0_enterAll_79 : decode cX0_enterAll 79 = .ok (.iload 4, 2) := by decide +kernel
theorem dX0_enterAll_81 : decode cX0_enterAll 81 = .ok (.aload_n 3, 1) := by decide +kernel
theorem dX0_enterAll_82 : decode cX0_enterAll 82 = .ok (.getfield 83, 3) := by decide +kernel
theorem dX0_enterAll_85 : decode cX0_enterAll 85 = .ok (.if_icmp .ge 40, 3) := by decide +kernel
theorem dX0_enterAll_88 : decode cX0_enterAll 88 = .ok (.aload_n 3, 1) := by decide +kernel
theorem dX0_enterAll_89 : decode cX0_enterAll 89 = .ok (.getfield 86, 3) := by decide +kernel
theorem dX0_enterAll_92 : decode cX0_enterAll 92 = .ok (.iload 4, 2) := by decide +kernel
theorem dX0_enterAll_94 : decode cX0_enterAll 94 = .ok (.baload, 1) := by decide +kernel
theorem dX0_enterAll_95 : decode cX0_enterAll 95 = .ok (.ifCond .eq 24, 3) := by decide +kernel
theorem dX0_enterAll_98 : decode cX0_enterAll 98 = .ok (.aload_n 0, 1) := by decide +kernel
theorem dX0_enterAll_99 : decode cX0_enterAll 99 = .ok (.getfield 20, 3) := by decide +kernel
theorem dX0_enterAll_102 : decode cX0_enterAll 102 = .ok (.iload_n 2, 1) := by decide +kernel
theorem dX0_enterAll_103 : decode cX0_enterAll 103 = .ok (.bipush 40, 2) := by decide +kernel
theorem dX0_enterAll_105 : decode cX0_enterAll 105 = .ok (.imul, 1) := by decide +kernel
theorem dX0_enterAll_106 : decode cX0_enterAll 106 = .ok (.iload 4, 2) := by decide +kernel
theorem dX0_enterAll_108 : decode cX0_enterAll 108 = .ok (.iadd, 1) := by decide +kernel
theorem dX0_enterAll_109 : decode cX0_enterAll 109 = .ok (.aload_n 3, 1) := by decide +kernel
theorem dX0_enterAll_110 : decode cX0_enterAll 110 = .ok (.getfield 89, 3) := by decide +kernel
theorem dX0_enterAll_113 : decode cX0_enterAll 113 = .ok (.iload 4, 2) := by decide +kernel
theorem dX0_enterAll_115 : decode cX0_enterAll 115 = .ok (.iaload, 1) := by decide +kernel
theorem dX0_enterAll_116 : decode cX0_enterAll 116 = .ok (.invokevirtual 80, 3) := by decide +kernel
theorem dX0_enterAll_119 : decode cX0_enterAll 119 = .ok (.iinc 4 1, 3) := by decide +kernel
theorem dX0_enterAll_122 : decode cX0_enterAll 122 = .ok (.goto (-43), 3) := by decide +kernel
theorem dX0_enterAll_125 : decode cX0_enterAll 125 = .ok (.iinc 2 1, 3) := by decide +kernel
theorem dX0_enterAll_128 : decode cX0_enterAll 128 = .ok (.goto (-112), 3) := by decide +kernel
theorem dX0_enterAll_131 : decode cX0_enterAll 131 = .ok (.aload_n 0, 1) := by decide +kernel
theorem dX0_enterAll_132 : decode cX0_enterAll 132 = .ok (.getfield 14, 3) := by decide +kernel
theorem dX0_enterAll_135 : decode cX0_enterAll 135 = .ok (.invokevirtual 92, 3) := by decide +kernel
theorem dX0_enterAll_138 : decode cX0_enterAll 138 = .ok (.pop, 1) := by decide +kernel
theorem dX0_enterAll_139 : decode cX0_enterAll 139 = .ok (.aload_n 0, 1) := by decide +kernel
theorem dX0_enterAll_140 : decode cX0_enterAll 140 = .ok (.getfield 20, 3) := by decide +kernel
theorem dX0_enterAll_143 : decode cX0_enterAll 143 = .ok (.invokevirtual 92, 3) := by decide +kernel
theorem dX0_enterAll_146 : decode cX0_enterAll 146 = .ok (.pop, 1) := by decide +kernel
theorem dX0_enterAll_147 : decode cX0_enterAll 147 = .ok (.return_, 1) := by decide +kernel
theorem dX0_makeRound_0 : decode cX0_makeRound 0 = .ok (.aload_n 0, 1) := by decide +kernel
theorem dX0_makeRound_1 : decode cX0_makeRound 1 = .ok (.getfield 14, 3) := by decide +kernel
theorem dX0_makeRound_4 : decode cX0_makeRound 4 = .ok (.invokevirtual 96, 3) := by decide +kernel
theorem dX0_makeRound_7 : decode cX0_makeRound 7 = .ok (.aload_n 0, 1) := by decide +kernel
theorem dX0_makeRound_8 : decode cX0_makeRound 8 = .ok (.getfield 20, 3) := by decide +kernel
theorem dX0_makeRound_11 : decode cX0_makeRound 11 = .ok (.invokevirtual 96, 3) := by decide +kernel
theorem dX0_makeRound_14 : decode cX0_makeRound 14 = .ok (.iconst 0, 1) := by decide +kernel
theorem dX0_makeRound_15 : decode cX0_makeRound 15 = .ok (.istore_n 2, 1) := by decide +kernel
theorem dX0_makeRound_16 : decode cX0_makeRound 16 = .ok (.iload_n 2, 1) := by decide +kernel
theorem dX0_makeRound_17 : decode cX0_makeRound 17 = .ok (.iconst 2, 1) := by decide +kernel
theorem dX0_makeRound_18 : decode cX0_makeRound 18 = .ok (.if_icmp .ge 55, 3) := by decide +kernel
theorem dX0_makeRound_21 : decode cX0_makeRound 21 = .ok (.aload_n 1, 1) := by decide +kernel
theorem dX0_makeRound_22 : decode cX0_makeRound 22 = .ok (.iload_n 2, 1) := by decide +kernel
theorem dX0_makeRound_23 : decode cX0_makeRound 23 = .ok (.invokevirtual 73, 3) := by decide +kernel
theorem dX0_makeRound_26 : decode cX0_makeRound 26 = .ok (.astore_n 3, 1) := by decide +kernel
theorem dX0_makeRound_27 : decode cX0_makeRound 27 = .ok (.iconst 0, 1) := by decide +kernel
theorem dX0_makeRound_28 : decode cX0_makeRound 28 = .ok (.istore 4, 2) := by decide +kernel
theorem dX0_makeRound_30 : decode cX0_makeRound 30 = .ok (.iload 4, 2) := by decide +kernel
theorem dX0_makeRound_32 : decode cX0_makeRound 32 = .ok (.aload_n 3, 1) := by decide +kernel
theorem dX0_makeRound_33 : decode cX0_makeRound 33 = .ok (.getfield 58, 3) := by decide +kernel
theorem dX0_makeRound_36 : decode cX0_makeRound 36 = .ok (.if_icmp .ge 31, 3) := by decide +kernel
theorem dX0_makeRound_39 : decode cX0_makeRound 39 = .ok (.aload_n 3, 1) := by decide +kernel
theorem dX0_makeRound_40 : decode cX0_makeRound 40 = .ok (.getfield 63, 3) := by decide +kernel
theorem dX0_makeRound_43 : decode cX0_makeRound 43 = .ok (.iload 4, 2) := by decide +kernel
theorem dX0_makeRound_45 : decode cX0_makeRound 45 = .ok (.baload, 1) := by decide +kernel
theorem dX0_makeRound_46 : decode cX0_makeRound 46 = .ok (.ifCond .ne 15, 3) := by decide +kernel
theorem dX0_makeRound_49 : decode cX0_makeRound 49 = .ok (.aload_n 0, 1) := by decide +kernel
theorem dX0_makeRound_50 : decode cX0_makeRound 50 = .ok (.aload_n 1, 1) := by decide +kernel
theorem dX0_makeRound_51 : decode cX0_makeRound 51 = .ok (.getfield 99, 3) := by decide +kernel
theorem dX0_makeRound_54 : decode cX0_makeRound 54 = .ok (.aload_n 3, 1) := by decide +kernel
theorem dX0_makeRound_55 : decode cX0_makeRound 55 = .ok (.iload_n 2, 1) := by decide +kernel
theorem dX0_makeRound_56 : decode cX0_makeRound 56 = .ok (.iload 4, 2) := by decide +kernel
theorem dX0_makeRound_58 : decode cX0_makeRound 58 = .ok (.invokevirtual 103, 3) := by decide +kernel
theorem dX0_makeRound_61 : decode cX0_makeRound 61 = .ok (.iinc 4 1, 3) := by decide +kernel
theorem dX0_makeRound_64 : decode cX0_makeRound 64 = .ok (.goto (-34), 3) := by decide +kernel
theorem dX0_makeRound_67 : decode cX0_makeRound 67 = .ok (.iinc 2 1, 3) := by decide +kernel
theorem dX0_makeRound_70 : decode cX0_makeRound 70 = .ok (.goto (-54), 3) := by decide +kernel
theorem dX0_makeRound_73 : decode cX0_makeRound 73 = .ok (.aload_n 0, 1) := by decide +kernel
theorem dX0_makeRound_74 : decode cX0_makeRound 74 = .ok (.getfield 14, 3) := by decide +kernel
theorem dX0_makeRound_77 : decode cX0_makeRound 77 = .ok (.invokevirtual 92, 3) := by decide +kernel
theorem dX0_makeRound_80 : decode cX0_makeRound 80 = .ok (.istore_n 2, 1) := by decide +kernel
theorem dX0_makeRound_81 : decode cX0_makeRound 81 = .ok (.aload_n 0, 1) := by decide +kernel
theorem dX0_makeRound_82 : decode cX0_makeRound 82 = .ok (.getfield 20, 3) := by decide +kernel
theorem dX0_makeRound_85 : decode cX0_makeRound 85 = .ok (.invokevirtual 92, 3) := by decide +kernel
theorem dX0_makeRound_88 : decode cX0_makeRound 88 = .ok (.istore_n 3, 1) := by decide +kernel
theorem dX0_makeRound_89 : decode cX0_makeRound 89 = .ok (.iload_n 2, 1) := by decide +kernel
theorem dX0_makeRound_90 : decode cX0_makeRound 90 = .ok (.ifCond .ne 7, 3) := by decide +kernel
theorem dX0_makeRound_93 : decode cX0_makeRound 93 = .ok (.iload_n 3, 1) := by decide +kernel
theorem dX0_makeRound_94 : decode cX0_makeRound 94 = .ok (.ifCond .eq 7, 3) := by decide +kernel
theorem dX0_makeRound_97 : decode cX0_makeRound 97 = .ok (.iconst 1, 1) := by decide +kernel
theorem dX0_makeRound_98 : decode cX0_makeRound 98 = .ok (.goto 4, 3) := by decide +kernel
theorem dX0_makeRound_101 : decode cX0_makeRound 101 = .ok (.iconst 0, 1) := by decide +kernel
theorem dX0_makeRound_102 : decode cX0_makeRound 102 = .ok (.ireturn, 1) := by decide +kernel
theorem dX0_addCodes_0 : decode cX0_addCodes 0 = .ok (.iload_n 3, 1) := by decide +kernel
theorem dX0_addCodes_1 : decode cX0_addCodes 1 = .ok (.bipush 30, 2) := by decide +kernel
theorem dX0_addCodes_3 : decode cX0_addCodes 3 = .ok (.imul, 1) := by decide +kernel
theorem dX0_addCodes_4 : decode cX0_addCodes 4 = .ok (.iload 4, 2) := by decide +kernel
theorem dX0_addCodes_6 : decode cX0_addCodes 6 = .ok (.iadd, 1) := by decide +kernel
theorem dX0_addCodes_7 : decode cX0_addCodes 7 = .ok (.istore 5, 2) := by decide +kernel
theorem dX0_addCodes_9 : decode cX0_addCodes 9 = .ok (.iconst 0, 1) := by decide +kernel
theorem dX0_addCodes_10 : decode cX0_addCodes 10 = .ok (.istore 6, 2) := by decide +kernel
theorem dX0_addCodes_12 : decode cX0_addCodes 12 = .ok (.iload 6, 2) := by decide +kernel
theorem dX0_addCodes_14 : decode cX0_addCodes 14 = .ok (.iconst 4, 1) := by decide +kernel
theorem dX0_addCodes_15 : decode cX0_addCodes 15 = .ok (.if_icmp .ge 107, 3) := by decide +kernel
theorem dX0_addCodes_18 : decode cX0_addCodes 18 = .ok (.aload_n 1, 1) := by decide +kernel
theorem dX0_addCodes_19 : decode cX0_addCodes 19 = .ok (.aload_n 2, 1) := by decide +kernel
theorem dX0_addCodes_20 : decode cX0_addCodes 20 = .ok (.getfield 77, 3) := by decide +kernel
theorem dX0_addCodes_23 : decode cX0_addCodes 23 = .ok (.iload 4, 2) := by decide +kernel
theorem dX0_addCodes_25 : decode cX0_addCodes 25 = .ok (.iaload, 1) := by decide +kernel
theorem dX0_addCodes_26 : decode cX0_addCodes 26 = .ok (.iload 6, 2) := by decide +kernel
theorem dX0_addCodes_28 : decode cX0_addCodes 28 = .ok (.invokevirtual 107, 3) := by decide +kernel
theorem dX0_addCodes_31 : decode cX0_addCodes 31 = .ok (.istore 7, 2) := by decide +kernel
theorem dX0_addCodes_33 : decode cX0_addCodes 33 = .ok (.aload_n 2, 1) := by decide +kernel
theorem dX0_addCodes_34 : decode cX0_addCodes 34 = .ok (.iload 4, 2) := by decide +kernel
theorem dX0_addCodes_36 : decode cX0_addCodes 36 = .ok (.iload 6, 2) := by decide +kernel
theorem dX0_addCodes_38 : decode cX0_addCodes 38 = .ok (.invokevirtual 112, 3) := by decide +kernel
theorem dX0_addCodes_41 : decode cX0_addCodes 41 = .ok (.istore 8, 2) := by decide +kernel
theorem dX0_addCodes_43 : decode cX0_addCodes 43 = .ok (.iconst (-1), 1) := by decide +kernel
theorem dX0_addCodes_44 : decode cX0_addCodes 44 = .ok (.istore 9, 2) := by decide +kernel
theorem dX0_addCodes_46 : decode cX0_addCodes 46 = .ok (.iload 8, 2) := by decide +kernel
theorem dX0_addCodes_48 : decode cX0_addCodes 48 = .ok (.iconst (-1), 1) := by decide +kernel
theorem dX0_addCodes_49 : decode cX0_addCodes 49 = .ok (.if_icmp .eq 49, 3) := by decide +kernel
theorem dX0_addCodes_52 : decode cX0_addCodes 52 = .ok (.aload_n 0, 1) := by decide +kernel
theorem dX0_addCodes_53 : decode cX0_addCodes 53 = .ok (.getfield 20, 3) := by decide +kernel
theorem dX0_addCodes_56 : decode cX0_addCodes 56 = .ok (.getfield 55, 3) := by decide +kernel
theorem dX0_addCodes_59 : decode cX0_addCodes 59 = .ok (.iload_n 3, 1) := by decide +kernel
theorem dX0_addCodes_60 : decode cX0_addCodes 60 = .ok (.bipush 40, 2) := by decide +kernel
theorem dX0_addCodes_62 : decode cX0_addCodes 62 = .ok (.imul, 1) := by decide +kernel
theorem dX0_addCodes_63 : decode cX0_addCodes 63 = .ok (.iload 8, 2) := by decide +kernel
theorem dX0_addCodes_65 : decode cX0_addCodes 65 = .ok (.iadd, 1) := by decide +kernel
theorem dX0_addCodes_66 : decode cX0_addCodes 66 = .ok (.iaload, 1) := by decide +kernel
theorem dX0_addCodes_67 : decode cX0_addCodes 67 = .ok (.istore 9, 2) := by decide +kernel
theorem dX0_addCodes_69 : decode cX0_addCodes 69 = .ok (.aload_n 0, 1) := by decide +kernel
theorem dX0_addCodes_70 : decode cX0_addCodes 70 = .ok (.getfield 20, 3) := by decide +kernel
theorem dX0_addCodes_73 : decode cX0_addCodes 73 = .ok (.iload_n 3, 1) := by decide +kernel
theorem dX0_addCodes_74 : decode cX0_addCodes 74 = .ok (.bipush 40, 2) := by decide +kernel
theorem dX0_addCodes_76 : decode cX0_addCodes 76 = .ok (.imul, 1) := by decide +kernel
theorem dX0_addCodes_77 : decode cX0_addCodes 77 = .ok (.iload 8, 2) := by decide +kernel
theorem dX0_addCodes_79 : decode cX0_addCodes 79 = .ok (.iadd, 1) := by decide +kernel
theorem dX0_addCodes_80 : decode cX0_addCodes 80 = .ok (.aload_n 0, 1) := by decide +kernel
theorem dX0_addCodes_81 : decode cX0_addCodes 81 = .ok (.getfield 14, 3) := by decide +kernel
theorem dX0_addCodes_84 : decode cX0_addCodes 84 = .ok (.getfield 55, 3) := by decide +kernel
theorem dX0_addCodes_87 : decode cX0_addCodes 87 = .ok (.iload 5, 2) := by decide +kernel
theorem dX0_addCodes_89 : decode cX0_addCodes 89 = .ok (.iaload, 1) := by decide +kernel
theorem dX0_addCodes_90 : decode cX0_addCodes 90 = .ok (.iconst 4, 1) := by decide +kernel
theorem dX0_addCodes_91 : decode cX0_addCodes 91 = .ok (.imul, 1) := by decide +kernel
theorem dX0_addCodes_92 : decode cX0_addCodes 92 = .ok (.iload 7, 2) := by decide +kernel
theorem dX0_addCodes_94 : decode cX0_addCodes 94 = .ok (.iadd, 1) := by decide +kernel
theorem dX0_addCodes_95 : decode cX0_addCodes 95 = .ok (.invokevirtual 115, 3) := by decide +kernel
theorem dX0_addCodes_98 : decode cX0_addCodes 98 = .ok (.aload_n 0, 1) := by decide +kernel
theorem dX0_addCodes_99 : decode cX0_addCodes 99 = .ok (.getfield 14, 3) := by decide +kernel
theorem dX0_addCodes_102 : decode cX0_addCodes 102 = .ok (.iload 5, 2) := by decide +kernel
theorem dX0_addCodes_104 : decode cX0_addCodes 104 = .ok (.iload 9, 2) := by decide +kernel
theorem dX0_addCodes_106 : decode cX0_addCodes 106 = .ok (.iconst 1, 1) := by decide +kernel
theorem dX0_addCodes_107 : decode cX0_addCodes 107 = .ok (.iadd, 1) := by decide +kernel
theorem dX0_addCodes_108 : decode cX0_addCodes 108 = .ok (.iconst 4, 1) := by decide +kernel
theorem dX0_addCodes_109 : decode cX0_addCodes 109 = .ok (.imul, 1) := by decide +kernel
theorem dX0_addCodes_110 : decode cX0_addCodes 110 = .ok (.iload 7, 2) := by decide +kernel
theorem dX0_addCodes_112 : decode cX0_addCodes 112 = .ok (.iadd, 1) := by decide +kernel
theorem dX0_addCodes_113 : decode cX0_addCodes 113 = .ok (.invokevirtual 115, 3) := by decide +kernel
theorem dX0_addCodes_116 : decode cX0_addCodes 116 = .ok (.iinc 6 1, 3) := by decide +kernel
theorem dX0_addCodes_119 : decode cX0_addCodes 119 = .ok (.goto (-107), 3) := by decide +kernel
theorem dX0_addCodes_122 : decode cX0_addCodes 122 = .ok (.return_, 1) := by decide +kernel
theorem dX0_countMembers_0 : decode cX0_countMembers 0 = .ok (.aload_n 3, 1) := by decide +kernel
theorem dX0_countMembers_1 : decode cX0_countMembers 1 = .ok (.iconst 0, 1) := by decide +kernel
theorem dX0_countMembers_2 : decode cX0_countMembers 2 = .ok (.invokestatic 118, 3) := by decide +kernel
theorem dX0_countMembers_5 : decode cX0_countMembers 5 = .ok (.iconst 0, 1) := by decide +kernel
theorem dX0_countMembers_6 : decode cX0_countMembers 6 = .ok (.istore 4, 2) := by decide +kernel
theorem dX0_countMembers_8 : decode cX0_countMembers 8 = .ok (.iload 4, 2) := by decide +kernel
theorem dX0_countMembers_10 : decode cX0_countMembers 10 = .ok (.aload_n 1, 1) := by decide +kernel
theorem dX0_countMembers_11 : decode cX0_countMembers 11 = .ok (.getfield 58, 3) := by decide +kernel
theorem dX0_countMembers_14 : decode cX0_countMembers 14 = .ok (.if_icmp .ge 32, 3) := by decide +kernel
theorem dX0_countMembers_17 : decode cX0_countMembers 17 = .ok (.aload_n 1, 1) := by decide +kernel
theorem dX0_countMembers_18 : decode cX0_countMembers 18 = .ok (.getfield 63, 3) := by decide +kernel
theorem dX0_countMembers_21 : decode cX0_countMembers 21 = .ok (.iload 4, 2) := by decide +kernel
theorem dX0_countMembers_23 : decode cX0_countMembers 23 = .ok (.baload, 1) := by decide +kernel
theorem dX0_countMembers_24 : decode cX0_countMembers 24 = .ok (.ifCond .ne 16, 3) := by decide +kernel
theorem dX0_countMembers_27 : decode cX0_countMembers 27 = .ok (.aload_n 3, 1) := by decide +kernel
theorem dX0_countMembers_28 : decode cX0_countMembers 28 = .ok (.aload_n 0, 1) := by decide +kernel
theorem dX0_countMembers_29 : decode cX0_countMembers 29 = .ok (.iload_n 2, 1) := by decide +kernel
theorem dX0_countMembers_30 : decode cX0_countMembers 30 = .ok (.iload 4, 2) := by decide +kernel
theorem dX0_countMembers_32 : decode cX0_countMembers 32 = .ok (.invokevirtual 67, 3) := by decide +kernel
theorem dX0_countMembers_35 : decode cX0_countMembers 35 = .ok (.dup2, 1) := by decide +kernel
theorem dX0_countMembers_36 : decode cX0_countMembers 36 = .ok (.iaload, 1) := by decide +kernel
theorem dX0_countMembers_37 : decode cX0_countMembers 37 = .ok (.iconst 1, 1) := by decide +kernel
theorem dX0_countMembers_38 : decode cX0_countMembers 38 = .ok (.iadd, 1) := by decide +kernel
theorem dX0_countMembers_39 : decode cX0_countMembers 39 = .ok (.iastore, 1) := by decide +kernel
theorem dX0_countMembers_40 : decode cX0_countMembers 40 = .ok (.iinc 4 1, 3) := by decide +kernel
theorem dX0_countMembers_43 : decode cX0_countMembers 43 = .ok (.goto (-35), 3) := by decide +kernel
theorem dX0_countMembers_46 : decode cX0_countMembers 46 = .ok (.return_, 1) := by decide +kernel
theorem dX1_init_0 : decode cX1_init 0 = .ok (.aload_n 0, 1) := by decide +kernel
theorem dX1_init_1 : decode cX1_init 1 = .ok (.invokespecial 3, 3) := by decide +kernel
theorem dX1_init_4 : decode cX1_init 4 = .ok (.aload_n 0, 1) := by decide +kernel
theorem dX1_init_5 : decode cX1_init 5 = .ok (.new 9, 3) := by decide +kernel
theorem dX1_init_8 : decode cX1_init 8 = .ok (.dup, 1) := by decide +kernel
theorem dX1_init_9 : decode cX1_init 9 = .ok (.invokespecial 11, 3) := by decide +kernel
theorem dX1_init_12 : decode cX1_init 12 = .ok (.putfield 12, 3) := by decide +kernel
theorem dX1_init_15 : decode cX1_init 15 = .ok (.aload_n 0, 1) := by decide +kernel
theorem dX1_init_16 : decode cX1_init 16 = .ok (.new 9, 3) := by decide +kernel
theorem dX1_init_19 : decode cX1_init 19 = .ok (.dup, 1) := by decide +kernel
theorem dX1_init_20 : decode cX1_init 20 = .ok (.invokespecial 11, 3) := by decide +kernel
theorem dX1_init_23 : decode cX1_init 23 = .ok (.putfield 18, 3) := by decide +kernel
theorem dX1_init_26 : decode cX1_init 26 = .ok (.aload_n 0, 1) := by decide +kernel
theorem dX1_init_27 : decode cX1_init 27 = .ok (.new 21, 3) := by decide +kernel
theorem dX1_init_30 : decode cX1_init 30 = .ok (.dup, 1) := by decide +kernel
theorem dX1_init_31 : decode cX1_init 31 = .ok (.invokespecial 23, 3) := by decide +kernel
theorem dX1_init_34 : decode cX1_init 34 = .ok (.putfield 24, 3) := by decide +kernel
theorem dX1_init_37 : decode cX1_init 37 = .ok (.return_, 1) := by decide +kernel
theorem dX1_sideOf_0 : decode cX1_sideOf 0 = .ok (.iload_n 1, 1) := by decide +kernel
theorem dX1_sideOf_1 : decode cX1_sideOf 1 = .ok (.ifCond .ne 10, 3) := by decide +kernel
theorem dX1_sideOf_4 : decode cX1_sideOf 4 = .ok (.aload_n 0, 1) := by decide +kernel
theorem dX1_sideOf_5 : decode cX1_sideOf 5 = .ok (.getfield 12, 3) := by decide +kernel
theorem dX1_sideOf_8 : decode cX1_sideOf 8 = .ok (.goto 7, 3) := by decide +kernel
theorem dX1_sideOf_11 : decode cX1_sideOf 11 = .ok (.aload_n 0, 1) := by decide +kernel
theorem dX1_sideOf_12 : decode cX1_sideOf 12 = .ok (.getfield 18, 3) := by decide +kernel
theorem dX1_sideOf_15 : decode cX1_sideOf 15 = .ok (.areturn, 1) := by decide +kernel
theorem dX1_markUsedNets_0 : decode cX1_markUsedNets 0 = .ok (.aload_n 0, 1) := by decide +kernel
theorem dX1_markUsedNets_1 : decode cX1_markUsedNets 1 = .ok (.getfield 12, 3) := by decide +kernel
theorem dX1_markUsedNets_4 : decode cX1_markUsedNets 4 = .ok (.invokevirtual 28, 3) := by decide +kernel
theorem dX1_markUsedNets_7 : decode cX1_markUsedNets 7 = .ok (.aload_n 0, 1) := by decide +kernel
theorem dX1_markUsedNets_8 : decode cX1_markUsedNets 8 = .ok (.getfield 18, 3) := by decide +kernel
theorem dX1_markUsedNets_11 : decode cX1_markUsedNets 11 = .ok (.invokevirtual 28, 3) := by decide +kernel
theorem dX1_markUsedNets_14 : decode cX1_markUsedNets 14 = .ok (.return_, 1) := by decide +kernel
theorem dX1_haveAsMuch_0 : decode cX1_haveAsMuch 0 = .ok (.aload_n 0, 1) := by decide +kernel
theorem dX1_haveAsMuch_1 : decode cX1_haveAsMuch 1 = .ok (.getfield 12, 3) := by decide +kernel
theorem dX1_haveAsMuch_4 : decode cX1_haveAsMuch 4 = .ok (.invokevirtual 31, 3) := by decide +kernel
theorem dX1_haveAsMuch_7 : decode cX1_haveAsMuch 7 = .ok (.aload_n 0, 1) := by decide +kernel
theorem dX1_haveAsMuch_8 : decode cX1_haveAsMuch 8 = .ok (.getfield 18, 3) := by decide +kernel
theorem dX1_haveAsMuch_11 : decode cX1_haveAsMuch 11 = .ok (.invokevirtual 31, 3) := by decide +kernel
theorem dX1_haveAsMuch_14 : decode cX1_haveAsMuch 14 = .ok (.if_icmp .ne 33, 3) := by decide +kernel
theorem dX1_haveAsMuch_17 : decode cX1_haveAsMuch 17 = .ok (.aload_n 0, 1) := by decide +kernel
theorem dX1_haveAsMuch_18 : decode cX1_haveAsMuch 18 = .ok (.getfield 12, 3) := by decide +kernel
theorem dX1_haveAsMuch_21 : decode cX1_haveAsMuch 21 = .ok (.invokevirtual 35, 3) := by decide +kernel
theorem dX1_haveAsMuch_24 : decode cX1_haveAsMuch 24 = .ok (.aload_n 0, 1) := by decide +kernel
theorem dX1_haveAsMuch_25 : decode cX1_haveAsMuch 25 = .ok (.getfield 18, 3) := by decide +kernel
theorem dX1_haveAsMuch_28 : decode cX1_haveAsMuch 28 = .ok (.invokevirtual 35, 3) := by decide +kernel
theorem dX1_haveAsMuch_31 : decode cX1_haveAsMuch 31 = .ok (.if_icmp .ne 16, 3) := by decide +kernel
theorem dX1_haveAsMuch_34 : decode cX1_haveAsMuch 34 = .ok (.aload_n 0, 1) := by decide +kernel
theorem dX1_haveAsMuch_35 : decode cX1_haveAsMuch 35 = .ok (.iconst (-1), 1) := by decide +kernel
theorem dX1_haveAsMuch_36 : decode cX1_haveAsMuch 36 = .ok (.invokevirtual 38, 3) := by decide +kernel
theorem dX1_haveAsMuch_39 : decode cX1_haveAsMuch 39 = .ok (.iconst (-1), 1) := by decide +kernel
theorem dX1_haveAsMuch_40 : decode cX1_haveAsMuch 40 = .ok (.if_icmp .ne 7, 3) := by decide +kernel
theorem dX1_haveAsMuch_43 : decode cX1_haveAsMuch 43 = .ok (.iconst 1, 1) := by decide +kernel
theorem dX1_haveAsMuch_44 : decode cX1_haveAsMuch 44 = .ok (.goto 4, 3) := by decide +kernel
theorem dX1_haveAsMuch_47 : decode cX1_haveAsMuch 47 = .ok (.iconst 0, 1) := by decide +kernel
theorem dX1_haveAsMuch_48 : decode cX1_haveAsMuch 48 = .ok (.ireturn, 1) := by decide +kernel
theorem dX1_nextUnevenName_0 : decode cX1_nextUnevenName 0 = .ok (.iload_n 1, 1) := by decide +kernel
theorem dX1_nextUnevenName_1 : decode cX1_nextUnevenName 1 = .ok (.istore_n 2, 1) := by decide +kernel
theorem dX1_nextUnevenName_2 : decode cX1_nextUnevenName 2 = .ok (.iconst 0, 1) := by decide +kernel
theorem dX1_nextUnevenName_3 : decode cX1_nextUnevenName 3 = .ok (.istore_n 3, 1) := by decide +kernel
theorem dX1_nextUnevenName_4 : decode cX1_nextUnevenName 4 = .ok (.iload_n 3, 1) := by decide +kernel
theorem dX1_nextUnevenName_5 : decode cX1_nextUnevenName 5 = .ok (.bipush 80, 2) := by decide +kernel
theorem dX1_nextUnevenName_7 : decode cX1_nextUnevenName 7 = .ok (.if_icmp .ge 74, 3) := by decide +kernel
theorem dX1_nextUnevenName_10 : decode cX1_nextUnevenName 10 = .ok (.aload_n 0, 1) := by decide +kernel
theorem dX1_nextUnevenName_11 : decode cX1_nextUnevenName 11 = .ok (.getfield 12, 3) := by decide +kernel
theorem dX1_nextUnevenName_14 : decode cX1_nextUnevenName 14 = .ok (.iload_n 2, 1) := by decide +kernel
theorem dX1_nextUnevenName_15 : decode cX1_nextUnevenName 15 = .ok (.invokevirtual 42, 3) := by decide +kernel
theorem dX1_nextUnevenName_18 : decode cX1_nextUnevenName 18 = .ok (.istore 4, 2) := by decide +kernel
theorem dX1_nextUnevenName_20 : decode cX1_nextUnevenName 20 = .ok (.aload_n 0, 1) := by decide +kernel
theorem dX1_nextUnevenName_21 : decode cX1_nextUnevenName 21 = .ok (.getfield 18, 3) := by decide +kernel
theorem dX1_nextUnevenName_24 : decode cX1_nextUnevenName 24 = .ok (.iload_n 2, 1) := by decide +kernel
theorem dX1_nextUnevenName_25 : decode cX1_nextUnevenName 25 = .ok (.invokevirtual 42, 3) := by decide +kernel
theorem dX1_nextUnevenName_28 : decode cX1_nextUnevenName 28 = .ok (.istore 5, 2) := by decide +kernel
theorem dX1_nextUnevenName_30 : decode cX1_nextUnevenName 30 = .ok (.iload 4, 2) := by decide +kernel
theorem dX1_nextUnevenName_32 : decode cX1_nextUnevenName 32 = .ok (.iload 5, 2) := by decide +kernel
theorem dX1_nextUnevenName_34 : decode cX1_nextUnevenName 34 = .ok (.if_icmp .eq 30, 3) := by decide +kernel
theorem dX1_nextUnevenName_37 : decode cX1_nextUnevenName 37 = .ok (.iload 4, 2) := by decide +kernel
theorem dX1_nextUnevenName_39 : decode cX1_nextUnevenName 39 = .ok (.iconst (-1), 1) := by decide +kernel
theorem dX1_nextUnevenName_40 : decode cX1_nextUnevenName 40 = .ok (.if_icmp .eq 16, 3) := by decide +kernel
theorem dX1_nextUnevenName_43 : decode cX1_nextUnevenName 43 = .ok (.iload 5, 2) := by decide +kernel
theorem dX1_nextUnevenName_45 : decode cX1_nextUnevenName 45 = .ok (.iconst (-1), 1) := by decide +kernel
theorem dX1_nextUnevenName_46 : decode cX1_nextUnevenName 46 = .ok (.if_icmp .eq 15, 3) := by decide +kernel
theorem dX1_nextUnevenName_49 : decode cX1_nextUnevenName 49 = .ok (.iload 5, 2) := by decide +kernel
theorem dX1_nextUnevenName_51 : decode cX1_nextUnevenName 51 = .ok (.iload 4, 2) := by decide +kernel
theorem dX1_nextUnevenName_53 : decode cX1_nextUnevenName 53 = .ok (.if_icmp .ge 8, 3) := by decide +kernel
theorem dX1_nextUnevenName_56 : decode cX1_nextUnevenName 56 = .ok (.iload 5, 2) := by decide +kernel
theorem dX1_nextUnevenName_58 : decode cX1_nextUnevenName 58 = .ok (.goto 5, 3) := by decide +kernel
theorem dX1_nextUnevenName_61 : decode cX1_nextUnevenName 61 = .ok (.iload 4, 2) := by decide +kernel
theorem dX1_nextUnevenName_63 : decode cX1_nextUnevenName 63 = .ok (.ireturn, 1) := by decide +kernel
theorem dX1_nextUnevenName_64 : decode cX1_nextUnevenName 64 = .ok (.iload 4, 2) := by decide +kernel
theorem dX1_nextUnevenName_66 : decode cX1_nextUnevenName 66 = .ok (.iconst (-1), 1) := by decide +kernel
theorem dX1_nextUnevenName_67 : decode cX1_nextUnevenName 67 = .ok (.if_icmp .ne 5, 3) := by decide +kernel
theorem dX1_nextUnevenName_70 : decode cX1_nextUnevenName 70 = .ok (.iconst (-1), 1) := by decide +kernel
theorem dX1_nextUnevenName_71 : decode cX1_nextUnevenName 71 = .ok (.ireturn, 1) := by decide +kernel
theorem dX1_nextUnevenName_72 : decode cX1_nextUnevenName 72 = .ok (.iload 4, 2) := by decide +kernel
theorem dX1_nextUnevenName_74 : decode cX1_nextUnevenName 74 = .ok (.istore_n 2, 1) := by decide +kernel
theorem dX1_nextUnevenName_75 : decode cX1_nextUnevenName 75 = .ok (.iinc 3 1, 3) := by decide +kernel
theorem dX1_nextUnevenName_78 : decode cX1_nextUnevenName 78 = .ok (.goto (-74), 3) := by decide +kernel
theorem dX1_nextUnevenName_81 : decode cX1_nextUnevenName 81 = .ok (.iconst (-1), 1) := by decide +kernel
theorem dX1_nextUnevenName_82 : decode cX1_nextUnevenName 82 = .ok (.ireturn, 1) := by decide +kernel
theorem dX2_init_0 : decode cX2_init 0 = .ok (.aload_n 0, 1) := by decide +kernel
theorem dX2_init_1 : decode cX2_init 1 = .ok (.invokespecial 3, 3) := by decide +kernel
theorem dX2_init_4 : decode cX2_init 4 = .ok (.aload_n 0, 1) := by decide +kernel
theorem dX2_init_5 : decode cX2_init 5 = .ok (.iconst 0, 1) := by decide +kernel
theorem dX2_init_6 : decode cX2_init 6 = .ok (.putfield 9, 3) := by decide +kernel
theorem dX2_init_9 : decode cX2_init 9 = .ok (.aload_n 0, 1) := by decide +kernel
theorem dX2_init_10 : decode cX2_init 10 = .ok (.sipush 356, 3) := by decide +kernel
theorem dX2_init_13 : decode cX2_init 13 = .ok (.newarray .int, 2) := by decide +kernel
theorem dX2_init_15 : decode cX2_init 15 = .ok (.putfield 15, 3) := by decide +kernel
theorem dX2_init_18 : decode cX2_init 18 = .ok (.aload_n 0, 1) := by decide +kernel
theorem dX2_init_19 : decode cX2_init 19 = .ok (.bipush 60, 2) := by decide +kernel
theorem dX2_init_21 : decode cX2_init 21 = .ok (.newarray .boolean, 2) := by decide +kernel
theorem dX2_init_23 : decode cX2_init 23 = .ok (.putfield 19, 3) := by decide +kernel
theorem dX2_init_26 : decode cX2_init 26 = .ok (.return_, 1) := by decide +kernel
theorem dX2_forget_0 : decode cX2_forget 0 = .ok (.aload_n 0, 1) := by decide +kernel
theorem dX2_forget_1 : decode cX2_forget 1 = .ok (.iconst 0, 1) := by decide +kernel
theorem dX2_forget_2 : decode cX2_forget 2 = .ok (.putfield 9, 3) := by decide +kernel
theorem dX2_forget_5 : decode cX2_forget 5 = .ok (.return_, 1) := by decide +kernel
theorem dX2_list_0 : decode cX2_list 0 = .ok (.aload_n 0, 1) := by decide +kernel
theorem dX2_list_1 : decode cX2_list 1 = .ok (.aload_n 1, 1) := by decide +kernel
theorem dX2_list_2 : decode cX2_list 2 = .ok (.invokevirtual 23, 3) := by decide +kernel
theorem dX2_list_5 : decode cX2_list 5 = .ok (.aload_n 0, 1) := by decide +kernel
theorem dX2_list_6 : decode cX2_list 6 = .ok (.aload_n 1, 1) := by decide +kernel
theorem dX2_list_7 : decode cX2_list 7 = .ok (.invokevirtual 27, 3) := by decide +kernel
theorem dX2_list_10 : decode cX2_list 10 = .ok (.aload_n 0, 1) := by decide +kernel
theorem dX2_list_11 : decode cX2_list 11 = .ok (.aload_n 1, 1) := by decide +kernel
theorem dX2_list_12 : decode cX2_list 12 = .ok (.invokevirtual 30, 3) := by decide +kernel
theorem dX2_list_15 : decode cX2_list 15 = .ok (.aload_n 0, 1) := by decide +kernel
theorem dX2_list_16 : decode cX2_list 16 = .ok (.getfield 9, 3) := by decide +kernel
theorem dX2_list_19 : decode cX2_list 19 = .ok (.ifCond .ne 9, 3) := by decide +kernel
theorem dX2_list_22 : decode cX2_list 22 = .ok (.aload_n 0, 1) := by decide +kernel
theorem dX2_list_23 : decode cX2_list 23 = .ok (.aload_n 1, 1) := by decide +kernel
theorem dX2_list_24 : decode cX2_list 24 = .ok (.aload_n 2, 1) := by decide +kernel
theorem dX2_list_25 : decode cX2_list 25 = .ok (.invokevirtual 33, 3) := by decide +kernel
theorem dX2_list_28 : decode cX2_list 28 = .ok (.aload_n 0, 1) := by decide +kernel
theorem dX2_list_29 : decode cX2_list 29 = .ok (.getfield 9, 3) := by decide +kernel
theorem dX2_list_32 : decode cX2_list 32 = .ok (.ifCond .ne 11, 3) := by decide +kernel
theorem dX2_list_35 : decode cX2_list 35 = .ok (.aload_n 0, 1) := by decide +kernel
theorem dX2_list_36 : decode cX2_list 36 = .ok (.iconst 5, 1) := by decide +kernel
theorem dX2_list_37 : decode cX2_list 37 = .ok (.iconst 0, 1) := by decide +kernel
theorem dX2_list_38 : decode cX2_list 38 = .ok (.iconst 0, 1) := by decide +kernel
theorem dX2_list_39 : decode cX2_list 39 = .ok (.iconst 0, 1) := by decide +kernel
theorem dX2_list_40 : decode cX2_list 40 = .ok (.invokevirtual 37, 3) := by decide +kernel
theorem dX2_list_43 : decode cX2_list 43 = .ok (.return_, 1) := by decide +kernel
theorem dX2_listKinds_0 : decode cX2_listKinds 0 = .ok (.iconst 0, 1) := by decide +kernel
theorem dX2_listKinds_1 : decode cX2_listKinds 1 = .ok (.istore_n 2, 1) := by decide +kernel
theorem dX2_listKinds_2 : decode cX2_listKinds 2 = .ok (.iload_n 2, 1) := by decide +kernel
theorem dX2_listKinds_3 : decode cX2_listKinds 3 = .ok (.bipush 8, 2) := by decide +kernel
theorem dX2_listKinds_5 : decode cX2_listKinds 5 = .ok (.if_icmp .ge 43, 3) := by decide +kernel
theorem dX2_listKinds_8 : decode cX2_listKinds 8 = .ok (.aload_n 1, 1) := by decide +kernel
theorem dX2_listKinds_9 : decode cX2_listKinds 9 = .ok (.getfield 41, 3) := by decide +kernel
theorem dX2_listKinds_12 : decode cX2_listKinds 12 = .ok (.iload_n 2, 1) := by decide +kernel
theorem dX2_listKinds_13 : decode cX2_listKinds 13 = .ok (.invokevirtual 47, 3) := by decide +kernel
theorem dX2_listKinds_16 : decode cX2_listKinds 16 = .ok (.istore_n 3, 1) := by decide +kernel
theorem dX2_listKinds_17 : decode cX2_listKinds 17 = .ok (.aload_n 1, 1) := by decide +kernel
theorem dX2_listKinds_18 : decode cX2_listKinds 18 = .ok (.getfield 53, 3) := by decide +kernel
theorem dX2_listKinds_21 : decode cX2_listKinds 21 = .ok (.iload_n 2, 1) := by decide +kernel
theorem dX2_listKinds_22 : decode cX2_listKinds 22 = .ok (.invokevirtual 47, 3) := by decide +kernel
theorem dX2_listKinds_25 : decode cX2_listKinds 25 = .ok (.istore 4, 2) := by decide +kernel
theorem dX2_listKinds_27 : decode cX2_listKinds 27 = .ok (.iload_n 3, 1) := by decide +kernel
theorem dX2_listKinds_28 : decode cX2_listKinds 28 = .ok (.iload 4, 2) := by decide +kernel
theorem dX2_listKinds_30 : decode cX2_listKinds 30 = .ok (.if_icmp .eq 12, 3) := by decide +kernel
theorem dX2_listKinds_33 : decode cX2_listKinds 33 = .ok (.aload_n 0, 1) := by decide +kernel
theorem dX2_listKinds_34 : decode cX2_listKinds 34 = .ok (.iconst 1, 1) := by decide +kernel
theorem dX2_listKinds_35 : decode cX2_listKinds 35 = .ok (.iload_n 2, 1) := by decide +kernel
theorem dX2_listKinds_36 : decode cX2_listKinds 36 = .ok (.iload_n 3, 1) := by decide +kernel
theorem dX2_listKinds_37 : decode cX2_listKinds 37 = .ok (.iload 4, 2) := by decide +kernel
theorem dX2_listKinds_39 : decode cX2_listKinds 39 = .ok (.invokevirtual 37, 3) := by decide +kernel
theorem dX2_listKinds_42 : decode cX2_listKinds 42 = .ok (.iinc 2 1, 3) := by decide +kernel
theorem dX2_listKinds_45 : decode cX2_listKinds 45 = .ok (.goto (-43), 3) := by decide +kernel
theorem dX2_listKinds_48 : decode cX2_listKinds 48 = .ok (.return_, 1) := by decide +kernel
theorem dX2_listNets_0 : decode cX2_listNets 0 = .ok (.aload_n 1, 1) := by decide +kernel
theorem dX2_listNets_1 : decode cX2_listNets 1 = .ok (.getfield 41, 3) := by decide +kernel
theorem dX2_listNets_4 : decode cX2_listNets 4 = .ok (.invokevirtual 56, 3) := by decide +kernel
theorem dX2_listNets_7 : decode cX2_listNets 7 = .ok (.istore_n 2, 1) := by decide +kernel
theorem dX2_listNets_8 : decode cX2_listNets 8 = .ok (.aload_n 1, 1) := by decide +kernel
theorem dX2_listNets_9 : decode cX2_listNets 9 = .ok (.getfield 53, 3) := by decide +kernel
theorem dX2_listNets_12 : decode cX2_listNets 12 = .ok (.invokevirtual 56, 3) := by decide +kernel
theorem dX2_listNets_15 : decode cX2_listNets 15 = .ok (.istore_n 3, 1) := by decide +kernel
theorem dX2_listNets_16 : decode cX2_listNets 16 = .ok (.iload_n 2, 1) := by decide +kernel
theorem dX2_listNets_17 : decode cX2_listNets 17 = .ok (.iload_n 3, 1) := by decide +kernel
theorem dX2_listNets_18 : decode cX2_listNets 18 = .ok (.if_icmp .eq 11, 3) := by decide +kernel
theorem dX2_listNets_21 : decode cX2_listNets 21 = .ok (.aload_n 0, 1) := by decide +kernel
theorem dX2_listNets_22 : decode cX2_listNets 22 = .ok (.iconst 2, 1) := by decide +kernel
theorem dX2_listNets_23 : decode cX2_listNets 23 = .ok (.iconst 0, 1) := by decide +kernel
theorem dX2_listNets_24 : decode cX2_listNets 24 = .ok (.iload_n 2, 1) := by decide +kernel
theorem dX2_listNets_25 : decode cX2_listNets 25 = .ok (.iload_n 3, 1) := by decide +kernel
theorem dX2_listNets_26 : decode cX2_listNets 26 = .ok (.invokevirtual 37, 3) := by decide +kernel
theorem dX2_listNets_29 : decode cX2_listNets 29 = .ok (.return_, 1) := by decide +kernel
theorem dX2_listNames_0 : decode cX2_listNames 0 = .ok (.iconst (-1), 1) := by decide +kernel
theorem dX2_listNames_1 : decode cX2_listNames 1 = .ok (.istore_n 2, 1) := by decide +kernel
theorem dX2_listNames_2 : decode cX2_listNames 2 = .ok (.iconst 0, 1) := by decide +kernel
theorem dX2_listNames_3 : decode cX2_listNames 3 = .ok (.istore_n 3, 1) := by decide +kernel
theorem dX2_listNames_4 : decode cX2_listNames 4 = .ok (.iload_n 3, 1) := by decide +kernel
theorem dX2_listNames_5 : decode cX2_listNames 5 = .ok (.bipush 80, 2) := by decide +kernel
theorem dX2_listNames_7 : decode cX2_listNames 7 = .ok (.if_icmp .ge 73, 3) := by decide +kernel
theorem dX2_listNames_10 : decode cX2_listNames 10 = .ok (.aload_n 1, 1) := by decide +kernel
theorem dX2_listNames_11 : decode cX2_listNames 11 = .ok (.iload_n 2, 1) := by decide +kernel
theorem dX2_listNames_12 : decode cX2_listNames 12 = .ok (.invokevirtual 60, 3) := by decide +kernel
theorem dX2_listNames_15 : decode cX2_listNames 15 = .ok (.istore 4, 2) := by decide +kernel
theorem dX2_listNames_17 : decode cX2_listNames 17 = .ok (.iload 4, 2) := by decide +kernel
theorem dX2_listNames_19 : decode cX2_listNames 19 = .ok (.iconst (-1), 1) := by decide +kernel
theorem dX2_listNames_20 : decode cX2_listNames 20 = .ok (.if_icmp .ne 4, 3) := by decide +kernel
theorem dX2_listNames_23 : decode cX2_listNames 23 = .ok (.return_, 1) := by decide +kernel
theorem dX2_listNames_24 : decode cX2_listNames 24 = .ok (.aload_n 1, 1) := by decide +kernel
theorem dX2_listNames_25 : decode cX2_listNames 25 = .ok (.getfield 41, 3) := by decide +kernel
theorem dX2_listNames_28 : decode cX2_listNames 28 = .ok (.iload 4, 2) := by decide +kernel
theorem dX2_listNames_30 : decode cX2_listNames 30 = .ok (.invokevirtual 63, 3) := by decide +kernel
theorem dX2_listNames_33 : decode cX2_listNames 33 = .ok (.iconst (-1), 1) := by decide +kernel
theorem dX2_listNames_34 : decode cX2_listNames 34 = .ok (.if_icmp .eq 7, 3) := by decide +kernel
theorem dX2_listNames_37 : decode cX2_listNames 37 = .ok (.iconst 1, 1) := by decide +kernel
theorem dX2_listNames_38 : decode cX2_listNames 38 = .ok (.goto 4, 3) := by decide +kernel
theorem dX2_listNames_41 : decode cX2_listNames 41 = .ok (.iconst 0, 1) := by decide +kernel
theorem dX2_listNames_42 : decode cX2_listNames 42 = .ok (.istore 5, 2) := by decide +kernel
theorem dX2_listNames_44 : decode cX2_listNames 44 = .ok (.aload_n 0, 1) := by decide +kernel
theorem dX2_listNames_45 : decode cX2_listNames 45 = .ok (.iconst 3, 1) := by decide +kernel
theorem dX2_listNames_46 : decode cX2_listNames 46 = .ok (.iload 4, 2) := by decide +kernel
theorem dX2_listNames_48 : decode cX2_listNames 48 = .ok (.iload 5, 2) := by decide +kernel
theorem dX2_listNames_50 : decode cX2_listNames 50 = .ok (.ifCond .eq 7, 3) := by decide +kernel
theorem dX2_listNames_53 : decode cX2_listNames 53 = .ok (.iconst 1, 1) := by decide +kernel
theorem dX2_listNames_54 : decode cX2_listNames 54 = .ok (.goto 4, 3) := by decide +kernel
theorem dX2_listNames_57 : decode cX2_listNames 57 = .ok (.iconst 0, 1) := by decide +kernel
theorem dX2_listNames_58 : decode cX2_listNames 58 = .ok (.iload 5, 2) := by decide +kernel
theorem dX2_listNames_60 : decode cX2_listNames 60 = .ok (.ifCond .eq 7, 3) := by decide +kernel
theorem dX2_listNames_63 : decode cX2_listNames 63 = .ok (.iconst 0, 1) := by decide +kernel
theorem dX2_listNames_64 : decode cX2_listNames 64 = .ok (.goto 4, 3) := by decide +kernel
theorem dX2_listNames_67 : decode cX2_listNames 67 = .ok (.iconst 1, 1) := by decide +kernel
theorem dX2_listNames_68 : decode cX2_listNames 68 = .ok (.invokevirtual 37, 3) := by decide +kernel
theorem dX2_listNames_71 : decode cX2_listNames 71 = .ok (.iload 4, 2) := by decide +kernel
theorem dX2_listNames_73 : decode cX2_listNames 73 = .ok (.istore_n 2, 1) := by decide +kernel
theorem dX2_listNames_74 : decode cX2_listNames 74 = .ok (.iinc 3 1, 3) := by decide +kernel
theorem dX2_listNames_77 : decode cX2_listNames 77 = .ok (.goto (-73), 3) := by decide +kernel
theorem dX2_listNames_80 : decode cX2_listNames 80 = .ok (.return_, 1) := by decide +kernel
theorem dX2_listClasses_0 : decode cX2_listClasses 0 = .ok (.iconst 0, 1) := by decide +kernel
theorem dX2_listClasses_1 : decode cX2_listClasses 1 = .ok (.istore_n 3, 1) := by decide +kernel
theorem dX2_listClasses_2 : decode cX2_listClasses 2 = .ok (.iload_n 3, 1) := by decide +kernel
theorem dX2_listClasses_3 : decode cX2_listClasses 3 = .ok (.bipush 60, 2) := by decide +kernel
theorem dX2_listClasses_5 : decode cX2_listClasses 5 = .ok (.if_icmp .ge 16, 3) := by decide +kernel
theorem dX2_listClasses_8 : decode cX2_listClasses 8 = .ok (.aload_n 0, 1) := by decide +kernel
theorem dX2_listClasses_9 : decode cX2_listClasses 9 = .ok (.getfield 19, 3) := by decide +kernel
theorem dX2_listClasses_12 : decode cX2_listClasses 12 = .ok (.iload_n 3, 1) := by decide +kernel
theorem dX2_listClasses_13 : decode cX2_listClasses 13 = .ok (.iconst 0, 1) := by decide +kernel
theorem dX2_listClasses_14 : decode cX2_listClasses 14 = .ok (.bastore, 1) := by decide +kernel
theorem dX2_listClasses_15 : decode cX2_listClasses 15 = .ok (.iinc 3 1, 3) := by decide +kernel
theorem dX2_listClasses_18 : decode cX2_listClasses 18 = .ok (.goto (-16), 3) := by decide +kernel
theorem dX2_listClasses_21 : decode cX2_listClasses 21 = .ok (.iconst 0, 1) := by decide +kernel
theorem dX2_listClasses_22 : decode cX2_listClasses 22 = .ok (.istore_n 3, 1) := by decide +kernel
theorem dX2_listClasses_23 : decode cX2_listClasses 23 = .ok (.iload_n 3, 1) := by decide +kernel
theorem dX2_listClasses_24 : decode cX2_listClasses 24 = .ok (.iconst 2, 1) := by decide +kernel
theorem dX2_listClasses_25 : decode cX2_listClasses 25 = .ok (.if_icmp .ge 60, 3) := by decide +kernel
theorem dX2_listClasses_28 : decode cX2_listClasses 28 = .ok (.aload_n 1, 1) := by decide +kernel
theorem dX2_listClasses_29 : decode cX2_listClasses 29 = .ok (.iload_n 3, 1) := by decide +kernel
theorem dX2_listClasses_30 : decode cX2_listClasses 30 = .ok (.invokevirtual 66, 3) := by decide +kernel
theorem dX2_listClasses_33 : decode cX2_listClasses 33 = .ok (.astore 4, 2) := by decide +kernel
theorem dX2_listClasses_35 : decode cX2_listClasses 35 = .ok (.iconst 0, 1) := by decide +kernel
theorem dX2_listClasses_36 : decode cX2_listClasses 36 = .ok (.istore 5, 2) := by decide +kernel
theorem dX2_listClasses_38 : decode cX2_listClasses 38 = .ok (.iload 5, 2) := by decide +kernel
theorem dX2_listClasses_40 : decode cX2_listClasses 40 = .ok (.aload 4, 2) := by decide +kernel
theorem dX2_listClasses_42 : decode cX2_listClasses 42 = .ok (.getfield 70, 3) := by decide +kernel
theorem dX2_listClasses_45 : decode cX2_listClasses 45 = .ok (.if_icmp .ge 34, 3) := by decide +kernel
theorem dX2_listClasses_48 : decode cX2_listClasses 48 = .ok (.aload 4, 2) := by decide +kernel
theorem dX2_listClasses_50 : decode cX2_listClasses 50 = .ok (.getfield 73, 3) := by decide +kernel
theorem dX2_listClasses_53 : decode cX2_listClasses 53 = .ok (.iload 5, 2) := by decide +kernel
theorem dX2_listClasses_55 : decode cX2_listClasses 55 = .ok (.baload, 1) := by decide +kernel
theorem dX2_listClasses_56 : decode cX2_listClasses 56 = .ok (.ifCond .ne 17, 3) := by decide +kernel
theorem dX2_listClasses_59 : decode cX2_listClasses 59 = .ok (.aload_n 0, 1) := by decide +kernel
theorem dX2_listClasses_60 : decode cX2_listClasses 60 = .ok (.aload_n 2, 1) := by decide +kernel
theorem dX2_listClasses_61 : decode cX2_listClasses 61 = .ok (.aload_n 2, 1) := by decide +kernel
theorem dX2_listClasses_62 : decode cX2_listClasses 62 = .ok (.iload_n 3, 1) := by decide +kernel
theorem dX2_listClasses_63 : decode cX2_listClasses 63 = .ok (.iload 5, 2) := by decide +kernel
theorem dX2_listClasses_65 : decode cX2_listClasses 65 = .ok (.invokevirtual 76, 3) := by decide +kernel
theorem dX2_listClasses_68 : decode cX2_listClasses 68 = .ok (.iload 5, 2) := by decide +kernel
theorem dX2_listClasses_70 : decode cX2_listClasses 70 = .ok (.invokevirtual 82, 3) := by decide +kernel
theorem dX2_listClasses_73 : decode cX2_listClasses 73 = .ok (.iinc 5 1, 3) := by decide +kernel
theorem dX2_listClasses_76 : decode cX2_listClasses 76 = .ok (.goto (-38), 3) := by decide +kernel
theorem dX2_listClasses_79 : decode cX2_listClasses 79 = .ok (.iinc 3 1, 3) := by decide +kernel
theorem dX2_listClasses_82 : decode cX2_listClasses 82 = .ok (.goto (-59), 3) := by decide +kernel
theorem dX2_listClasses_85 : decode cX2_listClasses 85 = .ok (.return_, 1) := by decide +kernel
theorem dX2_listClass_0 : decode cX2_listClass 0 = .ok (.aload_n 1, 1) := by decide +kernel
theorem dX2_listClass_1 : decode cX2_listClass 1 = .ok (.getfield 86, 3) := by decide +kernel
theorem dX2_listClass_4 : decode cX2_listClass 4 = .ok (.iload_n 2, 1) := by decide +kernel
theorem dX2_listClass_5 : decode cX2_listClass 5 = .ok (.iaload, 1) := by decide +kernel
theorem dX2_listClass_6 : decode cX2_listClass 6 = .ok (.istore 4, 2) := by decide +kernel
theorem dX2_listClass_8 : decode cX2_listClass 8 = .ok (.aload_n 1, 1) := by decide +kernel
theorem dX2_listClass_9 : decode cX2_listClass 9 = .ok (.getfield 89, 3) := by decide +kernel
theorem dX2_listClass_12 : decode cX2_listClass 12 = .ok (.iload_n 2, 1) := by decide +kernel
theorem dX2_listClass_13 : decode cX2_listClass 13 = .ok (.iaload, 1) := by decide +kernel
theorem dX2_listClass_14 : decode cX2_listClass 14 = .ok (.istore 5, 2) := by decide +kernel
theorem dX2_listClass_16 : decode cX2_listClass 16 = .ok (.aload_n 0, 1) := by decide +kernel
theorem dX2_listClass_17 : decode cX2_listClass 17 = .ok (.getfield 19, 3) := by decide +kernel
theorem dX2_listClass_20 : decode cX2_listClass 20 = .ok (.iload_n 2, 1) := by decide +kernel
theorem dX2_listClass_21 : decode cX2_listClass 21 = .ok (.baload, 1) := by decide +kernel
theorem dX2_listClass_22 : decode cX2_listClass 22 = .ok (.ifCond .ne 20, 3) := by decide +kernel
theorem dX2_listClass_25 : decode cX2_listClass 25 = .ok (.iload 4, 2) := by decide +kernel
theorem dX2_listClass_27 : decode cX2_listClass 27 = .ok (.iload 5, 2) := by decide +kernel
theorem dX2_listClass_29 : decode cX2_listClass 29 = .ok (.if_icmp .eq 13, 3) := by decide +kernel
theorem dX2_listClass_32 : decode cX2_listClass 32 = .ok (.aload_n 0, 1) := by decide +kernel
theorem dX2_listClass_33 : decode cX2_listClass 33 = .ok (.iconst 4, 1) := by decide +kernel
theorem dX2_listClass_34 : decode cX2_listClass 34 = .ok (.iload_n 3, 1) := by decide +kernel
theorem dX2_listClass_35 : decode cX2_listClass 35 = .ok (.iload 4, 2) := by decide +kernel
theorem dX2_listClass_37 : decode cX2_listClass 37 = .ok (.iload 5, 2) := by decide +kernel
theorem dX2_listClass_39 : decode cX2_listClass 39 = .ok (.invokevirtual 37, 3) := by decide +kernel
theorem dX2_listClass_42 : decode cX2_listClass 42 = .ok (.aload_n 0, 1) := by decide +kernel
theorem dX2_listClass_43 : decode cX2_listClass 43 = .ok (.getfield 19, 3) := by decide +kernel
theorem dX2_listClass_46 : decode cX2_listClass 46 = .ok (.iload_n 2, 1) := by decide +kernel
theorem dX2_listClass_47 : decode cX2_listClass 47 = .ok (.iconst 1, 1) := by decide +kernel
theorem dX2_listClass_48 : decode cX2_listClass 48 = .ok (.bastore, 1) := by decide +kernel
theorem dX2_listClass_49 : decode cX2_listClass 49 = .ok (.return_, 1) := by decide +kernel
theorem dX2_add_0 : decode cX2_add 0 = .ok (.aload_n 0, 1) := by decide +kernel
theorem dX2_add_1 : decode cX2_add 1 = .ok (.getfield 9, 3) := by decide +kernel
theorem dX2_add_4 : decode cX2_add 4 = .ok (.iconst 4, 1) := by decide +kernel
theorem dX2_add_5 : decode cX2_add 5 = .ok (.imul, 1) := by decide +kernel
theorem dX2_add_6 : decode cX2_add 6 = .ok (.istore 5, 2) := by decide +kernel
theorem dX2_add_8 : decode cX2_add 8 = .ok (.aload_n 0, 1) := by decide +kernel
theorem dX2_add_9 : decode cX2_add 9 = .ok (.getfield 15, 3) := by decide +kernel
theorem dX2_add_12 : decode cX2_add 12 = .ok (.iload 5, 2) := by decide +kernel
theorem dX2_add_14 : decode cX2_add 14 = .ok (.iload_n 1, 1) := by decide +kernel
theorem dX2_add_15 : decode cX2_add 15 = .ok (.iastore, 1) := by decide +kernel
theorem dX2_add_16 : decode cX2_add 16 = .ok (.aload_n 0, 1) := by decide +kernel
theorem dX2_add_17 : decode cX2_add 17 = .ok (.getfield 15, 3) := by decide +kernel
theorem dX2_add_20 : decode cX2_add 20 = .ok (.iload 5, 2) := by decide +kernel
theorem dX2_add_22 : decode cX2_add 22 = .ok (.iconst 1, 1) := by decide +kernel
theorem dX2_add_23 : decode cX2_add 23 = .ok (.iadd, 1) := by decide +kernel
theorem dX2_add_24 : decode cX2_add 24 = .ok (.iload_n 2, 1) := by decide +kernel
theorem dX2_add_25 : decode cX2_add 25 = .ok (.iastore, 1) := by decide +kernel
theorem dX2_add_26 : decode cX2_add 26 = .ok (.aload_n 0, 1) := by decide +kernel
theorem dX2_add_27 : decode cX2_add 27 = .ok (.getfield 15, 3) := by decide +kernel
theorem dX2_add_30 : decode cX2_add 30 = .ok (.iload 5, 2) := by decide +kernel
theorem dX2_add_32 : decode cX2_add 32 = .ok (.iconst 2, 1) := by decide +kernel
theorem dX2_add_33 : decode cX2_add 33 = .ok (.iadd, 1) := by decide +kernel
theorem dX2_add_34 : decode cX2_add 34 = .ok (.iload_n 3, 1) := by decide +kernel
theorem dX2_add_35 : decode cX2_add 35 = .ok (.iastore, 1) := by decide +kernel
theorem dX2_add_36 : decode cX2_add 36 = .ok (.aload_n 0, 1) := by decide +kernel
theorem dX2_add_37 : decode cX2_add 37 = .ok (.getfield 15, 3) := by decide +kernel
theorem dX2_add_40 : decode cX2_add 40 = .ok (.iload 5, 2) := by decide +kernel
theorem dX2_add_42 : decode cX2_add 42 = .ok (.iconst 3, 1) := by decide +kernel
theorem dX2_add_43 : decode cX2_add 43 = .ok (.iadd, 1) := by decide +kernel
theorem dX2_add_44 : decode cX2_add 44 = .ok (.iload 4, 2) := by decide +kernel
theorem dX2_add_46 : decode cX2_add 46 = .ok (.iastore, 1) := by decide +kernel
theorem dX2_add_47 : decode cX2_add 47 = .ok (.aload_n 0, 1) := by decide +kernel
theorem dX2_add_48 : decode cX2_add 48 = .ok (.dup, 1) := by decide +kernel
theorem dX2_add_49 : decode cX2_add 49 = .ok (.getfield 9, 3) := by decide +kernel
theorem dX2_add_52 : decode cX2_add 52 = .ok (.iconst 1, 1) := by decide +kernel
theorem dX2_add_53 : decode cX2_add 53 = .ok (.iadd, 1) := by decide +kernel
theorem dX2_add_54 : decode cX2_add 54 = .ok (.putfield 9, 3) := by decide +kernel
theorem dX2_add_57 : decode cX2_add 57 = .ok (.return_, 1) := by decide +kernel
theorem dX3_init_0 : decode cX3_init 0 = .ok (.aload_n 0, 1) := by decide +kernel
theorem dX3_init_1 : decode cX3_init 1 = .ok (.invokespecial 3, 3) := by decide +kernel
theorem dX3_init_4 : decode cX3_init 4 = .ok (.aload_n 0, 1) := by decide +kernel
theorem dX3_init_5 : decode cX3_init 5 = .ok (.bipush 40, 2) := by decide +kernel
theorem dX3_init_7 : decode cX3_init 7 = .ok (.newarray .int, 2) := by decide +kernel
theorem dX3_init_9 : decode cX3_init 9 = .ok (.putfield 9, 3) := by decide +kernel
theorem dX3_init_12 : decode cX3_init 12 = .ok (.return_, 1) := by decide +kernel
theorem dX3_joinAll_0 : decode cX3_joinAll 0 = .ok (.iconst 0, 1) := by decide +kernel
theorem dX3_joinAll_1 : decode cX3_joinAll 1 = .ok (.istore 4, 2) := by decide +kernel
theorem dX3_joinAll_3 : decode cX3_joinAll 3 = .ok (.iload 4, 2) := by decide +kernel
theorem dX3_joinAll_5 : decode cX3_joinAll 5 = .ok (.bipush 30, 2) := by decide +kernel
theorem dX3_joinAll_7 : decode cX3_joinAll 7 = .ok (.if_icmp .ge 20, 3) := by decide +kernel
theorem dX3_joinAll_10 : decode cX3_joinAll 10 = .ok (.aload_n 0, 1) := by decide +kernel
theorem dX3_joinAll_11 : decode cX3_joinAll 11 = .ok (.aload_n 1, 1) := by decide +kernel
theorem dX3_joinAll_12 : decode cX3_joinAll 12 = .ok (.aload_n 2, 1) := by decide +kernel
theorem dX3_joinAll_13 : decode cX3_joinAll 13 = .ok (.iload_n 3, 1) := by decide +kernel
theorem dX3_joinAll_14 : decode cX3_joinAll 14 = .ok (.invokevirtual 15, 3) := by decide +kernel
theorem dX3_joinAll_17 : decode cX3_joinAll 17 = .ok (.ifCond .ne 4, 3) := by decide +kernel
theorem dX3_joinAll_20 : decode cX3_joinAll 20 = .ok (.return_, 1) := by decide +kernel
theorem dX3_joinAll_21 : decode cX3_joinAll 21 = .ok (.iinc 4 1, 3) := by decide +kernel
theorem dX3_joinAll_24 : decode cX3_joinAll 24 = .ok (.goto (-21), 3) := by decide +kernel
theorem dX3_joinAll_27 : decode cX3_joinAll 27 = .ok (.return_, 1) := by decide +kernel
theorem dX3_joinFirstPair_0 : decode cX3_joinFirstPair 0 = .ok (.aload_n 0, 1) := by decide +kernel
theorem dX3_joinFirstPair_1 : decode cX3_joinFirstPair 1 = .ok (.aload_n 1, 1) := by decide +kernel
theorem dX3_joinFirstPair_2 : decode cX3_joinFirstPair 2 = .ok (.invokevirtual 19, 3) := by decide +kernel
theorem dX3_joinFirstPair_5 : decode cX3_joinFirstPair 5 = .ok (.iconst 0, 1) := by decide +kernel
theorem dX3_joinFirstPair_6 : decode cX3_joinFirstPair 6 = .ok (.istore 4, 2) := by decide +kernel
theorem dX3_joinFirstPair_8 : decode cX3_joinFirstPair 8 = .ok (.iload 4, 2) := by decide +kernel
theorem dX3_joinFirstPair_10 : decode cX3_joinFirstPair 10 = .ok (.aload_n 1, 1) := by decide +kernel
theorem dX3_joinFirstPair_11 : decode cX3_joinFirstPair 11 = .ok (.getfield 23, 3) := by decide +kernel
theorem dX3_joinFirstPair_14 : decode cX3_joinFirstPair 14 = .ok (.if_icmp .ge 57, 3) := by decide +kernel
theorem dX3_joinFirstPair_17 : decode cX3_joinFirstPair 17 = .ok (.iload 4, 2) := by decide +kernel
theorem dX3_joinFirstPair_19 : decode cX3_joinFirstPair 19 = .ok (.iconst 1, 1) := by decide +kernel
theorem dX3_joinFirstPair_20 : decode cX3_joinFirstPair 20 = .ok (.iadd, 1) := by decide +kernel
theorem dX3_joinFirstPair_21 : decode cX3_joinFirstPair 21 = .ok (.istore 5, 2) := by decide +kernel
theorem dX3_joinFirstPair_23 : decode cX3_joinFirstPair 23 = .ok (.iload 5, 2) := by decide +kernel
theorem dX3_joinFirstPair_25 : decode cX3_joinFirstPair 25 = .ok (.aload_n 1, 1) := by decide +kernel
theorem dX3_joinFirstPair_26 : decode cX3_joinFirstPair 26 = .ok (.getfield 23, 3) := by decide +kernel
theorem dX3_joinFirstPair_29 : decode cX3_joinFirstPair 29 = .ok (.if_icmp .ge 36, 3) := by decide +kernel
theorem dX3_joinFirstPair_32 : decode cX3_joinFirstPair 32 = .ok (.aload_n 1, 1) := by decide +kernel
theorem dX3_joinFirstPair_33 : decode cX3_joinFirstPair 33 = .ok (.iload 4, 2) := by decide +kernel
theorem dX3_joinFirstPair_35 : decode cX3_joinFirstPair 35 = .ok (.iload 5, 2) := by decide +kernel
theorem dX3_joinFirstPair_37 : decode cX3_joinFirstPair 37 = .ok (.invokestatic 29, 3) := by decide +kernel
theorem dX3_joinFirstPair_40 : decode cX3_joinFirstPair 40 = .ok (.ifCond .eq 19, 3) := by decide +kernel
theorem dX3_joinFirstPair_43 : decode cX3_joinFirstPair 43 = .ok (.aload_n 0, 1) := by decide +kernel
theorem dX3_joinFirstPair_44 : decode cX3_joinFirstPair 44 = .ok (.aload_n 1, 1) := by decide +kernel
theorem dX3_joinFirstPair_45 : decode cX3_joinFirstPair 45 = .ok (.aload_n 2, 1) := by decide +kernel
theorem dX3_joinFirstPair_46 : decode cX3_joinFirstPair 46 = .ok (.iload_n 3, 1) := by decide +kernel
theorem dX3_joinFirstPair_47 : decode cX3_joinFirstPair 47 = .ok (.iload 4, 2) := by decide +kernel
theorem dX3_joinFirstPair_49 : decode cX3_joinFirstPair 49 = .ok (.iload 5, 2) := by decide +kernel
theorem dX3_joinFirstPair_51 : decode cX3_joinFirstPair 51 = .ok (.invokevirtual 33, 3) := by decide +kernel
theorem dX3_joinFirstPair_54 : decode cX3_joinFirstPair 54 = .ok (.ifCond .eq 5, 3) := by decide +kernel
theorem dX3_joinFirstPair_57 : decode cX3_joinFirstPair 57 = .ok (.iconst 1, 1) := by decide +kernel
theorem dX3_joinFirstPair_58 : decode cX3_joinFirstPair 58 = .ok (.ireturn, 1) := by decide +kernel
theorem dX3_joinFirstPair_59 : decode cX3_joinFirstPair 59 = .ok (.iinc 5 1, 3) := by decide +kernel
theorem dX3_joinFirstPair_62 : decode cX3_joinFirstPair 62 = .ok (.goto (-39), 3) := by decide +kernel
theorem dX3_joinFirstPair_65 : decode cX3_joinFirstPair 65 = .ok (.iinc 4 1, 3) := by decide +kernel
theorem dX3_joinFirstPair_68 : decode cX3_joinFirstPair 68 = .ok (.goto (-60), 3) := by decide +kernel
theorem dX3_joinFirstPair_71 : decode cX3_joinFirstPair 71 = .ok (.iconst 0, 1) := by decide +kernel
theorem dX3_joinFirstPair_72 : decode cX3_joinFirstPair 72 = .ok (.ireturn, 1) := by decide +kernel
theorem dX3_countPins_0 : decode cX3_countPins 0 = .ok (.aload_n 0, 1) := by decide +kernel
theorem dX3_countPins_1 : decode cX3_countPins 1 = .ok (.getfield 9, 3) := by decide +kernel
theorem dX3_countPins_4 : decode cX3_countPins 4 = .ok (.iconst 0, 1) := by decide +kernel
theorem dX3_countPins_5 : decode cX3_countPins 5 = .ok (.invokestatic 37, 3) := by decide +kernel
theorem dX3_countPins_8 : decode cX3_countPins 8 = .ok (.iconst 0, 1) := by decide +kernel
theorem dX3_countPins_9 : decode cX3_countPins 9 = .ok (.istore_n 2, 1) := by decide +kernel
theorem dX3_countPins_10 : decode cX3_countPins 10 = .ok (.iload_n 2, 1) := by decide +kernel
theorem dX3_countPins_11 : decode cX3_countPins 11 = .ok (.aload_n 1, 1) := by decide +kernel
theorem dX3_countPins_12 : decode cX3_countPins 12 = .ok (.getfield 23, 3) := by decide +kernel
theorem dX3_countPins_15 : decode cX3_countPins 15 = .ok (.if_icmp .ge 56, 3) := by decide +kernel
theorem dX3_countPins_18 : decode cX3_countPins 18 = .ok (.iconst 0, 1) := by decide +kernel
theorem dX3_countPins_19 : decode cX3_countPins 19 = .ok (.istore_n 3, 1) := by decide +kernel
theorem dX3_countPins_20 : decode cX3_countPins 20 = .ok (.iload_n 3, 1) := by decide +kernel
theorem dX3_countPins_21 : decode cX3_countPins 21 = .ok (.iconst 4, 1) := by decide +kernel
theorem dX3_countPins_22 : decode cX3_countPins 22 = .ok (.if_icmp .ge 43, 3) := by decide +kernel
theorem dX3_countPins_25 : decode cX3_countPins 25 = .ok (.aload_n 1, 1) := by decide +kernel
theorem dX3_countPins_26 : decode cX3_countPins 26 = .ok (.getfield 43, 3) := by decide +kernel
theorem dX3_countPins_29 : decode cX3_countPins 29 = .ok (.iload_n 2, 1) := by decide +kernel
theorem dX3_countPins_30 : decode cX3_countPins 30 = .ok (.baload, 1) := by decide +kernel
theorem dX3_countPins_31 : decode cX3_countPins 31 = .ok (.ifCond .ne 34, 3) := by decide +kernel
theorem dX3_countPins_34 : decode cX3_countPins 34 = .ok (.aload_n 1, 1) := by decide +kernel
theorem dX3_countPins_35 : decode cX3_countPins 35 = .ok (.iload_n 2, 1) := by decide +kernel
theorem dX3_countPins_36 : decode cX3_countPins 36 = .ok (.iload_n 3, 1) := by decide +kernel
theorem dX3_countPins_37 : decode cX3_countPins 37 = .ok (.invokevirtual 47, 3) := by decide +kernel
theorem dX3_countPins_40 : decode cX3_countPins 40 = .ok (.istore 4, 2) := by decide +kernel
theorem dX3_countPins_42 : decode cX3_countPins 42 = .ok (.iload 4, 2) := by decide +kernel
theorem dX3_countPins_44 : decode cX3_countPins 44 = .ok (.iconst (-1), 1) := by decide +kernel
theorem dX3_countPins_45 : decode cX3_countPins 45 = .ok (.if_icmp .eq 14, 3) := by decide +kernel
theorem dX3_countPins_48 : decode cX3_countPins 48 = .ok (.aload_n 0, 1) := by decide +kernel
theorem dX3_countPins_49 : decode cX3_countPins 49 = .ok (.getfield 9, 3) := by decide +kernel
theorem dX3_countPins_52 : decode cX3_countPins 52 = .ok (.iload 4, 2) := by decide +kernel
theorem dX3_countPins_54 : decode cX3_countPins 54 = .ok (.dup2, 1) := by decide +kernel
theorem dX3_countPins_55 : decode cX3_countPins 55 = .ok (.iaload, 1) := by decide +kernel
theorem dX3_countPins_56 : decode cX3_countPins 56 = .ok (.iconst 1, 1) := by decide +kernel
theorem dX3_countPins_57 : decode cX3_countPins 57 = .ok (.iadd, 1) := by decide +kernel
theorem dX3_countPins_58 : decode cX3_countPins 58 = .ok (.iastore, 1) := by decide +kernel
theorem dX3_countPins_59 : decode cX3_countPins 59 = .ok (.iinc 3 1, 3) := by decide +kernel
theorem dX3_countPins_62 : decode cX3_countPins 62 = .ok (.goto (-42), 3) := by decide +kernel
theorem dX3_countPins_65 : decode cX3_countPins 65 = .ok (.iinc 2 1, 3) := by decide +kernel
theorem dX3_countPins_68 : decode cX3_countPins 68 = .ok (.goto (-58), 3) := by decide +kernel
theorem dX3_countPins_71 : decode cX3_countPins 71 = .ok (.return_, 1) := by decide +kernel
theorem dX3_areOfOneKind_0 : decode cX3_areOfOneKind 0 = .ok (.aload_n 0, 1) := by decide +kernel
theorem dX3_areOfOneKind_1 : decode cX3_areOfOneKind 1 = .ok (.getfield 43, 3) := by decide +kernel
theorem dX3_areOfOneKind_4 : decode cX3_areOfOneKind 4 = .ok (.iload_n 1, 1) := by decide +kernel
theorem dX3_areOfOneKind_5 : decode cX3_areOfOneKind 5 = .ok (.baload, 1) := by decide +kernel
theorem dX3_areOfOneKind_6 : decode cX3_areOfOneKind 6 = .ok (.ifCond .ne 31, 3) := by decide +kernel
theorem dX3_areOfOneKind_9 : decode cX3_areOfOneKind 9 = .ok (.aload_n 0, 1) := by decide +kernel
theorem dX3_areOfOneKind_10 : decode cX3_areOfOneKind 10 = .ok (.getfield 43, 3) := by decide +kernel
theorem dX3_areOfOneKind_13 : decode cX3_areOfOneKind 13 = .ok (.iload_n 2, 1) := by decide +kernel
theorem dX3_areOfOneKind_14 : decode cX3_areOfOneKind 14 = .ok (.baload, 1) := by decide +kernel
theorem dX3_areOfOneKind_15 : decode cX3_areOfOneKind 15 = .ok (.ifCond .ne 22, 3) := by decide +kernel
theorem dX3_areOfOneKind_18 : decode cX3_areOfOneKind 18 = .ok (.aload_n 0, 1) := by decide +kernel
theorem dX3_areOfOneKind_19 : decode cX3_areOfOneKind 19 = .ok (.getfield 51, 3) := by decide +kernel
theorem dX3_areOfOneKind_22 : decode cX3_areOfOneKind 22 = .ok (.iload_n 1, 1) := by decide +kernel
theorem dX3_areOfOneKind_23 : decode cX3_areOfOneKind 23 = .ok (.iaload, 1) := by decide +kernel
theorem dX3_areOfOneKind_24 : decode cX3_areOfOneKind 24 = .ok (.aload_n 0, 1) := by decide +kernel
theorem dX3_areOfOneKind_25 : decode cX3_areOfOneKind 25 = .ok (.getfield 51, 3) := by decide +kernel
theorem dX3_areOfOneKind_28 : decode cX3_areOfOneKind 28 = .ok (.iload_n 2, 1) := by decide +kernel
theorem dX3_areOfOneKind_29 : decode cX3_areOfOneKind 29 = .ok (.iaload, 1) := by decide +kernel
theorem dX3_areOfOneKind_30 : decode cX3_areOfOneKind 30 = .ok (.if_icmp .ne 7, 3) := by decide +kernel
theorem dX3_areOfOneKind_33 : decode cX3_areOfOneKind 33 = .ok (.iconst 1, 1) := by decide +kernel
theorem dX3_areOfOneKind_34 : decode cX3_areOfOneKind 34 = .ok (.goto 4, 3) := by decide +kernel
theorem dX3_areOfOneKind_37 : decode cX3_areOfOneKind 37 = .ok (.iconst 0, 1) := by decide +kernel
theorem dX3_areOfOneKind_38 : decode cX3_areOfOneKind 38 = .ok (.ireturn, 1) := by decide +kernel
theorem dX3_joinPair_0 : decode cX3_joinPair 0 = .ok (.iload_n 3, 1) := by decide +kernel
theorem dX3_joinPair_1 : decode cX3_joinPair 1 = .ok (.ifCond .ne 15, 3) := by decide +kernel
theorem dX3_joinPair_4 : decode cX3_joinPair 4 = .ok (.aload_n 1, 1) := by decide +kernel
theorem dX3_joinPair_5 : decode cX3_joinPair 5 = .ok (.aload_n 2, 1) := by decide +kernel
theorem dX3_joinPair_6 : decode cX3_joinPair 6 = .ok (.iload 4, 2) := by decide +kernel
theorem dX3_joinPair_8 : decode cX3_joinPair 8 = .ok (.iload 5, 2) := by decide +kernel
theorem dX3_joinPair_10 : decode cX3_joinPair 10 = .ok (.invokestatic 54, 3) := by decide +kernel
theorem dX3_joinPair_13 : decode cX3_joinPair 13 = .ok (.goto 13, 3) := by decide +kernel
theorem dX3_joinPair_16 : decode cX3_joinPair 16 = .ok (.aload_n 0, 1) := by decide +kernel
theorem dX3_joinPair_17 : decode cX3_joinPair 17 = .ok (.aload_n 1, 1) := by decide +kernel
theorem dX3_joinPair_18 : decode cX3_joinPair 18 = .ok (.aload_n 2, 1) := by decide +kernel
theorem dX3_joinPair_19 : decode cX3_joinPair 19 = .ok (.iload 4, 2) := by decide +kernel
theorem dX3_joinPair_21 : decode cX3_joinPair 21 = .ok (.iload 5, 2) := by decide +kernel
theorem dX3_joinPair_23 : decode cX3_joinPair 23 = .ok (.invokevirtual 58, 3) := by decide +kernel
theorem dX3_joinPair_26 : decode cX3_joinPair 26 = .ok (.ireturn, 1) := by decide +kernel
theorem dX3_joinParallel_0 : decode cX3_joinParallel 0 = .ok (.iconst 0, 1) := by decide +kernel
theorem dX3_joinParallel_1 : decode cX3_joinParallel 1 = .ok (.istore 4, 2) := by decide +kernel
theorem dX3_joinParallel_3 : decode cX3_joinParallel 3 = .ok (.iload 4, 2) := by decide +kernel
theorem dX3_joinParallel_5 : decode cX3_joinParallel 5 = .ok (.iconst 4, 1) := by decide +kernel
theorem dX3_joinParallel_6 : decode cX3_joinParallel 6 = .ok (.if_icmp .ge 57, 3) := by decide +kernel
theorem dX3_joinParallel_9 : decode cX3_joinParallel 9 = .ok (.aload_n 1, 1) := by decide +kernel
theorem dX3_joinParallel_10 : decode cX3_joinParallel 10 = .ok (.aload_n 0, 1) := by decide +kernel
theorem dX3_joinParallel_11 : decode cX3_joinParallel 11 = .ok (.getfield 51, 3) := by decide +kernel
theorem dX3_joinParallel_14 : decode cX3_joinParallel 14 = .ok (.iload_n 2, 1) := by decide +kernel
theorem dX3_joinParallel_15 : decode cX3_joinParallel 15 = .ok (.iaload, 1) := by decide +kernel
theorem dX3_joinParallel_16 : decode cX3_joinParallel 16 = .ok (.iload 4, 2) := by decide +kernel
theorem dX3_joinParallel_18 : decode cX3_joinParallel 18 = .ok (.invokevirtual 61, 3) := by decide +kernel
theorem dX3_joinParallel_21 : decode cX3_joinParallel 21 = .ok (.istore 5, 2) := by decide +kernel
theorem dX3_joinParallel_23 : decode cX3_joinParallel 23 = .ok (.aload_n 0, 1) := by decide +kernel
theorem dX3_joinParallel_24 : decode cX3_joinParallel 24 = .ok (.iload_n 2, 1) := by decide +kernel
theorem dX3_joinParallel_25 : decode cX3_joinParallel 25 = .ok (.iload 4, 2) := by decide +kernel
theorem dX3_joinParallel_27 : decode cX3_joinParallel 27 = .ok (.invokevirtual 47, 3) := by decide +kernel
theorem dX3_joinParallel_30 : decode cX3_joinParallel 30 = .ok (.istore 6, 2) := by decide +kernel
theorem dX3_joinParallel_32 : decode cX3_joinParallel 32 = .ok (.aload_n 1, 1) := by decide +kernel
theorem dX3_joinParallel_33 : decode cX3_joinParallel 33 = .ok (.aload_n 0, 1) := by decide +kernel
theorem dX3_joinParallel_34 : decode cX3_joinParallel 34 = .ok (.iload_n 2, 1) := by decide +kernel
theorem dX3_joinParallel_35 : decode cX3_joinParallel 35 = .ok (.iload 5, 2) := by decide +kernel
theorem dX3_joinParallel_37 : decode cX3_joinParallel 37 = .ok (.iload 6, 2) := by decide +kernel
theorem dX3_joinParallel_39 : decode cX3_joinParallel 39 = .ok (.invokevirtual 66, 3) := by decide +kernel
theorem dX3_joinParallel_42 : decode cX3_joinParallel 42 = .ok (.aload_n 1, 1) := by decide +kernel
theorem dX3_joinParallel_43 : decode cX3_joinParallel 43 = .ok (.aload_n 0, 1) := by decide +kernel
theorem dX3_joinParallel_44 : decode cX3_joinParallel 44 = .ok (.iload_n 3, 1) := by decide +kernel
theorem dX3_joinParallel_45 : decode cX3_joinParallel 45 = .ok (.iload 5, 2) := by decide +kernel
theorem dX3_joinParallel_47 : decode cX3_joinParallel 47 = .ok (.iload 6, 2) := by decide +kernel
theorem dX3_joinParallel_49 : decode cX3_joinParallel 49 = .ok (.invokevirtual 66, 3) := by decide +kernel
theorem dX3_joinParallel_52 : decode cX3_joinParallel 52 = .ok (.if_icmp .eq 5, 3) := by decide +kernel
theorem dX3_joinParallel_55 : decode cX3_joinParallel 55 = .ok (.iconst 0, 1) := by decide +kernel
theorem dX3_joinParallel_56 : decode cX3_joinParallel 56 = .ok (.ireturn, 1) := by decide +kernel
theorem dX3_joinParallel_57 : decode cX3_joinParallel 57 = .ok (.iinc 4 1, 3) := by decide +kernel
theorem dX3_joinParallel_60 : decode cX3_joinParallel 60 = .ok (.goto (-57), 3) := by decide +kernel
theorem dX3_joinParallel_63 : decode cX3_joinParallel 63 = .ok (.aload_n 0, 1) := by decide +kernel
theorem dX3_joinParallel_64 : decode cX3_joinParallel 64 = .ok (.getfield 70, 3) := by decide +kernel
theorem dX3_joinParallel_67 : decode cX3_joinParallel 67 = .ok (.iload_n 2, 1) := by decide +kernel
theorem dX3_joinParallel_68 : decode cX3_joinParallel 68 = .ok (.aload_n 0, 1) := by decide +kernel
theorem dX3_joinParallel_69 : decode cX3_joinParallel 69 = .ok (.getfield 70, 3) := by decide +kernel
theorem dX3_joinParallel_72 : decode cX3_joinParallel 72 = .ok (.iload_n 2, 1) := by decide +kernel
theorem dX3_joinParallel_73 : decode cX3_joinParallel 73 = .ok (.daload, 1) := by decide +kernel
theorem dX3_joinParallel_74 : decode cX3_joinParallel 74 = .ok (.aload_n 0, 1) := by decide +kernel
theorem dX3_joinParallel_75 : decode cX3_joinParallel 75 = .ok (.getfield 70, 3) := by decide +kernel
theorem dX3_joinParallel_78 : decode cX3_joinParallel 78 = .ok (.iload_n 3, 1) := by decide +kernel
theorem dX3_joinParallel_79 : decode cX3_joinParallel 79 = .ok (.daload, 1) := by decide +kernel
theorem dX3_joinParallel_80 : decode cX3_joinParallel 80 = .ok (.dadd, 1) := by decide +kernel
theorem dX3_joinParallel_81 : decode cX3_joinParallel 81 = .ok (.dastore, 1) := by decide +kernel
theorem dX3_joinParallel_82 : decode cX3_joinParallel 82 = .ok (.aload_n 0, 1) := by decide +kernel
theorem dX3_joinParallel_83 : decode cX3_joinParallel 83 = .ok (.getfield 43, 3) := by decide +kernel
theorem dX3_joinParallel_86 : decode cX3_joinParallel 86 = .ok (.iload_n 3, 1) := by decide +kernel
theorem dX3_joinParallel_87 : decode cX3_joinParallel 87 = .ok (.iconst 1, 1) := by decide +kernel
theorem dX3_joinParallel_88 : decode cX3_joinParallel 88 = .ok (.bastore, 1) := by decide +kernel
theorem dX3_joinParallel_89 : decode cX3_joinParallel 89 = .ok (.iconst 1, 1) := by decide +kernel
theorem dX3_joinParallel_90 : decode cX3_joinParallel 90 = .ok (.ireturn, 1) := by decide +kernel
theorem dX3_joinSeries_0 : decode cX3_joinSeries 0 = .ok (.aload_n 1, 1) := by decide +kernel
theorem dX3_joinSeries_1 : decode cX3_joinSeries 1 = .ok (.aload_n 2, 1) := by decide +kernel
theorem dX3_joinSeries_2 : decode cX3_joinSeries 2 = .ok (.iload_n 3, 1) := by decide +kernel
theorem dX3_joinSeries_3 : decode cX3_joinSeries 3 = .ok (.invokestatic 74, 3) := by decide +kernel
theorem dX3_joinSeries_6 : decode cX3_joinSeries 6 = .ok (.ifCond .eq 13, 3) := by decide +kernel
theorem dX3_joinSeries_9 : decode cX3_joinSeries 9 = .ok (.aload_n 1, 1) := by decide +kernel
theorem dX3_joinSeries_10 : decode cX3_joinSeries 10 = .ok (.aload_n 2, 1) := by decide +kernel
theorem dX3_joinSeries_11 : decode cX3_joinSeries 11 = .ok (.iload 4, 2) := by decide +kernel
theorem dX3_joinSeries_13 : decode cX3_joinSeries 13 = .ok (.invokestatic 74, 3) := by decide +kernel
theorem dX3_joinSeries_16 : decode cX3_joinSeries 16 = .ok (.ifCond .ne 5, 3) := by decide +kernel
theorem dX3_joinSeries_19 : decode cX3_joinSeries 19 = .ok (.iconst 0, 1) := by decide +kernel
theorem dX3_joinSeries_20 : decode cX3_joinSeries 20 = .ok (.ireturn, 1) := by decide +kernel
theorem dX3_joinSeries_21 : decode cX3_joinSeries 21 = .ok (.aload_n 0, 1) := by decide +kernel
theorem dX3_joinSeries_22 : decode cX3_joinSeries 22 = .ok (.aload_n 1, 1) := by decide +kernel
theorem dX3_joinSeries_23 : decode cX3_joinSeries 23 = .ok (.iload_n 3, 1) := by decide +kernel
theorem dX3_joinSeries_24 : decode cX3_joinSeries 24 = .ok (.iload 4, 2) := by decide +kernel
theorem dX3_joinSeries_26 : decode cX3_joinSeries 26 = .ok (.invokevirtual 77, 3) := by decide +kernel
theorem dX3_joinSeries_29 : decode cX3_joinSeries 29 = .ok (.istore 5, 2) := by decide +kernel
theorem dX3_joinSeries_31 : decode cX3_joinSeries 31 = .ok (.iload 5, 2) := by decide +kernel
theorem dX3_joinSeries_33 : decode cX3_joinSeries 33 = .ok (.iconst (-1), 1) := by decide +kernel
theorem dX3_joinSeries_34 : decode cX3_joinSeries 34 = .ok (.if_icmp .ne 5, 3) := by decide +kernel
theorem dX3_joinSeries_37 : decode cX3_joinSeries 37 = .ok (.iconst 0, 1) := by decide +kernel
theorem dX3_joinSeries_38 : decode cX3_joinSeries 38 = .ok (.ireturn, 1) := by decide +kernel
theorem dX3_joinSeries_39 : decode cX3_joinSeries 39 = .ok (.aload_n 1, 1) := by decide +kernel
theorem dX3_joinSeries_40 : decode cX3_joinSeries 40 = .ok (.iload_n 3, 1) := by decide +kernel
theorem dX3_joinSeries_41 : decode cX3_joinSeries 41 = .ok (.iconst 0, 1) := by decide +kernel
theorem dX3_joinSeries_42 : decode cX3_joinSeries 42 = .ok (.invokevirtual 47, 3) := by decide +kernel
theorem dX3_joinSeries_45 : decode cX3_joinSeries 45 = .ok (.iload 5, 2) := by decide +kernel
theorem dX3_joinSeries_47 : decode cX3_joinSeries 47 = .ok (.if_icmp .ne 7, 3) := by decide +kernel
theorem dX3_joinSeries_50 : decode cX3_joinSeries 50 = .ok (.iconst 0, 1) := by decide +kernel
theorem dX3_joinSeries_51 : decode cX3_joinSeries 51 = .ok (.goto 4, 3) := by decide +kernel
theorem dX3_joinSeries_54 : decode cX3_joinSeries 54 = .ok (.iconst 1, 1) := by decide +kernel
theorem dX3_joinSeries_55 : decode cX3_joinSeries 55 = .ok (.istore 6, 2) := by decide +kernel
theorem dX3_joinSeries_57 : decode cX3_joinSeries 57 = .ok (.aload_n 1, 1) := by decide +kernel
theorem dX3_joinSeries_58 : decode cX3_joinSeries 58 = .ok (.iload 4, 2) := by decide +kernel
theorem dX3_joinSeries_60 : decode cX3_joinSeries 60 = .ok (.iconst 0, 1) := by decide +kernel
theorem dX3_joinSeries_61 : decode cX3_joinSeries 61 = .ok (.invokevirtual 47, 3) := by decide +kernel
theorem dX3_joinSeries_64 : decode cX3_joinSeries 64 = .ok (.iload 5, 2) := by decide +kernel
theorem dX3_joinSeries_66 : decode cX3_joinSeries 66 = .ok (.if_icmp .ne 7, 3) := by decide +kernel
theorem dX3_joinSeries_69 : decode cX3_joinSeries 69 = .ok (.iconst 1, 1) := by decide +kernel
theorem dX3_joinSeries_70 : decode cX3_joinSeries 70 = .ok (.goto 4, 3) := by decide +kernel
theorem dX3_joinSeries_73 : decode cX3_joinSeries 73 = .ok (.iconst 0, 1) := by decide +kernel
theorem dX3_joinSeries_74 : decode cX3_joinSeries 74 = .ok (.istore 7, 2) := by decide +kernel
theorem dX3_joinSeries_76 : decode cX3_joinSeries 76 = .ok (.aload_n 1, 1) := by decide +kernel
theorem dX3_joinSeries_77 : decode cX3_joinSeries 77 = .ok (.iload_n 3, 1) := by decide +kernel
theorem dX3_joinSeries_78 : decode cX3_joinSeries 78 = .ok (.iload 6, 2) := by decide +kernel
theorem dX3_joinSeries_80 : decode cX3_joinSeries 80 = .ok (.aload_n 1, 1) := by decide +kernel
theorem dX3_joinSeries_81 : decode cX3_joinSeries 81 = .ok (.iload 4, 2) := by decide +kernel
theorem dX3_joinSeries_83 : decode cX3_joinSeries 83 = .ok (.iload 7, 2) := by decide +kernel
theorem dX3_joinSeries_85 : decode cX3_joinSeries 85 = .ok (.invokevirtual 47, 3) := by decide +kernel
theorem dX3_joinSeries_88 : decode cX3_joinSeries 88 = .ok (.invokevirtual 81, 3) := by decide +kernel
theorem dX3_joinSeries_91 : decode cX3_joinSeries 91 = .ok (.pop, 1) := by decide +kernel
theorem dX3_joinSeries_92 : decode cX3_joinSeries 92 = .ok (.aload_n 1, 1) := by decide +kernel
theorem dX3_joinSeries_93 : decode cX3_joinSeries 93 = .ok (.getfield 70, 3) := by decide +kernel
theorem dX3_joinSeries_96 : decode cX3_joinSeries 96 = .ok (.iload_n 3, 1) := by decide +kernel
theorem dX3_joinSeries_97 : decode cX3_joinSeries 97 = .ok (.aload_n 1, 1) := by decide +kernel
theorem dX3_joinSeries_98 : decode cX3_joinSeries 98 = .ok (.getfield 70, 3) := by decide +kernel
theorem dX3_joinSeries_101 : decode cX3_joinSeries 101 = .ok (.iload_n 3, 1) := by decide +kernel
theorem dX3_joinSeries_102 : decode cX3_joinSeries 102 = .ok (.daload, 1) := by decide +kernel
theorem dX3_joinSeries_103 : decode cX3_joinSeries 103 = .ok (.aload_n 1, 1) := by decide +kernel
theorem dX3_joinSeries_104 : decode cX3_joinSeries 104 = .ok (.getfield 70, 3) := by decide +kernel
theorem dX3_joinSeries_107 : decode cX3_joinSeries 107 = .ok (.iload 4, 2) := by decide +kernel
theorem dX3_joinSeries_109 : decode cX3_joinSeries 109 = .ok (.daload, 1) := by decide +kernel
theorem dX3_joinSeries_110 : decode cX3_joinSeries 110 = .ok (.invokestatic 85, 3) := by decide +kernel
theorem dX3_joinSeries_113 : decode cX3_joinSeries 113 = .ok (.dastore, 1) := by decide +kernel
theorem dX3_joinSeries_114 : decode cX3_joinSeries 114 = .ok (.aload_n 1, 1) := by decide +kernel
theorem dX3_joinSeries_115 : decode cX3_joinSeries 115 = .ok (.getfield 43, 3) := by decide +kernel
theorem dX3_joinSeries_118 : decode cX3_joinSeries 118 = .ok (.iload 4, 2) := by decide +kernel
theorem dX3_joinSeries_120 : decode cX3_joinSeries 120 = .ok (.iconst 1, 1) := by decide +kernel
theorem dX3_joinSeries_121 : decode cX3_joinSeries 121 = .ok (.bastore, 1) := by decide +kernel
theorem dX3_joinSeries_122 : decode cX3_joinSeries 122 = .ok (.iconst 1, 1) := by decide +kernel
theorem dX3_joinSeries_123 : decode cX3_joinSeries 123 = .ok (.ireturn, 1) := by decide +kernel
theorem dX3_hasTwoEnds_0 : decode cX3_hasTwoEnds 0 = .ok (.aload_n 0, 1) := by decide +kernel
theorem dX3_hasTwoEnds_1 : decode cX3_hasTwoEnds 1 = .ok (.getfield 51, 3) := by decide +kernel
theorem dX3_hasTwoEnds_4 : decode cX3_hasTwoEnds 4 = .ok (.iload_n 2, 1) := by decide +kernel
theorem dX3_hasTwoEnds_5 : decode cX3_hasTwoEnds 5 = .ok (.iaload, 1) := by decide +kernel
theorem dX3_hasTwoEnds_6 : decode cX3_hasTwoEnds 6 = .ok (.istore_n 3, 1) := by decide +kernel
theorem dX3_hasTwoEnds_7 : decode cX3_hasTwoEnds 7 = .ok (.aload_n 0, 1) := by decide +kernel
theorem dX3_hasTwoEnds_8 : decode cX3_hasTwoEnds 8 = .ok (.iload_n 2, 1) := by decide +kernel
theorem dX3_hasTwoEnds_9 : decode cX3_hasTwoEnds 9 = .ok (.iconst 0, 1) := by decide +kernel
theorem dX3_hasTwoEnds_10 : decode cX3_hasTwoEnds 10 = .ok (.invokevirtual 47, 3) := by decide +kernel
theorem dX3_hasTwoEnds_13 : decode cX3_hasTwoEnds 13 = .ok (.iconst (-1), 1) := by decide +kernel
theorem dX3_hasTwoEnds_14 : decode cX3_hasTwoEnds 14 = .ok (.if_icmp .eq 52, 3) := by decide +kernel
theorem dX3_hasTwoEnds_17 : decode cX3_hasTwoEnds 17 = .ok (.aload_n 0, 1) := by decide +kernel
theorem dX3_hasTwoEnds_18 : decode cX3_hasTwoEnds 18 = .ok (.iload_n 2, 1) := by decide +kernel
theorem dX3_hasTwoEnds_19 : decode cX3_hasTwoEnds 19 = .ok (.iconst 1, 1) := by decide +kernel
theorem dX3_hasTwoEnds_20 : decode cX3_hasTwoEnds 20 = .ok (.invokevirtual 47, 3) := by decide +kernel
theorem dX3_hasTwoEnds_23 : decode cX3_hasTwoEnds 23 = .ok (.iconst (-1), 1) := by decide +kernel
theorem dX3_hasTwoEnds_24 : decode cX3_hasTwoEnds 24 = .ok (.if_icmp .eq 42, 3) := by decide +kernel
theorem dX3_hasTwoEnds_27 : decode cX3_hasTwoEnds 27 = .ok (.aload_n 0, 1) := by decide +kernel
theorem dX3_hasTwoEnds_28 : decode cX3_hasTwoEnds 28 = .ok (.iload_n 2, 1) := by decide +kernel
theorem dX3_hasTwoEnds_29 : decode cX3_hasTwoEnds 29 = .ok (.iconst 2, 1) := by decide +kernel
theorem dX3_hasTwoEnds_30 : decode cX3_hasTwoEnds 30 = .ok (.invokevirtual 47, 3) := by decide +kernel
theorem dX3_hasTwoEnds_33 : decode cX3_hasTwoEnds 33 = .ok (.iconst (-1), 1) := by decide +kernel
theorem dX3_hasTwoEnds_34 : decode cX3_hasTwoEnds 34 = .ok (.if_icmp .ne 32, 3) := by decide +kernel
theorem dX3_hasTwoEnds_37 : decode cX3_hasTwoEnds 37 = .ok (.aload_n 0, 1) := by decide +kernel
theorem dX3_hasTwoEnds_38 : decode cX3_hasTwoEnds 38 = .ok (.iload_n 2, 1) := by decide +kernel
theorem dX3_hasTwoEnds_39 : decode cX3_hasTwoEnds 39 = .ok (.iconst 3, 1) := by decide +kernel
theorem dX3_hasTwoEnds_40 : decode cX3_hasTwoEnds 40 = .ok (.invokevirtual 47, 3) := by decide +kernel
theorem dX3_hasTwoEnds_43 : decode cX3_hasTwoEnds 43 = .ok (.iconst (-1), 1) := by decide +kernel
theorem dX3_hasTwoEnds_44 : decode cX3_hasTwoEnds 44 = .ok (.if_icmp .ne 22, 3) := by decide +kernel
theorem dX3_hasTwoEnds_47 : decode cX3_hasTwoEnds 47 = .ok (.aload_n 1, 1) := by decide +kernel
theorem dX3_hasTwoEnds_48 : decode cX3_hasTwoEnds 48 = .ok (.iload_n 3, 1) := by decide +kernel
theorem dX3_hasTwoEnds_49 : decode cX3_hasTwoEnds 49 = .ok (.iconst 0, 1) := by decide +kernel
theorem dX3_hasTwoEnds_50 : decode cX3_hasTwoEnds 50 = .ok (.invokevirtual 61, 3) := by decide +kernel
theorem dX3_hasTwoEnds_53 : decode cX3_hasTwoEnds 53 = .ok (.aload_n 1, 1) := by decide +kernel
theorem dX3_hasTwoEnds_54 : decode cX3_hasTwoEnds 54 = .ok (.iload_n 3, 1) := by decide +kernel
theorem dX3_hasTwoEnds_55 : decode cX3_hasTwoEnds 55 = .ok (.iconst 1, 1) := by decide +kernel
theorem dX3_hasTwoEnds_56 : decode cX3_hasTwoEnds 56 = .ok (.invokevirtual 61, 3) := by decide +kernel
theorem dX3_hasTwoEnds_59 : decode cX3_hasTwoEnds 59 = .ok (.if_icmp .ne 7, 3) := by decide +kernel
theorem dX3_hasTwoEnds_62 : decode cX3_hasTwoEnds 62 = .ok (.iconst 1, 1) := by decide +kernel
theorem dX3_hasTwoEnds_63 : decode cX3_hasTwoEnds 63 = .ok (.goto 4, 3) := by decide +kernel
theorem dX3_hasTwoEnds_66 : decode cX3_hasTwoEnds 66 = .ok (.iconst 0, 1) := by decide +kernel
theorem dX3_hasTwoEnds_67 : decode cX3_hasTwoEnds 67 = .ok (.ireturn, 1) := by decide +kernel
theorem dX3_netBetween_0 : decode cX3_netBetween 0 = .ok (.iconst (-1), 1) := by decide +kernel
theorem dX3_netBetween_1 : decode cX3_netBetween 1 = .ok (.istore 4, 2) := by decide +kernel
theorem dX3_netBetween_3 : decode cX3_netBetween 3 = .ok (.iconst 0, 1) := by decide +kernel
theorem dX3_netBetween_4 : decode cX3_netBetween 4 = .ok (.istore 5, 2) := by decide +kernel
theorem dX3_netBetween_6 : decode cX3_netBetween 6 = .ok (.iload 5, 2) := by decide +kernel
theorem dX3_netBetween_8 : decode cX3_netBetween 8 = .ok (.iconst 2, 1) := by decide +kernel
theorem dX3_netBetween_9 : decode cX3_netBetween 9 = .ok (.if_icmp .ge 103, 3) := by decide +kernel
theorem dX3_netBetween_12 : decode cX3_netBetween 12 = .ok (.aload_n 1, 1) := by decide +kernel
theorem dX3_netBetween_13 : decode cX3_netBetween 13 = .ok (.iload_n 2, 1) := by decide +kernel
theorem dX3_netBetween_14 : decode cX3_netBetween 14 = .ok (.iload 5, 2) := by decide +kernel
theorem dX3_netBetween_16 : decode cX3_netBetween 16 = .ok (.invokevirtual 47, 3) := by decide +kernel
theorem dX3_netBetween_19 : decode cX3_netBetween 19 = .ok (.istore 6, 2) := by decide +kernel
theorem dX3_netBetween_21 : decode cX3_netBetween 21 = .ok (.aload_n 1, 1) := by decide +kernel
theorem dX3_netBetween_22 : decode cX3_netBetween 22 = .ok (.iload 6, 2) := by decide +kernel
theorem dX3_netBetween_24 : decode cX3_netBetween 24 = .ok (.invokevirtual 89, 3) := by decide +kernel
theorem dX3_netBetween_27 : decode cX3_netBetween 27 = .ok (.ifCond .ne 54, 3) := by decide +kernel
theorem dX3_netBetween_30 : decode cX3_netBetween 30 = .ok (.aload_n 0, 1) := by decide +kernel
theorem dX3_netBetween_31 : decode cX3_netBetween 31 = .ok (.getfield 9, 3) := by decide +kernel
theorem dX3_netBetween_34 : decode cX3_netBetween 34 = .ok (.iload 6, 2) := by decide +kernel
theorem dX3_netBetween_36 : decode cX3_netBetween 36 = .ok (.iaload, 1) := by decide +kernel
theorem dX3_netBetween_37 : decode cX3_netBetween 37 = .ok (.iconst 2, 1) := by decide +kernel
theorem dX3_netBetween_38 : decode cX3_netBetween 38 = .ok (.if_icmp .ne 43, 3) := by decide +kernel
theorem dX3_netBetween_41 : decode cX3_netBetween 41 = .ok (.aload_n 1, 1) := by decide +kernel
theorem dX3_netBetween_42 : decode cX3_netBetween 42 = .ok (.iload_n 2, 1) := by decide +kernel
theorem dX3_netBetween_43 : decode cX3_netBetween 43 = .ok (.iconst 1, 1) := by decide +kernel
theorem dX3_netBetween_44 : decode cX3_netBetween 44 = .ok (.iload 5, 2) := by decide +kernel
theorem dX3_netBetween_46 : decode cX3_netBetween 46 = .ok (.isub, 1) := by decide +kernel
theorem dX3_netBetween_47 : decode cX3_netBetween 47 = .ok (.invokevirtual 47, 3) := by decide +kernel
theorem dX3_netBetween_50 : decode cX3_netBetween 50 = .ok (.iload 6, 2) := by decide +kernel
theorem dX3_netBetween_52 : decode cX3_netBetween 52 = .ok (.if_icmp .eq 29, 3) := by decide +kernel
theorem dX3_netBetween_55 : decode cX3_netBetween 55 = .ok (.aload_n 1, 1) := by decide +kernel
theorem dX3_netBetween_56 : decode cX3_netBetween 56 = .ok (.iload_n 3, 1) := by decide +kernel
theorem dX3_netBetween_57 : decode cX3_netBetween 57 = .ok (.iconst 0, 1) := by decide +kernel
theorem dX3_netBetween_58 : decode cX3_netBetween 58 = .ok (.invokevirtual 47, 3) := by decide +kernel
theorem dX3_netBetween_61 : decode cX3_netBetween 61 = .ok (.iload 6, 2) := by decide +kernel
theorem dX3_netBetween_63 : decode cX3_netBetween 63 = .ok (.if_icmp .eq 14, 3) := by decide +kernel
theorem dX3_netBetween_66 : decode cX3_netBetween 66 = .ok (.aload_n 1, 1) := by decide +kernel
theorem dX3_netBetween_67 : decode cX3_netBetween 67 = .ok (.iload_n 3, 1) := by decide +kernel
theorem dX3_netBetween_68 : decode cX3_netBetween 68 = .ok (.iconst 1, 1) := by decide +kernel
theorem dX3_netBetween_69 : decode cX3_netBetween 69 = .ok (.invokevirtual 47, 3) := by decide +kernel
theorem dX3_netBetween_72 : decode cX3_netBetween 72 = .ok (.iload 6, 2) := by decide +kernel
theorem dX3_netBetween_74 : decode cX3_netBetween 74 = .ok (.if_icmp .ne 7, 3) := by decide +kernel
theorem dX3_netBetween_77 : decode cX3_netBetween 77 = .ok (.iconst 1, 1) := by decide +kernel
theorem dX3_netBetween_78 : decode cX3_netBetween 78 = .ok (.goto 4, 3) := by decide +kernel
theorem dX3_netBetween_81 : decode cX3_netBetween 81 = .ok (.iconst 0, 1) := by decide +kernel
theorem dX3_netBetween_82 : decode cX3_netBetween 82 = .ok (.istore 7, 2) := by decide +kernel
theorem dX3_netBetween_84 : decode cX3_netBetween 84 = .ok (.iload 7, 2) := by decide +kernel
theorem dX3_netBetween_86 : decode cX3_netBetween 86 = .ok (.ifCond .eq 20, 3) := by decide +kernel
theorem dX3_netBetween_89 : decode cX3_netBetween 89 = .ok (.iload 4, 2) := by decide +kernel
theorem dX3_netBetween_91 : decode cX3_netBetween 91 = .ok (.iconst (-1), 1) := by decide +kernel
theorem dX3_netBetween_92 : decode cX3_netBetween 92 = .ok (.if_icmp .eq 10, 3) := by decide +kernel
theorem dX3_netBetween_95 : decode cX3_netBetween 95 = .ok (.iload 6, 2) := by decide +kernel
theorem dX3_netBetween_97 : decode cX3_netBetween 97 = .ok (.iload 4, 2) := by decide +kernel
theorem dX3_netBetween_99 : decode cX3_netBetween 99 = .ok (.if_icmp .ge 7, 3) := by decide +kernel
theorem dX3_netBetween_102 : decode cX3_netBetween 102 = .ok (.iload 6, 2) := by decide +kernel
theorem dX3_netBetween_104 : decode cX3_netBetween 104 = .ok (.istore 4, 2) := by decide +kernel
theorem dX3_netBetween_106 : decode cX3_netBetween 106 = .ok (.iinc 5 1, 3) := by decide +kernel
theorem dX3_netBetween_109 : decode cX3_netBetween 109 = .ok (.goto (-103), 3) := by decide +kernel
theorem dX3_netBetween_112 : decode cX3_netBetween 112 = .ok (.iload 4, 2) := by decide +kernel
theorem dX3_netBetween_114 : decode cX3_netBetween 114 = .ok (.ireturn, 1) := by decide +kernel
theorem dX3_sizeInSeries_0 : decode cX3_sizeInSeries 0 = .ok (.dload_n 0, 1) := by decide +kernel
theorem dX3_sizeInSeries_1 : decode cX3_sizeInSeries 1 = .ok (.dconst 0, 1) := by decide +kernel
theorem dX3_sizeInSeries_2 : decode cX3_sizeInSeries 2 = .ok (.dcmp .g, 1) := by decide +kernel
theorem dX3_sizeInSeries_3 : decode cX3_sizeInSeries 3 = .ok (.ifCond .le 9, 3) := by decide +kernel
theorem dX3_sizeInSeries_6 : decode cX3_sizeInSeries 6 = .ok (.dload_n 2, 1) := by decide +kernel
theorem dX3_sizeInSeries_7 : decode cX3_sizeInSeries 7 = .ok (.dconst 0, 1) := by decide +kernel
theorem dX3_sizeInSeries_8 : decode cX3_sizeInSeries 8 = .ok (.dcmp .g, 1) := by decide +kernel
theorem dX3_sizeInSeries_9 : decode cX3_sizeInSeries 9 = .ok (.ifCond .gt 5, 3) := by decide +kernel
theorem dX3_sizeInSeries_12 : decode cX3_sizeInSeries 12 = .ok (.dconst 0, 1) := by decide +kernel
theorem dX3_sizeInSeries_13 : decode cX3_sizeInSeries 13 = .ok (.dreturn, 1) := by decide +kernel
theorem dX3_sizeInSeries_14 : decode cX3_sizeInSeries 14 = .ok (.dconst 1, 1) := by decide +kernel
theorem dX3_sizeInSeries_15 : decode cX3_sizeInSeries 15 = .ok (.dconst 1, 1) := by decide +kernel
theorem dX3_sizeInSeries_16 : decode cX3_sizeInSeries 16 = .ok (.dload_n 0, 1) := by decide +kernel
theorem dX3_sizeInSeries_17 : decode cX3_sizeInSeries 17 = .ok (.ddiv, 1) := by decide +kernel
theorem dX3_sizeInSeries_18 : decode cX3_sizeInSeries 18 = .ok (.dconst 1, 1) := by decide +kernel
theorem dX3_sizeInSeries_19 : decode cX3_sizeInSeries 19 = .ok (.dload_n 2, 1) := by decide +kernel
theorem dX3_sizeInSeries_20 : decode cX3_sizeInSeries 20 = .ok (.ddiv, 1) := by decide +kernel
theorem dX3_sizeInSeries_21 : decode cX3_sizeInSeries 21 = .ok (.dadd, 1) := by decide +kernel
theorem dX3_sizeInSeries_22 : decode cX3_sizeInSeries 22 = .ok (.ddiv, 1) := by decide +kernel
theorem dX3_sizeInSeries_23 : decode cX3_sizeInSeries 23 = .ok (.dreturn, 1) := by decide +kernel
theorem dX4_init_0 : decode cX4_init 0 = .ok (.aload_n 0, 1) := by decide +kernel
theorem dX4_init_1 : decode cX4_init 1 = .ok (.invokespecial 3, 3) := by decide +kernel
theorem dX4_init_4 : decode cX4_init 4 = .ok (.aload_n 0, 1) := by decide +kernel
theorem dX4_init_5 : decode cX4_init 5 = .ok (.bipush 32, 2) := by decide +kernel
theorem dX4_init_7 : decode cX4_init 7 = .ok (.newarray .int, 2) := by decide +kernel
theorem dX4_init_9 : decode cX4_init 9 = .ok (.putfield 9, 3) := by decide +kernel
theorem dX4_init_12 : decode cX4_init 12 = .ok (.aload_n 0, 1) := by decide +kernel
theorem dX4_init_13 : decode cX4_init 13 = .ok (.bipush 8, 2) := by decide +kernel
theorem dX4_init_15 : decode cX4_init 15 = .ok (.newarray .double, 2) := by decide +kernel
theorem dX4_init_17 : decode cX4_init 17 = .ok (.putfield 15, 3) := by decide +kernel
theorem dX4_init_20 : decode cX4_init 20 = .ok (.iconst 0, 1) := by decide +kernel
theorem dX4_init_21 : decode cX4_init 21 = .ok (.istore_n 1, 1) := by decide +kernel
theorem dX4_init_22 : decode cX4_init 22 = .ok (.iload_n 1, 1) := by decide +kernel
theorem dX4_init_23 : decode cX4_init 23 = .ok (.bipush 32, 2) := by decide +kernel
theorem dX4_init_25 : decode cX4_init 25 = .ok (.if_icmp .ge 18, 3) := by decide +kernel
theorem dX4_init_28 : decode cX4_init 28 = .ok (.aload_n 0, 1) := by decide +kernel
theorem dX4_init_29 : decode cX4_init 29 = .ok (.getfield 9, 3) := by decide +kernel
theorem dX4_init_32 : decode cX4_init 32 = .ok (.iload_n 1, 1) := by decide +kernel
theorem dX4_init_33 : decode cX4_init 33 = .ok (.iload_n 1, 1) := by decide +kernel
theorem dX4_init_34 : decode cX4_init 34 = .ok (.iconst 4, 1) := by decide +kernel
theorem dX4_init_35 : decode cX4_init 35 = .ok (.irem, 1) := by decide +kernel
theorem dX4_init_36 : decode cX4_init 36 = .ok (.iastore, 1) := by decide +kernel
theorem dX4_init_37 : decode cX4_init 37 = .ok (.iinc 1 1, 3) := by decide +kernel
theorem dX4_init_40 : decode cX4_init 40 = .ok (.goto (-18), 3) := by decide +kernel
theorem dX4_init_43 : decode cX4_init 43 = .ok (.return_, 1) := by decide +kernel
theorem dX4_groupOf_0 : decode cX4_groupOf 0 = .ok (.aload_n 0, 1) := by decide +kernel
theorem dX4_groupOf_1 : decode cX4_groupOf 1 = .ok (.getfield 9, 3) := by decide +kernel
theorem dX4_groupOf_4 : decode cX4_groupOf 4 = .ok (.iload_n 1, 1) := by decide +kernel
theorem dX4_groupOf_5 : decode cX4_groupOf 5 = .ok (.iconst 4, 1) := by decide +kernel
theorem dX4_groupOf_6 : decode cX4_groupOf 6 = .ok (.imul, 1) := by decide +kernel
theorem dX4_groupOf_7 : decode cX4_groupOf 7 = .ok (.iload_n 2, 1) := by decide +kernel
theorem dX4_groupOf_8 : decode cX4_groupOf 8 = .ok (.iadd, 1) := by decide +kernel
theorem dX4_groupOf_9 : decode cX4_groupOf 9 = .ok (.iaload, 1) := by decide +kernel
theorem dX4_groupOf_10 : decode cX4_groupOf 10 = .ok (.ireturn, 1) := by decide +kernel
theorem dX4_uniteGroups_0 : decode cX4_uniteGroups 0 = .ok (.aload_n 0, 1) := by decide +kernel
theorem dX4_uniteGroups_1 : decode cX4_uniteGroups 1 = .ok (.iload_n 1, 1) := by decide +kernel
theorem dX4_uniteGroups_2 : decode cX4_uniteGroups 2 = .ok (.iload_n 2, 1) := by decide +kernel
theorem dX4_uniteGroups_3 : decode cX4_uniteGroups 3 = .ok (.invokevirtual 19, 3) := by decide +kernel
theorem dX4_uniteGroups_6 : decode cX4_uniteGroups 6 = .ok (.istore 4, 2) := by decide +kernel
theorem dX4_uniteGroups_8 : decode cX4_uniteGroups 8 = .ok (.aload_n 0, 1) := by decide +kernel
theorem dX4_uniteGroups_9 : decode cX4_uniteGroups 9 = .ok (.iload_n 1, 1) := by decide +kernel
theorem dX4_uniteGroups_10 : decode cX4_uniteGroups 10 = .ok (.iload_n 3, 1) := by decide +kernel
theorem dX4_uniteGroups_11 : decode cX4_uniteGroups 11 = .ok (.invokevirtual 19, 3) := by decide +kernel
theorem dX4_uniteGroups_14 : decode cX4_uniteGroups 14 = .ok (.istore 5, 2) := by decide +kernel
theorem dX4_uniteGroups_16 : decode cX4_uniteGroups 16 = .ok (.iload 4, 2) := by decide +kernel
theorem dX4_uniteGroups_18 : decode cX4_uniteGroups 18 = .ok (.iload 5, 2) := by decide +kernel
theorem dX4_uniteGroups_20 : decode cX4_uniteGroups 20 = .ok (.if_icmp .ne 5, 3) := by decide +kernel
theorem dX4_uniteGroups_23 : decode cX4_uniteGroups 23 = .ok (.iconst 0, 1) := by decide +kernel
theorem dX4_uniteGroups_24 : decode cX4_uniteGroups 24 = .ok (.ireturn, 1) := by decide +kernel
theorem dX4_uniteGroups_25 : decode cX4_uniteGroups 25 = .ok (.iconst 0, 1) := by decide +kernel
theorem dX4_uniteGroups_26 : decode cX4_uniteGroups 26 = .ok (.istore 6, 2) := by decide +kernel
theorem dX4_uniteGroups_28 : decode cX4_uniteGroups 28 = .ok (.iload 6, 2) := by decide +kernel
theorem dX4_uniteGroups_30 : decode cX4_uniteGroups 30 = .ok (.iconst 4, 1) := by decide +kernel
theorem dX4_uniteGroups_31 : decode cX4_uniteGroups 31 = .ok (.if_icmp .ge 50, 3) := by decide +kernel
theorem dX4_uniteGroups_34 : decode cX4_uniteGroups 34 = .ok (.aload_n 0, 1) := by decide +kernel
theorem dX4_uniteGroups_35 : decode cX4_uniteGroups 35 = .ok (.iload_n 1, 1) := by decide +kernel
theorem dX4_uniteGroups_36 : decode cX4_uniteGroups 36 = .ok (.iload 6, 2) := by decide +kernel
theorem dX4_uniteGroups_38 : decode cX4_uniteGroups 38 = .ok (.invokevirtual 19, 3) := by decide +kernel
theorem dX4_uniteGroups_41 : decode cX4_uniteGroups 41 = .ok (.istore 7, 2) := by decide +kernel
theorem dX4_uniteGroups_43 : decode cX4_uniteGroups 43 = .ok (.iload 7, 2) := by decide +kernel
theorem dX4_uniteGroups_45 : decode cX4_uniteGroups 45 = .ok (.iload 4, 2) := by decide +kernel
theorem dX4_uniteGroups_47 : decode cX4_uniteGroups 47 = .ok (.if_icmp .eq 10, 3) := by decide +kernel
theorem dX4_uniteGroups_50 : decode cX4_uniteGroups 50 = .ok (.iload 7, 2) := by decide +kernel
theorem dX4_uniteGroups_52 : decode cX4_uniteGroups 52 = .ok (.iload 5, 2) := by decide +kernel
theorem dX4_uniteGroups_54 : decode cX4_uniteGroups 54 = .ok (.if_icmp .ne 21, 3) := by decide +kernel
theorem dX4_uniteGroups_57 : decode cX4_uniteGroups 57 = .ok (.aload_n 0, 1) := by decide +kernel
theorem dX4_uniteGroups_58 : decode cX4_uniteGroups 58 = .ok (.getfield 9, 3) := by decide +kernel
theorem dX4_uniteGroups_61 : decode cX4_uniteGroups 61 = .ok (.iload_n 1, 1) := by decide +kernel
theorem dX4_uniteGroups_62 : decode cX4_uniteGroups 62 = .ok (.iconst 4, 1) := by decide +kernel
theorem dX4_uniteGroups_63 : decode cX4_uniteGroups 63 = .ok (.imul, 1) := by decide +kernel
theorem dX4_uniteGroups_64 : decode cX4_uniteGroups 64 = .ok (.iload 6, 2) := by decide +kernel
theorem dX4_uniteGroups_66 : decode cX4_uniteGroups 66 = .ok (.iadd, 1) := by decide +kernel
theorem dX4_uniteGroups_67 : decode cX4_uniteGroups 67 = .ok (.iload 4, 2) := by decide +kernel
theorem dX4_uniteGroups_69 : decode cX4_uniteGroups 69 = .ok (.iload 5, 2) := by decide +kernel
theorem dX4_uniteGroups_71 : decode cX4_uniteGroups 71 = .ok (.invokestatic 23, 3) := by decide +kernel
theorem dX4_uniteGroups_74 : decode cX4_uniteGroups 74 = .ok (.iastore, 1) := by decide +kernel
theorem dX4_uniteGroups_75 : decode cX4_uniteGroups 75 = .ok (.iinc 6 1, 3) := by decide +kernel
theorem dX4_uniteGroups_78 : decode cX4_uniteGroups 78 = .ok (.goto (-50), 3) := by decide +kernel
theorem dX4_uniteGroups_81 : decode cX4_uniteGroups 81 = .ok (.iconst 1, 1) := by decide +kernel
theorem dX4_uniteGroups_82 : decode cX4_uniteGroups 82 = .ok (.ireturn, 1) := by decide +kernel
theorem dX4_setShare_0 : decode cX4_setShare 0 = .ok (.aload_n 0, 1) := by decide +kernel
theorem dX4_setShare_1 : decode cX4_setShare 1 = .ok (.getfield 15, 3) := by decide +kernel
theorem dX4_setShare_4 : decode cX4_setShare 4 = .ok (.iload_n 1, 1) := by decide +kernel
theorem dX4_setShare_5 : decode cX4_setShare 5 = .ok (.daload, 1) := by decide +kernel
theorem dX4_setShare_6 : decode cX4_setShare 6 = .ok (.dload_n 2, 1) := by decide +kernel
theorem dX4_setShare_7 : decode cX4_setShare 7 = .ok (.dcmp .l, 1) := by decide +kernel
theorem dX4_setShare_8 : decode cX4_setShare 8 = .ok (.ifCond .eq 7, 3) := by decide +kernel
theorem dX4_setShare_11 : decode cX4_setShare 11 = .ok (.iconst 1, 1) := by decide +kernel
theorem dX4_setShare_12 : decode cX4_setShare 12 = .ok (.goto 4, 3) := by decide +kernel
theorem dX4_setShare_15 : decode cX4_setShare 15 = .ok (.iconst 0, 1) := by decide +kernel
theorem dX4_setShare_16 : decode cX4_setShare 16 = .ok (.istore 4, 2) := by decide +kernel
theorem dX4_setShare_18 : decode cX4_setShare 18 = .ok (.aload_n 0, 1) := by decide +kernel
theorem dX4_setShare_19 : decode cX4_setShare 19 = .ok (.getfield 15, 3) := by decide +kernel
theorem dX4_setShare_22 : decode cX4_setShare 22 = .ok (.iload_n 1, 1) := by decide +kernel
theorem dX4_setShare_23 : decode cX4_setShare 23 = .ok (.dload_n 2, 1) := by decide +kernel
theorem dX4_setShare_24 : decode cX4_setShare 24 = .ok (.dastore, 1) := by decide +kernel
theorem dX4_setShare_25 : decode cX4_setShare 25 = .ok (.iload 4, 2) := by decide +kernel
theorem dX4_setShare_27 : decode cX4_setShare 27 = .ok (.ireturn, 1) := by decide +kernel
theorem dX4_sizesAgree_0 : decode cX4_sizesAgree 0 = .ok (.dload_n 2, 1) := by decide +kernel
theorem dX4_sizesAgree_1 : decode cX4_sizesAgree 1 = .ok (.dload 4, 2) := by decide +kernel
theorem dX4_sizesAgree_3 : decode cX4_sizesAgree 3 = .ok (.dcmp .l, 1) := by decide +kernel
theorem dX4_sizesAgree_4 : decode cX4_sizesAgree 4 = .ok (.ifCond .lt 7, 3) := by decide +kernel
theorem dX4_sizesAgree_7 : decode cX4_sizesAgree 7 = .ok (.dload_n 2, 1) := by decide +kernel
theorem dX4_sizesAgree_8 : decode cX4_sizesAgree 8 = .ok (.goto 5, 3) := by decide +kernel
theorem dX4_sizesAgree_11 : decode cX4_sizesAgree 11 = .ok (.dload 4, 2) := by decide +kernel
theorem dX4_sizesAgree_13 : decode cX4_sizesAgree 13 = .ok (.dstore 6, 2) := by decide +kernel
theorem dX4_sizesAgree_15 : decode cX4_sizesAgree 15 = .ok (.dload_n 2, 1) := by decide +kernel
theorem dX4_sizesAgree_16 : decode cX4_sizesAgree 16 = .ok (.dload 4, 2) := by decide +kernel
theorem dX4_sizesAgree_18 : decode cX4_sizesAgree 18 = .ok (.dcmp .l, 1) := by decide +kernel
theorem dX4_sizesAgree_19 : decode cX4_sizesAgree 19 = .ok (.ifCond .lt 8, 3) := by decide +kernel
theorem dX4_sizesAgree_22 : decode cX4_sizesAgree 22 = .ok (.dload 4, 2) := by decide +kernel
theorem dX4_sizesAgree_24 : decode cX4_sizesAgree 24 = .ok (.goto 4, 3) := by decide +kernel
theorem dX4_sizesAgree_27 : decode cX4_sizesAgree 27 = .ok (.dload_n 2, 1) := by decide +kernel
theorem dX4_sizesAgree_28 : decode cX4_sizesAgree 28 = .ok (.dstore 8, 2) := by decide +kernel
theorem dX4_sizesAgree_30 : decode cX4_sizesAgree 30 = .ok (.dload 6, 2) := by decide +kernel
theorem dX4_sizesAgree_32 : decode cX4_sizesAgree 32 = .ok (.dload 8, 2) := by decide +kernel
theorem dX4_sizesAgree_34 : decode cX4_sizesAgree 34 = .ok (.dsub, 1) := by decide +kernel
theorem dX4_sizesAgree_35 : decode cX4_sizesAgree 35 = .ok (.aload_n 0, 1) := by decide +kernel
theorem dX4_sizesAgree_36 : decode cX4_sizesAgree 36 = .ok (.getfield 15, 3) := by decide +kernel
theorem dX4_sizesAgree_39 : decode cX4_sizesAgree 39 = .ok (.iload_n 1, 1) := by decide +kernel
theorem dX4_sizesAgree_40 : decode cX4_sizesAgree 40 = .ok (.daload, 1) := by decide +kernel
theorem dX4_sizesAgree_41 : decode cX4_sizesAgree 41 = .ok (.dload 6, 2) := by decide +kernel
theorem dX4_sizesAgree_43 : decode cX4_sizesAgree 43 = .ok (.dmul, 1) := by decide +kernel
theorem dX4_sizesAgree_44 : decode cX4_sizesAgree 44 = .ok (.dcmp .g, 1) := by decide +kernel
theorem dX4_sizesAgree_45 : decode cX4_sizesAgree 45 = .ok (.ifCond .gt 7, 3) := by decide +kernel
theorem dX4_sizesAgree_48 : decode cX4_sizesAgree 48 = .ok (.iconst 1, 1) := by decide +kernel
theorem dX4_sizesAgree_49 : decode cX4_sizesAgree 49 = .ok (.goto 4, 3) := by decide +kernel
theorem dX4_sizesAgree_52 : decode cX4_sizesAgree 52 = .ok (.iconst 0, 1) := by decide +kernel
theorem dX4_sizesAgree_53 : decode cX4_sizesAgree 53 = .ok (.ireturn, 1) := by decide +kernel
theorem dX4_pinsOn_0 : decode cX4_pinsOn 0 = .ok (.iconst 0, 1) := by decide +kernel
theorem dX4_pinsOn_1 : decode cX4_pinsOn 1 = .ok (.istore 5, 2) := by decide +kernel
theorem dX4_pinsOn_3 : decode cX4_pinsOn 3 = .ok (.iconst 0, 1) := by decide +kernel
theorem dX4_pinsOn_4 : decode cX4_pinsOn 4 = .ok (.istore 6, 2) := by decide +kernel
theorem dX4_pinsOn_6 : decode cX4_pinsOn 6 = .ok (.iload 6, 2) := by decide +kernel
theorem dX4_pinsOn_8 : decode cX4_pinsOn 8 = .ok (.iconst 4, 1) := by decide +kernel
theorem dX4_pinsOn_9 : decode cX4_pinsOn 9 = .ok (.if_icmp .ge 40, 3) := by decide +kernel
theorem dX4_pinsOn_12 : decode cX4_pinsOn 12 = .ok (.aload_n 1, 1) := by decide +kernel
theorem dX4_pinsOn_13 : decode cX4_pinsOn 13 = .ok (.iload_n 2, 1) := by decide +kernel
theorem dX4_pinsOn_14 : decode cX4_pinsOn 14 = .ok (.iload 6, 2) := by decide +kernel
theorem dX4_pinsOn_16 : decode cX4_pinsOn 16 = .ok (.invokevirtual 28, 3) := by decide +kernel
theorem dX4_pinsOn_19 : decode cX4_pinsOn 19 = .ok (.iload 4, 2) := by decide +kernel
theorem dX4_pinsOn_21 : decode cX4_pinsOn 21 = .ok (.if_icmp .ne 22, 3) := by decide +kernel
theorem dX4_pinsOn_24 : decode cX4_pinsOn 24 = .ok (.aload_n 0, 1) := by decide +kernel
theorem dX4_pinsOn_25 : decode cX4_pinsOn 25 = .ok (.aload_n 1, 1) := by decide +kernel
theorem dX4_pinsOn_26 : decode cX4_pinsOn 26 = .ok (.getfield 33, 3) := by decide +kernel
theorem dX4_pinsOn_29 : decode cX4_pinsOn 29 = .ok (.iload_n 2, 1) := by decide +kernel
theorem dX4_pinsOn_30 : decode cX4_pinsOn 30 = .ok (.iaload, 1) := by decide +kernel
theorem dX4_pinsOn_31 : decode cX4_pinsOn 31 = .ok (.iload 6, 2) := by decide +kernel
theorem dX4_pinsOn_33 : decode cX4_pinsOn 33 = .ok (.invokevirtual 19, 3) := by decide +kernel
theorem dX4_pinsOn_36 : decode cX4_pinsOn 36 = .ok (.iload_n 3, 1) := by decide +kernel
theorem dX4_pinsOn_37 : decode cX4_pinsOn 37 = .ok (.if_icmp .ne 6, 3) := by decide +kernel
theorem dX4_pinsOn_40 : decode cX4_pinsOn 40 = .ok (.iinc 5 1, 3) := by decide +kernel
theorem dX4_pinsOn_43 : decode cX4_pinsOn 43 = .ok (.iinc 6 1, 3) := by decide +kernel
theorem dX4_pinsOn_46 : decode cX4_pinsOn 46 = .ok (.goto (-40), 3) := by decide +kernel
theorem dX4_pinsOn_49 : decode cX4_pinsOn 49 = .ok (.iload 5, 2) := by decide +kernel
theorem dX4_pinsOn_51 : decode cX4_pinsOn 51 = .ok (.ireturn, 1) := by decide +kernel
theorem dX5_init_0 : decode cX5_init 0 = .ok (.aload_n 0, 1) := by decide +kernel
theorem dX5_init_1 : decode cX5_init 1 = .ok (.invokespecial 3, 3) := by decide +kernel
theorem dX5_init_4 : decode cX5_init 4 = .ok (.aload_n 0, 1) := by decide +kernel
theorem dX5_init_5 : decode cX5_init 5 = .ok (.iconst 0, 1) := by decide +kernel
theorem dX5_init_6 : decode cX5_init 6 = .ok (.putfield 9, 3) := by decide +kernel
theorem dX5_init_9 : decode cX5_init 9 = .ok (.aload_n 0, 1) := by decide +kernel
theorem dX5_init_10 : decode cX5_init 10 = .ok (.bipush 30, 2) := by decide +kernel
theorem dX5_init_12 : decode cX5_init 12 = .ok (.newarray .int, 2) := by decide +kernel
theorem dX5_init_14 : decode cX5_init 14 = .ok (.putfield 15, 3) := by decide +kernel
theorem dX5_init_17 : decode cX5_init 17 = .ok (.aload_n 0, 1) := by decide +kernel
theorem dX5_init_18 : decode cX5_init 18 = .ok (.bipush 30, 2) := by decide +kernel
theorem dX5_init_20 : decode cX5_init 20 = .ok (.newarray .int, 2) := by decide +kernel
theorem dX5_init_22 : decode cX5_init 22 = .ok (.putfield 19, 3) := by decide +kernel
theorem dX5_init_25 : decode cX5_init 25 = .ok (.aload_n 0, 1) := by decide +kernel
theorem dX5_init_26 : decode cX5_init 26 = .ok (.bipush 40, 2) := by decide +kernel
theorem dX5_init_28 : decode cX5_init 28 = .ok (.newarray .int, 2) := by decide +kernel
theorem dX5_init_30 : decode cX5_init 30 = .ok (.putfield 22, 3) := by decide +kernel
theorem dX5_init_33 : decode cX5_init 33 = .ok (.aload_n 0, 1) := by decide +kernel
theorem dX5_init_34 : decode cX5_init 34 = .ok (.bipush 40, 2) := by decide +kernel
theorem dX5_init_36 : decode cX5_init 36 = .ok (.newarray .int, 2) := by decide +kernel
theorem dX5_init_38 : decode cX5_init 38 = .ok (.putfield 25, 3) := by decide +kernel
theorem dX5_init_41 : decode cX5_init 41 = .ok (.aload_n 0, 1) := by decide +kernel
theorem dX5_init_42 : decode cX5_init 42 = .ok (.invokevirtual 28, 3) := by decide +kernel
theorem dX5_init_45 : decode cX5_init 45 = .ok (.return_, 1) := by decide +kernel
theorem dX5_forget_0 : decode cX5_forget 0 = .ok (.aload_n 0, 1) := by decide +kernel
theorem dX5_forget_1 : decode cX5_forget 1 = .ok (.iconst 0, 1) := by decide +kernel
theorem dX5_forget_2 : decode cX5_forget 2 = .ok (.putfield 9, 3) := by decide +kernel
theorem dX5_forget_5 : decode cX5_forget 5 = .ok (.aload_n 0, 1) := by decide +kernel
theorem dX5_forget_6 : decode cX5_forget 6 = .ok (.getfield 15, 3) := by decide +kernel
theorem dX5_forget_9 : decode cX5_forget 9 = .ok (.iconst (-1), 1) := by decide +kernel
theorem dX5_forget_10 : decode cX5_forget 10 = .ok (.invokestatic 31, 3) := by decide +kernel
theorem dX5_forget_13 : decode cX5_forget 13 = .ok (.aload_n 0, 1) := by decide +kernel
theorem dX5_forget_14 : decode cX5_forget 14 = .ok (.getfield 19, 3) := by decide +kernel
theorem dX5_forget_17 : decode cX5_forget 17 = .ok (.iconst (-1), 1) := by decide +kernel
theorem dX5_forget_18 : decode cX5_forget 18 = .ok (.invokestatic 31, 3) := by decide +kernel
theorem dX5_forget_21 : decode cX5_forget 21 = .ok (.aload_n 0, 1) := by decide +kernel
theorem dX5_forget_22 : decode cX5_forget 22 = .ok (.getfield 22, 3) := by decide +kernel
theorem dX5_forget_25 : decode cX5_forget 25 = .ok (.iconst (-1), 1) := by decide +kernel
theorem dX5_forget_26 : decode cX5_forget 26 = .ok (.invokestatic 31, 3) := by decide +kernel
theorem dX5_forget_29 : decode cX5_forget 29 = .ok (.aload_n 0, 1) := by decide +kernel
theorem dX5_forget_30 : decode cX5_forget 30 = .ok (.getfield 25, 3) := by decide +kernel
theorem dX5_forget_33 : decode cX5_forget 33 = .ok (.iconst (-1), 1) := by decide +kernel
theorem dX5_forget_34 : decode cX5_forget 34 = .ok (.invokestatic 31, 3) := by decide +kernel
theorem dX5_forget_37 : decode cX5_forget 37 = .ok (.return_, 1) := by decide +kernel
theorem dX5_pairDevices_0 : decode cX5_pairDevices 0 = .ok (.aload_n 0, 1) := by decide +kernel
theorem dX5_pairDevices_1 : decode cX5_pairDevices 1 = .ok (.getfield 15, 3) := by decide +kernel
theorem dX5_pairDevices_4 : decode cX5_pairDevices 4 = .ok (.iload_n 1, 1) := by decide +kernel
theorem dX5_pairDevices_5 : decode cX5_pairDevices 5 = .ok (.iload_n 2, 1) := by decide +kernel
theorem dX5_pairDevices_6 : decode cX5_pairDevices 6 = .ok (.iastore, 1) := by decide +kernel
theorem dX5_pairDevices_7 : decode cX5_pairDevices 7 = .ok (.aload_n 0, 1) := by decide +kernel
theorem dX5_pairDevices_8 : decode cX5_pairDevices 8 = .ok (.getfield 19, 3) := by decide +kernel
theorem dX5_pairDevices_11 : decode cX5_pairDevices 11 = .ok (.iload_n 2, 1) := by decide +kernel
theorem dX5_pairDevices_12 : decode cX5_pairDevices 12 = .ok (.iload_n 1, 1) := by decide +kernel
theorem dX5_pairDevices_13 : decode cX5_pairDevices 13 = .ok (.iastore, 1) := by decide +kernel
theorem dX5_pairDevices_14 : decode cX5_pairDevices 14 = .ok (.return_, 1) := by decide +kernel
theorem dX5_pairNets_0 : decode cX5_pairNets 0 = .ok (.aload_n 0, 1) := by decide +kernel
theorem dX5_pairNets_1 : decode cX5_pairNets 1 = .ok (.getfield 22, 3) := by decide +kernel
theorem dX5_pairNets_4 : decode cX5_pairNets 4 = .ok (.iload_n 1, 1) := by decide +kernel
theorem dX5_pairNets_5 : decode cX5_pairNets 5 = .ok (.iload_n 2, 1) := by decide +kernel
theorem dX5_pairNets_6 : decode cX5_pairNets 6 = .ok (.iastore, 1) := by decide +kernel
theorem dX5_pairNets_7 : decode cX5_pairNets 7 = .ok (.aload_n 0, 1) := by decide +kernel
theorem dX5_pairNets_8 : decode cX5_pairNets 8 = .ok (.getfield 25, 3) := by decide +kernel
theorem dX5_pairNets_11 : decode cX5_pairNets 11 = .ok (.iload_n 2, 1) := by decide +kernel
theorem dX5_pairNets_12 : decode cX5_pairNets 12 = .ok (.iload_n 1, 1) := by decide +kernel
theorem dX5_pairNets_13 : decode cX5_pairNets 13 = .ok (.iastore, 1) := by decide +kernel
theorem dX5_pairNets_14 : decode cX5_pairNets 14 = .ok (.return_, 1) := by decide +kernel
theorem dX5_isMatchNow_0 : decode cX5_isMatchNow 0 = .ok (.aload_n 0, 1) := by decide +kernel
theorem dX5_isMatchNow_1 : decode cX5_isMatchNow 1 = .ok (.getfield 9, 3) := by decide +kernel
theorem dX5_isMatchNow_4 : decode cX5_isMatchNow 4 = .ok (.ifCond .eq 87, 3) := by decide +kernel
theorem dX5_isMatchNow_7 : decode cX5_isMatchNow 7 = .ok (.aload_n 1, 1) := by decide +kernel
theorem dX5_isMatchNow_8 : decode cX5_isMatchNow 8 = .ok (.getfield 37, 3) := by decide +kernel
theorem dX5_isMatchNow_11 : decode cX5_isMatchNow 11 = .ok (.aload_n 1, 1) := by decide +kernel
theorem dX5_isMatchNow_12 : decode cX5_isMatchNow 12 = .ok (.getfield 43, 3) := by decide +kernel
theorem dX5_isMatchNow_15 : decode cX5_isMatchNow 15 = .ok (.aload_n 0, 1) := by decide +kernel
theorem dX5_isMatchNow_16 : decode cX5_isMatchNow 16 = .ok (.getfield 15, 3) := by decide +kernel
theorem dX5_isMatchNow_19 : decode cX5_isMatchNow 19 = .ok (.invokestatic 46, 3) := by decide +kernel
theorem dX5_isMatchNow_22 : decode cX5_isMatchNow 22 = .ok (.ifCond .eq 69, 3) := by decide +kernel
theorem dX5_isMatchNow_25 : decode cX5_isMatchNow 25 = .ok (.aload_n 1, 1) := by decide +kernel
theorem dX5_isMatchNow_26 : decode cX5_isMatchNow 26 = .ok (.getfield 43, 3) := by decide +kernel
theorem dX5_isMatchNow_29 : decode cX5_isMatchNow 29 = .ok (.aload_n 1, 1) := by decide +kernel
theorem dX5_isMatchNow_30 : decode cX5_isMatchNow 30 = .ok (.getfield 37, 3) := by decide +kernel
theorem dX5_isMatchNow_33 : decode cX5_isMatchNow 33 = .ok (.aload_n 0, 1) := by decide +kernel
theorem dX5_isMatchNow_34 : decode cX5_isMatchNow 34 = .ok (.getfield 19, 3) := by decide +kernel
theorem dX5_isMatchNow_37 : decode cX5_isMatchNow 37 = .ok (.invokestatic 46, 3) := by decide +kernel
theorem dX5_isMatchNow_40 : decode cX5_isMatchNow 40 = .ok (.ifCond .eq 51, 3) := by decide +kernel
theorem dX5_isMatchNow_43 : decode cX5_isMatchNow 43 = .ok (.aload_n 1, 1) := by decide +kernel
theorem dX5_isMatchNow_44 : decode cX5_isMatchNow 44 = .ok (.getfield 37, 3) := by decide +kernel
theorem dX5_isMatchNow_47 : decode cX5_isMatchNow 47 = .ok (.aload_n 1, 1) := by decide +kernel
theorem dX5_isMatchNow_48 : decode cX5_isMatchNow 48 = .ok (.getfield 43, 3) := by decide +kernel
theorem dX5_isMatchNow_51 : decode cX5_isMatchNow 51 = .ok (.aload_n 0, 1) := by decide +kernel
theorem dX5_isMatchNow_52 : decode cX5_isMatchNow 52 = .ok (.getfield 22, 3) := by decide +kernel
theorem dX5_isMatchNow_55 : decode cX5_isMatchNow 55 = .ok (.invokestatic 50, 3) := by decide +kernel
theorem dX5_isMatchNow_58 : decode cX5_isMatchNow 58 = .ok (.ifCond .eq 33, 3) := by decide +kernel
theorem dX5_isMatchNow_61 : decode cX5_isMatchNow 61 = .ok (.aload_n 1, 1) := by decide +kernel
theorem dX5_isMatchNow_62 : decode cX5_isMatchNow 62 = .ok (.getfield 43, 3) := by decide +kernel
theorem dX5_isMatchNow_65 : decode cX5_isMatchNow 65 = .ok (.aload_n 1, 1) := by decide +kernel
theorem dX5_isMatchNow_66 : decode cX5_isMatchNow 66 = .ok (.getfield 37, 3) := by decide +kernel
theorem dX5_isMatchNow_69 : decode cX5_isMatchNow 69 = .ok (.aload_n 0, 1) := by decide +kernel
theorem dX5_isMatchNow_70 : decode cX5_isMatchNow 70 = .ok (.getfield 25, 3) := by decide +kernel
theorem dX5_isMatchNow_73 : decode cX5_isMatchNow 73 = .ok (.invokestatic 50, 3) := by decide +kernel
theorem dX5_isMatchNow_76 : decode cX5_isMatchNow 76 = .ok (.ifCond .eq 15, 3) := by decide +kernel
theorem dX5_isMatchNow_79 : decode cX5_isMatchNow 79 = .ok (.aload_n 0, 1) := by decide +kernel
theorem dX5_isMatchNow_80 : decode cX5_isMatchNow 80 = .ok (.aload_n 1, 1) := by decide +kernel
theorem dX5_isMatchNow_81 : decode cX5_isMatchNow 81 = .ok (.invokevirtual 53, 3) := by decide +kernel
theorem dX5_isMatchNow_84 : decode cX5_isMatchNow 84 = .ok (.ifCond .eq 7, 3) := by decide +kernel
theorem dX5_isMatchNow_87 : decode cX5_isMatchNow 87 = .ok (.iconst 1, 1) := by decide +kernel
theorem dX5_isMatchNow_88 : decode cX5_isMatchNow 88 = .ok (.goto 4, 3) := by decide +kernel
theorem dX5_isMatchNow_91 : decode cX5_isMatchNow 91 = .ok (.iconst 0, 1) := by decide +kernel
theorem dX5_isMatchNow_92 : decode cX5_isMatchNow 92 = .ok (.ireturn, 1) := by decide +kernel
theorem dX5_pairsPresent_0 : decode cX5_pairsPresent 0 = .ok (.iconst 0, 1) := by decide +kernel
theorem dX5_pairsPresent_1 : decode cX5_pairsPresent 1 = .ok (.istore_n 3, 1) := by decide +kernel
theorem dX5_pairsPresent_2 : decode cX5_pairsPresent 2 = .ok (.iload_n 3, 1) := by decide +kernel
theorem dX5_pairsPresent_3 : decode cX5_pairsPresent 3 = .ok (.aload_n 0, 1) := by decide +kernel
theorem dX5_pairsPresent_4 : decode cX5_pairsPresent 4 = .ok (.getfield 57, 3) := by decide +kernel
theorem dX5_pairsPresent_7 : decode cX5_pairsPresent 7 = .ok (.if_icmp .ge 41, 3) := by decide +kernel
theorem dX5_pairsPresent_10 : decode cX5_pairsPresent 10 = .ok (.aload_n 2, 1) := by decide +kernel
theorem dX5_pairsPresent_11 : decode cX5_pairsPresent 11 = .ok (.iload_n 3, 1) := by decide +kernel
theorem dX5_pairsPresent_12 : decode cX5_pairsPresent 12 = .ok (.iaload, 1) := by decide +kernel
theorem dX5_pairsPresent_13 : decode cX5_pairsPresent 13 = .ok (.istore 4, 2) := by decide +kernel
theorem dX5_pairsPresent_15 : decode cX5_pairsPresent 15 = .ok (.aload_n 0, 1) := by decide +kernel
theorem dX5_pairsPresent_16 : decode cX5_pairsPresent 16 = .ok (.getfield 63, 3) := by decide +kernel
theorem dX5_pairsPresent_19 : decode cX5_pairsPresent 19 = .ok (.iload_n 3, 1) := by decide +kernel
theorem dX5_pairsPresent_20 : decode cX5_pairsPresent 20 = .ok (.baload, 1) := by decide +kernel
theorem dX5_pairsPresent_21 : decode cX5_pairsPresent 21 = .ok (.ifCond .ne 21, 3) := by decide +kernel
theorem dX5_pairsPresent_24 : decode cX5_pairsPresent 24 = .ok (.iload 4, 2) := by decide +kernel
theorem dX5_pairsPresent_26 : decode cX5_pairsPresent 26 = .ok (.iconst (-1), 1) := by decide +kernel
theorem dX5_pairsPresent_27 : decode cX5_pairsPresent 27 = .ok (.if_icmp .eq 13, 3) := by decide +kernel
theorem dX5_pairsPresent_30 : decode cX5_pairsPresent 30 = .ok (.aload_n 1, 1) := by decide +kernel
theorem dX5_pairsPresent_31 : decode cX5_pairsPresent 31 = .ok (.getfield 63, 3) := by decide +kernel
theorem dX5_pairsPresent_34 : decode cX5_pairsPresent 34 = .ok (.iload 4, 2) := by decide +kernel
theorem dX5_pairsPresent_36 : decode cX5_pairsPresent 36 = .ok (.baload, 1) := by decide +kernel
theorem dX5_pairsPresent_37 : decode cX5_pairsPresent 37 = .ok (.ifCond .eq 5, 3) := by decide +kernel
theorem dX5_pairsPresent_40 : decode cX5_pairsPresent 40 = .ok (.iconst 0, 1) := by decide +kernel
theorem dX5_pairsPresent_41 : decode cX5_pairsPresent 41 = .ok (.ireturn, 1) := by decide +kernel
theorem dX5_pairsPresent_42 : decode cX5_pairsPresent 42 = .ok (.iinc 3 1, 3) := by decide +kernel
theorem dX5_pairsPresent_45 : decode cX5_pairsPresent 45 = .ok (.goto (-43), 3) := by decide +kernel
theorem dX5_pairsPresent_48 : decode cX5_pairsPresent 48 = .ok (.iconst 1, 1) := by decide +kernel
theorem dX5_pairsPresent_49 : decode cX5_pairsPresent 49 = .ok (.ireturn, 1) := by decide +kernel
theorem dX5_pairsUsed_0 : decode cX5_pairsUsed 0 = .ok (.iconst 0, 1) := by decide +kernel
theorem dX5_pairsUsed_1 : decode cX5_pairsUsed 1 = .ok (.istore_n 3, 1) := by decide +kernel
theorem dX5_pairsUsed_2 : decode cX5_pairsUsed 2 = .ok (.iload_n 3, 1) := by decide +kernel
theorem dX5_pairsUsed_3 : decode cX5_pairsUsed 3 = .ok (.aload_n 0, 1) := by decide +kernel
theorem dX5_pairsUsed_4 : decode cX5_pairsUsed 4 = .ok (.getfield 67, 3) := by decide +kernel
theorem dX5_pairsUsed_7 : decode cX5_pairsUsed 7 = .ok (.if_icmp .ge 60, 3) := by decide +kernel
theorem dX5_pairsUsed_10 : decode cX5_pairsUsed 10 = .ok (.aload_n 2, 1) := by decide +kernel
theorem dX5_pairsUsed_11 : decode cX5_pairsUsed 11 = .ok (.iload_n 3, 1) := by decide +kernel
theorem dX5_pairsUsed_12 : decode cX5_pairsUsed 12 = .ok (.iaload, 1) := by decide +kernel
theorem dX5_pairsUsed_13 : decode cX5_pairsUsed 13 = .ok (.istore 4, 2) := by decide +kernel
theorem dX5_pairsUsed_15 : decode cX5_pairsUsed 15 = .ok (.aload_n 0, 1) := by decide +kernel
theorem dX5_pairsUsed_16 : decode cX5_pairsUsed 16 = .ok (.getfield 70, 3) := by decide +kernel
theorem dX5_pairsUsed_19 : decode cX5_pairsUsed 19 = .ok (.iload_n 3, 1) := by decide +kernel
theorem dX5_pairsUsed_20 : decode cX5_pairsUsed 20 = .ok (.baload, 1) := by decide +kernel
theorem dX5_pairsUsed_21 : decode cX5_pairsUsed 21 = .ok (.ifCond .ne 6, 3) := by decide +kernel
theorem dX5_pairsUsed_24 : decode cX5_pairsUsed 24 = .ok (.goto 37, 3) := by decide +kernel
theorem dX5_pairsUsed_27 : decode cX5_pairsUsed 27 = .ok (.iload 4, 2) := by decide +kernel
theorem dX5_pairsUsed_29 : decode cX5_pairsUsed 29 = .ok (.iconst (-1), 1) := by decide +kernel
theorem dX5_pairsUsed_30 : decode cX5_pairsUsed 30 = .ok (.if_icmp .eq 29, 3) := by decide +kernel
theorem dX5_pairsUsed_33 : decode cX5_pairsUsed 33 = .ok (.aload_n 1, 1) := by decide +kernel
theorem dX5_pairsUsed_34 : decode cX5_pairsUsed 34 = .ok (.getfield 70, 3) := by decide +kernel
theorem dX5_pairsUsed_37 : decode cX5_pairsUsed 37 = .ok (.iload 4, 2) := by decide +kernel
theorem dX5_pairsUsed_39 : decode cX5_pairsUsed 39 = .ok (.baload, 1) := by decide +kernel
theorem dX5_pairsUsed_40 : decode cX5_pairsUsed 40 = .ok (.ifCond .eq 19, 3) := by decide +kernel
theorem dX5_pairsUsed_43 : decode cX5_pairsUsed 43 = .ok (.aload_n 0, 1) := by decide +kernel
theorem dX5_pairsUsed_44 : decode cX5_pairsUsed 44 = .ok (.getfield 73, 3) := by decide +kernel
theorem dX5_pairsUsed_47 : decode cX5_pairsUsed 47 = .ok (.iload_n 3, 1) := by decide +kernel
theorem dX5_pairsUsed_48 : decode cX5_pairsUsed 48 = .ok (.iaload, 1) := by decide +kernel
theorem dX5_pairsUsed_49 : decode cX5_pairsUsed 49 = .ok (.aload_n 1, 1) := by decide +kernel
theorem dX5_pairsUsed_50 : decode cX5_pairsUsed 50 = .ok (.getfield 73, 3) := by decide +kernel
theorem dX5_pairsUsed_53 : decode cX5_pairsUsed 53 = .ok (.iload 4, 2) := by decide +kernel
theorem dX5_pairsUsed_55 : decode cX5_pairsUsed 55 = .ok (.iaload, 1) := by decide +kernel
theorem dX5_pairsUsed_56 : decode cX5_pairsUsed 56 = .ok (.if_icmp .eq 5, 3) := by decide +kernel
theorem dX5_pairsUsed_59 : decode cX5_pairsUsed 59 = .ok (.iconst 0, 1) := by decide +kernel
theorem dX5_pairsUsed_60 : decode cX5_pairsUsed 60 = .ok (.ireturn, 1) := by decide +kernel
theorem dX5_pairsUsed_61 : decode cX5_pairsUsed 61 = .ok (.iinc 3 1, 3) := by decide +kernel
theorem dX5_pairsUsed_64 : decode cX5_pairsUsed 64 = .ok (.goto (-62), 3) := by decide +kernel
theorem dX5_pairsUsed_67 : decode cX5_pairsUsed 67 = .ok (.iconst 1, 1) := by decide +kernel
theorem dX5_pairsUsed_68 : decode cX5_pairsUsed 68 = .ok (.ireturn, 1) := by decide +kernel
theorem dX5_allPairsAgree_0 : decode cX5_allPairsAgree 0 = .ok (.iconst 0, 1) := by decide +kernel
theorem dX5_allPairsAgree_1 : decode cX5_allPairsAgree 1 = .ok (.istore_n 2, 1) := by decide +kernel
theorem dX5_allPairsAgree_2 : decode cX5_allPairsAgree 2 = .ok (.iload_n 2, 1) := by decide +kernel
theorem dX5_allPairsAgree_3 : decode cX5_allPairsAgree 3 = .ok (.aload_n 1, 1) := by decide +kernel
theorem dX5_allPairsAgree_4 : decode cX5_allPairsAgree 4 = .ok (.getfield 37, 3) := by decide +kernel
theorem dX5_allPairsAgree_7 : decode cX5_allPairsAgree 7 = .ok (.getfield 57, 3) := by decide +kernel
theorem dX5_allPairsAgree_10 : decode cX5_allPairsAgree 10 = .ok (.if_icmp .ge 32, 3) := by decide +kernel
theorem dX5_allPairsAgree_13 : decode cX5_allPairsAgree 13 = .ok (.aload_n 1, 1) := by decide +kernel
theorem dX5_allPairsAgree_14 : decode cX5_allPairsAgree 14 = .ok (.getfield 37, 3) := by decide +kernel
theorem dX5_allPairsAgree_17 : decode cX5_allPairsAgree 17 = .ok (.getfield 63, 3) := by decide +kernel
theorem dX5_allPairsAgree_20 : decode cX5_allPairsAgree 20 = .ok (.iload_n 2, 1) := by decide +kernel
theorem dX5_allPairsAgree_21 : decode cX5_allPairsAgree 21 = .ok (.baload, 1) := by decide +kernel
theorem dX5_allPairsAgree_22 : decode cX5_allPairsAgree 22 = .ok (.ifCond .ne 14, 3) := by decide +kernel
theorem dX5_allPairsAgree_25 : decode cX5_allPairsAgree 25 = .ok (.aload_n 0, 1) := by decide +kernel
theorem dX5_allPairsAgree_26 : decode cX5_allPairsAgree 26 = .ok (.aload_n 1, 1) := by decide +kernel
theorem dX5_allPairsAgree_27 : decode cX5_allPairsAgree 27 = .ok (.iload_n 2, 1) := by decide +kernel
theorem dX5_allPairsAgree_28 : decode cX5_allPairsAgree 28 = .ok (.invokevirtual 76, 3) := by decide +kernel
theorem dX5_allPairsAgree_31 : decode cX5_allPairsAgree 31 = .ok (.ifCond .ne 5, 3) := by decide +kernel
theorem dX5_allPairsAgree_34 : decode cX5_allPairsAgree 34 = .ok (.iconst 0, 1) := by decide +kernel
theorem dX5_allPairsAgree_35 : decode cX5_allPairsAgree 35 = .ok (.ireturn, 1) := by decide +kernel
theorem dX5_allPairsAgree_36 : decode cX5_allPairsAgree 36 = .ok (.iinc 2 1, 3) := by decide +kernel
theorem dX5_allPairsAgree_39 : decode cX5_allPairsAgree 39 = .ok (.goto (-37), 3) := by decide +kernel
theorem dX5_allPairsAgree_42 : decode cX5_allPairsAgree 42 = .ok (.iconst 1, 1) := by decide +kernel
theorem dX5_allPairsAgree_43 : decode cX5_allPairsAgree 43 = .ok (.ireturn, 1) := by decide +kernel
theorem dX5_pairAgrees_0 : decode cX5_pairAgrees 0 = .ok (.aload_n 1, 1) := by decide +kernel
theorem dX5_pairAgrees_1 : decode cX5_pairAgrees 1 = .ok (.getfield 37, 3) := by decide +kernel
theorem dX5_pairAgrees_4 : decode cX5_pairAgrees 4 = .ok (.astore_n 3, 1) := by decide +kernel
theorem dX5_pairAgrees_5 : decode cX5_pairAgrees 5 = .ok (.aload_n 1, 1) := by decide +kernel
theorem dX5_pairAgrees_6 : decode cX5_pairAgrees 6 = .ok (.getfield 43, 3) := by decide +kernel
theorem dX5_pairAgrees_9 : decode cX5_pairAgrees 9 = .ok (.astore 4, 2) := by decide +kernel
theorem dX5_pairAgrees_11 : decode cX5_pairAgrees 11 = .ok (.aload_n 0, 1) := by decide +kernel
theorem dX5_pairAgrees_12 : decode cX5_pairAgrees 12 = .ok (.getfield 15, 3) := by decide +kernel
theorem dX5_pairAgrees_15 : decode cX5_pairAgrees 15 = .ok (.iload_n 2, 1) := by decide +kernel
theorem dX5_pairAgrees_16 : decode cX5_pairAgrees 16 = .ok (.iaload, 1) := by decide +kernel
theorem dX5_pairAgrees_17 : decode cX5_pairAgrees 17 = .ok (.istore 5, 2) := by decide +kernel
theorem dX5_pairAgrees_19 : decode cX5_pairAgrees 19 = .ok (.aload_n 3, 1) := by decide +kernel
theorem dX5_pairAgrees_20 : decode cX5_pairAgrees 20 = .ok (.getfield 80, 3) := by decide +kernel
theorem dX5_pairAgrees_23 : decode cX5_pairAgrees 23 = .ok (.iload_n 2, 1) := by decide +kernel
theorem dX5_pairAgrees_24 : decode cX5_pairAgrees 24 = .ok (.iaload, 1) := by decide +kernel
theorem dX5_pairAgrees_25 : decode cX5_pairAgrees 25 = .ok (.istore 6, 2) := by decide +kernel
theorem dX5_pairAgrees_27 : decode cX5_pairAgrees 27 = .ok (.aload_n 1, 1) := by decide +kernel
theorem dX5_pairAgrees_28 : decode cX5_pairAgrees 28 = .ok (.getfield 83, 3) := by decide +kernel
theorem dX5_pairAgrees_31 : decode cX5_pairAgrees 31 = .ok (.iload 6, 2) := by decide +kernel
theorem dX5_pairAgrees_33 : decode cX5_pairAgrees 33 = .ok (.aload_n 3, 1) := by decide +kernel
theorem dX5_pairAgrees_34 : decode cX5_pairAgrees 34 = .ok (.getfield 87, 3) := by decide +kernel
theorem dX5_pairAgrees_37 : decode cX5_pairAgrees 37 = .ok (.iload_n 2, 1) := by decide +kernel
theorem dX5_pairAgrees_38 : decode cX5_pairAgrees 38 = .ok (.daload, 1) := by decide +kernel
theorem dX5_pairAgrees_39 : decode cX5_pairAgrees 39 = .ok (.aload 4, 2) := by decide +kernel
theorem dX5_pairAgrees_41 : decode cX5_pairAgrees 41 = .ok (.getfield 87, 3) := by decide +kernel
theorem dX5_pairAgrees_44 : decode cX5_pairAgrees 44 = .ok (.iload 5, 2) := by decide +kernel
theorem dX5_pairAgrees_46 : decode cX5_pairAgrees 46 = .ok (.daload, 1) := by decide +kernel
theorem dX5_pairAgrees_47 : decode cX5_pairAgrees 47 = .ok (.invokevirtual 91, 3) := by decide +kernel
theorem dX5_pairAgrees_50 : decode cX5_pairAgrees 50 = .ok (.ifCond .ne 5, 3) := by decide +kernel
theorem dX5_pairAgrees_53 : decode cX5_pairAgrees 53 = .ok (.iconst 0, 1) := by decide +kernel
theorem dX5_pairAgrees_54 : decode cX5_pairAgrees 54 = .ok (.ireturn, 1) := by decide +kernel
theorem dX5_pairAgrees_55 : decode cX5_pairAgrees 55 = .ok (.iconst 0, 1) := by decide +kernel
theorem dX5_pairAgrees_56 : decode cX5_pairAgrees 56 = .ok (.istore 7, 2) := by decide +kernel
theorem dX5_pairAgrees_58 : decode cX5_pairAgrees 58 = .ok (.iload 7, 2) := by decide +kernel
theorem dX5_pairAgrees_60 : decode cX5_pairAgrees 60 = .ok (.iconst 4, 1) := by decide +kernel
theorem dX5_pairAgrees_61 : decode cX5_pairAgrees 61 = .ok (.if_icmp .ge 83, 3) := by decide +kernel
theorem dX5_pairAgrees_64 : decode cX5_pairAgrees 64 = .ok (.aload_n 1, 1) := by decide +kernel
theorem dX5_pairAgrees_65 : decode cX5_pairAgrees 65 = .ok (.getfield 83, 3) := by decide +kernel
theorem dX5_pairAgrees_68 : decode cX5_pairAgrees 68 = .ok (.iload 6, 2) := by decide +kernel
theorem dX5_pairAgrees_70 : decode cX5_pairAgrees 70 = .ok (.iload 7, 2) := by decide +kernel
theorem dX5_pairAgrees_72 : decode cX5_pairAgrees 72 = .ok (.invokevirtual 97, 3) := by decide +kernel
theorem dX5_pairAgrees_75 : decode cX5_pairAgrees 75 = .ok (.istore 8, 2) := by decide +kernel
theorem dX5_pairAgrees_77 : decode cX5_pairAgrees 77 = .ok (.aload_n 3, 1) := by decide +kernel
theorem dX5_pairAgrees_78 : decode cX5_pairAgrees 78 = .ok (.iload_n 2, 1) := by decide +kernel
theorem dX5_pairAgrees_79 : decode cX5_pairAgrees 79 = .ok (.iload 7, 2) := by decide +kernel
theorem dX5_pairAgrees_81 : decode cX5_pairAgrees 81 = .ok (.invokevirtual 101, 3) := by decide +kernel
theorem dX5_pairAgrees_84 : decode cX5_pairAgrees 84 = .ok (.istore 9, 2) := by decide +kernel
theorem dX5_pairAgrees_86 : decode cX5_pairAgrees 86 = .ok (.iload 9, 2) := by decide +kernel
theorem dX5_pairAgrees_88 : decode cX5_pairAgrees 88 = .ok (.iconst (-1), 1) := by decide +kernel
theorem dX5_pairAgrees_89 : decode cX5_pairAgrees 89 = .ok (.if_icmp .ne 7, 3) := by decide +kernel
theorem dX5_pairAgrees_92 : decode cX5_pairAgrees 92 = .ok (.iconst (-1), 1) := by decide +kernel
theorem dX5_pairAgrees_93 : decode cX5_pairAgrees 93 = .ok (.goto 10, 3) := by decide +kernel
theorem dX5_pairAgrees_96 : decode cX5_pairAgrees 96 = .ok (.aload_n 0, 1) := by decide +kernel
theorem dX5_pairAgrees_97 : decode cX5_pairAgrees 97 = .ok (.getfield 22, 3) := by decide +kernel
theorem dX5_pairAgrees_100 : decode cX5_pairAgrees 100 = .ok (.iload 9, 2) := by decide +kernel
theorem dX5_pairAgrees_102 : decode cX5_pairAgrees 102 = .ok (.iaload, 1) := by decide +kernel
theorem dX5_pairAgrees_103 : decode cX5_pairAgrees 103 = .ok (.istore 10, 2) := by decide +kernel
theorem dX5_pairAgrees_105 : decode cX5_pairAgrees 105 = .ok (.aload_n 1, 1) := by decide +kernel
theorem dX5_pairAgrees_106 : decode cX5_pairAgrees 106 = .ok (.getfield 83, 3) := by decide +kernel
theorem dX5_pairAgrees_109 : decode cX5_pairAgrees 109 = .ok (.aload_n 3, 1) := by decide +kernel
theorem dX5_pairAgrees_110 : decode cX5_pairAgrees 110 = .ok (.iload_n 2, 1) := by decide +kernel
theorem dX5_pairAgrees_111 : decode cX5_pairAgrees 111 = .ok (.iload 8, 2) := by decide +kernel
theorem dX5_pairAgrees_113 : decode cX5_pairAgrees 113 = .ok (.iload 9, 2) := by decide +kernel
theorem dX5_pairAgrees_115 : decode cX5_pairAgrees 115 = .ok (.invokevirtual 104, 3) := by decide +kernel
theorem dX5_pairAgrees_118 : decode cX5_pairAgrees 118 = .ok (.aload_n 1, 1) := by decide +kernel
theorem dX5_pairAgrees_119 : decode cX5_pairAgrees 119 = .ok (.getfield 83, 3) := by decide +kernel
theorem dX5_pairAgrees_122 : decode cX5_pairAgrees 122 = .ok (.aload 4, 2) := by decide +kernel
theorem dX5_pairAgrees_124 : decode cX5_pairAgrees 124 = .ok (.iload 5, 2) := by decide +kernel
theorem dX5_pairAgrees_126 : decode cX5_pairAgrees 126 = .ok (.iload 8, 2) := by decide +kernel
theorem dX5_pairAgrees_128 : decode cX5_pairAgrees 128 = .ok (.iload 10, 2) := by decide +kernel
theorem dX5_pairAgrees_130 : decode cX5_pairAgrees 130 = .ok (.invokevirtual 104, 3) := by decide +kernel
theorem dX5_pairAgrees_133 : decode cX5_pairAgrees 133 = .ok (.if_icmp .eq 5, 3) := by decide +kernel
theorem dX5_pairAgrees_136 : decode cX5_pairAgrees 136 = .ok (.iconst 0, 1) := by decide +kernel
theorem dX5_pairAgrees_137 : decode cX5_pairAgrees 137 = .ok (.ireturn, 1) := by decide +kernel
theorem dX5_pairAgrees_138 : decode cX5_pairAgrees 138 = .ok (.iinc 7 1, 3) := by decide +kernel
theorem dX5_pairAgrees_141 : decode cX5_pairAgrees 141 = .ok (.goto (-83), 3) := by decide +kernel
theorem dX5_pairAgrees_144 : decode cX5_pairAgrees 144 = .ok (.iconst 1, 1) := by decide +kernel
theorem dX5_pairAgrees_145 : decode cX5_pairAgrees 145 = .ok (.ireturn, 1) := by decide +kernel
theorem dX6_init_0 : decode cX6_init 0 = .ok (.aload_n 0, 1) := by decide +kernel
theorem dX6_init_1 : decode cX6_init 1 = .ok (.invokespecial 3, 3) := by decide +kernel
theorem dX6_init_4 : decode cX6_init 4 = .ok (.aload_n 0, 1) := by decide +kernel
theorem dX6_init_5 : decode cX6_init 5 = .ok (.bipush 40, 2) := by decide +kernel
theorem dX6_init_7 : decode cX6_init 7 = .ok (.newarray .int, 2) := by decide +kernel
theorem dX6_init_9 : decode cX6_init 9 = .ok (.putfield 9, 3) := by decide +kernel
theorem dX6_init_12 : decode cX6_init 12 = .ok (.aload_n 0, 1) := by decide +kernel
theorem dX6_init_13 : decode cX6_init 13 = .ok (.iconst 0, 1) := by decide +kernel
theorem dX6_init_14 : decode cX6_init 14 = .ok (.putfield 15, 3) := by decide +kernel
theorem dX6_init_17 : decode cX6_init 17 = .ok (.aload_n 0, 1) := by decide +kernel
theorem dX6_init_18 : decode cX6_init 18 = .ok (.iconst 4, 1) := by decide +kernel
theorem dX6_init_19 : decode cX6_init 19 = .ok (.newarray .int, 2) := by decide +kernel
theorem dX6_init_21 : decode cX6_init 21 = .ok (.putfield 19, 3) := by decide +kernel
theorem dX6_init_24 : decode cX6_init 24 = .ok (.aload_n 0, 1) := by decide +kernel
theorem dX6_init_25 : decode cX6_init 25 = .ok (.iconst 4, 1) := by decide +kernel
theorem dX6_init_26 : decode cX6_init 26 = .ok (.newarray .int, 2) := by decide +kernel
theorem dX6_init_28 : decode cX6_init 28 = .ok (.putfield 22, 3) := by decide +kernel
theorem dX6_init_31 : decode cX6_init 31 = .ok (.return_, 1) := by decide +kernel
theorem dX6_lookAt_0 : decode cX6_lookAt 0 = .ok (.aload_n 0, 1) := by decide +kernel
theorem dX6_lookAt_1 : decode cX6_lookAt 1 = .ok (.iconst 0, 1) := by decide +kernel
theorem dX6_lookAt_2 : decode cX6_lookAt 2 = .ok (.putfield 15, 3) := by decide +kernel
theorem dX6_lookAt_5 : decode cX6_lookAt 5 = .ok (.iconst 0, 1) := by decide +kernel
theorem dX6_lookAt_6 : decode cX6_lookAt 6 = .ok (.istore 4, 2) := by decide +kernel
theorem dX6_lookAt_8 : decode cX6_lookAt 8 = .ok (.iload 4, 2) := by decide +kernel
theorem dX6_lookAt_10 : decode cX6_lookAt 10 = .ok (.iconst 4, 1) := by decide +kernel
theorem dX6_lookAt_11 : decode cX6_lookAt 11 = .ok (.if_icmp .ge 58, 3) := by decide +kernel
theorem dX6_lookAt_14 : decode cX6_lookAt 14 = .ok (.aload_n 1, 1) := by decide +kernel
theorem dX6_lookAt_15 : decode cX6_lookAt 15 = .ok (.iload_n 3, 1) := by decide +kernel
theorem dX6_lookAt_16 : decode cX6_lookAt 16 = .ok (.iload 4, 2) := by decide +kernel
theorem dX6_lookAt_18 : decode cX6_lookAt 18 = .ok (.invokevirtual 25, 3) := by decide +kernel
theorem dX6_lookAt_21 : decode cX6_lookAt 21 = .ok (.istore 5, 2) := by decide +kernel
theorem dX6_lookAt_23 : decode cX6_lookAt 23 = .ok (.iload 5, 2) := by decide +kernel
theorem dX6_lookAt_25 : decode cX6_lookAt 25 = .ok (.iconst (-1), 1) := by decide +kernel
theorem dX6_lookAt_26 : decode cX6_lookAt 26 = .ok (.if_icmp .eq 37, 3) := by decide +kernel
theorem dX6_lookAt_29 : decode cX6_lookAt 29 = .ok (.aload_n 2, 1) := by decide +kernel
theorem dX6_lookAt_30 : decode cX6_lookAt 30 = .ok (.aload_n 1, 1) := by decide +kernel
theorem dX6_lookAt_31 : decode cX6_lookAt 31 = .ok (.getfield 31, 3) := by decide +kernel
theorem dX6_lookAt_34 : decode cX6_lookAt 34 = .ok (.iload_n 3, 1) := by decide +kernel
theorem dX6_lookAt_35 : decode cX6_lookAt 35 = .ok (.iaload, 1) := by decide +kernel
theorem dX6_lookAt_36 : decode cX6_lookAt 36 = .ok (.iload 4, 2) := by decide +kernel
theorem dX6_lookAt_38 : decode cX6_lookAt 38 = .ok (.invokevirtual 34, 3) := by decide +kernel
theorem dX6_lookAt_41 : decode cX6_lookAt 41 = .ok (.istore 6, 2) := by decide +kernel
theorem dX6_lookAt_43 : decode cX6_lookAt 43 = .ok (.aload_n 0, 1) := by decide +kernel
theorem dX6_lookAt_44 : decode cX6_lookAt 44 = .ok (.getfield 22, 3) := by decide +kernel
theorem dX6_lookAt_47 : decode cX6_lookAt 47 = .ok (.aload_n 0, 1) := by decide +kernel
theorem dX6_lookAt_48 : decode cX6_lookAt 48 = .ok (.iload 5, 2) := by decide +kernel
theorem dX6_lookAt_50 : decode cX6_lookAt 50 = .ok (.invokevirtual 39, 3) := by decide +kernel
theorem dX6_lookAt_53 : decode cX6_lookAt 53 = .ok (.dup2, 1) := by decide +kernel
theorem dX6_lookAt_54 : decode cX6_lookAt 54 = .ok (.iaload, 1) := by decide +kernel
theorem dX6_lookAt_55 : decode cX6_lookAt 55 = .ok (.iconst 1, 1) := by decide +kernel
theorem dX6_lookAt_56 : decode cX6_lookAt 56 = .ok (.iconst 3, 1) := by decide +kernel
theorem dX6_lookAt_57 : decode cX6_lookAt 57 = .ok (.iload 6, 2) := by decide +kernel
theorem dX6_lookAt_59 : decode cX6_lookAt 59 = .ok (.imul, 1) := by decide +kernel
theorem dX6_lookAt_60 : decode cX6_lookAt 60 = .ok (.ishl, 1) := by decide +kernel
theorem dX6_lookAt_61 : decode cX6_lookAt 61 = .ok (.iadd, 1) := by decide +kernel
theorem dX6_lookAt_62 : decode cX6_lookAt 62 = .ok (.iastore, 1) := by decide +kernel
theorem dX6_lookAt_63 : decode cX6_lookAt 63 = .ok (.iinc 4 1, 3) := by decide +kernel
theorem dX6_lookAt_66 : decode cX6_lookAt 66 = .ok (.goto (-58), 3) := by decide +kernel
theorem dX6_lookAt_69 : decode cX6_lookAt 69 = .ok (.return_, 1) := by decide +kernel
theorem dX6_placeOf_0 : decode cX6_placeOf 0 = .ok (.iconst 0, 1) := by decide +kernel
theorem dX6_placeOf_1 : decode cX6_placeOf 1 = .ok (.istore_n 2, 1) := by decide +kernel
theorem dX6_placeOf_2 : decode cX6_placeOf 2 = .ok (.iload_n 2, 1) := by decide +kernel
theorem dX6_placeOf_3 : decode cX6_placeOf 3 = .ok (.aload_n 0, 1) := by decide +kernel
theorem dX6_placeOf_4 : decode cX6_placeOf 4 = .ok (.getfield 15, 3) := by decide +kernel
theorem dX6_placeOf_7 : decode cX6_placeOf 7 = .ok (.if_icmp .ge 21, 3) := by decide +kernel
theorem dX6_placeOf_10 : decode cX6_placeOf 10 = .ok (.aload_n 0, 1) := by decide +kernel
theorem dX6_placeOf_11 : decode cX6_placeOf 11 = .ok (.getfield 19, 3) := by decide +kernel
theorem dX6_placeOf_14 : decode cX6_placeOf 14 = .ok (.iload_n 2, 1) := by decide +kernel
theorem dX6_placeOf_15 : decode cX6_placeOf 15 = .ok (.iaload, 1) := by decide +kernel
theorem dX6_placeOf_16 : decode cX6_placeOf 16 = .ok (.iload_n 1, 1) := by decide +kernel
theorem dX6_placeOf_17 : decode cX6_placeOf 17 = .ok (.if_icmp .ne 5, 3) := by decide +kernel
theorem dX6_placeOf_20 : decode cX6_placeOf 20 = .ok (.iload_n 2, 1) := by decide +kernel
theorem dX6_placeOf_21 : decode cX6_placeOf 21 = .ok (.ireturn, 1) := by decide +kernel
theorem dX6_placeOf_22 : decode cX6_placeOf 22 = .ok (.iinc 2 1, 3) := by decide +kernel
theorem dX6_placeOf_25 : decode cX6_placeOf 25 = .ok (.goto (-23), 3) := by decide +kernel
theorem dX6_placeOf_28 : decode cX6_placeOf 28 = .ok (.aload_n 0, 1) := by decide +kernel
theorem dX6_placeOf_29 : decode cX6_placeOf 29 = .ok (.getfield 15, 3) := by decide +kernel
theorem dX6_placeOf_32 : decode cX6_placeOf 32 = .ok (.istore_n 2, 1) := by decide +kernel
theorem dX6_placeOf_33 : decode cX6_placeOf 33 = .ok (.aload_n 0, 1) := by decide +kernel
theorem dX6_placeOf_34 : decode cX6_placeOf 34 = .ok (.getfield 19, 3) := by decide +kernel
theorem dX6_placeOf_37 : decode cX6_placeOf 37 = .ok (.iload_n 2, 1) := by decide +kernel
theorem dX6_placeOf_38 : decode cX6_placeOf 38 = .ok (.iload_n 1, 1) := by decide +kernel
theorem dX6_placeOf_39 : decode cX6_placeOf 39 = .ok (.iastore, 1) := by decide +kernel
theorem dX6_placeOf_40 : decode cX6_placeOf 40 = .ok (.aload_n 0, 1) := by decide +kernel
theorem dX6_placeOf_41 : decode cX6_placeOf 41 = .ok (.getfield 22, 3) := by decide +kernel
theorem dX6_placeOf_44 : decode cX6_placeOf 44 = .ok (.iload_n 2, 1) := by decide +kernel
theorem dX6_placeOf_45 : decode cX6_placeOf 45 = .ok (.aload_n 0, 1) := by decide +kernel
theorem dX6_placeOf_46 : decode cX6_placeOf 46 = .ok (.getfield 9, 3) := by decide +kernel
theorem dX6_placeOf_49 : decode cX6_placeOf 49 = .ok (.iload_n 1, 1) := by decide +kernel
theorem dX6_placeOf_50 : decode cX6_placeOf 50 = .ok (.iaload, 1) := by decide +kernel
theorem dX6_placeOf_51 : decode cX6_placeOf 51 = .ok (.bipush 12, 2) := by decide +kernel
theorem dX6_placeOf_53 : decode cX6_placeOf 53 = .ok (.ishl, 1) := by decide +kernel
theorem dX6_placeOf_54 : decode cX6_placeOf 54 = .ok (.iastore, 1) := by decide +kernel
theorem dX6_placeOf_55 : decode cX6_placeOf 55 = .ok (.aload_n 0, 1) := by decide +kernel
theorem dX6_placeOf_56 : decode cX6_placeOf 56 = .ok (.dup, 1) := by decide +kernel
theorem dX6_placeOf_57 : decode cX6_placeOf 57 = .ok (.getfield 15, 3) := by decide +kernel
theorem dX6_placeOf_60 : decode cX6_placeOf 60 = .ok (.iconst 1, 1) := by decide +kernel
theorem dX6_placeOf_61 : decode cX6_placeOf 61 = .ok (.iadd, 1) := by decide +kernel
theorem dX6_placeOf_62 : decode cX6_placeOf 62 = .ok (.putfield 15, 3) := by decide +kernel
theorem dX6_placeOf_65 : decode cX6_placeOf 65 = .ok (.iload_n 2, 1) := by decide +kernel
theorem dX6_placeOf_66 : decode cX6_placeOf 66 = .ok (.ireturn, 1) := by decide +kernel
theorem dX6_placeWith_0 : decode cX6_placeWith 0 = .ok (.iconst 0, 1) := by decide +kernel
theorem dX6_placeWith_1 : decode cX6_placeWith 1 = .ok (.istore_n 3, 1) := by decide +kernel
theorem dX6_placeWith_2 : decode cX6_placeWith 2 = .ok (.iload_n 3, 1) := by decide +kernel
theorem dX6_placeWith_3 : decode cX6_placeWith 3 = .ok (.aload_n 0, 1) := by decide +kernel
theorem dX6_placeWith_4 : decode cX6_placeWith 4 = .ok (.getfield 15, 3) := by decide +kernel
theorem dX6_placeWith_7 : decode cX6_placeWith 7 = .ok (.if_icmp .ge 29, 3) := by decide +kernel
theorem dX6_placeWith_10 : decode cX6_placeWith 10 = .ok (.aload_n 0, 1) := by decide +kernel
theorem dX6_placeWith_11 : decode cX6_placeWith 11 = .ok (.getfield 22, 3) := by decide +kernel
theorem dX6_placeWith_14 : decode cX6_placeWith 14 = .ok (.iload_n 3, 1) := by decide +kernel
theorem dX6_placeWith_15 : decode cX6_placeWith 15 = .ok (.iaload, 1) := by decide +kernel
theorem dX6_placeWith_16 : decode cX6_placeWith 16 = .ok (.iload_n 1, 1) := by decide +kernel
theorem dX6_placeWith_17 : decode cX6_placeWith 17 = .ok (.if_icmp .ne 13, 3) := by decide +kernel
theorem dX6_placeWith_20 : decode cX6_placeWith 20 = .ok (.iload_n 2, 1) := by decide +kernel
theorem dX6_placeWith_21 : decode cX6_placeWith 21 = .ok (.iload_n 3, 1) := by decide +kernel
theorem dX6_placeWith_22 : decode cX6_placeWith 22 = .ok (.ishr, 1) := by decide +kernel
theorem dX6_placeWith_23 : decode cX6_placeWith 23 = .ok (.iconst 1, 1) := by decide +kernel
theorem dX6_placeWith_24 : decode cX6_placeWith 24 = .ok (.iand, 1) := by decide +kernel
theorem dX6_placeWith_25 : decode cX6_placeWith 25 = .ok (.ifCond .ne 5, 3) := by decide +kernel
theorem dX6_placeWith_28 : decode cX6_placeWith 28 = .ok (.iload_n 3, 1) := by decide +kernel
theorem dX6_placeWith_29 : decode cX6_placeWith 29 = .ok (.ireturn, 1) := by decide +kernel
theorem dX6_placeWith_30 : decode cX6_placeWith 30 = .ok (.iinc 3 1, 3) := by decide +kernel
theorem dX6_placeWith_33 : decode cX6_placeWith 33 = .ok (.goto (-31), 3) := by decide +kernel
theorem dX6_placeWith_36 : decode cX6_placeWith 36 = .ok (.iconst (-1), 1) := by decide +kernel
theorem dX6_placeWith_37 : decode cX6_placeWith 37 = .ok (.ireturn, 1) := by decide +kernel
theorem dX7_init_0 : decode cX7_init 0 = .ok (.aload_n 0, 1) := by decide +kernel
theorem dX7_init_1 : decode cX7_init 1 = .ok (.invokespecial 3, 3) := by decide +kernel
theorem dX7_init_4 : decode cX7_init 4 = .ok (.aload_n 0, 1) := by decide +kernel
theorem dX7_init_5 : decode cX7_init 5 = .ok (.iconst 0, 1) := by decide +kernel
theorem dX7_init_6 : decode cX7_init 6 = .ok (.putfield 9, 3) := by decide +kernel
theorem dX7_init_9 : decode cX7_init 9 = .ok (.aload_n 0, 1) := by decide +kernel
theorem dX7_init_10 : decode cX7_init 10 = .ok (.iload_n 1, 1) := by decide +kernel
theorem dX7_init_11 : decode cX7_init 11 = .ok (.putfield 15, 3) := by decide +kernel
theorem dX7_init_14 : decode cX7_init 14 = .ok (.aload_n 0, 1) := by decide +kernel
theorem dX7_init_15 : decode cX7_init 15 = .ok (.iload_n 2, 1) := by decide +kernel
theorem dX7_init_16 : decode cX7_init 16 = .ok (.putfield 18, 3) := by decide +kernel
theorem dX7_init_19 : decode cX7_init 19 = .ok (.aload_n 0, 1) := by decide +kernel
theorem dX7_init_20 : decode cX7_init 20 = .ok (.iload_n 1, 1) := by decide +kernel
theorem dX7_init_21 : decode cX7_init 21 = .ok (.newarray .int, 2) := by decide +kernel
theorem dX7_init_23 : decode cX7_init 23 = .ok (.putfield 21, 3) := by decide +kernel
theorem dX7_init_26 : decode cX7_init 26 = .ok (.aload_n 0, 1) := by decide +kernel
theorem dX7_init_27 : decode cX7_init 27 = .ok (.iload_n 1, 1) := by decide +kernel
theorem dX7_init_28 : decode cX7_init 28 = .ok (.iload_n 2, 1) := by decide +kernel
theorem dX7_init_29 : decode cX7_init 29 = .ok (.imul, 1) := by decide +kernel
theorem dX7_init_30 : decode cX7_init 30 = .ok (.newarray .int, 2) := by decide +kernel
theorem dX7_init_32 : decode cX7_init 32 = .ok (.putfield 25, 3) := by decide +kernel
theorem dX7_init_35 : decode cX7_init 35 = .ok (.aload_n 0, 1) := by decide +kernel
theorem dX7_init_36 : decode cX7_init 36 = .ok (.iload_n 1, 1) := by decide +kernel
theorem dX7_init_37 : decode cX7_init 37 = .ok (.newarray .int, 2) := by decide +kernel
theorem dX7_init_39 : decode cX7_init 39 = .ok (.putfield 28, 3) := by decide +kernel
theorem dX7_init_42 : decode cX7_init 42 = .ok (.aload_n 0, 1) := by decide +kernel
theorem dX7_init_43 : decode cX7_init 43 = .ok (.iload_n 1, 1) := by decide +kernel
theorem dX7_init_44 : decode cX7_init 44 = .ok (.newarray .int, 2) := by decide +kernel
theorem dX7_init_46 : decode cX7_init 46 = .ok (.putfield 31, 3) := by decide +kernel
theorem dX7_init_49 : decode cX7_init 49 = .ok (.aload_n 0, 1) := by decide +kernel
theorem dX7_init_50 : decode cX7_init 50 = .ok (.iload_n 1, 1) := by decide +kernel
theorem dX7_init_51 : decode cX7_init 51 = .ok (.newarray .int, 2) := by decide +kernel
theorem dX7_init_53 : decode cX7_init 53 = .ok (.putfield 34, 3) := by decide +kernel
theorem dX7_init_56 : decode cX7_init 56 = .ok (.aload_n 0, 1) := by decide +kernel
theorem dX7_init_57 : decode cX7_init 57 = .ok (.iload_n 1, 1) := by decide +kernel
theorem dX7_init_58 : decode cX7_init 58 = .ok (.newarray .int, 2) := by decide +kernel
theorem dX7_init_60 : decode cX7_init 60 = .ok (.putfield 37, 3) := by decide +kernel
theorem dX7_init_63 : decode cX7_init 63 = .ok (.return_, 1) := by decide +kernel
theorem dX7_empty_0 : decode cX7_empty 0 = .ok (.aload_n 0, 1) := by decide +kernel
theorem dX7_empty_1 : decode cX7_empty 1 = .ok (.iconst 0, 1) := by decide +kernel
theorem dX7_empty_2 : decode cX7_empty 2 = .ok (.putfield 9, 3) := by decide +kernel
theorem dX7_empty_5 : decode cX7_empty 5 = .ok (.aload_n 0, 1) := by decide +kernel
theorem dX7_empty_6 : decode cX7_empty 6 = .ok (.getfield 21, 3) := by decide +kernel
theorem dX7_empty_9 : decode cX7_empty 9 = .ok (.iconst (-1), 1) := by decide +kernel
theorem dX7_empty_10 : decode cX7_empty 10 = .ok (.invokestatic 40, 3) := by decide +kernel
theorem dX7_empty_13 : decode cX7_empty 13 = .ok (.aload_n 0, 1) := by decide +kernel
theorem dX7_empty_14 : decode cX7_empty 14 = .ok (.invokevirtual 46, 3) := by decide +kernel
theorem dX7_empty_17 : decode cX7_empty 17 = .ok (.return_, 1) := by decide +kernel
theorem dX7_forgetCodes_0 : decode cX7_forgetCodes 0 = .ok (.aload_n 0, 1) := by decide +kernel
theorem dX7_forgetCodes_1 : decode cX7_forgetCodes 1 = .ok (.getfield 28, 3) := by decide +kernel
theorem dX7_forgetCodes_4 : decode cX7_forgetCodes 4 = .ok (.iconst 0, 1) := by decide +kernel
theorem dX7_forgetCodes_5 : decode cX7_forgetCodes 5 = .ok (.invokestatic 40, 3) := by decide +kernel
theorem dX7_forgetCodes_8 : decode cX7_forgetCodes 8 = .ok (.return_, 1) := by decide +kernel
theorem dX7_enter_0 : decode cX7_enter 0 = .ok (.aload_n 0, 1) := by decide +kernel
theorem dX7_enter_1 : decode cX7_enter 1 = .ok (.getfield 21, 3) := by decide +kernel
theorem dX7_enter_4 : decode cX7_enter 4 = .ok (.iload_n 1, 1) := by decide +kernel
theorem dX7_enter_5 : decode cX7_enter 5 = .ok (.iconst 0, 1) := by decide +kernel
theorem dX7_enter_6 : decode cX7_enter 6 = .ok (.iastore, 1) := by decide +kernel
theorem dX7_enter_7 : decode cX7_enter 7 = .ok (.aload_n 0, 1) := by decide +kernel
theorem dX7_enter_8 : decode cX7_enter 8 = .ok (.iload_n 1, 1) := by decide +kernel
theorem dX7_enter_9 : decode cX7_enter 9 = .ok (.iload_n 2, 1) := by decide +kernel
theorem dX7_enter_10 : decode cX7_enter 10 = .ok (.invokevirtual 49, 3) := by decide +kernel
theorem dX7_enter_13 : decode cX7_enter 13 = .ok (.return_, 1) := by decide +kernel
theorem dX7_addCode_0 : decode cX7_addCode 0 = .ok (.iload_n 1, 1) := by decide +kernel
theorem dX7_addCode_1 : decode cX7_addCode 1 = .ok (.aload_n 0, 1) := by decide +kernel
theorem dX7_addCode_2 : decode cX7_addCode 2 = .ok (.getfield 18, 3) := by decide +kernel
theorem dX7_addCode_5 : decode cX7_addCode 5 = .ok (.imul, 1) := by decide +kernel
theorem dX7_addCode_6 : decode cX7_addCode 6 = .ok (.istore_n 3, 1) := by decide +kernel
theorem dX7_addCode_7 : decode cX7_addCode 7 = .ok (.iload_n 3, 1) := by decide +kernel
theorem dX7_addCode_8 : decode cX7_addCode 8 = .ok (.aload_n 0, 1) := by decide +kernel
theorem dX7_addCode_9 : decode cX7_addCode 9 = .ok (.getfield 28, 3) := by decide +kernel
theorem dX7_addCode_12 : decode cX7_addCode 12 = .ok (.iload_n 1, 1) := by decide +kernel
theorem dX7_addCode_13 : decode cX7_addCode 13 = .ok (.iaload, 1) := by decide +kernel
theorem dX7_addCode_14 : decode cX7_addCode 14 = .ok (.iadd, 1) := by decide +kernel
theorem dX7_addCode_15 : decode cX7_addCode 15 = .ok (.istore 4, 2) := by decide +kernel
theorem dX7_addCode_17 : decode cX7_addCode 17 = .ok (.iload 4, 2) := by decide +kernel
theorem dX7_addCode_19 : decode cX7_addCode 19 = .ok (.iload_n 3, 1) := by decide +kernel
theorem dX7_addCode_20 : decode cX7_addCode 20 = .ok (.if_icmp .le 38, 3) := by decide +kernel
theorem dX7_addCode_23 : decode cX7_addCode 23 = .ok (.aload_n 0, 1) := by decide +kernel
theorem dX7_addCode_24 : decode cX7_addCode 24 = .ok (.getfield 25, 3) := by decide +kernel
theorem dX7_addCode_27 : decode cX7_addCode 27 = .ok (.iload 4, 2) := by decide +kernel
theorem dX7_addCode_29 : decode cX7_addCode 29 = .ok (.iconst 1, 1) := by decide +kernel
theorem dX7_addCode_30 : decode cX7_addCode 30 = .ok (.isub, 1) := by decide +kernel
theorem dX7_addCode_31 : decode cX7_addCode 31 = .ok (.iaload, 1) := by decide +kernel
theorem dX7_addCode_32 : decode cX7_addCode 32 = .ok (.iload_n 2, 1) := by decide +kernel
theorem dX7_addCode_33 : decode cX7_addCode 33 = .ok (.if_icmp .le 25, 3) := by decide +kernel
theorem dX7_addCode_36 : decode cX7_addCode 36 = .ok (.aload_n 0, 1) := by decide +kernel
theorem dX7_addCode_37 : decode cX7_addCode 37 = .ok (.getfield 25, 3) := by decide +kernel
theorem dX7_addCode_40 : decode cX7_addCode 40 = .ok (.iload 4, 2) := by decide +kernel
theorem dX7_addCode_42 : decode cX7_addCode 42 = .ok (.aload_n 0, 1) := by decide +kernel
theorem dX7_addCode_43 : decode cX7_addCode 43 = .ok (.getfield 25, 3) := by decide +kernel
theorem dX7_addCode_46 : decode cX7_addCode 46 = .ok (.iload 4, 2) := by decide +kernel
theorem dX7_addCode_48 : decode cX7_addCode 48 = .ok (.iconst 1, 1) := by decide +kernel
theorem dX7_addCode_49 : decode cX7_addCode 49 = .ok (.isub, 1) := by decide +kernel
theorem dX7_addCode_50 : decode cX7_addCode 50 = .ok (.iaload, 1) := by decide +kernel
theorem dX7_addCode_51 : decode cX7_addCode 51 = .ok (.iastore, 1) := by decide +kernel
theorem dX7_addCode_52 : decode cX7_addCode 52 = .ok (.iinc 4 (-1), 3) := by decide +kernel
theorem dX7_addCode_55 : decode cX7_addCode 55 = .ok (.goto (-38), 3) := by decide +kernel
theorem dX7_addCode_58 : decode cX7_addCode 58 = .ok (.aload_n 0, 1) := by decide +kernel
theorem dX7_addCode_59 : decode cX7_addCode 59 = .ok (.getfield 25, 3) := by decide +kernel
theorem dX7_addCode_62 : decode cX7_addCode 62 = .ok (.iload 4, 2) := by decide +kernel
theorem dX7_addCode_64 : decode cX7_addCode 64 = .ok (.iload_n 2, 1) := by decide +kernel
theorem dX7_addCode_65 : decode cX7_addCode 65 = .ok (.iastore, 1) := by decide +kernel
theorem dX7_addCode_66 : decode cX7_addCode 66 = .ok (.aload_n 0, 1) := by decide +kernel
theorem dX7_addCode_67 : decode cX7_addCode 67 = .ok (.getfield 28, 3) := by decide +kernel
theorem dX7_addCode_70 : decode cX7_addCode 70 = .ok (.iload_n 1, 1) := by decide +kernel
theorem dX7_addCode_71 : decode cX7_addCode 71 = .ok (.dup2, 1) := by decide +kernel
theorem dX7_addCode_72 : decode cX7_addCode 72 = .ok (.iaload, 1) := by decide +kernel
theorem dX7_addCode_73 : decode cX7_addCode 73 = .ok (.iconst 1, 1) := by decide +kernel
theorem dX7_addCode_74 : decode cX7_addCode 74 = .ok (.iadd, 1) := by decide +kernel
theorem dX7_addCode_75 : decode cX7_addCode 75 = .ok (.iastore, 1) := by decide +kernel
theorem dX7_addCode_76 : decode cX7_addCode 76 = .ok (.return_, 1) := by decide +kernel
theorem dX7_split_0 : decode cX7_split 0 = .ok (.aload_n 0, 1) := by decide +kernel
theorem dX7_split_1 : decode cX7_split 1 = .ok (.getfield 31, 3) := by decide +kernel
theorem dX7_split_4 : decode cX7_split 4 = .ok (.iconst (-1), 1) := by decide +kernel
theorem dX7_split_5 : decode cX7_split 5 = .ok (.invokestatic 40, 3) := by decide +kernel
theorem dX7_split_8 : decode cX7_split 8 = .ok (.iconst 0, 1) := by decide +kernel
theorem dX7_split_9 : decode cX7_split 9 = .ok (.istore_n 1, 1) := by decide +kernel
theorem dX7_split_10 : decode cX7_split 10 = .ok (.iconst 0, 1) := by decide +kernel
theorem dX7_split_11 : decode cX7_split 11 = .ok (.istore_n 2, 1) := by decide +kernel
theorem dX7_split_12 : decode cX7_split 12 = .ok (.iload_n 2, 1) := by decide +kernel
theorem dX7_split_13 : decode cX7_split 13 = .ok (.aload_n 0, 1) := by decide +kernel
theorem dX7_split_14 : decode cX7_split 14 = .ok (.getfield 15, 3) := by decide +kernel
theorem dX7_split_17 : decode cX7_split 17 = .ok (.if_icmp .ge 86, 3) := by decide +kernel
theorem dX7_split_20 : decode cX7_split 20 = .ok (.aload_n 0, 1) := by decide +kernel
theorem dX7_split_21 : decode cX7_split 21 = .ok (.getfield 21, 3) := by decide +kernel
theorem dX7_split_24 : decode cX7_split 24 = .ok (.iload_n 2, 1) := by decide +kernel
theorem dX7_split_25 : decode cX7_split 25 = .ok (.iaload, 1) := by decide +kernel
theorem dX7_split_26 : decode cX7_split 26 = .ok (.istore_n 3, 1) := by decide +kernel
theorem dX7_split_27 : decode cX7_split 27 = .ok (.iload_n 3, 1) := by decide +kernel
theorem dX7_split_28 : decode cX7_split 28 = .ok (.iconst (-1), 1) := by decide +kernel
theorem dX7_split_29 : decode cX7_split 29 = .ok (.if_icmp .ne 6, 3) := by decide +kernel
theorem dX7_split_32 : decode cX7_split 32 = .ok (.goto 65, 3) := by decide +kernel
theorem dX7_split_35 : decode cX7_split 35 = .ok (.aload_n 0, 1) := by decide +kernel
theorem dX7_split_36 : decode cX7_split 36 = .ok (.iload_n 2, 1) := by decide +kernel
theorem dX7_split_37 : decode cX7_split 37 = .ok (.aload_n 0, 1) := by decide +kernel
theorem dX7_split_38 : decode cX7_split 38 = .ok (.getfield 31, 3) := by decide +kernel
theorem dX7_split_41 : decode cX7_split 41 = .ok (.iload_n 3, 1) := by decide +kernel
theorem dX7_split_42 : decode cX7_split 42 = .ok (.iaload, 1) := by decide +kernel
theorem dX7_split_43 : decode cX7_split 43 = .ok (.invokevirtual 53, 3) := by decide +kernel
theorem dX7_split_46 : decode cX7_split 46 = .ok (.istore 4, 2) := by decide +kernel
theorem dX7_split_48 : decode cX7_split 48 = .ok (.iload 4, 2) := by decide +kernel
theorem dX7_split_50 : decode cX7_split 50 = .ok (.iconst (-1), 1) := by decide +kernel
theorem dX7_split_51 : decode cX7_split 51 = .ok (.if_icmp .ne 38, 3) := by decide +kernel
theorem dX7_split_54 : decode cX7_split 54 = .ok (.iload_n 1, 1) := by decide +kernel
theorem dX7_split_55 : decode cX7_split 55 = .ok (.istore 4, 2) := by decide +kernel
theorem dX7_split_57 : decode cX7_split 57 = .ok (.aload_n 0, 1) := by decide +kernel
theorem dX7_split_58 : decode cX7_split 58 = .ok (.getfield 37, 3) := by decide +kernel
theorem dX7_split_61 : decode cX7_split 61 = .ok (.iload 4, 2) := by decide +kernel
theorem dX7_split_63 : decode cX7_split 63 = .ok (.iload_n 2, 1) := by decide +kernel
theorem dX7_split_64 : decode cX7_split 64 = .ok (.iastore, 1) := by decide +kernel
theorem dX7_split_65 : decode cX7_split 65 = .ok (.aload_n 0, 1) := by decide +kernel
theorem dX7_split_66 : decode cX7_split 66 = .ok (.getfield 34, 3) := by decide +kernel
theorem dX7_split_69 : decode cX7_split 69 = .ok (.iload 4, 2) := by decide +kernel
theorem dX7_split_71 : decode cX7_split 71 = .ok (.aload_n 0, 1) := by decide +kernel
theorem dX7_split_72 : decode cX7_split 72 = .ok (.getfield 31, 3) := by decide +kernel
theorem dX7_split_75 : decode cX7_split 75 = .ok (.iload_n 3, 1) := by decide +kernel
theorem dX7_split_76 : decode cX7_split 76 = .ok (.iaload, 1) := by decide +kernel
theorem dX7_split_77 : decode cX7_split 77 = .ok (.iastore, 1) := by decide +kernel
theorem dX7_split_78 : decode cX7_split 78 = .ok (.aload_n 0, 1) := by decide +kernel
theorem dX7_split_79 : decode cX7_split 79 = .ok (.getfield 31, 3) := by decide +kernel
theorem dX7_split_82 : decode cX7_split 82 = .ok (.iload_n 3, 1) := by decide +kernel
theorem dX7_split_83 : decode cX7_split 83 = .ok (.iload 4, 2) := by decide +kernel
theorem dX7_split_85 : decode cX7_split 85 = .ok (.iastore, 1) := by decide +kernel
theorem dX7_split_86 : decode cX7_split 86 = .ok (.iinc 1 1, 3) := by decide +kernel
theorem dX7_split_89 : decode cX7_split 89 = .ok (.aload_n 0, 1) := by decide +kernel
theorem dX7_split_90 : decode cX7_split 90 = .ok (.getfield 21, 3) := by decide +kernel
theorem dX7_split_93 : decode cX7_split 93 = .ok (.iload_n 2, 1) := by decide +kernel
theorem dX7_split_94 : decode cX7_split 94 = .ok (.iload 4, 2) := by decide +kernel
theorem dX7_split_96 : decode cX7_split 96 = .ok (.iastore, 1) := by decide +kernel
theorem dX7_split_97 : decode cX7_split 97 = .ok (.iinc 2 1, 3) := by decide +kernel
theorem dX7_split_100 : decode cX7_split 100 = .ok (.goto (-88), 3) := by decide +kernel
theorem dX7_split_103 : decode cX7_split 103 = .ok (.iload_n 1, 1) := by decide +kernel
theorem dX7_split_104 : decode cX7_split 104 = .ok (.aload_n 0, 1) := by decide +kernel
theorem dX7_split_105 : decode cX7_split 105 = .ok (.getfield 9, 3) := by decide +kernel
theorem dX7_split_108 : decode cX7_split 108 = .ok (.if_icmp .le 7, 3) := by decide +kernel
theorem dX7_split_111 : decode cX7_split 111 = .ok (.iconst 1, 1) := by decide +kernel
theorem dX7_split_112 : decode cX7_split 112 = .ok (.goto 4, 3) := by decide +kernel
theorem dX7_split_115 : decode cX7_split 115 = .ok (.iconst 0, 1) := by decide +kernel
theorem dX7_split_116 : decode cX7_split 116 = .ok (.istore_n 2, 1) := by decide +kernel
theorem dX7_split_117 : decode cX7_split 117 = .ok (.aload_n 0, 1) := by decide +kernel
theorem dX7_split_118 : decode cX7_split 118 = .ok (.iload_n 1, 1) := by decide +kernel
theorem dX7_split_119 : decode cX7_split 119 = .ok (.putfield 9, 3) := by decide +kernel
theorem dX7_split_122 : decode cX7_split 122 = .ok (.iload_n 2, 1) := by decide +kernel
theorem dX7_split_123 : decode cX7_split 123 = .ok (.ireturn, 1) := by decide +kernel
theorem dX7_partLike_0 : decode cX7_partLike 0 = .ok (.iload_n 2, 1) := by decide +kernel
theorem dX7_partLike_1 : decode cX7_partLike 1 = .ok (.istore_n 3, 1) := by decide +kernel
theorem dX7_partLike_2 : decode cX7_partLike 2 = .ok (.iconst 0, 1) := by decide +kernel
theorem dX7_partLike_3 : decode cX7_partLike 3 = .ok (.istore 4, 2) := by decide +kernel
theorem dX7_partLike_5 : decode cX7_partLike 5 = .ok (.iload 4, 2) := by decide +kernel
theorem dX7_partLike_7 : decode cX7_partLike 7 = .ok (.aload_n 0, 1) := by decide +kernel
theorem dX7_partLike_8 : decode cX7_partLike 8 = .ok (.getfield 15, 3) := by decide +kernel
theorem dX7_partLike_11 : decode cX7_partLike 11 = .ok (.if_icmp .ge 37, 3) := by decide +kernel
theorem dX7_partLike_14 : decode cX7_partLike 14 = .ok (.iload_n 3, 1) := by decide +kernel
theorem dX7_partLike_15 : decode cX7_partLike 15 = .ok (.iconst (-1), 1) := by decide +kernel
theorem dX7_partLike_16 : decode cX7_partLike 16 = .ok (.if_icmp .eq 32, 3) := by decide +kernel
theorem dX7_partLike_19 : decode cX7_partLike 19 = .ok (.aload_n 0, 1) := by decide +kernel
theorem dX7_partLike_20 : decode cX7_partLike 20 = .ok (.iload_n 1, 1) := by decide +kernel
theorem dX7_partLike_21 : decode cX7_partLike 21 = .ok (.aload_n 0, 1) := by decide +kernel
theorem dX7_partLike_22 : decode cX7_partLike 22 = .ok (.getfield 37, 3) := by decide +kernel
theorem dX7_partLike_25 : decode cX7_partLike 25 = .ok (.iload_n 3, 1) := by decide +kernel
theorem dX7_partLike_26 : decode cX7_partLike 26 = .ok (.iaload, 1) := by decide +kernel
theorem dX7_partLike_27 : decode cX7_partLike 27 = .ok (.invokevirtual 57, 3) := by decide +kernel
theorem dX7_partLike_30 : decode cX7_partLike 30 = .ok (.ifCond .eq 5, 3) := by decide +kernel
theorem dX7_partLike_33 : decode cX7_partLike 33 = .ok (.iload_n 3, 1) := by decide +kernel
theorem dX7_partLike_34 : decode cX7_partLike 34 = .ok (.ireturn, 1) := by decide +kernel
theorem dX7_partLike_35 : decode cX7_partLike 35 = .ok (.aload_n 0, 1) := by decide +kernel
theorem dX7_partLike_36 : decode cX7_partLike 36 = .ok (.getfield 34, 3) := by decide +kernel
theorem dX7_partLike_39 : decode cX7_partLike 39 = .ok (.iload_n 3, 1) := by decide +kernel
theorem dX7_partLike_40 : decode cX7_partLike 40 = .ok (.iaload, 1) := by decide +kernel
theorem dX7_partLike_41 : decode cX7_partLike 41 = .ok (.istore_n 3, 1) := by decide +kernel
theorem dX7_partLike_42 : decode cX7_partLike 42 = .ok (.iinc 4 1, 3) := by decide +kernel
theorem dX7_partLike_45 : decode cX7_partLike 45 = .ok (.goto (-40), 3) := by decide +kernel
theorem dX7_partLike_48 : decode cX7_partLike 48 = .ok (.iconst (-1), 1) := by decide +kernel
theorem dX7_partLike_49 : decode cX7_partLike 49 = .ok (.ireturn, 1) := by decide +kernel
theorem dX7_haveSameCodes_0 : decode cX7_haveSameCodes 0 = .ok (.aload_n 0, 1) := by decide +kernel
theorem dX7_haveSameCodes_1 : decode cX7_haveSameCodes 1 = .ok (.getfield 28, 3) := by decide +kernel
theorem dX7_haveSameCodes_4 : decode cX7_haveSameCodes 4 = .ok (.iload_n 1, 1) := by decide +kernel
theorem dX7_haveSameCodes_5 : decode cX7_haveSameCodes 5 = .ok (.iaload, 1) := by decide +kernel
theorem dX7_haveSameCodes_6 : decode cX7_haveSameCodes 6 = .ok (.aload_n 0, 1) := by decide +kernel
theorem dX7_haveSameCodes_7 : decode cX7_haveSameCodes 7 = .ok (.getfield 28, 3) := by decide +kernel
theorem dX7_haveSameCodes_10 : decode cX7_haveSameCodes 10 = .ok (.iload_n 2, 1) := by decide +kernel
theorem dX7_haveSameCodes_11 : decode cX7_haveSameCodes 11 = .ok (.iaload, 1) := by decide +kernel
theorem dX7_haveSameCodes_12 : decode cX7_haveSameCodes 12 = .ok (.if_icmp .eq 5, 3) := by decide +kernel
theorem dX7_haveSameCodes_15 : decode cX7_haveSameCodes 15 = .ok (.iconst 0, 1) := by decide +kernel
theorem dX7_haveSameCodes_16 : decode cX7_haveSameCodes 16 = .ok (.ireturn, 1) := by decide +kernel
theorem dX7_haveSameCodes_17 : decode cX7_haveSameCodes 17 = .ok (.iconst 0, 1) := by decide +kernel
theorem dX7_haveSameCodes_18 : decode cX7_haveSameCodes 18 = .ok (.istore_n 3, 1) := by decide +kernel
theorem dX7_haveSameCodes_19 : decode cX7_haveSameCodes 19 = .ok (.iload_n 3, 1) := by decide +kernel
theorem dX7_haveSameCodes_20 : decode cX7_haveSameCodes 20 = .ok (.aload_n 0, 1) := by decide +kernel
theorem dX7_haveSameCodes_21 : decode cX7_haveSameCodes 21 = .ok (.getfield 28, 3) := by decide +kernel
theorem dX7_haveSameCodes_24 : decode cX7_haveSameCodes 24 = .ok (.iload_n 1, 1) := by decide +kernel
theorem dX7_haveSameCodes_25 : decode cX7_haveSameCodes 25 = .ok (.iaload, 1) := by decide +kernel
theorem dX7_haveSameCodes_26 : decode cX7_haveSameCodes 26 = .ok (.if_icmp .ge 40, 3) := by decide +kernel
theorem dX7_haveSameCodes_29 : decode cX7_haveSameCodes 29 = .ok (.aload_n 0, 1) := by decide +kernel
theorem dX7_haveSameCodes_30 : decode cX7_haveSameCodes 30 = .ok (.getfield 25, 3) := by decide +kernel
theorem dX7_haveSameCodes_33 : decode cX7_haveSameCodes 33 = .ok (.iload_n 1, 1) := by decide +kernel
theorem dX7_haveSameCodes_34 : decode cX7_haveSameCodes 34 = .ok (.aload_n 0, 1) := by decide +kernel
theorem dX7_haveSameCodes_35 : decode cX7_haveSameCodes 35 = .ok (.getfield 18, 3) := by decide +kernel
theorem dX7_haveSameCodes_38 : decode cX7_haveSameCodes 38 = .ok (.imul, 1) := by decide +kernel
theorem dX7_haveSameCodes_39 : decode cX7_haveSameCodes 39 = .ok (.iload_n 3, 1) := by decide +kernel
theorem dX7_haveSameCodes_40 : decode cX7_haveSameCodes 40 = .ok (.iadd, 1) := by decide +kernel
theorem dX7_haveSameCodes_41 : decode cX7_haveSameCodes 41 = .ok (.iaload, 1) := by decide +kernel
theorem dX7_haveSameCodes_42 : decode cX7_haveSameCodes 42 = .ok (.aload_n 0, 1) := by decide +kernel
theorem dX7_haveSameCodes_43 : decode cX7_haveSameCodes 43 = .ok (.getfield 25, 3) := by decide +kernel
theorem dX7_haveSameCodes_46 : decode cX7_haveSameCodes 46 = .ok (.iload_n 2, 1) := by decide +kernel
theorem dX7_haveSameCodes_47 : decode cX7_haveSameCodes 47 = .ok (.aload_n 0, 1) := by decide +kernel
theorem dX7_haveSameCodes_48 : decode cX7_haveSameCodes 48 = .ok (.getfield 18, 3) := by decide +kernel
theorem dX7_haveSameCodes_51 : decode cX7_haveSameCodes 51 = .ok (.imul, 1) := by decide +kernel
theorem dX7_haveSameCodes_52 : decode cX7_haveSameCodes 52 = .ok (.iload_n 3, 1) := by decide +kernel
theorem dX7_haveSameCodes_53 : decode cX7_haveSameCodes 53 = .ok (.iadd, 1) := by decide +kernel
theorem dX7_haveSameCodes_54 : decode cX7_haveSameCodes 54 = .ok (.iaload, 1) := by decide +kernel
theorem dX7_haveSameCodes_55 : decode cX7_haveSameCodes 55 = .ok (.if_icmp .eq 5, 3) := by decide +kernel
theorem dX7_haveSameCodes_58 : decode cX7_haveSameCodes 58 = .ok (.iconst 0, 1) := by decide +kernel
theorem dX7_haveSameCodes_59 : decode cX7_haveSameCodes 59 = .ok (.ireturn, 1) := by decide +kernel
theorem dX7_haveSameCodes_60 : decode cX7_haveSameCodes 60 = .ok (.iinc 3 1, 3) := by decide +kernel
theorem dX7_haveSameCodes_63 : decode cX7_haveSameCodes 63 = .ok (.goto (-44), 3) := by decide +kernel
theorem dX7_haveSameCodes_66 : decode cX7_haveSameCodes 66 = .ok (.iconst 1, 1) := by decide +kernel
theorem dX7_haveSameCodes_67 : decode cX7_haveSameCodes 67 = .ok (.ireturn, 1) := by decide +kernel
theorem dJ9_min_7cf53_0 : decode cJ9_min_7cf53 0 = .ok (.iload_n 0, 1) := by decide +kernel
theorem dJ9_min_7cf53_1 : decode cJ9_min_7cf53 1 = .ok (.iload_n 1, 1) := by decide +kernel
theorem dJ9_min_7cf53_2 : decode cJ9_min_7cf53 2 = .ok (.if_icmp .gt 7, 3) := by decide +kernel
theorem dJ9_min_7cf53_5 : decode cJ9_min_7cf53 5 = .ok (.iload_n 0, 1) := by decide +kernel
theorem dJ9_min_7cf53_6 : decode cJ9_min_7cf53 6 = .ok (.goto 4, 3) := by decide +kernel
theorem dJ9_min_7cf53_9 : decode cJ9_min_7cf53 9 = .ok (.iload_n 1, 1) := by decide +kernel
theorem dJ9_min_7cf53_10 : decode cJ9_min_7cf53 10 = .ok (.ireturn, 1) := by decide +kernel
theorem dJ7_fill_53178_0 : decode cJ7_fill_53178 0 = .ok (.iconst 0, 1) := by decide +kernel
theorem dJ7_fill_53178_1 : decode cJ7_fill_53178 1 = .ok (.istore_n 2, 1) := by decide +kernel
theorem dJ7_fill_53178_2 : decode cJ7_fill_53178 2 = .ok (.aload_n 0, 1) := by decide +kernel
theorem dJ7_fill_53178_3 : decode cJ7_fill_53178 3 = .ok (.arraylength, 1) := by decide +kernel
theorem dJ7_fill_53178_4 : decode cJ7_fill_53178 4 = .ok (.istore_n 3, 1) := by decide +kernel
theorem dJ7_fill_53178_5 : decode cJ7_fill_53178 5 = .ok (.iload_n 2, 1) := by decide +kernel
theorem dJ7_fill_53178_6 : decode cJ7_fill_53178 6 = .ok (.iload_n 3, 1) := by decide +kernel
theorem dJ7_fill_53178_7 : decode cJ7_fill_53178 7 = .ok (.if_icmp .ge 13, 3) := by decide +kernel
theorem dJ7_fill_53178_10 : decode cJ7_fill_53178 10 = .ok (.aload_n 0, 1) := by decide +kernel
theorem dJ7_fill_53178_11 : decode cJ7_fill_53178 11 = .ok (.iload_n 2, 1) := by decide +kernel
theorem dJ7_fill_53178_12 : decode cJ7_fill_53178 12 = .ok (.iload_n 1, 1) := by decide +kernel
theorem dJ7_fill_53178_13 : decode cJ7_fill_53178 13 = .ok (.iastore, 1) := by decide +kernel
theorem dJ7_fill_53178_14 : decode cJ7_fill_53178 14 = .ok (.iinc 2 1, 3) := by decide +kernel
theorem dJ7_fill_53178_17 : decode cJ7_fill_53178 17 = .ok (.goto (-12), 3) := by decide +kernel
theorem dJ7_fill_53178_20 : decode cJ7_fill_53178 20 = .ok (.return_, 1) := by decide +kernel
