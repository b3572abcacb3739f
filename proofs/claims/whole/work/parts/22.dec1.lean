theorem dX8_init_0 : decode cX8_init 0 = .ok (.aload_n 0, 1) := by decide +kernel
theorem dX8_init_1 : decode cX8_init 1 = .ok (.invokespecial 3, 3) := by decide +kernel
theorem dX8_init_4 : decode cX8_init 4 = .ok (.aload_n 0, 1) := by decide +kernel
theorem dX8_init_5 : decode cX8_init 5 = .ok (.iconst 0, 1) := by decide +kernel
theorem dX8_init_6 : decode cX8_init 6 = .ok (.putfield 9, 3) := by decide +kernel
theorem dX8_init_9 : decode cX8_init 9 = .ok (.aload_n 0, 1) := by decide +kernel
theorem dX8_init_10 : decode cX8_init 10 = .ok (.bipush 30, 2) := by decide +kernel
theorem dX8_init_12 : decode cX8_init 12 = .ok (.newarray .int, 2) := by decide +kernel
theorem dX8_init_14 : decode cX8_init 14 = .ok (.putfield 15, 3) := by decide +kernel
theorem dX8_init_17 : decode cX8_init 17 = .ok (.aload_n 0, 1) := by decide +kernel
theorem dX8_init_18 : decode cX8_init 18 = .ok (.bipush 30, 2) := by decide +kernel
theorem dX8_init_20 : decode cX8_init 20 = .ok (.newarray .int, 2) := by decide +kernel
theorem dX8_init_22 : decode cX8_init 22 = .ok (.putfield 19, 3) := by decide +kernel
theorem dX8_init_25 : decode cX8_init 25 = .ok (.aload_n 0, 1) := by decide +kernel
theorem dX8_init_26 : decode cX8_init 26 = .ok (.bipush 30, 2) := by decide +kernel
theorem dX8_init_28 : decode cX8_init 28 = .ok (.newarray .boolean, 2) := by decide +kernel
theorem dX8_init_30 : decode cX8_init 30 = .ok (.putfield 22, 3) := by decide +kernel
theorem dX8_init_33 : decode cX8_init 33 = .ok (.aload_n 0, 1) := by decide +kernel
theorem dX8_init_34 : decode cX8_init 34 = .ok (.new 26, 3) := by decide +kernel
theorem dX8_init_37 : decode cX8_init 37 = .ok (.dup, 1) := by decide +kernel
theorem dX8_init_38 : decode cX8_init 38 = .ok (.invokespecial 28, 3) := by decide +kernel
theorem dX8_init_41 : decode cX8_init 41 = .ok (.putfield 29, 3) := by decide +kernel
theorem dX8_init_44 : decode cX8_init 44 = .ok (.aload_n 0, 1) := by decide +kernel
theorem dX8_init_45 : decode cX8_init 45 = .ok (.new 26, 3) := by decide +kernel
theorem dX8_init_48 : decode cX8_init 48 = .ok (.dup, 1) := by decide +kernel
theorem dX8_init_49 : decode cX8_init 49 = .ok (.invokespecial 28, 3) := by decide +kernel
theorem dX8_init_52 : decode cX8_init 52 = .ok (.putfield 33, 3) := by decide +kernel
theorem dX8_init_55 : decode cX8_init 55 = .ok (.aload_n 0, 1) := by decide +kernel
theorem dX8_init_56 : decode cX8_init 56 = .ok (.iconst 4, 1) := by decide +kernel
theorem dX8_init_57 : decode cX8_init 57 = .ok (.newarray .int, 2) := by decide +kernel
theorem dX8_init_59 : decode cX8_init 59 = .ok (.putfield 36, 3) := by decide +kernel
theorem dX8_init_62 : decode cX8_init 62 = .ok (.aload_n 0, 1) := by decide +kernel
theorem dX8_init_63 : decode cX8_init 63 = .ok (.bipush 30, 2) := by decide +kernel
theorem dX8_init_65 : decode cX8_init 65 = .ok (.newarray .int, 2) := by decide +kernel
theorem dX8_init_67 : decode cX8_init 67 = .ok (.putfield 39, 3) := by decide +kernel
theorem dX8_init_70 : decode cX8_init 70 = .ok (.aload_n 0, 1) := by decide +kernel
theorem dX8_init_71 : decode cX8_init 71 = .ok (.bipush 120, 2) := by decide +kernel
theorem dX8_init_73 : decode cX8_init 73 = .ok (.newarray .int, 2) := by decide +kernel
theorem dX8_init_75 : decode cX8_init 75 = .ok (.putfield 42, 3) := by decide +kernel
theorem dX8_init_78 : decode cX8_init 78 = .ok (.aload_n 0, 1) := by decide +kernel
theorem dX8_init_79 : decode cX8_init 79 = .ok (.bipush 120, 2) := by decide +kernel
theorem dX8_init_81 : decode cX8_init 81 = .ok (.newarray .int, 2) := by decide +kernel
theorem dX8_init_83 : decode cX8_init 83 = .ok (.putfield 45, 3) := by decide +kernel
theorem dX8_init_86 : decode cX8_init 86 = .ok (.aload_n 0, 1) := by decide +kernel
theorem dX8_init_87 : decode cX8_init 87 = .ok (.bipush 120, 2) := by decide +kernel
theorem dX8_init_89 : decode cX8_init 89 = .ok (.newarray .int, 2) := by decide +kernel
theorem dX8_init_91 : decode cX8_init 91 = .ok (.putfield 48, 3) := by decide +kernel
theorem dX8_init_94 : decode cX8_init 94 = .ok (.return_, 1) := by decide +kernel
theorem dX8_find_0 : decode cX8_find 0 = .ok (.aload_n 0, 1) := by decide +kernel
theorem dX8_find_1 : decode cX8_find 1 = .ok (.aload_n 1, 1) := by decide +kernel
theorem dX8_find_2 : decode cX8_find 2 = .ok (.invokevirtual 51, 3) := by decide +kernel
theorem dX8_find_5 : decode cX8_find 5 = .ok (.iconst 0, 1) := by decide +kernel
theorem dX8_find_6 : decode cX8_find 6 = .ok (.istore 4, 2) := by decide +kernel
theorem dX8_find_8 : decode cX8_find 8 = .ok (.iconst 0, 1) := by decide +kernel
theorem dX8_find_9 : decode cX8_find 9 = .ok (.istore 5, 2) := by decide +kernel
theorem dX8_find_11 : decode cX8_find 11 = .ok (.iconst 0, 1) := by decide +kernel
theorem dX8_find_12 : decode cX8_find 12 = .ok (.istore 6, 2) := by decide +kernel
theorem dX8_find_14 : decode cX8_find 14 = .ok (.iload 6, 2) := by decide +kernel
theorem dX8_find_16 : decode cX8_find 16 = .ok (.sipush 4002, 3) := by decide +kernel
theorem dX8_find_19 : decode cX8_find 19 = .ok (.if_icmp .ge 97, 3) := by decide +kernel
theorem dX8_find_22 : decode cX8_find 22 = .ok (.iload 4, 2) := by decide +kernel
theorem dX8_find_24 : decode cX8_find 24 = .ok (.ifCond .lt 92, 3) := by decide +kernel
theorem dX8_find_27 : decode cX8_find 27 = .ok (.iload 4, 2) := by decide +kernel
theorem dX8_find_29 : decode cX8_find 29 = .ok (.aload_n 0, 1) := by decide +kernel
theorem dX8_find_30 : decode cX8_find 30 = .ok (.getfield 9, 3) := by decide +kernel
theorem dX8_find_33 : decode cX8_find 33 = .ok (.if_icmp .lt 6, 3) := by decide +kernel
theorem dX8_find_36 : decode cX8_find 36 = .ok (.goto 80, 3) := by decide +kernel
theorem dX8_find_39 : decode cX8_find 39 = .ok (.aload_n 0, 1) := by decide +kernel
theorem dX8_find_40 : decode cX8_find 40 = .ok (.aload_n 1, 1) := by decide +kernel
theorem dX8_find_41 : decode cX8_find 41 = .ok (.aload_n 2, 1) := by decide +kernel
theorem dX8_find_42 : decode cX8_find 42 = .ok (.iload 4, 2) := by decide +kernel
theorem dX8_find_44 : decode cX8_find 44 = .ok (.invokevirtual 55, 3) := by decide +kernel
theorem dX8_find_47 : decode cX8_find 47 = .ok (.istore 7, 2) := by decide +kernel
theorem dX8_find_49 : decode cX8_find 49 = .ok (.iload 7, 2) := by decide +kernel
theorem dX8_find_51 : decode cX8_find 51 = .ok (.iconst (-1), 1) := by decide +kernel
theorem dX8_find_52 : decode cX8_find 52 = .ok (.if_icmp .ne 23, 3) := by decide +kernel
theorem dX8_find_55 : decode cX8_find 55 = .ok (.aload_n 0, 1) := by decide +kernel
theorem dX8_find_56 : decode cX8_find 56 = .ok (.getfield 19, 3) := by decide +kernel
theorem dX8_find_59 : decode cX8_find 59 = .ok (.iload 4, 2) := by decide +kernel
theorem dX8_find_61 : decode cX8_find 61 = .ok (.iconst (-1), 1) := by decide +kernel
theorem dX8_find_62 : decode cX8_find 62 = .ok (.iastore, 1) := by decide +kernel
theorem dX8_find_63 : decode cX8_find 63 = .ok (.iinc 4 (-1), 3) := by decide +kernel
theorem dX8_find_66 : decode cX8_find 66 = .ok (.aload_n 0, 1) := by decide +kernel
theorem dX8_find_67 : decode cX8_find 67 = .ok (.iload 4, 2) := by decide +kernel
theorem dX8_find_69 : decode cX8_find 69 = .ok (.invokevirtual 59, 3) := by decide +kernel
theorem dX8_find_72 : decode cX8_find 72 = .ok (.goto 38, 3) := by decide +kernel
theorem dX8_find_75 : decode cX8_find 75 = .ok (.iload 5, 2) := by decide +kernel
theorem dX8_find_77 : decode cX8_find 77 = .ok (.iload_n 3, 1) := by decide +kernel
theorem dX8_find_78 : decode cX8_find 78 = .ok (.if_icmp .lt 5, 3) := by decide +kernel
theorem dX8_find_81 : decode cX8_find 81 = .ok (.iconst 2, 1) := by decide +kernel
theorem dX8_find_82 : decode cX8_find 82 = .ok (.ireturn, 1) := by decide +kernel
theorem dX8_find_83 : decode cX8_find 83 = .ok (.iinc 5 1, 3) := by decide +kernel
theorem dX8_find_86 : decode cX8_find 86 = .ok (.aload_n 0, 1) := by decide +kernel
theorem dX8_find_87 : decode cX8_find 87 = .ok (.getfield 19, 3) := by decide +kernel
theorem dX8_find_90 : decode cX8_find 90 = .ok (.iload 4, 2) := by decide +kernel
theorem dX8_find_92 : decode cX8_find 92 = .ok (.iload 7, 2) := by decide +kernel
theorem dX8_find_94 : decode cX8_find 94 = .ok (.iastore, 1) := by decide +kernel
theorem dX8_find_95 : decode cX8_find 95 = .ok (.aload_n 0, 1) := by decide +kernel
theorem dX8_find_96 : decode cX8_find 96 = .ok (.aload_n 1, 1) := by decide +kernel
theorem dX8_find_97 : decode cX8_find 97 = .ok (.iload 4, 2) := by decide +kernel
theorem dX8_find_99 : decode cX8_find 99 = .ok (.iload 7, 2) := by decide +kernel
theorem dX8_find_101 : decode cX8_find 101 = .ok (.invokevirtual 63, 3) := by decide +kernel
theorem dX8_find_104 : decode cX8_find 104 = .ok (.ifCond .eq 6, 3) := by decide +kernel
theorem dX8_find_107 : decode cX8_find 107 = .ok (.iinc 4 1, 3) := by decide +kernel
theorem dX8_find_110 : decode cX8_find 110 = .ok (.iinc 6 1, 3) := by decide +kernel
theorem dX8_find_113 : decode cX8_find 113 = .ok (.goto (-99), 3) := by decide +kernel
theorem dX8_find_116 : decode cX8_find 116 = .ok (.iload 4, 2) := by decide +kernel
theorem dX8_find_118 : decode cX8_find 118 = .ok (.aload_n 0, 1) := by decide +kernel
theorem dX8_find_119 : decode cX8_find 119 = .ok (.getfield 9, 3) := by decide +kernel
theorem dX8_find_122 : decode cX8_find 122 = .ok (.if_icmp .lt 7, 3) := by decide +kernel
theorem dX8_find_125 : decode cX8_find 125 = .ok (.iconst 1, 1) := by decide +kernel
theorem dX8_find_126 : decode cX8_find 126 = .ok (.goto 4, 3) := by decide +kernel
theorem dX8_find_129 : decode cX8_find 129 = .ok (.iconst 0, 1) := by decide +kernel
theorem dX8_find_130 : decode cX8_find 130 = .ok (.ireturn, 1) := by decide +kernel
theorem dX8_keep_0 : decode cX8_keep 0 = .ok (.aload_n 2, 1) := by decide +kernel
theorem dX8_keep_1 : decode cX8_keep 1 = .ok (.iconst 1, 1) := by decide +kernel
theorem dX8_keep_2 : decode cX8_keep 2 = .ok (.putfield 67, 3) := by decide +kernel
theorem dX8_keep_5 : decode cX8_keep 5 = .ok (.iconst 0, 1) := by decide +kernel
theorem dX8_keep_6 : decode cX8_keep 6 = .ok (.istore_n 3, 1) := by decide +kernel
theorem dX8_keep_7 : decode cX8_keep 7 = .ok (.iload_n 3, 1) := by decide +kernel
theorem dX8_keep_8 : decode cX8_keep 8 = .ok (.aload_n 0, 1) := by decide +kernel
theorem dX8_keep_9 : decode cX8_keep 9 = .ok (.getfield 9, 3) := by decide +kernel
theorem dX8_keep_12 : decode cX8_keep 12 = .ok (.if_icmp .ge 25, 3) := by decide +kernel
theorem dX8_keep_15 : decode cX8_keep 15 = .ok (.aload_n 2, 1) := by decide +kernel
theorem dX8_keep_16 : decode cX8_keep 16 = .ok (.aload_n 0, 1) := by decide +kernel
theorem dX8_keep_17 : decode cX8_keep 17 = .ok (.getfield 15, 3) := by decide +kernel
theorem dX8_keep_20 : decode cX8_keep 20 = .ok (.iload_n 3, 1) := by decide +kernel
theorem dX8_keep_21 : decode cX8_keep 21 = .ok (.iaload, 1) := by decide +kernel
theorem dX8_keep_22 : decode cX8_keep 22 = .ok (.aload_n 0, 1) := by decide +kernel
theorem dX8_keep_23 : decode cX8_keep 23 = .ok (.getfield 19, 3) := by decide +kernel
theorem dX8_keep_26 : decode cX8_keep 26 = .ok (.iload_n 3, 1) := by decide +kernel
theorem dX8_keep_27 : decode cX8_keep 27 = .ok (.iaload, 1) := by decide +kernel
theorem dX8_keep_28 : decode cX8_keep 28 = .ok (.invokevirtual 73, 3) := by decide +kernel
theorem dX8_keep_31 : decode cX8_keep 31 = .ok (.iinc 3 1, 3) := by decide +kernel
theorem dX8_keep_34 : decode cX8_keep 34 = .ok (.goto (-27), 3) := by decide +kernel
theorem dX8_keep_37 : decode cX8_keep 37 = .ok (.iconst 0, 1) := by decide +kernel
theorem dX8_keep_38 : decode cX8_keep 38 = .ok (.istore_n 3, 1) := by decide +kernel
theorem dX8_keep_39 : decode cX8_keep 39 = .ok (.iload_n 3, 1) := by decide +kernel
theorem dX8_keep_40 : decode cX8_keep 40 = .ok (.aload_n 1, 1) := by decide +kernel
theorem dX8_keep_41 : decode cX8_keep 41 = .ok (.getfield 77, 3) := by decide +kernel
theorem dX8_keep_44 : decode cX8_keep 44 = .ok (.getfield 83, 3) := by decide +kernel
theorem dX8_keep_47 : decode cX8_keep 47 = .ok (.if_icmp .ge 31, 3) := by decide +kernel
theorem dX8_keep_50 : decode cX8_keep 50 = .ok (.aload_n 1, 1) := by decide +kernel
theorem dX8_keep_51 : decode cX8_keep 51 = .ok (.getfield 77, 3) := by decide +kernel
theorem dX8_keep_54 : decode cX8_keep 54 = .ok (.getfield 88, 3) := by decide +kernel
theorem dX8_keep_57 : decode cX8_keep 57 = .ok (.iload_n 3, 1) := by decide +kernel
theorem dX8_keep_58 : decode cX8_keep 58 = .ok (.baload, 1) := by decide +kernel
theorem dX8_keep_59 : decode cX8_keep 59 = .ok (.ifCond .eq 13, 3) := by decide +kernel
theorem dX8_keep_62 : decode cX8_keep 62 = .ok (.aload_n 0, 1) := by decide +kernel
theorem dX8_keep_63 : decode cX8_keep 63 = .ok (.aload_n 1, 1) := by decide +kernel
theorem dX8_keep_64 : decode cX8_keep 64 = .ok (.getfield 91, 3) := by decide +kernel
theorem dX8_keep_67 : decode cX8_keep 67 = .ok (.aload_n 2, 1) := by decide +kernel
theorem dX8_keep_68 : decode cX8_keep 68 = .ok (.iload_n 3, 1) := by decide +kernel
theorem dX8_keep_69 : decode cX8_keep 69 = .ok (.invokevirtual 94, 3) := by decide +kernel
theorem dX8_keep_72 : decode cX8_keep 72 = .ok (.iinc 3 1, 3) := by decide +kernel
theorem dX8_keep_75 : decode cX8_keep 75 = .ok (.goto (-36), 3) := by decide +kernel
theorem dX8_keep_78 : decode cX8_keep 78 = .ok (.return_, 1) := by decide +kernel
theorem dX8_keepNet_0 : decode cX8_keepNet 0 = .ok (.iconst 0, 1) := by decide +kernel
theorem dX8_keepNet_1 : decode cX8_keepNet 1 = .ok (.istore 4, 2) := by decide +kernel
theorem dX8_keepNet_3 : decode cX8_keepNet 3 = .ok (.iload 4, 2) := by decide +kernel
theorem dX8_keepNet_5 : decode cX8_keepNet 5 = .ok (.aload_n 1, 1) := by decide +kernel
theorem dX8_keepNet_6 : decode cX8_keepNet 6 = .ok (.getfield 83, 3) := by decide +kernel
theorem dX8_keepNet_9 : decode cX8_keepNet 9 = .ok (.if_icmp .ge 72, 3) := by decide +kernel
theorem dX8_keepNet_12 : decode cX8_keepNet 12 = .ok (.aload_n 1, 1) := by decide +kernel
theorem dX8_keepNet_13 : decode cX8_keepNet 13 = .ok (.getfield 88, 3) := by decide +kernel
theorem dX8_keepNet_16 : decode cX8_keepNet 16 = .ok (.iload 4, 2) := by decide +kernel
theorem dX8_keepNet_18 : decode cX8_keepNet 18 = .ok (.baload, 1) := by decide +kernel
theorem dX8_keepNet_19 : decode cX8_keepNet 19 = .ok (.ifCond .eq 18, 3) := by decide +kernel
theorem dX8_keepNet_22 : decode cX8_keepNet 22 = .ok (.aload_n 2, 1) := by decide +kernel
theorem dX8_keepNet_23 : decode cX8_keepNet 23 = .ok (.getfield 98, 3) := by decide +kernel
theorem dX8_keepNet_26 : decode cX8_keepNet 26 = .ok (.iload 4, 2) := by decide +kernel
theorem dX8_keepNet_28 : decode cX8_keepNet 28 = .ok (.iaload, 1) := by decide +kernel
theorem dX8_keepNet_29 : decode cX8_keepNet 29 = .ok (.iconst (-1), 1) := by decide +kernel
theorem dX8_keepNet_30 : decode cX8_keepNet 30 = .ok (.if_icmp .ne 7, 3) := by decide +kernel
theorem dX8_keepNet_33 : decode cX8_keepNet 33 = .ok (.iconst 1, 1) := by decide +kernel
theorem dX8_keepNet_34 : decode cX8_keepNet 34 = .ok (.goto 4, 3) := by decide +kernel
theorem dX8_keepNet_37 : decode cX8_keepNet 37 = .ok (.iconst 0, 1) := by decide +kernel
theorem dX8_keepNet_38 : decode cX8_keepNet 38 = .ok (.istore 5, 2) := by decide +kernel
theorem dX8_keepNet_40 : decode cX8_keepNet 40 = .ok (.iload 5, 2) := by decide +kernel
theorem dX8_keepNet_42 : decode cX8_keepNet 42 = .ok (.ifCond .eq 33, 3) := by decide +kernel
theorem dX8_keepNet_45 : decode cX8_keepNet 45 = .ok (.aload_n 0, 1) := by decide +kernel
theorem dX8_keepNet_46 : decode cX8_keepNet 46 = .ok (.getfield 33, 3) := by decide +kernel
theorem dX8_keepNet_49 : decode cX8_keepNet 49 = .ok (.getfield 101, 3) := by decide +kernel
theorem dX8_keepNet_52 : decode cX8_keepNet 52 = .ok (.iload 4, 2) := by decide +kernel
theorem dX8_keepNet_54 : decode cX8_keepNet 54 = .ok (.iaload, 1) := by decide +kernel
theorem dX8_keepNet_55 : decode cX8_keepNet 55 = .ok (.aload_n 0, 1) := by decide +kernel
theorem dX8_keepNet_56 : decode cX8_keepNet 56 = .ok (.getfield 29, 3) := by decide +kernel
theorem dX8_keepNet_59 : decode cX8_keepNet 59 = .ok (.getfield 101, 3) := by decide +kernel
theorem dX8_keepNet_62 : decode cX8_keepNet 62 = .ok (.iload_n 3, 1) := by decide +kernel
theorem dX8_keepNet_63 : decode cX8_keepNet 63 = .ok (.iaload, 1) := by decide +kernel
theorem dX8_keepNet_64 : decode cX8_keepNet 64 = .ok (.if_icmp .ne 11, 3) := by decide +kernel
theorem dX8_keepNet_67 : decode cX8_keepNet 67 = .ok (.aload_n 2, 1) := by decide +kernel
theorem dX8_keepNet_68 : decode cX8_keepNet 68 = .ok (.iload_n 3, 1) := by decide +kernel
theorem dX8_keepNet_69 : decode cX8_keepNet 69 = .ok (.iload 4, 2) := by decide +kernel
theorem dX8_keepNet_71 : decode cX8_keepNet 71 = .ok (.invokevirtual 104, 3) := by decide +kernel
theorem dX8_keepNet_74 : decode cX8_keepNet 74 = .ok (.return_, 1) := by decide +kernel
theorem dX8_keepNet_75 : decode cX8_keepNet 75 = .ok (.iinc 4 1, 3) := by decide +kernel
theorem dX8_keepNet_78 : decode cX8_keepNet 78 = .ok (.goto (-75), 3) := by decide +kernel
theorem dX8_keepNet_81 : decode cX8_keepNet 81 = .ok (.return_, 1) := by decide +kernel
theorem dX8_begin_0 : decode cX8_begin 0 = .ok (.aload_n 0, 1) := by decide +kernel
theorem dX8_begin_1 : decode cX8_begin 1 = .ok (.getfield 19, 3) := by decide +kernel
theorem dX8_begin_4 : decode cX8_begin 4 = .ok (.iconst (-1), 1) := by decide +kernel
theorem dX8_begin_5 : decode cX8_begin 5 = .ok (.invokestatic 107, 3) := by decide +kernel
theorem dX8_begin_8 : decode cX8_begin 8 = .ok (.aload_n 0, 1) := by decide +kernel
theorem dX8_begin_9 : decode cX8_begin 9 = .ok (.iconst 0, 1) := by decide +kernel
theorem dX8_begin_10 : decode cX8_begin 10 = .ok (.putfield 9, 3) := by decide +kernel
theorem dX8_begin_13 : decode cX8_begin 13 = .ok (.iconst 0, 1) := by decide +kernel
theorem dX8_begin_14 : decode cX8_begin 14 = .ok (.istore_n 2, 1) := by decide +kernel
theorem dX8_begin_15 : decode cX8_begin 15 = .ok (.iload_n 2, 1) := by decide +kernel
theorem dX8_begin_16 : decode cX8_begin 16 = .ok (.aload_n 1, 1) := by decide +kernel
theorem dX8_begin_17 : decode cX8_begin 17 = .ok (.getfield 77, 3) := by decide +kernel
theorem dX8_begin_20 : decode cX8_begin 20 = .ok (.getfield 113, 3) := by decide +kernel
theorem dX8_begin_23 : decode cX8_begin 23 = .ok (.if_icmp .ge 41, 3) := by decide +kernel
theorem dX8_begin_26 : decode cX8_begin 26 = .ok (.aload_n 1, 1) := by decide +kernel
theorem dX8_begin_27 : decode cX8_begin 27 = .ok (.getfield 77, 3) := by decide +kernel
theorem dX8_begin_30 : decode cX8_begin 30 = .ok (.getfield 114, 3) := by decide +kernel
theorem dX8_begin_33 : decode cX8_begin 33 = .ok (.iload_n 2, 1) := by decide +kernel
theorem dX8_begin_34 : decode cX8_begin 34 = .ok (.baload, 1) := by decide +kernel
theorem dX8_begin_35 : decode cX8_begin 35 = .ok (.ifCond .ne 23, 3) := by decide +kernel
theorem dX8_begin_38 : decode cX8_begin 38 = .ok (.aload_n 0, 1) := by decide +kernel
theorem dX8_begin_39 : decode cX8_begin 39 = .ok (.getfield 15, 3) := by decide +kernel
theorem dX8_begin_42 : decode cX8_begin 42 = .ok (.aload_n 0, 1) := by decide +kernel
theorem dX8_begin_43 : decode cX8_begin 43 = .ok (.getfield 9, 3) := by decide +kernel
theorem dX8_begin_46 : decode cX8_begin 46 = .ok (.iload_n 2, 1) := by decide +kernel
theorem dX8_begin_47 : decode cX8_begin 47 = .ok (.iastore, 1) := by decide +kernel
theorem dX8_begin_48 : decode cX8_begin 48 = .ok (.aload_n 0, 1) := by decide +kernel
theorem dX8_begin_49 : decode cX8_begin 49 = .ok (.dup, 1) := by decide +kernel
theorem dX8_begin_50 : decode cX8_begin 50 = .ok (.getfield 9, 3) := by decide +kernel
theorem dX8_begin_53 : decode cX8_begin 53 = .ok (.iconst 1, 1) := by decide +kernel
theorem dX8_begin_54 : decode cX8_begin 54 = .ok (.iadd, 1) := by decide +kernel
theorem dX8_begin_55 : decode cX8_begin 55 = .ok (.putfield 9, 3) := by decide +kernel
theorem dX8_begin_58 : decode cX8_begin 58 = .ok (.iinc 2 1, 3) := by decide +kernel
theorem dX8_begin_61 : decode cX8_begin 61 = .ok (.goto (-46), 3) := by decide +kernel
theorem dX8_begin_64 : decode cX8_begin 64 = .ok (.iconst 0, 1) := by decide +kernel
theorem dX8_begin_65 : decode cX8_begin 65 = .ok (.istore_n 2, 1) := by decide +kernel
theorem dX8_begin_66 : decode cX8_begin 66 = .ok (.iload_n 2, 1) := by decide +kernel
theorem dX8_begin_67 : decode cX8_begin 67 = .ok (.bipush 30, 2) := by decide +kernel
theorem dX8_begin_69 : decode cX8_begin 69 = .ok (.if_icmp .ge 16, 3) := by decide +kernel
theorem dX8_begin_72 : decode cX8_begin 72 = .ok (.aload_n 0, 1) := by decide +kernel
theorem dX8_begin_73 : decode cX8_begin 73 = .ok (.getfield 22, 3) := by decide +kernel
theorem dX8_begin_76 : decode cX8_begin 76 = .ok (.iload_n 2, 1) := by decide +kernel
theorem dX8_begin_77 : decode cX8_begin 77 = .ok (.iconst 0, 1) := by decide +kernel
theorem dX8_begin_78 : decode cX8_begin 78 = .ok (.bastore, 1) := by decide +kernel
theorem dX8_begin_79 : decode cX8_begin 79 = .ok (.iinc 2 1, 3) := by decide +kernel
theorem dX8_begin_82 : decode cX8_begin 82 = .ok (.goto (-16), 3) := by decide +kernel
theorem dX8_begin_85 : decode cX8_begin 85 = .ok (.aload_n 1, 1) := by decide +kernel
theorem dX8_begin_86 : decode cX8_begin 86 = .ok (.getfield 77, 3) := by decide +kernel
theorem dX8_begin_89 : decode cX8_begin 89 = .ok (.aload_n 1, 1) := by decide +kernel
theorem dX8_begin_90 : decode cX8_begin 90 = .ok (.getfield 77, 3) := by decide +kernel
theorem dX8_begin_93 : decode cX8_begin 93 = .ok (.aload_n 0, 1) := by decide +kernel
theorem dX8_begin_94 : decode cX8_begin 94 = .ok (.getfield 29, 3) := by decide +kernel
theorem dX8_begin_97 : decode cX8_begin 97 = .ok (.getfield 101, 3) := by decide +kernel
theorem dX8_begin_100 : decode cX8_begin 100 = .ok (.invokestatic 117, 3) := by decide +kernel
theorem dX8_begin_103 : decode cX8_begin 103 = .ok (.aload_n 1, 1) := by decide +kernel
theorem dX8_begin_104 : decode cX8_begin 104 = .ok (.getfield 91, 3) := by decide +kernel
theorem dX8_begin_107 : decode cX8_begin 107 = .ok (.aload_n 1, 1) := by decide +kernel
theorem dX8_begin_108 : decode cX8_begin 108 = .ok (.getfield 77, 3) := by decide +kernel
theorem dX8_begin_111 : decode cX8_begin 111 = .ok (.aload_n 0, 1) := by decide +kernel
theorem dX8_begin_112 : decode cX8_begin 112 = .ok (.getfield 33, 3) := by decide +kernel
theorem dX8_begin_115 : decode cX8_begin 115 = .ok (.getfield 101, 3) := by decide +kernel
theorem dX8_begin_118 : decode cX8_begin 118 = .ok (.invokestatic 117, 3) := by decide +kernel
theorem dX8_begin_121 : decode cX8_begin 121 = .ok (.return_, 1) := by decide +kernel
theorem dX8_sortByPorts_0 : decode cX8_sortByPorts 0 = .ok (.iconst 0, 1) := by decide +kernel
theorem dX8_sortByPorts_1 : decode cX8_sortByPorts 1 = .ok (.istore_n 3, 1) := by decide +kernel
theorem dX8_sortByPorts_2 : decode cX8_sortByPorts 2 = .ok (.iload_n 3, 1) := by decide +kernel
theorem dX8_sortByPorts_3 : decode cX8_sortByPorts 3 = .ok (.aload_n 0, 1) := by decide +kernel
theorem dX8_sortByPorts_4 : decode cX8_sortByPorts 4 = .ok (.getfield 83, 3) := by decide +kernel
theorem dX8_sortByPorts_7 : decode cX8_sortByPorts 7 = .ok (.if_icmp .ge 36, 3) := by decide +kernel
theorem dX8_sortByPorts_10 : decode cX8_sortByPorts 10 = .ok (.aload_n 2, 1) := by decide +kernel
theorem dX8_sortByPorts_11 : decode cX8_sortByPorts 11 = .ok (.iload_n 3, 1) := by decide +kernel
theorem dX8_sortByPorts_12 : decode cX8_sortByPorts 12 = .ok (.aload_n 0, 1) := by decide +kernel
theorem dX8_sortByPorts_13 : decode cX8_sortByPorts 13 = .ok (.iload_n 3, 1) := by decide +kernel
theorem dX8_sortByPorts_14 : decode cX8_sortByPorts 14 = .ok (.invokevirtual 121, 3) := by decide +kernel
theorem dX8_sortByPorts_17 : decode cX8_sortByPorts 17 = .ok (.ifCond .eq 18, 3) := by decide +kernel
theorem dX8_sortByPorts_20 : decode cX8_sortByPorts 20 = .ok (.aload_n 1, 1) := by decide +kernel
theorem dX8_sortByPorts_21 : decode cX8_sortByPorts 21 = .ok (.aload_n 0, 1) := by decide +kernel
theorem dX8_sortByPorts_22 : decode cX8_sortByPorts 22 = .ok (.getfield 125, 3) := by decide +kernel
theorem dX8_sortByPorts_25 : decode cX8_sortByPorts 25 = .ok (.iload_n 3, 1) := by decide +kernel
theorem dX8_sortByPorts_26 : decode cX8_sortByPorts 26 = .ok (.iaload, 1) := by decide +kernel
theorem dX8_sortByPorts_27 : decode cX8_sortByPorts 27 = .ok (.invokevirtual 128, 3) := by decide +kernel
theorem dX8_sortByPorts_30 : decode cX8_sortByPorts 30 = .ok (.iconst 1, 1) := by decide +kernel
theorem dX8_sortByPorts_31 : decode cX8_sortByPorts 31 = .ok (.iadd, 1) := by decide +kernel
theorem dX8_sortByPorts_32 : decode cX8_sortByPorts 32 = .ok (.goto 4, 3) := by decide +kernel
theorem dX8_sortByPorts_35 : decode cX8_sortByPorts 35 = .ok (.iconst 0, 1) := by decide +kernel
theorem dX8_sortByPorts_36 : decode cX8_sortByPorts 36 = .ok (.iastore, 1) := by decide +kernel
theorem dX8_sortByPorts_37 : decode cX8_sortByPorts 37 = .ok (.iinc 3 1, 3) := by decide +kernel
theorem dX8_sortByPorts_40 : decode cX8_sortByPorts 40 = .ok (.goto (-38), 3) := by decide +kernel
theorem dX8_sortByPorts_43 : decode cX8_sortByPorts 43 = .ok (.return_, 1) := by decide +kernel
theorem dX8_nextCandidate_0 : decode cX8_nextCandidate 0 = .ok (.aload_n 2, 1) := by decide +kernel
theorem dX8_nextCandidate_1 : decode cX8_nextCandidate 1 = .ok (.iconst 0, 1) := by decide +kernel
theorem dX8_nextCandidate_2 : decode cX8_nextCandidate 2 = .ok (.aload_n 0, 1) := by decide +kernel
theorem dX8_nextCandidate_3 : decode cX8_nextCandidate 3 = .ok (.getfield 15, 3) := by decide +kernel
theorem dX8_nextCandidate_6 : decode cX8_nextCandidate 6 = .ok (.iload_n 3, 1) := by decide +kernel
theorem dX8_nextCandidate_7 : decode cX8_nextCandidate 7 = .ok (.iaload, 1) := by decide +kernel
theorem dX8_nextCandidate_8 : decode cX8_nextCandidate 8 = .ok (.invokevirtual 132, 3) := by decide +kernel
theorem dX8_nextCandidate_11 : decode cX8_nextCandidate 11 = .ok (.istore 4, 2) := by decide +kernel
theorem dX8_nextCandidate_13 : decode cX8_nextCandidate 13 = .ok (.aload_n 0, 1) := by decide +kernel
theorem dX8_nextCandidate_14 : decode cX8_nextCandidate 14 = .ok (.getfield 19, 3) := by decide +kernel
theorem dX8_nextCandidate_17 : decode cX8_nextCandidate 17 = .ok (.iload_n 3, 1) := by decide +kernel
theorem dX8_nextCandidate_18 : decode cX8_nextCandidate 18 = .ok (.iaload, 1) := by decide +kernel
theorem dX8_nextCandidate_19 : decode cX8_nextCandidate 19 = .ok (.iconst 1, 1) := by decide +kernel
theorem dX8_nextCandidate_20 : decode cX8_nextCandidate 20 = .ok (.iadd, 1) := by decide +kernel
theorem dX8_nextCandidate_21 : decode cX8_nextCandidate 21 = .ok (.istore 5, 2) := by decide +kernel
theorem dX8_nextCandidate_23 : decode cX8_nextCandidate 23 = .ok (.iload 5, 2) := by decide +kernel
theorem dX8_nextCandidate_25 : decode cX8_nextCandidate 25 = .ok (.aload_n 1, 1) := by decide +kernel
theorem dX8_nextCandidate_26 : decode cX8_nextCandidate 26 = .ok (.getfield 91, 3) := by decide +kernel
theorem dX8_nextCandidate_29 : decode cX8_nextCandidate 29 = .ok (.getfield 113, 3) := by decide +kernel
theorem dX8_nextCandidate_32 : decode cX8_nextCandidate 32 = .ok (.if_icmp .ge 59, 3) := by decide +kernel
theorem dX8_nextCandidate_35 : decode cX8_nextCandidate 35 = .ok (.aload_n 1, 1) := by decide +kernel
theorem dX8_nextCandidate_36 : decode cX8_nextCandidate 36 = .ok (.getfield 91, 3) := by decide +kernel
theorem dX8_nextCandidate_39 : decode cX8_nextCandidate 39 = .ok (.getfield 114, 3) := by decide +kernel
theorem dX8_nextCandidate_42 : decode cX8_nextCandidate 42 = .ok (.iload 5, 2) := by decide +kernel
theorem dX8_nextCandidate_44 : decode cX8_nextCandidate 44 = .ok (.baload, 1) := by decide +kernel
theorem dX8_nextCandidate_45 : decode cX8_nextCandidate 45 = .ok (.ifCond .ne 17, 3) := by decide +kernel
theorem dX8_nextCandidate_48 : decode cX8_nextCandidate 48 = .ok (.aload_n 0, 1) := by decide +kernel
theorem dX8_nextCandidate_49 : decode cX8_nextCandidate 49 = .ok (.getfield 22, 3) := by decide +kernel
theorem dX8_nextCandidate_52 : decode cX8_nextCandidate 52 = .ok (.iload 5, 2) := by decide +kernel
theorem dX8_nextCandidate_54 : decode cX8_nextCandidate 54 = .ok (.baload, 1) := by decide +kernel
theorem dX8_nextCandidate_55 : decode cX8_nextCandidate 55 = .ok (.ifCond .ne 7, 3) := by decide +kernel
theorem dX8_nextCandidate_58 : decode cX8_nextCandidate 58 = .ok (.iconst 1, 1) := by decide +kernel
theorem dX8_nextCandidate_59 : decode cX8_nextCandidate 59 = .ok (.goto 4, 3) := by decide +kernel
theorem dX8_nextCandidate_62 : decode cX8_nextCandidate 62 = .ok (.iconst 0, 1) := by decide +kernel
theorem dX8_nextCandidate_63 : decode cX8_nextCandidate 63 = .ok (.istore 6, 2) := by decide +kernel
theorem dX8_nextCandidate_65 : decode cX8_nextCandidate 65 = .ok (.iload 6, 2) := by decide +kernel
theorem dX8_nextCandidate_67 : decode cX8_nextCandidate 67 = .ok (.ifCond .eq 18, 3) := by decide +kernel
theorem dX8_nextCandidate_70 : decode cX8_nextCandidate 70 = .ok (.aload_n 2, 1) := by decide +kernel
theorem dX8_nextCandidate_71 : decode cX8_nextCandidate 71 = .ok (.iconst 1, 1) := by decide +kernel
theorem dX8_nextCandidate_72 : decode cX8_nextCandidate 72 = .ok (.iload 5, 2) := by decide +kernel
theorem dX8_nextCandidate_74 : decode cX8_nextCandidate 74 = .ok (.invokevirtual 132, 3) := by decide +kernel
theorem dX8_nextCandidate_77 : decode cX8_nextCandidate 77 = .ok (.iload 4, 2) := by decide +kernel
theorem dX8_nextCandidate_79 : decode cX8_nextCandidate 79 = .ok (.if_icmp .ne 6, 3) := by decide +kernel
theorem dX8_nextCandidate_82 : decode cX8_nextCandidate 82 = .ok (.iload 5, 2) := by decide +kernel
theorem dX8_nextCandidate_84 : decode cX8_nextCandidate 84 = .ok (.ireturn, 1) := by decide +kernel
theorem dX8_nextCandidate_85 : decode cX8_nextCandidate 85 = .ok (.iinc 5 1, 3) := by decide +kernel
theorem dX8_nextCandidate_88 : decode cX8_nextCandidate 88 = .ok (.goto (-65), 3) := by decide +kernel
theorem dX8_nextCandidate_91 : decode cX8_nextCandidate 91 = .ok (.iconst (-1), 1) := by decide +kernel
theorem dX8_nextCandidate_92 : decode cX8_nextCandidate 92 = .ok (.ireturn, 1) := by decide +kernel
theorem dX8_pairUp_0 : decode cX8_pairUp 0 = .ok (.aload_n 0, 1) := by decide +kernel
theorem dX8_pairUp_1 : decode cX8_pairUp 1 = .ok (.getfield 15, 3) := by decide +kernel
theorem dX8_pairUp_4 : decode cX8_pairUp 4 = .ok (.iload_n 2, 1) := by decide +kernel
theorem dX8_pairUp_5 : decode cX8_pairUp 5 = .ok (.iaload, 1) := by decide +kernel
theorem dX8_pairUp_6 : decode cX8_pairUp 6 = .ok (.istore 4, 2) := by decide +kernel
theorem dX8_pairUp_8 : decode cX8_pairUp 8 = .ok (.aload_n 1, 1) := by decide +kernel
theorem dX8_pairUp_9 : decode cX8_pairUp 9 = .ok (.getfield 77, 3) := by decide +kernel
theorem dX8_pairUp_12 : decode cX8_pairUp 12 = .ok (.getfield 138, 3) := by decide +kernel
theorem dX8_pairUp_15 : decode cX8_pairUp 15 = .ok (.iload 4, 2) := by decide +kernel
theorem dX8_pairUp_17 : decode cX8_pairUp 17 = .ok (.daload, 1) := by decide +kernel
theorem dX8_pairUp_18 : decode cX8_pairUp 18 = .ok (.dstore 5, 2) := by decide +kernel
theorem dX8_pairUp_20 : decode cX8_pairUp 20 = .ok (.aload_n 1, 1) := by decide +kernel
theorem dX8_pairUp_21 : decode cX8_pairUp 21 = .ok (.getfield 77, 3) := by decide +kernel
theorem dX8_pairUp_24 : decode cX8_pairUp 24 = .ok (.getfield 142, 3) := by decide +kernel
theorem dX8_pairUp_27 : decode cX8_pairUp 27 = .ok (.iload 4, 2) := by decide +kernel
theorem dX8_pairUp_29 : decode cX8_pairUp 29 = .ok (.iaload, 1) := by decide +kernel
theorem dX8_pairUp_30 : decode cX8_pairUp 30 = .ok (.istore 7, 2) := by decide +kernel
theorem dX8_pairUp_32 : decode cX8_pairUp 32 = .ok (.aload_n 1, 1) := by decide +kernel
theorem dX8_pairUp_33 : decode cX8_pairUp 33 = .ok (.getfield 145, 3) := by decide +kernel
theorem dX8_pairUp_36 : decode cX8_pairUp 36 = .ok (.iload 7, 2) := by decide +kernel
theorem dX8_pairUp_38 : decode cX8_pairUp 38 = .ok (.dload 5, 2) := by decide +kernel
theorem dX8_pairUp_40 : decode cX8_pairUp 40 = .ok (.aload_n 1, 1) := by decide +kernel
theorem dX8_pairUp_41 : decode cX8_pairUp 41 = .ok (.getfield 91, 3) := by decide +kernel
theorem dX8_pairUp_44 : decode cX8_pairUp 44 = .ok (.getfield 138, 3) := by decide +kernel
theorem dX8_pairUp_47 : decode cX8_pairUp 47 = .ok (.iload_n 3, 1) := by decide +kernel
theorem dX8_pairUp_48 : decode cX8_pairUp 48 = .ok (.daload, 1) := by decide +kernel
theorem dX8_pairUp_49 : decode cX8_pairUp 49 = .ok (.invokevirtual 149, 3) := by decide +kernel
theorem dX8_pairUp_52 : decode cX8_pairUp 52 = .ok (.ifCond .ne 5, 3) := by decide +kernel
theorem dX8_pairUp_55 : decode cX8_pairUp 55 = .ok (.iconst 0, 1) := by decide +kernel
theorem dX8_pairUp_56 : decode cX8_pairUp 56 = .ok (.ireturn, 1) := by decide +kernel
theorem dX8_pairUp_57 : decode cX8_pairUp 57 = .ok (.aload_n 0, 1) := by decide +kernel
theorem dX8_pairUp_58 : decode cX8_pairUp 58 = .ok (.getfield 29, 3) := by decide +kernel
theorem dX8_pairUp_61 : decode cX8_pairUp 61 = .ok (.aload_n 1, 1) := by decide +kernel
theorem dX8_pairUp_62 : decode cX8_pairUp 62 = .ok (.getfield 77, 3) := by decide +kernel
theorem dX8_pairUp_65 : decode cX8_pairUp 65 = .ok (.aload_n 1, 1) := by decide +kernel
theorem dX8_pairUp_66 : decode cX8_pairUp 66 = .ok (.getfield 145, 3) := by decide +kernel
theorem dX8_pairUp_69 : decode cX8_pairUp 69 = .ok (.iload 4, 2) := by decide +kernel
theorem dX8_pairUp_71 : decode cX8_pairUp 71 = .ok (.invokevirtual 155, 3) := by decide +kernel
theorem dX8_pairUp_74 : decode cX8_pairUp 74 = .ok (.aload_n 0, 1) := by decide +kernel
theorem dX8_pairUp_75 : decode cX8_pairUp 75 = .ok (.getfield 33, 3) := by decide +kernel
theorem dX8_pairUp_78 : decode cX8_pairUp 78 = .ok (.aload_n 1, 1) := by decide +kernel
theorem dX8_pairUp_79 : decode cX8_pairUp 79 = .ok (.getfield 91, 3) := by decide +kernel
theorem dX8_pairUp_82 : decode cX8_pairUp 82 = .ok (.aload_n 1, 1) := by decide +kernel
theorem dX8_pairUp_83 : decode cX8_pairUp 83 = .ok (.getfield 145, 3) := by decide +kernel
theorem dX8_pairUp_86 : decode cX8_pairUp 86 = .ok (.iload_n 3, 1) := by decide +kernel
theorem dX8_pairUp_87 : decode cX8_pairUp 87 = .ok (.invokevirtual 155, 3) := by decide +kernel
theorem dX8_pairUp_90 : decode cX8_pairUp 90 = .ok (.aload_n 0, 1) := by decide +kernel
theorem dX8_pairUp_91 : decode cX8_pairUp 91 = .ok (.invokevirtual 159, 3) := by decide +kernel
theorem dX8_pairUp_94 : decode cX8_pairUp 94 = .ok (.ifCond .ne 5, 3) := by decide +kernel
theorem dX8_pairUp_97 : decode cX8_pairUp 97 = .ok (.iconst 0, 1) := by decide +kernel
theorem dX8_pairUp_98 : decode cX8_pairUp 98 = .ok (.ireturn, 1) := by decide +kernel
theorem dX8_pairUp_99 : decode cX8_pairUp 99 = .ok (.aload_n 0, 1) := by decide +kernel
theorem dX8_pairUp_100 : decode cX8_pairUp 100 = .ok (.iload_n 2, 1) := by decide +kernel
theorem dX8_pairUp_101 : decode cX8_pairUp 101 = .ok (.invokevirtual 163, 3) := by decide +kernel
theorem dX8_pairUp_104 : decode cX8_pairUp 104 = .ok (.aload_n 0, 1) := by decide +kernel
theorem dX8_pairUp_105 : decode cX8_pairUp 105 = .ok (.getfield 22, 3) := by decide +kernel
theorem dX8_pairUp_108 : decode cX8_pairUp 108 = .ok (.iload_n 3, 1) := by decide +kernel
theorem dX8_pairUp_109 : decode cX8_pairUp 109 = .ok (.iconst 1, 1) := by decide +kernel
theorem dX8_pairUp_110 : decode cX8_pairUp 110 = .ok (.bastore, 1) := by decide +kernel
theorem dX8_pairUp_111 : decode cX8_pairUp 111 = .ok (.iconst 1, 1) := by decide +kernel
theorem dX8_pairUp_112 : decode cX8_pairUp 112 = .ok (.ireturn, 1) := by decide +kernel
theorem dX8_findMates_0 : decode cX8_findMates 0 = .ok (.aload_n 0, 1) := by decide +kernel
theorem dX8_findMates_1 : decode cX8_findMates 1 = .ok (.getfield 29, 3) := by decide +kernel
theorem dX8_findMates_4 : decode cX8_findMates 4 = .ok (.getfield 166, 3) := by decide +kernel
theorem dX8_findMates_7 : decode cX8_findMates 7 = .ok (.aload_n 0, 1) := by decide +kernel
theorem dX8_findMates_8 : decode cX8_findMates 8 = .ok (.getfield 33, 3) := by decide +kernel
theorem dX8_findMates_11 : decode cX8_findMates 11 = .ok (.getfield 166, 3) := by decide +kernel
theorem dX8_findMates_14 : decode cX8_findMates 14 = .ok (.if_icmp .eq 5, 3) := by decide +kernel
theorem dX8_findMates_17 : decode cX8_findMates 17 = .ok (.iconst 0, 1) := by decide +kernel
theorem dX8_findMates_18 : decode cX8_findMates 18 = .ok (.ireturn, 1) := by decide +kernel
theorem dX8_findMates_19 : decode cX8_findMates 19 = .ok (.iconst 0, 1) := by decide +kernel
theorem dX8_findMates_20 : decode cX8_findMates 20 = .ok (.istore_n 1, 1) := by decide +kernel
theorem dX8_findMates_21 : decode cX8_findMates 21 = .ok (.iconst 0, 1) := by decide +kernel
theorem dX8_findMates_22 : decode cX8_findMates 22 = .ok (.istore_n 2, 1) := by decide +kernel
theorem dX8_findMates_23 : decode cX8_findMates 23 = .ok (.iload_n 2, 1) := by decide +kernel
theorem dX8_findMates_24 : decode cX8_findMates 24 = .ok (.aload_n 0, 1) := by decide +kernel
theorem dX8_findMates_25 : decode cX8_findMates 25 = .ok (.getfield 29, 3) := by decide +kernel
theorem dX8_findMates_28 : decode cX8_findMates 28 = .ok (.getfield 166, 3) := by decide +kernel
theorem dX8_findMates_31 : decode cX8_findMates 31 = .ok (.if_icmp .ge 47, 3) := by decide +kernel
theorem dX8_findMates_34 : decode cX8_findMates 34 = .ok (.aload_n 0, 1) := by decide +kernel
theorem dX8_findMates_35 : decode cX8_findMates 35 = .ok (.getfield 33, 3) := by decide +kernel
theorem dX8_findMates_38 : decode cX8_findMates 38 = .ok (.aload_n 0, 1) := by decide +kernel
theorem dX8_findMates_39 : decode cX8_findMates 39 = .ok (.getfield 29, 3) := by decide +kernel
theorem dX8_findMates_42 : decode cX8_findMates 42 = .ok (.getfield 169, 3) := by decide +kernel
theorem dX8_findMates_45 : decode cX8_findMates 45 = .ok (.iload_n 2, 1) := by decide +kernel
theorem dX8_findMates_46 : decode cX8_findMates 46 = .ok (.iaload, 1) := by decide +kernel
theorem dX8_findMates_47 : decode cX8_findMates 47 = .ok (.iload_n 1, 1) := by decide +kernel
theorem dX8_findMates_48 : decode cX8_findMates 48 = .ok (.invokevirtual 172, 3) := by decide +kernel
theorem dX8_findMates_51 : decode cX8_findMates 51 = .ok (.istore_n 3, 1) := by decide +kernel
theorem dX8_findMates_52 : decode cX8_findMates 52 = .ok (.iload_n 3, 1) := by decide +kernel
theorem dX8_findMates_53 : decode cX8_findMates 53 = .ok (.iconst (-1), 1) := by decide +kernel
theorem dX8_findMates_54 : decode cX8_findMates 54 = .ok (.if_icmp .ne 5, 3) := by decide +kernel
theorem dX8_findMates_57 : decode cX8_findMates 57 = .ok (.iconst 0, 1) := by decide +kernel
theorem dX8_findMates_58 : decode cX8_findMates 58 = .ok (.ireturn, 1) := by decide +kernel
theorem dX8_findMates_59 : decode cX8_findMates 59 = .ok (.aload_n 0, 1) := by decide +kernel
theorem dX8_findMates_60 : decode cX8_findMates 60 = .ok (.getfield 36, 3) := by decide +kernel
theorem dX8_findMates_63 : decode cX8_findMates 63 = .ok (.iload_n 2, 1) := by decide +kernel
theorem dX8_findMates_64 : decode cX8_findMates 64 = .ok (.iload_n 3, 1) := by decide +kernel
theorem dX8_findMates_65 : decode cX8_findMates 65 = .ok (.iastore, 1) := by decide +kernel
theorem dX8_findMates_66 : decode cX8_findMates 66 = .ok (.iload_n 1, 1) := by decide +kernel
theorem dX8_findMates_67 : decode cX8_findMates 67 = .ok (.iconst 1, 1) := by decide +kernel
theorem dX8_findMates_68 : decode cX8_findMates 68 = .ok (.iload_n 3, 1) := by decide +kernel
theorem dX8_findMates_69 : decode cX8_findMates 69 = .ok (.ishl, 1) := by decide +kernel
theorem dX8_findMates_70 : decode cX8_findMates 70 = .ok (.ior, 1) := by decide +kernel
theorem dX8_findMates_71 : decode cX8_findMates 71 = .ok (.istore_n 1, 1) := by decide +kernel
theorem dX8_findMates_72 : decode cX8_findMates 72 = .ok (.iinc 2 1, 3) := by decide +kernel
theorem dX8_findMates_75 : decode cX8_findMates 75 = .ok (.goto (-52), 3) := by decide +kernel
theorem dX8_findMates_78 : decode cX8_findMates 78 = .ok (.iconst 1, 1) := by decide +kernel
theorem dX8_findMates_79 : decode cX8_findMates 79 = .ok (.ireturn, 1) := by decide +kernel
theorem dX8_changeSorts_0 : decode cX8_changeSorts 0 = .ok (.aload_n 0, 1) := by decide +kernel
theorem dX8_changeSorts_1 : decode cX8_changeSorts 1 = .ok (.getfield 39, 3) := by decide +kernel
theorem dX8_changeSorts_4 : decode cX8_changeSorts 4 = .ok (.iload_n 1, 1) := by decide +kernel
theorem dX8_changeSorts_5 : decode cX8_changeSorts 5 = .ok (.aload_n 0, 1) := by decide +kernel
theorem dX8_changeSorts_6 : decode cX8_changeSorts 6 = .ok (.getfield 29, 3) := by decide +kernel
theorem dX8_changeSorts_9 : decode cX8_changeSorts 9 = .ok (.getfield 166, 3) := by decide +kernel
theorem dX8_changeSorts_12 : decode cX8_changeSorts 12 = .ok (.iastore, 1) := by decide +kernel
theorem dX8_changeSorts_13 : decode cX8_changeSorts 13 = .ok (.iconst 0, 1) := by decide +kernel
theorem dX8_changeSorts_14 : decode cX8_changeSorts 14 = .ok (.istore_n 2, 1) := by decide +kernel
theorem dX8_changeSorts_15 : decode cX8_changeSorts 15 = .ok (.iload_n 2, 1) := by decide +kernel
theorem dX8_changeSorts_16 : decode cX8_changeSorts 16 = .ok (.aload_n 0, 1) := by decide +kernel
theorem dX8_changeSorts_17 : decode cX8_changeSorts 17 = .ok (.getfield 29, 3) := by decide +kernel
theorem dX8_changeSorts_20 : decode cX8_changeSorts 20 = .ok (.getfield 166, 3) := by decide +kernel
theorem dX8_changeSorts_23 : decode cX8_changeSorts 23 = .ok (.if_icmp .ge 128, 3) := by decide +kernel
theorem dX8_changeSorts_26 : decode cX8_changeSorts 26 = .ok (.iload_n 1, 1) := by decide +kernel
theorem dX8_changeSorts_27 : decode cX8_changeSorts 27 = .ok (.iconst 4, 1) := by decide +kernel
theorem dX8_changeSorts_28 : decode cX8_changeSorts 28 = .ok (.imul, 1) := by decide +kernel
theorem dX8_changeSorts_29 : decode cX8_changeSorts 29 = .ok (.iload_n 2, 1) := by decide +kernel
theorem dX8_changeSorts_30 : decode cX8_changeSorts 30 = .ok (.iadd, 1) := by decide +kernel
theorem dX8_changeSorts_31 : decode cX8_changeSorts 31 = .ok (.istore_n 3, 1) := by decide +kernel
theorem dX8_changeSorts_32 : decode cX8_changeSorts 32 = .ok (.aload_n 0, 1) := by decide +kernel
theorem dX8_changeSorts_33 : decode cX8_changeSorts 33 = .ok (.getfield 29, 3) := by decide +kernel
theorem dX8_changeSorts_36 : decode cX8_changeSorts 36 = .ok (.getfield 175, 3) := by decide +kernel
theorem dX8_changeSorts_39 : decode cX8_changeSorts 39 = .ok (.iload_n 2, 1) := by decide +kernel
theorem dX8_changeSorts_40 : decode cX8_changeSorts 40 = .ok (.iaload, 1) := by decide +kernel
theorem dX8_changeSorts_41 : decode cX8_changeSorts 41 = .ok (.istore 4, 2) := by decide +kernel
theorem dX8_changeSorts_43 : decode cX8_changeSorts 43 = .ok (.aload_n 0, 1) := by decide +kernel
theorem dX8_changeSorts_44 : decode cX8_changeSorts 44 = .ok (.getfield 33, 3) := by decide +kernel
theorem dX8_changeSorts_47 : decode cX8_changeSorts 47 = .ok (.getfield 175, 3) := by decide +kernel
theorem dX8_changeSorts_50 : decode cX8_changeSorts 50 = .ok (.aload_n 0, 1) := by decide +kernel
theorem dX8_changeSorts_51 : decode cX8_changeSorts 51 = .ok (.getfield 36, 3) := by decide +kernel
theorem dX8_changeSorts_54 : decode cX8_changeSorts 54 = .ok (.iload_n 2, 1) := by decide +kernel
theorem dX8_changeSorts_55 : decode cX8_changeSorts 55 = .ok (.iaload, 1) := by decide +kernel
theorem dX8_changeSorts_56 : decode cX8_changeSorts 56 = .ok (.iaload, 1) := by decide +kernel
theorem dX8_changeSorts_57 : decode cX8_changeSorts 57 = .ok (.istore 5, 2) := by decide +kernel
theorem dX8_changeSorts_59 : decode cX8_changeSorts 59 = .ok (.aload_n 0, 1) := by decide +kernel
theorem dX8_changeSorts_60 : decode cX8_changeSorts 60 = .ok (.getfield 42, 3) := by decide +kernel
theorem dX8_changeSorts_63 : decode cX8_changeSorts 63 = .ok (.iload_n 3, 1) := by decide +kernel
theorem dX8_changeSorts_64 : decode cX8_changeSorts 64 = .ok (.iload 4, 2) := by decide +kernel
theorem dX8_changeSorts_66 : decode cX8_changeSorts 66 = .ok (.iastore, 1) := by decide +kernel
theorem dX8_changeSorts_67 : decode cX8_changeSorts 67 = .ok (.aload_n 0, 1) := by decide +kernel
theorem dX8_changeSorts_68 : decode cX8_changeSorts 68 = .ok (.getfield 45, 3) := by decide +kernel
theorem dX8_changeSorts_71 : decode cX8_changeSorts 71 = .ok (.iload_n 3, 1) := by decide +kernel
theorem dX8_changeSorts_72 : decode cX8_changeSorts 72 = .ok (.iload 5, 2) := by decide +kernel
theorem dX8_changeSorts_74 : decode cX8_changeSorts 74 = .ok (.iastore, 1) := by decide +kernel
theorem dX8_changeSorts_75 : decode cX8_changeSorts 75 = .ok (.aload_n 0, 1) := by decide +kernel
theorem dX8_changeSorts_76 : decode cX8_changeSorts 76 = .ok (.getfield 48, 3) := by decide +kernel
theorem dX8_changeSorts_79 : decode cX8_changeSorts 79 = .ok (.iload_n 3, 1) := by decide +kernel
theorem dX8_changeSorts_80 : decode cX8_changeSorts 80 = .ok (.aload_n 0, 1) := by decide +kernel
theorem dX8_changeSorts_81 : decode cX8_changeSorts 81 = .ok (.getfield 29, 3) := by decide +kernel
theorem dX8_changeSorts_84 : decode cX8_changeSorts 84 = .ok (.getfield 101, 3) := by decide +kernel
theorem dX8_changeSorts_87 : decode cX8_changeSorts 87 = .ok (.iload 4, 2) := by decide +kernel
theorem dX8_changeSorts_89 : decode cX8_changeSorts 89 = .ok (.iaload, 1) := by decide +kernel
theorem dX8_changeSorts_90 : decode cX8_changeSorts 90 = .ok (.iastore, 1) := by decide +kernel
theorem dX8_changeSorts_91 : decode cX8_changeSorts 91 = .ok (.aload_n 0, 1) := by decide +kernel
theorem dX8_changeSorts_92 : decode cX8_changeSorts 92 = .ok (.getfield 29, 3) := by decide +kernel
theorem dX8_changeSorts_95 : decode cX8_changeSorts 95 = .ok (.aload_n 0, 1) := by decide +kernel
theorem dX8_changeSorts_96 : decode cX8_changeSorts 96 = .ok (.getfield 29, 3) := by decide +kernel
theorem dX8_changeSorts_99 : decode cX8_changeSorts 99 = .ok (.getfield 169, 3) := by decide +kernel
theorem dX8_changeSorts_102 : decode cX8_changeSorts 102 = .ok (.iload_n 2, 1) := by decide +kernel
theorem dX8_changeSorts_103 : decode cX8_changeSorts 103 = .ok (.iaload, 1) := by decide +kernel
theorem dX8_changeSorts_104 : decode cX8_changeSorts 104 = .ok (.iconst 0, 1) := by decide +kernel
theorem dX8_changeSorts_105 : decode cX8_changeSorts 105 = .ok (.invokevirtual 172, 3) := by decide +kernel
theorem dX8_changeSorts_108 : decode cX8_changeSorts 108 = .ok (.istore 6, 2) := by decide +kernel
theorem dX8_changeSorts_110 : decode cX8_changeSorts 110 = .ok (.bipush 41, 2) := by decide +kernel
theorem dX8_changeSorts_112 : decode cX8_changeSorts 112 = .ok (.iload_n 1, 1) := by decide +kernel
theorem dX8_changeSorts_113 : decode cX8_changeSorts 113 = .ok (.iconst 4, 1) := by decide +kernel
theorem dX8_changeSorts_114 : decode cX8_changeSorts 114 = .ok (.imul, 1) := by decide +kernel
theorem dX8_changeSorts_115 : decode cX8_changeSorts 115 = .ok (.iadd, 1) := by decide +kernel
theorem dX8_changeSorts_116 : decode cX8_changeSorts 116 = .ok (.iload 6, 2) := by decide +kernel
theorem dX8_changeSorts_118 : decode cX8_changeSorts 118 = .ok (.iadd, 1) := by decide +kernel
theorem dX8_changeSorts_119 : decode cX8_changeSorts 119 = .ok (.istore 7, 2) := by decide +kernel
theorem dX8_changeSorts_121 : decode cX8_changeSorts 121 = .ok (.aload_n 0, 1) := by decide +kernel
theorem dX8_changeSorts_122 : decode cX8_changeSorts 122 = .ok (.getfield 29, 3) := by decide +kernel
theorem dX8_changeSorts_125 : decode cX8_changeSorts 125 = .ok (.getfield 101, 3) := by decide +kernel
theorem dX8_changeSorts_128 : decode cX8_changeSorts 128 = .ok (.iload 4, 2) := by decide +kernel
theorem dX8_changeSorts_130 : decode cX8_changeSorts 130 = .ok (.iload 7, 2) := by decide +kernel
theorem dX8_changeSorts_132 : decode cX8_changeSorts 132 = .ok (.iastore, 1) := by decide +kernel
theorem dX8_changeSorts_133 : decode cX8_changeSorts 133 = .ok (.aload_n 0, 1) := by decide +kernel
theorem dX8_changeSorts_134 : decode cX8_changeSorts 134 = .ok (.getfield 33, 3) := by decide +kernel
theorem dX8_changeSorts_137 : decode cX8_changeSorts 137 = .ok (.getfield 101, 3) := by decide +kernel
theorem dX8_changeSorts_140 : decode cX8_changeSorts 140 = .ok (.iload 5, 2) := by decide +kernel
theorem dX8_changeSorts_142 : decode cX8_changeSorts 142 = .ok (.iload 7, 2) := by decide +kernel
theorem dX8_changeSorts_144 : decode cX8_changeSorts 144 = .ok (.iastore, 1) := by decide +kernel
theorem dX8_changeSorts_145 : decode cX8_changeSorts 145 = .ok (.iinc 2 1, 3) := by decide +kernel
theorem dX8_changeSorts_148 : decode cX8_changeSorts 148 = .ok (.goto (-133), 3) := by decide +kernel
theorem dX8_changeSorts_151 : decode cX8_changeSorts 151 = .ok (.return_, 1) := by decide +kernel
theorem dX8_undo_0 : decode cX8_undo 0 = .ok (.iload_n 1, 1) := by decide +kernel
theorem dX8_undo_1 : decode cX8_undo 1 = .ok (.ifCond .ge 4, 3) := by decide +kernel
theorem dX8_undo_4 : decode cX8_undo 4 = .ok (.return_, 1) := by decide +kernel
theorem dX8_undo_5 : decode cX8_undo 5 = .ok (.aload_n 0, 1) := by decide +kernel
theorem dX8_undo_6 : decode cX8_undo 6 = .ok (.getfield 22, 3) := by decide +kernel
theorem dX8_undo_9 : decode cX8_undo 9 = .ok (.aload_n 0, 1) := by decide +kernel
theorem dX8_undo_10 : decode cX8_undo 10 = .ok (.getfield 19, 3) := by decide +kernel
theorem dX8_undo_13 : decode cX8_undo 13 = .ok (.iload_n 1, 1) := by decide +kernel
theorem dX8_undo_14 : decode cX8_undo 14 = .ok (.iaload, 1) := by decide +kernel
theorem dX8_undo_15 : decode cX8_undo 15 = .ok (.iconst 0, 1) := by decide +kernel
theorem dX8_undo_16 : decode cX8_undo 16 = .ok (.bastore, 1) := by decide +kernel
theorem dX8_undo_17 : decode cX8_undo 17 = .ok (.iconst 0, 1) := by decide +kernel
theorem dX8_undo_18 : decode cX8_undo 18 = .ok (.istore_n 2, 1) := by decide +kernel
theorem dX8_undo_19 : decode cX8_undo 19 = .ok (.iload_n 2, 1) := by decide +kernel
theorem dX8_undo_20 : decode cX8_undo 20 = .ok (.aload_n 0, 1) := by decide +kernel
theorem dX8_undo_21 : decode cX8_undo 21 = .ok (.getfield 39, 3) := by decide +kernel
theorem dX8_undo_24 : decode cX8_undo 24 = .ok (.iload_n 1, 1) := by decide +kernel
theorem dX8_undo_25 : decode cX8_undo 25 = .ok (.iaload, 1) := by decide +kernel
theorem dX8_undo_26 : decode cX8_undo 26 = .ok (.if_icmp .ge 55, 3) := by decide +kernel
theorem dX8_undo_29 : decode cX8_undo 29 = .ok (.iload_n 1, 1) := by decide +kernel
theorem dX8_undo_30 : decode cX8_undo 30 = .ok (.iconst 4, 1) := by decide +kernel
theorem dX8_undo_31 : decode cX8_undo 31 = .ok (.imul, 1) := by decide +kernel
theorem dX8_undo_32 : decode cX8_undo 32 = .ok (.iload_n 2, 1) := by decide +kernel
theorem dX8_undo_33 : decode cX8_undo 33 = .ok (.iadd, 1) := by decide +kernel
theorem dX8_undo_34 : decode cX8_undo 34 = .ok (.istore_n 3, 1) := by decide +kernel
theorem dX8_undo_35 : decode cX8_undo 35 = .ok (.aload_n 0, 1) := by decide +kernel
theorem dX8_undo_36 : decode cX8_undo 36 = .ok (.getfield 29, 3) := by decide +kernel
theorem dX8_undo_39 : decode cX8_undo 39 = .ok (.getfield 101, 3) := by decide +kernel
theorem dX8_undo_42 : decode cX8_undo 42 = .ok (.aload_n 0, 1) := by decide +kernel
theorem dX8_undo_43 : decode cX8_undo 43 = .ok (.getfield 42, 3) := by decide +kernel
theorem dX8_undo_46 : decode cX8_undo 46 = .ok (.iload_n 3, 1) := by decide +kernel
theorem dX8_undo_47 : decode cX8_undo 47 = .ok (.iaload, 1) := by decide +kernel
theorem dX8_undo_48 : decode cX8_undo 48 = .ok (.aload_n 0, 1) := by decide +kernel
theorem dX8_undo_49 : decode cX8_undo 49 = .ok (.getfield 48, 3) := by decide +kernel
theorem dX8_undo_52 : decode cX8_undo 52 = .ok (.iload_n 3, 1) := by decide +kernel
theorem dX8_undo_53 : decode cX8_undo 53 = .ok (.iaload, 1) := by decide +kernel
theorem dX8_undo_54 : decode cX8_undo 54 = .ok (.iastore, 1) := by decide +kernel
theorem dX8_undo_55 : decode cX8_undo 55 = .ok (.aload_n 0, 1) := by decide +kernel
theorem dX8_undo_56 : decode cX8_undo 56 = .ok (.getfield 33, 3) := by decide +kernel
theorem dX8_undo_59 : decode cX8_undo 59 = .ok (.getfield 101, 3) := by decide +kernel
theorem dX8_undo_62 : decode cX8_undo 62 = .ok (.aload_n 0, 1) := by decide +kernel
theorem dX8_undo_63 : decode cX8_undo 63 = .ok (.getfield 45, 3) := by decide +kernel
theorem dX8_undo_66 : decode cX8_undo 66 = .ok (.iload_n 3, 1) := by decide +kernel
theorem dX8_undo_67 : decode cX8_undo 67 = .ok (.iaload, 1) := by decide +kernel
theorem dX8_undo_68 : decode cX8_undo 68 = .ok (.aload_n 0, 1) := by decide +kernel
theorem dX8_undo_69 : decode cX8_undo 69 = .ok (.getfield 48, 3) := by decide +kernel
theorem dX8_undo_72 : decode cX8_undo 72 = .ok (.iload_n 3, 1) := by decide +kernel
theorem dX8_undo_73 : decode cX8_undo 73 = .ok (.iaload, 1) := by decide +kernel
theorem dX8_undo_74 : decode cX8_undo 74 = .ok (.iastore, 1) := by decide +kernel
theorem dX8_undo_75 : decode cX8_undo 75 = .ok (.iinc 2 1, 3) := by decide +kernel
theorem dX8_undo_78 : decode cX8_undo 78 = .ok (.goto (-59), 3) := by decide +kernel
theorem dX8_undo_81 : decode cX8_undo 81 = .ok (.return_, 1) := by decide +kernel
theorem dX9_init_0 : decode cX9_init 0 = .ok (.aload_n 0, 1) := by decide +kernel
theorem dX9_init_1 : decode cX9_init 1 = .ok (.invokespecial 3, 3) := by decide +kernel
theorem dX9_init_4 : decode cX9_init 4 = .ok (.aload_n 0, 1) := by decide +kernel
theorem dX9_init_5 : decode cX9_init 5 = .ok (.iconst 0, 1) := by decide +kernel
theorem dX9_init_6 : decode cX9_init 6 = .ok (.putfield 9, 3) := by decide +kernel
theorem dX9_init_9 : decode cX9_init 9 = .ok (.aload_n 0, 1) := by decide +kernel
theorem dX9_init_10 : decode cX9_init 10 = .ok (.bipush 40, 2) := by decide +kernel
theorem dX9_init_12 : decode cX9_init 12 = .ok (.newarray .int, 2) := by decide +kernel
theorem dX9_init_14 : decode cX9_init 14 = .ok (.putfield 15, 3) := by decide +kernel
theorem dX9_init_17 : decode cX9_init 17 = .ok (.aload_n 0, 1) := by decide +kernel
theorem dX9_init_18 : decode cX9_init 18 = .ok (.bipush 40, 2) := by decide +kernel
theorem dX9_init_20 : decode cX9_init 20 = .ok (.newarray .boolean, 2) := by decide +kernel
theorem dX9_init_22 : decode cX9_init 22 = .ok (.putfield 19, 3) := by decide +kernel
theorem dX9_init_25 : decode cX9_init 25 = .ok (.aload_n 0, 1) := by decide +kernel
theorem dX9_init_26 : decode cX9_init 26 = .ok (.iconst 0, 1) := by decide +kernel
theorem dX9_init_27 : decode cX9_init 27 = .ok (.putfield 23, 3) := by decide +kernel
theorem dX9_init_30 : decode cX9_init 30 = .ok (.aload_n 0, 1) := by decide +kernel
theorem dX9_init_31 : decode cX9_init 31 = .ok (.bipush 30, 2) := by decide +kernel
theorem dX9_init_33 : decode cX9_init 33 = .ok (.newarray .int, 2) := by decide +kernel
theorem dX9_init_35 : decode cX9_init 35 = .ok (.putfield 26, 3) := by decide +kernel
theorem dX9_init_38 : decode cX9_init 38 = .ok (.aload_n 0, 1) := by decide +kernel
theorem dX9_init_39 : decode cX9_init 39 = .ok (.bipush 30, 2) := by decide +kernel
theorem dX9_init_41 : decode cX9_init 41 = .ok (.newarray .double, 2) := by decide +kernel
theorem dX9_init_43 : decode cX9_init 43 = .ok (.putfield 29, 3) := by decide +kernel
theorem dX9_init_46 : decode cX9_init 46 = .ok (.aload_n 0, 1) := by decide +kernel
theorem dX9_init_47 : decode cX9_init 47 = .ok (.bipush 30, 2) := by decide +kernel
theorem dX9_init_49 : decode cX9_init 49 = .ok (.newarray .boolean, 2) := by decide +kernel
theorem dX9_init_51 : decode cX9_init 51 = .ok (.putfield 33, 3) := by decide +kernel
theorem dX9_init_54 : decode cX9_init 54 = .ok (.aload_n 0, 1) := by decide +kernel
theorem dX9_init_55 : decode cX9_init 55 = .ok (.bipush 120, 2) := by decide +kernel
theorem dX9_init_57 : decode cX9_init 57 = .ok (.newarray .int, 2) := by decide +kernel
theorem dX9_init_59 : decode cX9_init 59 = .ok (.putfield 36, 3) := by decide +kernel
theorem dX9_init_62 : decode cX9_init 62 = .ok (.aload_n 0, 1) := by decide +kernel
theorem dX9_init_63 : decode cX9_init 63 = .ok (.getfield 15, 3) := by decide +kernel
theorem dX9_init_66 : decode cX9_init 66 = .ok (.iconst (-1), 1) := by decide +kernel
theorem dX9_init_67 : decode cX9_init 67 = .ok (.invokestatic 39, 3) := by decide +kernel
theorem dX9_init_70 : decode cX9_init 70 = .ok (.aload_n 0, 1) := by decide +kernel
theorem dX9_init_71 : decode cX9_init 71 = .ok (.getfield 36, 3) := by decide +kernel
theorem dX9_init_74 : decode cX9_init 74 = .ok (.iconst (-1), 1) := by decide +kernel
theorem dX9_init_75 : decode cX9_init 75 = .ok (.invokestatic 39, 3) := by decide +kernel
theorem dX9_init_78 : decode cX9_init 78 = .ok (.return_, 1) := by decide +kernel
theorem dX9_addNet_0 : decode cX9_addNet 0 = .ok (.aload_n 0, 1) := by decide +kernel
theorem dX9_addNet_1 : decode cX9_addNet 1 = .ok (.dup, 1) := by decide +kernel
theorem dX9_addNet_2 : decode cX9_addNet 2 = .ok (.getfield 9, 3) := by decide +kernel
theorem dX9_addNet_5 : decode cX9_addNet 5 = .ok (.iconst 1, 1) := by decide +kernel
theorem dX9_addNet_6 : decode cX9_addNet 6 = .ok (.iadd, 1) := by decide +kernel
theorem dX9_addNet_7 : decode cX9_addNet 7 = .ok (.putfield 9, 3) := by decide +kernel
theorem dX9_addNet_10 : decode cX9_addNet 10 = .ok (.aload_n 0, 1) := by decide +kernel
theorem dX9_addNet_11 : decode cX9_addNet 11 = .ok (.getfield 9, 3) := by decide +kernel
theorem dX9_addNet_14 : decode cX9_addNet 14 = .ok (.iconst 1, 1) := by decide +kernel
theorem dX9_addNet_15 : decode cX9_addNet 15 = .ok (.isub, 1) := by decide +kernel
theorem dX9_addNet_16 : decode cX9_addNet 16 = .ok (.ireturn, 1) := by decide +kernel
theorem dX9_addDevice_0 : decode cX9_addDevice 0 = .ok (.aload_n 0, 1) := by decide +kernel
theorem dX9_addDevice_1 : decode cX9_addDevice 1 = .ok (.getfield 26, 3) := by decide +kernel
theorem dX9_addDevice_4 : decode cX9_addDevice 4 = .ok (.aload_n 0, 1) := by decide +kernel
theorem dX9_addDevice_5 : decode cX9_addDevice 5 = .ok (.getfield 23, 3) := by decide +kernel
theorem dX9_addDevice_8 : decode cX9_addDevice 8 = .ok (.iload_n 1, 1) := by decide +kernel
theorem dX9_addDevice_9 : decode cX9_addDevice 9 = .ok (.iastore, 1) := by decide +kernel
theorem dX9_addDevice_10 : decode cX9_addDevice 10 = .ok (.aload_n 0, 1) := by decide +kernel
theorem dX9_addDevice_11 : decode cX9_addDevice 11 = .ok (.getfield 29, 3) := by decide +kernel
theorem dX9_addDevice_14 : decode cX9_addDevice 14 = .ok (.aload_n 0, 1) := by decide +kernel
theorem dX9_addDevice_15 : decode cX9_addDevice 15 = .ok (.getfield 23, 3) := by decide +kernel
theorem dX9_addDevice_18 : decode cX9_addDevice 18 = .ok (.dload_n 2, 1) := by decide +kernel
theorem dX9_addDevice_19 : decode cX9_addDevice 19 = .ok (.dastore, 1) := by decide +kernel
theorem dX9_addDevice_20 : decode cX9_addDevice 20 = .ok (.aload_n 0, 1) := by decide +kernel
theorem dX9_addDevice_21 : decode cX9_addDevice 21 = .ok (.dup, 1) := by decide +kernel
theorem dX9_addDevice_22 : decode cX9_addDevice 22 = .ok (.getfield 23, 3) := by decide +kernel
theorem dX9_addDevice_25 : decode cX9_addDevice 25 = .ok (.iconst 1, 1) := by decide +kernel
theorem dX9_addDevice_26 : decode cX9_addDevice 26 = .ok (.iadd, 1) := by decide +kernel
theorem dX9_addDevice_27 : decode cX9_addDevice 27 = .ok (.putfield 23, 3) := by decide +kernel
theorem dX9_addDevice_30 : decode cX9_addDevice 30 = .ok (.aload_n 0, 1) := by decide +kernel
theorem dX9_addDevice_31 : decode cX9_addDevice 31 = .ok (.getfield 23, 3) := by decide +kernel
theorem dX9_addDevice_34 : decode cX9_addDevice 34 = .ok (.iconst 1, 1) := by decide +kernel
theorem dX9_addDevice_35 : decode cX9_addDevice 35 = .ok (.isub, 1) := by decide +kernel
theorem dX9_addDevice_36 : decode cX9_addDevice 36 = .ok (.ireturn, 1) := by decide +kernel
theorem dX9_isNet_0 : decode cX9_isNet 0 = .ok (.iload_n 1, 1) := by decide +kernel
theorem dX9_isNet_1 : decode cX9_isNet 1 = .ok (.ifCond .lt 15, 3) := by decide +kernel
theorem dX9_isNet_4 : decode cX9_isNet 4 = .ok (.iload_n 1, 1) := by decide +kernel
theorem dX9_isNet_5 : decode cX9_isNet 5 = .ok (.aload_n 0, 1) := by decide +kernel
theorem dX9_isNet_6 : decode cX9_isNet 6 = .ok (.getfield 9, 3) := by decide +kernel
theorem dX9_isNet_9 : decode cX9_isNet 9 = .ok (.if_icmp .ge 7, 3) := by decide +kernel
theorem dX9_isNet_12 : decode cX9_isNet 12 = .ok (.iconst 1, 1) := by decide +kernel
theorem dX9_isNet_13 : decode cX9_isNet 13 = .ok (.goto 4, 3) := by decide +kernel
theorem dX9_isNet_16 : decode cX9_isNet 16 = .ok (.iconst 0, 1) := by decide +kernel
theorem dX9_isNet_17 : decode cX9_isNet 17 = .ok (.ireturn, 1) := by decide +kernel
theorem dX9_isDevice_0 : decode cX9_isDevice 0 = .ok (.iload_n 1, 1) := by decide +kernel
theorem dX9_isDevice_1 : decode cX9_isDevice 1 = .ok (.ifCond .lt 15, 3) := by decide +kernel
theorem dX9_isDevice_4 : decode cX9_isDevice 4 = .ok (.iload_n 1, 1) := by decide +kernel
theorem dX9_isDevice_5 : decode cX9_isDevice 5 = .ok (.aload_n 0, 1) := by decide +kernel
theorem dX9_isDevice_6 : decode cX9_isDevice 6 = .ok (.getfield 23, 3) := by decide +kernel
theorem dX9_isDevice_9 : decode cX9_isDevice 9 = .ok (.if_icmp .ge 7, 3) := by decide +kernel
theorem dX9_isDevice_12 : decode cX9_isDevice 12 = .ok (.iconst 1, 1) := by decide +kernel
theorem dX9_isDevice_13 : decode cX9_isDevice 13 = .ok (.goto 4, 3) := by decide +kernel
theorem dX9_isDevice_16 : decode cX9_isDevice 16 = .ok (.iconst 0, 1) := by decide +kernel
theorem dX9_isDevice_17 : decode cX9_isDevice 17 = .ok (.ireturn, 1) := by decide +kernel
theorem dX9_netOf_0 : decode cX9_netOf 0 = .ok (.aload_n 0, 1) := by decide +kernel
theorem dX9_netOf_1 : decode cX9_netOf 1 = .ok (.getfield 36, 3) := by decide +kernel
theorem dX9_netOf_4 : decode cX9_netOf 4 = .ok (.iload_n 1, 1) := by decide +kernel
theorem dX9_netOf_5 : decode cX9_netOf 5 = .ok (.iconst 4, 1) := by decide +kernel
theorem dX9_netOf_6 : decode cX9_netOf 6 = .ok (.imul, 1) := by decide +kernel
theorem dX9_netOf_7 : decode cX9_netOf 7 = .ok (.iload_n 2, 1) := by decide +kernel
theorem dX9_netOf_8 : decode cX9_netOf 8 = .ok (.iadd, 1) := by decide +kernel
theorem dX9_netOf_9 : decode cX9_netOf 9 = .ok (.iaload, 1) := by decide +kernel
theorem dX9_netOf_10 : decode cX9_netOf 10 = .ok (.ireturn, 1) := by decide +kernel
theorem dX9_connect_0 : decode cX9_connect 0 = .ok (.aload_n 0, 1) := by decide +kernel
theorem dX9_connect_1 : decode cX9_connect 1 = .ok (.iload_n 1, 1) := by decide +kernel
theorem dX9_connect_2 : decode cX9_connect 2 = .ok (.iload_n 2, 1) := by decide +kernel
theorem dX9_connect_3 : decode cX9_connect 3 = .ok (.invokevirtual 45, 3) := by decide +kernel
theorem dX9_connect_6 : decode cX9_connect 6 = .ok (.iload_n 3, 1) := by decide +kernel
theorem dX9_connect_7 : decode cX9_connect 7 = .ok (.if_icmp .eq 7, 3) := by decide +kernel
theorem dX9_connect_10 : decode cX9_connect 10 = .ok (.iconst 1, 1) := by decide +kernel
theorem dX9_connect_11 : decode cX9_connect 11 = .ok (.goto 4, 3) := by decide +kernel
theorem dX9_connect_14 : decode cX9_connect 14 = .ok (.iconst 0, 1) := by decide +kernel
theorem dX9_connect_15 : decode cX9_connect 15 = .ok (.istore 4, 2) := by decide +kernel
theorem dX9_connect_17 : decode cX9_connect 17 = .ok (.aload_n 0, 1) := by decide +kernel
theorem dX9_connect_18 : decode cX9_connect 18 = .ok (.getfield 36, 3) := by decide +kernel
theorem dX9_connect_21 : decode cX9_connect 21 = .ok (.iload_n 1, 1) := by decide +kernel
theorem dX9_connect_22 : decode cX9_connect 22 = .ok (.iconst 4, 1) := by decide +kernel
theorem dX9_connect_23 : decode cX9_connect 23 = .ok (.imul, 1) := by decide +kernel
theorem dX9_connect_24 : decode cX9_connect 24 = .ok (.iload_n 2, 1) := by decide +kernel
theorem dX9_connect_25 : decode cX9_connect 25 = .ok (.iadd, 1) := by decide +kernel
theorem dX9_connect_26 : decode cX9_connect 26 = .ok (.iload_n 3, 1) := by decide +kernel
theorem dX9_connect_27 : decode cX9_connect 27 = .ok (.iastore, 1) := by decide +kernel
theorem dX9_connect_28 : decode cX9_connect 28 = .ok (.iload 4, 2) := by decide +kernel
theorem dX9_connect_30 : decode cX9_connect 30 = .ok (.ireturn, 1) := by decide +kernel
theorem dX9_isPort_0 : decode cX9_isPort 0 = .ok (.aload_n 0, 1) := by decide +kernel
theorem dX9_isPort_1 : decode cX9_isPort 1 = .ok (.getfield 15, 3) := by decide +kernel
theorem dX9_isPort_4 : decode cX9_isPort 4 = .ok (.iload_n 1, 1) := by decide +kernel
theorem dX9_isPort_5 : decode cX9_isPort 5 = .ok (.iaload, 1) := by decide +kernel
theorem dX9_isPort_6 : decode cX9_isPort 6 = .ok (.iconst (-1), 1) := by decide +kernel
theorem dX9_isPort_7 : decode cX9_isPort 7 = .ok (.if_icmp .eq 7, 3) := by decide +kernel
theorem dX9_isPort_10 : decode cX9_isPort 10 = .ok (.iconst 1, 1) := by decide +kernel
theorem dX9_isPort_11 : decode cX9_isPort 11 = .ok (.goto 4, 3) := by decide +kernel
theorem dX9_isPort_14 : decode cX9_isPort 14 = .ok (.iconst 0, 1) := by decide +kernel
theorem dX9_isPort_15 : decode cX9_isPort 15 = .ok (.ireturn, 1) := by decide +kernel
theorem dX9_makePort_0 : decode cX9_makePort 0 = .ok (.aload_n 0, 1) := by decide +kernel
theorem dX9_makePort_1 : decode cX9_makePort 1 = .ok (.iload_n 1, 1) := by decide +kernel
theorem dX9_makePort_2 : decode cX9_makePort 2 = .ok (.invokevirtual 49, 3) := by decide +kernel
theorem dX9_makePort_5 : decode cX9_makePort 5 = .ok (.ifCond .ne 7, 3) := by decide +kernel
theorem dX9_makePort_8 : decode cX9_makePort 8 = .ok (.iconst 1, 1) := by decide +kernel
theorem dX9_makePort_9 : decode cX9_makePort 9 = .ok (.goto 4, 3) := by decide +kernel
theorem dX9_makePort_12 : decode cX9_makePort 12 = .ok (.iconst 0, 1) := by decide +kernel
theorem dX9_makePort_13 : decode cX9_makePort 13 = .ok (.istore_n 3, 1) := by decide +kernel
theorem dX9_makePort_14 : decode cX9_makePort 14 = .ok (.aload_n 0, 1) := by decide +kernel
theorem dX9_makePort_15 : decode cX9_makePort 15 = .ok (.getfield 15, 3) := by decide +kernel
theorem dX9_makePort_18 : decode cX9_makePort 18 = .ok (.iload_n 1, 1) := by decide +kernel
theorem dX9_makePort_19 : decode cX9_makePort 19 = .ok (.iload_n 2, 1) := by decide +kernel
theorem dX9_makePort_20 : decode cX9_makePort 20 = .ok (.iastore, 1) := by decide +kernel
theorem dX9_makePort_21 : decode cX9_makePort 21 = .ok (.iload_n 3, 1) := by decide +kernel
theorem dX9_makePort_22 : decode cX9_makePort 22 = .ok (.ireturn, 1) := by decide +kernel
theorem dX9_portNamed_0 : decode cX9_portNamed 0 = .ok (.iconst 0, 1) := by decide +kernel
theorem dX9_portNamed_1 : decode cX9_portNamed 1 = .ok (.istore_n 2, 1) := by decide +kernel
theorem dX9_portNamed_2 : decode cX9_portNamed 2 = .ok (.iload_n 2, 1) := by decide +kernel
theorem dX9_portNamed_3 : decode cX9_portNamed 3 = .ok (.aload_n 0, 1) := by decide +kernel
theorem dX9_portNamed_4 : decode cX9_portNamed 4 = .ok (.getfield 9, 3) := by decide +kernel
theorem dX9_portNamed_7 : decode cX9_portNamed 7 = .ok (.if_icmp .ge 29, 3) := by decide +kernel
theorem dX9_portNamed_10 : decode cX9_portNamed 10 = .ok (.aload_n 0, 1) := by decide +kernel
theorem dX9_portNamed_11 : decode cX9_portNamed 11 = .ok (.iload_n 2, 1) := by decide +kernel
theorem dX9_portNamed_12 : decode cX9_portNamed 12 = .ok (.invokevirtual 49, 3) := by decide +kernel
theorem dX9_portNamed_15 : decode cX9_portNamed 15 = .ok (.ifCond .eq 15, 3) := by decide +kernel
theorem dX9_portNamed_18 : decode cX9_portNamed 18 = .ok (.aload_n 0, 1) := by decide +kernel
theorem dX9_portNamed_19 : decode cX9_portNamed 19 = .ok (.getfield 15, 3) := by decide +kernel
theorem dX9_portNamed_22 : decode cX9_portNamed 22 = .ok (.iload_n 2, 1) := by decide +kernel
theorem dX9_portNamed_23 : decode cX9_portNamed 23 = .ok (.iaload, 1) := by decide +kernel
theorem dX9_portNamed_24 : decode cX9_portNamed 24 = .ok (.iload_n 1, 1) := by decide +kernel
theorem dX9_portNamed_25 : decode cX9_portNamed 25 = .ok (.if_icmp .ne 5, 3) := by decide +kernel
theorem dX9_portNamed_28 : decode cX9_portNamed 28 = .ok (.iload_n 2, 1) := by decide +kernel
theorem dX9_portNamed_29 : decode cX9_portNamed 29 = .ok (.ireturn, 1) := by decide +kernel
theorem dX9_portNamed_30 : decode cX9_portNamed 30 = .ok (.iinc 2 1, 3) := by decide +kernel
theorem dX9_portNamed_33 : decode cX9_portNamed 33 = .ok (.goto (-31), 3) := by decide +kernel
theorem dX9_portNamed_36 : decode cX9_portNamed 36 = .ok (.iconst (-1), 1) := by decide +kernel
theorem dX9_portNamed_37 : decode cX9_portNamed 37 = .ok (.ireturn, 1) := by decide +kernel
theorem dX9_presentCount_0 : decode cX9_presentCount 0 = .ok (.iconst 0, 1) := by decide +kernel
theorem dX9_presentCount_1 : decode cX9_presentCount 1 = .ok (.istore_n 1, 1) := by decide +kernel
theorem dX9_presentCount_2 : decode cX9_presentCount 2 = .ok (.iconst 0, 1) := by decide +kernel
theorem dX9_presentCount_3 : decode cX9_presentCount 3 = .ok (.istore_n 2, 1) := by decide +kernel
theorem dX9_presentCount_4 : decode cX9_presentCount 4 = .ok (.iload_n 2, 1) := by decide +kernel
theorem dX9_presentCount_5 : decode cX9_presentCount 5 = .ok (.aload_n 0, 1) := by decide +kernel
theorem dX9_presentCount_6 : decode cX9_presentCount 6 = .ok (.getfield 23, 3) := by decide +kernel
theorem dX9_presentCount_9 : decode cX9_presentCount 9 = .ok (.if_icmp .ge 21, 3) := by decide +kernel
theorem dX9_presentCount_12 : decode cX9_presentCount 12 = .ok (.aload_n 0, 1) := by decide +kernel
theorem dX9_presentCount_13 : decode cX9_presentCount 13 = .ok (.getfield 33, 3) := by decide +kernel
theorem dX9_presentCount_16 : decode cX9_presentCount 16 = .ok (.iload_n 2, 1) := by decide +kernel
theorem dX9_presentCount_17 : decode cX9_presentCount 17 = .ok (.baload, 1) := by decide +kernel
theorem dX9_presentCount_18 : decode cX9_presentCount 18 = .ok (.ifCond .ne 6, 3) := by decide +kernel
theorem dX9_presentCount_21 : decode cX9_presentCount 21 = .ok (.iinc 1 1, 3) := by decide +kernel
theorem dX9_presentCount_24 : decode cX9_presentCount 24 = .ok (.iinc 2 1, 3) := by decide +kernel
theorem dX9_presentCount_27 : decode cX9_presentCount 27 = .ok (.goto (-23), 3) := by decide +kernel
theorem dX9_presentCount_30 : decode cX9_presentCount 30 = .ok (.iload_n 1, 1) := by decide +kernel
theorem dX9_presentCount_31 : decode cX9_presentCount 31 = .ok (.ireturn, 1) := by decide +kernel
theorem dX9_presentOfKind_0 : decode cX9_presentOfKind 0 = .ok (.iconst 0, 1) := by decide +kernel
theorem dX9_presentOfKind_1 : decode cX9_presentOfKind 1 = .ok (.istore_n 2, 1) := by decide +kernel
theorem dX9_presentOfKind_2 : decode cX9_presentOfKind 2 = .ok (.iconst 0, 1) := by decide +kernel
theorem dX9_presentOfKind_3 : decode cX9_presentOfKind 3 = .ok (.istore_n 3, 1) := by decide +kernel
theorem dX9_presentOfKind_4 : decode cX9_presentOfKind 4 = .ok (.iload_n 3, 1) := by decide +kernel
theorem dX9_presentOfKind_5 : decode cX9_presentOfKind 5 = .ok (.aload_n 0, 1) := by decide +kernel
theorem dX9_presentOfKind_6 : decode cX9_presentOfKind 6 = .ok (.getfield 23, 3) := by decide +kernel
theorem dX9_presentOfKind_9 : decode cX9_presentOfKind 9 = .ok (.if_icmp .ge 31, 3) := by decide +kernel
theorem dX9_presentOfKind_12 : decode cX9_presentOfKind 12 = .ok (.aload_n 0, 1) := by decide +kernel
theorem dX9_presentOfKind_13 : decode cX9_presentOfKind 13 = .ok (.getfield 33, 3) := by decide +kernel
theorem dX9_presentOfKind_16 : decode cX9_presentOfKind 16 = .ok (.iload_n 3, 1) := by decide +kernel
theorem dX9_presentOfKind_17 : decode cX9_presentOfKind 17 = .ok (.baload, 1) := by decide +kernel
theorem dX9_presentOfKind_18 : decode cX9_presentOfKind 18 = .ok (.ifCond .ne 16, 3) := by decide +kernel
theorem dX9_presentOfKind_21 : decode cX9_presentOfKind 21 = .ok (.aload_n 0, 1) := by decide +kernel
theorem dX9_presentOfKind_22 : decode cX9_presentOfKind 22 = .ok (.getfield 26, 3) := by decide +kernel
theorem dX9_presentOfKind_25 : decode cX9_presentOfKind 25 = .ok (.iload_n 3, 1) := by decide +kernel
theorem dX9_presentOfKind_26 : decode cX9_presentOfKind 26 = .ok (.iaload, 1) := by decide +kernel
theorem dX9_presentOfKind_27 : decode cX9_presentOfKind 27 = .ok (.iload_n 1, 1) := by decide +kernel
theorem dX9_presentOfKind_28 : decode cX9_presentOfKind 28 = .ok (.if_icmp .ne 6, 3) := by decide +kernel
theorem dX9_presentOfKind_31 : decode cX9_presentOfKind 31 = .ok (.iinc 2 1, 3) := by decide +kernel
theorem dX9_presentOfKind_34 : decode cX9_presentOfKind 34 = .ok (.iinc 3 1, 3) := by decide +kernel
theorem dX9_presentOfKind_37 : decode cX9_presentOfKind 37 = .ok (.goto (-33), 3) := by decide +kernel
theorem dX9_presentOfKind_40 : decode cX9_presentOfKind 40 = .ok (.iload_n 2, 1) := by decide +kernel
theorem dX9_presentOfKind_41 : decode cX9_presentOfKind 41 = .ok (.ireturn, 1) := by decide +kernel
theorem dX9_markUsedNets_0 : decode cX9_markUsedNets 0 = .ok (.iconst 0, 1) := by decide +kernel
theorem dX9_markUsedNets_1 : decode cX9_markUsedNets 1 = .ok (.istore_n 1, 1) := by decide +kernel
theorem dX9_markUsedNets_2 : decode cX9_markUsedNets 2 = .ok (.iload_n 1, 1) := by decide +kernel
theorem dX9_markUsedNets_3 : decode cX9_markUsedNets 3 = .ok (.aload_n 0, 1) := by decide +kernel
theorem dX9_markUsedNets_4 : decode cX9_markUsedNets 4 = .ok (.getfield 9, 3) := by decide +kernel
theorem dX9_markUsedNets_7 : decode cX9_markUsedNets 7 = .ok (.if_icmp .ge 20, 3) := by decide +kernel
theorem dX9_markUsedNets_10 : decode cX9_markUsedNets 10 = .ok (.aload_n 0, 1) := by decide +kernel
theorem dX9_markUsedNets_11 : decode cX9_markUsedNets 11 = .ok (.getfield 19, 3) := by decide +kernel
theorem dX9_markUsedNets_14 : decode cX9_markUsedNets 14 = .ok (.iload_n 1, 1) := by decide +kernel
theorem dX9_markUsedNets_15 : decode cX9_markUsedNets 15 = .ok (.aload_n 0, 1) := by decide +kernel
theorem dX9_markUsedNets_16 : decode cX9_markUsedNets 16 = .ok (.iload_n 1, 1) := by decide +kernel
theorem dX9_markUsedNets_17 : decode cX9_markUsedNets 17 = .ok (.invokevirtual 49, 3) := by decide +kernel
theorem dX9_markUsedNets_20 : decode cX9_markUsedNets 20 = .ok (.bastore, 1) := by decide +kernel
theorem dX9_markUsedNets_21 : decode cX9_markUsedNets 21 = .ok (.iinc 1 1, 3) := by decide +kernel
theorem dX9_markUsedNets_24 : decode cX9_markUsedNets 24 = .ok (.goto (-22), 3) := by decide +kernel
theorem dX9_markUsedNets_27 : decode cX9_markUsedNets 27 = .ok (.iconst 0, 1) := by decide +kernel
theorem dX9_markUsedNets_28 : decode cX9_markUsedNets 28 = .ok (.istore_n 1, 1) := by decide +kernel
theorem dX9_markUsedNets_29 : decode cX9_markUsedNets 29 = .ok (.iload_n 1, 1) := by decide +kernel
theorem dX9_markUsedNets_30 : decode cX9_markUsedNets 30 = .ok (.aload_n 0, 1) := by decide +kernel
theorem dX9_markUsedNets_31 : decode cX9_markUsedNets 31 = .ok (.getfield 23, 3) := by decide +kernel
theorem dX9_markUsedNets_34 : decode cX9_markUsedNets 34 = .ok (.if_icmp .ge 50, 3) := by decide +kernel
theorem dX9_markUsedNets_37 : decode cX9_markUsedNets 37 = .ok (.iconst 0, 1) := by decide +kernel
theorem dX9_markUsedNets_38 : decode cX9_markUsedNets 38 = .ok (.istore_n 2, 1) := by decide +kernel
theorem dX9_markUsedNets_39 : decode cX9_markUsedNets 39 = .ok (.iload_n 2, 1) := by decide +kernel
theorem dX9_markUsedNets_40 : decode cX9_markUsedNets 40 = .ok (.iconst 4, 1) := by decide +kernel
theorem dX9_markUsedNets_41 : decode cX9_markUsedNets 41 = .ok (.if_icmp .ge 37, 3) := by decide +kernel
theorem dX9_markUsedNets_44 : decode cX9_markUsedNets 44 = .ok (.aload_n 0, 1) := by decide +kernel
theorem dX9_markUsedNets_45 : decode cX9_markUsedNets 45 = .ok (.getfield 33, 3) := by decide +kernel
theorem dX9_markUsedNets_48 : decode cX9_markUsedNets 48 = .ok (.iload_n 1, 1) := by decide +kernel
theorem dX9_markUsedNets_49 : decode cX9_markUsedNets 49 = .ok (.baload, 1) := by decide +kernel
theorem dX9_markUsedNets_50 : decode cX9_markUsedNets 50 = .ok (.ifCond .ne 28, 3) := by decide +kernel
theorem dX9_markUsedNets_53 : decode cX9_markUsedNets 53 = .ok (.aload_n 0, 1) := by decide +kernel
theorem dX9_markUsedNets_54 : decode cX9_markUsedNets 54 = .ok (.iload_n 1, 1) := by decide +kernel
theorem dX9_markUsedNets_55 : decode cX9_markUsedNets 55 = .ok (.iload_n 2, 1) := by decide +kernel
theorem dX9_markUsedNets_56 : decode cX9_markUsedNets 56 = .ok (.invokevirtual 45, 3) := by decide +kernel
theorem dX9_markUsedNets_59 : decode cX9_markUsedNets 59 = .ok (.istore_n 3, 1) := by decide +kernel
theorem dX9_markUsedNets_60 : decode cX9_markUsedNets 60 = .ok (.iload_n 3, 1) := by decide +kernel
theorem dX9_markUsedNets_61 : decode cX9_markUsedNets 61 = .ok (.iconst (-1), 1) := by decide +kernel
theorem dX9_markUsedNets_62 : decode cX9_markUsedNets 62 = .ok (.if_icmp .eq 10, 3) := by decide +kernel
theorem dX9_markUsedNets_65 : decode cX9_markUsedNets 65 = .ok (.aload_n 0, 1) := by decide +kernel
theorem dX9_markUsedNets_66 : decode cX9_markUsedNets 66 = .ok (.getfield 19, 3) := by decide +kernel
theorem dX9_markUsedNets_69 : decode cX9_markUsedNets 69 = .ok (.iload_n 3, 1) := by decide +kernel
theorem dX9_markUsedNets_70 : decode cX9_markUsedNets 70 = .ok (.iconst 1, 1) := by decide +kernel
theorem dX9_markUsedNets_71 : decode cX9_markUsedNets 71 = .ok (.bastore, 1) := by decide +kernel
theorem dX9_markUsedNets_72 : decode cX9_markUsedNets 72 = .ok (.iinc 2 1, 3) := by decide +kernel
theorem dX9_markUsedNets_75 : decode cX9_markUsedNets 75 = .ok (.goto (-36), 3) := by decide +kernel
theorem dX9_markUsedNets_78 : decode cX9_markUsedNets 78 = .ok (.iinc 1 1, 3) := by decide +kernel
theorem dX9_markUsedNets_81 : decode cX9_markUsedNets 81 = .ok (.goto (-52), 3) := by decide +kernel
theorem dX9_markUsedNets_84 : decode cX9_markUsedNets 84 = .ok (.return_, 1) := by decide +kernel
theorem dX9_usedCount_0 : decode cX9_usedCount 0 = .ok (.iconst 0, 1) := by decide +kernel
theorem dX9_usedCount_1 : decode cX9_usedCount 1 = .ok (.istore_n 1, 1) := by decide +kernel
theorem dX9_usedCount_2 : decode cX9_usedCount 2 = .ok (.iconst 0, 1) := by decide +kernel
theorem dX9_usedCount_3 : decode cX9_usedCount 3 = .ok (.istore_n 2, 1) := by decide +kernel
theorem dX9_usedCount_4 : decode cX9_usedCount 4 = .ok (.iload_n 2, 1) := by decide +kernel
theorem dX9_usedCount_5 : decode cX9_usedCount 5 = .ok (.aload_n 0, 1) := by decide +kernel
theorem dX9_usedCount_6 : decode cX9_usedCount 6 = .ok (.getfield 9, 3) := by decide +kernel
theorem dX9_usedCount_9 : decode cX9_usedCount 9 = .ok (.if_icmp .ge 21, 3) := by decide +kernel
theorem dX9_usedCount_12 : decode cX9_usedCount 12 = .ok (.aload_n 0, 1) := by decide +kernel
theorem dX9_usedCount_13 : decode cX9_usedCount 13 = .ok (.getfield 19, 3) := by decide +kernel
theorem dX9_usedCount_16 : decode cX9_usedCount 16 = .ok (.iload_n 2, 1) := by decide +kernel
theorem dX9_usedCount_17 : decode cX9_usedCount 17 = .ok (.baload, 1) := by decide +kernel
theorem dX9_usedCount_18 : decode cX9_usedCount 18 = .ok (.ifCond .eq 6, 3) := by decide +kernel
theorem dX9_usedCount_21 : decode cX9_usedCount 21 = .ok (.iinc 1 1, 3) := by decide +kernel
theorem dX9_usedCount_24 : decode cX9_usedCount 24 = .ok (.iinc 2 1, 3) := by decide +kernel
theorem dX9_usedCount_27 : decode cX9_usedCount 27 = .ok (.goto (-23), 3) := by decide +kernel
theorem dX9_usedCount_30 : decode cX9_usedCount 30 = .ok (.iload_n 1, 1) := by decide +kernel
theorem dX9_usedCount_31 : decode cX9_usedCount 31 = .ok (.ireturn, 1) := by decide +kernel
theorem dX9_nextPortName_0 : decode cX9_nextPortName 0 = .ok (.iconst (-1), 1) := by decide +kernel
theorem dX9_nextPortName_1 : decode cX9_nextPortName 1 = .ok (.istore_n 2, 1) := by decide +kernel
theorem dX9_nextPortName_2 : decode cX9_nextPortName 2 = .ok (.iconst 0, 1) := by decide +kernel
theorem dX9_nextPortName_3 : decode cX9_nextPortName 3 = .ok (.istore_n 3, 1) := by decide +kernel
theorem dX9_nextPortName_4 : decode cX9_nextPortName 4 = .ok (.iload_n 3, 1) := by decide +kernel
theorem dX9_nextPortName_5 : decode cX9_nextPortName 5 = .ok (.aload_n 0, 1) := by decide +kernel
theorem dX9_nextPortName_6 : decode cX9_nextPortName 6 = .ok (.getfield 9, 3) := by decide +kernel
theorem dX9_nextPortName_9 : decode cX9_nextPortName 9 = .ok (.if_icmp .ge 37, 3) := by decide +kernel
theorem dX9_nextPortName_12 : decode cX9_nextPortName 12 = .ok (.aload_n 0, 1) := by decide +kernel
theorem dX9_nextPortName_13 : decode cX9_nextPortName 13 = .ok (.getfield 15, 3) := by decide +kernel
theorem dX9_nextPortName_16 : decode cX9_nextPortName 16 = .ok (.iload_n 3, 1) := by decide +kernel
theorem dX9_nextPortName_17 : decode cX9_nextPortName 17 = .ok (.iaload, 1) := by decide +kernel
theorem dX9_nextPortName_18 : decode cX9_nextPortName 18 = .ok (.istore 4, 2) := by decide +kernel
theorem dX9_nextPortName_20 : decode cX9_nextPortName 20 = .ok (.iload 4, 2) := by decide +kernel
theorem dX9_nextPortName_22 : decode cX9_nextPortName 22 = .ok (.iload_n 1, 1) := by decide +kernel
theorem dX9_nextPortName_23 : decode cX9_nextPortName 23 = .ok (.if_icmp .le 17, 3) := by decide +kernel
theorem dX9_nextPortName_26 : decode cX9_nextPortName 26 = .ok (.iload_n 2, 1) := by decide +kernel
theorem dX9_nextPortName_27 : decode cX9_nextPortName 27 = .ok (.iconst (-1), 1) := by decide +kernel
theorem dX9_nextPortName_28 : decode cX9_nextPortName 28 = .ok (.if_icmp .eq 9, 3) := by decide +kernel
theorem dX9_nextPortName_31 : decode cX9_nextPortName 31 = .ok (.iload 4, 2) := by decide +kernel
theorem dX9_nextPortName_33 : decode cX9_nextPortName 33 = .ok (.iload_n 2, 1) := by decide +kernel
theorem dX9_nextPortName_34 : decode cX9_nextPortName 34 = .ok (.if_icmp .ge 6, 3) := by decide +kernel
theorem dX9_nextPortName_37 : decode cX9_nextPortName 37 = .ok (.iload 4, 2) := by decide +kernel
theorem dX9_nextPortName_39 : decode cX9_nextPortName 39 = .ok (.istore_n 2, 1) := by decide +kernel
theorem dX9_nextPortName_40 : decode cX9_nextPortName 40 = .ok (.iinc 3 1, 3) := by decide +kernel
theorem dX9_nextPortName_43 : decode cX9_nextPortName 43 = .ok (.goto (-39), 3) := by decide +kernel
theorem dX9_nextPortName_46 : decode cX9_nextPortName 46 = .ok (.iload_n 2, 1) := by decide +kernel
theorem dX9_nextPortName_47 : decode cX9_nextPortName 47 = .ok (.ireturn, 1) := by decide +kernel
theorem dX10_init_0 : decode cX10_init 0 = .ok (.aload_n 0, 1) := by decide +kernel
theorem dX10_init_1 : decode cX10_init 1 = .ok (.invokespecial 1, 3) := by decide +kernel
theorem dX10_init_4 : decode cX10_init 4 = .ok (.aload_n 0, 1) := by decide +kernel
theorem dX10_init_5 : decode cX10_init 5 = .ok (.new 7, 3) := by decide +kernel
theorem dX10_init_8 : decode cX10_init 8 = .ok (.dup, 1) := by decide +kernel
theorem dX10_init_9 : decode cX10_init 9 = .ok (.invokespecial 9, 3) := by decide +kernel
theorem dX10_init_12 : decode cX10_init 12 = .ok (.putfield 10, 3) := by decide +kernel
theorem dX10_init_15 : decode cX10_init 15 = .ok (.aload_n 0, 1) := by decide +kernel
theorem dX10_init_16 : decode cX10_init 16 = .ok (.new 16, 3) := by decide +kernel
theorem dX10_init_19 : decode cX10_init 19 = .ok (.dup, 1) := by decide +kernel
theorem dX10_init_20 : decode cX10_init 20 = .ok (.invokespecial 18, 3) := by decide +kernel
theorem dX10_init_23 : decode cX10_init 23 = .ok (.putfield 19, 3) := by decide +kernel
theorem dX10_init_26 : decode cX10_init 26 = .ok (.aload_n 0, 1) := by decide +kernel
theorem dX10_init_27 : decode cX10_init 27 = .ok (.new 23, 3) := by decide +kernel
theorem dX10_init_30 : decode cX10_init 30 = .ok (.dup, 1) := by decide +kernel
theorem dX10_init_31 : decode cX10_init 31 = .ok (.invokespecial 25, 3) := by decide +kernel
theorem dX10_init_34 : decode cX10_init 34 = .ok (.putfield 26, 3) := by decide +kernel
theorem dX10_init_37 : decode cX10_init 37 = .ok (.aload_n 0, 1) := by decide +kernel
theorem dX10_init_38 : decode cX10_init 38 = .ok (.new 30, 3) := by decide +kernel
theorem dX10_init_41 : decode cX10_init 41 = .ok (.dup, 1) := by decide +kernel
theorem dX10_init_42 : decode cX10_init 42 = .ok (.invokespecial 32, 3) := by decide +kernel
theorem dX10_init_45 : decode cX10_init 45 = .ok (.putfield 33, 3) := by decide +kernel
theorem dX10_init_48 : decode cX10_init 48 = .ok (.aload_n 0, 1) := by decide +kernel
theorem dX10_init_49 : decode cX10_init 49 = .ok (.new 37, 3) := by decide +kernel
theorem dX10_init_52 : decode cX10_init 52 = .ok (.dup, 1) := by decide +kernel
theorem dX10_init_53 : decode cX10_init 53 = .ok (.invokespecial 39, 3) := by decide +kernel
theorem dX10_init_56 : decode cX10_init 56 = .ok (.putfield 40, 3) := by decide +kernel
theorem dX10_init_59 : decode cX10_init 59 = .ok (.aload_n 0, 1) := by decide +kernel
theorem dX10_init_60 : decode cX10_init 60 = .ok (.new 44, 3) := by decide +kernel
theorem dX10_init_63 : decode cX10_init 63 = .ok (.dup, 1) := by decide +kernel
theorem dX10_init_64 : decode cX10_init 64 = .ok (.invokespecial 46, 3) := by decide +kernel
theorem dX10_init_67 : decode cX10_init 67 = .ok (.putfield 47, 3) := by decide +kernel
theorem dX10_init_70 : decode cX10_init 70 = .ok (.aload_n 0, 1) := by decide +kernel
theorem dX10_init_71 : decode cX10_init 71 = .ok (.iconst 0, 1) := by decide +kernel
theorem dX10_init_72 : decode cX10_init 72 = .ok (.putfield 51, 3) := by decide +kernel
theorem dX10_init_75 : decode cX10_init 75 = .ok (.aload_n 0, 1) := by decide +kernel
theorem dX10_init_76 : decode cX10_init 76 = .ok (.iconst 0, 1) := by decide +kernel
theorem dX10_init_77 : decode cX10_init 77 = .ok (.putfield 55, 3) := by decide +kernel
theorem dX10_init_80 : decode cX10_init 80 = .ok (.return_, 1) := by decide +kernel
theorem dX10_net_0 : decode cX10_net 0 = .ok (.aload_n 0, 1) := by decide +kernel
theorem dX10_net_1 : decode cX10_net 1 = .ok (.iload_n 1, 1) := by decide +kernel
theorem dX10_net_2 : decode cX10_net 2 = .ok (.invokevirtual 58, 3) := by decide +kernel
theorem dX10_net_5 : decode cX10_net 5 = .ok (.astore_n 3, 1) := by decide +kernel
theorem dX10_net_6 : decode cX10_net 6 = .ok (.aload_n 3, 1) := by decide +kernel
theorem dX10_net_7 : decode cX10_net 7 = .ok (.getfield 62, 3) := by decide +kernel
theorem dX10_net_10 : decode cX10_net 10 = .ok (.bipush 40, 2) := by decide +kernel
theorem dX10_net_12 : decode cX10_net 12 = .ok (.if_icmp .lt 13, 3) := by decide +kernel
theorem dX10_net_15 : decode cX10_net 15 = .ok (.new 67, 3) := by decide +kernel
theorem dX10_net_18 : decode cX10_net 18 = .ok (.dup, 1) := by decide +kernel
theorem dX10_net_19 : decode cX10_net 19 = .ok (.ldc 69, 2) := by decide +kernel
theorem dX10_net_21 : decode cX10_net 21 = .ok (.invokespecial 71, 3) := by decide +kernel
theorem dX10_net_24 : decode cX10_net 24 = .ok (.athrow, 1) := by decide +kernel
theorem dX10_net_25 : decode cX10_net 25 = .ok (.iload_n 2, 1) := by decide +kernel
theorem dX10_net_26 : decode cX10_net 26 = .ok (.ifCond .ge 13, 3) := by decide +kernel
theorem dX10_net_29 : decode cX10_net 29 = .ok (.new 74, 3) := by decide +kernel
theorem dX10_net_32 : decode cX10_net 32 = .ok (.dup, 1) := by decide +kernel
theorem dX10_net_33 : decode cX10_net 33 = .ok (.ldc 76, 2) := by decide +kernel
theorem dX10_net_35 : decode cX10_net 35 = .ok (.invokespecial 78, 3) := by decide +kernel
theorem dX10_net_38 : decode cX10_net 38 = .ok (.athrow, 1) := by decide +kernel
theorem dX10_net_39 : decode cX10_net 39 = .ok (.aload_n 3, 1) := by decide +kernel
theorem dX10_net_40 : decode cX10_net 40 = .ok (.invokevirtual 79, 3) := by decide +kernel
theorem dX10_net_43 : decode cX10_net 43 = .ok (.ireturn, 1) := by decide +kernel
theorem dX10_device_0 : decode cX10_device 0 = .ok (.aload_n 0, 1) := by decide +kernel
theorem dX10_device_1 : decode cX10_device 1 = .ok (.iload_n 1, 1) := by decide +kernel
theorem dX10_device_2 : decode cX10_device 2 = .ok (.invokevirtual 58, 3) := by decide +kernel
theorem dX10_device_5 : decode cX10_device 5 = .ok (.astore 5, 2) := by decide +kernel
theorem dX10_device_7 : decode cX10_device 7 = .ok (.iload_n 2, 1) := by decide +kernel
theorem dX10_device_8 : decode cX10_device 8 = .ok (.invokestatic 83, 3) := by decide +kernel
theorem dX10_device_11 : decode cX10_device 11 = .ok (.ifCond .ne 13, 3) := by decide +kernel
theorem dX10_device_14 : decode cX10_device 14 = .ok (.new 87, 3) := by decide +kernel
theorem dX10_device_17 : decode cX10_device 17 = .ok (.dup, 1) := by decide +kernel
theorem dX10_device_18 : decode cX10_device 18 = .ok (.ldc 89, 2) := by decide +kernel
theorem dX10_device_20 : decode cX10_device 20 = .ok (.invokespecial 91, 3) := by decide +kernel
theorem dX10_device_23 : decode cX10_device 23 = .ok (.athrow, 1) := by decide +kernel
theorem dX10_device_24 : decode cX10_device 24 = .ok (.aload 5, 2) := by decide +kernel
theorem dX10_device_26 : decode cX10_device 26 = .ok (.getfield 92, 3) := by decide +kernel
theorem dX10_device_29 : decode cX10_device 29 = .ok (.bipush 30, 2) := by decide +kernel
theorem dX10_device_31 : decode cX10_device 31 = .ok (.if_icmp .lt 13, 3) := by decide +kernel
theorem dX10_device_34 : decode cX10_device 34 = .ok (.new 67, 3) := by decide +kernel
theorem dX10_device_37 : decode cX10_device 37 = .ok (.dup, 1) := by decide +kernel
theorem dX10_device_38 : decode cX10_device 38 = .ok (.ldc 95, 2) := by decide +kernel
theorem dX10_device_40 : decode cX10_device 40 = .ok (.invokespecial 71, 3) := by decide +kernel
theorem dX10_device_43 : decode cX10_device 43 = .ok (.athrow, 1) := by decide +kernel
theorem dX10_device_44 : decode cX10_device 44 = .ok (.dload_n 3, 1) := by decide +kernel
theorem dX10_device_45 : decode cX10_device 45 = .ok (.dconst 0, 1) := by decide +kernel
theorem dX10_device_46 : decode cX10_device 46 = .ok (.dcmp .l, 1) := by decide +kernel
theorem dX10_device_47 : decode cX10_device 47 = .ok (.ifCond .le 11, 3) := by decide +kernel
theorem dX10_device_50 : decode cX10_device 50 = .ok (.dload_n 3, 1) := by decide +kernel
theorem dX10_device_51 : decode cX10_device 51 = .ok (.ldc2_w 97, 3) := by decide +kernel
theorem dX10_device_54 : decode cX10_device 54 = .ok (.dcmp .g, 1) := by decide +kernel
theorem dX10_device_55 : decode cX10_device 55 = .ok (.ifCond .le 13, 3) := by decide +kernel
theorem dX10_device_58 : decode cX10_device 58 = .ok (.new 74, 3) := by decide +kernel
theorem dX10_device_61 : decode cX10_device 61 = .ok (.dup, 1) := by decide +kernel
theorem dX10_device_62 : decode cX10_device 62 = .ok (.ldc 99, 2) := by decide +kernel
theorem dX10_device_64 : decode cX10_device 64 = .ok (.invokespecial 78, 3) := by decide +kernel
theorem dX10_device_67 : decode cX10_device 67 = .ok (.athrow, 1) := by decide +kernel
theorem dX10_device_68 : decode cX10_device 68 = .ok (.aload 5, 2) := by decide +kernel
theorem dX10_device_70 : decode cX10_device 70 = .ok (.iload_n 2, 1) := by decide +kernel
theorem dX10_device_71 : decode cX10_device 71 = .ok (.dload_n 3, 1) := by decide +kernel
theorem dX10_device_72 : decode cX10_device 72 = .ok (.invokevirtual 101, 3) := by decide +kernel
theorem dX10_device_75 : decode cX10_device 75 = .ok (.ireturn, 1) := by decide +kernel
theorem dX10_pin_0 : decode cX10_pin 0 = .ok (.aload_n 0, 1) := by decide +kernel
theorem dX10_pin_1 : decode cX10_pin 1 = .ok (.iload_n 1, 1) := by decide +kernel
theorem dX10_pin_2 : decode cX10_pin 2 = .ok (.invokevirtual 58, 3) := by decide +kernel
theorem dX10_pin_5 : decode cX10_pin 5 = .ok (.astore 5, 2) := by decide +kernel
theorem dX10_pin_7 : decode cX10_pin 7 = .ok (.aload 5, 2) := by decide +kernel
theorem dX10_pin_9 : decode cX10_pin 9 = .ok (.iload_n 2, 1) := by decide +kernel
theorem dX10_pin_10 : decode cX10_pin 10 = .ok (.invokevirtual 105, 3) := by decide +kernel
theorem dX10_pin_13 : decode cX10_pin 13 = .ok (.ifCond .eq 13, 3) := by decide +kernel
theorem dX10_pin_16 : decode cX10_pin 16 = .ok (.aload 5, 2) := by decide +kernel
theorem dX10_pin_18 : decode cX10_pin 18 = .ok (.getfield 108, 3) := by decide +kernel
theorem dX10_pin_21 : decode cX10_pin 21 = .ok (.iload_n 2, 1) := by decide +kernel
theorem dX10_pin_22 : decode cX10_pin 22 = .ok (.baload, 1) := by decide +kernel
theorem dX10_pin_23 : decode cX10_pin 23 = .ok (.ifCond .eq 13, 3) := by decide +kernel
theorem dX10_pin_26 : decode cX10_pin 26 = .ok (.new 87, 3) := by decide +kernel
theorem dX10_pin_29 : decode cX10_pin 29 = .ok (.dup, 1) := by decide +kernel
theorem dX10_pin_30 : decode cX10_pin 30 = .ok (.ldc 112, 2) := by decide +kernel
theorem dX10_pin_32 : decode cX10_pin 32 = .ok (.invokespecial 91, 3) := by decide +kernel
theorem dX10_pin_35 : decode cX10_pin 35 = .ok (.athrow, 1) := by decide +kernel
theorem dX10_pin_36 : decode cX10_pin 36 = .ok (.iload_n 3, 1) := by decide +kernel
theorem dX10_pin_37 : decode cX10_pin 37 = .ok (.invokestatic 114, 3) := by decide +kernel
theorem dX10_pin_40 : decode cX10_pin 40 = .ok (.ifCond .ne 13, 3) := by decide +kernel
theorem dX10_pin_43 : decode cX10_pin 43 = .ok (.new 87, 3) := by decide +kernel
theorem dX10_pin_46 : decode cX10_pin 46 = .ok (.dup, 1) := by decide +kernel
theorem dX10_pin_47 : decode cX10_pin 47 = .ok (.ldc 117, 2) := by decide +kernel
theorem dX10_pin_49 : decode cX10_pin 49 = .ok (.invokespecial 91, 3) := by decide +kernel
theorem dX10_pin_52 : decode cX10_pin 52 = .ok (.athrow, 1) := by decide +kernel
theorem dX10_pin_53 : decode cX10_pin 53 = .ok (.iload 4, 2) := by decide +kernel
theorem dX10_pin_55 : decode cX10_pin 55 = .ok (.iconst (-1), 1) := by decide +kernel
theorem dX10_pin_56 : decode cX10_pin 56 = .ok (.if_icmp .eq 23, 3) := by decide +kernel
theorem dX10_pin_59 : decode cX10_pin 59 = .ok (.aload 5, 2) := by decide +kernel
theorem dX10_pin_61 : decode cX10_pin 61 = .ok (.iload 4, 2) := by decide +kernel
theorem dX10_pin_63 : decode cX10_pin 63 = .ok (.invokevirtual 119, 3) := by decide +kernel
theorem dX10_pin_66 : decode cX10_pin 66 = .ok (.ifCond .ne 13, 3) := by decide +kernel
theorem dX10_pin_69 : decode cX10_pin 69 = .ok (.new 87, 3) := by decide +kernel
theorem dX10_pin_72 : decode cX10_pin 72 = .ok (.dup, 1) := by decide +kernel
theorem dX10_pin_73 : decode cX10_pin 73 = .ok (.ldc 122, 2) := by decide +kernel
theorem dX10_pin_75 : decode cX10_pin 75 = .ok (.invokespecial 91, 3) := by decide +kernel
theorem dX10_pin_78 : decode cX10_pin 78 = .ok (.athrow, 1) := by decide +kernel
theorem dX10_pin_79 : decode cX10_pin 79 = .ok (.aload 5, 2) := by decide +kernel
theorem dX10_pin_81 : decode cX10_pin 81 = .ok (.iload_n 2, 1) := by decide +kernel
theorem dX10_pin_82 : decode cX10_pin 82 = .ok (.iload_n 3, 1) := by decide +kernel
theorem dX10_pin_83 : decode cX10_pin 83 = .ok (.iload 4, 2) := by decide +kernel
theorem dX10_pin_85 : decode cX10_pin 85 = .ok (.invokevirtual 124, 3) := by decide +kernel
theorem dX10_pin_88 : decode cX10_pin 88 = .ok (.ireturn, 1) := by decide +kernel
theorem dX10_swap_0 : decode cX10_swap 0 = .ok (.iload_n 1, 1) := by decide +kernel
theorem dX10_swap_1 : decode cX10_swap 1 = .ok (.invokestatic 83, 3) := by decide +kernel
theorem dX10_swap_4 : decode cX10_swap 4 = .ok (.ifCond .ne 13, 3) := by decide +kernel
theorem dX10_swap_7 : decode cX10_swap 7 = .ok (.new 87, 3) := by decide +kernel
theorem dX10_swap_10 : decode cX10_swap 10 = .ok (.dup, 1) := by decide +kernel
theorem dX10_swap_11 : decode cX10_swap 11 = .ok (.ldc 89, 2) := by decide +kernel
theorem dX10_swap_13 : decode cX10_swap 13 = .ok (.invokespecial 91, 3) := by decide +kernel
theorem dX10_swap_16 : decode cX10_swap 16 = .ok (.athrow, 1) := by decide +kernel
theorem dX10_swap_17 : decode cX10_swap 17 = .ok (.iload_n 2, 1) := by decide +kernel
theorem dX10_swap_18 : decode cX10_swap 18 = .ok (.invokestatic 114, 3) := by decide +kernel
theorem dX10_swap_21 : decode cX10_swap 21 = .ok (.ifCond .eq 10, 3) := by decide +kernel
theorem dX10_swap_24 : decode cX10_swap 24 = .ok (.iload_n 3, 1) := by decide +kernel
theorem dX10_swap_25 : decode cX10_swap 25 = .ok (.invokestatic 114, 3) := by decide +kernel
theorem dX10_swap_28 : decode cX10_swap 28 = .ok (.ifCond .ne 13, 3) := by decide +kernel
theorem dX10_swap_31 : decode cX10_swap 31 = .ok (.new 87, 3) := by decide +kernel
theorem dX10_swap_34 : decode cX10_swap 34 = .ok (.dup, 1) := by decide +kernel
theorem dX10_swap_35 : decode cX10_swap 35 = .ok (.ldc 117, 2) := by decide +kernel
theorem dX10_swap_37 : decode cX10_swap 37 = .ok (.invokespecial 91, 3) := by decide +kernel
theorem dX10_swap_40 : decode cX10_swap 40 = .ok (.athrow, 1) := by decide +kernel
theorem dX10_swap_41 : decode cX10_swap 41 = .ok (.aload_n 0, 1) := by decide +kernel
theorem dX10_swap_42 : decode cX10_swap 42 = .ok (.getfield 10, 3) := by decide +kernel
theorem dX10_swap_45 : decode cX10_swap 45 = .ok (.getfield 128, 3) := by decide +kernel
theorem dX10_swap_48 : decode cX10_swap 48 = .ok (.iload_n 1, 1) := by decide +kernel
theorem dX10_swap_49 : decode cX10_swap 49 = .ok (.iload_n 2, 1) := by decide +kernel
theorem dX10_swap_50 : decode cX10_swap 50 = .ok (.iload_n 3, 1) := by decide +kernel
theorem dX10_swap_51 : decode cX10_swap 51 = .ok (.invokevirtual 132, 3) := by decide +kernel
theorem dX10_swap_54 : decode cX10_swap 54 = .ok (.ireturn, 1) := by decide +kernel
theorem dX10_share_0 : decode cX10_share 0 = .ok (.iload_n 1, 1) := by decide +kernel
theorem dX10_share_1 : decode cX10_share 1 = .ok (.invokestatic 83, 3) := by decide +kernel
theorem dX10_share_4 : decode cX10_share 4 = .ok (.ifCond .ne 13, 3) := by decide +kernel
theorem dX10_share_7 : decode cX10_share 7 = .ok (.new 87, 3) := by decide +kernel
theorem dX10_share_10 : decode cX10_share 10 = .ok (.dup, 1) := by decide +kernel
theorem dX10_share_11 : decode cX10_share 11 = .ok (.ldc 89, 2) := by decide +kernel
theorem dX10_share_13 : decode cX10_share 13 = .ok (.invokespecial 91, 3) := by decide +kernel
theorem dX10_share_16 : decode cX10_share 16 = .ok (.athrow, 1) := by decide +kernel
theorem dX10_share_17 : decode cX10_share 17 = .ok (.dload_n 2, 1) := by decide +kernel
theorem dX10_share_18 : decode cX10_share 18 = .ok (.dconst 0, 1) := by decide +kernel
theorem dX10_share_19 : decode cX10_share 19 = .ok (.dcmp .l, 1) := by decide +kernel
theorem dX10_share_20 : decode cX10_share 20 = .ok (.ifCond .lt 9, 3) := by decide +kernel
theorem dX10_share_23 : decode cX10_share 23 = .ok (.dload_n 2, 1) := by decide +kernel
theorem dX10_share_24 : decode cX10_share 24 = .ok (.dconst 1, 1) := by decide +kernel
theorem dX10_share_25 : decode cX10_share 25 = .ok (.dcmp .g, 1) := by decide +kernel
theorem dX10_share_26 : decode cX10_share 26 = .ok (.ifCond .le 13, 3) := by decide +kernel
theorem dX10_share_29 : decode cX10_share 29 = .ok (.new 74, 3) := by decide +kernel
theorem dX10_share_32 : decode cX10_share 32 = .ok (.dup, 1) := by decide +kernel
theorem dX10_share_33 : decode cX10_share 33 = .ok (.ldc 137, 2) := by decide +kernel
theorem dX10_share_35 : decode cX10_share 35 = .ok (.invokespecial 78, 3) := by decide +kernel
theorem dX10_share_38 : decode cX10_share 38 = .ok (.athrow, 1) := by decide +kernel
theorem dX10_share_39 : decode cX10_share 39 = .ok (.aload_n 0, 1) := by decide +kernel
theorem dX10_share_40 : decode cX10_share 40 = .ok (.getfield 10, 3) := by decide +kernel
theorem dX10_share_43 : decode cX10_share 43 = .ok (.getfield 128, 3) := by decide +kernel
theorem dX10_share_46 : decode cX10_share 46 = .ok (.iload_n 1, 1) := by decide +kernel
theorem dX10_share_47 : decode cX10_share 47 = .ok (.dload_n 2, 1) := by decide +kernel
theorem dX10_share_48 : decode cX10_share 48 = .ok (.invokevirtual 139, 3) := by decide +kernel
theorem dX10_share_51 : decode cX10_share 51 = .ok (.ireturn, 1) := by decide +kernel
theorem dX10_port_0 : decode cX10_port 0 = .ok (.aload_n 0, 1) := by decide +kernel
theorem dX10_port_1 : decode cX10_port 1 = .ok (.iload_n 1, 1) := by decide +kernel
theorem dX10_port_2 : decode cX10_port 2 = .ok (.invokevirtual 58, 3) := by decide +kernel
theorem dX10_port_5 : decode cX10_port 5 = .ok (.astore 4, 2) := by decide +kernel
theorem dX10_port_7 : decode cX10_port 7 = .ok (.aload 4, 2) := by decide +kernel
theorem dX10_port_9 : decode cX10_port 9 = .ok (.iload_n 2, 1) := by decide +kernel
theorem dX10_port_10 : decode cX10_port 10 = .ok (.invokevirtual 119, 3) := by decide +kernel
theorem dX10_port_13 : decode cX10_port 13 = .ok (.ifCond .ne 13, 3) := by decide +kernel
theorem dX10_port_16 : decode cX10_port 16 = .ok (.new 87, 3) := by decide +kernel
theorem dX10_port_19 : decode cX10_port 19 = .ok (.dup, 1) := by decide +kernel
theorem dX10_port_20 : decode cX10_port 20 = .ok (.ldc 122, 2) := by decide +kernel
theorem dX10_port_22 : decode cX10_port 22 = .ok (.invokespecial 91, 3) := by decide +kernel
theorem dX10_port_25 : decode cX10_port 25 = .ok (.athrow, 1) := by decide +kernel
theorem dX10_port_26 : decode cX10_port 26 = .ok (.iload_n 3, 1) := by decide +kernel
theorem dX10_port_27 : decode cX10_port 27 = .ok (.ifCond .ge 13, 3) := by decide +kernel
theorem dX10_port_30 : decode cX10_port 30 = .ok (.new 74, 3) := by decide +kernel
theorem dX10_port_33 : decode cX10_port 33 = .ok (.dup, 1) := by decide +kernel
theorem dX10_port_34 : decode cX10_port 34 = .ok (.ldc 76, 2) := by decide +kernel
theorem dX10_port_36 : decode cX10_port 36 = .ok (.invokespecial 78, 3) := by decide +kernel
theorem dX10_port_39 : decode cX10_port 39 = .ok (.athrow, 1) := by decide +kernel
theorem dX10_port_40 : decode cX10_port 40 = .ok (.aload 4, 2) := by decide +kernel
theorem dX10_port_42 : decode cX10_port 42 = .ok (.iload_n 3, 1) := by decide +kernel
theorem dX10_port_43 : decode cX10_port 43 = .ok (.invokevirtual 143, 3) := by decide +kernel
theorem dX10_port_46 : decode cX10_port 46 = .ok (.istore 5, 2) := by decide +kernel
theorem dX10_port_48 : decode cX10_port 48 = .ok (.iload 5, 2) := by decide +kernel
theorem dX10_port_50 : decode cX10_port 50 = .ok (.iconst (-1), 1) := by decide +kernel
theorem dX10_port_51 : decode cX10_port 51 = .ok (.if_icmp .eq 19, 3) := by decide +kernel
theorem dX10_port_54 : decode cX10_port 54 = .ok (.iload 5, 2) := by decide +kernel
theorem dX10_port_56 : decode cX10_port 56 = .ok (.iload_n 2, 1) := by decide +kernel
theorem dX10_port_57 : decode cX10_port 57 = .ok (.if_icmp .eq 13, 3) := by decide +kernel
theorem dX10_port_60 : decode cX10_port 60 = .ok (.new 74, 3) := by decide +kernel
theorem dX10_port_63 : decode cX10_port 63 = .ok (.dup, 1) := by decide +kernel
theorem dX10_port_64 : decode cX10_port 64 = .ok (.ldc 147, 2) := by decide +kernel
theorem dX10_port_66 : decode cX10_port 66 = .ok (.invokespecial 78, 3) := by decide +kernel
theorem dX10_port_69 : decode cX10_port 69 = .ok (.athrow, 1) := by decide +kernel
theorem dX10_port_70 : decode cX10_port 70 = .ok (.aload 4, 2) := by decide +kernel
theorem dX10_port_72 : decode cX10_port 72 = .ok (.iload_n 2, 1) := by decide +kernel
theorem dX10_port_73 : decode cX10_port 73 = .ok (.iload_n 3, 1) := by decide +kernel
theorem dX10_port_74 : decode cX10_port 74 = .ok (.invokevirtual 149, 3) := by decide +kernel
theorem dX10_port_77 : decode cX10_port 77 = .ok (.ireturn, 1) := by decide +kernel
theorem dX10_join_0 : decode cX10_join 0 = .ok (.aload_n 0, 1) := by decide +kernel
theorem dX10_join_1 : decode cX10_join 1 = .ok (.iload_n 1, 1) := by decide +kernel
theorem dX10_join_2 : decode cX10_join 2 = .ok (.invokevirtual 58, 3) := by decide +kernel
theorem dX10_join_5 : decode cX10_join 5 = .ok (.astore_n 3, 1) := by decide +kernel
theorem dX10_join_6 : decode cX10_join 6 = .ok (.iload_n 2, 1) := by decide +kernel
theorem dX10_join_7 : decode cX10_join 7 = .ok (.ifCond .eq 18, 3) := by decide +kernel
theorem dX10_join_10 : decode cX10_join 10 = .ok (.iload_n 2, 1) := by decide +kernel
theorem dX10_join_11 : decode cX10_join 11 = .ok (.iconst 1, 1) := by decide +kernel
theorem dX10_join_12 : decode cX10_join 12 = .ok (.if_icmp .eq 13, 3) := by decide +kernel
theorem dX10_join_15 : decode cX10_join 15 = .ok (.new 74, 3) := by decide +kernel
theorem dX10_join_18 : decode cX10_join 18 = .ok (.dup, 1) := by decide +kernel
theorem dX10_join_19 : decode cX10_join 19 = .ok (.ldc 153, 2) := by decide +kernel
theorem dX10_join_21 : decode cX10_join 21 = .ok (.invokespecial 78, 3) := by decide +kernel
theorem dX10_join_24 : decode cX10_join 24 = .ok (.athrow, 1) := by decide +kernel
theorem dX10_join_25 : decode cX10_join 25 = .ok (.aload_n 0, 1) := by decide +kernel
theorem dX10_join_26 : decode cX10_join 26 = .ok (.getfield 19, 3) := by decide +kernel
theorem dX10_join_29 : decode cX10_join 29 = .ok (.aload_n 3, 1) := by decide +kernel
theorem dX10_join_30 : decode cX10_join 30 = .ok (.aload_n 0, 1) := by decide +kernel
theorem dX10_join_31 : decode cX10_join 31 = .ok (.getfield 10, 3) := by decide +kernel
theorem dX10_join_34 : decode cX10_join 34 = .ok (.getfield 128, 3) := by decide +kernel
theorem dX10_join_37 : decode cX10_join 37 = .ok (.iload_n 2, 1) := by decide +kernel
theorem dX10_join_38 : decode cX10_join 38 = .ok (.invokevirtual 155, 3) := by decide +kernel
theorem dX10_join_41 : decode cX10_join 41 = .ok (.aload_n 3, 1) := by decide +kernel
theorem dX10_join_42 : decode cX10_join 42 = .ok (.invokevirtual 159, 3) := by decide +kernel
theorem dX10_join_45 : decode cX10_join 45 = .ok (.ireturn, 1) := by decide +kernel
theorem dX10_run_0 : decode cX10_run 0 = .ok (.lload_n 1, 1) := by decide +kernel
theorem dX10_run_1 : decode cX10_run 1 = .ok (.lconst 0, 1) := by decide +kernel
theorem dX10_run_2 : decode cX10_run 2 = .ok (.lcmp, 1) := by decide +kernel
theorem dX10_run_3 : decode cX10_run 3 = .ok (.ifCond .lt 11, 3) := by decide +kernel
theorem dX10_run_6 : decode cX10_run 6 = .ok (.lload_n 1, 1) := by decide +kernel
theorem dX10_run_7 : decode cX10_run 7 = .ok (.ldc2_w 162, 3) := by decide +kernel
theorem dX10_run_10 : decode cX10_run 10 = .ok (.lcmp, 1) := by decide +kernel
theorem dX10_run_11 : decode cX10_run 11 = .ok (.ifCond .le 13, 3) := by decide +kernel
theorem dX10_run_14 : decode cX10_run 14 = .ok (.new 74, 3) := by decide +kernel
theorem dX10_run_17 : decode cX10_run 17 = .ok (.dup, 1) := by decide +kernel
theorem dX10_run_18 : decode cX10_run 18 = .ok (.ldc 164, 2) := by decide +kernel
theorem dX10_run_20 : decode cX10_run 20 = .ok (.invokespecial 78, 3) := by decide +kernel
theorem dX10_run_23 : decode cX10_run 23 = .ok (.athrow, 1) := by decide +kernel
theorem dX10_run_24 : decode cX10_run 24 = .ok (.aload_n 0, 1) := by decide +kernel
theorem dX10_run_25 : decode cX10_run 25 = .ok (.getfield 40, 3) := by decide +kernel
theorem dX10_run_28 : decode cX10_run 28 = .ok (.invokevirtual 166, 3) := by decide +kernel
theorem dX10_run_31 : decode cX10_run 31 = .ok (.aload_n 0, 1) := by decide +kernel
theorem dX10_run_32 : decode cX10_run 32 = .ok (.getfield 47, 3) := by decide +kernel
theorem dX10_run_35 : decode cX10_run 35 = .ok (.invokevirtual 169, 3) := by decide +kernel
theorem dX10_run_38 : decode cX10_run 38 = .ok (.aload_n 0, 1) := by decide +kernel
theorem dX10_run_39 : decode cX10_run 39 = .ok (.getfield 10, 3) := by decide +kernel
theorem dX10_run_42 : decode cX10_run 42 = .ok (.invokevirtual 170, 3) := by decide +kernel
theorem dX10_run_45 : decode cX10_run 45 = .ok (.aload_n 0, 1) := by decide +kernel
theorem dX10_run_46 : decode cX10_run 46 = .ok (.getfield 26, 3) := by decide +kernel
theorem dX10_run_49 : decode cX10_run 49 = .ok (.aload_n 0, 1) := by decide +kernel
theorem dX10_run_50 : decode cX10_run 50 = .ok (.getfield 10, 3) := by decide +kernel
theorem dX10_run_53 : decode cX10_run 53 = .ok (.invokevirtual 173, 3) := by decide +kernel
theorem dX10_run_56 : decode cX10_run 56 = .ok (.iconst 0, 1) := by decide +kernel
theorem dX10_run_57 : decode cX10_run 57 = .ok (.istore_n 3, 1) := by decide +kernel
theorem dX10_run_58 : decode cX10_run 58 = .ok (.aload_n 0, 1) := by decide +kernel
theorem dX10_run_59 : decode cX10_run 59 = .ok (.getfield 10, 3) := by decide +kernel
theorem dX10_run_62 : decode cX10_run 62 = .ok (.invokevirtual 177, 3) := by decide +kernel
theorem dX10_run_65 : decode cX10_run 65 = .ok (.ifCond .eq 21, 3) := by decide +kernel
theorem dX10_run_68 : decode cX10_run 68 = .ok (.aload_n 0, 1) := by decide +kernel
theorem dX10_run_69 : decode cX10_run 69 = .ok (.getfield 33, 3) := by decide +kernel
theorem dX10_run_72 : decode cX10_run 72 = .ok (.aload_n 0, 1) := by decide +kernel
theorem dX10_run_73 : decode cX10_run 73 = .ok (.getfield 10, 3) := by decide +kernel
theorem dX10_run_76 : decode cX10_run 76 = .ok (.aload_n 0, 1) := by decide +kernel
theorem dX10_run_77 : decode cX10_run 77 = .ok (.getfield 26, 3) := by decide +kernel
theorem dX10_run_80 : decode cX10_run 80 = .ok (.lload_n 1, 1) := by decide +kernel
theorem dX10_run_81 : decode cX10_run 81 = .ok (.l2i, 1) := by decide +kernel
theorem dX10_run_82 : decode cX10_run 82 = .ok (.invokevirtual 181, 3) := by decide +kernel
theorem dX10_run_85 : decode cX10_run 85 = .ok (.istore_n 3, 1) := by decide +kernel
theorem dX10_run_86 : decode cX10_run 86 = .ok (.iload_n 3, 1) := by decide +kernel
theorem dX10_run_87 : decode cX10_run 87 = .ok (.iconst 2, 1) := by decide +kernel
theorem dX10_run_88 : decode cX10_run 88 = .ok (.if_icmp .ne 5, 3) := by decide +kernel
theorem dX10_run_91 : decode cX10_run 91 = .ok (.iload_n 3, 1) := by decide +kernel
theorem dX10_run_92 : decode cX10_run 92 = .ok (.ireturn, 1) := by decide +kernel
theorem dX10_run_93 : decode cX10_run 93 = .ok (.aload_n 0, 1) := by decide +kernel
theorem dX10_run_94 : decode cX10_run 94 = .ok (.aload_n 0, 1) := by decide +kernel
theorem dX10_run_95 : decode cX10_run 95 = .ok (.getfield 26, 3) := by decide +kernel
theorem dX10_run_98 : decode cX10_run 98 = .ok (.getfield 185, 3) := by decide +kernel
theorem dX10_run_101 : decode cX10_run 101 = .ok (.putfield 51, 3) := by decide +kernel
theorem dX10_run_104 : decode cX10_run 104 = .ok (.aload_n 0, 1) := by decide +kernel
theorem dX10_run_105 : decode cX10_run 105 = .ok (.aload_n 0, 1) := by decide +kernel
theorem dX10_run_106 : decode cX10_run 106 = .ok (.getfield 26, 3) := by decide +kernel
theorem dX10_run_109 : decode cX10_run 109 = .ok (.aload_n 0, 1) := by decide +kernel
theorem dX10_run_110 : decode cX10_run 110 = .ok (.getfield 10, 3) := by decide +kernel
theorem dX10_run_113 : decode cX10_run 113 = .ok (.getfield 188, 3) := by decide +kernel
theorem dX10_run_116 : decode cX10_run 116 = .ok (.invokevirtual 192, 3) := by decide +kernel
theorem dX10_run_119 : decode cX10_run 119 = .ok (.putfield 55, 3) := by decide +kernel
theorem dX10_run_122 : decode cX10_run 122 = .ok (.iload_n 3, 1) := by decide +kernel
theorem dX10_run_123 : decode cX10_run 123 = .ok (.iconst 1, 1) := by decide +kernel
theorem dX10_run_124 : decode cX10_run 124 = .ok (.if_icmp .ne 21, 3) := by decide +kernel
theorem dX10_run_127 : decode cX10_run 127 = .ok (.aload_n 0, 1) := by decide +kernel
theorem dX10_run_128 : decode cX10_run 128 = .ok (.getfield 33, 3) := by decide +kernel
theorem dX10_run_131 : decode cX10_run 131 = .ok (.aload_n 0, 1) := by decide +kernel
theorem dX10_run_132 : decode cX10_run 132 = .ok (.getfield 10, 3) := by decide +kernel
theorem dX10_run_135 : decode cX10_run 135 = .ok (.aload_n 0, 1) := by decide +kernel
theorem dX10_run_136 : decode cX10_run 136 = .ok (.getfield 40, 3) := by decide +kernel
theorem dX10_run_139 : decode cX10_run 139 = .ok (.invokevirtual 196, 3) := by decide +kernel
theorem dX10_run_142 : decode cX10_run 142 = .ok (.goto 18, 3) := by decide +kernel
theorem dX10_run_145 : decode cX10_run 145 = .ok (.aload_n 0, 1) := by decide +kernel
theorem dX10_run_146 : decode cX10_run 146 = .ok (.getfield 47, 3) := by decide +kernel
theorem dX10_run_149 : decode cX10_run 149 = .ok (.aload_n 0, 1) := by decide +kernel
theorem dX10_run_150 : decode cX10_run 150 = .ok (.getfield 10, 3) := by decide +kernel
theorem dX10_run_153 : decode cX10_run 153 = .ok (.aload_n 0, 1) := by decide +kernel
theorem dX10_run_154 : decode cX10_run 154 = .ok (.getfield 26, 3) := by decide +kernel
theorem dX10_run_157 : decode cX10_run 157 = .ok (.invokevirtual 200, 3) := by decide +kernel
theorem dX10_run_160 : decode cX10_run 160 = .ok (.iload_n 3, 1) := by decide +kernel
theorem dX10_run_161 : decode cX10_run 161 = .ok (.ireturn, 1) := by decide +kernel
theorem dX10_match_0 : decode cX10_match 0 = .ok (.aload_n 0, 1) := by decide +kernel
theorem dX10_match_1 : decode cX10_match 1 = .ok (.iload_n 1, 1) := by decide +kernel
theorem dX10_match_2 : decode cX10_match 2 = .ok (.invokevirtual 58, 3) := by decide +kernel
theorem dX10_match_5 : decode cX10_match 5 = .ok (.astore_n 3, 1) := by decide +kernel
theorem dX10_match_6 : decode cX10_match 6 = .ok (.aload_n 3, 1) := by decide +kernel
theorem dX10_match_7 : decode cX10_match 7 = .ok (.iload_n 2, 1) := by decide +kernel
theorem dX10_match_8 : decode cX10_match 8 = .ok (.invokevirtual 105, 3) := by decide +kernel
theorem dX10_match_11 : decode cX10_match 11 = .ok (.ifCond .ne 13, 3) := by decide +kernel
theorem dX10_match_14 : decode cX10_match 14 = .ok (.new 87, 3) := by decide +kernel
theorem dX10_match_17 : decode cX10_match 17 = .ok (.dup, 1) := by decide +kernel
theorem dX10_match_18 : decode cX10_match 18 = .ok (.ldc 112, 2) := by decide +kernel
theorem dX10_match_20 : decode cX10_match 20 = .ok (.invokespecial 91, 3) := by decide +kernel
theorem dX10_match_23 : decode cX10_match 23 = .ok (.athrow, 1) := by decide +kernel
theorem dX10_match_24 : decode cX10_match 24 = .ok (.aload_n 3, 1) := by decide +kernel
theorem dX10_match_25 : decode cX10_match 25 = .ok (.getfield 108, 3) := by decide +kernel
theorem dX10_match_28 : decode cX10_match 28 = .ok (.iload_n 2, 1) := by decide +kernel
theorem dX10_match_29 : decode cX10_match 29 = .ok (.baload, 1) := by decide +kernel
theorem dX10_match_30 : decode cX10_match 30 = .ok (.ifCond .eq 5, 3) := by decide +kernel
theorem dX10_match_33 : decode cX10_match 33 = .ok (.iconst (-1), 1) := by decide +kernel
theorem dX10_match_34 : decode cX10_match 34 = .ok (.ireturn, 1) := by decide +kernel
theorem dX10_match_35 : decode cX10_match 35 = .ok (.iload_n 1, 1) := by decide +kernel
theorem dX10_match_36 : decode cX10_match 36 = .ok (.ifCond .ne 15, 3) := by decide +kernel
theorem dX10_match_39 : decode cX10_match 39 = .ok (.aload_n 0, 1) := by decide +kernel
theorem dX10_match_40 : decode cX10_match 40 = .ok (.getfield 40, 3) := by decide +kernel
theorem dX10_match_43 : decode cX10_match 43 = .ok (.getfield 204, 3) := by decide +kernel
theorem dX10_match_46 : decode cX10_match 46 = .ok (.iload_n 2, 1) := by decide +kernel
theorem dX10_match_47 : decode cX10_match 47 = .ok (.iaload, 1) := by decide +kernel
theorem dX10_match_48 : decode cX10_match 48 = .ok (.goto 12, 3) := by decide +kernel
theorem dX10_match_51 : decode cX10_match 51 = .ok (.aload_n 0, 1) := by decide +kernel
theorem dX10_match_52 : decode cX10_match 52 = .ok (.getfield 40, 3) := by decide +kernel
theorem dX10_match_55 : decode cX10_match 55 = .ok (.getfield 208, 3) := by decide +kernel
theorem dX10_match_58 : decode cX10_match 58 = .ok (.iload_n 2, 1) := by decide +kernel
theorem dX10_match_59 : decode cX10_match 59 = .ok (.iaload, 1) := by decide +kernel
theorem dX10_match_60 : decode cX10_match 60 = .ok (.ireturn, 1) := by decide +kernel
theorem dX10_netMatch_0 : decode cX10_netMatch 0 = .ok (.aload_n 0, 1) := by decide +kernel
theorem dX10_netMatch_1 : decode cX10_netMatch 1 = .ok (.getfield 10, 3) := by decide +kernel
theorem dX10_netMatch_4 : decode cX10_netMatch 4 = .ok (.getfield 188, 3) := by decide +kernel
theorem dX10_netMatch_7 : decode cX10_netMatch 7 = .ok (.iload_n 1, 1) := by decide +kernel
theorem dX10_netMatch_8 : decode cX10_netMatch 8 = .ok (.invokevirtual 119, 3) := by decide +kernel
theorem dX10_netMatch_11 : decode cX10_netMatch 11 = .ok (.ifCond .ne 13, 3) := by decide +kernel
theorem dX10_netMatch_14 : decode cX10_netMatch 14 = .ok (.new 87, 3) := by decide +kernel
theorem dX10_netMatch_17 : decode cX10_netMatch 17 = .ok (.dup, 1) := by decide +kernel
theorem dX10_netMatch_18 : decode cX10_netMatch 18 = .ok (.ldc 122, 2) := by decide +kernel
theorem dX10_netMatch_20 : decode cX10_netMatch 20 = .ok (.invokespecial 91, 3) := by decide +kernel
theorem dX10_netMatch_23 : decode cX10_netMatch 23 = .ok (.athrow, 1) := by decide +kernel
theorem dX10_netMatch_24 : decode cX10_netMatch 24 = .ok (.aload_n 0, 1) := by decide +kernel
theorem dX10_netMatch_25 : decode cX10_netMatch 25 = .ok (.getfield 40, 3) := by decide +kernel
theorem dX10_netMatch_28 : decode cX10_netMatch 28 = .ok (.getfield 211, 3) := by decide +kernel
theorem dX10_netMatch_31 : decode cX10_netMatch 31 = .ok (.iload_n 1, 1) := by decide +kernel
theorem dX10_netMatch_32 : decode cX10_netMatch 32 = .ok (.iaload, 1) := by decide +kernel
theorem dX10_netMatch_33 : decode cX10_netMatch 33 = .ok (.ireturn, 1) := by decide +kernel
theorem dX10_differs_0 : decode cX10_differs 0 = .ok (.iload_n 1, 1) := by decide +kernel
theorem dX10_differs_1 : decode cX10_differs 1 = .ok (.ifCond .lt 14, 3) := by decide +kernel
theorem dX10_differs_4 : decode cX10_differs 4 = .ok (.iload_n 1, 1) := by decide +kernel
theorem dX10_differs_5 : decode cX10_differs 5 = .ok (.aload_n 0, 1) := by decide +kernel
theorem dX10_differs_6 : decode cX10_differs 6 = .ok (.getfield 47, 3) := by decide +kernel
theorem dX10_differs_9 : decode cX10_differs 9 = .ok (.getfield 214, 3) := by decide +kernel
theorem dX10_differs_12 : decode cX10_differs 12 = .ok (.if_icmp .lt 13, 3) := by decide +kernel
theorem dX10_differs_15 : decode cX10_differs 15 = .ok (.new 87, 3) := by decide +kernel
theorem dX10_differs_18 : decode cX10_differs 18 = .ok (.dup, 1) := by decide +kernel
theorem dX10_differs_19 : decode cX10_differs 19 = .ok (.ldc 217, 2) := by decide +kernel
theorem dX10_differs_21 : decode cX10_differs 21 = .ok (.invokespecial 91, 3) := by decide +kernel
theorem dX10_differs_24 : decode cX10_differs 24 = .ok (.athrow, 1) := by decide +kernel
theorem dX10_differs_25 : decode cX10_differs 25 = .ok (.iload_n 2, 1) := by decide +kernel
theorem dX10_differs_26 : decode cX10_differs 26 = .ok (.ifCond .lt 8, 3) := by decide +kernel
theorem dX10_differs_29 : decode cX10_differs 29 = .ok (.iload_n 2, 1) := by decide +kernel
theorem dX10_differs_30 : decode cX10_differs 30 = .ok (.iconst 4, 1) := by decide +kernel
theorem dX10_differs_31 : decode cX10_differs 31 = .ok (.if_icmp .lt 13, 3) := by decide +kernel
theorem dX10_differs_34 : decode cX10_differs 34 = .ok (.new 87, 3) := by decide +kernel
theorem dX10_differs_37 : decode cX10_differs 37 = .ok (.dup, 1) := by decide +kernel
theorem dX10_differs_38 : decode cX10_differs 38 = .ok (.ldc 219, 2) := by decide +kernel
theorem dX10_differs_40 : decode cX10_differs 40 = .ok (.invokespecial 91, 3) := by decide +kernel
theorem dX10_differs_43 : decode cX10_differs 43 = .ok (.athrow, 1) := by decide +kernel
theorem dX10_differs_44 : decode cX10_differs 44 = .ok (.aload_n 0, 1) := by decide +kernel
theorem dX10_differs_45 : decode cX10_differs 45 = .ok (.getfield 47, 3) := by decide +kernel
theorem dX10_differs_48 : decode cX10_differs 48 = .ok (.getfield 221, 3) := by decide +kernel
theorem dX10_differs_51 : decode cX10_differs 51 = .ok (.iload_n 1, 1) := by decide +kernel
theorem dX10_differs_52 : decode cX10_differs 52 = .ok (.iconst 4, 1) := by decide +kernel
theorem dX10_differs_53 : decode cX10_differs 53 = .ok (.imul, 1) := by decide +kernel
theorem dX10_differs_54 : decode cX10_differs 54 = .ok (.iload_n 2, 1) := by decide +kernel
theorem dX10_differs_55 : decode cX10_differs 55 = .ok (.iadd, 1) := by decide +kernel
theorem dX10_differs_56 : decode cX10_differs 56 = .ok (.iaload, 1) := by decide +kernel
theorem dX10_differs_57 : decode cX10_differs 57 = .ok (.ireturn, 1) := by decide +kernel
theorem dX10_rounds_0 : decode cX10_rounds 0 = .ok (.aload_n 0, 1) := by decide +kernel
theorem dX10_rounds_1 : decode cX10_rounds 1 = .ok (.getfield 51, 3) := by decide +kernel
theorem dX10_rounds_4 : decode cX10_rounds 4 = .ok (.ireturn, 1) := by decide +kernel
theorem dX10_tried_0 : decode cX10_tried 0 = .ok (.aload_n 0, 1) := by decide +kernel
theorem dX10_tried_1 : decode cX10_tried 1 = .ok (.getfield 55, 3) := by decide +kernel
theorem dX10_tried_4 : decode cX10_tried 4 = .ok (.ireturn, 1) := by decide +kernel
theorem dX10_tested_0 : decode cX10_tested 0 = .ok (.aload_n 0, 1) := by decide +kernel
theorem dX10_tested_1 : decode cX10_tested 1 = .ok (.getfield 10, 3) := by decide +kernel
theorem dX10_tested_4 : decode cX10_tested 4 = .ok (.invokevirtual 170, 3) := by decide +kernel
theorem dX10_tested_7 : decode cX10_tested 7 = .ok (.aload_n 0, 1) := by decide +kernel
theorem dX10_tested_8 : decode cX10_tested 8 = .ok (.getfield 40, 3) := by decide +kernel
theorem dX10_tested_11 : decode cX10_tested 11 = .ok (.aload_n 0, 1) := by decide +kernel
theorem dX10_tested_12 : decode cX10_tested 12 = .ok (.getfield 10, 3) := by decide +kernel
theorem dX10_tested_15 : decode cX10_tested 15 = .ok (.invokevirtual 224, 3) := by decide +kernel
theorem dX10_tested_18 : decode cX10_tested 18 = .ok (.ireturn, 1) := by decide +kernel
theorem dX10_sideAt_0 : decode cX10_sideAt 0 = .ok (.iload_n 1, 1) := by decide +kernel
theorem dX10_sideAt_1 : decode cX10_sideAt 1 = .ok (.ifCond .lt 8, 3) := by decide +kernel
theorem dX10_sideAt_4 : decode cX10_sideAt 4 = .ok (.iload_n 1, 1) := by decide +kernel
theorem dX10_sideAt_5 : decode cX10_sideAt 5 = .ok (.iconst 2, 1) := by decide +kernel
theorem dX10_sideAt_6 : decode cX10_sideAt 6 = .ok (.if_icmp .lt 13, 3) := by decide +kernel
theorem dX10_sideAt_9 : decode cX10_sideAt 9 = .ok (.new 87, 3) := by decide +kernel
theorem dX10_sideAt_12 : decode cX10_sideAt 12 = .ok (.dup, 1) := by decide +kernel
theorem dX10_sideAt_13 : decode cX10_sideAt 13 = .ok (.ldc 228, 2) := by decide +kernel
theorem dX10_sideAt_15 : decode cX10_sideAt 15 = .ok (.invokespecial 91, 3) := by decide +kernel
theorem dX10_sideAt_18 : decode cX10_sideAt 18 = .ok (.athrow, 1) := by decide +kernel
theorem dX10_sideAt_19 : decode cX10_sideAt 19 = .ok (.aload_n 0, 1) := by decide +kernel
theorem dX10_sideAt_20 : decode cX10_sideAt 20 = .ok (.getfield 10, 3) := by decide +kernel
theorem dX10_sideAt_23 : decode cX10_sideAt 23 = .ok (.iload_n 1, 1) := by decide +kernel
theorem dX10_sideAt_24 : decode cX10_sideAt 24 = .ok (.invokevirtual 230, 3) := by decide +kernel
theorem dX10_sideAt_27 : decode cX10_sideAt 27 = .ok (.areturn, 1) := by decide +kernel
theorem dX10_isKind_0 : decode cX10_isKind 0 = .ok (.iload_n 0, 1) := by decide +kernel
theorem dX10_isKind_1 : decode cX10_isKind 1 = .ok (.ifCond .lt 13, 3) := by decide +kernel
theorem dX10_isKind_4 : decode cX10_isKind 4 = .ok (.iload_n 0, 1) := by decide +kernel
theorem dX10_isKind_5 : decode cX10_isKind 5 = .ok (.bipush 8, 2) := by decide +kernel
theorem dX10_isKind_7 : decode cX10_isKind 7 = .ok (.if_icmp .ge 7, 3) := by decide +kernel
theorem dX10_isKind_10 : decode cX10_isKind 10 = .ok (.iconst 1, 1) := by decide +kernel
theorem dX10_isKind_11 : decode cX10_isKind 11 = .ok (.goto 4, 3) := by decide +kernel
theorem dX10_isKind_14 : decode cX10_isKind 14 = .ok (.iconst 0, 1) := by decide +kernel
theorem dX10_isKind_15 : decode cX10_isKind 15 = .ok (.ireturn, 1) := by decide +kernel
theorem dX10_isPin_0 : decode cX10_isPin 0 = .ok (.iload_n 0, 1) := by decide +kernel
theorem dX10_isPin_1 : decode cX10_isPin 1 = .ok (.ifCond .lt 12, 3) := by decide +kernel
theorem dX10_isPin_4 : decode cX10_isPin 4 = .ok (.iload_n 0, 1) := by decide +kernel
theorem dX10_isPin_5 : decode cX10_isPin 5 = .ok (.iconst 4, 1) := by decide +kernel
theorem dX10_isPin_6 : decode cX10_isPin 6 = .ok (.if_icmp .ge 7, 3) := by decide +kernel
theorem dX10_isPin_9 : decode cX10_isPin 9 = .ok (.iconst 1, 1) := by decide +kernel
theorem dX10_isPin_10 : decode cX10_isPin 10 = .ok (.goto 4, 3) := by decide +kernel
theorem dX10_isPin_13 : decode cX10_isPin 13 = .ok (.iconst 0, 1) := by decide +kernel
theorem dX10_isPin_14 : decode cX10_isPin 14 = .ok (.ireturn, 1) := by decide +kernel
theorem dL_net_0 : decode cL_net 0 = .ok (.aload_n 3, 1) := by decide +kernel
theorem dL_net_1 : decode cL_net 1 = .ok (.iconst 0, 1) := by decide +kernel
theorem dL_net_2 : decode cL_net 2 = .ok (.aload_n 0, 1) := by decide +kernel
theorem dL_net_3 : decode cL_net 3 = .ok (.iload_n 1, 1) := by decide +kernel
theorem dL_net_4 : decode cL_net 4 = .ok (.iload_n 2, 1) := by decide +kernel
theorem dL_net_5 : decode cL_net 5 = .ok (.invokevirtual 7, 3) := by decide +kernel
theorem dL_net_8 : decode cL_net 8 = .ok (.i2l, 1) := by decide +kernel
theorem dL_net_9 : decode cL_net 9 = .ok (.lastore, 1) := by decide +kernel
theorem dL_net_10 : decode cL_net 10 = .ok (.goto 15, 3) := by decide +kernel
theorem dL_net_13 : decode cL_net 13 = .ok (.astore 4, 2) := by decide +kernel
theorem dL_net_15 : decode cL_net 15 = .ok (.iconst 1, 1) := by decide +kernel
theorem dL_net_16 : decode cL_net 16 = .ok (.ireturn, 1) := by decide +kernel
theorem dL_net_17 : decode cL_net 17 = .ok (.astore 4, 2) := by decide +kernel
theorem dL_net_19 : decode cL_net 19 = .ok (.iconst 2, 1) := by decide +kernel
theorem dL_net_20 : decode cL_net 20 = .ok (.ireturn, 1) := by decide +kernel
theorem dL_net_21 : decode cL_net 21 = .ok (.astore 4, 2) := by decide +kernel
theorem dL_net_23 : decode cL_net 23 = .ok (.iconst 3, 1) := by decide +kernel
theorem dL_net_24 : decode cL_net 24 = .ok (.ireturn, 1) := by decide +kernel
theorem dL_net_25 : decode cL_net 25 = .ok (.iconst 0, 1) := by decide +kernel
theorem dL_net_26 : decode cL_net 26 = .ok (.ireturn, 1) := by decide +kernel
theorem dL_device_0 : decode cL_device 0 = .ok (.aload 5, 2) := by decide +kernel
theorem dL_device_2 : decode cL_device 2 = .ok (.iconst 0, 1) := by decide +kernel
theorem dL_device_3 : decode cL_device 3 = .ok (.aload_n 0, 1) := by decide +kernel
theorem dL_device_4 : decode cL_device 4 = .ok (.iload_n 1, 1) := by decide +kernel
theorem dL_device_5 : decode cL_device 5 = .ok (.iload_n 2, 1) := by decide +kernel
theorem dL_device_6 : decode cL_device 6 = .ok (.dload_n 3, 1) := by decide +kernel
theorem dL_device_7 : decode cL_device 7 = .ok (.invokevirtual 19, 3) := by decide +kernel
theorem dL_device_10 : decode cL_device 10 = .ok (.i2l, 1) := by decide +kernel
theorem dL_device_11 : decode cL_device 11 = .ok (.lastore, 1) := by decide +kernel
theorem dL_device_12 : decode cL_device 12 = .ok (.goto 15, 3) := by decide +kernel
theorem dL_device_15 : decode cL_device 15 = .ok (.astore 6, 2) := by decide +kernel
theorem dL_device_17 : decode cL_device 17 = .ok (.iconst 1, 1) := by decide +kernel
theorem dL_device_18 : decode cL_device 18 = .ok (.ireturn, 1) := by decide +kernel
theorem dL_device_19 : decode cL_device 19 = .ok (.astore 6, 2) := by decide +kernel
theorem dL_device_21 : decode cL_device 21 = .ok (.iconst 2, 1) := by decide +kernel
theorem dL_device_22 : decode cL_device 22 = .ok (.ireturn, 1) := by decide +kernel
theorem dL_device_23 : decode cL_device 23 = .ok (.astore 6, 2) := by decide +kernel
theorem dL_device_25 : decode cL_device 25 = .ok (.iconst 3, 1) := by decide +kernel
theorem dL_device_26 : decode cL_device 26 = .ok (.ireturn, 1) := by decide +kernel
theorem dL_device_27 : decode cL_device 27 = .ok (.iconst 0, 1) := by decide +kernel
theorem dL_device_28 : decode cL_device 28 = .ok (.ireturn, 1) := by decide +kernel
theorem dL_pin_0 : decode cL_pin 0 = .ok (.aload 5, 2) := by decide +kernel
theorem dL_pin_2 : decode cL_pin 2 = .ok (.iconst 0, 1) := by decide +kernel
theorem dL_pin_3 : decode cL_pin 3 = .ok (.aload_n 0, 1) := by decide +kernel
theorem dL_pin_4 : decode cL_pin 4 = .ok (.iload_n 1, 1) := by decide +kernel
theorem dL_pin_5 : decode cL_pin 5 = .ok (.iload_n 2, 1) := by decide +kernel
theorem dL_pin_6 : decode cL_pin 6 = .ok (.iload_n 3, 1) := by decide +kernel
theorem dL_pin_7 : decode cL_pin 7 = .ok (.iload 4, 2) := by decide +kernel
theorem dL_pin_9 : decode cL_pin 9 = .ok (.invokevirtual 23, 3) := by decide +kernel
theorem dL_pin_12 : decode cL_pin 12 = .ok (.ifCond .eq 7, 3) := by decide +kernel
theorem dL_pin_15 : decode cL_pin 15 = .ok (.lconst 1, 1) := by decide +kernel
theorem dL_pin_16 : decode cL_pin 16 = .ok (.goto 4, 3) := by decide +kernel
theorem dL_pin_19 : decode cL_pin 19 = .ok (.lconst 0, 1) := by decide +kernel
theorem dL_pin_20 : decode cL_pin 20 = .ok (.lastore, 1) := by decide +kernel
theorem dL_pin_21 : decode cL_pin 21 = .ok (.goto 7, 3) := by decide +kernel
theorem dL_pin_24 : decode cL_pin 24 = .ok (.astore 6, 2) := by decide +kernel
theorem dL_pin_26 : decode cL_pin 26 = .ok (.iconst 1, 1) := by decide +kernel
theorem dL_pin_27 : decode cL_pin 27 = .ok (.ireturn, 1) := by decide +kernel
theorem dL_pin_28 : decode cL_pin 28 = .ok (.iconst 0, 1) := by decide +kernel
theorem dL_pin_29 : decode cL_pin 29 = .ok (.ireturn, 1) := by decide +kernel
theorem dL_swap_0 : decode cL_swap 0 = .ok (.aload 4, 2) := by decide +kernel
theorem dL_swap_2 : decode cL_swap 2 = .ok (.iconst 0, 1) := by decide +kernel
theorem dL_swap_3 : decode cL_swap 3 = .ok (.aload_n 0, 1) := by decide +kernel
theorem dL_swap_4 : decode cL_swap 4 = .ok (.iload_n 1, 1) := by decide +kernel
theorem dL_swap_5 : decode cL_swap 5 = .ok (.iload_n 2, 1) := by decide +kernel
theorem dL_swap_6 : decode cL_swap 6 = .ok (.iload_n 3, 1) := by decide +kernel
theorem dL_swap_7 : decode cL_swap 7 = .ok (.invokevirtual 27, 3) := by decide +kernel
theorem dL_swap_10 : decode cL_swap 10 = .ok (.ifCond .eq 7, 3) := by decide +kernel
theorem dL_swap_13 : decode cL_swap 13 = .ok (.lconst 1, 1) := by decide +kernel
theorem dL_swap_14 : decode cL_swap 14 = .ok (.goto 4, 3) := by decide +kernel
theorem dL_swap_17 : decode cL_swap 17 = .ok (.lconst 0, 1) := by decide +kernel
theorem dL_swap_18 : decode cL_swap 18 = .ok (.lastore, 1) := by decide +kernel
theorem dL_swap_19 : decode cL_swap 19 = .ok (.goto 7, 3) := by decide +kernel
theorem dL_swap_22 : decode cL_swap 22 = .ok (.astore 5, 2) := by decide +kernel
theorem dL_swap_24 : decode cL_swap 24 = .ok (.iconst 1, 1) := by decide +kernel
theorem dL_swap_25 : decode cL_swap 25 = .ok (.ireturn, 1) := by decide +kernel
theorem dL_swap_26 : decode cL_swap 26 = .ok (.iconst 0, 1) := by decide +kernel
theorem dL_swap_27 : decode cL_swap 27 = .ok (.ireturn, 1) := by decide +kernel
theorem dL_share_0 : decode cL_share 0 = .ok (.aload 4, 2) := by decide +kernel
theorem dL_share_2 : decode cL_share 2 = .ok (.iconst 0, 1) := by decide +kernel
theorem dL_share_3 : decode cL_share 3 = .ok (.aload_n 0, 1) := by decide +kernel
theorem dL_share_4 : decode cL_share 4 = .ok (.iload_n 1, 1) := by decide +kernel
theorem dL_share_5 : decode cL_share 5 = .ok (.dload_n 2, 1) := by decide +kernel
theorem dL_share_6 : decode cL_share 6 = .ok (.invokevirtual 31, 3) := by decide +kernel
theorem dL_share_9 : decode cL_share 9 = .ok (.ifCond .eq 7, 3) := by decide +kernel
theorem dL_share_12 : decode cL_share 12 = .ok (.lconst 1, 1) := by decide +kernel
theorem dL_share_13 : decode cL_share 13 = .ok (.goto 4, 3) := by decide +kernel
theorem dL_share_16 : decode cL_share 16 = .ok (.lconst 0, 1) := by decide +kernel
theorem dL_share_17 : decode cL_share 17 = .ok (.lastore, 1) := by decide +kernel
theorem dL_share_18 : decode cL_share 18 = .ok (.goto 11, 3) := by decide +kernel
theorem dL_share_21 : decode cL_share 21 = .ok (.astore 5, 2) := by decide +kernel
theorem dL_share_23 : decode cL_share 23 = .ok (.iconst 1, 1) := by decide +kernel
theorem dL_share_24 : decode cL_share 24 = .ok (.ireturn, 1) := by decide +kernel
theorem dL_share_25 : decode cL_share 25 = .ok (.astore 5, 2) := by decide +kernel
theorem dL_share_27 : decode cL_share 27 = .ok (.iconst 2, 1) := by decide +kernel
theorem dL_share_28 : decode cL_share 28 = .ok (.ireturn, 1) := by decide +kernel
theorem dL_share_29 : decode cL_share 29 = .ok (.iconst 0, 1) := by decide +kernel
theorem dL_share_30 : decode cL_share 30 = .ok (.ireturn, 1) := by decide +kernel
theorem dL_port_0 : decode cL_port 0 = .ok (.aload 4, 2) := by decide +kernel
theorem dL_port_2 : decode cL_port 2 = .ok (.iconst 0, 1) := by decide +kernel
theorem dL_port_3 : decode cL_port 3 = .ok (.aload_n 0, 1) := by decide +kernel
theorem dL_port_4 : decode cL_port 4 = .ok (.iload_n 1, 1) := by decide +kernel
theorem dL_port_5 : decode cL_port 5 = .ok (.iload_n 2, 1) := by decide +kernel
theorem dL_port_6 : decode cL_port 6 = .ok (.iload_n 3, 1) := by decide +kernel
theorem dL_port_7 : decode cL_port 7 = .ok (.invokevirtual 35, 3) := by decide +kernel
theorem dL_port_10 : decode cL_port 10 = .ok (.ifCond .eq 7, 3) := by decide +kernel
theorem dL_port_13 : decode cL_port 13 = .ok (.lconst 1, 1) := by decide +kernel
theorem dL_port_14 : decode cL_port 14 = .ok (.goto 4, 3) := by decide +kernel
theorem dL_port_17 : decode cL_port 17 = .ok (.lconst 0, 1) := by decide +kernel
theorem dL_port_18 : decode cL_port 18 = .ok (.lastore, 1) := by decide +kernel
theorem dL_port_19 : decode cL_port 19 = .ok (.goto 11, 3) := by decide +kernel
theorem dL_port_22 : decode cL_port 22 = .ok (.astore 5, 2) := by decide +kernel
theorem dL_port_24 : decode cL_port 24 = .ok (.iconst 1, 1) := by decide +kernel
theorem dL_port_25 : decode cL_port 25 = .ok (.ireturn, 1) := by decide +kernel
theorem dL_port_26 : decode cL_port 26 = .ok (.astore 5, 2) := by decide +kernel
theorem dL_port_28 : decode cL_port 28 = .ok (.iconst 2, 1) := by decide +kernel
theorem dL_port_29 : decode cL_port 29 = .ok (.ireturn, 1) := by decide +kernel
theorem dL_port_30 : decode cL_port 30 = .ok (.iconst 0, 1) := by decide +kernel
theorem dL_port_31 : decode cL_port 31 = .ok (.ireturn, 1) := by decide +kernel
theorem dL_join_0 : decode cL_join 0 = .ok (.aload_n 3, 1) := by decide +kernel
theorem dL_join_1 : decode cL_join 1 = .ok (.iconst 0, 1) := by decide +kernel
theorem dL_join_2 : decode cL_join 2 = .ok (.aload_n 0, 1) := by decide +kernel
theorem dL_join_3 : decode cL_join 3 = .ok (.iload_n 1, 1) := by decide +kernel
theorem dL_join_4 : decode cL_join 4 = .ok (.iload_n 2, 1) := by decide +kernel
theorem dL_join_5 : decode cL_join 5 = .ok (.invokevirtual 38, 3) := by decide +kernel
theorem dL_join_8 : decode cL_join 8 = .ok (.i2l, 1) := by decide +kernel
theorem dL_join_9 : decode cL_join 9 = .ok (.lastore, 1) := by decide +kernel
theorem dL_join_10 : decode cL_join 10 = .ok (.goto 11, 3) := by decide +kernel
theorem dL_join_13 : decode cL_join 13 = .ok (.astore 4, 2) := by decide +kernel
theorem dL_join_15 : decode cL_join 15 = .ok (.iconst 1, 1) := by decide +kernel
theorem dL_join_16 : decode cL_join 16 = .ok (.ireturn, 1) := by decide +kernel
theorem dL_join_17 : decode cL_join 17 = .ok (.astore 4, 2) := by decide +kernel
theorem dL_join_19 : decode cL_join 19 = .ok (.iconst 2, 1) := by decide +kernel
theorem dL_join_20 : decode cL_join 20 = .ok (.ireturn, 1) := by decide +kernel
theorem dL_join_21 : decode cL_join 21 = .ok (.iconst 0, 1) := by decide +kernel
theorem dL_join_22 : decode cL_join 22 = .ok (.ireturn, 1) := by decide +kernel
theorem dL_run_0 : decode cL_run 0 = .ok (.aload_n 3, 1) := by decide +kernel
theorem dL_run_1 : decode cL_run 1 = .ok (.iconst 0, 1) := by decide +kernel
theorem dL_run_2 : decode cL_run 2 = .ok (.aload_n 0, 1) := by decide +kernel
theorem dL_run_3 : decode cL_run 3 = .ok (.lload_n 1, 1) := by decide +kernel
theorem dL_run_4 : decode cL_run 4 = .ok (.invokevirtual 41, 3) := by decide +kernel
theorem dL_run_7 : decode cL_run 7 = .ok (.i2l, 1) := by decide +kernel
theorem dL_run_8 : decode cL_run 8 = .ok (.lastore, 1) := by decide +kernel
theorem dL_run_9 : decode cL_run 9 = .ok (.goto 7, 3) := by decide +kernel
theorem dL_run_12 : decode cL_run 12 = .ok (.astore 4, 2) := by decide +kernel
theorem dL_run_14 : decode cL_run 14 = .ok (.iconst 1, 1) := by decide +kernel
theorem dL_run_15 : decode cL_run 15 = .ok (.ireturn, 1) := by decide +kernel
theorem dL_run_16 : decode cL_run 16 = .ok (.iconst 0, 1) := by decide +kernel
theorem dL_run_17 : decode cL_run 17 = .ok (.ireturn, 1) := by decide +kernel
theorem dL_match_0 : decode cL_match 0 = .ok (.aload_n 3, 1) := by decide +kernel
theorem dL_match_1 : decode cL_match 1 = .ok (.iconst 0, 1) := by decide +kernel
theorem dL_match_2 : decode cL_match 2 = .ok (.aload_n 0, 1) := by decide +kernel
theorem dL_match_3 : decode cL_match 3 = .ok (.iload_n 1, 1) := by decide +kernel
theorem dL_match_4 : decode cL_match 4 = .ok (.iload_n 2, 1) := by decide +kernel
theorem dL_match_5 : decode cL_match 5 = .ok (.invokevirtual 45, 3) := by decide +kernel
theorem dL_match_8 : decode cL_match 8 = .ok (.i2l, 1) := by decide +kernel
theorem dL_match_9 : decode cL_match 9 = .ok (.lastore, 1) := by decide +kernel
theorem dL_match_10 : decode cL_match 10 = .ok (.goto 7, 3) := by decide +kernel
theorem dL_match_13 : decode cL_match 13 = .ok (.astore 4, 2) := by decide +kernel
theorem dL_match_15 : decode cL_match 15 = .ok (.iconst 1, 1) := by decide +kernel
theorem dL_match_16 : decode cL_match 16 = .ok (.ireturn, 1) := by decide +kernel
theorem dL_match_17 : decode cL_match 17 = .ok (.iconst 0, 1) := by decide +kernel
theorem dL_match_18 : decode cL_match 18 = .ok (.ireturn, 1) := by decide +kernel
theorem dL_netMatch_0 : decode cL_netMatch 0 = .ok (.aload_n 2, 1) := by decide +kernel
theorem dL_netMatch_1 : decode cL_netMatch 1 = .ok (.iconst 0, 1) := by decide +kernel
theorem dL_netMatch_2 : decode cL_netMatch 2 = .ok (.aload_n 0, 1) := by decide +kernel
theorem dL_netMatch_3 : decode cL_netMatch 3 = .ok (.iload_n 1, 1) := by decide +kernel
theorem dL_netMatch_4 : decode cL_netMatch 4 = .ok (.invokevirtual 48, 3) := by decide +kernel
theorem dL_netMatch_7 : decode cL_netMatch 7 = .ok (.i2l, 1) := by decide +kernel
theorem dL_netMatch_8 : decode cL_netMatch 8 = .ok (.lastore, 1) := by decide +kernel
theorem dL_netMatch_9 : decode cL_netMatch 9 = .ok (.goto 6, 3) := by decide +kernel
theorem dL_netMatch_12 : decode cL_netMatch 12 = .ok (.astore_n 3, 1) := by decide +kernel
theorem dL_netMatch_13 : decode cL_netMatch 13 = .ok (.iconst 1, 1) := by decide +kernel
theorem dL_netMatch_14 : decode cL_netMatch 14 = .ok (.ireturn, 1) := by decide +kernel
theorem dL_netMatch_15 : decode cL_netMatch 15 = .ok (.iconst 0, 1) := by decide +kernel
theorem dL_netMatch_16 : decode cL_netMatch 16 = .ok (.ireturn, 1) := by decide +kernel
theorem dL_differs_0 : decode cL_differs 0 = .ok (.aload_n 3, 1) := by decide +kernel
theorem dL_differs_1 : decode cL_differs 1 = .ok (.iconst 0, 1) := by decide +kernel
theorem dL_differs_2 : decode cL_differs 2 = .ok (.aload_n 0, 1) := by decide +kernel
theorem dL_differs_3 : decode cL_differs 3 = .ok (.iload_n 1, 1) := by decide +kernel
theorem dL_differs_4 : decode cL_differs 4 = .ok (.iload_n 2, 1) := by decide +kernel
theorem dL_differs_5 : decode cL_differs 5 = .ok (.invokevirtual 52, 3) := by decide +kernel
theorem dL_differs_8 : decode cL_differs 8 = .ok (.i2l, 1) := by decide +kernel
theorem dL_differs_9 : decode cL_differs 9 = .ok (.lastore, 1) := by decide +kernel
theorem dL_differs_10 : decode cL_differs 10 = .ok (.goto 7, 3) := by decide +kernel
theorem dL_differs_13 : decode cL_differs 13 = .ok (.astore 4, 2) := by decide +kernel
theorem dL_differs_15 : decode cL_differs 15 = .ok (.iconst 1, 1) := by decide +kernel
theorem dL_differs_16 : decode cL_differs 16 = .ok (.ireturn, 1) := by decide +kernel
theorem dL_differs_17 : decode cL_differs 17 = .ok (.iconst 0, 1) := by decide +kernel
theorem dL_differs_18 : decode cL_differs 18 = .ok (.ireturn, 1) := by decide +kernel
theorem dL_law_0 : decode cL_law 0 = .ok (.new 8, 3) := by decide +kernel
theorem dL_law_3 : decode cL_law 3 = .ok (.dup, 1) := by decide +kernel
theorem dL_law_4 : decode cL_law 4 = .ok (.invokespecial 55, 3) := by decide +kernel
theorem dL_law_7 : decode cL_law 7 = .ok (.astore_n 1, 1) := by decide +kernel
theorem dL_law_8 : decode cL_law 8 = .ok (.new 56, 3) := by decide +kernel
theorem dL_law_11 : decode cL_law 11 = .ok (.dup, 1) := by decide +kernel
theorem dL_law_12 : decode cL_law 12 = .ok (.invokespecial 58, 3) := by decide +kernel
theorem dL_law_15 : decode cL_law 15 = .ok (.astore_n 2, 1) := by decide +kernel
theorem dL_law_16 : decode cL_law 16 = .ok (.iconst 1, 1) := by decide +kernel
theorem dL_law_17 : decode cL_law 17 = .ok (.newarray .long, 2) := by decide +kernel
theorem dL_law_19 : decode cL_law 19 = .ok (.astore_n 3, 1) := by decide +kernel
theorem dL_law_20 : decode cL_law 20 = .ok (.iconst 0, 1) := by decide +kernel
theorem dL_law_21 : decode cL_law 21 = .ok (.istore 4, 2) := by decide +kernel
theorem dL_law_23 : decode cL_law 23 = .ok (.iload 4, 2) := by decide +kernel
theorem dL_law_25 : decode cL_law 25 = .ok (.aload_n 0, 1) := by decide +kernel
theorem dL_law_26 : decode cL_law 26 = .ok (.arraylength, 1) := by decide +kernel
theorem dL_law_27 : decode cL_law 27 = .ok (.iconst 5, 1) := by decide +kernel
theorem dL_law_28 : decode cL_law 28 = .ok (.isub, 1) := by decide +kernel
theorem dL_law_29 : decode cL_law 29 = .ok (.if_icmp .gt 988, 3) := by decide +kernel
theorem dL_law_32 : decode cL_law 32 = .ok (.aload_n 0, 1) := by decide +kernel
theorem dL_law_33 : decode cL_law 33 = .ok (.iload 4, 2) := by decide +kernel
theorem dL_law_35 : decode cL_law 35 = .ok (.iaload, 1) := by decide +kernel
theorem dL_law_36 : decode cL_law 36 = .ok (.bipush 15, 2) := by decide +kernel
theorem dL_law_38 : decode cL_law 38 = .ok (.iand, 1) := by decide +kernel
theorem dL_law_39 : decode cL_law 39 = .ok (.tableswitch 972 0 13 #[69, 137, 227, 326, 413, 498, 585, 653, 741, 809, 865, 933, 946, 959], 69) := by decide +kernel
theorem dL_law_108 : decode cL_law 108 = .ok (.aload_n 1, 1) := by decide +kernel
theorem dL_law_109 : decode cL_law 109 = .ok (.aload_n 0, 1) := by decide +kernel
theorem dL_law_110 : decode cL_law 110 = .ok (.iload 4, 2) := by decide +kernel
theorem dL_law_112 : decode cL_law 112 = .ok (.iconst 1, 1) := by decide +kernel
theorem dL_law_113 : decode cL_law 113 = .ok (.iadd, 1) := by decide +kernel
theorem dL_law_114 : decode cL_law 114 = .ok (.iaload, 1) := by decide +kernel
theorem dL_law_115 : decode cL_law 115 = .ok (.aload_n 0, 1) := by decide +kernel
theorem dL_law_116 : decode cL_law 116 = .ok (.iload 4, 2) := by decide +kernel
theorem dL_law_118 : decode cL_law 118 = .ok (.iconst 2, 1) := by decide +kernel
theorem dL_law_119 : decode cL_law 119 = .ok (.iadd, 1) := by decide +kernel
theorem dL_law_120 : decode cL_law 120 = .ok (.iaload, 1) := by decide +kernel
theorem dL_law_121 : decode cL_law 121 = .ok (.aload_n 3, 1) := by decide +kernel
theorem dL_law_122 : decode cL_law 122 = .ok (.invokestatic 59, 3) := by decide +kernel
theorem dL_law_125 : decode cL_law 125 = .ok (.istore 5, 2) := by decide +kernel
theorem dL_law_127 : decode cL_law 127 = .ok (.aload_n 2, 1) := by decide +kernel
theorem dL_law_128 : decode cL_law 128 = .ok (.aload_n 0, 1) := by decide +kernel
theorem dL_law_129 : decode cL_law 129 = .ok (.iload 4, 2) := by decide +kernel
theorem dL_law_131 : decode cL_law 131 = .ok (.iconst 1, 1) := by decide +kernel
theorem dL_law_132 : decode cL_law 132 = .ok (.iadd, 1) := by decide +kernel
theorem dL_law_133 : decode cL_law 133 = .ok (.iaload, 1) := by decide +kernel
theorem dL_law_134 : decode cL_law 134 = .ok (.aload_n 0, 1) := by decide +kernel
theorem dL_law_135 : decode cL_law 135 = .ok (.iload 4, 2) := by decide +kernel
theorem dL_law_137 : decode cL_law 137 = .ok (.iconst 2, 1) := by decide +kernel
theorem dL_law_138 : decode cL_law 138 = .ok (.iadd, 1) := by decide +kernel
theorem dL_law_139 : decode cL_law 139 = .ok (.iaload, 1) := by decide +kernel
theorem dL_law_140 : decode cL_law 140 = .ok (.invokevirtual 64, 3) := by decide +kernel
theorem dL_law_143 : decode cL_law 143 = .ok (.istore 6, 2) := by decide +kernel
theorem dL_law_145 : decode cL_law 145 = .ok (.aload_n 2, 1) := by decide +kernel
theorem dL_law_146 : decode cL_law 146 = .ok (.invokevirtual 65, 3) := by decide +kernel
theorem dL_law_149 : decode cL_law 149 = .ok (.iload 5, 2) := by decide +kernel
theorem dL_law_151 : decode cL_law 151 = .ok (.if_icmp .eq 5, 3) := by decide +kernel
theorem dL_law_154 : decode cL_law 154 = .ok (.iconst 0, 1) := by decide +kernel
theorem dL_law_155 : decode cL_law 155 = .ok (.ireturn, 1) := by decide +kernel
theorem dL_law_156 : decode cL_law 156 = .ok (.iload 5, 2) := by decide +kernel
theorem dL_law_158 : decode cL_law 158 = .ok (.ifCond .ne 15, 3) := by decide +kernel
theorem dL_law_161 : decode cL_law 161 = .ok (.aload_n 3, 1) := by decide +kernel
theorem dL_law_162 : decode cL_law 162 = .ok (.iconst 0, 1) := by decide +kernel
theorem dL_law_163 : decode cL_law 163 = .ok (.laload, 1) := by decide +kernel
theorem dL_law_164 : decode cL_law 164 = .ok (.iload 6, 2) := by decide +kernel
theorem dL_law_166 : decode cL_law 166 = .ok (.i2l, 1) := by decide +kernel
theorem dL_law_167 : decode cL_law 167 = .ok (.lcmp, 1) := by decide +kernel
theorem dL_law_168 : decode cL_law 168 = .ok (.ifCond .eq 5, 3) := by decide +kernel
theorem dL_law_171 : decode cL_law 171 = .ok (.iconst 0, 1) := by decide +kernel
theorem dL_law_172 : decode cL_law 172 = .ok (.ireturn, 1) := by decide +kernel
theorem dL_law_173 : decode cL_law 173 = .ok (.goto 838, 3) := by decide +kernel
theorem dL_law_176 : decode cL_law 176 = .ok (.aload_n 1, 1) := by decide +kernel
theorem dL_law_177 : decode cL_law 177 = .ok (.aload_n 0, 1) := by decide +kernel
theorem dL_law_178 : decode cL_law 178 = .ok (.iload 4, 2) := by decide +kernel
theorem dL_law_180 : decode cL_law 180 = .ok (.iconst 1, 1) := by decide +kernel
theorem dL_law_181 : decode cL_law 181 = .ok (.iadd, 1) := by decide +kernel
theorem dL_law_182 : decode cL_law 182 = .ok (.iaload, 1) := by decide +kernel
theorem dL_law_183 : decode cL_law 183 = .ok (.aload_n 0, 1) := by decide +kernel
theorem dL_law_184 : decode cL_law 184 = .ok (.iload 4, 2) := by decide +kernel
theorem dL_law_186 : decode cL_law 186 = .ok (.iconst 2, 1) := by decide +kernel
theorem dL_law_187 : decode cL_law 187 = .ok (.iadd, 1) := by decide +kernel
theorem dL_law_188 : decode cL_law 188 = .ok (.iaload, 1) := by decide +kernel
theorem dL_law_189 : decode cL_law 189 = .ok (.aload_n 0, 1) := by decide +kernel
theorem dL_law_190 : decode cL_law 190 = .ok (.iload 4, 2) := by decide +kernel
theorem dL_law_192 : decode cL_law 192 = .ok (.iconst 3, 1) := by decide +kernel
theorem dL_law_193 : decode cL_law 193 = .ok (.iadd, 1) := by decide +kernel
theorem dL_law_194 : decode cL_law 194 = .ok (.iaload, 1) := by decide +kernel
theorem dL_law_195 : decode cL_law 195 = .ok (.i2d, 1) := by decide +kernel
theorem dL_law_196 : decode cL_law 196 = .ok (.ldc2_w 69, 3) := by decide +kernel
theorem dL_law_199 : decode cL_law 199 = .ok (.dmul, 1) := by decide +kernel
theorem dL_law_200 : decode cL_law 200 = .ok (.aload_n 3, 1) := by decide +kernel
theorem dL_law_201 : decode cL_law 201 = .ok (.invokestatic 71, 3) := by decide +kernel
theorem dL_law_204 : decode cL_law 204 = .ok (.istore 5, 2) := by decide +kernel
theorem dL_law_206 : decode cL_law 206 = .ok (.aload_n 2, 1) := by decide +kernel
theorem dL_law_207 : decode cL_law 207 = .ok (.aload_n 0, 1) := by decide +kernel
theorem dL_law_208 : decode cL_law 208 = .ok (.iload 4, 2) := by decide +kernel
theorem dL_law_210 : decode cL_law 210 = .ok (.iconst 1, 1) := by decide +kernel
theorem dL_law_211 : decode cL_law 211 = .ok (.iadd, 1) := by decide +kernel
theorem dL_law_212 : decode cL_law 212 = .ok (.iaload, 1) := by decide +kernel
theorem dL_law_213 : decode cL_law 213 = .ok (.aload_n 0, 1) := by decide +kernel
theorem dL_law_214 : decode cL_law 214 = .ok (.iload 4, 2) := by decide +kernel
theorem dL_law_216 : decode cL_law 216 = .ok (.iconst 2, 1) := by decide +kernel
theorem dL_law_217 : decode cL_law 217 = .ok (.iadd, 1) := by decide +kernel
theorem dL_law_218 : decode cL_law 218 = .ok (.iaload, 1) := by decide +kernel
theorem dL_law_219 : decode cL_law 219 = .ok (.aload_n 0, 1) := by decide +kernel
theorem dL_law_220 : decode cL_law 220 = .ok (.iload 4, 2) := by decide +kernel
theorem dL_law_222 : decode cL_law 222 = .ok (.iconst 3, 1) := by decide +kernel
theorem dL_law_223 : decode cL_law 223 = .ok (.iadd, 1) := by decide +kernel
theorem dL_law_224 : decode cL_law 224 = .ok (.iaload, 1) := by decide +kernel
theorem dL_law_225 : decode cL_law 225 = .ok (.i2d, 1) := by decide +kernel
theorem dL_law_226 : decode cL_law 226 = .ok (.ldc2_w 69, 3) := by decide +kernel
theorem dL_law_229 : decode cL_law 229 = .ok (.dmul, 1) := by decide +kernel
theorem dL_law_230 : decode cL_law 230 = .ok (.invokevirtual 74, 3) := by decide +kernel
theorem dL_law_233 : decode cL_law 233 = .ok (.istore 6, 2) := by decide +kernel
theorem dL_law_235 : decode cL_law 235 = .ok (.aload_n 2, 1) := by decide +kernel
theorem dL_law_236 : decode cL_law 236 = .ok (.invokevirtual 65, 3) := by decide +kernel
theorem dL_law_239 : decode cL_law 239 = .ok (.iload 5, 2) := by decide +kernel
theorem dL_law_241 : decode cL_law 241 = .ok (.if_icmp .eq 5, 3) := by decide +kernel
theorem dL_law_244 : decode cL_law 244 = .ok (.iconst 0, 1) := by decide +kernel
theorem dL_law_245 : decode cL_law 245 = .ok (.ireturn, 1) := by decide +kernel
theorem dL_law_246 : decode cL_law 246 = .ok (.iload 5, 2) := by decide +kernel
theorem dL_law_248 : decode cL_law 248 = .ok (.ifCond .ne 15, 3) := by decide +kernel
theorem dL_law_251 : decode cL_law 251 = .ok (.aload_n 3, 1) := by decide +kernel
theorem dL_law_252 : decode cL_law 252 = .ok (.iconst 0, 1) := by decide +kernel
theorem dL_law_253 : decode cL_law 253 = .ok (.laload, 1) := by decide +kernel
theorem dL_law_254 : decode cL_law 254 = .ok (.iload 6, 2) := by decide +kernel
theorem dL_law_256 : decode cL_law 256 = .ok (.i2l, 1) := by decide +kernel
theorem dL_law_257 : decode cL_law 257 = .ok (.lcmp, 1) := by decide +kernel
theorem dL_law_258 : decode cL_law 258 = .ok (.ifCond .eq 5, 3) := by decide +kernel
theorem dL_law_261 : decode cL_law 261 = .ok (.iconst 0, 1) := by decide +kernel
theorem dL_law_262 : decode cL_law 262 = .ok (.ireturn, 1) := by decide +kernel
theorem dL_law_263 : decode cL_law 263 = .ok (.goto 748, 3) := by decide +kernel
theorem dL_law_266 : decode cL_law 266 = .ok (.aload_n 1, 1) := by decide +kernel
theorem dL_law_267 : decode cL_law 267 = .ok (.aload_n 0, 1) := by decide +kernel
theorem dL_law_268 : decode cL_law 268 = .ok (.iload 4, 2) := by decide +kernel
theorem dL_law_270 : decode cL_law 270 = .ok (.iconst 1, 1) := by decide +kernel
theorem dL_law_271 : decode cL_law 271 = .ok (.iadd, 1) := by decide +kernel
theorem dL_law_272 : decode cL_law 272 = .ok (.iaload, 1) := by decide +kernel
theorem dL_law_273 : decode cL_law 273 = .ok (.aload_n 0, 1) := by decide +kernel
theorem dL_law_274 : decode cL_law 274 = .ok (.iload 4, 2) := by decide +kernel
theorem dL_law_276 : decode cL_law 276 = .ok (.iconst 2, 1) := by decide +kernel
theorem dL_law_277 : decode cL_law 277 = .ok (.iadd, 1) := by decide +kernel
theorem dL_law_278 : decode cL_law 278 = .ok (.iaload, 1) := by decide +kernel
theorem dL_law_279 : decode cL_law 279 = .ok (.aload_n 0, 1) := by decide +kernel
theorem dL_law_280 : decode cL_law 280 = .ok (.iload 4, 2) := by decide +kernel
theorem dL_law_282 : decode cL_law 282 = .ok (.iconst 3, 1) := by decide +kernel
theorem dL_law_283 : decode cL_law 283 = .ok (.iadd, 1) := by decide +kernel
theorem dL_law_284 : decode cL_law 284 = .ok (.iaload, 1) := by decide +kernel
theorem dL_law_285 : decode cL_law 285 = .ok (.aload_n 0, 1) := by decide +kernel
theorem dL_law_286 : decode cL_law 286 = .ok (.iload 4, 2) := by decide +kernel
theorem dL_law_288 : decode cL_law 288 = .ok (.iconst 4, 1) := by decide +kernel
theorem dL_law_289 : decode cL_law 289 = .ok (.iadd, 1) := by decide +kernel
theorem dL_law_290 : decode cL_law 290 = .ok (.iaload, 1) := by decide +kernel
theorem dL_law_291 : decode cL_law 291 = .ok (.aload_n 3, 1) := by decide +kernel
theorem dL_law_292 : decode cL_law 292 = .ok (.invokestatic 75, 3) := by decide +kernel
theorem dL_law_295 : decode cL_law 295 = .ok (.istore 5, 2) := by decide +kernel
theorem dL_law_297 : decode cL_law 297 = .ok (.aload_n 2, 1) := by decide +kernel
theorem dL_law_298 : decode cL_law 298 = .ok (.aload_n 0, 1) := by decide +kernel
theorem dL_law_299 : decode cL_law 299 = .ok (.iload 4, 2) := by decide +kernel
theorem dL_law_301 : decode cL_law 301 = .ok (.iconst 1, 1) := by decide +kernel
theorem dL_law_302 : decode cL_law 302 = .ok (.iadd, 1) := by decide +kernel
theorem dL_law_303 : decode cL_law 303 = .ok (.iaload, 1) := by decide +kernel
theorem dL_law_304 : decode cL_law 304 = .ok (.aload_n 0, 1) := by decide +kernel
theorem dL_law_305 : decode cL_law 305 = .ok (.iload 4, 2) := by decide +kernel
theorem dL_law_307 : decode cL_law 307 = .ok (.iconst 2, 1) := by decide +kernel
theorem dL_law_308 : decode cL_law 308 = .ok (.iadd, 1) := by decide +kernel
theorem dL_law_309 : decode cL_law 309 = .ok (.iaload, 1) := by decide +kernel
theorem dL_law_310 : decode cL_law 310 = .ok (.aload_n 0, 1) := by decide +kernel
theorem dL_law_311 : decode cL_law 311 = .ok (.iload 4, 2) := by decide +kernel
theorem dL_law_313 : decode cL_law 313 = .ok (.iconst 3, 1) := by decide +kernel
theorem dL_law_314 : decode cL_law 314 = .ok (.iadd, 1) := by decide +kernel
theorem dL_law_315 : decode cL_law 315 = .ok (.iaload, 1) := by decide +kernel
theorem dL_law_316 : decode cL_law 316 = .ok (.aload_n 0, 1) := by decide +kernel
theorem dL_law_317 : decode cL_law 317 = .ok (.iload 4, 2) := by decide +kernel
theorem dL_law_319 : decode cL_law 319 = .ok (.iconst 4, 1) := by decide +kernel
theorem dL_law_320 : decode cL_law 320 = .ok (.iadd, 1) := by decide +kernel
theorem dL_law_321 : decode cL_law 321 = .ok (.iaload, 1) := by decide +kernel
theorem dL_law_322 : decode cL_law 322 = .ok (.invokevirtual 78, 3) := by decide +kernel
theorem dL_law_325 : decode cL_law 325 = .ok (.istore 6, 2) := by decide +kernel
theorem dL_law_327 : decode cL_law 327 = .ok (.aload_n 2, 1) := by decide +kernel
theorem dL_law_328 : decode cL_law 328 = .ok (.invokevirtual 65, 3) := by decide +kernel
theorem dL_law_331 : decode cL_law 331 = .ok (.iload 5, 2) := by decide +kernel
theorem dL_law_333 : decode cL_law 333 = .ok (.if_icmp .eq 5, 3) := by decide +kernel
theorem dL_law_336 : decode cL_law 336 = .ok (.iconst 0, 1) := by decide +kernel
theorem dL_law_337 : decode cL_law 337 = .ok (.ireturn, 1) := by decide +kernel
theorem dL_law_338 : decode cL_law 338 = .ok (.iload 5, 2) := by decide +kernel
theorem dL_law_340 : decode cL_law 340 = .ok (.ifCond .ne 22, 3) := by decide +kernel
theorem dL_law_343 : decode cL_law 343 = .ok (.aload_n 3, 1) := by decide +kernel
theorem dL_law_344 : decode cL_law 344 = .ok (.iconst 0, 1) := by decide +kernel
theorem dL_law_345 : decode cL_law 345 = .ok (.laload, 1) := by decide +kernel
theorem dL_law_346 : decode cL_law 346 = .ok (.iload 6, 2) := by decide +kernel
theorem dL_law_348 : decode cL_law 348 = .ok (.ifCond .eq 7, 3) := by decide +kernel
theorem dL_law_351 : decode cL_law 351 = .ok (.lconst 1, 1) := by decide +kernel
theorem dL_law_352 : decode cL_law 352 = .ok (.goto 4, 3) := by decide +kernel
theorem dL_law_355 : decode cL_law 355 = .ok (.lconst 0, 1) := by decide +kernel
theorem dL_law_356 : decode cL_law 356 = .ok (.lcmp, 1) := by decide +kernel
theorem dL_law_357 : decode cL_law 357 = .ok (.ifCond .eq 5, 3) := by decide +kernel
theorem dL_law_360 : decode cL_law 360 = .ok (.iconst 0, 1) := by decide +kernel
theorem dL_law_361 : decode cL_law 361 = .ok (.ireturn, 1) := by decide +kernel
theorem dL_law_362 : decode cL_law 362 = .ok (.goto 649, 3) := by decide +kernel
theorem dL_law_365 : decode cL_law 365 = .ok (.aload_n 1, 1) := by decide +kernel
theorem dL_law_366 : decode cL_law 366 = .ok (.aload_n 0, 1) := by decide +kernel
theorem dL_law_367 : decode cL_law 367 = .ok (.iload 4, 2) := by decide +kernel
theorem dL_law_369 : decode cL_law 369 = .ok (.iconst 1, 1) := by decide +kernel
theorem dL_law_370 : decode cL_law 370 = .ok (.iadd, 1) := by decide +kernel
theorem dL_law_371 : decode cL_law 371 = .ok (.iaload, 1) := by decide +kernel
theorem dL_law_372 : decode cL_law 372 = .ok (.aload_n 0, 1) := by decide +kernel
theorem dL_law_373 : decode cL_law 373 = .ok (.iload 4, 2) := by decide +kernel
theorem dL_law_375 : decode cL_law 375 = .ok (.iconst 2, 1) := by decide +kernel
theorem dL_law_376 : decode cL_law 376 = .ok (.iadd, 1) := by decide +kernel
theorem dL_law_377 : decode cL_law 377 = .ok (.iaload, 1) := by decide +kernel
theorem dL_law_378 : decode cL_law 378 = .ok (.aload_n 0, 1) := by decide +kernel
theorem dL_law_379 : decode cL_law 379 = .ok (.iload 4, 2) := by decide +kernel
theorem dL_law_381 : decode cL_law 381 = .ok (.iconst 3, 1) := by decide +kernel
theorem dL_law_382 : decode cL_law 382 = .ok (.iadd, 1) := by decide +kernel
theorem dL_law_383 : decode cL_law 383 = .ok (.iaload, 1) := by decide +kernel
theorem dL_law_384 : decode cL_law 384 = .ok (.aload_n 3, 1) := by decide +kernel
theorem dL_law_385 : decode cL_law 385 = .ok (.invokestatic 79, 3) := by decide +kernel
theorem dL_law_388 : decode cL_law 388 = .ok (.istore 5, 2) := by decide +kernel
theorem dL_law_390 : decode cL_law 390 = .ok (.aload_n 2, 1) := by decide +kernel
theorem dL_law_391 : decode cL_law 391 = .ok (.aload_n 0, 1) := by decide +kernel
theorem dL_law_392 : decode cL_law 392 = .ok (.iload 4, 2) := by decide +kernel
theorem dL_law_394 : decode cL_law 394 = .ok (.iconst 1, 1) := by decide +kernel
theorem dL_law_395 : decode cL_law 395 = .ok (.iadd, 1) := by decide +kernel
theorem dL_law_396 : decode cL_law 396 = .ok (.iaload, 1) := by decide +kernel
theorem dL_law_397 : decode cL_law 397 = .ok (.aload_n 0, 1) := by decide +kernel
theorem dL_law_398 : decode cL_law 398 = .ok (.iload 4, 2) := by decide +kernel
theorem dL_law_400 : decode cL_law 400 = .ok (.iconst 2, 1) := by decide +kernel
theorem dL_law_401 : decode cL_law 401 = .ok (.iadd, 1) := by decide +kernel
theorem dL_law_402 : decode cL_law 402 = .ok (.iaload, 1) := by decide +kernel
theorem dL_law_403 : decode cL_law 403 = .ok (.aload_n 0, 1) := by decide +kernel
theorem dL_law_404 : decode cL_law 404 = .ok (.iload 4, 2) := by decide +kernel
theorem dL_law_406 : decode cL_law 406 = .ok (.iconst 3, 1) := by decide +kernel
theorem dL_law_407 : decode cL_law 407 = .ok (.iadd, 1) := by decide +kernel
theorem dL_law_408 : decode cL_law 408 = .ok (.iaload, 1) := by decide +kernel
theorem dL_law_409 : decode cL_law 409 = .ok (.invokevirtual 82, 3) := by decide +kernel
theorem dL_law_412 : decode cL_law 412 = .ok (.istore 6, 2) := by decide +kernel
theorem dL_law_414 : decode cL_law 414 = .ok (.aload_n 2, 1) := by decide +kernel
theorem dL_law_415 : decode cL_law 415 = .ok (.invokevirtual 65, 3) := by decide +kernel
theorem dL_law_418 : decode cL_law 418 = .ok (.iload 5, 2) := by decide +kernel
theorem dL_law_420 : decode cL_law 420 = .ok (.if_icmp .eq 5, 3) := by decide +kernel
theorem dL_law_423 : decode cL_law 423 = .ok (.iconst 0, 1) := by decide +kernel
theorem dL_law_424 : decode cL_law 424 = .ok (.ireturn, 1) := by decide +kernel
theorem dL_law_425 : decode cL_law 425 = .ok (.iload 5, 2) := by decide +kernel
theorem dL_law_427 : decode cL_law 427 = .ok (.ifCond .ne 22, 3) := by decide +kernel
theorem dL_law_430 : decode cL_law 430 = .ok (.aload_n 3, 1) := by decide +kernel
theorem dL_law_431 : decode cL_law 431 = .ok (.iconst 0, 1) := by decide +kernel
theorem dL_law_432 : decode cL_law 432 = .ok (.laload, 1) := by decide +kernel
theorem dL_law_433 : decode cL_law 433 = .ok (.iload 6, 2) := by decide +kernel
theorem dL_law_435 : decode cL_law 435 = .ok (.ifCond .eq 7, 3) := by decide +kernel
theorem dL_law_438 : decode cL_law 438 = .ok (.lconst 1, 1) := by decide +kernel
theorem dL_law_439 : decode cL_law 439 = .ok (.goto 4, 3) := by decide +kernel
theorem dL_law_442 : decode cL_law 442 = .ok (.lconst 0, 1) := by decide +kernel
theorem dL_law_443 : decode cL_law 443 = .ok (.lcmp, 1) := by decide +kernel
theorem dL_law_444 : decode cL_law 444 = .ok (.ifCond .eq 5, 3) := by decide +kernel
theorem dL_law_447 : decode cL_law 447 = .ok (.iconst 0, 1) := by decide +kernel
theorem dL_law_448 : decode cL_law 448 = .ok (.ireturn, 1) := by decide +kernel
theorem dL_law_449 : decode cL_law 449 = .ok (.goto 562, 3) := by decide +kernel
theorem dL_law_452 : decode cL_law 452 = .ok (.aload_n 1, 1) := by decide +kernel
theorem dL_law_453 : decode cL_law 453 = .ok (.aload_n 0, 1) := by decide +kernel
theorem dL_law_454 : decode cL_law 454 = .ok (.iload 4, 2) := by decide +kernel
theorem dL_law_456 : decode cL_law 456 = .ok (.iconst 1, 1) := by decide +kernel
theorem dL_law_457 : decode cL_law 457 = .ok (.iadd, 1) := by decide +kernel
theorem dL_law_458 : decode cL_law 458 = .ok (.iaload, 1) := by decide +kernel
theorem dL_law_459 : decode cL_law 459 = .ok (.aload_n 0, 1) := by decide +kernel
theorem dL_law_460 : decode cL_law 460 = .ok (.iload 4, 2) := by decide +kernel
theorem dL_law_462 : decode cL_law 462 = .ok (.iconst 2, 1) := by decide +kernel
theorem dL_law_463 : decode cL_law 463 = .ok (.iadd, 1) := by decide +kernel
theorem dL_law_464 : decode cL_law 464 = .ok (.iaload, 1) := by decide +kernel
theorem dL_law_465 : decode cL_law 465 = .ok (.i2d, 1) := by decide +kernel
theorem dL_law_466 : decode cL_law 466 = .ok (.ldc2_w 69, 3) := by decide +kernel
theorem dL_law_469 : decode cL_law 469 = .ok (.dmul, 1) := by decide +kernel
theorem dL_law_470 : decode cL_law 470 = .ok (.aload_n 3, 1) := by decide +kernel
theorem dL_law_471 : decode cL_law 471 = .ok (.invokestatic 83, 3) := by decide +kernel
theorem dL_law_474 : decode cL_law 474 = .ok (.istore 5, 2) := by decide +kernel
theorem dL_law_476 : decode cL_law 476 = .ok (.aload_n 2, 1) := by decide +kernel
theorem dL_law_477 : decode cL_law 477 = .ok (.aload_n 0, 1) := by decide +kernel
theorem dL_law_478 : decode cL_law 478 = .ok (.iload 4, 2) := by decide +kernel
theorem dL_law_480 : decode cL_law 480 = .ok (.iconst 1, 1) := by decide +kernel
theorem dL_law_481 : decode cL_law 481 = .ok (.iadd, 1) := by decide +kernel
theorem dL_law_482 : decode cL_law 482 = .ok (.iaload, 1) := by decide +kernel
theorem dL_law_483 : decode cL_law 483 = .ok (.aload_n 0, 1) := by decide +kernel
theorem dL_law_484 : decode cL_law 484 = .ok (.iload 4, 2) := by decide +kernel
theorem dL_law_486 : decode cL_law 486 = .ok (.iconst 2, 1) := by decide +kernel
theorem dL_law_487 : decode cL_law 487 = .ok (.iadd, 1) := by decide +kernel
theorem dL_law_488 : decode cL_law 488 = .ok (.iaload, 1) := by decide +kernel
theorem dL_law_489 : decode cL_law 489 = .ok (.i2d, 1) := by decide +kernel
theorem dL_law_490 : decode cL_law 490 = .ok (.ldc2_w 69, 3) := by decide +kernel
theorem dL_law_493 : decode cL_law 493 = .ok (.dmul, 1) := by decide +kernel
theorem dL_law_494 : decode cL_law 494 = .ok (.invokevirtual 86, 3) := by decide +kernel
theorem dL_law_497 : decode cL_law 497 = .ok (.istore 6, 2) := by decide +kernel
theorem dL_law_499 : decode cL_law 499 = .ok (.aload_n 2, 1) := by decide +kernel
theorem dL_law_500 : decode cL_law 500 = .ok (.invokevirtual 65, 3) := by decide +kernel
theorem dL_law_503 : decode cL_law 503 = .ok (.iload 5, 2) := by decide +kernel
theorem dL_law_505 : decode cL_law 505 = .ok (.if_icmp .eq 5, 3) := by decide +kernel
theorem dL_law_508 : decode cL_law 508 = .ok (.iconst 0, 1) := by decide +kernel
theorem dL_law_509 : decode cL_law 509 = .ok (.ireturn, 1) := by decide +kernel
theorem dL_law_510 : decode cL_law 510 = .ok (.iload 5, 2) := by decide +kernel
theorem dL_law_512 : decode cL_law 512 = .ok (.ifCond .ne 22, 3) := by decide +kernel
theorem dL_law_515 : decode cL_law 515 = .ok (.aload_n 3, 1) := by decide +kernel
theorem dL_law_516 : decode cL_law 516 = .ok (.iconst 0, 1) := by decide +kernel
theorem dL_law_517 : decode cL_law 517 = .ok (.laload, 1) := by decide +kernel
theorem dL_law_518 : decode cL_law 518 = .ok (.iload 6, 2) := by decide +kernel
theorem dL_law_520 : decode cL_law 520 = .ok (.ifCond .eq 7, 3) := by decide +kernel
theorem dL_law_523 : decode cL_law 523 = .ok (.lconst 1, 1) := by decide +kernel
theorem dL_law_524 : decode cL_law 524 = .ok (.goto 4, 3) := by decide +kernel
theorem dL_law_527 : decode cL_law 527 = .ok (.lconst 0, 1) := by decide +kernel
theorem dL_law_528 : decode cL_law 528 = .ok (.lcmp, 1) := by decide +kernel
theorem dL_law_529 : decode cL_law 529 = .ok (.ifCond .eq 5, 3) := by decide +kernel
theorem dL_law_532 : decode cL_law 532 = .ok (.iconst 0, 1) := by decide +kernel
theorem dL_law_533 : decode cL_law 533 = .ok (.ireturn, 1) := by decide +kernel
theorem dL_law_534 : decode cL_law 534 = .ok (.goto 477, 3) := by decide +kernel
theorem dL_law_537 : decode cL_law 537 = .ok (.aload_n 1, 1) := by decide +kernel
theorem dL_law_538 : decode cL_law 538 = .ok (.aload_n 0, 1) := by decide +kernel
theorem dL_law_539 : decode cL_law 539 = .ok (.iload 4, 2) := by decide +kernel
theorem dL_law_541 : decode cL_law 541 = .ok (.iconst 1, 1) := by decide +kernel
theorem dL_law_542 : decode cL_law 542 = .ok (.iadd, 1) := by decide +kernel
theorem dL_law_543 : decode cL_law 543 = .ok (.iaload, 1) := by decide +kernel
theorem dL_law_544 : decode cL_law 544 = .ok (.aload_n 0, 1) := by decide +kernel
theorem dL_law_545 : decode cL_law 545 = .ok (.iload 4, 2) := by decide +kernel
theorem dL_law_547 : decode cL_law 547 = .ok (.iconst 2, 1) := by decide +kernel
theorem dL_law_548 : decode cL_law 548 = .ok (.iadd, 1) := by decide +kernel
theorem dL_law_549 : decode cL_law 549 = .ok (.iaload, 1) := by decide +kernel
theorem dL_law_550 : decode cL_law 550 = .ok (.aload_n 0, 1) := by decide +kernel
theorem dL_law_551 : decode cL_law 551 = .ok (.iload 4, 2) := by decide +kernel
theorem dL_law_553 : decode cL_law 553 = .ok (.iconst 3, 1) := by decide +kernel
theorem dL_law_554 : decode cL_law 554 = .ok (.iadd, 1) := by decide +kernel
theorem dL_law_555 : decode cL_law 555 = .ok (.iaload, 1) := by decide +kernel
theorem dL_law_556 : decode cL_law 556 = .ok (.aload_n 3, 1) := by decide +kernel
theorem dL_law_557 : decode cL_law 557 = .ok (.invokestatic 87, 3) := by decide +kernel
theorem dL_law_560 : decode cL_law 560 = .ok (.istore 5, 2) := by decide +kernel
theorem dL_law_562 : decode cL_law 562 = .ok (.aload_n 2, 1) := by decide +kernel
theorem dL_law_563 : decode cL_law 563 = .ok (.aload_n 0, 1) := by decide +kernel
theorem dL_law_564 : decode cL_law 564 = .ok (.iload 4, 2) := by decide +kernel
theorem dL_law_566 : decode cL_law 566 = .ok (.iconst 1, 1) := by decide +kernel
theorem dL_law_567 : decode cL_law 567 = .ok (.iadd, 1) := by decide +kernel
theorem dL_law_568 : decode cL_law 568 = .ok (.iaload, 1) := by decide +kernel
theorem dL_law_569 : decode cL_law 569 = .ok (.aload_n 0, 1) := by decide +kernel
theorem dL_law_570 : decode cL_law 570 = .ok (.iload 4, 2) := by decide +kernel
theorem dL_law_572 : decode cL_law 572 = .ok (.iconst 2, 1) := by decide +kernel
theorem dL_law_573 : decode cL_law 573 = .ok (.iadd, 1) := by decide +kernel
theorem dL_law_574 : decode cL_law 574 = .ok (.iaload, 1) := by decide +kernel
theorem dL_law_575 : decode cL_law 575 = .ok (.aload_n 0, 1) := by decide +kernel
theorem dL_law_576 : decode cL_law 576 = .ok (.iload 4, 2) := by decide +kernel
theorem dL_law_578 : decode cL_law 578 = .ok (.iconst 3, 1) := by decide +kernel
theorem dL_law_579 : decode cL_law 579 = .ok (.iadd, 1) := by decide +kernel
theorem dL_law_580 : decode cL_law 580 = .ok (.iaload, 1) := by decide +kernel
theorem dL_law_581 : decode cL_law 581 = .ok (.invokevirtual 89, 3) := by decide +kernel
theorem dL_law_584 : decode cL_law 584 = .ok (.istore 6, 2) := by decide +kernel
theorem dL_law_586 : decode cL_law 586 = .ok (.aload_n 2, 1) := by decide +kernel
theorem dL_law_587 : decode cL_law 587 = .ok (.invokevirtual 65, 3) := by decide +kernel
theorem dL_law_590 : decode cL_law 590 = .ok (.iload 5, 2) := by decide +kernel
theorem dL_law_592 : decode cL_law 592 = .ok (.if_icmp .eq 5, 3) := by decide +kernel
theorem dL_law_595 : decode cL_law 595 = .ok (.iconst 0, 1) := by decide +kernel
theorem dL_law_596 : decode cL_law 596 = .ok (.ireturn, 1) := by decide +kernel
theorem dL_law_597 : decode cL_law 597 = .ok (.iload 5, 2) := by decide +kernel
theorem dL_law_599 : decode cL_law 599 = .ok (.ifCond .ne 22, 3) := by decide +kernel
theorem dL_law_602 : decode cL_law 602 = .ok (.aload_n 3, 1) := by decide +kernel
theorem dL_law_603 : decode cL_law 603 = .ok (.iconst 0, 1) := by decide +kernel
theorem dL_law_604 : decode cL_law 604 = .ok (.laload, 1) := by decide +kernel
theorem dL_law_605 : decode cL_law 605 = .ok (.iload 6, 2) := by decide +kernel
theorem dL_law_607 : decode cL_law 607 = .ok (.ifCond .eq 7, 3) := by decide +kernel
theorem dL_law_610 : decode cL_law 610 = .ok (.lconst 1, 1) := by decide +kernel
theorem dL_law_611 : decode cL_law 611 = .ok (.goto 4, 3) := by decide +kernel
theorem dL_law_614 : decode cL_law 614 = .ok (.lconst 0, 1) := by decide +kernel
theorem dL_law_615 : decode cL_law 615 = .ok (.lcmp, 1) := by decide +kernel
theorem dL_law_616 : decode cL_law 616 = .ok (.ifCond .eq 5, 3) := by decide +kernel
theorem dL_law_619 : decode cL_law 619 = .ok (.iconst 0, 1) := by decide +kernel
theorem dL_law_620 : decode cL_law 620 = .ok (.ireturn, 1) := by decide +kernel
theorem dL_law_621 : decode cL_law 621 = .ok (.goto 390, 3) := by decide +kernel
theorem dL_law_624 : decode cL_law 624 = .ok (.aload_n 1, 1) := by decide +kernel
theorem dL_law_625 : decode cL_law 625 = .ok (.aload_n 0, 1) := by decide +kernel
theorem dL_law_626 : decode cL_law 626 = .ok (.iload 4, 2) := by decide +kernel
theorem dL_law_628 : decode cL_law 628 = .ok (.iconst 1, 1) := by decide +kernel
theorem dL_law_629 : decode cL_law 629 = .ok (.iadd, 1) := by decide +kernel
theorem dL_law_630 : decode cL_law 630 = .ok (.iaload, 1) := by decide +kernel
theorem dL_law_631 : decode cL_law 631 = .ok (.aload_n 0, 1) := by decide +kernel
theorem dL_law_632 : decode cL_law 632 = .ok (.iload 4, 2) := by decide +kernel
theorem dL_law_634 : decode cL_law 634 = .ok (.iconst 2, 1) := by decide +kernel
theorem dL_law_635 : decode cL_law 635 = .ok (.iadd, 1) := by decide +kernel
theorem dL_law_636 : decode cL_law 636 = .ok (.iaload, 1) := by decide +kernel
theorem dL_law_637 : decode cL_law 637 = .ok (.aload_n 3, 1) := by decide +kernel
theorem dL_law_638 : decode cL_law 638 = .ok (.invokestatic 90, 3) := by decide +kernel
theorem dL_law_641 : decode cL_law 641 = .ok (.istore 5, 2) := by decide +kernel
theorem dL_law_643 : decode cL_law 643 = .ok (.aload_n 2, 1) := by decide +kernel
theorem dL_law_644 : decode cL_law 644 = .ok (.aload_n 0, 1) := by decide +kernel
theorem dL_law_645 : decode cL_law 645 = .ok (.iload 4, 2) := by decide +kernel
theorem dL_law_647 : decode cL_law 647 = .ok (.iconst 1, 1) := by decide +kernel
theorem dL_law_648 : decode cL_law 648 = .ok (.iadd, 1) := by decide +kernel
theorem dL_law_649 : decode cL_law 649 = .ok (.iaload, 1) := by decide +kernel
theorem dL_law_650 : decode cL_law 650 = .ok (.aload_n 0, 1) := by decide +kernel
theorem dL_law_651 : decode cL_law 651 = .ok (.iload 4, 2) := by decide +kernel
theorem dL_law_653 : decode cL_law 653 = .ok (.iconst 2, 1) := by decide +kernel
theorem dL_law_654 : decode cL_law 654 = .ok (.iadd, 1) := by decide +kernel
theorem dL_law_655 : decode cL_law 655 = .ok (.iaload, 1) := by decide +kernel
theorem dL_law_656 : decode cL_law 656 = .ok (.invokevirtual 92, 3) := by decide +kernel
theorem dL_law_659 : decode cL_law 659 = .ok (.istore 6, 2) := by decide +kernel
theorem dL_law_661 : decode cL_law 661 = .ok (.aload_n 2, 1) := by decide +kernel
theorem dL_law_662 : decode cL_law 662 = .ok (.invokevirtual 65, 3) := by decide +kernel
theorem dL_law_665 : decode cL_law 665 = .ok (.iload 5, 2) := by decide +kernel
theorem dL_law_667 : decode cL_law 667 = .ok (.if_icmp .eq 5, 3) := by decide +kernel
theorem dL_law_670 : decode cL_law 670 = .ok (.iconst 0, 1) := by decide +kernel
theorem dL_law_671 : decode cL_law 671 = .ok (.ireturn, 1) := by decide +kernel
theorem dL_law_672 : decode cL_law 672 = .ok (.iload 5, 2) := by decide +kernel
theorem dL_law_674 : decode cL_law 674 = .ok (.ifCond .ne 15, 3) := by decide +kernel
theorem dL_law_677 : decode cL_law 677 = .ok (.aload_n 3, 1) := by decide +kernel
theorem dL_law_678 : decode cL_law 678 = .ok (.iconst 0, 1) := by decide +kernel
theorem dL_law_679 : decode cL_law 679 = .ok (.laload, 1) := by decide +kernel
theorem dL_law_680 : decode cL_law 680 = .ok (.iload 6, 2) := by decide +kernel
theorem dL_law_682 : decode cL_law 682 = .ok (.i2l, 1) := by decide +kernel
theorem dL_law_683 : decode cL_law 683 = .ok (.lcmp, 1) := by decide +kernel
theorem dL_law_684 : decode cL_law 684 = .ok (.ifCond .eq 5, 3) := by decide +kernel
theorem dL_law_687 : decode cL_law 687 = .ok (.iconst 0, 1) := by decide +kernel
theorem dL_law_688 : decode cL_law 688 = .ok (.ireturn, 1) := by decide +kernel
theorem dL_law_689 : decode cL_law 689 = .ok (.goto 322, 3) := by decide +kernel
theorem dL_law_692 : decode cL_law 692 = .ok (.aload_n 1, 1) := by decide +kernel
theorem dL_law_693 : decode cL_law 693 = .ok (.aload_n 0, 1) := by decide +kernel
theorem dL_law_694 : decode cL_law 694 = .ok (.iload 4, 2) := by decide +kernel
theorem dL_law_696 : decode cL_law 696 = .ok (.iconst 1, 1) := by decide +kernel
theorem dL_law_697 : decode cL_law 697 = .ok (.iadd, 1) := by decide +kernel
theorem dL_law_698 : decode cL_law 698 = .ok (.iaload, 1) := by decide +kernel
theorem dL_law_699 : decode cL_law 699 = .ok (.i2l, 1) := by decide +kernel
theorem dL_law_700 : decode cL_law 700 = .ok (.bipush 32, 2) := by decide +kernel
theorem dL_law_702 : decode cL_law 702 = .ok (.lshl, 1) := by decide +kernel
theorem dL_law_703 : decode cL_law 703 = .ok (.aload_n 0, 1) := by decide +kernel
theorem dL_law_704 : decode cL_law 704 = .ok (.iload 4, 2) := by decide +kernel
theorem dL_law_706 : decode cL_law 706 = .ok (.iconst 2, 1) := by decide +kernel
theorem dL_law_707 : decode cL_law 707 = .ok (.iadd, 1) := by decide +kernel
theorem dL_law_708 : decode cL_law 708 = .ok (.iaload, 1) := by decide +kernel
theorem dL_law_709 : decode cL_law 709 = .ok (.i2l, 1) := by decide +kernel
theorem dL_law_710 : decode cL_law 710 = .ok (.ldc2_w 93, 3) := by decide +kernel
theorem dL_law_713 : decode cL_law 713 = .ok (.land, 1) := by decide +kernel
theorem dL_law_714 : decode cL_law 714 = .ok (.lor, 1) := by decide +kernel
theorem dL_law_715 : decode cL_law 715 = .ok (.aload_n 3, 1) := by decide +kernel
theorem dL_law_716 : decode cL_law 716 = .ok (.invokestatic 95, 3) := by decide +kernel
theorem dL_law_719 : decode cL_law 719 = .ok (.istore 5, 2) := by decide +kernel
theorem dL_law_721 : decode cL_law 721 = .ok (.aload_n 2, 1) := by decide +kernel
theorem dL_law_722 : decode cL_law 722 = .ok (.aload_n 0, 1) := by decide +kernel
theorem dL_law_723 : decode cL_law 723 = .ok (.iload 4, 2) := by decide +kernel
theorem dL_law_725 : decode cL_law 725 = .ok (.iconst 1, 1) := by decide +kernel
theorem dL_law_726 : decode cL_law 726 = .ok (.iadd, 1) := by decide +kernel
theorem dL_law_727 : decode cL_law 727 = .ok (.iaload, 1) := by decide +kernel
theorem dL_law_728 : decode cL_law 728 = .ok (.i2l, 1) := by decide +kernel
theorem dL_law_729 : decode cL_law 729 = .ok (.bipush 32, 2) := by decide +kernel
theorem dL_law_731 : decode cL_law 731 = .ok (.lshl, 1) := by decide +kernel
theorem dL_law_732 : decode cL_law 732 = .ok (.aload_n 0, 1) := by decide +kernel
theorem dL_law_733 : decode cL_law 733 = .ok (.iload 4, 2) := by decide +kernel
theorem dL_law_735 : decode cL_law 735 = .ok (.iconst 2, 1) := by decide +kernel
theorem dL_law_736 : decode cL_law 736 = .ok (.iadd, 1) := by decide +kernel
theorem dL_law_737 : decode cL_law 737 = .ok (.iaload, 1) := by decide +kernel
theorem dL_law_738 : decode cL_law 738 = .ok (.i2l, 1) := by decide +kernel
theorem dL_law_739 : decode cL_law 739 = .ok (.ldc2_w 93, 3) := by decide +kernel
theorem dL_law_742 : decode cL_law 742 = .ok (.land, 1) := by decide +kernel
theorem dL_law_743 : decode cL_law 743 = .ok (.lor, 1) := by decide +kernel
theorem dL_law_744 : decode cL_law 744 = .ok (.invokevirtual 98, 3) := by decide +kernel
theorem dL_law_747 : decode cL_law 747 = .ok (.istore 6, 2) := by decide +kernel
theorem dL_law_749 : decode cL_law 749 = .ok (.aload_n 2, 1) := by decide +kernel
theorem dL_law_750 : decode cL_law 750 = .ok (.invokevirtual 65, 3) := by decide +kernel
theorem dL_law_753 : decode cL_law 753 = .ok (.iload 5, 2) := by decide +kernel
theorem dL_law_755 : decode cL_law 755 = .ok (.if_icmp .eq 5, 3) := by decide +kernel
theorem dL_law_758 : decode cL_law 758 = .ok (.iconst 0, 1) := by decide +kernel
theorem dL_law_759 : decode cL_law 759 = .ok (.ireturn, 1) := by decide +kernel
theorem dL_law_760 : decode cL_law 760 = .ok (.iload 5, 2) := by decide +kernel
theorem dL_law_762 : decode cL_law 762 = .ok (.ifCond .ne 15, 3) := by decide +kernel
theorem dL_law_765 : decode cL_law 765 = .ok (.aload_n 3, 1) := by decide +kernel
theorem dL_law_766 : decode cL_law 766 = .ok (.iconst 0, 1) := by decide +kernel
theorem dL_law_767 : decode cL_law 767 = .ok (.laload, 1) := by decide +kernel
theorem dL_law_768 : decode cL_law 768 = .ok (.iload 6, 2) := by decide +kernel
theorem dL_law_770 : decode cL_law 770 = .ok (.i2l, 1) := by decide +kernel
theorem dL_law_771 : decode cL_law 771 = .ok (.lcmp, 1) := by decide +kernel
theorem dL_law_772 : decode cL_law 772 = .ok (.ifCond .eq 5, 3) := by decide +kernel
theorem dL_law_775 : decode cL_law 775 = .ok (.iconst 0, 1) := by decide +kernel
theorem dL_law_776 : decode cL_law 776 = .ok (.ireturn, 1) := by decide +kernel
theorem dL_law_777 : decode cL_law 777 = .ok (.goto 234, 3) := by decide +kernel
theorem dL_law_780 : decode cL_law 780 = .ok (.aload_n 1, 1) := by decide +kernel
theorem dL_law_781 : decode cL_law 781 = .ok (.aload_n 0, 1) := by decide +kernel
theorem dL_law_782 : decode cL_law 782 = .ok (.iload 4, 2) := by decide +kernel
theorem dL_law_784 : decode cL_law 784 = .ok (.iconst 1, 1) := by decide +kernel
theorem dL_law_785 : decode cL_law 785 = .ok (.iadd, 1) := by decide +kernel
theorem dL_law_786 : decode cL_law 786 = .ok (.iaload, 1) := by decide +kernel
theorem dL_law_787 : decode cL_law 787 = .ok (.aload_n 0, 1) := by decide +kernel
theorem dL_law_788 : decode cL_law 788 = .ok (.iload 4, 2) := by decide +kernel
theorem dL_law_790 : decode cL_law 790 = .ok (.iconst 2, 1) := by decide +kernel
theorem dL_law_791 : decode cL_law 791 = .ok (.iadd, 1) := by decide +kernel
theorem dL_law_792 : decode cL_law 792 = .ok (.iaload, 1) := by decide +kernel
theorem dL_law_793 : decode cL_law 793 = .ok (.aload_n 3, 1) := by decide +kernel
theorem dL_law_794 : decode cL_law 794 = .ok (.invokestatic 99, 3) := by decide +kernel
theorem dL_law_797 : decode cL_law 797 = .ok (.istore 5, 2) := by decide +kernel
theorem dL_law_799 : decode cL_law 799 = .ok (.aload_n 2, 1) := by decide +kernel
theorem dL_law_800 : decode cL_law 800 = .ok (.aload_n 0, 1) := by decide +kernel
theorem dL_law_801 : decode cL_law 801 = .ok (.iload 4, 2) := by decide +kernel
theorem dL_law_803 : decode cL_law 803 = .ok (.iconst 1, 1) := by decide +kernel
theorem dL_law_804 : decode cL_law 804 = .ok (.iadd, 1) := by decide +kernel
theorem dL_law_805 : decode cL_law 805 = .ok (.iaload, 1) := by decide +kernel
theorem dL_law_806 : decode cL_law 806 = .ok (.aload_n 0, 1) := by decide +kernel
theorem dL_law_807 : decode cL_law 807 = .ok (.iload 4, 2) := by decide +kernel
theorem dL_law_809 : decode cL_law 809 = .ok (.iconst 2, 1) := by decide +kernel
theorem dL_law_810 : decode cL_law 810 = .ok (.iadd, 1) := by decide +kernel
theorem dL_law_811 : decode cL_law 811 = .ok (.iaload, 1) := by decide +kernel
theorem dL_law_812 : decode cL_law 812 = .ok (.invokevirtual 101, 3) := by decide +kernel
theorem dL_law_815 : decode cL_law 815 = .ok (.istore 6, 2) := by decide +kernel
theorem dL_law_817 : decode cL_law 817 = .ok (.aload_n 2, 1) := by decide +kernel
theorem dL_law_818 : decode cL_law 818 = .ok (.invokevirtual 65, 3) := by decide +kernel
theorem dL_law_821 : decode cL_law 821 = .ok (.iload 5, 2) := by decide +kernel
theorem dL_law_823 : decode cL_law 823 = .ok (.if_icmp .eq 5, 3) := by decide +kernel
theorem dL_law_826 : decode cL_law 826 = .ok (.iconst 0, 1) := by decide +kernel
theorem dL_law_827 : decode cL_law 827 = .ok (.ireturn, 1) := by decide +kernel
theorem dL_law_828 : decode cL_law 828 = .ok (.iload 5, 2) := by decide +kernel
theorem dL_law_830 : decode cL_law 830 = .ok (.ifCond .ne 15, 3) := by decide +kernel
theorem dL_law_833 : decode cL_law 833 = .ok (.aload_n 3, 1) := by decide +kernel
theorem dL_law_834 : decode cL_law 834 = .ok (.iconst 0, 1) := by decide +kernel
theorem dL_law_835 : decode cL_law 835 = .ok (.laload, 1) := by decide +kernel
theorem dL_law_836 : decode cL_law 836 = .ok (.iload 6, 2) := by decide +kernel
theorem dL_law_838 : decode cL_law 838 = .ok (.i2l, 1) := by decide +kernel
theorem dL_law_839 : decode cL_law 839 = .ok (.lcmp, 1) := by decide +kernel
theorem dL_law_840 : decode cL_law 840 = .ok (.ifCond .eq 5, 3) := by decide +kernel
theorem dL_law_843 : decode cL_law 843 = .ok (.iconst 0, 1) := by decide +kernel
theorem dL_law_844 : decode cL_law 844 = .ok (.ireturn, 1) := by decide +kernel
theorem dL_law_845 : decode cL_law 845 = .ok (.goto 166, 3) := by decide +kernel
theorem dL_law_848 : decode cL_law 848 = .ok (.aload_n 1, 1) := by decide +kernel
theorem dL_law_849 : decode cL_law 849 = .ok (.aload_n 0, 1) := by decide +kernel
theorem dL_law_850 : decode cL_law 850 = .ok (.iload 4, 2) := by decide +kernel
theorem dL_law_852 : decode cL_law 852 = .ok (.iconst 1, 1) := by decide +kernel
theorem dL_law_853 : decode cL_law 853 = .ok (.iadd, 1) := by decide +kernel
theorem dL_law_854 : decode cL_law 854 = .ok (.iaload, 1) := by decide +kernel
theorem dL_law_855 : decode cL_law 855 = .ok (.aload_n 3, 1) := by decide +kernel
theorem dL_law_856 : decode cL_law 856 = .ok (.invokestatic 102, 3) := by decide +kernel
theorem dL_law_859 : decode cL_law 859 = .ok (.istore 5, 2) := by decide +kernel
theorem dL_law_861 : decode cL_law 861 = .ok (.aload_n 2, 1) := by decide +kernel
theorem dL_law_862 : decode cL_law 862 = .ok (.aload_n 0, 1) := by decide +kernel
theorem dL_law_863 : decode cL_law 863 = .ok (.iload 4, 2) := by decide +kernel
theorem dL_law_865 : decode cL_law 865 = .ok (.iconst 1, 1) := by decide +kernel
theorem dL_law_866 : decode cL_law 866 = .ok (.iadd, 1) := by decide +kernel
theorem dL_law_867 : decode cL_law 867 = .ok (.iaload, 1) := by decide +kernel
theorem dL_law_868 : decode cL_law 868 = .ok (.invokevirtual 105, 3) := by decide +kernel
theorem dL_law_871 : decode cL_law 871 = .ok (.istore 6, 2) := by decide +kernel
theorem dL_law_873 : decode cL_law 873 = .ok (.aload_n 2, 1) := by decide +kernel
theorem dL_law_874 : decode cL_law 874 = .ok (.invokevirtual 65, 3) := by decide +kernel
theorem dL_law_877 : decode cL_law 877 = .ok (.iload 5, 2) := by decide +kernel
theorem dL_law_879 : decode cL_law 879 = .ok (.if_icmp .eq 5, 3) := by decide +kernel
theorem dL_law_882 : decode cL_law 882 = .ok (.iconst 0, 1) := by decide +kernel
theorem dL_law_883 : decode cL_law 883 = .ok (.ireturn, 1) := by decide +kernel
theorem dL_law_884 : decode cL_law 884 = .ok (.iload 5, 2) := by decide +kernel
theorem dL_law_886 : decode cL_law 886 = .ok (.ifCond .ne 15, 3) := by decide +kernel
theorem dL_law_889 : decode cL_law 889 = .ok (.aload_n 3, 1) := by decide +kernel
theorem dL_law_890 : decode cL_law 890 = .ok (.iconst 0, 1) := by decide +kernel
theorem dL_law_891 : decode cL_law 891 = .ok (.laload, 1) := by decide +kernel
theorem dL_law_892 : decode cL_law 892 = .ok (.iload 6, 2) := by decide +kernel
theorem dL_law_894 : decode cL_law 894 = .ok (.i2l, 1) := by decide +kernel
theorem dL_law_895 : decode cL_law 895 = .ok (.lcmp, 1) := by decide +kernel
theorem dL_law_896 : decode cL_law 896 = .ok (.ifCond .eq 5, 3) := by decide +kernel
theorem dL_law_899 : decode cL_law 899 = .ok (.iconst 0, 1) := by decide +kernel
theorem dL_law_900 : decode cL_law 900 = .ok (.ireturn, 1) := by decide +kernel
theorem dL_law_901 : decode cL_law 901 = .ok (.goto 110, 3) := by decide +kernel
theorem dL_law_904 : decode cL_law 904 = .ok (.aload_n 1, 1) := by decide +kernel
theorem dL_law_905 : decode cL_law 905 = .ok (.aload_n 0, 1) := by decide +kernel
theorem dL_law_906 : decode cL_law 906 = .ok (.iload 4, 2) := by decide +kernel
theorem dL_law_908 : decode cL_law 908 = .ok (.iconst 1, 1) := by decide +kernel
theorem dL_law_909 : decode cL_law 909 = .ok (.iadd, 1) := by decide +kernel
theorem dL_law_910 : decode cL_law 910 = .ok (.iaload, 1) := by decide +kernel
theorem dL_law_911 : decode cL_law 911 = .ok (.aload_n 0, 1) := by decide +kernel
theorem dL_law_912 : decode cL_law 912 = .ok (.iload 4, 2) := by decide +kernel
theorem dL_law_914 : decode cL_law 914 = .ok (.iconst 2, 1) := by decide +kernel
theorem dL_law_915 : decode cL_law 915 = .ok (.iadd, 1) := by decide +kernel
theorem dL_law_916 : decode cL_law 916 = .ok (.iaload, 1) := by decide +kernel
theorem dL_law_917 : decode cL_law 917 = .ok (.aload_n 3, 1) := by decide +kernel
theorem dL_law_918 : decode cL_law 918 = .ok (.invokestatic 106, 3) := by decide +kernel
theorem dL_law_921 : decode cL_law 921 = .ok (.istore 5, 2) := by decide +kernel
theorem dL_law_923 : decode cL_law 923 = .ok (.aload_n 2, 1) := by decide +kernel
theorem dL_law_924 : decode cL_law 924 = .ok (.aload_n 0, 1) := by decide +kernel
theorem dL_law_925 : decode cL_law 925 = .ok (.iload 4, 2) := by decide +kernel
theorem dL_law_927 : decode cL_law 927 = .ok (.iconst 1, 1) := by decide +kernel
theorem dL_law_928 : decode cL_law 928 = .ok (.iadd, 1) := by decide +kernel
theorem dL_law_929 : decode cL_law 929 = .ok (.iaload, 1) := by decide +kernel
theorem dL_law_930 : decode cL_law 930 = .ok (.aload_n 0, 1) := by decide +kernel
theorem dL_law_931 : decode cL_law 931 = .ok (.iload 4, 2) := by decide +kernel
theorem dL_law_933 : decode cL_law 933 = .ok (.iconst 2, 1) := by decide +kernel
theorem dL_law_934 : decode cL_law 934 = .ok (.iadd, 1) := by decide +kernel
theorem dL_law_935 : decode cL_law 935 = .ok (.iaload, 1) := by decide +kernel
theorem dL_law_936 : decode cL_law 936 = .ok (.invokevirtual 108, 3) := by decide +kernel
theorem dL_law_939 : decode cL_law 939 = .ok (.istore 6, 2) := by decide +kernel
theorem dL_law_941 : decode cL_law 941 = .ok (.aload_n 2, 1) := by decide +kernel
theorem dL_law_942 : decode cL_law 942 = .ok (.invokevirtual 65, 3) := by decide +kernel
theorem dL_law_945 : decode cL_law 945 = .ok (.iload 5, 2) := by decide +kernel
theorem dL_law_947 : decode cL_law 947 = .ok (.if_icmp .eq 5, 3) := by decide +kernel
theorem dL_law_950 : decode cL_law 950 = .ok (.iconst 0, 1) := by decide +kernel
theorem dL_law_951 : decode cL_law 951 = .ok (.ireturn, 1) := by decide +kernel
theorem dL_law_952 : decode cL_law 952 = .ok (.iload 5, 2) := by decide +kernel
theorem dL_law_954 : decode cL_law 954 = .ok (.ifCond .ne 15, 3) := by decide +kernel
theorem dL_law_957 : decode cL_law 957 = .ok (.aload_n 3, 1) := by decide +kernel
theorem dL_law_958 : decode cL_law 958 = .ok (.iconst 0, 1) := by decide +kernel
theorem dL_law_959 : decode cL_law 959 = .ok (.laload, 1) := by decide +kernel
theorem dL_law_960 : decode cL_law 960 = .ok (.iload 6, 2) := by decide +kernel
theorem dL_law_962 : decode cL_law 962 = .ok (.i2l, 1) := by decide +kernel
theorem dL_law_963 : decode cL_law 963 = .ok (.lcmp, 1) := by decide +kernel
theorem dL_law_964 : decode cL_law 964 = .ok (.ifCond .eq 5, 3) := by decide +kernel
theorem dL_law_967 : decode cL_law 967 = .ok (.iconst 0, 1) := by decide +kernel
theorem dL_law_968 : decode cL_law 968 = .ok (.ireturn, 1) := by decide +kernel
theorem dL_law_969 : decode cL_law 969 = .ok (.goto 42, 3) := by decide +kernel
theorem dL_law_972 : decode cL_law 972 = .ok (.aload_n 1, 1) := by decide +kernel
theorem dL_law_973 : decode cL_law 973 = .ok (.invokevirtual 109, 3) := by decide +kernel
theorem dL_law_976 : decode cL_law 976 = .ok (.aload_n 2, 1) := by decide +kernel
theorem dL_law_977 : decode cL_law 977 = .ok (.invokevirtual 112, 3) := by decide +kernel
theorem dL_law_980 : decode cL_law 980 = .ok (.if_icmp .eq 31, 3) := by decide +kernel
theorem dL_law_983 : decode cL_law 983 = .ok (.iconst 0, 1) := by decide +kernel
theorem dL_law_984 : decode cL_law 984 = .ok (.ireturn, 1) := by decide +kernel
theorem dL_law_985 : decode cL_law 985 = .ok (.aload_n 1, 1) := by decide +kernel
theorem dL_law_986 : decode cL_law 986 = .ok (.invokevirtual 113, 3) := by decide +kernel
theorem dL_law_989 : decode cL_law 989 = .ok (.aload_n 2, 1) := by decide +kernel
theorem dL_law_990 : decode cL_law 990 = .ok (.invokevirtual 116, 3) := by decide +kernel
theorem dL_law_993 : decode cL_law 993 = .ok (.if_icmp .eq 18, 3) := by decide +kernel
theorem dL_law_996 : decode cL_law 996 = .ok (.iconst 0, 1) := by decide +kernel
theorem dL_law_997 : decode cL_law 997 = .ok (.ireturn, 1) := by decide +kernel
theorem dL_law_998 : decode cL_law 998 = .ok (.aload_n 1, 1) := by decide +kernel
theorem dL_law_999 : decode cL_law 999 = .ok (.invokevirtual 117, 3) := by decide +kernel
theorem dL_law_1002 : decode cL_law 1002 = .ok (.aload_n 2, 1) := by decide +kernel
theorem dL_law_1003 : decode cL_law 1003 = .ok (.invokevirtual 121, 3) := by decide +kernel
theorem dL_law_1006 : decode cL_law 1006 = .ok (.if_icmp .eq 5, 3) := by decide +kernel
theorem dL_law_1009 : decode cL_law 1009 = .ok (.iconst 0, 1) := by decide +kernel
theorem dL_law_1010 : decode cL_law 1010 = .ok (.ireturn, 1) := by decide +kernel
theorem dL_law_1011 : decode cL_law 1011 = .ok (.iinc 4 5, 3) := by decide +kernel
theorem dL_law_1014 : decode cL_law 1014 = .ok (.goto (-991), 3) := by decide +kernel
theorem dL_law_1017 : decode cL_law 1017 = .ok (.iconst 1, 1) := by decide +kernel
theorem dL_law_1018 : decode cL_law 1018 = .ok (.ireturn, 1) := by decide +kernel
