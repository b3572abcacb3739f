theorem dX11_init_0 : decode cX11_init 0 = .ok (.aload_n 0, 1) := by decide +kernel
theorem dX11_init_1 : decode cX11_init 1 = .ok (.invokespecial 1, 3) := by decide +kernel
theorem dX11_init_4 : decode cX11_init 4 = .ok (.aload_n 0, 1) := by decide +kernel
theorem dX11_init_5 : decode cX11_init 5 = .ok (.bipush 80, 2) := by decide +kernel
theorem dX11_init_7 : decode cX11_init 7 = .ok (.newarray .int, 2) := by decide +kernel
theorem dX11_init_9 : decode cX11_init 9 = .ok (.putfield 7, 3) := by decide +kernel
theorem dX11_init_12 : decode cX11_init 12 = .ok (.aload_n 0, 1) := by decide +kernel
theorem dX11_init_13 : decode cX11_init 13 = .ok (.iconst 2, 1) := by decide +kernel
theorem dX11_init_14 : decode cX11_init 14 = .ok (.newarray .int, 2) := by decide +kernel
theorem dX11_init_16 : decode cX11_init 16 = .ok (.putfield 13, 3) := by decide +kernel
theorem dX11_init_19 : decode cX11_init 19 = .ok (.aload_n 0, 1) := by decide +kernel
theorem dX11_init_20 : decode cX11_init 20 = .ok (.bipush 60, 2) := by decide +kernel
theorem dX11_init_22 : decode cX11_init 22 = .ok (.newarray .int, 2) := by decide +kernel
theorem dX11_init_24 : decode cX11_init 24 = .ok (.putfield 16, 3) := by decide +kernel
theorem dX11_init_27 : decode cX11_init 27 = .ok (.aload_n 0, 1) := by decide +kernel
theorem dX11_init_28 : decode cX11_init 28 = .ok (.bipush 60, 2) := by decide +kernel
theorem dX11_init_30 : decode cX11_init 30 = .ok (.newarray .double, 2) := by decide +kernel
theorem dX11_init_32 : decode cX11_init 32 = .ok (.putfield 19, 3) := by decide +kernel
theorem dX11_init_35 : decode cX11_init 35 = .ok (.aload_n 0, 1) := by decide +kernel
theorem dX11_init_36 : decode cX11_init 36 = .ok (.bipush 60, 2) := by decide +kernel
theorem dX11_init_38 : decode cX11_init 38 = .ok (.newarray .boolean, 2) := by decide +kernel
theorem dX11_init_40 : decode cX11_init 40 = .ok (.putfield 23, 3) := by decide +kernel
theorem dX11_init_43 : decode cX11_init 43 = .ok (.aload_n 0, 1) := by decide +kernel
theorem dX11_init_44 : decode cX11_init 44 = .ok (.sipush 240, 3) := by decide +kernel
theorem dX11_init_47 : decode cX11_init 47 = .ok (.newarray .int, 2) := by decide +kernel
theorem dX11_init_49 : decode cX11_init 49 = .ok (.putfield 27, 3) := by decide +kernel
theorem dX11_init_52 : decode cX11_init 52 = .ok (.aload_n 0, 1) := by decide +kernel
theorem dX11_init_53 : decode cX11_init 53 = .ok (.iconst 2, 1) := by decide +kernel
theorem dX11_init_54 : decode cX11_init 54 = .ok (.newarray .int, 2) := by decide +kernel
theorem dX11_init_56 : decode cX11_init 56 = .ok (.putfield 30, 3) := by decide +kernel
theorem dX11_init_59 : decode cX11_init 59 = .ok (.aload_n 0, 1) := by decide +kernel
theorem dX11_init_60 : decode cX11_init 60 = .ok (.bipush 32, 2) := by decide +kernel
theorem dX11_init_62 : decode cX11_init 62 = .ok (.newarray .int, 2) := by decide +kernel
theorem dX11_init_64 : decode cX11_init 64 = .ok (.putfield 33, 3) := by decide +kernel
theorem dX11_init_67 : decode cX11_init 67 = .ok (.aload_n 0, 1) := by decide +kernel
theorem dX11_init_68 : decode cX11_init 68 = .ok (.bipush 8, 2) := by decide +kernel
theorem dX11_init_70 : decode cX11_init 70 = .ok (.newarray .double, 2) := by decide +kernel
theorem dX11_init_72 : decode cX11_init 72 = .ok (.putfield 36, 3) := by decide +kernel
theorem dX11_init_75 : decode cX11_init 75 = .ok (.aload_n 0, 1) := by decide +kernel
theorem dX11_init_76 : decode cX11_init 76 = .ok (.bipush 60, 2) := by decide +kernel
theorem dX11_init_78 : decode cX11_init 78 = .ok (.newarray .int, 2) := by decide +kernel
theorem dX11_init_80 : decode cX11_init 80 = .ok (.putfield 39, 3) := by decide +kernel
theorem dX11_init_83 : decode cX11_init 83 = .ok (.aload_n 0, 1) := by decide +kernel
theorem dX11_init_84 : decode cX11_init 84 = .ok (.bipush 80, 2) := by decide +kernel
theorem dX11_init_86 : decode cX11_init 86 = .ok (.newarray .int, 2) := by decide +kernel
theorem dX11_init_88 : decode cX11_init 88 = .ok (.putfield 42, 3) := by decide +kernel
theorem dX11_init_91 : decode cX11_init 91 = .ok (.aload_n 0, 1) := by decide +kernel
theorem dX11_init_92 : decode cX11_init 92 = .ok (.bipush 60, 2) := by decide +kernel
theorem dX11_init_94 : decode cX11_init 94 = .ok (.newarray .int, 2) := by decide +kernel
theorem dX11_init_96 : decode cX11_init 96 = .ok (.putfield 45, 3) := by decide +kernel
theorem dX11_init_99 : decode cX11_init 99 = .ok (.aload_n 0, 1) := by decide +kernel
theorem dX11_init_100 : decode cX11_init 100 = .ok (.bipush 80, 2) := by decide +kernel
theorem dX11_init_102 : decode cX11_init 102 = .ok (.newarray .int, 2) := by decide +kernel
theorem dX11_init_104 : decode cX11_init 104 = .ok (.putfield 48, 3) := by decide +kernel
theorem dX11_init_107 : decode cX11_init 107 = .ok (.aload_n 0, 1) := by decide +kernel
theorem dX11_init_108 : decode cX11_init 108 = .ok (.sipush 800, 3) := by decide +kernel
theorem dX11_init_111 : decode cX11_init 111 = .ok (.newarray .int, 2) := by decide +kernel
theorem dX11_init_113 : decode cX11_init 113 = .ok (.putfield 51, 3) := by decide +kernel
theorem dX11_init_116 : decode cX11_init 116 = .ok (.aload_n 0, 1) := by decide +kernel
theorem dX11_init_117 : decode cX11_init 117 = .ok (.bipush 60, 2) := by decide +kernel
theorem dX11_init_119 : decode cX11_init 119 = .ok (.newarray .int, 2) := by decide +kernel
theorem dX11_init_121 : decode cX11_init 121 = .ok (.putfield 54, 3) := by decide +kernel
theorem dX11_init_124 : decode cX11_init 124 = .ok (.aload_n 0, 1) := by decide +kernel
theorem dX11_init_125 : decode cX11_init 125 = .ok (.bipush 40, 2) := by decide +kernel
theorem dX11_init_127 : decode cX11_init 127 = .ok (.newarray .int, 2) := by decide +kernel
theorem dX11_init_129 : decode cX11_init 129 = .ok (.putfield 57, 3) := by decide +kernel
theorem dX11_init_132 : decode cX11_init 132 = .ok (.aload_n 0, 1) := by decide +kernel
theorem dX11_init_133 : decode cX11_init 133 = .ok (.bipush 30, 2) := by decide +kernel
theorem dX11_init_135 : decode cX11_init 135 = .ok (.newarray .int, 2) := by decide +kernel
theorem dX11_init_137 : decode cX11_init 137 = .ok (.putfield 60, 3) := by decide +kernel
theorem dX11_init_140 : decode cX11_init 140 = .ok (.aload_n 0, 1) := by decide +kernel
theorem dX11_init_141 : decode cX11_init 141 = .ok (.bipush 31, 2) := by decide +kernel
theorem dX11_init_143 : decode cX11_init 143 = .ok (.newarray .int, 2) := by decide +kernel
theorem dX11_init_145 : decode cX11_init 145 = .ok (.putfield 63, 3) := by decide +kernel
theorem dX11_init_148 : decode cX11_init 148 = .ok (.aload_n 0, 1) := by decide +kernel
theorem dX11_init_149 : decode cX11_init 149 = .ok (.bipush 80, 2) := by decide +kernel
theorem dX11_init_151 : decode cX11_init 151 = .ok (.newarray .boolean, 2) := by decide +kernel
theorem dX11_init_153 : decode cX11_init 153 = .ok (.putfield 66, 3) := by decide +kernel
theorem dX11_init_156 : decode cX11_init 156 = .ok (.aload_n 0, 1) := by decide +kernel
theorem dX11_init_157 : decode cX11_init 157 = .ok (.bipush 40, 2) := by decide +kernel
theorem dX11_init_159 : decode cX11_init 159 = .ok (.newarray .int, 2) := by decide +kernel
theorem dX11_init_161 : decode cX11_init 161 = .ok (.putfield 69, 3) := by decide +kernel
theorem dX11_init_164 : decode cX11_init 164 = .ok (.aload_n 0, 1) := by decide +kernel
theorem dX11_init_165 : decode cX11_init 165 = .ok (.sipush 2480, 3) := by decide +kernel
theorem dX11_init_168 : decode cX11_init 168 = .ok (.newarray .int, 2) := by decide +kernel
theorem dX11_init_170 : decode cX11_init 170 = .ok (.putfield 72, 3) := by decide +kernel
theorem dX11_init_173 : decode cX11_init 173 = .ok (.aload_n 0, 1) := by decide +kernel
theorem dX11_init_174 : decode cX11_init 174 = .ok (.bipush 80, 2) := by decide +kernel
theorem dX11_init_176 : decode cX11_init 176 = .ok (.newarray .int, 2) := by decide +kernel
theorem dX11_init_178 : decode cX11_init 178 = .ok (.putfield 75, 3) := by decide +kernel
theorem dX11_init_181 : decode cX11_init 181 = .ok (.aload_n 0, 1) := by decide +kernel
theorem dX11_init_182 : decode cX11_init 182 = .ok (.bipush 80, 2) := by decide +kernel
theorem dX11_init_184 : decode cX11_init 184 = .ok (.newarray .boolean, 2) := by decide +kernel
theorem dX11_init_186 : decode cX11_init 186 = .ok (.putfield 78, 3) := by decide +kernel
theorem dX11_init_189 : decode cX11_init 189 = .ok (.aload_n 0, 1) := by decide +kernel
theorem dX11_init_190 : decode cX11_init 190 = .ok (.bipush 80, 2) := by decide +kernel
theorem dX11_init_192 : decode cX11_init 192 = .ok (.newarray .int, 2) := by decide +kernel
theorem dX11_init_194 : decode cX11_init 194 = .ok (.putfield 81, 3) := by decide +kernel
theorem dX11_init_197 : decode cX11_init 197 = .ok (.iconst 0, 1) := by decide +kernel
theorem dX11_init_198 : decode cX11_init 198 = .ok (.istore_n 1, 1) := by decide +kernel
theorem dX11_init_199 : decode cX11_init 199 = .ok (.iload_n 1, 1) := by decide +kernel
theorem dX11_init_200 : decode cX11_init 200 = .ok (.bipush 32, 2) := by decide +kernel
theorem dX11_init_202 : decode cX11_init 202 = .ok (.if_icmp .ge 18, 3) := by decide +kernel
theorem dX11_init_205 : decode cX11_init 205 = .ok (.aload_n 0, 1) := by decide +kernel
theorem dX11_init_206 : decode cX11_init 206 = .ok (.getfield 33, 3) := by decide +kernel
theorem dX11_init_209 : decode cX11_init 209 = .ok (.iload_n 1, 1) := by decide +kernel
theorem dX11_init_210 : decode cX11_init 210 = .ok (.iload_n 1, 1) := by decide +kernel
theorem dX11_init_211 : decode cX11_init 211 = .ok (.iconst 4, 1) := by decide +kernel
theorem dX11_init_212 : decode cX11_init 212 = .ok (.irem, 1) := by decide +kernel
theorem dX11_init_213 : decode cX11_init 213 = .ok (.iastore, 1) := by decide +kernel
theorem dX11_init_214 : decode cX11_init 214 = .ok (.iinc 1 1, 3) := by decide +kernel
theorem dX11_init_217 : decode cX11_init 217 = .ok (.goto (-18), 3) := by decide +kernel
theorem dX11_init_220 : decode cX11_init 220 = .ok (.return_, 1) := by decide +kernel
theorem dX11_thrown_0 : decode cX11_thrown 0 = .ok (.aload_n 0, 1) := by decide +kernel
theorem dX11_thrown_1 : decode cX11_thrown 1 = .ok (.getfield 84, 3) := by decide +kernel
theorem dX11_thrown_4 : decode cX11_thrown 4 = .ok (.ireturn, 1) := by decide +kernel
theorem dX11_isSide_0 : decode cX11_isSide 0 = .ok (.iload_n 0, 1) := by decide +kernel
theorem dX11_isSide_1 : decode cX11_isSide 1 = .ok (.ifCond .eq 8, 3) := by decide +kernel
theorem dX11_isSide_4 : decode cX11_isSide 4 = .ok (.iload_n 0, 1) := by decide +kernel
theorem dX11_isSide_5 : decode cX11_isSide 5 = .ok (.iconst 1, 1) := by decide +kernel
theorem dX11_isSide_6 : decode cX11_isSide 6 = .ok (.if_icmp .ne 7, 3) := by decide +kernel
theorem dX11_isSide_9 : decode cX11_isSide 9 = .ok (.iconst 1, 1) := by decide +kernel
theorem dX11_isSide_10 : decode cX11_isSide 10 = .ok (.goto 4, 3) := by decide +kernel
theorem dX11_isSide_13 : decode cX11_isSide 13 = .ok (.iconst 0, 1) := by decide +kernel
theorem dX11_isSide_14 : decode cX11_isSide 14 = .ok (.ireturn, 1) := by decide +kernel
theorem dX11_isNet_0 : decode cX11_isNet 0 = .ok (.iload_n 1, 1) := by decide +kernel
theorem dX11_isNet_1 : decode cX11_isNet 1 = .ok (.invokestatic 88, 3) := by decide +kernel
theorem dX11_isNet_4 : decode cX11_isNet 4 = .ok (.ifCond .eq 21, 3) := by decide +kernel
theorem dX11_isNet_7 : decode cX11_isNet 7 = .ok (.iload_n 2, 1) := by decide +kernel
theorem dX11_isNet_8 : decode cX11_isNet 8 = .ok (.ifCond .lt 17, 3) := by decide +kernel
theorem dX11_isNet_11 : decode cX11_isNet 11 = .ok (.iload_n 2, 1) := by decide +kernel
theorem dX11_isNet_12 : decode cX11_isNet 12 = .ok (.aload_n 0, 1) := by decide +kernel
theorem dX11_isNet_13 : decode cX11_isNet 13 = .ok (.getfield 13, 3) := by decide +kernel
theorem dX11_isNet_16 : decode cX11_isNet 16 = .ok (.iload_n 1, 1) := by decide +kernel
theorem dX11_isNet_17 : decode cX11_isNet 17 = .ok (.iaload, 1) := by decide +kernel
theorem dX11_isNet_18 : decode cX11_isNet 18 = .ok (.if_icmp .ge 7, 3) := by decide +kernel
theorem dX11_isNet_21 : decode cX11_isNet 21 = .ok (.iconst 1, 1) := by decide +kernel
theorem dX11_isNet_22 : decode cX11_isNet 22 = .ok (.goto 4, 3) := by decide +kernel
theorem dX11_isNet_25 : decode cX11_isNet 25 = .ok (.iconst 0, 1) := by decide +kernel
theorem dX11_isNet_26 : decode cX11_isNet 26 = .ok (.ireturn, 1) := by decide +kernel
theorem dX11_isDevice_0 : decode cX11_isDevice 0 = .ok (.iload_n 1, 1) := by decide +kernel
theorem dX11_isDevice_1 : decode cX11_isDevice 1 = .ok (.invokestatic 88, 3) := by decide +kernel
theorem dX11_isDevice_4 : decode cX11_isDevice 4 = .ok (.ifCond .eq 21, 3) := by decide +kernel
theorem dX11_isDevice_7 : decode cX11_isDevice 7 = .ok (.iload_n 2, 1) := by decide +kernel
theorem dX11_isDevice_8 : decode cX11_isDevice 8 = .ok (.ifCond .lt 17, 3) := by decide +kernel
theorem dX11_isDevice_11 : decode cX11_isDevice 11 = .ok (.iload_n 2, 1) := by decide +kernel
theorem dX11_isDevice_12 : decode cX11_isDevice 12 = .ok (.aload_n 0, 1) := by decide +kernel
theorem dX11_isDevice_13 : decode cX11_isDevice 13 = .ok (.getfield 30, 3) := by decide +kernel
theorem dX11_isDevice_16 : decode cX11_isDevice 16 = .ok (.iload_n 1, 1) := by decide +kernel
theorem dX11_isDevice_17 : decode cX11_isDevice 17 = .ok (.iaload, 1) := by decide +kernel
theorem dX11_isDevice_18 : decode cX11_isDevice 18 = .ok (.if_icmp .ge 7, 3) := by decide +kernel
theorem dX11_isDevice_21 : decode cX11_isDevice 21 = .ok (.iconst 1, 1) := by decide +kernel
theorem dX11_isDevice_22 : decode cX11_isDevice 22 = .ok (.goto 4, 3) := by decide +kernel
theorem dX11_isDevice_25 : decode cX11_isDevice 25 = .ok (.iconst 0, 1) := by decide +kernel
theorem dX11_isDevice_26 : decode cX11_isDevice 26 = .ok (.ireturn, 1) := by decide +kernel
theorem dX11_isKind_0 : decode cX11_isKind 0 = .ok (.iload_n 0, 1) := by decide +kernel
theorem dX11_isKind_1 : decode cX11_isKind 1 = .ok (.ifCond .lt 13, 3) := by decide +kernel
theorem dX11_isKind_4 : decode cX11_isKind 4 = .ok (.iload_n 0, 1) := by decide +kernel
theorem dX11_isKind_5 : decode cX11_isKind 5 = .ok (.bipush 8, 2) := by decide +kernel
theorem dX11_isKind_7 : decode cX11_isKind 7 = .ok (.if_icmp .ge 7, 3) := by decide +kernel
theorem dX11_isKind_10 : decode cX11_isKind 10 = .ok (.iconst 1, 1) := by decide +kernel
theorem dX11_isKind_11 : decode cX11_isKind 11 = .ok (.goto 4, 3) := by decide +kernel
theorem dX11_isKind_14 : decode cX11_isKind 14 = .ok (.iconst 0, 1) := by decide +kernel
theorem dX11_isKind_15 : decode cX11_isKind 15 = .ok (.ireturn, 1) := by decide +kernel
theorem dX11_isPin_0 : decode cX11_isPin 0 = .ok (.iload_n 0, 1) := by decide +kernel
theorem dX11_isPin_1 : decode cX11_isPin 1 = .ok (.ifCond .lt 12, 3) := by decide +kernel
theorem dX11_isPin_4 : decode cX11_isPin 4 = .ok (.iload_n 0, 1) := by decide +kernel
theorem dX11_isPin_5 : decode cX11_isPin 5 = .ok (.iconst 4, 1) := by decide +kernel
theorem dX11_isPin_6 : decode cX11_isPin 6 = .ok (.if_icmp .ge 7, 3) := by decide +kernel
theorem dX11_isPin_9 : decode cX11_isPin 9 = .ok (.iconst 1, 1) := by decide +kernel
theorem dX11_isPin_10 : decode cX11_isPin 10 = .ok (.goto 4, 3) := by decide +kernel
theorem dX11_isPin_13 : decode cX11_isPin 13 = .ok (.iconst 0, 1) := by decide +kernel
theorem dX11_isPin_14 : decode cX11_isPin 14 = .ok (.ireturn, 1) := by decide +kernel
theorem dX11_net_0 : decode cX11_net 0 = .ok (.aload_n 0, 1) := by decide +kernel
theorem dX11_net_1 : decode cX11_net 1 = .ok (.iload_n 1, 1) := by decide +kernel
theorem dX11_net_2 : decode cX11_net 2 = .ok (.invokestatic 88, 3) := by decide +kernel
theorem dX11_net_5 : decode cX11_net 5 = .ok (.ifCond .ne 7, 3) := by decide +kernel
theorem dX11_net_8 : decode cX11_net 8 = .ok (.iconst 1, 1) := by decide +kernel
theorem dX11_net_9 : decode cX11_net 9 = .ok (.goto 27, 3) := by decide +kernel
theorem dX11_net_12 : decode cX11_net 12 = .ok (.aload_n 0, 1) := by decide +kernel
theorem dX11_net_13 : decode cX11_net 13 = .ok (.getfield 13, 3) := by decide +kernel
theorem dX11_net_16 : decode cX11_net 16 = .ok (.iload_n 1, 1) := by decide +kernel
theorem dX11_net_17 : decode cX11_net 17 = .ok (.iaload, 1) := by decide +kernel
theorem dX11_net_18 : decode cX11_net 18 = .ok (.bipush 40, 2) := by decide +kernel
theorem dX11_net_20 : decode cX11_net 20 = .ok (.if_icmp .ne 7, 3) := by decide +kernel
theorem dX11_net_23 : decode cX11_net 23 = .ok (.iconst 2, 1) := by decide +kernel
theorem dX11_net_24 : decode cX11_net 24 = .ok (.goto 12, 3) := by decide +kernel
theorem dX11_net_27 : decode cX11_net 27 = .ok (.iload_n 2, 1) := by decide +kernel
theorem dX11_net_28 : decode cX11_net 28 = .ok (.ifCond .ge 7, 3) := by decide +kernel
theorem dX11_net_31 : decode cX11_net 31 = .ok (.iconst 3, 1) := by decide +kernel
theorem dX11_net_32 : decode cX11_net 32 = .ok (.goto 4, 3) := by decide +kernel
theorem dX11_net_35 : decode cX11_net 35 = .ok (.iconst 0, 1) := by decide +kernel
theorem dX11_net_36 : decode cX11_net 36 = .ok (.putfield 84, 3) := by decide +kernel
theorem dX11_net_39 : decode cX11_net 39 = .ok (.aload_n 0, 1) := by decide +kernel
theorem dX11_net_40 : decode cX11_net 40 = .ok (.getfield 84, 3) := by decide +kernel
theorem dX11_net_43 : decode cX11_net 43 = .ok (.ifCond .le 5, 3) := by decide +kernel
theorem dX11_net_46 : decode cX11_net 46 = .ok (.iconst 0, 1) := by decide +kernel
theorem dX11_net_47 : decode cX11_net 47 = .ok (.ireturn, 1) := by decide +kernel
theorem dX11_net_48 : decode cX11_net 48 = .ok (.aload_n 0, 1) := by decide +kernel
theorem dX11_net_49 : decode cX11_net 49 = .ok (.getfield 7, 3) := by decide +kernel
theorem dX11_net_52 : decode cX11_net 52 = .ok (.bipush 40, 2) := by decide +kernel
theorem dX11_net_54 : decode cX11_net 54 = .ok (.iload_n 1, 1) := by decide +kernel
theorem dX11_net_55 : decode cX11_net 55 = .ok (.imul, 1) := by decide +kernel
theorem dX11_net_56 : decode cX11_net 56 = .ok (.aload_n 0, 1) := by decide +kernel
theorem dX11_net_57 : decode cX11_net 57 = .ok (.getfield 13, 3) := by decide +kernel
theorem dX11_net_60 : decode cX11_net 60 = .ok (.iload_n 1, 1) := by decide +kernel
theorem dX11_net_61 : decode cX11_net 61 = .ok (.iaload, 1) := by decide +kernel
theorem dX11_net_62 : decode cX11_net 62 = .ok (.iadd, 1) := by decide +kernel
theorem dX11_net_63 : decode cX11_net 63 = .ok (.iconst (-1), 1) := by decide +kernel
theorem dX11_net_64 : decode cX11_net 64 = .ok (.iastore, 1) := by decide +kernel
theorem dX11_net_65 : decode cX11_net 65 = .ok (.aload_n 0, 1) := by decide +kernel
theorem dX11_net_66 : decode cX11_net 66 = .ok (.getfield 13, 3) := by decide +kernel
theorem dX11_net_69 : decode cX11_net 69 = .ok (.iload_n 1, 1) := by decide +kernel
theorem dX11_net_70 : decode cX11_net 70 = .ok (.dup2, 1) := by decide +kernel
theorem dX11_net_71 : decode cX11_net 71 = .ok (.iaload, 1) := by decide +kernel
theorem dX11_net_72 : decode cX11_net 72 = .ok (.iconst 1, 1) := by decide +kernel
theorem dX11_net_73 : decode cX11_net 73 = .ok (.iadd, 1) := by decide +kernel
theorem dX11_net_74 : decode cX11_net 74 = .ok (.iastore, 1) := by decide +kernel
theorem dX11_net_75 : decode cX11_net 75 = .ok (.aload_n 0, 1) := by decide +kernel
theorem dX11_net_76 : decode cX11_net 76 = .ok (.getfield 13, 3) := by decide +kernel
theorem dX11_net_79 : decode cX11_net 79 = .ok (.iload_n 1, 1) := by decide +kernel
theorem dX11_net_80 : decode cX11_net 80 = .ok (.iaload, 1) := by decide +kernel
theorem dX11_net_81 : decode cX11_net 81 = .ok (.iconst 1, 1) := by decide +kernel
theorem dX11_net_82 : decode cX11_net 82 = .ok (.isub, 1) := by decide +kernel
theorem dX11_net_83 : decode cX11_net 83 = .ok (.ireturn, 1) := by decide +kernel
theorem dX11_device_0 : decode cX11_device 0 = .ok (.aload_n 0, 1) := by decide +kernel
theorem dX11_device_1 : decode cX11_device 1 = .ok (.iload_n 1, 1) := by decide +kernel
theorem dX11_device_2 : decode cX11_device 2 = .ok (.invokestatic 88, 3) := by decide +kernel
theorem dX11_device_5 : decode cX11_device 5 = .ok (.ifCond .eq 10, 3) := by decide +kernel
theorem dX11_device_8 : decode cX11_device 8 = .ok (.iload_n 2, 1) := by decide +kernel
theorem dX11_device_9 : decode cX11_device 9 = .ok (.invokestatic 92, 3) := by decide +kernel
theorem dX11_device_12 : decode cX11_device 12 = .ok (.ifCond .ne 7, 3) := by decide +kernel
theorem dX11_device_15 : decode cX11_device 15 = .ok (.iconst 1, 1) := by decide +kernel
theorem dX11_device_16 : decode cX11_device 16 = .ok (.goto 37, 3) := by decide +kernel
theorem dX11_device_19 : decode cX11_device 19 = .ok (.aload_n 0, 1) := by decide +kernel
theorem dX11_device_20 : decode cX11_device 20 = .ok (.getfield 30, 3) := by decide +kernel
theorem dX11_device_23 : decode cX11_device 23 = .ok (.iload_n 1, 1) := by decide +kernel
theorem dX11_device_24 : decode cX11_device 24 = .ok (.iaload, 1) := by decide +kernel
theorem dX11_device_25 : decode cX11_device 25 = .ok (.bipush 30, 2) := by decide +kernel
theorem dX11_device_27 : decode cX11_device 27 = .ok (.if_icmp .ne 7, 3) := by decide +kernel
theorem dX11_device_30 : decode cX11_device 30 = .ok (.iconst 2, 1) := by decide +kernel
theorem dX11_device_31 : decode cX11_device 31 = .ok (.goto 22, 3) := by decide +kernel
theorem dX11_device_34 : decode cX11_device 34 = .ok (.dload_n 3, 1) := by decide +kernel
theorem dX11_device_35 : decode cX11_device 35 = .ok (.dconst 0, 1) := by decide +kernel
theorem dX11_device_36 : decode cX11_device 36 = .ok (.dcmp .l, 1) := by decide +kernel
theorem dX11_device_37 : decode cX11_device 37 = .ok (.ifCond .le 15, 3) := by decide +kernel
theorem dX11_device_40 : decode cX11_device 40 = .ok (.dload_n 3, 1) := by decide +kernel
theorem dX11_device_41 : decode cX11_device 41 = .ok (.ldc2_w 95, 3) := by decide +kernel
theorem dX11_device_44 : decode cX11_device 44 = .ok (.dcmp .g, 1) := by decide +kernel
theorem dX11_device_45 : decode cX11_device 45 = .ok (.ifCond .gt 7, 3) := by decide +kernel
theorem dX11_device_48 : decode cX11_device 48 = .ok (.iconst 0, 1) := by decide +kernel
theorem dX11_device_49 : decode cX11_device 49 = .ok (.goto 4, 3) := by decide +kernel
theorem dX11_device_52 : decode cX11_device 52 = .ok (.iconst 3, 1) := by decide +kernel
theorem dX11_device_53 : decode cX11_device 53 = .ok (.putfield 84, 3) := by decide +kernel
theorem dX11_device_56 : decode cX11_device 56 = .ok (.aload_n 0, 1) := by decide +kernel
theorem dX11_device_57 : decode cX11_device 57 = .ok (.getfield 84, 3) := by decide +kernel
theorem dX11_device_60 : decode cX11_device 60 = .ok (.ifCond .le 5, 3) := by decide +kernel
theorem dX11_device_63 : decode cX11_device 63 = .ok (.iconst 0, 1) := by decide +kernel
theorem dX11_device_64 : decode cX11_device 64 = .ok (.ireturn, 1) := by decide +kernel
theorem dX11_device_65 : decode cX11_device 65 = .ok (.bipush 30, 2) := by decide +kernel
theorem dX11_device_67 : decode cX11_device 67 = .ok (.iload_n 1, 1) := by decide +kernel
theorem dX11_device_68 : decode cX11_device 68 = .ok (.imul, 1) := by decide +kernel
theorem dX11_device_69 : decode cX11_device 69 = .ok (.aload_n 0, 1) := by decide +kernel
theorem dX11_device_70 : decode cX11_device 70 = .ok (.getfield 30, 3) := by decide +kernel
theorem dX11_device_73 : decode cX11_device 73 = .ok (.iload_n 1, 1) := by decide +kernel
theorem dX11_device_74 : decode cX11_device 74 = .ok (.iaload, 1) := by decide +kernel
theorem dX11_device_75 : decode cX11_device 75 = .ok (.iadd, 1) := by decide +kernel
theorem dX11_device_76 : decode cX11_device 76 = .ok (.istore 5, 2) := by decide +kernel
theorem dX11_device_78 : decode cX11_device 78 = .ok (.aload_n 0, 1) := by decide +kernel
theorem dX11_device_79 : decode cX11_device 79 = .ok (.getfield 16, 3) := by decide +kernel
theorem dX11_device_82 : decode cX11_device 82 = .ok (.iload 5, 2) := by decide +kernel
theorem dX11_device_84 : decode cX11_device 84 = .ok (.iload_n 2, 1) := by decide +kernel
theorem dX11_device_85 : decode cX11_device 85 = .ok (.iastore, 1) := by decide +kernel
theorem dX11_device_86 : decode cX11_device 86 = .ok (.aload_n 0, 1) := by decide +kernel
theorem dX11_device_87 : decode cX11_device 87 = .ok (.getfield 19, 3) := by decide +kernel
theorem dX11_device_90 : decode cX11_device 90 = .ok (.iload 5, 2) := by decide +kernel
theorem dX11_device_92 : decode cX11_device 92 = .ok (.dload_n 3, 1) := by decide +kernel
theorem dX11_device_93 : decode cX11_device 93 = .ok (.dastore, 1) := by decide +kernel
theorem dX11_device_94 : decode cX11_device 94 = .ok (.aload_n 0, 1) := by decide +kernel
theorem dX11_device_95 : decode cX11_device 95 = .ok (.getfield 23, 3) := by decide +kernel
theorem dX11_device_98 : decode cX11_device 98 = .ok (.iload 5, 2) := by decide +kernel
theorem dX11_device_100 : decode cX11_device 100 = .ok (.iconst 0, 1) := by decide +kernel
theorem dX11_device_101 : decode cX11_device 101 = .ok (.bastore, 1) := by decide +kernel
theorem dX11_device_102 : decode cX11_device 102 = .ok (.iconst 0, 1) := by decide +kernel
theorem dX11_device_103 : decode cX11_device 103 = .ok (.istore 6, 2) := by decide +kernel
theorem dX11_device_105 : decode cX11_device 105 = .ok (.iload 6, 2) := by decide +kernel
theorem dX11_device_107 : decode cX11_device 107 = .ok (.iconst 4, 1) := by decide +kernel
theorem dX11_device_108 : decode cX11_device 108 = .ok (.if_icmp .ge 22, 3) := by decide +kernel
theorem dX11_device_111 : decode cX11_device 111 = .ok (.aload_n 0, 1) := by decide +kernel
theorem dX11_device_112 : decode cX11_device 112 = .ok (.getfield 27, 3) := by decide +kernel
theorem dX11_device_115 : decode cX11_device 115 = .ok (.iconst 4, 1) := by decide +kernel
theorem dX11_device_116 : decode cX11_device 116 = .ok (.iload 5, 2) := by decide +kernel
theorem dX11_device_118 : decode cX11_device 118 = .ok (.imul, 1) := by decide +kernel
theorem dX11_device_119 : decode cX11_device 119 = .ok (.iload 6, 2) := by decide +kernel
theorem dX11_device_121 : decode cX11_device 121 = .ok (.iadd, 1) := by decide +kernel
theorem dX11_device_122 : decode cX11_device 122 = .ok (.iconst (-1), 1) := by decide +kernel
theorem dX11_device_123 : decode cX11_device 123 = .ok (.iastore, 1) := by decide +kernel
theorem dX11_device_124 : decode cX11_device 124 = .ok (.iinc 6 1, 3) := by decide +kernel
theorem dX11_device_127 : decode cX11_device 127 = .ok (.goto (-22), 3) := by decide +kernel
theorem dX11_device_130 : decode cX11_device 130 = .ok (.aload_n 0, 1) := by decide +kernel
theorem dX11_device_131 : decode cX11_device 131 = .ok (.getfield 54, 3) := by decide +kernel
theorem dX11_device_134 : decode cX11_device 134 = .ok (.iload 5, 2) := by decide +kernel
theorem dX11_device_136 : decode cX11_device 136 = .ok (.iconst (-1), 1) := by decide +kernel
theorem dX11_device_137 : decode cX11_device 137 = .ok (.iastore, 1) := by decide +kernel
theorem dX11_device_138 : decode cX11_device 138 = .ok (.aload_n 0, 1) := by decide +kernel
theorem dX11_device_139 : decode cX11_device 139 = .ok (.getfield 30, 3) := by decide +kernel
theorem dX11_device_142 : decode cX11_device 142 = .ok (.iload_n 1, 1) := by decide +kernel
theorem dX11_device_143 : decode cX11_device 143 = .ok (.dup2, 1) := by decide +kernel
theorem dX11_device_144 : decode cX11_device 144 = .ok (.iaload, 1) := by decide +kernel
theorem dX11_device_145 : decode cX11_device 145 = .ok (.iconst 1, 1) := by decide +kernel
theorem dX11_device_146 : decode cX11_device 146 = .ok (.iadd, 1) := by decide +kernel
theorem dX11_device_147 : decode cX11_device 147 = .ok (.iastore, 1) := by decide +kernel
theorem dX11_device_148 : decode cX11_device 148 = .ok (.aload_n 0, 1) := by decide +kernel
theorem dX11_device_149 : decode cX11_device 149 = .ok (.getfield 30, 3) := by decide +kernel
theorem dX11_device_152 : decode cX11_device 152 = .ok (.iload_n 1, 1) := by decide +kernel
theorem dX11_device_153 : decode cX11_device 153 = .ok (.iaload, 1) := by decide +kernel
theorem dX11_device_154 : decode cX11_device 154 = .ok (.iconst 1, 1) := by decide +kernel
theorem dX11_device_155 : decode cX11_device 155 = .ok (.isub, 1) := by decide +kernel
theorem dX11_device_156 : decode cX11_device 156 = .ok (.ireturn, 1) := by decide +kernel
theorem dX11_pin_0 : decode cX11_pin 0 = .ok (.aload_n 0, 1) := by decide +kernel
theorem dX11_pin_1 : decode cX11_pin 1 = .ok (.aload_n 0, 1) := by decide +kernel
theorem dX11_pin_2 : decode cX11_pin 2 = .ok (.iload_n 1, 1) := by decide +kernel
theorem dX11_pin_3 : decode cX11_pin 3 = .ok (.iload_n 2, 1) := by decide +kernel
theorem dX11_pin_4 : decode cX11_pin 4 = .ok (.invokevirtual 97, 3) := by decide +kernel
theorem dX11_pin_7 : decode cX11_pin 7 = .ok (.ifCond .eq 40, 3) := by decide +kernel
theorem dX11_pin_10 : decode cX11_pin 10 = .ok (.aload_n 0, 1) := by decide +kernel
theorem dX11_pin_11 : decode cX11_pin 11 = .ok (.getfield 23, 3) := by decide +kernel
theorem dX11_pin_14 : decode cX11_pin 14 = .ok (.bipush 30, 2) := by decide +kernel
theorem dX11_pin_16 : decode cX11_pin 16 = .ok (.iload_n 1, 1) := by decide +kernel
theorem dX11_pin_17 : decode cX11_pin 17 = .ok (.imul, 1) := by decide +kernel
theorem dX11_pin_18 : decode cX11_pin 18 = .ok (.iload_n 2, 1) := by decide +kernel
theorem dX11_pin_19 : decode cX11_pin 19 = .ok (.iadd, 1) := by decide +kernel
theorem dX11_pin_20 : decode cX11_pin 20 = .ok (.baload, 1) := by decide +kernel
theorem dX11_pin_21 : decode cX11_pin 21 = .ok (.ifCond .ne 26, 3) := by decide +kernel
theorem dX11_pin_24 : decode cX11_pin 24 = .ok (.iload_n 3, 1) := by decide +kernel
theorem dX11_pin_25 : decode cX11_pin 25 = .ok (.invokestatic 101, 3) := by decide +kernel
theorem dX11_pin_28 : decode cX11_pin 28 = .ok (.ifCond .eq 19, 3) := by decide +kernel
theorem dX11_pin_31 : decode cX11_pin 31 = .ok (.iload 4, 2) := by decide +kernel
theorem dX11_pin_33 : decode cX11_pin 33 = .ok (.iconst (-1), 1) := by decide +kernel
theorem dX11_pin_34 : decode cX11_pin 34 = .ok (.if_icmp .eq 17, 3) := by decide +kernel
theorem dX11_pin_37 : decode cX11_pin 37 = .ok (.aload_n 0, 1) := by decide +kernel
theorem dX11_pin_38 : decode cX11_pin 38 = .ok (.iload_n 1, 1) := by decide +kernel
theorem dX11_pin_39 : decode cX11_pin 39 = .ok (.iload 4, 2) := by decide +kernel
theorem dX11_pin_41 : decode cX11_pin 41 = .ok (.invokevirtual 104, 3) := by decide +kernel
theorem dX11_pin_44 : decode cX11_pin 44 = .ok (.ifCond .ne 7, 3) := by decide +kernel
theorem dX11_pin_47 : decode cX11_pin 47 = .ok (.iconst 1, 1) := by decide +kernel
theorem dX11_pin_48 : decode cX11_pin 48 = .ok (.goto 4, 3) := by decide +kernel
theorem dX11_pin_51 : decode cX11_pin 51 = .ok (.iconst 0, 1) := by decide +kernel
theorem dX11_pin_52 : decode cX11_pin 52 = .ok (.putfield 84, 3) := by decide +kernel
theorem dX11_pin_55 : decode cX11_pin 55 = .ok (.aload_n 0, 1) := by decide +kernel
theorem dX11_pin_56 : decode cX11_pin 56 = .ok (.getfield 84, 3) := by decide +kernel
theorem dX11_pin_59 : decode cX11_pin 59 = .ok (.ifCond .le 5, 3) := by decide +kernel
theorem dX11_pin_62 : decode cX11_pin 62 = .ok (.iconst 0, 1) := by decide +kernel
theorem dX11_pin_63 : decode cX11_pin 63 = .ok (.ireturn, 1) := by decide +kernel
theorem dX11_pin_64 : decode cX11_pin 64 = .ok (.iconst 4, 1) := by decide +kernel
theorem dX11_pin_65 : decode cX11_pin 65 = .ok (.bipush 30, 2) := by decide +kernel
theorem dX11_pin_67 : decode cX11_pin 67 = .ok (.iload_n 1, 1) := by decide +kernel
theorem dX11_pin_68 : decode cX11_pin 68 = .ok (.imul, 1) := by decide +kernel
theorem dX11_pin_69 : decode cX11_pin 69 = .ok (.iload_n 2, 1) := by decide +kernel
theorem dX11_pin_70 : decode cX11_pin 70 = .ok (.iadd, 1) := by decide +kernel
theorem dX11_pin_71 : decode cX11_pin 71 = .ok (.imul, 1) := by decide +kernel
theorem dX11_pin_72 : decode cX11_pin 72 = .ok (.iload_n 3, 1) := by decide +kernel
theorem dX11_pin_73 : decode cX11_pin 73 = .ok (.iadd, 1) := by decide +kernel
theorem dX11_pin_74 : decode cX11_pin 74 = .ok (.istore 5, 2) := by decide +kernel
theorem dX11_pin_76 : decode cX11_pin 76 = .ok (.aload_n 0, 1) := by decide +kernel
theorem dX11_pin_77 : decode cX11_pin 77 = .ok (.getfield 27, 3) := by decide +kernel
theorem dX11_pin_80 : decode cX11_pin 80 = .ok (.iload 5, 2) := by decide +kernel
theorem dX11_pin_82 : decode cX11_pin 82 = .ok (.iaload, 1) := by decide +kernel
theorem dX11_pin_83 : decode cX11_pin 83 = .ok (.iload 4, 2) := by decide +kernel
theorem dX11_pin_85 : decode cX11_pin 85 = .ok (.if_icmp .eq 7, 3) := by decide +kernel
theorem dX11_pin_88 : decode cX11_pin 88 = .ok (.iconst 1, 1) := by decide +kernel
theorem dX11_pin_89 : decode cX11_pin 89 = .ok (.goto 4, 3) := by decide +kernel
theorem dX11_pin_92 : decode cX11_pin 92 = .ok (.iconst 0, 1) := by decide +kernel
theorem dX11_pin_93 : decode cX11_pin 93 = .ok (.istore 6, 2) := by decide +kernel
theorem dX11_pin_95 : decode cX11_pin 95 = .ok (.aload_n 0, 1) := by decide +kernel
theorem dX11_pin_96 : decode cX11_pin 96 = .ok (.getfield 27, 3) := by decide +kernel
theorem dX11_pin_99 : decode cX11_pin 99 = .ok (.iload 5, 2) := by decide +kernel
theorem dX11_pin_101 : decode cX11_pin 101 = .ok (.iload 4, 2) := by decide +kernel
theorem dX11_pin_103 : decode cX11_pin 103 = .ok (.iastore, 1) := by decide +kernel
theorem dX11_pin_104 : decode cX11_pin 104 = .ok (.iload 6, 2) := by decide +kernel
theorem dX11_pin_106 : decode cX11_pin 106 = .ok (.ireturn, 1) := by decide +kernel
theorem dX11_swap_0 : decode cX11_swap 0 = .ok (.aload_n 0, 1) := by decide +kernel
theorem dX11_swap_1 : decode cX11_swap 1 = .ok (.iload_n 1, 1) := by decide +kernel
theorem dX11_swap_2 : decode cX11_swap 2 = .ok (.invokestatic 92, 3) := by decide +kernel
theorem dX11_swap_5 : decode cX11_swap 5 = .ok (.ifCond .eq 21, 3) := by decide +kernel
theorem dX11_swap_8 : decode cX11_swap 8 = .ok (.iload_n 2, 1) := by decide +kernel
theorem dX11_swap_9 : decode cX11_swap 9 = .ok (.invokestatic 101, 3) := by decide +kernel
theorem dX11_swap_12 : decode cX11_swap 12 = .ok (.ifCond .eq 14, 3) := by decide +kernel
theorem dX11_swap_15 : decode cX11_swap 15 = .ok (.iload_n 3, 1) := by decide +kernel
theorem dX11_swap_16 : decode cX11_swap 16 = .ok (.invokestatic 101, 3) := by decide +kernel
theorem dX11_swap_19 : decode cX11_swap 19 = .ok (.ifCond .eq 7, 3) := by decide +kernel
theorem dX11_swap_22 : decode cX11_swap 22 = .ok (.iconst 0, 1) := by decide +kernel
theorem dX11_swap_23 : decode cX11_swap 23 = .ok (.goto 4, 3) := by decide +kernel
theorem dX11_swap_26 : decode cX11_swap 26 = .ok (.iconst 1, 1) := by decide +kernel
theorem dX11_swap_27 : decode cX11_swap 27 = .ok (.putfield 84, 3) := by decide +kernel
theorem dX11_swap_30 : decode cX11_swap 30 = .ok (.aload_n 0, 1) := by decide +kernel
theorem dX11_swap_31 : decode cX11_swap 31 = .ok (.getfield 84, 3) := by decide +kernel
theorem dX11_swap_34 : decode cX11_swap 34 = .ok (.ifCond .le 5, 3) := by decide +kernel
theorem dX11_swap_37 : decode cX11_swap 37 = .ok (.iconst 0, 1) := by decide +kernel
theorem dX11_swap_38 : decode cX11_swap 38 = .ok (.ireturn, 1) := by decide +kernel
theorem dX11_swap_39 : decode cX11_swap 39 = .ok (.aload_n 0, 1) := by decide +kernel
theorem dX11_swap_40 : decode cX11_swap 40 = .ok (.getfield 33, 3) := by decide +kernel
theorem dX11_swap_43 : decode cX11_swap 43 = .ok (.iconst 4, 1) := by decide +kernel
theorem dX11_swap_44 : decode cX11_swap 44 = .ok (.iload_n 1, 1) := by decide +kernel
theorem dX11_swap_45 : decode cX11_swap 45 = .ok (.imul, 1) := by decide +kernel
theorem dX11_swap_46 : decode cX11_swap 46 = .ok (.iload_n 2, 1) := by decide +kernel
theorem dX11_swap_47 : decode cX11_swap 47 = .ok (.iadd, 1) := by decide +kernel
theorem dX11_swap_48 : decode cX11_swap 48 = .ok (.iaload, 1) := by decide +kernel
theorem dX11_swap_49 : decode cX11_swap 49 = .ok (.istore 4, 2) := by decide +kernel
theorem dX11_swap_51 : decode cX11_swap 51 = .ok (.aload_n 0, 1) := by decide +kernel
theorem dX11_swap_52 : decode cX11_swap 52 = .ok (.getfield 33, 3) := by decide +kernel
theorem dX11_swap_55 : decode cX11_swap 55 = .ok (.iconst 4, 1) := by decide +kernel
theorem dX11_swap_56 : decode cX11_swap 56 = .ok (.iload_n 1, 1) := by decide +kernel
theorem dX11_swap_57 : decode cX11_swap 57 = .ok (.imul, 1) := by decide +kernel
theorem dX11_swap_58 : decode cX11_swap 58 = .ok (.iload_n 3, 1) := by decide +kernel
theorem dX11_swap_59 : decode cX11_swap 59 = .ok (.iadd, 1) := by decide +kernel
theorem dX11_swap_60 : decode cX11_swap 60 = .ok (.iaload, 1) := by decide +kernel
theorem dX11_swap_61 : decode cX11_swap 61 = .ok (.istore 5, 2) := by decide +kernel
theorem dX11_swap_63 : decode cX11_swap 63 = .ok (.iconst 4, 1) := by decide +kernel
theorem dX11_swap_64 : decode cX11_swap 64 = .ok (.iload_n 1, 1) := by decide +kernel
theorem dX11_swap_65 : decode cX11_swap 65 = .ok (.imul, 1) := by decide +kernel
theorem dX11_swap_66 : decode cX11_swap 66 = .ok (.istore 6, 2) := by decide +kernel
theorem dX11_swap_68 : decode cX11_swap 68 = .ok (.iload 6, 2) := by decide +kernel
theorem dX11_swap_70 : decode cX11_swap 70 = .ok (.iconst 4, 1) := by decide +kernel
theorem dX11_swap_71 : decode cX11_swap 71 = .ok (.iload_n 1, 1) := by decide +kernel
theorem dX11_swap_72 : decode cX11_swap 72 = .ok (.imul, 1) := by decide +kernel
theorem dX11_swap_73 : decode cX11_swap 73 = .ok (.iconst 4, 1) := by decide +kernel
theorem dX11_swap_74 : decode cX11_swap 74 = .ok (.iadd, 1) := by decide +kernel
theorem dX11_swap_75 : decode cX11_swap 75 = .ok (.if_icmp .ge 64, 3) := by decide +kernel
theorem dX11_swap_78 : decode cX11_swap 78 = .ok (.aload_n 0, 1) := by decide +kernel
theorem dX11_swap_79 : decode cX11_swap 79 = .ok (.getfield 33, 3) := by decide +kernel
theorem dX11_swap_82 : decode cX11_swap 82 = .ok (.iload 6, 2) := by decide +kernel
theorem dX11_swap_84 : decode cX11_swap 84 = .ok (.aload_n 0, 1) := by decide +kernel
theorem dX11_swap_85 : decode cX11_swap 85 = .ok (.getfield 33, 3) := by decide +kernel
theorem dX11_swap_88 : decode cX11_swap 88 = .ok (.iload 6, 2) := by decide +kernel
theorem dX11_swap_90 : decode cX11_swap 90 = .ok (.iaload, 1) := by decide +kernel
theorem dX11_swap_91 : decode cX11_swap 91 = .ok (.iload 4, 2) := by decide +kernel
theorem dX11_swap_93 : decode cX11_swap 93 = .ok (.if_icmp .eq 15, 3) := by decide +kernel
theorem dX11_swap_96 : decode cX11_swap 96 = .ok (.aload_n 0, 1) := by decide +kernel
theorem dX11_swap_97 : decode cX11_swap 97 = .ok (.getfield 33, 3) := by decide +kernel
theorem dX11_swap_100 : decode cX11_swap 100 = .ok (.iload 6, 2) := by decide +kernel
theorem dX11_swap_102 : decode cX11_swap 102 = .ok (.iaload, 1) := by decide +kernel
theorem dX11_swap_103 : decode cX11_swap 103 = .ok (.iload 5, 2) := by decide +kernel
theorem dX11_swap_105 : decode cX11_swap 105 = .ok (.if_icmp .ne 20, 3) := by decide +kernel
theorem dX11_swap_108 : decode cX11_swap 108 = .ok (.iload 4, 2) := by decide +kernel
theorem dX11_swap_110 : decode cX11_swap 110 = .ok (.iload 5, 2) := by decide +kernel
theorem dX11_swap_112 : decode cX11_swap 112 = .ok (.if_icmp .ge 8, 3) := by decide +kernel
theorem dX11_swap_115 : decode cX11_swap 115 = .ok (.iload 4, 2) := by decide +kernel
theorem dX11_swap_117 : decode cX11_swap 117 = .ok (.goto 15, 3) := by decide +kernel
theorem dX11_swap_120 : decode cX11_swap 120 = .ok (.iload 5, 2) := by decide +kernel
theorem dX11_swap_122 : decode cX11_swap 122 = .ok (.goto 10, 3) := by decide +kernel
theorem dX11_swap_125 : decode cX11_swap 125 = .ok (.aload_n 0, 1) := by decide +kernel
theorem dX11_swap_126 : decode cX11_swap 126 = .ok (.getfield 33, 3) := by decide +kernel
theorem dX11_swap_129 : decode cX11_swap 129 = .ok (.iload 6, 2) := by decide +kernel
theorem dX11_swap_131 : decode cX11_swap 131 = .ok (.iaload, 1) := by decide +kernel
theorem dX11_swap_132 : decode cX11_swap 132 = .ok (.iastore, 1) := by decide +kernel
theorem dX11_swap_133 : decode cX11_swap 133 = .ok (.iinc 6 1, 3) := by decide +kernel
theorem dX11_swap_136 : decode cX11_swap 136 = .ok (.goto (-68), 3) := by decide +kernel
theorem dX11_swap_139 : decode cX11_swap 139 = .ok (.iload 4, 2) := by decide +kernel
theorem dX11_swap_141 : decode cX11_swap 141 = .ok (.iload 5, 2) := by decide +kernel
theorem dX11_swap_143 : decode cX11_swap 143 = .ok (.if_icmp .eq 7, 3) := by decide +kernel
theorem dX11_swap_146 : decode cX11_swap 146 = .ok (.iconst 1, 1) := by decide +kernel
theorem dX11_swap_147 : decode cX11_swap 147 = .ok (.goto 4, 3) := by decide +kernel
theorem dX11_swap_150 : decode cX11_swap 150 = .ok (.iconst 0, 1) := by decide +kernel
theorem dX11_swap_151 : decode cX11_swap 151 = .ok (.ireturn, 1) := by decide +kernel
theorem dX11_share_0 : decode cX11_share 0 = .ok (.aload_n 0, 1) := by decide +kernel
theorem dX11_share_1 : decode cX11_share 1 = .ok (.iload_n 1, 1) := by decide +kernel
theorem dX11_share_2 : decode cX11_share 2 = .ok (.invokestatic 92, 3) := by decide +kernel
theorem dX11_share_5 : decode cX11_share 5 = .ok (.ifCond .ne 7, 3) := by decide +kernel
theorem dX11_share_8 : decode cX11_share 8 = .ok (.iconst 1, 1) := by decide +kernel
theorem dX11_share_9 : decode cX11_share 9 = .ok (.goto 20, 3) := by decide +kernel
theorem dX11_share_12 : decode cX11_share 12 = .ok (.dload_n 2, 1) := by decide +kernel
theorem dX11_share_13 : decode cX11_share 13 = .ok (.dconst 0, 1) := by decide +kernel
theorem dX11_share_14 : decode cX11_share 14 = .ok (.dcmp .l, 1) := by decide +kernel
theorem dX11_share_15 : decode cX11_share 15 = .ok (.ifCond .lt 13, 3) := by decide +kernel
theorem dX11_share_18 : decode cX11_share 18 = .ok (.dload_n 2, 1) := by decide +kernel
theorem dX11_share_19 : decode cX11_share 19 = .ok (.dconst 1, 1) := by decide +kernel
theorem dX11_share_20 : decode cX11_share 20 = .ok (.dcmp .g, 1) := by decide +kernel
theorem dX11_share_21 : decode cX11_share 21 = .ok (.ifCond .gt 7, 3) := by decide +kernel
theorem dX11_share_24 : decode cX11_share 24 = .ok (.iconst 0, 1) := by decide +kernel
theorem dX11_share_25 : decode cX11_share 25 = .ok (.goto 4, 3) := by decide +kernel
theorem dX11_share_28 : decode cX11_share 28 = .ok (.iconst 2, 1) := by decide +kernel
theorem dX11_share_29 : decode cX11_share 29 = .ok (.putfield 84, 3) := by decide +kernel
theorem dX11_share_32 : decode cX11_share 32 = .ok (.aload_n 0, 1) := by decide +kernel
theorem dX11_share_33 : decode cX11_share 33 = .ok (.getfield 84, 3) := by decide +kernel
theorem dX11_share_36 : decode cX11_share 36 = .ok (.ifCond .gt 14, 3) := by decide +kernel
theorem dX11_share_39 : decode cX11_share 39 = .ok (.aload_n 0, 1) := by decide +kernel
theorem dX11_share_40 : decode cX11_share 40 = .ok (.getfield 36, 3) := by decide +kernel
theorem dX11_share_43 : decode cX11_share 43 = .ok (.iload_n 1, 1) := by decide +kernel
theorem dX11_share_44 : decode cX11_share 44 = .ok (.daload, 1) := by decide +kernel
theorem dX11_share_45 : decode cX11_share 45 = .ok (.dload_n 2, 1) := by decide +kernel
theorem dX11_share_46 : decode cX11_share 46 = .ok (.dcmp .l, 1) := by decide +kernel
theorem dX11_share_47 : decode cX11_share 47 = .ok (.ifCond .ne 5, 3) := by decide +kernel
theorem dX11_share_50 : decode cX11_share 50 = .ok (.iconst 0, 1) := by decide +kernel
theorem dX11_share_51 : decode cX11_share 51 = .ok (.ireturn, 1) := by decide +kernel
theorem dX11_share_52 : decode cX11_share 52 = .ok (.aload_n 0, 1) := by decide +kernel
theorem dX11_share_53 : decode cX11_share 53 = .ok (.getfield 36, 3) := by decide +kernel
theorem dX11_share_56 : decode cX11_share 56 = .ok (.iload_n 1, 1) := by decide +kernel
theorem dX11_share_57 : decode cX11_share 57 = .ok (.dload_n 2, 1) := by decide +kernel
theorem dX11_share_58 : decode cX11_share 58 = .ok (.dastore, 1) := by decide +kernel
theorem dX11_share_59 : decode cX11_share 59 = .ok (.iconst 1, 1) := by decide +kernel
theorem dX11_share_60 : decode cX11_share 60 = .ok (.ireturn, 1) := by decide +kernel
theorem dX11_port_0 : decode cX11_port 0 = .ok (.aload_n 0, 1) := by decide +kernel
theorem dX11_port_1 : decode cX11_port 1 = .ok (.aload_n 0, 1) := by decide +kernel
theorem dX11_port_2 : decode cX11_port 2 = .ok (.iload_n 1, 1) := by decide +kernel
theorem dX11_port_3 : decode cX11_port 3 = .ok (.iload_n 2, 1) := by decide +kernel
theorem dX11_port_4 : decode cX11_port 4 = .ok (.invokevirtual 104, 3) := by decide +kernel
theorem dX11_port_7 : decode cX11_port 7 = .ok (.ifCond .ne 7, 3) := by decide +kernel
theorem dX11_port_10 : decode cX11_port 10 = .ok (.iconst 1, 1) := by decide +kernel
theorem dX11_port_11 : decode cX11_port 11 = .ok (.goto 12, 3) := by decide +kernel
theorem dX11_port_14 : decode cX11_port 14 = .ok (.iload_n 3, 1) := by decide +kernel
theorem dX11_port_15 : decode cX11_port 15 = .ok (.ifCond .ge 7, 3) := by decide +kernel
theorem dX11_port_18 : decode cX11_port 18 = .ok (.iconst 2, 1) := by decide +kernel
theorem dX11_port_19 : decode cX11_port 19 = .ok (.goto 4, 3) := by decide +kernel
theorem dX11_port_22 : decode cX11_port 22 = .ok (.iconst 0, 1) := by decide +kernel
theorem dX11_port_23 : decode cX11_port 23 = .ok (.putfield 84, 3) := by decide +kernel
theorem dX11_port_26 : decode cX11_port 26 = .ok (.iconst 0, 1) := by decide +kernel
theorem dX11_port_27 : decode cX11_port 27 = .ok (.istore 4, 2) := by decide +kernel
theorem dX11_port_29 : decode cX11_port 29 = .ok (.aload_n 0, 1) := by decide +kernel
theorem dX11_port_30 : decode cX11_port 30 = .ok (.getfield 84, 3) := by decide +kernel
theorem dX11_port_33 : decode cX11_port 33 = .ok (.ifCond .ne 54, 3) := by decide +kernel
theorem dX11_port_36 : decode cX11_port 36 = .ok (.iload 4, 2) := by decide +kernel
theorem dX11_port_38 : decode cX11_port 38 = .ok (.aload_n 0, 1) := by decide +kernel
theorem dX11_port_39 : decode cX11_port 39 = .ok (.getfield 13, 3) := by decide +kernel
theorem dX11_port_42 : decode cX11_port 42 = .ok (.iload_n 1, 1) := by decide +kernel
theorem dX11_port_43 : decode cX11_port 43 = .ok (.iaload, 1) := by decide +kernel
theorem dX11_port_44 : decode cX11_port 44 = .ok (.if_icmp .ge 43, 3) := by decide +kernel
theorem dX11_port_47 : decode cX11_port 47 = .ok (.aload_n 0, 1) := by decide +kernel
theorem dX11_port_48 : decode cX11_port 48 = .ok (.iload 4, 2) := by decide +kernel
theorem dX11_port_50 : decode cX11_port 50 = .ok (.iload_n 2, 1) := by decide +kernel
theorem dX11_port_51 : decode cX11_port 51 = .ok (.if_icmp .eq 23, 3) := by decide +kernel
theorem dX11_port_54 : decode cX11_port 54 = .ok (.aload_n 0, 1) := by decide +kernel
theorem dX11_port_55 : decode cX11_port 55 = .ok (.getfield 7, 3) := by decide +kernel
theorem dX11_port_58 : decode cX11_port 58 = .ok (.bipush 40, 2) := by decide +kernel
theorem dX11_port_60 : decode cX11_port 60 = .ok (.iload_n 1, 1) := by decide +kernel
theorem dX11_port_61 : decode cX11_port 61 = .ok (.imul, 1) := by decide +kernel
theorem dX11_port_62 : decode cX11_port 62 = .ok (.iload 4, 2) := by decide +kernel
theorem dX11_port_64 : decode cX11_port 64 = .ok (.iadd, 1) := by decide +kernel
theorem dX11_port_65 : decode cX11_port 65 = .ok (.iaload, 1) := by decide +kernel
theorem dX11_port_66 : decode cX11_port 66 = .ok (.iload_n 3, 1) := by decide +kernel
theorem dX11_port_67 : decode cX11_port 67 = .ok (.if_icmp .ne 7, 3) := by decide +kernel
theorem dX11_port_70 : decode cX11_port 70 = .ok (.iconst 2, 1) := by decide +kernel
theorem dX11_port_71 : decode cX11_port 71 = .ok (.goto 7, 3) := by decide +kernel
theorem dX11_port_74 : decode cX11_port 74 = .ok (.aload_n 0, 1) := by decide +kernel
theorem dX11_port_75 : decode cX11_port 75 = .ok (.getfield 84, 3) := by decide +kernel
theorem dX11_port_78 : decode cX11_port 78 = .ok (.putfield 84, 3) := by decide +kernel
theorem dX11_port_81 : decode cX11_port 81 = .ok (.iinc 4 1, 3) := by decide +kernel
theorem dX11_port_84 : decode cX11_port 84 = .ok (.goto (-55), 3) := by decide +kernel
theorem dX11_port_87 : decode cX11_port 87 = .ok (.aload_n 0, 1) := by decide +kernel
theorem dX11_port_88 : decode cX11_port 88 = .ok (.getfield 84, 3) := by decide +kernel
theorem dX11_port_91 : decode cX11_port 91 = .ok (.ifCond .le 5, 3) := by decide +kernel
theorem dX11_port_94 : decode cX11_port 94 = .ok (.iconst 0, 1) := by decide +kernel
theorem dX11_port_95 : decode cX11_port 95 = .ok (.ireturn, 1) := by decide +kernel
theorem dX11_port_96 : decode cX11_port 96 = .ok (.aload_n 0, 1) := by decide +kernel
theorem dX11_port_97 : decode cX11_port 97 = .ok (.getfield 7, 3) := by decide +kernel
theorem dX11_port_100 : decode cX11_port 100 = .ok (.bipush 40, 2) := by decide +kernel
theorem dX11_port_102 : decode cX11_port 102 = .ok (.iload_n 1, 1) := by decide +kernel
theorem dX11_port_103 : decode cX11_port 103 = .ok (.imul, 1) := by decide +kernel
theorem dX11_port_104 : decode cX11_port 104 = .ok (.iload_n 2, 1) := by decide +kernel
theorem dX11_port_105 : decode cX11_port 105 = .ok (.iadd, 1) := by decide +kernel
theorem dX11_port_106 : decode cX11_port 106 = .ok (.iaload, 1) := by decide +kernel
theorem dX11_port_107 : decode cX11_port 107 = .ok (.iconst (-1), 1) := by decide +kernel
theorem dX11_port_108 : decode cX11_port 108 = .ok (.if_icmp .ne 7, 3) := by decide +kernel
theorem dX11_port_111 : decode cX11_port 111 = .ok (.iconst 1, 1) := by decide +kernel
theorem dX11_port_112 : decode cX11_port 112 = .ok (.goto 4, 3) := by decide +kernel
theorem dX11_port_115 : decode cX11_port 115 = .ok (.iconst 0, 1) := by decide +kernel
theorem dX11_port_116 : decode cX11_port 116 = .ok (.istore 4, 2) := by decide +kernel
theorem dX11_port_118 : decode cX11_port 118 = .ok (.aload_n 0, 1) := by decide +kernel
theorem dX11_port_119 : decode cX11_port 119 = .ok (.getfield 7, 3) := by decide +kernel
theorem dX11_port_122 : decode cX11_port 122 = .ok (.bipush 40, 2) := by decide +kernel
theorem dX11_port_124 : decode cX11_port 124 = .ok (.iload_n 1, 1) := by decide +kernel
theorem dX11_port_125 : decode cX11_port 125 = .ok (.imul, 1) := by decide +kernel
theorem dX11_port_126 : decode cX11_port 126 = .ok (.iload_n 2, 1) := by decide +kernel
theorem dX11_port_127 : decode cX11_port 127 = .ok (.iadd, 1) := by decide +kernel
theorem dX11_port_128 : decode cX11_port 128 = .ok (.iload_n 3, 1) := by decide +kernel
theorem dX11_port_129 : decode cX11_port 129 = .ok (.iastore, 1) := by decide +kernel
theorem dX11_port_130 : decode cX11_port 130 = .ok (.iload 4, 2) := by decide +kernel
theorem dX11_port_132 : decode cX11_port 132 = .ok (.ireturn, 1) := by decide +kernel
theorem dX11_group_0 : decode cX11_group 0 = .ok (.aload_n 0, 1) := by decide +kernel
theorem dX11_group_1 : decode cX11_group 1 = .ok (.getfield 33, 3) := by decide +kernel
theorem dX11_group_4 : decode cX11_group 4 = .ok (.iconst 4, 1) := by decide +kernel
theorem dX11_group_5 : decode cX11_group 5 = .ok (.aload_n 0, 1) := by decide +kernel
theorem dX11_group_6 : decode cX11_group 6 = .ok (.getfield 16, 3) := by decide +kernel
theorem dX11_group_9 : decode cX11_group 9 = .ok (.iload_n 1, 1) := by decide +kernel
theorem dX11_group_10 : decode cX11_group 10 = .ok (.iaload, 1) := by decide +kernel
theorem dX11_group_11 : decode cX11_group 11 = .ok (.imul, 1) := by decide +kernel
theorem dX11_group_12 : decode cX11_group 12 = .ok (.iload_n 2, 1) := by decide +kernel
theorem dX11_group_13 : decode cX11_group 13 = .ok (.iadd, 1) := by decide +kernel
theorem dX11_group_14 : decode cX11_group 14 = .ok (.iaload, 1) := by decide +kernel
theorem dX11_group_15 : decode cX11_group 15 = .ok (.ireturn, 1) := by decide +kernel
theorem dX11_pinsOn_0 : decode cX11_pinsOn 0 = .ok (.iconst 0, 1) := by decide +kernel
theorem dX11_pinsOn_1 : decode cX11_pinsOn 1 = .ok (.istore 4, 2) := by decide +kernel
theorem dX11_pinsOn_3 : decode cX11_pinsOn 3 = .ok (.iconst 0, 1) := by decide +kernel
theorem dX11_pinsOn_4 : decode cX11_pinsOn 4 = .ok (.istore 5, 2) := by decide +kernel
theorem dX11_pinsOn_6 : decode cX11_pinsOn 6 = .ok (.iload 5, 2) := by decide +kernel
theorem dX11_pinsOn_8 : decode cX11_pinsOn 8 = .ok (.iconst 4, 1) := by decide +kernel
theorem dX11_pinsOn_9 : decode cX11_pinsOn 9 = .ok (.if_icmp .ge 45, 3) := by decide +kernel
theorem dX11_pinsOn_12 : decode cX11_pinsOn 12 = .ok (.iload 4, 2) := by decide +kernel
theorem dX11_pinsOn_14 : decode cX11_pinsOn 14 = .ok (.aload_n 0, 1) := by decide +kernel
theorem dX11_pinsOn_15 : decode cX11_pinsOn 15 = .ok (.iload_n 1, 1) := by decide +kernel
theorem dX11_pinsOn_16 : decode cX11_pinsOn 16 = .ok (.iload 5, 2) := by decide +kernel
theorem dX11_pinsOn_18 : decode cX11_pinsOn 18 = .ok (.invokevirtual 107, 3) := by decide +kernel
theorem dX11_pinsOn_21 : decode cX11_pinsOn 21 = .ok (.iload_n 2, 1) := by decide +kernel
theorem dX11_pinsOn_22 : decode cX11_pinsOn 22 = .ok (.if_icmp .ne 22, 3) := by decide +kernel
theorem dX11_pinsOn_25 : decode cX11_pinsOn 25 = .ok (.aload_n 0, 1) := by decide +kernel
theorem dX11_pinsOn_26 : decode cX11_pinsOn 26 = .ok (.getfield 27, 3) := by decide +kernel
theorem dX11_pinsOn_29 : decode cX11_pinsOn 29 = .ok (.iconst 4, 1) := by decide +kernel
theorem dX11_pinsOn_30 : decode cX11_pinsOn 30 = .ok (.iload_n 1, 1) := by decide +kernel
theorem dX11_pinsOn_31 : decode cX11_pinsOn 31 = .ok (.imul, 1) := by decide +kernel
theorem dX11_pinsOn_32 : decode cX11_pinsOn 32 = .ok (.iload 5, 2) := by decide +kernel
theorem dX11_pinsOn_34 : decode cX11_pinsOn 34 = .ok (.iadd, 1) := by decide +kernel
theorem dX11_pinsOn_35 : decode cX11_pinsOn 35 = .ok (.iaload, 1) := by decide +kernel
theorem dX11_pinsOn_36 : decode cX11_pinsOn 36 = .ok (.iload_n 3, 1) := by decide +kernel
theorem dX11_pinsOn_37 : decode cX11_pinsOn 37 = .ok (.if_icmp .ne 7, 3) := by decide +kernel
theorem dX11_pinsOn_40 : decode cX11_pinsOn 40 = .ok (.iconst 1, 1) := by decide +kernel
theorem dX11_pinsOn_41 : decode cX11_pinsOn 41 = .ok (.goto 4, 3) := by decide +kernel
theorem dX11_pinsOn_44 : decode cX11_pinsOn 44 = .ok (.iconst 0, 1) := by decide +kernel
theorem dX11_pinsOn_45 : decode cX11_pinsOn 45 = .ok (.iadd, 1) := by decide +kernel
theorem dX11_pinsOn_46 : decode cX11_pinsOn 46 = .ok (.istore 4, 2) := by decide +kernel
theorem dX11_pinsOn_48 : decode cX11_pinsOn 48 = .ok (.iinc 5 1, 3) := by decide +kernel
theorem dX11_pinsOn_51 : decode cX11_pinsOn 51 = .ok (.goto (-45), 3) := by decide +kernel
theorem dX11_pinsOn_54 : decode cX11_pinsOn 54 = .ok (.iload 4, 2) := by decide +kernel
theorem dX11_pinsOn_56 : decode cX11_pinsOn 56 = .ok (.ireturn, 1) := by decide +kernel
theorem dX11_isParallel_0 : decode cX11_isParallel 0 = .ok (.iconst 1, 1) := by decide +kernel
theorem dX11_isParallel_1 : decode cX11_isParallel 1 = .ok (.istore_n 3, 1) := by decide +kernel
theorem dX11_isParallel_2 : decode cX11_isParallel 2 = .ok (.iconst 0, 1) := by decide +kernel
theorem dX11_isParallel_3 : decode cX11_isParallel 3 = .ok (.istore 4, 2) := by decide +kernel
theorem dX11_isParallel_5 : decode cX11_isParallel 5 = .ok (.iload 4, 2) := by decide +kernel
theorem dX11_isParallel_7 : decode cX11_isParallel 7 = .ok (.iconst 4, 1) := by decide +kernel
theorem dX11_isParallel_8 : decode cX11_isParallel 8 = .ok (.if_icmp .ge 62, 3) := by decide +kernel
theorem dX11_isParallel_11 : decode cX11_isParallel 11 = .ok (.aload_n 0, 1) := by decide +kernel
theorem dX11_isParallel_12 : decode cX11_isParallel 12 = .ok (.iload_n 1, 1) := by decide +kernel
theorem dX11_isParallel_13 : decode cX11_isParallel 13 = .ok (.iload 4, 2) := by decide +kernel
theorem dX11_isParallel_15 : decode cX11_isParallel 15 = .ok (.invokevirtual 107, 3) := by decide +kernel
theorem dX11_isParallel_18 : decode cX11_isParallel 18 = .ok (.istore 5, 2) := by decide +kernel
theorem dX11_isParallel_20 : decode cX11_isParallel 20 = .ok (.aload_n 0, 1) := by decide +kernel
theorem dX11_isParallel_21 : decode cX11_isParallel 21 = .ok (.getfield 27, 3) := by decide +kernel
theorem dX11_isParallel_24 : decode cX11_isParallel 24 = .ok (.iconst 4, 1) := by decide +kernel
theorem dX11_isParallel_25 : decode cX11_isParallel 25 = .ok (.iload_n 1, 1) := by decide +kernel
theorem dX11_isParallel_26 : decode cX11_isParallel 26 = .ok (.imul, 1) := by decide +kernel
theorem dX11_isParallel_27 : decode cX11_isParallel 27 = .ok (.iload 4, 2) := by decide +kernel
theorem dX11_isParallel_29 : decode cX11_isParallel 29 = .ok (.iadd, 1) := by decide +kernel
theorem dX11_isParallel_30 : decode cX11_isParallel 30 = .ok (.iaload, 1) := by decide +kernel
theorem dX11_isParallel_31 : decode cX11_isParallel 31 = .ok (.istore 6, 2) := by decide +kernel
theorem dX11_isParallel_33 : decode cX11_isParallel 33 = .ok (.iload_n 3, 1) := by decide +kernel
theorem dX11_isParallel_34 : decode cX11_isParallel 34 = .ok (.ifCond .eq 28, 3) := by decide +kernel
theorem dX11_isParallel_37 : decode cX11_isParallel 37 = .ok (.aload_n 0, 1) := by decide +kernel
theorem dX11_isParallel_38 : decode cX11_isParallel 38 = .ok (.iload_n 1, 1) := by decide +kernel
theorem dX11_isParallel_39 : decode cX11_isParallel 39 = .ok (.iload 5, 2) := by decide +kernel
theorem dX11_isParallel_41 : decode cX11_isParallel 41 = .ok (.iload 6, 2) := by decide +kernel
theorem dX11_isParallel_43 : decode cX11_isParallel 43 = .ok (.invokevirtual 111, 3) := by decide +kernel
theorem dX11_isParallel_46 : decode cX11_isParallel 46 = .ok (.aload_n 0, 1) := by decide +kernel
theorem dX11_isParallel_47 : decode cX11_isParallel 47 = .ok (.iload_n 2, 1) := by decide +kernel
theorem dX11_isParallel_48 : decode cX11_isParallel 48 = .ok (.iload 5, 2) := by decide +kernel
theorem dX11_isParallel_50 : decode cX11_isParallel 50 = .ok (.iload 6, 2) := by decide +kernel
theorem dX11_isParallel_52 : decode cX11_isParallel 52 = .ok (.invokevirtual 111, 3) := by decide +kernel
theorem dX11_isParallel_55 : decode cX11_isParallel 55 = .ok (.if_icmp .ne 7, 3) := by decide +kernel
theorem dX11_isParallel_58 : decode cX11_isParallel 58 = .ok (.iconst 1, 1) := by decide +kernel
theorem dX11_isParallel_59 : decode cX11_isParallel 59 = .ok (.goto 4, 3) := by decide +kernel
theorem dX11_isParallel_62 : decode cX11_isParallel 62 = .ok (.iconst 0, 1) := by decide +kernel
theorem dX11_isParallel_63 : decode cX11_isParallel 63 = .ok (.istore_n 3, 1) := by decide +kernel
theorem dX11_isParallel_64 : decode cX11_isParallel 64 = .ok (.iinc 4 1, 3) := by decide +kernel
theorem dX11_isParallel_67 : decode cX11_isParallel 67 = .ok (.goto (-62), 3) := by decide +kernel
theorem dX11_isParallel_70 : decode cX11_isParallel 70 = .ok (.iload_n 3, 1) := by decide +kernel
theorem dX11_isParallel_71 : decode cX11_isParallel 71 = .ok (.ireturn, 1) := by decide +kernel
theorem dX11_all_0 : decode cX11_all 0 = .ok (.iconst 0, 1) := by decide +kernel
theorem dX11_all_1 : decode cX11_all 1 = .ok (.istore_n 3, 1) := by decide +kernel
theorem dX11_all_2 : decode cX11_all 2 = .ok (.bipush 30, 2) := by decide +kernel
theorem dX11_all_4 : decode cX11_all 4 = .ok (.iload_n 1, 1) := by decide +kernel
theorem dX11_all_5 : decode cX11_all 5 = .ok (.imul, 1) := by decide +kernel
theorem dX11_all_6 : decode cX11_all 6 = .ok (.istore 4, 2) := by decide +kernel
theorem dX11_all_8 : decode cX11_all 8 = .ok (.iload 4, 2) := by decide +kernel
theorem dX11_all_10 : decode cX11_all 10 = .ok (.bipush 30, 2) := by decide +kernel
theorem dX11_all_12 : decode cX11_all 12 = .ok (.iload_n 1, 1) := by decide +kernel
theorem dX11_all_13 : decode cX11_all 13 = .ok (.imul, 1) := by decide +kernel
theorem dX11_all_14 : decode cX11_all 14 = .ok (.aload_n 0, 1) := by decide +kernel
theorem dX11_all_15 : decode cX11_all 15 = .ok (.getfield 30, 3) := by decide +kernel
theorem dX11_all_18 : decode cX11_all 18 = .ok (.iload_n 1, 1) := by decide +kernel
theorem dX11_all_19 : decode cX11_all 19 = .ok (.iaload, 1) := by decide +kernel
theorem dX11_all_20 : decode cX11_all 20 = .ok (.iadd, 1) := by decide +kernel
theorem dX11_all_21 : decode cX11_all 21 = .ok (.if_icmp .ge 58, 3) := by decide +kernel
theorem dX11_all_24 : decode cX11_all 24 = .ok (.iconst 0, 1) := by decide +kernel
theorem dX11_all_25 : decode cX11_all 25 = .ok (.istore 5, 2) := by decide +kernel
theorem dX11_all_27 : decode cX11_all 27 = .ok (.iload 5, 2) := by decide +kernel
theorem dX11_all_29 : decode cX11_all 29 = .ok (.iconst 4, 1) := by decide +kernel
theorem dX11_all_30 : decode cX11_all 30 = .ok (.if_icmp .ge 43, 3) := by decide +kernel
theorem dX11_all_33 : decode cX11_all 33 = .ok (.aload_n 0, 1) := by decide +kernel
theorem dX11_all_34 : decode cX11_all 34 = .ok (.getfield 23, 3) := by decide +kernel
theorem dX11_all_37 : decode cX11_all 37 = .ok (.iload 4, 2) := by decide +kernel
theorem dX11_all_39 : decode cX11_all 39 = .ok (.baload, 1) := by decide +kernel
theorem dX11_all_40 : decode cX11_all 40 = .ok (.ifCond .ne 33, 3) := by decide +kernel
theorem dX11_all_43 : decode cX11_all 43 = .ok (.iload_n 3, 1) := by decide +kernel
theorem dX11_all_44 : decode cX11_all 44 = .ok (.aload_n 0, 1) := by decide +kernel
theorem dX11_all_45 : decode cX11_all 45 = .ok (.getfield 27, 3) := by decide +kernel
theorem dX11_all_48 : decode cX11_all 48 = .ok (.iconst 4, 1) := by decide +kernel
theorem dX11_all_49 : decode cX11_all 49 = .ok (.iload 4, 2) := by decide +kernel
theorem dX11_all_51 : decode cX11_all 51 = .ok (.imul, 1) := by decide +kernel
theorem dX11_all_52 : decode cX11_all 52 = .ok (.iload 5, 2) := by decide +kernel
theorem dX11_all_54 : decode cX11_all 54 = .ok (.iadd, 1) := by decide +kernel
theorem dX11_all_55 : decode cX11_all 55 = .ok (.iaload, 1) := by decide +kernel
theorem dX11_all_56 : decode cX11_all 56 = .ok (.iload_n 2, 1) := by decide +kernel
theorem dX11_all_57 : decode cX11_all 57 = .ok (.if_icmp .ne 7, 3) := by decide +kernel
theorem dX11_all_60 : decode cX11_all 60 = .ok (.iconst 1, 1) := by decide +kernel
theorem dX11_all_61 : decode cX11_all 61 = .ok (.goto 4, 3) := by decide +kernel
theorem dX11_all_64 : decode cX11_all 64 = .ok (.iconst 0, 1) := by decide +kernel
theorem dX11_all_65 : decode cX11_all 65 = .ok (.iadd, 1) := by decide +kernel
theorem dX11_all_66 : decode cX11_all 66 = .ok (.istore_n 3, 1) := by decide +kernel
theorem dX11_all_67 : decode cX11_all 67 = .ok (.iinc 5 1, 3) := by decide +kernel
theorem dX11_all_70 : decode cX11_all 70 = .ok (.goto (-43), 3) := by decide +kernel
theorem dX11_all_73 : decode cX11_all 73 = .ok (.iinc 4 1, 3) := by decide +kernel
theorem dX11_all_76 : decode cX11_all 76 = .ok (.goto (-68), 3) := by decide +kernel
theorem dX11_all_79 : decode cX11_all 79 = .ok (.iload_n 3, 1) := by decide +kernel
theorem dX11_all_80 : decode cX11_all 80 = .ok (.ireturn, 1) := by decide +kernel
theorem dX11_isChain_0 : decode cX11_isChain 0 = .ok (.iconst 4, 1) := by decide +kernel
theorem dX11_isChain_1 : decode cX11_isChain 1 = .ok (.iload_n 1, 1) := by decide +kernel
theorem dX11_isChain_2 : decode cX11_isChain 2 = .ok (.imul, 1) := by decide +kernel
theorem dX11_isChain_3 : decode cX11_isChain 3 = .ok (.istore_n 2, 1) := by decide +kernel
theorem dX11_isChain_4 : decode cX11_isChain 4 = .ok (.aload_n 0, 1) := by decide +kernel
theorem dX11_isChain_5 : decode cX11_isChain 5 = .ok (.getfield 27, 3) := by decide +kernel
theorem dX11_isChain_8 : decode cX11_isChain 8 = .ok (.iload_n 2, 1) := by decide +kernel
theorem dX11_isChain_9 : decode cX11_isChain 9 = .ok (.iaload, 1) := by decide +kernel
theorem dX11_isChain_10 : decode cX11_isChain 10 = .ok (.iconst (-1), 1) := by decide +kernel
theorem dX11_isChain_11 : decode cX11_isChain 11 = .ok (.if_icmp .eq 58, 3) := by decide +kernel
theorem dX11_isChain_14 : decode cX11_isChain 14 = .ok (.aload_n 0, 1) := by decide +kernel
theorem dX11_isChain_15 : decode cX11_isChain 15 = .ok (.getfield 27, 3) := by decide +kernel
theorem dX11_isChain_18 : decode cX11_isChain 18 = .ok (.iload_n 2, 1) := by decide +kernel
theorem dX11_isChain_19 : decode cX11_isChain 19 = .ok (.iconst 1, 1) := by decide +kernel
theorem dX11_isChain_20 : decode cX11_isChain 20 = .ok (.iadd, 1) := by decide +kernel
theorem dX11_isChain_21 : decode cX11_isChain 21 = .ok (.iaload, 1) := by decide +kernel
theorem dX11_isChain_22 : decode cX11_isChain 22 = .ok (.iconst (-1), 1) := by decide +kernel
theorem dX11_isChain_23 : decode cX11_isChain 23 = .ok (.if_icmp .eq 46, 3) := by decide +kernel
theorem dX11_isChain_26 : decode cX11_isChain 26 = .ok (.aload_n 0, 1) := by decide +kernel
theorem dX11_isChain_27 : decode cX11_isChain 27 = .ok (.iload_n 1, 1) := by decide +kernel
theorem dX11_isChain_28 : decode cX11_isChain 28 = .ok (.iconst 0, 1) := by decide +kernel
theorem dX11_isChain_29 : decode cX11_isChain 29 = .ok (.invokevirtual 107, 3) := by decide +kernel
theorem dX11_isChain_32 : decode cX11_isChain 32 = .ok (.aload_n 0, 1) := by decide +kernel
theorem dX11_isChain_33 : decode cX11_isChain 33 = .ok (.iload_n 1, 1) := by decide +kernel
theorem dX11_isChain_34 : decode cX11_isChain 34 = .ok (.iconst 1, 1) := by decide +kernel
theorem dX11_isChain_35 : decode cX11_isChain 35 = .ok (.invokevirtual 107, 3) := by decide +kernel
theorem dX11_isChain_38 : decode cX11_isChain 38 = .ok (.if_icmp .ne 31, 3) := by decide +kernel
theorem dX11_isChain_41 : decode cX11_isChain 41 = .ok (.aload_n 0, 1) := by decide +kernel
theorem dX11_isChain_42 : decode cX11_isChain 42 = .ok (.getfield 27, 3) := by decide +kernel
theorem dX11_isChain_45 : decode cX11_isChain 45 = .ok (.iload_n 2, 1) := by decide +kernel
theorem dX11_isChain_46 : decode cX11_isChain 46 = .ok (.iconst 2, 1) := by decide +kernel
theorem dX11_isChain_47 : decode cX11_isChain 47 = .ok (.iadd, 1) := by decide +kernel
theorem dX11_isChain_48 : decode cX11_isChain 48 = .ok (.iaload, 1) := by decide +kernel
theorem dX11_isChain_49 : decode cX11_isChain 49 = .ok (.iconst (-1), 1) := by decide +kernel
theorem dX11_isChain_50 : decode cX11_isChain 50 = .ok (.if_icmp .ne 19, 3) := by decide +kernel
theorem dX11_isChain_53 : decode cX11_isChain 53 = .ok (.aload_n 0, 1) := by decide +kernel
theorem dX11_isChain_54 : decode cX11_isChain 54 = .ok (.getfield 27, 3) := by decide +kernel
theorem dX11_isChain_57 : decode cX11_isChain 57 = .ok (.iload_n 2, 1) := by decide +kernel
theorem dX11_isChain_58 : decode cX11_isChain 58 = .ok (.iconst 3, 1) := by decide +kernel
theorem dX11_isChain_59 : decode cX11_isChain 59 = .ok (.iadd, 1) := by decide +kernel
theorem dX11_isChain_60 : decode cX11_isChain 60 = .ok (.iaload, 1) := by decide +kernel
theorem dX11_isChain_61 : decode cX11_isChain 61 = .ok (.iconst (-1), 1) := by decide +kernel
theorem dX11_isChain_62 : decode cX11_isChain 62 = .ok (.if_icmp .ne 7, 3) := by decide +kernel
theorem dX11_isChain_65 : decode cX11_isChain 65 = .ok (.iconst 1, 1) := by decide +kernel
theorem dX11_isChain_66 : decode cX11_isChain 66 = .ok (.goto 4, 3) := by decide +kernel
theorem dX11_isChain_69 : decode cX11_isChain 69 = .ok (.iconst 0, 1) := by decide +kernel
theorem dX11_isChain_70 : decode cX11_isChain 70 = .ok (.ireturn, 1) := by decide +kernel
theorem dX11_common_0 : decode cX11_common 0 = .ok (.aload_n 0, 1) := by decide +kernel
theorem dX11_common_1 : decode cX11_common 1 = .ok (.iload_n 2, 1) := by decide +kernel
theorem dX11_common_2 : decode cX11_common 2 = .ok (.invokevirtual 115, 3) := by decide +kernel
theorem dX11_common_5 : decode cX11_common 5 = .ok (.ifCond .eq 11, 3) := by decide +kernel
theorem dX11_common_8 : decode cX11_common 8 = .ok (.aload_n 0, 1) := by decide +kernel
theorem dX11_common_9 : decode cX11_common 9 = .ok (.iload_n 3, 1) := by decide +kernel
theorem dX11_common_10 : decode cX11_common 10 = .ok (.invokevirtual 115, 3) := by decide +kernel
theorem dX11_common_13 : decode cX11_common 13 = .ok (.ifCond .ne 5, 3) := by decide +kernel
theorem dX11_common_16 : decode cX11_common 16 = .ok (.iconst (-1), 1) := by decide +kernel
theorem dX11_common_17 : decode cX11_common 17 = .ok (.ireturn, 1) := by decide +kernel
theorem dX11_common_18 : decode cX11_common 18 = .ok (.iconst 0, 1) := by decide +kernel
theorem dX11_common_19 : decode cX11_common 19 = .ok (.istore 4, 2) := by decide +kernel
theorem dX11_common_21 : decode cX11_common 21 = .ok (.iload 4, 2) := by decide +kernel
theorem dX11_common_23 : decode cX11_common 23 = .ok (.aload_n 0, 1) := by decide +kernel
theorem dX11_common_24 : decode cX11_common 24 = .ok (.getfield 13, 3) := by decide +kernel
theorem dX11_common_27 : decode cX11_common 27 = .ok (.iload_n 1, 1) := by decide +kernel
theorem dX11_common_28 : decode cX11_common 28 = .ok (.iaload, 1) := by decide +kernel
theorem dX11_common_29 : decode cX11_common 29 = .ok (.if_icmp .ge 133, 3) := by decide +kernel
theorem dX11_common_32 : decode cX11_common 32 = .ok (.aload_n 0, 1) := by decide +kernel
theorem dX11_common_33 : decode cX11_common 33 = .ok (.getfield 27, 3) := by decide +kernel
theorem dX11_common_36 : decode cX11_common 36 = .ok (.iconst 4, 1) := by decide +kernel
theorem dX11_common_37 : decode cX11_common 37 = .ok (.iload_n 2, 1) := by decide +kernel
theorem dX11_common_38 : decode cX11_common 38 = .ok (.imul, 1) := by decide +kernel
theorem dX11_common_39 : decode cX11_common 39 = .ok (.iaload, 1) := by decide +kernel
theorem dX11_common_40 : decode cX11_common 40 = .ok (.iload 4, 2) := by decide +kernel
theorem dX11_common_42 : decode cX11_common 42 = .ok (.if_icmp .ne 7, 3) := by decide +kernel
theorem dX11_common_45 : decode cX11_common 45 = .ok (.iconst 1, 1) := by decide +kernel
theorem dX11_common_46 : decode cX11_common 46 = .ok (.goto 4, 3) := by decide +kernel
theorem dX11_common_49 : decode cX11_common 49 = .ok (.iconst 0, 1) := by decide +kernel
theorem dX11_common_50 : decode cX11_common 50 = .ok (.aload_n 0, 1) := by decide +kernel
theorem dX11_common_51 : decode cX11_common 51 = .ok (.getfield 27, 3) := by decide +kernel
theorem dX11_common_54 : decode cX11_common 54 = .ok (.iconst 4, 1) := by decide +kernel
theorem dX11_common_55 : decode cX11_common 55 = .ok (.iload_n 2, 1) := by decide +kernel
theorem dX11_common_56 : decode cX11_common 56 = .ok (.imul, 1) := by decide +kernel
theorem dX11_common_57 : decode cX11_common 57 = .ok (.iconst 1, 1) := by decide +kernel
theorem dX11_common_58 : decode cX11_common 58 = .ok (.iadd, 1) := by decide +kernel
theorem dX11_common_59 : decode cX11_common 59 = .ok (.iaload, 1) := by decide +kernel
theorem dX11_common_60 : decode cX11_common 60 = .ok (.iload 4, 2) := by decide +kernel
theorem dX11_common_62 : decode cX11_common 62 = .ok (.if_icmp .ne 7, 3) := by decide +kernel
theorem dX11_common_65 : decode cX11_common 65 = .ok (.iconst 1, 1) := by decide +kernel
theorem dX11_common_66 : decode cX11_common 66 = .ok (.goto 4, 3) := by decide +kernel
theorem dX11_common_69 : decode cX11_common 69 = .ok (.iconst 0, 1) := by decide +kernel
theorem dX11_common_70 : decode cX11_common 70 = .ok (.iadd, 1) := by decide +kernel
theorem dX11_common_71 : decode cX11_common 71 = .ok (.istore 5, 2) := by decide +kernel
theorem dX11_common_73 : decode cX11_common 73 = .ok (.aload_n 0, 1) := by decide +kernel
theorem dX11_common_74 : decode cX11_common 74 = .ok (.getfield 27, 3) := by decide +kernel
theorem dX11_common_77 : decode cX11_common 77 = .ok (.iconst 4, 1) := by decide +kernel
theorem dX11_common_78 : decode cX11_common 78 = .ok (.iload_n 3, 1) := by decide +kernel
theorem dX11_common_79 : decode cX11_common 79 = .ok (.imul, 1) := by decide +kernel
theorem dX11_common_80 : decode cX11_common 80 = .ok (.iaload, 1) := by decide +kernel
theorem dX11_common_81 : decode cX11_common 81 = .ok (.iload 4, 2) := by decide +kernel
theorem dX11_common_83 : decode cX11_common 83 = .ok (.if_icmp .ne 7, 3) := by decide +kernel
theorem dX11_common_86 : decode cX11_common 86 = .ok (.iconst 1, 1) := by decide +kernel
theorem dX11_common_87 : decode cX11_common 87 = .ok (.goto 4, 3) := by decide +kernel
theorem dX11_common_90 : decode cX11_common 90 = .ok (.iconst 0, 1) := by decide +kernel
theorem dX11_common_91 : decode cX11_common 91 = .ok (.aload_n 0, 1) := by decide +kernel
theorem dX11_common_92 : decode cX11_common 92 = .ok (.getfield 27, 3) := by decide +kernel
theorem dX11_common_95 : decode cX11_common 95 = .ok (.iconst 4, 1) := by decide +kernel
theorem dX11_common_96 : decode cX11_common 96 = .ok (.iload_n 3, 1) := by decide +kernel
theorem dX11_common_97 : decode cX11_common 97 = .ok (.imul, 1) := by decide +kernel
theorem dX11_common_98 : decode cX11_common 98 = .ok (.iconst 1, 1) := by decide +kernel
theorem dX11_common_99 : decode cX11_common 99 = .ok (.iadd, 1) := by decide +kernel
theorem dX11_common_100 : decode cX11_common 100 = .ok (.iaload, 1) := by decide +kernel
theorem dX11_common_101 : decode cX11_common 101 = .ok (.iload 4, 2) := by decide +kernel
theorem dX11_common_103 : decode cX11_common 103 = .ok (.if_icmp .ne 7, 3) := by decide +kernel
theorem dX11_common_106 : decode cX11_common 106 = .ok (.iconst 1, 1) := by decide +kernel
theorem dX11_common_107 : decode cX11_common 107 = .ok (.goto 4, 3) := by decide +kernel
theorem dX11_common_110 : decode cX11_common 110 = .ok (.iconst 0, 1) := by decide +kernel
theorem dX11_common_111 : decode cX11_common 111 = .ok (.iadd, 1) := by decide +kernel
theorem dX11_common_112 : decode cX11_common 112 = .ok (.istore 6, 2) := by decide +kernel
theorem dX11_common_114 : decode cX11_common 114 = .ok (.iload 5, 2) := by decide +kernel
theorem dX11_common_116 : decode cX11_common 116 = .ok (.iconst 1, 1) := by decide +kernel
theorem dX11_common_117 : decode cX11_common 117 = .ok (.if_icmp .ne 39, 3) := by decide +kernel
theorem dX11_common_120 : decode cX11_common 120 = .ok (.iload 6, 2) := by decide +kernel
theorem dX11_common_122 : decode cX11_common 122 = .ok (.iconst 1, 1) := by decide +kernel
theorem dX11_common_123 : decode cX11_common 123 = .ok (.if_icmp .ne 33, 3) := by decide +kernel
theorem dX11_common_126 : decode cX11_common 126 = .ok (.aload_n 0, 1) := by decide +kernel
theorem dX11_common_127 : decode cX11_common 127 = .ok (.getfield 7, 3) := by decide +kernel
theorem dX11_common_130 : decode cX11_common 130 = .ok (.bipush 40, 2) := by decide +kernel
theorem dX11_common_132 : decode cX11_common 132 = .ok (.iload_n 1, 1) := by decide +kernel
theorem dX11_common_133 : decode cX11_common 133 = .ok (.imul, 1) := by decide +kernel
theorem dX11_common_134 : decode cX11_common 134 = .ok (.iload 4, 2) := by decide +kernel
theorem dX11_common_136 : decode cX11_common 136 = .ok (.iadd, 1) := by decide +kernel
theorem dX11_common_137 : decode cX11_common 137 = .ok (.iaload, 1) := by decide +kernel
theorem dX11_common_138 : decode cX11_common 138 = .ok (.iconst (-1), 1) := by decide +kernel
theorem dX11_common_139 : decode cX11_common 139 = .ok (.if_icmp .ne 17, 3) := by decide +kernel
theorem dX11_common_142 : decode cX11_common 142 = .ok (.aload_n 0, 1) := by decide +kernel
theorem dX11_common_143 : decode cX11_common 143 = .ok (.iload_n 1, 1) := by decide +kernel
theorem dX11_common_144 : decode cX11_common 144 = .ok (.iload 4, 2) := by decide +kernel
theorem dX11_common_146 : decode cX11_common 146 = .ok (.invokevirtual 118, 3) := by decide +kernel
theorem dX11_common_149 : decode cX11_common 149 = .ok (.iconst 2, 1) := by decide +kernel
theorem dX11_common_150 : decode cX11_common 150 = .ok (.if_icmp .ne 6, 3) := by decide +kernel
theorem dX11_common_153 : decode cX11_common 153 = .ok (.iload 4, 2) := by decide +kernel
theorem dX11_common_155 : decode cX11_common 155 = .ok (.ireturn, 1) := by decide +kernel
theorem dX11_common_156 : decode cX11_common 156 = .ok (.iinc 4 1, 3) := by decide +kernel
theorem dX11_common_159 : decode cX11_common 159 = .ok (.goto (-138), 3) := by decide +kernel
theorem dX11_common_162 : decode cX11_common 162 = .ok (.iconst (-1), 1) := by decide +kernel
theorem dX11_common_163 : decode cX11_common 163 = .ok (.ireturn, 1) := by decide +kernel
theorem dX11_isJoined_0 : decode cX11_isJoined 0 = .ok (.bipush 30, 2) := by decide +kernel
theorem dX11_isJoined_2 : decode cX11_isJoined 2 = .ok (.iload_n 1, 1) := by decide +kernel
theorem dX11_isJoined_3 : decode cX11_isJoined 3 = .ok (.imul, 1) := by decide +kernel
theorem dX11_isJoined_4 : decode cX11_isJoined 4 = .ok (.istore_n 3, 1) := by decide +kernel
theorem dX11_isJoined_5 : decode cX11_isJoined 5 = .ok (.iload_n 3, 1) := by decide +kernel
theorem dX11_isJoined_6 : decode cX11_isJoined 6 = .ok (.aload_n 0, 1) := by decide +kernel
theorem dX11_isJoined_7 : decode cX11_isJoined 7 = .ok (.getfield 30, 3) := by decide +kernel
theorem dX11_isJoined_10 : decode cX11_isJoined 10 = .ok (.iload_n 1, 1) := by decide +kernel
theorem dX11_isJoined_11 : decode cX11_isJoined 11 = .ok (.iaload, 1) := by decide +kernel
theorem dX11_isJoined_12 : decode cX11_isJoined 12 = .ok (.iadd, 1) := by decide +kernel
theorem dX11_isJoined_13 : decode cX11_isJoined 13 = .ok (.istore 4, 2) := by decide +kernel
theorem dX11_isJoined_15 : decode cX11_isJoined 15 = .ok (.iload_n 3, 1) := by decide +kernel
theorem dX11_isJoined_16 : decode cX11_isJoined 16 = .ok (.istore 5, 2) := by decide +kernel
theorem dX11_isJoined_18 : decode cX11_isJoined 18 = .ok (.iload 5, 2) := by decide +kernel
theorem dX11_isJoined_20 : decode cX11_isJoined 20 = .ok (.iload 4, 2) := by decide +kernel
theorem dX11_isJoined_22 : decode cX11_isJoined 22 = .ok (.if_icmp .ge 253, 3) := by decide +kernel
theorem dX11_isJoined_25 : decode cX11_isJoined 25 = .ok (.iload 5, 2) := by decide +kernel
theorem dX11_isJoined_27 : decode cX11_isJoined 27 = .ok (.iconst 1, 1) := by decide +kernel
theorem dX11_isJoined_28 : decode cX11_isJoined 28 = .ok (.iadd, 1) := by decide +kernel
theorem dX11_isJoined_29 : decode cX11_isJoined 29 = .ok (.istore 6, 2) := by decide +kernel
theorem dX11_isJoined_31 : decode cX11_isJoined 31 = .ok (.iload 6, 2) := by decide +kernel
theorem dX11_isJoined_33 : decode cX11_isJoined 33 = .ok (.iload 4, 2) := by decide +kernel
theorem dX11_isJoined_35 : decode cX11_isJoined 35 = .ok (.if_icmp .ge 234, 3) := by decide +kernel
theorem dX11_isJoined_38 : decode cX11_isJoined 38 = .ok (.aload_n 0, 1) := by decide +kernel
theorem dX11_isJoined_39 : decode cX11_isJoined 39 = .ok (.getfield 23, 3) := by decide +kernel
theorem dX11_isJoined_42 : decode cX11_isJoined 42 = .ok (.iload 5, 2) := by decide +kernel
theorem dX11_isJoined_44 : decode cX11_isJoined 44 = .ok (.baload, 1) := by decide +kernel
theorem dX11_isJoined_45 : decode cX11_isJoined 45 = .ok (.ifCond .ne 218, 3) := by decide +kernel
theorem dX11_isJoined_48 : decode cX11_isJoined 48 = .ok (.aload_n 0, 1) := by decide +kernel
theorem dX11_isJoined_49 : decode cX11_isJoined 49 = .ok (.getfield 23, 3) := by decide +kernel
theorem dX11_isJoined_52 : decode cX11_isJoined 52 = .ok (.iload 6, 2) := by decide +kernel
theorem dX11_isJoined_54 : decode cX11_isJoined 54 = .ok (.baload, 1) := by decide +kernel
theorem dX11_isJoined_55 : decode cX11_isJoined 55 = .ok (.ifCond .ne 208, 3) := by decide +kernel
theorem dX11_isJoined_58 : decode cX11_isJoined 58 = .ok (.aload_n 0, 1) := by decide +kernel
theorem dX11_isJoined_59 : decode cX11_isJoined 59 = .ok (.getfield 16, 3) := by decide +kernel
theorem dX11_isJoined_62 : decode cX11_isJoined 62 = .ok (.iload 5, 2) := by decide +kernel
theorem dX11_isJoined_64 : decode cX11_isJoined 64 = .ok (.iaload, 1) := by decide +kernel
theorem dX11_isJoined_65 : decode cX11_isJoined 65 = .ok (.aload_n 0, 1) := by decide +kernel
theorem dX11_isJoined_66 : decode cX11_isJoined 66 = .ok (.getfield 16, 3) := by decide +kernel
theorem dX11_isJoined_69 : decode cX11_isJoined 69 = .ok (.iload 6, 2) := by decide +kernel
theorem dX11_isJoined_71 : decode cX11_isJoined 71 = .ok (.iaload, 1) := by decide +kernel
theorem dX11_isJoined_72 : decode cX11_isJoined 72 = .ok (.if_icmp .eq 6, 3) := by decide +kernel
theorem dX11_isJoined_75 : decode cX11_isJoined 75 = .ok (.goto 188, 3) := by decide +kernel
theorem dX11_isJoined_78 : decode cX11_isJoined 78 = .ok (.iload_n 2, 1) := by decide +kernel
theorem dX11_isJoined_79 : decode cX11_isJoined 79 = .ok (.ifCond .ne 46, 3) := by decide +kernel
theorem dX11_isJoined_82 : decode cX11_isJoined 82 = .ok (.aload_n 0, 1) := by decide +kernel
theorem dX11_isJoined_83 : decode cX11_isJoined 83 = .ok (.iload 5, 2) := by decide +kernel
theorem dX11_isJoined_85 : decode cX11_isJoined 85 = .ok (.iload 6, 2) := by decide +kernel
theorem dX11_isJoined_87 : decode cX11_isJoined 87 = .ok (.invokevirtual 121, 3) := by decide +kernel
theorem dX11_isJoined_90 : decode cX11_isJoined 90 = .ok (.ifCond .eq 35, 3) := by decide +kernel
theorem dX11_isJoined_93 : decode cX11_isJoined 93 = .ok (.aload_n 0, 1) := by decide +kernel
theorem dX11_isJoined_94 : decode cX11_isJoined 94 = .ok (.getfield 19, 3) := by decide +kernel
theorem dX11_isJoined_97 : decode cX11_isJoined 97 = .ok (.iload 5, 2) := by decide +kernel
theorem dX11_isJoined_99 : decode cX11_isJoined 99 = .ok (.aload_n 0, 1) := by decide +kernel
theorem dX11_isJoined_100 : decode cX11_isJoined 100 = .ok (.getfield 19, 3) := by decide +kernel
theorem dX11_isJoined_103 : decode cX11_isJoined 103 = .ok (.iload 5, 2) := by decide +kernel
theorem dX11_isJoined_105 : decode cX11_isJoined 105 = .ok (.daload, 1) := by decide +kernel
theorem dX11_isJoined_106 : decode cX11_isJoined 106 = .ok (.aload_n 0, 1) := by decide +kernel
theorem dX11_isJoined_107 : decode cX11_isJoined 107 = .ok (.getfield 19, 3) := by decide +kernel
theorem dX11_isJoined_110 : decode cX11_isJoined 110 = .ok (.iload 6, 2) := by decide +kernel
theorem dX11_isJoined_112 : decode cX11_isJoined 112 = .ok (.daload, 1) := by decide +kernel
theorem dX11_isJoined_113 : decode cX11_isJoined 113 = .ok (.dadd, 1) := by decide +kernel
theorem dX11_isJoined_114 : decode cX11_isJoined 114 = .ok (.dastore, 1) := by decide +kernel
theorem dX11_isJoined_115 : decode cX11_isJoined 115 = .ok (.aload_n 0, 1) := by decide +kernel
theorem dX11_isJoined_116 : decode cX11_isJoined 116 = .ok (.getfield 23, 3) := by decide +kernel
theorem dX11_isJoined_119 : decode cX11_isJoined 119 = .ok (.iload 6, 2) := by decide +kernel
theorem dX11_isJoined_121 : decode cX11_isJoined 121 = .ok (.iconst 1, 1) := by decide +kernel
theorem dX11_isJoined_122 : decode cX11_isJoined 122 = .ok (.bastore, 1) := by decide +kernel
theorem dX11_isJoined_123 : decode cX11_isJoined 123 = .ok (.iconst 1, 1) := by decide +kernel
theorem dX11_isJoined_124 : decode cX11_isJoined 124 = .ok (.ireturn, 1) := by decide +kernel
theorem dX11_isJoined_125 : decode cX11_isJoined 125 = .ok (.iload_n 2, 1) := by decide +kernel
theorem dX11_isJoined_126 : decode cX11_isJoined 126 = .ok (.iconst 1, 1) := by decide +kernel
theorem dX11_isJoined_127 : decode cX11_isJoined 127 = .ok (.if_icmp .ne 15, 3) := by decide +kernel
theorem dX11_isJoined_130 : decode cX11_isJoined 130 = .ok (.aload_n 0, 1) := by decide +kernel
theorem dX11_isJoined_131 : decode cX11_isJoined 131 = .ok (.iload_n 1, 1) := by decide +kernel
theorem dX11_isJoined_132 : decode cX11_isJoined 132 = .ok (.iload 5, 2) := by decide +kernel
theorem dX11_isJoined_134 : decode cX11_isJoined 134 = .ok (.iload 6, 2) := by decide +kernel
theorem dX11_isJoined_136 : decode cX11_isJoined 136 = .ok (.invokevirtual 124, 3) := by decide +kernel
theorem dX11_isJoined_139 : decode cX11_isJoined 139 = .ok (.goto 4, 3) := by decide +kernel
theorem dX11_isJoined_142 : decode cX11_isJoined 142 = .ok (.iconst (-1), 1) := by decide +kernel
theorem dX11_isJoined_143 : decode cX11_isJoined 143 = .ok (.istore 7, 2) := by decide +kernel
theorem dX11_isJoined_145 : decode cX11_isJoined 145 = .ok (.iload 7, 2) := by decide +kernel
theorem dX11_isJoined_147 : decode cX11_isJoined 147 = .ok (.iconst (-1), 1) := by decide +kernel
theorem dX11_isJoined_148 : decode cX11_isJoined 148 = .ok (.if_icmp .eq 115, 3) := by decide +kernel
theorem dX11_isJoined_151 : decode cX11_isJoined 151 = .ok (.aload_n 0, 1) := by decide +kernel
theorem dX11_isJoined_152 : decode cX11_isJoined 152 = .ok (.getfield 27, 3) := by decide +kernel
theorem dX11_isJoined_155 : decode cX11_isJoined 155 = .ok (.iconst 4, 1) := by decide +kernel
theorem dX11_isJoined_156 : decode cX11_isJoined 156 = .ok (.iload 6, 2) := by decide +kernel
theorem dX11_isJoined_158 : decode cX11_isJoined 158 = .ok (.imul, 1) := by decide +kernel
theorem dX11_isJoined_159 : decode cX11_isJoined 159 = .ok (.iaload, 1) := by decide +kernel
theorem dX11_isJoined_160 : decode cX11_isJoined 160 = .ok (.iload 7, 2) := by decide +kernel
theorem dX11_isJoined_162 : decode cX11_isJoined 162 = .ok (.if_icmp .ne 17, 3) := by decide +kernel
theorem dX11_isJoined_165 : decode cX11_isJoined 165 = .ok (.aload_n 0, 1) := by decide +kernel
theorem dX11_isJoined_166 : decode cX11_isJoined 166 = .ok (.getfield 27, 3) := by decide +kernel
theorem dX11_isJoined_169 : decode cX11_isJoined 169 = .ok (.iconst 4, 1) := by decide +kernel
theorem dX11_isJoined_170 : decode cX11_isJoined 170 = .ok (.iload 6, 2) := by decide +kernel
theorem dX11_isJoined_172 : decode cX11_isJoined 172 = .ok (.imul, 1) := by decide +kernel
theorem dX11_isJoined_173 : decode cX11_isJoined 173 = .ok (.iconst 1, 1) := by decide +kernel
theorem dX11_isJoined_174 : decode cX11_isJoined 174 = .ok (.iadd, 1) := by decide +kernel
theorem dX11_isJoined_175 : decode cX11_isJoined 175 = .ok (.iaload, 1) := by decide +kernel
theorem dX11_isJoined_176 : decode cX11_isJoined 176 = .ok (.goto 12, 3) := by decide +kernel
theorem dX11_isJoined_179 : decode cX11_isJoined 179 = .ok (.aload_n 0, 1) := by decide +kernel
theorem dX11_isJoined_180 : decode cX11_isJoined 180 = .ok (.getfield 27, 3) := by decide +kernel
theorem dX11_isJoined_183 : decode cX11_isJoined 183 = .ok (.iconst 4, 1) := by decide +kernel
theorem dX11_isJoined_184 : decode cX11_isJoined 184 = .ok (.iload 6, 2) := by decide +kernel
theorem dX11_isJoined_186 : decode cX11_isJoined 186 = .ok (.imul, 1) := by decide +kernel
theorem dX11_isJoined_187 : decode cX11_isJoined 187 = .ok (.iaload, 1) := by decide +kernel
theorem dX11_isJoined_188 : decode cX11_isJoined 188 = .ok (.istore 8, 2) := by decide +kernel
theorem dX11_isJoined_190 : decode cX11_isJoined 190 = .ok (.aload_n 0, 1) := by decide +kernel
theorem dX11_isJoined_191 : decode cX11_isJoined 191 = .ok (.getfield 27, 3) := by decide +kernel
theorem dX11_isJoined_194 : decode cX11_isJoined 194 = .ok (.iconst 4, 1) := by decide +kernel
theorem dX11_isJoined_195 : decode cX11_isJoined 195 = .ok (.iload 5, 2) := by decide +kernel
theorem dX11_isJoined_197 : decode cX11_isJoined 197 = .ok (.imul, 1) := by decide +kernel
theorem dX11_isJoined_198 : decode cX11_isJoined 198 = .ok (.iaload, 1) := by decide +kernel
theorem dX11_isJoined_199 : decode cX11_isJoined 199 = .ok (.iload 7, 2) := by decide +kernel
theorem dX11_isJoined_201 : decode cX11_isJoined 201 = .ok (.if_icmp .ne 7, 3) := by decide +kernel
theorem dX11_isJoined_204 : decode cX11_isJoined 204 = .ok (.iconst 0, 1) := by decide +kernel
theorem dX11_isJoined_205 : decode cX11_isJoined 205 = .ok (.goto 4, 3) := by decide +kernel
theorem dX11_isJoined_208 : decode cX11_isJoined 208 = .ok (.iconst 1, 1) := by decide +kernel
theorem dX11_isJoined_209 : decode cX11_isJoined 209 = .ok (.istore 9, 2) := by decide +kernel
theorem dX11_isJoined_211 : decode cX11_isJoined 211 = .ok (.aload_n 0, 1) := by decide +kernel
theorem dX11_isJoined_212 : decode cX11_isJoined 212 = .ok (.getfield 27, 3) := by decide +kernel
theorem dX11_isJoined_215 : decode cX11_isJoined 215 = .ok (.iconst 4, 1) := by decide +kernel
theorem dX11_isJoined_216 : decode cX11_isJoined 216 = .ok (.iload 5, 2) := by decide +kernel
theorem dX11_isJoined_218 : decode cX11_isJoined 218 = .ok (.imul, 1) := by decide +kernel
theorem dX11_isJoined_219 : decode cX11_isJoined 219 = .ok (.iload 9, 2) := by decide +kernel
theorem dX11_isJoined_221 : decode cX11_isJoined 221 = .ok (.iadd, 1) := by decide +kernel
theorem dX11_isJoined_222 : decode cX11_isJoined 222 = .ok (.iload 8, 2) := by decide +kernel
theorem dX11_isJoined_224 : decode cX11_isJoined 224 = .ok (.iastore, 1) := by decide +kernel
theorem dX11_isJoined_225 : decode cX11_isJoined 225 = .ok (.aload_n 0, 1) := by decide +kernel
theorem dX11_isJoined_226 : decode cX11_isJoined 226 = .ok (.getfield 19, 3) := by decide +kernel
theorem dX11_isJoined_229 : decode cX11_isJoined 229 = .ok (.iload 5, 2) := by decide +kernel
theorem dX11_isJoined_231 : decode cX11_isJoined 231 = .ok (.dconst 1, 1) := by decide +kernel
theorem dX11_isJoined_232 : decode cX11_isJoined 232 = .ok (.dconst 1, 1) := by decide +kernel
theorem dX11_isJoined_233 : decode cX11_isJoined 233 = .ok (.aload_n 0, 1) := by decide +kernel
theorem dX11_isJoined_234 : decode cX11_isJoined 234 = .ok (.getfield 19, 3) := by decide +kernel
theorem dX11_isJoined_237 : decode cX11_isJoined 237 = .ok (.iload 5, 2) := by decide +kernel
theorem dX11_isJoined_239 : decode cX11_isJoined 239 = .ok (.daload, 1) := by decide +kernel
theorem dX11_isJoined_240 : decode cX11_isJoined 240 = .ok (.ddiv, 1) := by decide +kernel
theorem dX11_isJoined_241 : decode cX11_isJoined 241 = .ok (.dconst 1, 1) := by decide +kernel
theorem dX11_isJoined_242 : decode cX11_isJoined 242 = .ok (.aload_n 0, 1) := by decide +kernel
theorem dX11_isJoined_243 : decode cX11_isJoined 243 = .ok (.getfield 19, 3) := by decide +kernel
theorem dX11_isJoined_246 : decode cX11_isJoined 246 = .ok (.iload 6, 2) := by decide +kernel
theorem dX11_isJoined_248 : decode cX11_isJoined 248 = .ok (.daload, 1) := by decide +kernel
theorem dX11_isJoined_249 : decode cX11_isJoined 249 = .ok (.ddiv, 1) := by decide +kernel
theorem dX11_isJoined_250 : decode cX11_isJoined 250 = .ok (.dadd, 1) := by decide +kernel
theorem dX11_isJoined_251 : decode cX11_isJoined 251 = .ok (.ddiv, 1) := by decide +kernel
theorem dX11_isJoined_252 : decode cX11_isJoined 252 = .ok (.dastore, 1) := by decide +kernel
theorem dX11_isJoined_253 : decode cX11_isJoined 253 = .ok (.aload_n 0, 1) := by decide +kernel
theorem dX11_isJoined_254 : decode cX11_isJoined 254 = .ok (.getfield 23, 3) := by decide +kernel
theorem dX11_isJoined_257 : decode cX11_isJoined 257 = .ok (.iload 6, 2) := by decide +kernel
theorem dX11_isJoined_259 : decode cX11_isJoined 259 = .ok (.iconst 1, 1) := by decide +kernel
theorem dX11_isJoined_260 : decode cX11_isJoined 260 = .ok (.bastore, 1) := by decide +kernel
theorem dX11_isJoined_261 : decode cX11_isJoined 261 = .ok (.iconst 1, 1) := by decide +kernel
theorem dX11_isJoined_262 : decode cX11_isJoined 262 = .ok (.ireturn, 1) := by decide +kernel
theorem dX11_isJoined_263 : decode cX11_isJoined 263 = .ok (.iinc 6 1, 3) := by decide +kernel
theorem dX11_isJoined_266 : decode cX11_isJoined 266 = .ok (.goto (-235), 3) := by decide +kernel
theorem dX11_isJoined_269 : decode cX11_isJoined 269 = .ok (.iinc 5 1, 3) := by decide +kernel
theorem dX11_isJoined_272 : decode cX11_isJoined 272 = .ok (.goto (-254), 3) := by decide +kernel
theorem dX11_isJoined_275 : decode cX11_isJoined 275 = .ok (.iconst 0, 1) := by decide +kernel
theorem dX11_isJoined_276 : decode cX11_isJoined 276 = .ok (.ireturn, 1) := by decide +kernel
theorem dX11_live_0 : decode cX11_live 0 = .ok (.iconst 0, 1) := by decide +kernel
theorem dX11_live_1 : decode cX11_live 1 = .ok (.istore_n 2, 1) := by decide +kernel
theorem dX11_live_2 : decode cX11_live 2 = .ok (.bipush 30, 2) := by decide +kernel
theorem dX11_live_4 : decode cX11_live 4 = .ok (.iload_n 1, 1) := by decide +kernel
theorem dX11_live_5 : decode cX11_live 5 = .ok (.imul, 1) := by decide +kernel
theorem dX11_live_6 : decode cX11_live 6 = .ok (.istore_n 3, 1) := by decide +kernel
theorem dX11_live_7 : decode cX11_live 7 = .ok (.iload_n 3, 1) := by decide +kernel
theorem dX11_live_8 : decode cX11_live 8 = .ok (.bipush 30, 2) := by decide +kernel
theorem dX11_live_10 : decode cX11_live 10 = .ok (.iload_n 1, 1) := by decide +kernel
theorem dX11_live_11 : decode cX11_live 11 = .ok (.imul, 1) := by decide +kernel
theorem dX11_live_12 : decode cX11_live 12 = .ok (.aload_n 0, 1) := by decide +kernel
theorem dX11_live_13 : decode cX11_live 13 = .ok (.getfield 30, 3) := by decide +kernel
theorem dX11_live_16 : decode cX11_live 16 = .ok (.iload_n 1, 1) := by decide +kernel
theorem dX11_live_17 : decode cX11_live 17 = .ok (.iaload, 1) := by decide +kernel
theorem dX11_live_18 : decode cX11_live 18 = .ok (.iadd, 1) := by decide +kernel
theorem dX11_live_19 : decode cX11_live 19 = .ok (.if_icmp .ge 26, 3) := by decide +kernel
theorem dX11_live_22 : decode cX11_live 22 = .ok (.iload_n 2, 1) := by decide +kernel
theorem dX11_live_23 : decode cX11_live 23 = .ok (.aload_n 0, 1) := by decide +kernel
theorem dX11_live_24 : decode cX11_live 24 = .ok (.getfield 23, 3) := by decide +kernel
theorem dX11_live_27 : decode cX11_live 27 = .ok (.iload_n 3, 1) := by decide +kernel
theorem dX11_live_28 : decode cX11_live 28 = .ok (.baload, 1) := by decide +kernel
theorem dX11_live_29 : decode cX11_live 29 = .ok (.ifCond .eq 7, 3) := by decide +kernel
theorem dX11_live_32 : decode cX11_live 32 = .ok (.iconst 0, 1) := by decide +kernel
theorem dX11_live_33 : decode cX11_live 33 = .ok (.goto 4, 3) := by decide +kernel
theorem dX11_live_36 : decode cX11_live 36 = .ok (.iconst 1, 1) := by decide +kernel
theorem dX11_live_37 : decode cX11_live 37 = .ok (.iadd, 1) := by decide +kernel
theorem dX11_live_38 : decode cX11_live 38 = .ok (.istore_n 2, 1) := by decide +kernel
theorem dX11_live_39 : decode cX11_live 39 = .ok (.iinc 3 1, 3) := by decide +kernel
theorem dX11_live_42 : decode cX11_live 42 = .ok (.goto (-35), 3) := by decide +kernel
theorem dX11_live_45 : decode cX11_live 45 = .ok (.iload_n 2, 1) := by decide +kernel
theorem dX11_live_46 : decode cX11_live 46 = .ok (.ireturn, 1) := by decide +kernel
theorem dX11_join_0 : decode cX11_join 0 = .ok (.aload_n 0, 1) := by decide +kernel
theorem dX11_join_1 : decode cX11_join 1 = .ok (.iload_n 1, 1) := by decide +kernel
theorem dX11_join_2 : decode cX11_join 2 = .ok (.invokestatic 88, 3) := by decide +kernel
theorem dX11_join_5 : decode cX11_join 5 = .ok (.ifCond .ne 7, 3) := by decide +kernel
theorem dX11_join_8 : decode cX11_join 8 = .ok (.iconst 1, 1) := by decide +kernel
theorem dX11_join_9 : decode cX11_join 9 = .ok (.goto 17, 3) := by decide +kernel
theorem dX11_join_12 : decode cX11_join 12 = .ok (.iload_n 2, 1) := by decide +kernel
theorem dX11_join_13 : decode cX11_join 13 = .ok (.ifCond .lt 8, 3) := by decide +kernel
theorem dX11_join_16 : decode cX11_join 16 = .ok (.iload_n 2, 1) := by decide +kernel
theorem dX11_join_17 : decode cX11_join 17 = .ok (.iconst 1, 1) := by decide +kernel
theorem dX11_join_18 : decode cX11_join 18 = .ok (.if_icmp .le 7, 3) := by decide +kernel
theorem dX11_join_21 : decode cX11_join 21 = .ok (.iconst 2, 1) := by decide +kernel
theorem dX11_join_22 : decode cX11_join 22 = .ok (.goto 4, 3) := by decide +kernel
theorem dX11_join_25 : decode cX11_join 25 = .ok (.iconst 0, 1) := by decide +kernel
theorem dX11_join_26 : decode cX11_join 26 = .ok (.putfield 84, 3) := by decide +kernel
theorem dX11_join_29 : decode cX11_join 29 = .ok (.aload_n 0, 1) := by decide +kernel
theorem dX11_join_30 : decode cX11_join 30 = .ok (.getfield 84, 3) := by decide +kernel
theorem dX11_join_33 : decode cX11_join 33 = .ok (.ifCond .le 5, 3) := by decide +kernel
theorem dX11_join_36 : decode cX11_join 36 = .ok (.iconst 0, 1) := by decide +kernel
theorem dX11_join_37 : decode cX11_join 37 = .ok (.ireturn, 1) := by decide +kernel
theorem dX11_join_38 : decode cX11_join 38 = .ok (.aload_n 0, 1) := by decide +kernel
theorem dX11_join_39 : decode cX11_join 39 = .ok (.iload_n 1, 1) := by decide +kernel
theorem dX11_join_40 : decode cX11_join 40 = .ok (.iload_n 2, 1) := by decide +kernel
theorem dX11_join_41 : decode cX11_join 41 = .ok (.invokevirtual 127, 3) := by decide +kernel
theorem dX11_join_44 : decode cX11_join 44 = .ok (.ifCond .eq 11, 3) := by decide +kernel
theorem dX11_join_47 : decode cX11_join 47 = .ok (.aload_n 0, 1) := by decide +kernel
theorem dX11_join_48 : decode cX11_join 48 = .ok (.iconst 0, 1) := by decide +kernel
theorem dX11_join_49 : decode cX11_join 49 = .ok (.putfield 84, 3) := by decide +kernel
theorem dX11_join_52 : decode cX11_join 52 = .ok (.goto (-14), 3) := by decide +kernel
theorem dX11_join_55 : decode cX11_join 55 = .ok (.aload_n 0, 1) := by decide +kernel
theorem dX11_join_56 : decode cX11_join 56 = .ok (.iload_n 1, 1) := by decide +kernel
theorem dX11_join_57 : decode cX11_join 57 = .ok (.invokevirtual 130, 3) := by decide +kernel
theorem dX11_join_60 : decode cX11_join 60 = .ok (.ireturn, 1) := by decide +kernel
theorem dX11_isUsed_0 : decode cX11_isUsed 0 = .ok (.aload_n 0, 1) := by decide +kernel
theorem dX11_isUsed_1 : decode cX11_isUsed 1 = .ok (.getfield 7, 3) := by decide +kernel
theorem dX11_isUsed_4 : decode cX11_isUsed 4 = .ok (.bipush 40, 2) := by decide +kernel
theorem dX11_isUsed_6 : decode cX11_isUsed 6 = .ok (.iload_n 1, 1) := by decide +kernel
theorem dX11_isUsed_7 : decode cX11_isUsed 7 = .ok (.imul, 1) := by decide +kernel
theorem dX11_isUsed_8 : decode cX11_isUsed 8 = .ok (.iload_n 2, 1) := by decide +kernel
theorem dX11_isUsed_9 : decode cX11_isUsed 9 = .ok (.iadd, 1) := by decide +kernel
theorem dX11_isUsed_10 : decode cX11_isUsed 10 = .ok (.iaload, 1) := by decide +kernel
theorem dX11_isUsed_11 : decode cX11_isUsed 11 = .ok (.iconst (-1), 1) := by decide +kernel
theorem dX11_isUsed_12 : decode cX11_isUsed 12 = .ok (.if_icmp .ne 12, 3) := by decide +kernel
theorem dX11_isUsed_15 : decode cX11_isUsed 15 = .ok (.aload_n 0, 1) := by decide +kernel
theorem dX11_isUsed_16 : decode cX11_isUsed 16 = .ok (.iload_n 1, 1) := by decide +kernel
theorem dX11_isUsed_17 : decode cX11_isUsed 17 = .ok (.iload_n 2, 1) := by decide +kernel
theorem dX11_isUsed_18 : decode cX11_isUsed 18 = .ok (.invokevirtual 118, 3) := by decide +kernel
theorem dX11_isUsed_21 : decode cX11_isUsed 21 = .ok (.ifCond .le 7, 3) := by decide +kernel
theorem dX11_isUsed_24 : decode cX11_isUsed 24 = .ok (.iconst 1, 1) := by decide +kernel
theorem dX11_isUsed_25 : decode cX11_isUsed 25 = .ok (.goto 4, 3) := by decide +kernel
theorem dX11_isUsed_28 : decode cX11_isUsed 28 = .ok (.iconst 0, 1) := by decide +kernel
theorem dX11_isUsed_29 : decode cX11_isUsed 29 = .ok (.ireturn, 1) := by decide +kernel
theorem dX11_pinsOnClass_0 : decode cX11_pinsOnClass 0 = .ok (.iload_n 1, 1) := by decide +kernel
theorem dX11_pinsOnClass_1 : decode cX11_pinsOnClass 1 = .ok (.bipush 30, 2) := by decide +kernel
theorem dX11_pinsOnClass_3 : decode cX11_pinsOnClass 3 = .ok (.idiv, 1) := by decide +kernel
theorem dX11_pinsOnClass_4 : decode cX11_pinsOnClass 4 = .ok (.istore 4, 2) := by decide +kernel
theorem dX11_pinsOnClass_6 : decode cX11_pinsOnClass 6 = .ok (.iconst 0, 1) := by decide +kernel
theorem dX11_pinsOnClass_7 : decode cX11_pinsOnClass 7 = .ok (.istore 5, 2) := by decide +kernel
theorem dX11_pinsOnClass_9 : decode cX11_pinsOnClass 9 = .ok (.iconst 0, 1) := by decide +kernel
theorem dX11_pinsOnClass_10 : decode cX11_pinsOnClass 10 = .ok (.istore 6, 2) := by decide +kernel
theorem dX11_pinsOnClass_12 : decode cX11_pinsOnClass 12 = .ok (.iload 6, 2) := by decide +kernel
theorem dX11_pinsOnClass_14 : decode cX11_pinsOnClass 14 = .ok (.iconst 4, 1) := by decide +kernel
theorem dX11_pinsOnClass_15 : decode cX11_pinsOnClass 15 = .ok (.if_icmp .ge 66, 3) := by decide +kernel
theorem dX11_pinsOnClass_18 : decode cX11_pinsOnClass 18 = .ok (.aload_n 0, 1) := by decide +kernel
theorem dX11_pinsOnClass_19 : decode cX11_pinsOnClass 19 = .ok (.getfield 27, 3) := by decide +kernel
theorem dX11_pinsOnClass_22 : decode cX11_pinsOnClass 22 = .ok (.iconst 4, 1) := by decide +kernel
theorem dX11_pinsOnClass_23 : decode cX11_pinsOnClass 23 = .ok (.iload_n 1, 1) := by decide +kernel
theorem dX11_pinsOnClass_24 : decode cX11_pinsOnClass 24 = .ok (.imul, 1) := by decide +kernel
theorem dX11_pinsOnClass_25 : decode cX11_pinsOnClass 25 = .ok (.iload 6, 2) := by decide +kernel
theorem dX11_pinsOnClass_27 : decode cX11_pinsOnClass 27 = .ok (.iadd, 1) := by decide +kernel
theorem dX11_pinsOnClass_28 : decode cX11_pinsOnClass 28 = .ok (.iaload, 1) := by decide +kernel
theorem dX11_pinsOnClass_29 : decode cX11_pinsOnClass 29 = .ok (.istore 7, 2) := by decide +kernel
theorem dX11_pinsOnClass_31 : decode cX11_pinsOnClass 31 = .ok (.iload 5, 2) := by decide +kernel
theorem dX11_pinsOnClass_33 : decode cX11_pinsOnClass 33 = .ok (.aload_n 0, 1) := by decide +kernel
theorem dX11_pinsOnClass_34 : decode cX11_pinsOnClass 34 = .ok (.iload_n 1, 1) := by decide +kernel
theorem dX11_pinsOnClass_35 : decode cX11_pinsOnClass 35 = .ok (.iload 6, 2) := by decide +kernel
theorem dX11_pinsOnClass_37 : decode cX11_pinsOnClass 37 = .ok (.invokevirtual 107, 3) := by decide +kernel
theorem dX11_pinsOnClass_40 : decode cX11_pinsOnClass 40 = .ok (.iload_n 2, 1) := by decide +kernel
theorem dX11_pinsOnClass_41 : decode cX11_pinsOnClass 41 = .ok (.if_icmp .ne 30, 3) := by decide +kernel
theorem dX11_pinsOnClass_44 : decode cX11_pinsOnClass 44 = .ok (.iload 7, 2) := by decide +kernel
theorem dX11_pinsOnClass_46 : decode cX11_pinsOnClass 46 = .ok (.iconst (-1), 1) := by decide +kernel
theorem dX11_pinsOnClass_47 : decode cX11_pinsOnClass 47 = .ok (.if_icmp .eq 24, 3) := by decide +kernel
theorem dX11_pinsOnClass_50 : decode cX11_pinsOnClass 50 = .ok (.aload_n 0, 1) := by decide +kernel
theorem dX11_pinsOnClass_51 : decode cX11_pinsOnClass 51 = .ok (.getfield 42, 3) := by decide +kernel
theorem dX11_pinsOnClass_54 : decode cX11_pinsOnClass 54 = .ok (.bipush 40, 2) := by decide +kernel
theorem dX11_pinsOnClass_56 : decode cX11_pinsOnClass 56 = .ok (.iload 4, 2) := by decide +kernel
theorem dX11_pinsOnClass_58 : decode cX11_pinsOnClass 58 = .ok (.imul, 1) := by decide +kernel
theorem dX11_pinsOnClass_59 : decode cX11_pinsOnClass 59 = .ok (.iload 7, 2) := by decide +kernel
theorem dX11_pinsOnClass_61 : decode cX11_pinsOnClass 61 = .ok (.iadd, 1) := by decide +kernel
theorem dX11_pinsOnClass_62 : decode cX11_pinsOnClass 62 = .ok (.iaload, 1) := by decide +kernel
theorem dX11_pinsOnClass_63 : decode cX11_pinsOnClass 63 = .ok (.iload_n 3, 1) := by decide +kernel
theorem dX11_pinsOnClass_64 : decode cX11_pinsOnClass 64 = .ok (.if_icmp .ne 7, 3) := by decide +kernel
theorem dX11_pinsOnClass_67 : decode cX11_pinsOnClass 67 = .ok (.iconst 1, 1) := by decide +kernel
theorem dX11_pinsOnClass_68 : decode cX11_pinsOnClass 68 = .ok (.goto 4, 3) := by decide +kernel
theorem dX11_pinsOnClass_71 : decode cX11_pinsOnClass 71 = .ok (.iconst 0, 1) := by decide +kernel
theorem dX11_pinsOnClass_72 : decode cX11_pinsOnClass 72 = .ok (.iadd, 1) := by decide +kernel
theorem dX11_pinsOnClass_73 : decode cX11_pinsOnClass 73 = .ok (.istore 5, 2) := by decide +kernel
theorem dX11_pinsOnClass_75 : decode cX11_pinsOnClass 75 = .ok (.iinc 6 1, 3) := by decide +kernel
theorem dX11_pinsOnClass_78 : decode cX11_pinsOnClass 78 = .ok (.goto (-66), 3) := by decide +kernel
theorem dX11_pinsOnClass_81 : decode cX11_pinsOnClass 81 = .ok (.iload 5, 2) := by decide +kernel
theorem dX11_pinsOnClass_83 : decode cX11_pinsOnClass 83 = .ok (.ireturn, 1) := by decide +kernel
theorem dX11_isLikeDevice_0 : decode cX11_isLikeDevice 0 = .ok (.aload_n 0, 1) := by decide +kernel
theorem dX11_isLikeDevice_1 : decode cX11_isLikeDevice 1 = .ok (.getfield 39, 3) := by decide +kernel
theorem dX11_isLikeDevice_4 : decode cX11_isLikeDevice 4 = .ok (.iload_n 1, 1) := by decide +kernel
theorem dX11_isLikeDevice_5 : decode cX11_isLikeDevice 5 = .ok (.iaload, 1) := by decide +kernel
theorem dX11_isLikeDevice_6 : decode cX11_isLikeDevice 6 = .ok (.aload_n 0, 1) := by decide +kernel
theorem dX11_isLikeDevice_7 : decode cX11_isLikeDevice 7 = .ok (.getfield 39, 3) := by decide +kernel
theorem dX11_isLikeDevice_10 : decode cX11_isLikeDevice 10 = .ok (.iload_n 2, 1) := by decide +kernel
theorem dX11_isLikeDevice_11 : decode cX11_isLikeDevice 11 = .ok (.iaload, 1) := by decide +kernel
theorem dX11_isLikeDevice_12 : decode cX11_isLikeDevice 12 = .ok (.if_icmp .eq 5, 3) := by decide +kernel
theorem dX11_isLikeDevice_15 : decode cX11_isLikeDevice 15 = .ok (.iconst 0, 1) := by decide +kernel
theorem dX11_isLikeDevice_16 : decode cX11_isLikeDevice 16 = .ok (.ireturn, 1) := by decide +kernel
theorem dX11_isLikeDevice_17 : decode cX11_isLikeDevice 17 = .ok (.iconst 1, 1) := by decide +kernel
theorem dX11_isLikeDevice_18 : decode cX11_isLikeDevice 18 = .ok (.istore_n 3, 1) := by decide +kernel
theorem dX11_isLikeDevice_19 : decode cX11_isLikeDevice 19 = .ok (.iconst 0, 1) := by decide +kernel
theorem dX11_isLikeDevice_20 : decode cX11_isLikeDevice 20 = .ok (.istore 4, 2) := by decide +kernel
theorem dX11_isLikeDevice_22 : decode cX11_isLikeDevice 22 = .ok (.iload 4, 2) := by decide +kernel
theorem dX11_isLikeDevice_24 : decode cX11_isLikeDevice 24 = .ok (.iconst 4, 1) := by decide +kernel
theorem dX11_isLikeDevice_25 : decode cX11_isLikeDevice 25 = .ok (.if_icmp .ge 117, 3) := by decide +kernel
theorem dX11_isLikeDevice_28 : decode cX11_isLikeDevice 28 = .ok (.aload_n 0, 1) := by decide +kernel
theorem dX11_isLikeDevice_29 : decode cX11_isLikeDevice 29 = .ok (.iload_n 1, 1) := by decide +kernel
theorem dX11_isLikeDevice_30 : decode cX11_isLikeDevice 30 = .ok (.iload 4, 2) := by decide +kernel
theorem dX11_isLikeDevice_32 : decode cX11_isLikeDevice 32 = .ok (.invokevirtual 107, 3) := by decide +kernel
theorem dX11_isLikeDevice_35 : decode cX11_isLikeDevice 35 = .ok (.istore 5, 2) := by decide +kernel
theorem dX11_isLikeDevice_37 : decode cX11_isLikeDevice 37 = .ok (.aload_n 0, 1) := by decide +kernel
theorem dX11_isLikeDevice_38 : decode cX11_isLikeDevice 38 = .ok (.getfield 27, 3) := by decide +kernel
theorem dX11_isLikeDevice_41 : decode cX11_isLikeDevice 41 = .ok (.iconst 4, 1) := by decide +kernel
theorem dX11_isLikeDevice_42 : decode cX11_isLikeDevice 42 = .ok (.iload_n 1, 1) := by decide +kernel
theorem dX11_isLikeDevice_43 : decode cX11_isLikeDevice 43 = .ok (.imul, 1) := by decide +kernel
theorem dX11_isLikeDevice_44 : decode cX11_isLikeDevice 44 = .ok (.iload 4, 2) := by decide +kernel
theorem dX11_isLikeDevice_46 : decode cX11_isLikeDevice 46 = .ok (.iadd, 1) := by decide +kernel
theorem dX11_isLikeDevice_47 : decode cX11_isLikeDevice 47 = .ok (.iaload, 1) := by decide +kernel
theorem dX11_isLikeDevice_48 : decode cX11_isLikeDevice 48 = .ok (.istore 6, 2) := by decide +kernel
theorem dX11_isLikeDevice_50 : decode cX11_isLikeDevice 50 = .ok (.iload 6, 2) := by decide +kernel
theorem dX11_isLikeDevice_52 : decode cX11_isLikeDevice 52 = .ok (.iconst (-1), 1) := by decide +kernel
theorem dX11_isLikeDevice_53 : decode cX11_isLikeDevice 53 = .ok (.if_icmp .ne 35, 3) := by decide +kernel
theorem dX11_isLikeDevice_56 : decode cX11_isLikeDevice 56 = .ok (.iload_n 3, 1) := by decide +kernel
theorem dX11_isLikeDevice_57 : decode cX11_isLikeDevice 57 = .ok (.ifCond .eq 26, 3) := by decide +kernel
theorem dX11_isLikeDevice_60 : decode cX11_isLikeDevice 60 = .ok (.aload_n 0, 1) := by decide +kernel
theorem dX11_isLikeDevice_61 : decode cX11_isLikeDevice 61 = .ok (.iload_n 1, 1) := by decide +kernel
theorem dX11_isLikeDevice_62 : decode cX11_isLikeDevice 62 = .ok (.iload 5, 2) := by decide +kernel
theorem dX11_isLikeDevice_64 : decode cX11_isLikeDevice 64 = .ok (.iconst (-1), 1) := by decide +kernel
theorem dX11_isLikeDevice_65 : decode cX11_isLikeDevice 65 = .ok (.invokevirtual 111, 3) := by decide +kernel
theorem dX11_isLikeDevice_68 : decode cX11_isLikeDevice 68 = .ok (.aload_n 0, 1) := by decide +kernel
theorem dX11_isLikeDevice_69 : decode cX11_isLikeDevice 69 = .ok (.iload_n 2, 1) := by decide +kernel
theorem dX11_isLikeDevice_70 : decode cX11_isLikeDevice 70 = .ok (.iload 5, 2) := by decide +kernel
theorem dX11_isLikeDevice_72 : decode cX11_isLikeDevice 72 = .ok (.iconst (-1), 1) := by decide +kernel
theorem dX11_isLikeDevice_73 : decode cX11_isLikeDevice 73 = .ok (.invokevirtual 111, 3) := by decide +kernel
theorem dX11_isLikeDevice_76 : decode cX11_isLikeDevice 76 = .ok (.if_icmp .ne 7, 3) := by decide +kernel
theorem dX11_isLikeDevice_79 : decode cX11_isLikeDevice 79 = .ok (.iconst 1, 1) := by decide +kernel
theorem dX11_isLikeDevice_80 : decode cX11_isLikeDevice 80 = .ok (.goto 4, 3) := by decide +kernel
theorem dX11_isLikeDevice_83 : decode cX11_isLikeDevice 83 = .ok (.iconst 0, 1) := by decide +kernel
theorem dX11_isLikeDevice_84 : decode cX11_isLikeDevice 84 = .ok (.istore_n 3, 1) := by decide +kernel
theorem dX11_isLikeDevice_85 : decode cX11_isLikeDevice 85 = .ok (.goto 51, 3) := by decide +kernel
theorem dX11_isLikeDevice_88 : decode cX11_isLikeDevice 88 = .ok (.aload_n 0, 1) := by decide +kernel
theorem dX11_isLikeDevice_89 : decode cX11_isLikeDevice 89 = .ok (.getfield 42, 3) := by decide +kernel
theorem dX11_isLikeDevice_92 : decode cX11_isLikeDevice 92 = .ok (.bipush 40, 2) := by decide +kernel
theorem dX11_isLikeDevice_94 : decode cX11_isLikeDevice 94 = .ok (.iload_n 1, 1) := by decide +kernel
theorem dX11_isLikeDevice_95 : decode cX11_isLikeDevice 95 = .ok (.bipush 30, 2) := by decide +kernel
theorem dX11_isLikeDevice_97 : decode cX11_isLikeDevice 97 = .ok (.idiv, 1) := by decide +kernel
theorem dX11_isLikeDevice_98 : decode cX11_isLikeDevice 98 = .ok (.imul, 1) := by decide +kernel
theorem dX11_isLikeDevice_99 : decode cX11_isLikeDevice 99 = .ok (.iload 6, 2) := by decide +kernel
theorem dX11_isLikeDevice_101 : decode cX11_isLikeDevice 101 = .ok (.iadd, 1) := by decide +kernel
theorem dX11_isLikeDevice_102 : decode cX11_isLikeDevice 102 = .ok (.iaload, 1) := by decide +kernel
theorem dX11_isLikeDevice_103 : decode cX11_isLikeDevice 103 = .ok (.istore 7, 2) := by decide +kernel
theorem dX11_isLikeDevice_105 : decode cX11_isLikeDevice 105 = .ok (.iload_n 3, 1) := by decide +kernel
theorem dX11_isLikeDevice_106 : decode cX11_isLikeDevice 106 = .ok (.ifCond .eq 28, 3) := by decide +kernel
theorem dX11_isLikeDevice_109 : decode cX11_isLikeDevice 109 = .ok (.aload_n 0, 1) := by decide +kernel
theorem dX11_isLikeDevice_110 : decode cX11_isLikeDevice 110 = .ok (.iload_n 1, 1) := by decide +kernel
theorem dX11_isLikeDevice_111 : decode cX11_isLikeDevice 111 = .ok (.iload 5, 2) := by decide +kernel
theorem dX11_isLikeDevice_113 : decode cX11_isLikeDevice 113 = .ok (.iload 7, 2) := by decide +kernel
theorem dX11_isLikeDevice_115 : decode cX11_isLikeDevice 115 = .ok (.invokevirtual 134, 3) := by decide +kernel
theorem dX11_isLikeDevice_118 : decode cX11_isLikeDevice 118 = .ok (.aload_n 0, 1) := by decide +kernel
theorem dX11_isLikeDevice_119 : decode cX11_isLikeDevice 119 = .ok (.iload_n 2, 1) := by decide +kernel
theorem dX11_isLikeDevice_120 : decode cX11_isLikeDevice 120 = .ok (.iload 5, 2) := by decide +kernel
theorem dX11_isLikeDevice_122 : decode cX11_isLikeDevice 122 = .ok (.iload 7, 2) := by decide +kernel
theorem dX11_isLikeDevice_124 : decode cX11_isLikeDevice 124 = .ok (.invokevirtual 134, 3) := by decide +kernel
theorem dX11_isLikeDevice_127 : decode cX11_isLikeDevice 127 = .ok (.if_icmp .ne 7, 3) := by decide +kernel
theorem dX11_isLikeDevice_130 : decode cX11_isLikeDevice 130 = .ok (.iconst 1, 1) := by decide +kernel
theorem dX11_isLikeDevice_131 : decode cX11_isLikeDevice 131 = .ok (.goto 4, 3) := by decide +kernel
theorem dX11_isLikeDevice_134 : decode cX11_isLikeDevice 134 = .ok (.iconst 0, 1) := by decide +kernel
theorem dX11_isLikeDevice_135 : decode cX11_isLikeDevice 135 = .ok (.istore_n 3, 1) := by decide +kernel
theorem dX11_isLikeDevice_136 : decode cX11_isLikeDevice 136 = .ok (.iinc 4 1, 3) := by decide +kernel
theorem dX11_isLikeDevice_139 : decode cX11_isLikeDevice 139 = .ok (.goto (-117), 3) := by decide +kernel
theorem dX11_isLikeDevice_142 : decode cX11_isLikeDevice 142 = .ok (.iload_n 3, 1) := by decide +kernel
theorem dX11_isLikeDevice_143 : decode cX11_isLikeDevice 143 = .ok (.ireturn, 1) := by decide +kernel
theorem dX11_pinsOfClass_0 : decode cX11_pinsOfClass 0 = .ok (.iload_n 1, 1) := by decide +kernel
theorem dX11_pinsOfClass_1 : decode cX11_pinsOfClass 1 = .ok (.bipush 40, 2) := by decide +kernel
theorem dX11_pinsOfClass_3 : decode cX11_pinsOfClass 3 = .ok (.idiv, 1) := by decide +kernel
theorem dX11_pinsOfClass_4 : decode cX11_pinsOfClass 4 = .ok (.istore 4, 2) := by decide +kernel
theorem dX11_pinsOfClass_6 : decode cX11_pinsOfClass 6 = .ok (.iconst 0, 1) := by decide +kernel
theorem dX11_pinsOfClass_7 : decode cX11_pinsOfClass 7 = .ok (.istore 5, 2) := by decide +kernel
theorem dX11_pinsOfClass_9 : decode cX11_pinsOfClass 9 = .ok (.bipush 30, 2) := by decide +kernel
theorem dX11_pinsOfClass_11 : decode cX11_pinsOfClass 11 = .ok (.iload 4, 2) := by decide +kernel
theorem dX11_pinsOfClass_13 : decode cX11_pinsOfClass 13 = .ok (.imul, 1) := by decide +kernel
theorem dX11_pinsOfClass_14 : decode cX11_pinsOfClass 14 = .ok (.istore 6, 2) := by decide +kernel
theorem dX11_pinsOfClass_16 : decode cX11_pinsOfClass 16 = .ok (.iload 6, 2) := by decide +kernel
theorem dX11_pinsOfClass_18 : decode cX11_pinsOfClass 18 = .ok (.bipush 30, 2) := by decide +kernel
theorem dX11_pinsOfClass_20 : decode cX11_pinsOfClass 20 = .ok (.iload 4, 2) := by decide +kernel
theorem dX11_pinsOfClass_22 : decode cX11_pinsOfClass 22 = .ok (.imul, 1) := by decide +kernel
theorem dX11_pinsOfClass_23 : decode cX11_pinsOfClass 23 = .ok (.aload_n 0, 1) := by decide +kernel
theorem dX11_pinsOfClass_24 : decode cX11_pinsOfClass 24 = .ok (.getfield 30, 3) := by decide +kernel
theorem dX11_pinsOfClass_27 : decode cX11_pinsOfClass 27 = .ok (.iload 4, 2) := by decide +kernel
theorem dX11_pinsOfClass_29 : decode cX11_pinsOfClass 29 = .ok (.iaload, 1) := by decide +kernel
theorem dX11_pinsOfClass_30 : decode cX11_pinsOfClass 30 = .ok (.iadd, 1) := by decide +kernel
theorem dX11_pinsOfClass_31 : decode cX11_pinsOfClass 31 = .ok (.if_icmp .ge 46, 3) := by decide +kernel
theorem dX11_pinsOfClass_34 : decode cX11_pinsOfClass 34 = .ok (.aload_n 0, 1) := by decide +kernel
theorem dX11_pinsOfClass_35 : decode cX11_pinsOfClass 35 = .ok (.getfield 23, 3) := by decide +kernel
theorem dX11_pinsOfClass_38 : decode cX11_pinsOfClass 38 = .ok (.iload 6, 2) := by decide +kernel
theorem dX11_pinsOfClass_40 : decode cX11_pinsOfClass 40 = .ok (.baload, 1) := by decide +kernel
theorem dX11_pinsOfClass_41 : decode cX11_pinsOfClass 41 = .ok (.ifCond .ne 30, 3) := by decide +kernel
theorem dX11_pinsOfClass_44 : decode cX11_pinsOfClass 44 = .ok (.aload_n 0, 1) := by decide +kernel
theorem dX11_pinsOfClass_45 : decode cX11_pinsOfClass 45 = .ok (.getfield 39, 3) := by decide +kernel
theorem dX11_pinsOfClass_48 : decode cX11_pinsOfClass 48 = .ok (.iload 6, 2) := by decide +kernel
theorem dX11_pinsOfClass_50 : decode cX11_pinsOfClass 50 = .ok (.iaload, 1) := by decide +kernel
theorem dX11_pinsOfClass_51 : decode cX11_pinsOfClass 51 = .ok (.iload_n 2, 1) := by decide +kernel
theorem dX11_pinsOfClass_52 : decode cX11_pinsOfClass 52 = .ok (.if_icmp .ne 19, 3) := by decide +kernel
theorem dX11_pinsOfClass_55 : decode cX11_pinsOfClass 55 = .ok (.iload 5, 2) := by decide +kernel
theorem dX11_pinsOfClass_57 : decode cX11_pinsOfClass 57 = .ok (.aload_n 0, 1) := by decide +kernel
theorem dX11_pinsOfClass_58 : decode cX11_pinsOfClass 58 = .ok (.iload 6, 2) := by decide +kernel
theorem dX11_pinsOfClass_60 : decode cX11_pinsOfClass 60 = .ok (.iload_n 3, 1) := by decide +kernel
theorem dX11_pinsOfClass_61 : decode cX11_pinsOfClass 61 = .ok (.iload_n 1, 1) := by decide +kernel
theorem dX11_pinsOfClass_62 : decode cX11_pinsOfClass 62 = .ok (.bipush 40, 2) := by decide +kernel
theorem dX11_pinsOfClass_64 : decode cX11_pinsOfClass 64 = .ok (.irem, 1) := by decide +kernel
theorem dX11_pinsOfClass_65 : decode cX11_pinsOfClass 65 = .ok (.invokevirtual 111, 3) := by decide +kernel
theorem dX11_pinsOfClass_68 : decode cX11_pinsOfClass 68 = .ok (.iadd, 1) := by decide +kernel
theorem dX11_pinsOfClass_69 : decode cX11_pinsOfClass 69 = .ok (.istore 5, 2) := by decide +kernel
theorem dX11_pinsOfClass_71 : decode cX11_pinsOfClass 71 = .ok (.iinc 6 1, 3) := by decide +kernel
theorem dX11_pinsOfClass_74 : decode cX11_pinsOfClass 74 = .ok (.goto (-58), 3) := by decide +kernel
theorem dX11_pinsOfClass_77 : decode cX11_pinsOfClass 77 = .ok (.iload 5, 2) := by decide +kernel
theorem dX11_pinsOfClass_79 : decode cX11_pinsOfClass 79 = .ok (.ireturn, 1) := by decide +kernel
theorem dX11_isLikeNet_0 : decode cX11_isLikeNet 0 = .ok (.aload_n 0, 1) := by decide +kernel
theorem dX11_isLikeNet_1 : decode cX11_isLikeNet 1 = .ok (.getfield 42, 3) := by decide +kernel
theorem dX11_isLikeNet_4 : decode cX11_isLikeNet 4 = .ok (.iload_n 1, 1) := by decide +kernel
theorem dX11_isLikeNet_5 : decode cX11_isLikeNet 5 = .ok (.iaload, 1) := by decide +kernel
theorem dX11_isLikeNet_6 : decode cX11_isLikeNet 6 = .ok (.aload_n 0, 1) := by decide +kernel
theorem dX11_isLikeNet_7 : decode cX11_isLikeNet 7 = .ok (.getfield 42, 3) := by decide +kernel
theorem dX11_isLikeNet_10 : decode cX11_isLikeNet 10 = .ok (.iload_n 2, 1) := by decide +kernel
theorem dX11_isLikeNet_11 : decode cX11_isLikeNet 11 = .ok (.iaload, 1) := by decide +kernel
theorem dX11_isLikeNet_12 : decode cX11_isLikeNet 12 = .ok (.if_icmp .ne 30, 3) := by decide +kernel
theorem dX11_isLikeNet_15 : decode cX11_isLikeNet 15 = .ok (.aload_n 0, 1) := by decide +kernel
theorem dX11_isLikeNet_16 : decode cX11_isLikeNet 16 = .ok (.iload_n 1, 1) := by decide +kernel
theorem dX11_isLikeNet_17 : decode cX11_isLikeNet 17 = .ok (.bipush 40, 2) := by decide +kernel
theorem dX11_isLikeNet_19 : decode cX11_isLikeNet 19 = .ok (.idiv, 1) := by decide +kernel
theorem dX11_isLikeNet_20 : decode cX11_isLikeNet 20 = .ok (.iload_n 1, 1) := by decide +kernel
theorem dX11_isLikeNet_21 : decode cX11_isLikeNet 21 = .ok (.bipush 40, 2) := by decide +kernel
theorem dX11_isLikeNet_23 : decode cX11_isLikeNet 23 = .ok (.irem, 1) := by decide +kernel
theorem dX11_isLikeNet_24 : decode cX11_isLikeNet 24 = .ok (.invokevirtual 118, 3) := by decide +kernel
theorem dX11_isLikeNet_27 : decode cX11_isLikeNet 27 = .ok (.aload_n 0, 1) := by decide +kernel
theorem dX11_isLikeNet_28 : decode cX11_isLikeNet 28 = .ok (.iload_n 2, 1) := by decide +kernel
theorem dX11_isLikeNet_29 : decode cX11_isLikeNet 29 = .ok (.bipush 40, 2) := by decide +kernel
theorem dX11_isLikeNet_31 : decode cX11_isLikeNet 31 = .ok (.idiv, 1) := by decide +kernel
theorem dX11_isLikeNet_32 : decode cX11_isLikeNet 32 = .ok (.iload_n 2, 1) := by decide +kernel
theorem dX11_isLikeNet_33 : decode cX11_isLikeNet 33 = .ok (.bipush 40, 2) := by decide +kernel
theorem dX11_isLikeNet_35 : decode cX11_isLikeNet 35 = .ok (.irem, 1) := by decide +kernel
theorem dX11_isLikeNet_36 : decode cX11_isLikeNet 36 = .ok (.invokevirtual 118, 3) := by decide +kernel
theorem dX11_isLikeNet_39 : decode cX11_isLikeNet 39 = .ok (.if_icmp .eq 5, 3) := by decide +kernel
theorem dX11_isLikeNet_42 : decode cX11_isLikeNet 42 = .ok (.iconst 0, 1) := by decide +kernel
theorem dX11_isLikeNet_43 : decode cX11_isLikeNet 43 = .ok (.ireturn, 1) := by decide +kernel
theorem dX11_isLikeNet_44 : decode cX11_isLikeNet 44 = .ok (.iload_n 1, 1) := by decide +kernel
theorem dX11_isLikeNet_45 : decode cX11_isLikeNet 45 = .ok (.bipush 40, 2) := by decide +kernel
theorem dX11_isLikeNet_47 : decode cX11_isLikeNet 47 = .ok (.idiv, 1) := by decide +kernel
theorem dX11_isLikeNet_48 : decode cX11_isLikeNet 48 = .ok (.istore_n 3, 1) := by decide +kernel
theorem dX11_isLikeNet_49 : decode cX11_isLikeNet 49 = .ok (.iconst 1, 1) := by decide +kernel
theorem dX11_isLikeNet_50 : decode cX11_isLikeNet 50 = .ok (.istore 4, 2) := by decide +kernel
theorem dX11_isLikeNet_52 : decode cX11_isLikeNet 52 = .ok (.bipush 30, 2) := by decide +kernel
theorem dX11_isLikeNet_54 : decode cX11_isLikeNet 54 = .ok (.iload_n 3, 1) := by decide +kernel
theorem dX11_isLikeNet_55 : decode cX11_isLikeNet 55 = .ok (.imul, 1) := by decide +kernel
theorem dX11_isLikeNet_56 : decode cX11_isLikeNet 56 = .ok (.istore 5, 2) := by decide +kernel
theorem dX11_isLikeNet_58 : decode cX11_isLikeNet 58 = .ok (.iload 5, 2) := by decide +kernel
theorem dX11_isLikeNet_60 : decode cX11_isLikeNet 60 = .ok (.bipush 30, 2) := by decide +kernel
theorem dX11_isLikeNet_62 : decode cX11_isLikeNet 62 = .ok (.iload_n 3, 1) := by decide +kernel
theorem dX11_isLikeNet_63 : decode cX11_isLikeNet 63 = .ok (.imul, 1) := by decide +kernel
theorem dX11_isLikeNet_64 : decode cX11_isLikeNet 64 = .ok (.aload_n 0, 1) := by decide +kernel
theorem dX11_isLikeNet_65 : decode cX11_isLikeNet 65 = .ok (.getfield 30, 3) := by decide +kernel
theorem dX11_isLikeNet_68 : decode cX11_isLikeNet 68 = .ok (.iload_n 3, 1) := by decide +kernel
theorem dX11_isLikeNet_69 : decode cX11_isLikeNet 69 = .ok (.iaload, 1) := by decide +kernel
theorem dX11_isLikeNet_70 : decode cX11_isLikeNet 70 = .ok (.iadd, 1) := by decide +kernel
theorem dX11_isLikeNet_71 : decode cX11_isLikeNet 71 = .ok (.if_icmp .ge 108, 3) := by decide +kernel
theorem dX11_isLikeNet_74 : decode cX11_isLikeNet 74 = .ok (.iconst 0, 1) := by decide +kernel
theorem dX11_isLikeNet_75 : decode cX11_isLikeNet 75 = .ok (.istore 6, 2) := by decide +kernel
theorem dX11_isLikeNet_77 : decode cX11_isLikeNet 77 = .ok (.iload 6, 2) := by decide +kernel
theorem dX11_isLikeNet_79 : decode cX11_isLikeNet 79 = .ok (.iconst 4, 1) := by decide +kernel
theorem dX11_isLikeNet_80 : decode cX11_isLikeNet 80 = .ok (.if_icmp .ge 93, 3) := by decide +kernel
theorem dX11_isLikeNet_83 : decode cX11_isLikeNet 83 = .ok (.aload_n 0, 1) := by decide +kernel
theorem dX11_isLikeNet_84 : decode cX11_isLikeNet 84 = .ok (.getfield 23, 3) := by decide +kernel
theorem dX11_isLikeNet_87 : decode cX11_isLikeNet 87 = .ok (.iload 5, 2) := by decide +kernel
theorem dX11_isLikeNet_89 : decode cX11_isLikeNet 89 = .ok (.baload, 1) := by decide +kernel
theorem dX11_isLikeNet_90 : decode cX11_isLikeNet 90 = .ok (.ifCond .ne 83, 3) := by decide +kernel
theorem dX11_isLikeNet_93 : decode cX11_isLikeNet 93 = .ok (.aload_n 0, 1) := by decide +kernel
theorem dX11_isLikeNet_94 : decode cX11_isLikeNet 94 = .ok (.getfield 27, 3) := by decide +kernel
theorem dX11_isLikeNet_97 : decode cX11_isLikeNet 97 = .ok (.iconst 4, 1) := by decide +kernel
theorem dX11_isLikeNet_98 : decode cX11_isLikeNet 98 = .ok (.iload 5, 2) := by decide +kernel
theorem dX11_isLikeNet_100 : decode cX11_isLikeNet 100 = .ok (.imul, 1) := by decide +kernel
theorem dX11_isLikeNet_101 : decode cX11_isLikeNet 101 = .ok (.iload 6, 2) := by decide +kernel
theorem dX11_isLikeNet_103 : decode cX11_isLikeNet 103 = .ok (.iadd, 1) := by decide +kernel
theorem dX11_isLikeNet_104 : decode cX11_isLikeNet 104 = .ok (.iaload, 1) := by decide +kernel
theorem dX11_isLikeNet_105 : decode cX11_isLikeNet 105 = .ok (.iload_n 1, 1) := by decide +kernel
theorem dX11_isLikeNet_106 : decode cX11_isLikeNet 106 = .ok (.bipush 40, 2) := by decide +kernel
theorem dX11_isLikeNet_108 : decode cX11_isLikeNet 108 = .ok (.irem, 1) := by decide +kernel
theorem dX11_isLikeNet_109 : decode cX11_isLikeNet 109 = .ok (.if_icmp .ne 58, 3) := by decide +kernel
theorem dX11_isLikeNet_112 : decode cX11_isLikeNet 112 = .ok (.iload 4, 2) := by decide +kernel
theorem dX11_isLikeNet_114 : decode cX11_isLikeNet 114 = .ok (.ifCond .eq 50, 3) := by decide +kernel
theorem dX11_isLikeNet_117 : decode cX11_isLikeNet 117 = .ok (.aload_n 0, 1) := by decide +kernel
theorem dX11_isLikeNet_118 : decode cX11_isLikeNet 118 = .ok (.iload_n 1, 1) := by decide +kernel
theorem dX11_isLikeNet_119 : decode cX11_isLikeNet 119 = .ok (.aload_n 0, 1) := by decide +kernel
theorem dX11_isLikeNet_120 : decode cX11_isLikeNet 120 = .ok (.getfield 39, 3) := by decide +kernel
theorem dX11_isLikeNet_123 : decode cX11_isLikeNet 123 = .ok (.iload 5, 2) := by decide +kernel
theorem dX11_isLikeNet_125 : decode cX11_isLikeNet 125 = .ok (.iaload, 1) := by decide +kernel
theorem dX11_isLikeNet_126 : decode cX11_isLikeNet 126 = .ok (.aload_n 0, 1) := by decide +kernel
theorem dX11_isLikeNet_127 : decode cX11_isLikeNet 127 = .ok (.iload 5, 2) := by decide +kernel
theorem dX11_isLikeNet_129 : decode cX11_isLikeNet 129 = .ok (.iload 6, 2) := by decide +kernel
theorem dX11_isLikeNet_131 : decode cX11_isLikeNet 131 = .ok (.invokevirtual 107, 3) := by decide +kernel
theorem dX11_isLikeNet_134 : decode cX11_isLikeNet 134 = .ok (.invokevirtual 137, 3) := by decide +kernel
theorem dX11_isLikeNet_137 : decode cX11_isLikeNet 137 = .ok (.aload_n 0, 1) := by decide +kernel
theorem dX11_isLikeNet_138 : decode cX11_isLikeNet 138 = .ok (.iload_n 2, 1) := by decide +kernel
theorem dX11_isLikeNet_139 : decode cX11_isLikeNet 139 = .ok (.aload_n 0, 1) := by decide +kernel
theorem dX11_isLikeNet_140 : decode cX11_isLikeNet 140 = .ok (.getfield 39, 3) := by decide +kernel
theorem dX11_isLikeNet_143 : decode cX11_isLikeNet 143 = .ok (.iload 5, 2) := by decide +kernel
theorem dX11_isLikeNet_145 : decode cX11_isLikeNet 145 = .ok (.iaload, 1) := by decide +kernel
theorem dX11_isLikeNet_146 : decode cX11_isLikeNet 146 = .ok (.aload_n 0, 1) := by decide +kernel
theorem dX11_isLikeNet_147 : decode cX11_isLikeNet 147 = .ok (.iload 5, 2) := by decide +kernel
theorem dX11_isLikeNet_149 : decode cX11_isLikeNet 149 = .ok (.iload 6, 2) := by decide +kernel
theorem dX11_isLikeNet_151 : decode cX11_isLikeNet 151 = .ok (.invokevirtual 107, 3) := by decide +kernel
theorem dX11_isLikeNet_154 : decode cX11_isLikeNet 154 = .ok (.invokevirtual 137, 3) := by decide +kernel
theorem dX11_isLikeNet_157 : decode cX11_isLikeNet 157 = .ok (.if_icmp .ne 7, 3) := by decide +kernel
theorem dX11_isLikeNet_160 : decode cX11_isLikeNet 160 = .ok (.iconst 1, 1) := by decide +kernel
theorem dX11_isLikeNet_161 : decode cX11_isLikeNet 161 = .ok (.goto 4, 3) := by decide +kernel
theorem dX11_isLikeNet_164 : decode cX11_isLikeNet 164 = .ok (.iconst 0, 1) := by decide +kernel
theorem dX11_isLikeNet_165 : decode cX11_isLikeNet 165 = .ok (.istore 4, 2) := by decide +kernel
theorem dX11_isLikeNet_167 : decode cX11_isLikeNet 167 = .ok (.iinc 6 1, 3) := by decide +kernel
theorem dX11_isLikeNet_170 : decode cX11_isLikeNet 170 = .ok (.goto (-93), 3) := by decide +kernel
theorem dX11_isLikeNet_173 : decode cX11_isLikeNet 173 = .ok (.iinc 5 1, 3) := by decide +kernel
theorem dX11_isLikeNet_176 : decode cX11_isLikeNet 176 = .ok (.goto (-118), 3) := by decide +kernel
theorem dX11_isLikeNet_179 : decode cX11_isLikeNet 179 = .ok (.iload 4, 2) := by decide +kernel
theorem dX11_isLikeNet_181 : decode cX11_isLikeNet 181 = .ok (.ireturn, 1) := by decide +kernel
theorem dX11_isLive_0 : decode cX11_isLive 0 = .ok (.iload_n 1, 1) := by decide +kernel
theorem dX11_isLive_1 : decode cX11_isLive 1 = .ok (.bipush 30, 2) := by decide +kernel
theorem dX11_isLive_3 : decode cX11_isLive 3 = .ok (.irem, 1) := by decide +kernel
theorem dX11_isLive_4 : decode cX11_isLive 4 = .ok (.aload_n 0, 1) := by decide +kernel
theorem dX11_isLive_5 : decode cX11_isLive 5 = .ok (.getfield 30, 3) := by decide +kernel
theorem dX11_isLive_8 : decode cX11_isLive 8 = .ok (.iload_n 1, 1) := by decide +kernel
theorem dX11_isLive_9 : decode cX11_isLive 9 = .ok (.bipush 30, 2) := by decide +kernel
theorem dX11_isLive_11 : decode cX11_isLive 11 = .ok (.idiv, 1) := by decide +kernel
theorem dX11_isLive_12 : decode cX11_isLive 12 = .ok (.iaload, 1) := by decide +kernel
theorem dX11_isLive_13 : decode cX11_isLive 13 = .ok (.if_icmp .ge 16, 3) := by decide +kernel
theorem dX11_isLive_16 : decode cX11_isLive 16 = .ok (.aload_n 0, 1) := by decide +kernel
theorem dX11_isLive_17 : decode cX11_isLive 17 = .ok (.getfield 23, 3) := by decide +kernel
theorem dX11_isLive_20 : decode cX11_isLive 20 = .ok (.iload_n 1, 1) := by decide +kernel
theorem dX11_isLive_21 : decode cX11_isLive 21 = .ok (.baload, 1) := by decide +kernel
theorem dX11_isLive_22 : decode cX11_isLive 22 = .ok (.ifCond .ne 7, 3) := by decide +kernel
theorem dX11_isLive_25 : decode cX11_isLive 25 = .ok (.iconst 1, 1) := by decide +kernel
theorem dX11_isLive_26 : decode cX11_isLive 26 = .ok (.goto 4, 3) := by decide +kernel
theorem dX11_isLive_29 : decode cX11_isLive 29 = .ok (.iconst 0, 1) := by decide +kernel
theorem dX11_isLive_30 : decode cX11_isLive 30 = .ok (.ireturn, 1) := by decide +kernel
theorem dX11_isUsedAt_0 : decode cX11_isUsedAt 0 = .ok (.iload_n 1, 1) := by decide +kernel
theorem dX11_isUsedAt_1 : decode cX11_isUsedAt 1 = .ok (.bipush 40, 2) := by decide +kernel
theorem dX11_isUsedAt_3 : decode cX11_isUsedAt 3 = .ok (.irem, 1) := by decide +kernel
theorem dX11_isUsedAt_4 : decode cX11_isUsedAt 4 = .ok (.aload_n 0, 1) := by decide +kernel
theorem dX11_isUsedAt_5 : decode cX11_isUsedAt 5 = .ok (.getfield 13, 3) := by decide +kernel
theorem dX11_isUsedAt_8 : decode cX11_isUsedAt 8 = .ok (.iload_n 1, 1) := by decide +kernel
theorem dX11_isUsedAt_9 : decode cX11_isUsedAt 9 = .ok (.bipush 40, 2) := by decide +kernel
theorem dX11_isUsedAt_11 : decode cX11_isUsedAt 11 = .ok (.idiv, 1) := by decide +kernel
theorem dX11_isUsedAt_12 : decode cX11_isUsedAt 12 = .ok (.iaload, 1) := by decide +kernel
theorem dX11_isUsedAt_13 : decode cX11_isUsedAt 13 = .ok (.if_icmp .ge 22, 3) := by decide +kernel
theorem dX11_isUsedAt_16 : decode cX11_isUsedAt 16 = .ok (.aload_n 0, 1) := by decide +kernel
theorem dX11_isUsedAt_17 : decode cX11_isUsedAt 17 = .ok (.iload_n 1, 1) := by decide +kernel
theorem dX11_isUsedAt_18 : decode cX11_isUsedAt 18 = .ok (.bipush 40, 2) := by decide +kernel
theorem dX11_isUsedAt_20 : decode cX11_isUsedAt 20 = .ok (.idiv, 1) := by decide +kernel
theorem dX11_isUsedAt_21 : decode cX11_isUsedAt 21 = .ok (.iload_n 1, 1) := by decide +kernel
theorem dX11_isUsedAt_22 : decode cX11_isUsedAt 22 = .ok (.bipush 40, 2) := by decide +kernel
theorem dX11_isUsedAt_24 : decode cX11_isUsedAt 24 = .ok (.irem, 1) := by decide +kernel
theorem dX11_isUsedAt_25 : decode cX11_isUsedAt 25 = .ok (.invokevirtual 140, 3) := by decide +kernel
theorem dX11_isUsedAt_28 : decode cX11_isUsedAt 28 = .ok (.ifCond .eq 7, 3) := by decide +kernel
theorem dX11_isUsedAt_31 : decode cX11_isUsedAt 31 = .ok (.iconst 1, 1) := by decide +kernel
theorem dX11_isUsedAt_32 : decode cX11_isUsedAt 32 = .ok (.goto 4, 3) := by decide +kernel
theorem dX11_isUsedAt_35 : decode cX11_isUsedAt 35 = .ok (.iconst 0, 1) := by decide +kernel
theorem dX11_isUsedAt_36 : decode cX11_isUsedAt 36 = .ok (.ireturn, 1) := by decide +kernel
theorem dX11_round_0 : decode cX11_round 0 = .ok (.iconst 0, 1) := by decide +kernel
theorem dX11_round_1 : decode cX11_round 1 = .ok (.istore_n 1, 1) := by decide +kernel
theorem dX11_round_2 : decode cX11_round 2 = .ok (.iconst 0, 1) := by decide +kernel
theorem dX11_round_3 : decode cX11_round 3 = .ok (.istore_n 2, 1) := by decide +kernel
theorem dX11_round_4 : decode cX11_round 4 = .ok (.iload_n 2, 1) := by decide +kernel
theorem dX11_round_5 : decode cX11_round 5 = .ok (.bipush 60, 2) := by decide +kernel
theorem dX11_round_7 : decode cX11_round 7 = .ok (.if_icmp .ge 102, 3) := by decide +kernel
theorem dX11_round_10 : decode cX11_round 10 = .ok (.aload_n 0, 1) := by decide +kernel
theorem dX11_round_11 : decode cX11_round 11 = .ok (.getfield 45, 3) := by decide +kernel
theorem dX11_round_14 : decode cX11_round 14 = .ok (.iload_n 2, 1) := by decide +kernel
theorem dX11_round_15 : decode cX11_round 15 = .ok (.iload_n 2, 1) := by decide +kernel
theorem dX11_round_16 : decode cX11_round 16 = .ok (.iastore, 1) := by decide +kernel
theorem dX11_round_17 : decode cX11_round 17 = .ok (.iload_n 2, 1) := by decide +kernel
theorem dX11_round_18 : decode cX11_round 18 = .ok (.iconst 1, 1) := by decide +kernel
theorem dX11_round_19 : decode cX11_round 19 = .ok (.isub, 1) := by decide +kernel
theorem dX11_round_20 : decode cX11_round 20 = .ok (.istore_n 3, 1) := by decide +kernel
theorem dX11_round_21 : decode cX11_round 21 = .ok (.iload_n 3, 1) := by decide +kernel
theorem dX11_round_22 : decode cX11_round 22 = .ok (.ifCond .lt 55, 3) := by decide +kernel
theorem dX11_round_25 : decode cX11_round 25 = .ok (.aload_n 0, 1) := by decide +kernel
theorem dX11_round_26 : decode cX11_round 26 = .ok (.iload_n 2, 1) := by decide +kernel
theorem dX11_round_27 : decode cX11_round 27 = .ok (.invokevirtual 143, 3) := by decide +kernel
theorem dX11_round_30 : decode cX11_round 30 = .ok (.ifCond .eq 47, 3) := by decide +kernel
theorem dX11_round_33 : decode cX11_round 33 = .ok (.aload_n 0, 1) := by decide +kernel
theorem dX11_round_34 : decode cX11_round 34 = .ok (.getfield 45, 3) := by decide +kernel
theorem dX11_round_37 : decode cX11_round 37 = .ok (.iload_n 2, 1) := by decide +kernel
theorem dX11_round_38 : decode cX11_round 38 = .ok (.aload_n 0, 1) := by decide +kernel
theorem dX11_round_39 : decode cX11_round 39 = .ok (.iload_n 3, 1) := by decide +kernel
theorem dX11_round_40 : decode cX11_round 40 = .ok (.invokevirtual 143, 3) := by decide +kernel
theorem dX11_round_43 : decode cX11_round 43 = .ok (.ifCond .eq 21, 3) := by decide +kernel
theorem dX11_round_46 : decode cX11_round 46 = .ok (.aload_n 0, 1) := by decide +kernel
theorem dX11_round_47 : decode cX11_round 47 = .ok (.iload_n 2, 1) := by decide +kernel
theorem dX11_round_48 : decode cX11_round 48 = .ok (.iload_n 3, 1) := by decide +kernel
theorem dX11_round_49 : decode cX11_round 49 = .ok (.invokevirtual 146, 3) := by decide +kernel
theorem dX11_round_52 : decode cX11_round 52 = .ok (.ifCond .eq 12, 3) := by decide +kernel
theorem dX11_round_55 : decode cX11_round 55 = .ok (.aload_n 0, 1) := by decide +kernel
theorem dX11_round_56 : decode cX11_round 56 = .ok (.getfield 45, 3) := by decide +kernel
theorem dX11_round_59 : decode cX11_round 59 = .ok (.iload_n 3, 1) := by decide +kernel
theorem dX11_round_60 : decode cX11_round 60 = .ok (.iaload, 1) := by decide +kernel
theorem dX11_round_61 : decode cX11_round 61 = .ok (.goto 9, 3) := by decide +kernel
theorem dX11_round_64 : decode cX11_round 64 = .ok (.aload_n 0, 1) := by decide +kernel
theorem dX11_round_65 : decode cX11_round 65 = .ok (.getfield 45, 3) := by decide +kernel
theorem dX11_round_68 : decode cX11_round 68 = .ok (.iload_n 2, 1) := by decide +kernel
theorem dX11_round_69 : decode cX11_round 69 = .ok (.iaload, 1) := by decide +kernel
theorem dX11_round_70 : decode cX11_round 70 = .ok (.iastore, 1) := by decide +kernel
theorem dX11_round_71 : decode cX11_round 71 = .ok (.iinc 3 (-1), 3) := by decide +kernel
theorem dX11_round_74 : decode cX11_round 74 = .ok (.goto (-53), 3) := by decide +kernel
theorem dX11_round_77 : decode cX11_round 77 = .ok (.iload_n 1, 1) := by decide +kernel
theorem dX11_round_78 : decode cX11_round 78 = .ok (.aload_n 0, 1) := by decide +kernel
theorem dX11_round_79 : decode cX11_round 79 = .ok (.iload_n 2, 1) := by decide +kernel
theorem dX11_round_80 : decode cX11_round 80 = .ok (.invokevirtual 143, 3) := by decide +kernel
theorem dX11_round_83 : decode cX11_round 83 = .ok (.ifCond .eq 17, 3) := by decide +kernel
theorem dX11_round_86 : decode cX11_round 86 = .ok (.aload_n 0, 1) := by decide +kernel
theorem dX11_round_87 : decode cX11_round 87 = .ok (.getfield 45, 3) := by decide +kernel
theorem dX11_round_90 : decode cX11_round 90 = .ok (.iload_n 2, 1) := by decide +kernel
theorem dX11_round_91 : decode cX11_round 91 = .ok (.iaload, 1) := by decide +kernel
theorem dX11_round_92 : decode cX11_round 92 = .ok (.iload_n 2, 1) := by decide +kernel
theorem dX11_round_93 : decode cX11_round 93 = .ok (.if_icmp .ne 7, 3) := by decide +kernel
theorem dX11_round_96 : decode cX11_round 96 = .ok (.iconst 1, 1) := by decide +kernel
theorem dX11_round_97 : decode cX11_round 97 = .ok (.goto 4, 3) := by decide +kernel
theorem dX11_round_100 : decode cX11_round 100 = .ok (.iconst 0, 1) := by decide +kernel
theorem dX11_round_101 : decode cX11_round 101 = .ok (.iadd, 1) := by decide +kernel
theorem dX11_round_102 : decode cX11_round 102 = .ok (.istore_n 1, 1) := by decide +kernel
theorem dX11_round_103 : decode cX11_round 103 = .ok (.iinc 2 1, 3) := by decide +kernel
theorem dX11_round_106 : decode cX11_round 106 = .ok (.goto (-102), 3) := by decide +kernel
theorem dX11_round_109 : decode cX11_round 109 = .ok (.iconst 0, 1) := by decide +kernel
theorem dX11_round_110 : decode cX11_round 110 = .ok (.istore_n 2, 1) := by decide +kernel
theorem dX11_round_111 : decode cX11_round 111 = .ok (.iload_n 2, 1) := by decide +kernel
theorem dX11_round_112 : decode cX11_round 112 = .ok (.bipush 80, 2) := by decide +kernel
theorem dX11_round_114 : decode cX11_round 114 = .ok (.if_icmp .ge 105, 3) := by decide +kernel
theorem dX11_round_117 : decode cX11_round 117 = .ok (.aload_n 0, 1) := by decide +kernel
theorem dX11_round_118 : decode cX11_round 118 = .ok (.getfield 48, 3) := by decide +kernel
theorem dX11_round_121 : decode cX11_round 121 = .ok (.iload_n 2, 1) := by decide +kernel
theorem dX11_round_122 : decode cX11_round 122 = .ok (.iload_n 2, 1) := by decide +kernel
theorem dX11_round_123 : decode cX11_round 123 = .ok (.iastore, 1) := by decide +kernel
theorem dX11_round_124 : decode cX11_round 124 = .ok (.aload_n 0, 1) := by decide +kernel
theorem dX11_round_125 : decode cX11_round 125 = .ok (.iload_n 2, 1) := by decide +kernel
theorem dX11_round_126 : decode cX11_round 126 = .ok (.invokevirtual 149, 3) := by decide +kernel
theorem dX11_round_129 : decode cX11_round 129 = .ok (.istore_n 3, 1) := by decide +kernel
theorem dX11_round_130 : decode cX11_round 130 = .ok (.iload_n 2, 1) := by decide +kernel
theorem dX11_round_131 : decode cX11_round 131 = .ok (.iconst 1, 1) := by decide +kernel
theorem dX11_round_132 : decode cX11_round 132 = .ok (.isub, 1) := by decide +kernel
theorem dX11_round_133 : decode cX11_round 133 = .ok (.istore 4, 2) := by decide +kernel
theorem dX11_round_135 : decode cX11_round 135 = .ok (.iload 4, 2) := by decide +kernel
theorem dX11_round_137 : decode cX11_round 137 = .ok (.ifCond .lt 54, 3) := by decide +kernel
theorem dX11_round_140 : decode cX11_round 140 = .ok (.iload_n 3, 1) := by decide +kernel
theorem dX11_round_141 : decode cX11_round 141 = .ok (.ifCond .eq 50, 3) := by decide +kernel
theorem dX11_round_144 : decode cX11_round 144 = .ok (.aload_n 0, 1) := by decide +kernel
theorem dX11_round_145 : decode cX11_round 145 = .ok (.getfield 48, 3) := by decide +kernel
theorem dX11_round_148 : decode cX11_round 148 = .ok (.iload_n 2, 1) := by decide +kernel
theorem dX11_round_149 : decode cX11_round 149 = .ok (.aload_n 0, 1) := by decide +kernel
theorem dX11_round_150 : decode cX11_round 150 = .ok (.iload 4, 2) := by decide +kernel
theorem dX11_round_152 : decode cX11_round 152 = .ok (.invokevirtual 149, 3) := by decide +kernel
theorem dX11_round_155 : decode cX11_round 155 = .ok (.ifCond .eq 23, 3) := by decide +kernel
theorem dX11_round_158 : decode cX11_round 158 = .ok (.aload_n 0, 1) := by decide +kernel
theorem dX11_round_159 : decode cX11_round 159 = .ok (.iload_n 2, 1) := by decide +kernel
theorem dX11_round_160 : decode cX11_round 160 = .ok (.iload 4, 2) := by decide +kernel
theorem dX11_round_162 : decode cX11_round 162 = .ok (.invokevirtual 152, 3) := by decide +kernel
theorem dX11_round_165 : decode cX11_round 165 = .ok (.ifCond .eq 13, 3) := by decide +kernel
theorem dX11_round_168 : decode cX11_round 168 = .ok (.aload_n 0, 1) := by decide +kernel
theorem dX11_round_169 : decode cX11_round 169 = .ok (.getfield 48, 3) := by decide +kernel
theorem dX11_round_172 : decode cX11_round 172 = .ok (.iload 4, 2) := by decide +kernel
theorem dX11_round_174 : decode cX11_round 174 = .ok (.iaload, 1) := by decide +kernel
theorem dX11_round_175 : decode cX11_round 175 = .ok (.goto 9, 3) := by decide +kernel
theorem dX11_round_178 : decode cX11_round 178 = .ok (.aload_n 0, 1) := by decide +kernel
theorem dX11_round_179 : decode cX11_round 179 = .ok (.getfield 48, 3) := by decide +kernel
theorem dX11_round_182 : decode cX11_round 182 = .ok (.iload_n 2, 1) := by decide +kernel
theorem dX11_round_183 : decode cX11_round 183 = .ok (.iaload, 1) := by decide +kernel
theorem dX11_round_184 : decode cX11_round 184 = .ok (.iastore, 1) := by decide +kernel
theorem dX11_round_185 : decode cX11_round 185 = .ok (.iinc 4 (-1), 3) := by decide +kernel
theorem dX11_round_188 : decode cX11_round 188 = .ok (.goto (-53), 3) := by decide +kernel
theorem dX11_round_191 : decode cX11_round 191 = .ok (.iload_n 1, 1) := by decide +kernel
theorem dX11_round_192 : decode cX11_round 192 = .ok (.iload_n 3, 1) := by decide +kernel
theorem dX11_round_193 : decode cX11_round 193 = .ok (.ifCond .eq 17, 3) := by decide +kernel
theorem dX11_round_196 : decode cX11_round 196 = .ok (.aload_n 0, 1) := by decide +kernel
theorem dX11_round_197 : decode cX11_round 197 = .ok (.getfield 48, 3) := by decide +kernel
theorem dX11_round_200 : decode cX11_round 200 = .ok (.iload_n 2, 1) := by decide +kernel
theorem dX11_round_201 : decode cX11_round 201 = .ok (.iaload, 1) := by decide +kernel
theorem dX11_round_202 : decode cX11_round 202 = .ok (.iload_n 2, 1) := by decide +kernel
theorem dX11_round_203 : decode cX11_round 203 = .ok (.if_icmp .ne 7, 3) := by decide +kernel
theorem dX11_round_206 : decode cX11_round 206 = .ok (.iconst 1, 1) := by decide +kernel
theorem dX11_round_207 : decode cX11_round 207 = .ok (.goto 4, 3) := by decide +kernel
theorem dX11_round_210 : decode cX11_round 210 = .ok (.iconst 0, 1) := by decide +kernel
theorem dX11_round_211 : decode cX11_round 211 = .ok (.iadd, 1) := by decide +kernel
theorem dX11_round_212 : decode cX11_round 212 = .ok (.istore_n 1, 1) := by decide +kernel
theorem dX11_round_213 : decode cX11_round 213 = .ok (.iinc 2 1, 3) := by decide +kernel
theorem dX11_round_216 : decode cX11_round 216 = .ok (.goto (-105), 3) := by decide +kernel
theorem dX11_round_219 : decode cX11_round 219 = .ok (.iload_n 1, 1) := by decide +kernel
theorem dX11_round_220 : decode cX11_round 220 = .ok (.ireturn, 1) := by decide +kernel
theorem dX11_take_0 : decode cX11_take 0 = .ok (.iconst 0, 1) := by decide +kernel
theorem dX11_take_1 : decode cX11_take 1 = .ok (.istore_n 1, 1) := by decide +kernel
theorem dX11_take_2 : decode cX11_take 2 = .ok (.iload_n 1, 1) := by decide +kernel
theorem dX11_take_3 : decode cX11_take 3 = .ok (.bipush 60, 2) := by decide +kernel
theorem dX11_take_5 : decode cX11_take 5 = .ok (.if_icmp .ge 21, 3) := by decide +kernel
theorem dX11_take_8 : decode cX11_take 8 = .ok (.aload_n 0, 1) := by decide +kernel
theorem dX11_take_9 : decode cX11_take 9 = .ok (.getfield 39, 3) := by decide +kernel
theorem dX11_take_12 : decode cX11_take 12 = .ok (.iload_n 1, 1) := by decide +kernel
theorem dX11_take_13 : decode cX11_take 13 = .ok (.aload_n 0, 1) := by decide +kernel
theorem dX11_take_14 : decode cX11_take 14 = .ok (.getfield 45, 3) := by decide +kernel
theorem dX11_take_17 : decode cX11_take 17 = .ok (.iload_n 1, 1) := by decide +kernel
theorem dX11_take_18 : decode cX11_take 18 = .ok (.iaload, 1) := by decide +kernel
theorem dX11_take_19 : decode cX11_take 19 = .ok (.iastore, 1) := by decide +kernel
theorem dX11_take_20 : decode cX11_take 20 = .ok (.iinc 1 1, 3) := by decide +kernel
theorem dX11_take_23 : decode cX11_take 23 = .ok (.goto (-21), 3) := by decide +kernel
theorem dX11_take_26 : decode cX11_take 26 = .ok (.iconst 0, 1) := by decide +kernel
theorem dX11_take_27 : decode cX11_take 27 = .ok (.istore_n 1, 1) := by decide +kernel
theorem dX11_take_28 : decode cX11_take 28 = .ok (.iload_n 1, 1) := by decide +kernel
theorem dX11_take_29 : decode cX11_take 29 = .ok (.bipush 80, 2) := by decide +kernel
theorem dX11_take_31 : decode cX11_take 31 = .ok (.if_icmp .ge 21, 3) := by decide +kernel
theorem dX11_take_34 : decode cX11_take 34 = .ok (.aload_n 0, 1) := by decide +kernel
theorem dX11_take_35 : decode cX11_take 35 = .ok (.getfield 42, 3) := by decide +kernel
theorem dX11_take_38 : decode cX11_take 38 = .ok (.iload_n 1, 1) := by decide +kernel
theorem dX11_take_39 : decode cX11_take 39 = .ok (.aload_n 0, 1) := by decide +kernel
theorem dX11_take_40 : decode cX11_take 40 = .ok (.getfield 48, 3) := by decide +kernel
theorem dX11_take_43 : decode cX11_take 43 = .ok (.iload_n 1, 1) := by decide +kernel
theorem dX11_take_44 : decode cX11_take 44 = .ok (.iaload, 1) := by decide +kernel
theorem dX11_take_45 : decode cX11_take 45 = .ok (.iastore, 1) := by decide +kernel
theorem dX11_take_46 : decode cX11_take 46 = .ok (.iinc 1 1, 3) := by decide +kernel
theorem dX11_take_49 : decode cX11_take 49 = .ok (.goto (-21), 3) := by decide +kernel
theorem dX11_take_52 : decode cX11_take 52 = .ok (.return_, 1) := by decide +kernel
theorem dX11_begin_0 : decode cX11_begin 0 = .ok (.iconst 0, 1) := by decide +kernel
theorem dX11_begin_1 : decode cX11_begin 1 = .ok (.istore_n 1, 1) := by decide +kernel
theorem dX11_begin_2 : decode cX11_begin 2 = .ok (.iconst 0, 1) := by decide +kernel
theorem dX11_begin_3 : decode cX11_begin 3 = .ok (.istore_n 2, 1) := by decide +kernel
theorem dX11_begin_4 : decode cX11_begin 4 = .ok (.iload_n 2, 1) := by decide +kernel
theorem dX11_begin_5 : decode cX11_begin 5 = .ok (.bipush 60, 2) := by decide +kernel
theorem dX11_begin_7 : decode cX11_begin 7 = .ok (.if_icmp .ge 117, 3) := by decide +kernel
theorem dX11_begin_10 : decode cX11_begin 10 = .ok (.aload_n 0, 1) := by decide +kernel
theorem dX11_begin_11 : decode cX11_begin 11 = .ok (.getfield 45, 3) := by decide +kernel
theorem dX11_begin_14 : decode cX11_begin 14 = .ok (.iload_n 2, 1) := by decide +kernel
theorem dX11_begin_15 : decode cX11_begin 15 = .ok (.iload_n 2, 1) := by decide +kernel
theorem dX11_begin_16 : decode cX11_begin 16 = .ok (.iastore, 1) := by decide +kernel
theorem dX11_begin_17 : decode cX11_begin 17 = .ok (.iconst 0, 1) := by decide +kernel
theorem dX11_begin_18 : decode cX11_begin 18 = .ok (.istore_n 3, 1) := by decide +kernel
theorem dX11_begin_19 : decode cX11_begin 19 = .ok (.iload_n 3, 1) := by decide +kernel
theorem dX11_begin_20 : decode cX11_begin 20 = .ok (.iload_n 2, 1) := by decide +kernel
theorem dX11_begin_21 : decode cX11_begin 21 = .ok (.if_icmp .ge 71, 3) := by decide +kernel
theorem dX11_begin_24 : decode cX11_begin 24 = .ok (.aload_n 0, 1) := by decide +kernel
theorem dX11_begin_25 : decode cX11_begin 25 = .ok (.iload_n 2, 1) := by decide +kernel
theorem dX11_begin_26 : decode cX11_begin 26 = .ok (.invokevirtual 143, 3) := by decide +kernel
theorem dX11_begin_29 : decode cX11_begin 29 = .ok (.ifCond .eq 63, 3) := by decide +kernel
theorem dX11_begin_32 : decode cX11_begin 32 = .ok (.aload_n 0, 1) := by decide +kernel
theorem dX11_begin_33 : decode cX11_begin 33 = .ok (.getfield 45, 3) := by decide +kernel
theorem dX11_begin_36 : decode cX11_begin 36 = .ok (.iload_n 2, 1) := by decide +kernel
theorem dX11_begin_37 : decode cX11_begin 37 = .ok (.aload_n 0, 1) := by decide +kernel
theorem dX11_begin_38 : decode cX11_begin 38 = .ok (.iload_n 3, 1) := by decide +kernel
theorem dX11_begin_39 : decode cX11_begin 39 = .ok (.invokevirtual 143, 3) := by decide +kernel
theorem dX11_begin_42 : decode cX11_begin 42 = .ok (.ifCond .eq 37, 3) := by decide +kernel
theorem dX11_begin_45 : decode cX11_begin 45 = .ok (.aload_n 0, 1) := by decide +kernel
theorem dX11_begin_46 : decode cX11_begin 46 = .ok (.getfield 16, 3) := by decide +kernel
theorem dX11_begin_49 : decode cX11_begin 49 = .ok (.iload_n 3, 1) := by decide +kernel
theorem dX11_begin_50 : decode cX11_begin 50 = .ok (.iaload, 1) := by decide +kernel
theorem dX11_begin_51 : decode cX11_begin 51 = .ok (.aload_n 0, 1) := by decide +kernel
theorem dX11_begin_52 : decode cX11_begin 52 = .ok (.getfield 16, 3) := by decide +kernel
theorem dX11_begin_55 : decode cX11_begin 55 = .ok (.iload_n 2, 1) := by decide +kernel
theorem dX11_begin_56 : decode cX11_begin 56 = .ok (.iaload, 1) := by decide +kernel
theorem dX11_begin_57 : decode cX11_begin 57 = .ok (.if_icmp .ne 22, 3) := by decide +kernel
theorem dX11_begin_60 : decode cX11_begin 60 = .ok (.aload_n 0, 1) := by decide +kernel
