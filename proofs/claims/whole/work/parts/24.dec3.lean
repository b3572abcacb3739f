theorem dX11_begin_61 : decode cX11_begin 61 = .ok (.getfield 45, 3) := by decide +kernel
theorem dX11_begin_64 : decode cX11_begin 64 = .ok (.iload_n 2, 1) := by decide +kernel
theorem dX11_begin_65 : decode cX11_begin 65 = .ok (.iaload, 1) := by decide +kernel
theorem dX11_begin_66 : decode cX11_begin 66 = .ok (.iload_n 2, 1) := by decide +kernel
theorem dX11_begin_67 : decode cX11_begin 67 = .ok (.if_icmp .ne 12, 3) := by decide +kernel
theorem dX11_begin_70 : decode cX11_begin 70 = .ok (.aload_n 0, 1) := by decide +kernel
theorem dX11_begin_71 : decode cX11_begin 71 = .ok (.getfield 45, 3) := by decide +kernel
theorem dX11_begin_74 : decode cX11_begin 74 = .ok (.iload_n 3, 1) := by decide +kernel
theorem dX11_begin_75 : decode cX11_begin 75 = .ok (.iaload, 1) := by decide +kernel
theorem dX11_begin_76 : decode cX11_begin 76 = .ok (.goto 9, 3) := by decide +kernel
theorem dX11_begin_79 : decode cX11_begin 79 = .ok (.aload_n 0, 1) := by decide +kernel
theorem dX11_begin_80 : decode cX11_begin 80 = .ok (.getfield 45, 3) := by decide +kernel
theorem dX11_begin_83 : decode cX11_begin 83 = .ok (.iload_n 2, 1) := by decide +kernel
theorem dX11_begin_84 : decode cX11_begin 84 = .ok (.iaload, 1) := by decide +kernel
theorem dX11_begin_85 : decode cX11_begin 85 = .ok (.iastore, 1) := by decide +kernel
theorem dX11_begin_86 : decode cX11_begin 86 = .ok (.iinc 3 1, 3) := by decide +kernel
theorem dX11_begin_89 : decode cX11_begin 89 = .ok (.goto (-70), 3) := by decide +kernel
theorem dX11_begin_92 : decode cX11_begin 92 = .ok (.iload_n 1, 1) := by decide +kernel
theorem dX11_begin_93 : decode cX11_begin 93 = .ok (.aload_n 0, 1) := by decide +kernel
theorem dX11_begin_94 : decode cX11_begin 94 = .ok (.iload_n 2, 1) := by decide +kernel
theorem dX11_begin_95 : decode cX11_begin 95 = .ok (.invokevirtual 143, 3) := by decide +kernel
theorem dX11_begin_98 : decode cX11_begin 98 = .ok (.ifCond .eq 17, 3) := by decide +kernel
theorem dX11_begin_101 : decode cX11_begin 101 = .ok (.aload_n 0, 1) := by decide +kernel
theorem dX11_begin_102 : decode cX11_begin 102 = .ok (.getfield 45, 3) := by decide +kernel
theorem dX11_begin_105 : decode cX11_begin 105 = .ok (.iload_n 2, 1) := by decide +kernel
theorem dX11_begin_106 : decode cX11_begin 106 = .ok (.iaload, 1) := by decide +kernel
theorem dX11_begin_107 : decode cX11_begin 107 = .ok (.iload_n 2, 1) := by decide +kernel
theorem dX11_begin_108 : decode cX11_begin 108 = .ok (.if_icmp .ne 7, 3) := by decide +kernel
theorem dX11_begin_111 : decode cX11_begin 111 = .ok (.iconst 1, 1) := by decide +kernel
theorem dX11_begin_112 : decode cX11_begin 112 = .ok (.goto 4, 3) := by decide +kernel
theorem dX11_begin_115 : decode cX11_begin 115 = .ok (.iconst 0, 1) := by decide +kernel
theorem dX11_begin_116 : decode cX11_begin 116 = .ok (.iadd, 1) := by decide +kernel
theorem dX11_begin_117 : decode cX11_begin 117 = .ok (.istore_n 1, 1) := by decide +kernel
theorem dX11_begin_118 : decode cX11_begin 118 = .ok (.iinc 2 1, 3) := by decide +kernel
theorem dX11_begin_121 : decode cX11_begin 121 = .ok (.goto (-117), 3) := by decide +kernel
theorem dX11_begin_124 : decode cX11_begin 124 = .ok (.iconst 0, 1) := by decide +kernel
theorem dX11_begin_125 : decode cX11_begin 125 = .ok (.istore_n 2, 1) := by decide +kernel
theorem dX11_begin_126 : decode cX11_begin 126 = .ok (.iload_n 2, 1) := by decide +kernel
theorem dX11_begin_127 : decode cX11_begin 127 = .ok (.bipush 80, 2) := by decide +kernel
theorem dX11_begin_129 : decode cX11_begin 129 = .ok (.if_icmp .ge 120, 3) := by decide +kernel
theorem dX11_begin_132 : decode cX11_begin 132 = .ok (.aload_n 0, 1) := by decide +kernel
theorem dX11_begin_133 : decode cX11_begin 133 = .ok (.getfield 48, 3) := by decide +kernel
theorem dX11_begin_136 : decode cX11_begin 136 = .ok (.iload_n 2, 1) := by decide +kernel
theorem dX11_begin_137 : decode cX11_begin 137 = .ok (.iload_n 2, 1) := by decide +kernel
theorem dX11_begin_138 : decode cX11_begin 138 = .ok (.iastore, 1) := by decide +kernel
theorem dX11_begin_139 : decode cX11_begin 139 = .ok (.aload_n 0, 1) := by decide +kernel
theorem dX11_begin_140 : decode cX11_begin 140 = .ok (.iload_n 2, 1) := by decide +kernel
theorem dX11_begin_141 : decode cX11_begin 141 = .ok (.invokevirtual 149, 3) := by decide +kernel
theorem dX11_begin_144 : decode cX11_begin 144 = .ok (.istore_n 3, 1) := by decide +kernel
theorem dX11_begin_145 : decode cX11_begin 145 = .ok (.iconst 0, 1) := by decide +kernel
theorem dX11_begin_146 : decode cX11_begin 146 = .ok (.istore 4, 2) := by decide +kernel
theorem dX11_begin_148 : decode cX11_begin 148 = .ok (.iload 4, 2) := by decide +kernel
theorem dX11_begin_150 : decode cX11_begin 150 = .ok (.iload_n 2, 1) := by decide +kernel
theorem dX11_begin_151 : decode cX11_begin 151 = .ok (.if_icmp .ge 70, 3) := by decide +kernel
theorem dX11_begin_154 : decode cX11_begin 154 = .ok (.iload_n 3, 1) := by decide +kernel
theorem dX11_begin_155 : decode cX11_begin 155 = .ok (.ifCond .eq 66, 3) := by decide +kernel
theorem dX11_begin_158 : decode cX11_begin 158 = .ok (.aload_n 0, 1) := by decide +kernel
theorem dX11_begin_159 : decode cX11_begin 159 = .ok (.getfield 48, 3) := by decide +kernel
theorem dX11_begin_162 : decode cX11_begin 162 = .ok (.iload_n 2, 1) := by decide +kernel
theorem dX11_begin_163 : decode cX11_begin 163 = .ok (.aload_n 0, 1) := by decide +kernel
theorem dX11_begin_164 : decode cX11_begin 164 = .ok (.iload 4, 2) := by decide +kernel
theorem dX11_begin_166 : decode cX11_begin 166 = .ok (.invokevirtual 149, 3) := by decide +kernel
theorem dX11_begin_169 : decode cX11_begin 169 = .ok (.ifCond .eq 39, 3) := by decide +kernel
theorem dX11_begin_172 : decode cX11_begin 172 = .ok (.aload_n 0, 1) := by decide +kernel
theorem dX11_begin_173 : decode cX11_begin 173 = .ok (.getfield 7, 3) := by decide +kernel
theorem dX11_begin_176 : decode cX11_begin 176 = .ok (.iload 4, 2) := by decide +kernel
theorem dX11_begin_178 : decode cX11_begin 178 = .ok (.iaload, 1) := by decide +kernel
theorem dX11_begin_179 : decode cX11_begin 179 = .ok (.aload_n 0, 1) := by decide +kernel
theorem dX11_begin_180 : decode cX11_begin 180 = .ok (.getfield 7, 3) := by decide +kernel
theorem dX11_begin_183 : decode cX11_begin 183 = .ok (.iload_n 2, 1) := by decide +kernel
theorem dX11_begin_184 : decode cX11_begin 184 = .ok (.iaload, 1) := by decide +kernel
theorem dX11_begin_185 : decode cX11_begin 185 = .ok (.if_icmp .ne 23, 3) := by decide +kernel
theorem dX11_begin_188 : decode cX11_begin 188 = .ok (.aload_n 0, 1) := by decide +kernel
theorem dX11_begin_189 : decode cX11_begin 189 = .ok (.getfield 48, 3) := by decide +kernel
theorem dX11_begin_192 : decode cX11_begin 192 = .ok (.iload_n 2, 1) := by decide +kernel
theorem dX11_begin_193 : decode cX11_begin 193 = .ok (.iaload, 1) := by decide +kernel
theorem dX11_begin_194 : decode cX11_begin 194 = .ok (.iload_n 2, 1) := by decide +kernel
theorem dX11_begin_195 : decode cX11_begin 195 = .ok (.if_icmp .ne 13, 3) := by decide +kernel
theorem dX11_begin_198 : decode cX11_begin 198 = .ok (.aload_n 0, 1) := by decide +kernel
theorem dX11_begin_199 : decode cX11_begin 199 = .ok (.getfield 48, 3) := by decide +kernel
theorem dX11_begin_202 : decode cX11_begin 202 = .ok (.iload 4, 2) := by decide +kernel
theorem dX11_begin_204 : decode cX11_begin 204 = .ok (.iaload, 1) := by decide +kernel
theorem dX11_begin_205 : decode cX11_begin 205 = .ok (.goto 9, 3) := by decide +kernel
theorem dX11_begin_208 : decode cX11_begin 208 = .ok (.aload_n 0, 1) := by decide +kernel
theorem dX11_begin_209 : decode cX11_begin 209 = .ok (.getfield 48, 3) := by decide +kernel
theorem dX11_begin_212 : decode cX11_begin 212 = .ok (.iload_n 2, 1) := by decide +kernel
theorem dX11_begin_213 : decode cX11_begin 213 = .ok (.iaload, 1) := by decide +kernel
theorem dX11_begin_214 : decode cX11_begin 214 = .ok (.iastore, 1) := by decide +kernel
theorem dX11_begin_215 : decode cX11_begin 215 = .ok (.iinc 4 1, 3) := by decide +kernel
theorem dX11_begin_218 : decode cX11_begin 218 = .ok (.goto (-70), 3) := by decide +kernel
theorem dX11_begin_221 : decode cX11_begin 221 = .ok (.iload_n 1, 1) := by decide +kernel
theorem dX11_begin_222 : decode cX11_begin 222 = .ok (.iload_n 3, 1) := by decide +kernel
theorem dX11_begin_223 : decode cX11_begin 223 = .ok (.ifCond .eq 17, 3) := by decide +kernel
theorem dX11_begin_226 : decode cX11_begin 226 = .ok (.aload_n 0, 1) := by decide +kernel
theorem dX11_begin_227 : decode cX11_begin 227 = .ok (.getfield 48, 3) := by decide +kernel
theorem dX11_begin_230 : decode cX11_begin 230 = .ok (.iload_n 2, 1) := by decide +kernel
theorem dX11_begin_231 : decode cX11_begin 231 = .ok (.iaload, 1) := by decide +kernel
theorem dX11_begin_232 : decode cX11_begin 232 = .ok (.iload_n 2, 1) := by decide +kernel
theorem dX11_begin_233 : decode cX11_begin 233 = .ok (.if_icmp .ne 7, 3) := by decide +kernel
theorem dX11_begin_236 : decode cX11_begin 236 = .ok (.iconst 1, 1) := by decide +kernel
theorem dX11_begin_237 : decode cX11_begin 237 = .ok (.goto 4, 3) := by decide +kernel
theorem dX11_begin_240 : decode cX11_begin 240 = .ok (.iconst 0, 1) := by decide +kernel
theorem dX11_begin_241 : decode cX11_begin 241 = .ok (.iadd, 1) := by decide +kernel
theorem dX11_begin_242 : decode cX11_begin 242 = .ok (.istore_n 1, 1) := by decide +kernel
theorem dX11_begin_243 : decode cX11_begin 243 = .ok (.iinc 2 1, 3) := by decide +kernel
theorem dX11_begin_246 : decode cX11_begin 246 = .ok (.goto (-120), 3) := by decide +kernel
theorem dX11_begin_249 : decode cX11_begin 249 = .ok (.aload_n 0, 1) := by decide +kernel
theorem dX11_begin_250 : decode cX11_begin 250 = .ok (.invokevirtual 155, 3) := by decide +kernel
theorem dX11_begin_253 : decode cX11_begin 253 = .ok (.iload_n 1, 1) := by decide +kernel
theorem dX11_begin_254 : decode cX11_begin 254 = .ok (.ireturn, 1) := by decide +kernel
theorem dX11_refine_0 : decode cX11_refine 0 = .ok (.aload_n 0, 1) := by decide +kernel
theorem dX11_refine_1 : decode cX11_refine 1 = .ok (.invokevirtual 158, 3) := by decide +kernel
theorem dX11_refine_4 : decode cX11_refine 4 = .ok (.istore_n 1, 1) := by decide +kernel
theorem dX11_refine_5 : decode cX11_refine 5 = .ok (.aload_n 0, 1) := by decide +kernel
theorem dX11_refine_6 : decode cX11_refine 6 = .ok (.iconst 0, 1) := by decide +kernel
theorem dX11_refine_7 : decode cX11_refine 7 = .ok (.putfield 162, 3) := by decide +kernel
theorem dX11_refine_10 : decode cX11_refine 10 = .ok (.iconst 1, 1) := by decide +kernel
theorem dX11_refine_11 : decode cX11_refine 11 = .ok (.istore_n 2, 1) := by decide +kernel
theorem dX11_refine_12 : decode cX11_refine 12 = .ok (.iload_n 2, 1) := by decide +kernel
theorem dX11_refine_13 : decode cX11_refine 13 = .ok (.ifCond .eq 42, 3) := by decide +kernel
theorem dX11_refine_16 : decode cX11_refine 16 = .ok (.aload_n 0, 1) := by decide +kernel
theorem dX11_refine_17 : decode cX11_refine 17 = .ok (.invokevirtual 165, 3) := by decide +kernel
theorem dX11_refine_20 : decode cX11_refine 20 = .ok (.istore_n 3, 1) := by decide +kernel
theorem dX11_refine_21 : decode cX11_refine 21 = .ok (.iload_n 3, 1) := by decide +kernel
theorem dX11_refine_22 : decode cX11_refine 22 = .ok (.iload_n 1, 1) := by decide +kernel
theorem dX11_refine_23 : decode cX11_refine 23 = .ok (.if_icmp .le 7, 3) := by decide +kernel
theorem dX11_refine_26 : decode cX11_refine 26 = .ok (.iconst 1, 1) := by decide +kernel
theorem dX11_refine_27 : decode cX11_refine 27 = .ok (.goto 4, 3) := by decide +kernel
theorem dX11_refine_30 : decode cX11_refine 30 = .ok (.iconst 0, 1) := by decide +kernel
theorem dX11_refine_31 : decode cX11_refine 31 = .ok (.istore_n 2, 1) := by decide +kernel
theorem dX11_refine_32 : decode cX11_refine 32 = .ok (.iload_n 2, 1) := by decide +kernel
theorem dX11_refine_33 : decode cX11_refine 33 = .ok (.ifCond .eq 19, 3) := by decide +kernel
theorem dX11_refine_36 : decode cX11_refine 36 = .ok (.aload_n 0, 1) := by decide +kernel
theorem dX11_refine_37 : decode cX11_refine 37 = .ok (.invokevirtual 155, 3) := by decide +kernel
theorem dX11_refine_40 : decode cX11_refine 40 = .ok (.aload_n 0, 1) := by decide +kernel
theorem dX11_refine_41 : decode cX11_refine 41 = .ok (.dup, 1) := by decide +kernel
theorem dX11_refine_42 : decode cX11_refine 42 = .ok (.getfield 162, 3) := by decide +kernel
theorem dX11_refine_45 : decode cX11_refine 45 = .ok (.iconst 1, 1) := by decide +kernel
theorem dX11_refine_46 : decode cX11_refine 46 = .ok (.iadd, 1) := by decide +kernel
theorem dX11_refine_47 : decode cX11_refine 47 = .ok (.putfield 162, 3) := by decide +kernel
theorem dX11_refine_50 : decode cX11_refine 50 = .ok (.iload_n 3, 1) := by decide +kernel
theorem dX11_refine_51 : decode cX11_refine 51 = .ok (.istore_n 1, 1) := by decide +kernel
theorem dX11_refine_52 : decode cX11_refine 52 = .ok (.goto (-40), 3) := by decide +kernel
theorem dX11_refine_55 : decode cX11_refine 55 = .ok (.aload_n 0, 1) := by decide +kernel
theorem dX11_refine_56 : decode cX11_refine 56 = .ok (.iconst 0, 1) := by decide +kernel
theorem dX11_refine_57 : decode cX11_refine 57 = .ok (.putfield 168, 3) := by decide +kernel
theorem dX11_refine_60 : decode cX11_refine 60 = .ok (.iconst 0, 1) := by decide +kernel
theorem dX11_refine_61 : decode cX11_refine 61 = .ok (.istore_n 3, 1) := by decide +kernel
theorem dX11_refine_62 : decode cX11_refine 62 = .ok (.iload_n 3, 1) := by decide +kernel
theorem dX11_refine_63 : decode cX11_refine 63 = .ok (.bipush 30, 2) := by decide +kernel
theorem dX11_refine_65 : decode cX11_refine 65 = .ok (.if_icmp .ge 98, 3) := by decide +kernel
theorem dX11_refine_68 : decode cX11_refine 68 = .ok (.iconst 0, 1) := by decide +kernel
theorem dX11_refine_69 : decode cX11_refine 69 = .ok (.istore 4, 2) := by decide +kernel
theorem dX11_refine_71 : decode cX11_refine 71 = .ok (.iconst 0, 1) := by decide +kernel
theorem dX11_refine_72 : decode cX11_refine 72 = .ok (.istore 5, 2) := by decide +kernel
theorem dX11_refine_74 : decode cX11_refine 74 = .ok (.iload 5, 2) := by decide +kernel
theorem dX11_refine_76 : decode cX11_refine 76 = .ok (.bipush 30, 2) := by decide +kernel
theorem dX11_refine_78 : decode cX11_refine 78 = .ok (.if_icmp .ge 60, 3) := by decide +kernel
theorem dX11_refine_81 : decode cX11_refine 81 = .ok (.aload_n 0, 1) := by decide +kernel
theorem dX11_refine_82 : decode cX11_refine 82 = .ok (.iload_n 3, 1) := by decide +kernel
theorem dX11_refine_83 : decode cX11_refine 83 = .ok (.invokevirtual 143, 3) := by decide +kernel
theorem dX11_refine_86 : decode cX11_refine 86 = .ok (.ifCond .eq 52, 3) := by decide +kernel
theorem dX11_refine_89 : decode cX11_refine 89 = .ok (.iload 4, 2) := by decide +kernel
theorem dX11_refine_91 : decode cX11_refine 91 = .ok (.ifCond .ne 34, 3) := by decide +kernel
theorem dX11_refine_94 : decode cX11_refine 94 = .ok (.iload 5, 2) := by decide +kernel
theorem dX11_refine_96 : decode cX11_refine 96 = .ok (.iload_n 3, 1) := by decide +kernel
theorem dX11_refine_97 : decode cX11_refine 97 = .ok (.if_icmp .eq 32, 3) := by decide +kernel
theorem dX11_refine_100 : decode cX11_refine 100 = .ok (.aload_n 0, 1) := by decide +kernel
theorem dX11_refine_101 : decode cX11_refine 101 = .ok (.iload 5, 2) := by decide +kernel
theorem dX11_refine_103 : decode cX11_refine 103 = .ok (.invokevirtual 143, 3) := by decide +kernel
theorem dX11_refine_106 : decode cX11_refine 106 = .ok (.ifCond .eq 23, 3) := by decide +kernel
theorem dX11_refine_109 : decode cX11_refine 109 = .ok (.aload_n 0, 1) := by decide +kernel
theorem dX11_refine_110 : decode cX11_refine 110 = .ok (.getfield 39, 3) := by decide +kernel
theorem dX11_refine_113 : decode cX11_refine 113 = .ok (.iload 5, 2) := by decide +kernel
theorem dX11_refine_115 : decode cX11_refine 115 = .ok (.iaload, 1) := by decide +kernel
theorem dX11_refine_116 : decode cX11_refine 116 = .ok (.aload_n 0, 1) := by decide +kernel
theorem dX11_refine_117 : decode cX11_refine 117 = .ok (.getfield 39, 3) := by decide +kernel
theorem dX11_refine_120 : decode cX11_refine 120 = .ok (.iload_n 3, 1) := by decide +kernel
theorem dX11_refine_121 : decode cX11_refine 121 = .ok (.iaload, 1) := by decide +kernel
theorem dX11_refine_122 : decode cX11_refine 122 = .ok (.if_icmp .ne 7, 3) := by decide +kernel
theorem dX11_refine_125 : decode cX11_refine 125 = .ok (.iconst 1, 1) := by decide +kernel
theorem dX11_refine_126 : decode cX11_refine 126 = .ok (.goto 4, 3) := by decide +kernel
theorem dX11_refine_129 : decode cX11_refine 129 = .ok (.iconst 0, 1) := by decide +kernel
theorem dX11_refine_130 : decode cX11_refine 130 = .ok (.istore 4, 2) := by decide +kernel
theorem dX11_refine_132 : decode cX11_refine 132 = .ok (.iinc 5 1, 3) := by decide +kernel
theorem dX11_refine_135 : decode cX11_refine 135 = .ok (.goto (-61), 3) := by decide +kernel
theorem dX11_refine_138 : decode cX11_refine 138 = .ok (.aload_n 0, 1) := by decide +kernel
theorem dX11_refine_139 : decode cX11_refine 139 = .ok (.dup, 1) := by decide +kernel
theorem dX11_refine_140 : decode cX11_refine 140 = .ok (.getfield 168, 3) := by decide +kernel
theorem dX11_refine_143 : decode cX11_refine 143 = .ok (.iload 4, 2) := by decide +kernel
theorem dX11_refine_145 : decode cX11_refine 145 = .ok (.ifCond .eq 7, 3) := by decide +kernel
theorem dX11_refine_148 : decode cX11_refine 148 = .ok (.iconst 1, 1) := by decide +kernel
theorem dX11_refine_149 : decode cX11_refine 149 = .ok (.goto 4, 3) := by decide +kernel
theorem dX11_refine_152 : decode cX11_refine 152 = .ok (.iconst 0, 1) := by decide +kernel
theorem dX11_refine_153 : decode cX11_refine 153 = .ok (.iadd, 1) := by decide +kernel
theorem dX11_refine_154 : decode cX11_refine 154 = .ok (.putfield 168, 3) := by decide +kernel
theorem dX11_refine_157 : decode cX11_refine 157 = .ok (.iinc 3 1, 3) := by decide +kernel
theorem dX11_refine_160 : decode cX11_refine 160 = .ok (.goto (-98), 3) := by decide +kernel
theorem dX11_refine_163 : decode cX11_refine 163 = .ok (.return_, 1) := by decide +kernel
theorem dX11_isAgreed_0 : decode cX11_isAgreed 0 = .ok (.aload_n 0, 1) := by decide +kernel
theorem dX11_isAgreed_1 : decode cX11_isAgreed 1 = .ok (.getfield 19, 3) := by decide +kernel
theorem dX11_isAgreed_4 : decode cX11_isAgreed 4 = .ok (.iload_n 1, 1) := by decide +kernel
theorem dX11_isAgreed_5 : decode cX11_isAgreed 5 = .ok (.daload, 1) := by decide +kernel
theorem dX11_isAgreed_6 : decode cX11_isAgreed 6 = .ok (.dstore_n 3, 1) := by decide +kernel
theorem dX11_isAgreed_7 : decode cX11_isAgreed 7 = .ok (.aload_n 0, 1) := by decide +kernel
theorem dX11_isAgreed_8 : decode cX11_isAgreed 8 = .ok (.getfield 19, 3) := by decide +kernel
theorem dX11_isAgreed_11 : decode cX11_isAgreed 11 = .ok (.iload_n 2, 1) := by decide +kernel
theorem dX11_isAgreed_12 : decode cX11_isAgreed 12 = .ok (.daload, 1) := by decide +kernel
theorem dX11_isAgreed_13 : decode cX11_isAgreed 13 = .ok (.dstore 5, 2) := by decide +kernel
theorem dX11_isAgreed_15 : decode cX11_isAgreed 15 = .ok (.dload_n 3, 1) := by decide +kernel
theorem dX11_isAgreed_16 : decode cX11_isAgreed 16 = .ok (.dload 5, 2) := by decide +kernel
theorem dX11_isAgreed_18 : decode cX11_isAgreed 18 = .ok (.dcmp .l, 1) := by decide +kernel
theorem dX11_isAgreed_19 : decode cX11_isAgreed 19 = .ok (.ifCond .le 7, 3) := by decide +kernel
theorem dX11_isAgreed_22 : decode cX11_isAgreed 22 = .ok (.dload_n 3, 1) := by decide +kernel
theorem dX11_isAgreed_23 : decode cX11_isAgreed 23 = .ok (.goto 5, 3) := by decide +kernel
theorem dX11_isAgreed_26 : decode cX11_isAgreed 26 = .ok (.dload 5, 2) := by decide +kernel
theorem dX11_isAgreed_28 : decode cX11_isAgreed 28 = .ok (.dstore 7, 2) := by decide +kernel
theorem dX11_isAgreed_30 : decode cX11_isAgreed 30 = .ok (.dload_n 3, 1) := by decide +kernel
theorem dX11_isAgreed_31 : decode cX11_isAgreed 31 = .ok (.dload 5, 2) := by decide +kernel
theorem dX11_isAgreed_33 : decode cX11_isAgreed 33 = .ok (.dcmp .l, 1) := by decide +kernel
theorem dX11_isAgreed_34 : decode cX11_isAgreed 34 = .ok (.ifCond .le 10, 3) := by decide +kernel
theorem dX11_isAgreed_37 : decode cX11_isAgreed 37 = .ok (.dload_n 3, 1) := by decide +kernel
theorem dX11_isAgreed_38 : decode cX11_isAgreed 38 = .ok (.dload 5, 2) := by decide +kernel
theorem dX11_isAgreed_40 : decode cX11_isAgreed 40 = .ok (.dsub, 1) := by decide +kernel
theorem dX11_isAgreed_41 : decode cX11_isAgreed 41 = .ok (.goto 7, 3) := by decide +kernel
theorem dX11_isAgreed_44 : decode cX11_isAgreed 44 = .ok (.dload 5, 2) := by decide +kernel
theorem dX11_isAgreed_46 : decode cX11_isAgreed 46 = .ok (.dload_n 3, 1) := by decide +kernel
theorem dX11_isAgreed_47 : decode cX11_isAgreed 47 = .ok (.dsub, 1) := by decide +kernel
theorem dX11_isAgreed_48 : decode cX11_isAgreed 48 = .ok (.dstore 9, 2) := by decide +kernel
theorem dX11_isAgreed_50 : decode cX11_isAgreed 50 = .ok (.dload 9, 2) := by decide +kernel
theorem dX11_isAgreed_52 : decode cX11_isAgreed 52 = .ok (.aload_n 0, 1) := by decide +kernel
theorem dX11_isAgreed_53 : decode cX11_isAgreed 53 = .ok (.getfield 36, 3) := by decide +kernel
theorem dX11_isAgreed_56 : decode cX11_isAgreed 56 = .ok (.aload_n 0, 1) := by decide +kernel
theorem dX11_isAgreed_57 : decode cX11_isAgreed 57 = .ok (.getfield 16, 3) := by decide +kernel
theorem dX11_isAgreed_60 : decode cX11_isAgreed 60 = .ok (.iload_n 1, 1) := by decide +kernel
theorem dX11_isAgreed_61 : decode cX11_isAgreed 61 = .ok (.iaload, 1) := by decide +kernel
theorem dX11_isAgreed_62 : decode cX11_isAgreed 62 = .ok (.daload, 1) := by decide +kernel
theorem dX11_isAgreed_63 : decode cX11_isAgreed 63 = .ok (.dload 7, 2) := by decide +kernel
theorem dX11_isAgreed_65 : decode cX11_isAgreed 65 = .ok (.dmul, 1) := by decide +kernel
theorem dX11_isAgreed_66 : decode cX11_isAgreed 66 = .ok (.dcmp .g, 1) := by decide +kernel
theorem dX11_isAgreed_67 : decode cX11_isAgreed 67 = .ok (.ifCond .gt 7, 3) := by decide +kernel
theorem dX11_isAgreed_70 : decode cX11_isAgreed 70 = .ok (.iconst 1, 1) := by decide +kernel
theorem dX11_isAgreed_71 : decode cX11_isAgreed 71 = .ok (.goto 4, 3) := by decide +kernel
theorem dX11_isAgreed_74 : decode cX11_isAgreed 74 = .ok (.iconst 0, 1) := by decide +kernel
theorem dX11_isAgreed_75 : decode cX11_isAgreed 75 = .ok (.ireturn, 1) := by decide +kernel
theorem dX11_isSameNet_0 : decode cX11_isSameNet 0 = .ok (.aload_n 0, 1) := by decide +kernel
theorem dX11_isSameNet_1 : decode cX11_isSameNet 1 = .ok (.getfield 7, 3) := by decide +kernel
theorem dX11_isSameNet_4 : decode cX11_isSameNet 4 = .ok (.iload_n 1, 1) := by decide +kernel
theorem dX11_isSameNet_5 : decode cX11_isSameNet 5 = .ok (.iaload, 1) := by decide +kernel
theorem dX11_isSameNet_6 : decode cX11_isSameNet 6 = .ok (.aload_n 0, 1) := by decide +kernel
theorem dX11_isSameNet_7 : decode cX11_isSameNet 7 = .ok (.getfield 7, 3) := by decide +kernel
theorem dX11_isSameNet_10 : decode cX11_isSameNet 10 = .ok (.bipush 40, 2) := by decide +kernel
theorem dX11_isSameNet_12 : decode cX11_isSameNet 12 = .ok (.iload_n 2, 1) := by decide +kernel
theorem dX11_isSameNet_13 : decode cX11_isSameNet 13 = .ok (.iadd, 1) := by decide +kernel
theorem dX11_isSameNet_14 : decode cX11_isSameNet 14 = .ok (.iaload, 1) := by decide +kernel
theorem dX11_isSameNet_15 : decode cX11_isSameNet 15 = .ok (.if_icmp .eq 5, 3) := by decide +kernel
theorem dX11_isSameNet_18 : decode cX11_isSameNet 18 = .ok (.iconst 0, 1) := by decide +kernel
theorem dX11_isSameNet_19 : decode cX11_isSameNet 19 = .ok (.ireturn, 1) := by decide +kernel
theorem dX11_isSameNet_20 : decode cX11_isSameNet 20 = .ok (.iconst 0, 1) := by decide +kernel
theorem dX11_isSameNet_21 : decode cX11_isSameNet 21 = .ok (.istore 4, 2) := by decide +kernel
theorem dX11_isSameNet_23 : decode cX11_isSameNet 23 = .ok (.iload 4, 2) := by decide +kernel
theorem dX11_isSameNet_25 : decode cX11_isSameNet 25 = .ok (.iload_n 3, 1) := by decide +kernel
theorem dX11_isSameNet_26 : decode cX11_isSameNet 26 = .ok (.if_icmp .ge 60, 3) := by decide +kernel
theorem dX11_isSameNet_29 : decode cX11_isSameNet 29 = .ok (.iconst 0, 1) := by decide +kernel
theorem dX11_isSameNet_30 : decode cX11_isSameNet 30 = .ok (.istore 5, 2) := by decide +kernel
theorem dX11_isSameNet_32 : decode cX11_isSameNet 32 = .ok (.iload 5, 2) := by decide +kernel
theorem dX11_isSameNet_34 : decode cX11_isSameNet 34 = .ok (.iconst 4, 1) := by decide +kernel
theorem dX11_isSameNet_35 : decode cX11_isSameNet 35 = .ok (.if_icmp .ge 45, 3) := by decide +kernel
theorem dX11_isSameNet_38 : decode cX11_isSameNet 38 = .ok (.aload_n 0, 1) := by decide +kernel
theorem dX11_isSameNet_39 : decode cX11_isSameNet 39 = .ok (.aload_n 0, 1) := by decide +kernel
theorem dX11_isSameNet_40 : decode cX11_isSameNet 40 = .ok (.getfield 60, 3) := by decide +kernel
theorem dX11_isSameNet_43 : decode cX11_isSameNet 43 = .ok (.iload 4, 2) := by decide +kernel
theorem dX11_isSameNet_45 : decode cX11_isSameNet 45 = .ok (.iaload, 1) := by decide +kernel
theorem dX11_isSameNet_46 : decode cX11_isSameNet 46 = .ok (.iload 5, 2) := by decide +kernel
theorem dX11_isSameNet_48 : decode cX11_isSameNet 48 = .ok (.iload_n 1, 1) := by decide +kernel
theorem dX11_isSameNet_49 : decode cX11_isSameNet 49 = .ok (.invokevirtual 111, 3) := by decide +kernel
theorem dX11_isSameNet_52 : decode cX11_isSameNet 52 = .ok (.aload_n 0, 1) := by decide +kernel
theorem dX11_isSameNet_53 : decode cX11_isSameNet 53 = .ok (.bipush 30, 2) := by decide +kernel
theorem dX11_isSameNet_55 : decode cX11_isSameNet 55 = .ok (.aload_n 0, 1) := by decide +kernel
theorem dX11_isSameNet_56 : decode cX11_isSameNet 56 = .ok (.getfield 63, 3) := by decide +kernel
theorem dX11_isSameNet_59 : decode cX11_isSameNet 59 = .ok (.iload 4, 2) := by decide +kernel
theorem dX11_isSameNet_61 : decode cX11_isSameNet 61 = .ok (.iaload, 1) := by decide +kernel
theorem dX11_isSameNet_62 : decode cX11_isSameNet 62 = .ok (.iadd, 1) := by decide +kernel
theorem dX11_isSameNet_63 : decode cX11_isSameNet 63 = .ok (.iload 5, 2) := by decide +kernel
theorem dX11_isSameNet_65 : decode cX11_isSameNet 65 = .ok (.iload_n 2, 1) := by decide +kernel
theorem dX11_isSameNet_66 : decode cX11_isSameNet 66 = .ok (.invokevirtual 111, 3) := by decide +kernel
theorem dX11_isSameNet_69 : decode cX11_isSameNet 69 = .ok (.if_icmp .eq 5, 3) := by decide +kernel
theorem dX11_isSameNet_72 : decode cX11_isSameNet 72 = .ok (.iconst 0, 1) := by decide +kernel
theorem dX11_isSameNet_73 : decode cX11_isSameNet 73 = .ok (.ireturn, 1) := by decide +kernel
theorem dX11_isSameNet_74 : decode cX11_isSameNet 74 = .ok (.iinc 5 1, 3) := by decide +kernel
theorem dX11_isSameNet_77 : decode cX11_isSameNet 77 = .ok (.goto (-45), 3) := by decide +kernel
theorem dX11_isSameNet_80 : decode cX11_isSameNet 80 = .ok (.iinc 4 1, 3) := by decide +kernel
theorem dX11_isSameNet_83 : decode cX11_isSameNet 83 = .ok (.goto (-60), 3) := by decide +kernel
theorem dX11_isSameNet_86 : decode cX11_isSameNet 86 = .ok (.iconst 1, 1) := by decide +kernel
theorem dX11_isSameNet_87 : decode cX11_isSameNet 87 = .ok (.ireturn, 1) := by decide +kernel
theorem dX11_sortFirst_0 : decode cX11_sortFirst 0 = .ok (.iconst 0, 1) := by decide +kernel
theorem dX11_sortFirst_1 : decode cX11_sortFirst 1 = .ok (.istore_n 1, 1) := by decide +kernel
theorem dX11_sortFirst_2 : decode cX11_sortFirst 2 = .ok (.iload_n 1, 1) := by decide +kernel
theorem dX11_sortFirst_3 : decode cX11_sortFirst 3 = .ok (.bipush 80, 2) := by decide +kernel
theorem dX11_sortFirst_5 : decode cX11_sortFirst 5 = .ok (.if_icmp .ge 90, 3) := by decide +kernel
theorem dX11_sortFirst_8 : decode cX11_sortFirst 8 = .ok (.aload_n 0, 1) := by decide +kernel
theorem dX11_sortFirst_9 : decode cX11_sortFirst 9 = .ok (.getfield 78, 3) := by decide +kernel
theorem dX11_sortFirst_12 : decode cX11_sortFirst 12 = .ok (.iload_n 1, 1) := by decide +kernel
theorem dX11_sortFirst_13 : decode cX11_sortFirst 13 = .ok (.aload_n 0, 1) := by decide +kernel
theorem dX11_sortFirst_14 : decode cX11_sortFirst 14 = .ok (.iload_n 1, 1) := by decide +kernel
theorem dX11_sortFirst_15 : decode cX11_sortFirst 15 = .ok (.invokevirtual 149, 3) := by decide +kernel
theorem dX11_sortFirst_18 : decode cX11_sortFirst 18 = .ok (.bastore, 1) := by decide +kernel
theorem dX11_sortFirst_19 : decode cX11_sortFirst 19 = .ok (.aload_n 0, 1) := by decide +kernel
theorem dX11_sortFirst_20 : decode cX11_sortFirst 20 = .ok (.getfield 72, 3) := by decide +kernel
theorem dX11_sortFirst_23 : decode cX11_sortFirst 23 = .ok (.iload_n 1, 1) := by decide +kernel
theorem dX11_sortFirst_24 : decode cX11_sortFirst 24 = .ok (.iload_n 1, 1) := by decide +kernel
theorem dX11_sortFirst_25 : decode cX11_sortFirst 25 = .ok (.iastore, 1) := by decide +kernel
theorem dX11_sortFirst_26 : decode cX11_sortFirst 26 = .ok (.iconst 0, 1) := by decide +kernel
theorem dX11_sortFirst_27 : decode cX11_sortFirst 27 = .ok (.istore_n 2, 1) := by decide +kernel
theorem dX11_sortFirst_28 : decode cX11_sortFirst 28 = .ok (.iload_n 2, 1) := by decide +kernel
theorem dX11_sortFirst_29 : decode cX11_sortFirst 29 = .ok (.iload_n 1, 1) := by decide +kernel
theorem dX11_sortFirst_30 : decode cX11_sortFirst 30 = .ok (.if_icmp .ge 59, 3) := by decide +kernel
theorem dX11_sortFirst_33 : decode cX11_sortFirst 33 = .ok (.aload_n 0, 1) := by decide +kernel
theorem dX11_sortFirst_34 : decode cX11_sortFirst 34 = .ok (.getfield 72, 3) := by decide +kernel
theorem dX11_sortFirst_37 : decode cX11_sortFirst 37 = .ok (.iload_n 1, 1) := by decide +kernel
theorem dX11_sortFirst_38 : decode cX11_sortFirst 38 = .ok (.iaload, 1) := by decide +kernel
theorem dX11_sortFirst_39 : decode cX11_sortFirst 39 = .ok (.iload_n 1, 1) := by decide +kernel
theorem dX11_sortFirst_40 : decode cX11_sortFirst 40 = .ok (.if_icmp .ne 49, 3) := by decide +kernel
theorem dX11_sortFirst_43 : decode cX11_sortFirst 43 = .ok (.aload_n 0, 1) := by decide +kernel
theorem dX11_sortFirst_44 : decode cX11_sortFirst 44 = .ok (.getfield 72, 3) := by decide +kernel
theorem dX11_sortFirst_47 : decode cX11_sortFirst 47 = .ok (.iload_n 1, 1) := by decide +kernel
theorem dX11_sortFirst_48 : decode cX11_sortFirst 48 = .ok (.aload_n 0, 1) := by decide +kernel
theorem dX11_sortFirst_49 : decode cX11_sortFirst 49 = .ok (.getfield 78, 3) := by decide +kernel
theorem dX11_sortFirst_52 : decode cX11_sortFirst 52 = .ok (.iload_n 2, 1) := by decide +kernel
theorem dX11_sortFirst_53 : decode cX11_sortFirst 53 = .ok (.baload, 1) := by decide +kernel
theorem dX11_sortFirst_54 : decode cX11_sortFirst 54 = .ok (.ifCond .eq 27, 3) := by decide +kernel
theorem dX11_sortFirst_57 : decode cX11_sortFirst 57 = .ok (.aload_n 0, 1) := by decide +kernel
theorem dX11_sortFirst_58 : decode cX11_sortFirst 58 = .ok (.getfield 7, 3) := by decide +kernel
theorem dX11_sortFirst_61 : decode cX11_sortFirst 61 = .ok (.iload_n 2, 1) := by decide +kernel
theorem dX11_sortFirst_62 : decode cX11_sortFirst 62 = .ok (.iaload, 1) := by decide +kernel
theorem dX11_sortFirst_63 : decode cX11_sortFirst 63 = .ok (.aload_n 0, 1) := by decide +kernel
theorem dX11_sortFirst_64 : decode cX11_sortFirst 64 = .ok (.getfield 7, 3) := by decide +kernel
theorem dX11_sortFirst_67 : decode cX11_sortFirst 67 = .ok (.iload_n 1, 1) := by decide +kernel
theorem dX11_sortFirst_68 : decode cX11_sortFirst 68 = .ok (.iaload, 1) := by decide +kernel
theorem dX11_sortFirst_69 : decode cX11_sortFirst 69 = .ok (.if_icmp .ne 12, 3) := by decide +kernel
theorem dX11_sortFirst_72 : decode cX11_sortFirst 72 = .ok (.aload_n 0, 1) := by decide +kernel
theorem dX11_sortFirst_73 : decode cX11_sortFirst 73 = .ok (.getfield 72, 3) := by decide +kernel
theorem dX11_sortFirst_76 : decode cX11_sortFirst 76 = .ok (.iload_n 2, 1) := by decide +kernel
theorem dX11_sortFirst_77 : decode cX11_sortFirst 77 = .ok (.iaload, 1) := by decide +kernel
theorem dX11_sortFirst_78 : decode cX11_sortFirst 78 = .ok (.goto 4, 3) := by decide +kernel
theorem dX11_sortFirst_81 : decode cX11_sortFirst 81 = .ok (.iload_n 1, 1) := by decide +kernel
theorem dX11_sortFirst_82 : decode cX11_sortFirst 82 = .ok (.iastore, 1) := by decide +kernel
theorem dX11_sortFirst_83 : decode cX11_sortFirst 83 = .ok (.iinc 2 1, 3) := by decide +kernel
theorem dX11_sortFirst_86 : decode cX11_sortFirst 86 = .ok (.goto (-58), 3) := by decide +kernel
theorem dX11_sortFirst_89 : decode cX11_sortFirst 89 = .ok (.iinc 1 1, 3) := by decide +kernel
theorem dX11_sortFirst_92 : decode cX11_sortFirst 92 = .ok (.goto (-90), 3) := by decide +kernel
theorem dX11_sortFirst_95 : decode cX11_sortFirst 95 = .ok (.return_, 1) := by decide +kernel
theorem dX11_touch_0 : decode cX11_touch 0 = .ok (.iconst 0, 1) := by decide +kernel
theorem dX11_touch_1 : decode cX11_touch 1 = .ok (.istore_n 3, 1) := by decide +kernel
theorem dX11_touch_2 : decode cX11_touch 2 = .ok (.iconst 0, 1) := by decide +kernel
theorem dX11_touch_3 : decode cX11_touch 3 = .ok (.istore 4, 2) := by decide +kernel
theorem dX11_touch_5 : decode cX11_touch 5 = .ok (.iload 4, 2) := by decide +kernel
theorem dX11_touch_7 : decode cX11_touch 7 = .ok (.iconst 4, 1) := by decide +kernel
theorem dX11_touch_8 : decode cX11_touch 8 = .ok (.if_icmp .ge 22, 3) := by decide +kernel
theorem dX11_touch_11 : decode cX11_touch 11 = .ok (.iconst 5, 1) := by decide +kernel
theorem dX11_touch_12 : decode cX11_touch 12 = .ok (.iload_n 3, 1) := by decide +kernel
theorem dX11_touch_13 : decode cX11_touch 13 = .ok (.imul, 1) := by decide +kernel
theorem dX11_touch_14 : decode cX11_touch 14 = .ok (.aload_n 0, 1) := by decide +kernel
theorem dX11_touch_15 : decode cX11_touch 15 = .ok (.iload_n 1, 1) := by decide +kernel
theorem dX11_touch_16 : decode cX11_touch 16 = .ok (.iload 4, 2) := by decide +kernel
theorem dX11_touch_18 : decode cX11_touch 18 = .ok (.iload_n 2, 1) := by decide +kernel
theorem dX11_touch_19 : decode cX11_touch 19 = .ok (.invokevirtual 111, 3) := by decide +kernel
theorem dX11_touch_22 : decode cX11_touch 22 = .ok (.iadd, 1) := by decide +kernel
theorem dX11_touch_23 : decode cX11_touch 23 = .ok (.istore_n 3, 1) := by decide +kernel
theorem dX11_touch_24 : decode cX11_touch 24 = .ok (.iinc 4 1, 3) := by decide +kernel
theorem dX11_touch_27 : decode cX11_touch 27 = .ok (.goto (-22), 3) := by decide +kernel
theorem dX11_touch_30 : decode cX11_touch 30 = .ok (.iload_n 3, 1) := by decide +kernel
theorem dX11_touch_31 : decode cX11_touch 31 = .ok (.ireturn, 1) := by decide +kernel
theorem dX11_isSorted_0 : decode cX11_isSorted 0 = .ok (.iconst 0, 1) := by decide +kernel
theorem dX11_isSorted_1 : decode cX11_isSorted 1 = .ok (.istore 4, 2) := by decide +kernel
theorem dX11_isSorted_3 : decode cX11_isSorted 3 = .ok (.iload 4, 2) := by decide +kernel
theorem dX11_isSorted_5 : decode cX11_isSorted 5 = .ok (.bipush 80, 2) := by decide +kernel
theorem dX11_isSorted_7 : decode cX11_isSorted 7 = .ok (.if_icmp .ge 59, 3) := by decide +kernel
theorem dX11_isSorted_10 : decode cX11_isSorted 10 = .ok (.aload_n 0, 1) := by decide +kernel
theorem dX11_isSorted_11 : decode cX11_isSorted 11 = .ok (.getfield 75, 3) := by decide +kernel
theorem dX11_isSorted_14 : decode cX11_isSorted 14 = .ok (.iload 4, 2) := by decide +kernel
theorem dX11_isSorted_16 : decode cX11_isSorted 16 = .ok (.aload_n 0, 1) := by decide +kernel
theorem dX11_isSorted_17 : decode cX11_isSorted 17 = .ok (.getfield 78, 3) := by decide +kernel
theorem dX11_isSorted_20 : decode cX11_isSorted 20 = .ok (.iload 4, 2) := by decide +kernel
theorem dX11_isSorted_22 : decode cX11_isSorted 22 = .ok (.baload, 1) := by decide +kernel
theorem dX11_isSorted_23 : decode cX11_isSorted 23 = .ok (.ifCond .eq 27, 3) := by decide +kernel
theorem dX11_isSorted_26 : decode cX11_isSorted 26 = .ok (.aload_n 0, 1) := by decide +kernel
theorem dX11_isSorted_27 : decode cX11_isSorted 27 = .ok (.iload 4, 2) := by decide +kernel
theorem dX11_isSorted_29 : decode cX11_isSorted 29 = .ok (.bipush 40, 2) := by decide +kernel
theorem dX11_isSorted_31 : decode cX11_isSorted 31 = .ok (.if_icmp .ge 7, 3) := by decide +kernel
theorem dX11_isSorted_34 : decode cX11_isSorted 34 = .ok (.iload_n 2, 1) := by decide +kernel
theorem dX11_isSorted_35 : decode cX11_isSorted 35 = .ok (.goto 4, 3) := by decide +kernel
theorem dX11_isSorted_38 : decode cX11_isSorted 38 = .ok (.iload_n 3, 1) := by decide +kernel
theorem dX11_isSorted_39 : decode cX11_isSorted 39 = .ok (.iload 4, 2) := by decide +kernel
theorem dX11_isSorted_41 : decode cX11_isSorted 41 = .ok (.bipush 40, 2) := by decide +kernel
theorem dX11_isSorted_43 : decode cX11_isSorted 43 = .ok (.irem, 1) := by decide +kernel
theorem dX11_isSorted_44 : decode cX11_isSorted 44 = .ok (.invokevirtual 171, 3) := by decide +kernel
theorem dX11_isSorted_47 : decode cX11_isSorted 47 = .ok (.goto 4, 3) := by decide +kernel
theorem dX11_isSorted_50 : decode cX11_isSorted 50 = .ok (.iconst 0, 1) := by decide +kernel
theorem dX11_isSorted_51 : decode cX11_isSorted 51 = .ok (.iastore, 1) := by decide +kernel
theorem dX11_isSorted_52 : decode cX11_isSorted 52 = .ok (.aload_n 0, 1) := by decide +kernel
theorem dX11_isSorted_53 : decode cX11_isSorted 53 = .ok (.getfield 81, 3) := by decide +kernel
theorem dX11_isSorted_56 : decode cX11_isSorted 56 = .ok (.iload 4, 2) := by decide +kernel
theorem dX11_isSorted_58 : decode cX11_isSorted 58 = .ok (.iconst 0, 1) := by decide +kernel
theorem dX11_isSorted_59 : decode cX11_isSorted 59 = .ok (.iastore, 1) := by decide +kernel
theorem dX11_isSorted_60 : decode cX11_isSorted 60 = .ok (.iinc 4 1, 3) := by decide +kernel
theorem dX11_isSorted_63 : decode cX11_isSorted 63 = .ok (.goto (-60), 3) := by decide +kernel
theorem dX11_isSorted_66 : decode cX11_isSorted 66 = .ok (.bipush 80, 2) := by decide +kernel
theorem dX11_isSorted_68 : decode cX11_isSorted 68 = .ok (.iload_n 1, 1) := by decide +kernel
theorem dX11_isSorted_69 : decode cX11_isSorted 69 = .ok (.imul, 1) := by decide +kernel
theorem dX11_isSorted_70 : decode cX11_isSorted 70 = .ok (.istore 4, 2) := by decide +kernel
theorem dX11_isSorted_72 : decode cX11_isSorted 72 = .ok (.bipush 80, 2) := by decide +kernel
theorem dX11_isSorted_74 : decode cX11_isSorted 74 = .ok (.iload_n 1, 1) := by decide +kernel
theorem dX11_isSorted_75 : decode cX11_isSorted 75 = .ok (.iconst 1, 1) := by decide +kernel
theorem dX11_isSorted_76 : decode cX11_isSorted 76 = .ok (.iadd, 1) := by decide +kernel
theorem dX11_isSorted_77 : decode cX11_isSorted 77 = .ok (.imul, 1) := by decide +kernel
theorem dX11_isSorted_78 : decode cX11_isSorted 78 = .ok (.istore 5, 2) := by decide +kernel
theorem dX11_isSorted_80 : decode cX11_isSorted 80 = .ok (.iconst 0, 1) := by decide +kernel
theorem dX11_isSorted_81 : decode cX11_isSorted 81 = .ok (.istore 6, 2) := by decide +kernel
theorem dX11_isSorted_83 : decode cX11_isSorted 83 = .ok (.iload 6, 2) := by decide +kernel
theorem dX11_isSorted_85 : decode cX11_isSorted 85 = .ok (.bipush 80, 2) := by decide +kernel
theorem dX11_isSorted_87 : decode cX11_isSorted 87 = .ok (.if_icmp .ge 170, 3) := by decide +kernel
theorem dX11_isSorted_90 : decode cX11_isSorted 90 = .ok (.aload_n 0, 1) := by decide +kernel
theorem dX11_isSorted_91 : decode cX11_isSorted 91 = .ok (.getfield 72, 3) := by decide +kernel
theorem dX11_isSorted_94 : decode cX11_isSorted 94 = .ok (.iload 5, 2) := by decide +kernel
theorem dX11_isSorted_96 : decode cX11_isSorted 96 = .ok (.iload 6, 2) := by decide +kernel
theorem dX11_isSorted_98 : decode cX11_isSorted 98 = .ok (.iadd, 1) := by decide +kernel
theorem dX11_isSorted_99 : decode cX11_isSorted 99 = .ok (.iload 6, 2) := by decide +kernel
theorem dX11_isSorted_101 : decode cX11_isSorted 101 = .ok (.iastore, 1) := by decide +kernel
theorem dX11_isSorted_102 : decode cX11_isSorted 102 = .ok (.aload_n 0, 1) := by decide +kernel
theorem dX11_isSorted_103 : decode cX11_isSorted 103 = .ok (.getfield 78, 3) := by decide +kernel
theorem dX11_isSorted_106 : decode cX11_isSorted 106 = .ok (.iload 6, 2) := by decide +kernel
theorem dX11_isSorted_108 : decode cX11_isSorted 108 = .ok (.baload, 1) := by decide +kernel
theorem dX11_isSorted_109 : decode cX11_isSorted 109 = .ok (.ifCond .ne 6, 3) := by decide +kernel
theorem dX11_isSorted_112 : decode cX11_isSorted 112 = .ok (.goto 139, 3) := by decide +kernel
theorem dX11_isSorted_115 : decode cX11_isSorted 115 = .ok (.iconst 0, 1) := by decide +kernel
theorem dX11_isSorted_116 : decode cX11_isSorted 116 = .ok (.istore 7, 2) := by decide +kernel
theorem dX11_isSorted_118 : decode cX11_isSorted 118 = .ok (.iload 7, 2) := by decide +kernel
theorem dX11_isSorted_120 : decode cX11_isSorted 120 = .ok (.iload 6, 2) := by decide +kernel
theorem dX11_isSorted_122 : decode cX11_isSorted 122 = .ok (.if_icmp .ge 99, 3) := by decide +kernel
theorem dX11_isSorted_125 : decode cX11_isSorted 125 = .ok (.aload_n 0, 1) := by decide +kernel
theorem dX11_isSorted_126 : decode cX11_isSorted 126 = .ok (.getfield 72, 3) := by decide +kernel
theorem dX11_isSorted_129 : decode cX11_isSorted 129 = .ok (.iload 5, 2) := by decide +kernel
theorem dX11_isSorted_131 : decode cX11_isSorted 131 = .ok (.iload 6, 2) := by decide +kernel
theorem dX11_isSorted_133 : decode cX11_isSorted 133 = .ok (.iadd, 1) := by decide +kernel
theorem dX11_isSorted_134 : decode cX11_isSorted 134 = .ok (.iaload, 1) := by decide +kernel
theorem dX11_isSorted_135 : decode cX11_isSorted 135 = .ok (.iload 6, 2) := by decide +kernel
theorem dX11_isSorted_137 : decode cX11_isSorted 137 = .ok (.if_icmp .ne 84, 3) := by decide +kernel
theorem dX11_isSorted_140 : decode cX11_isSorted 140 = .ok (.aload_n 0, 1) := by decide +kernel
theorem dX11_isSorted_141 : decode cX11_isSorted 141 = .ok (.getfield 72, 3) := by decide +kernel
theorem dX11_isSorted_144 : decode cX11_isSorted 144 = .ok (.iload 5, 2) := by decide +kernel
theorem dX11_isSorted_146 : decode cX11_isSorted 146 = .ok (.iload 6, 2) := by decide +kernel
theorem dX11_isSorted_148 : decode cX11_isSorted 148 = .ok (.iadd, 1) := by decide +kernel
theorem dX11_isSorted_149 : decode cX11_isSorted 149 = .ok (.aload_n 0, 1) := by decide +kernel
theorem dX11_isSorted_150 : decode cX11_isSorted 150 = .ok (.getfield 78, 3) := by decide +kernel
theorem dX11_isSorted_153 : decode cX11_isSorted 153 = .ok (.iload 7, 2) := by decide +kernel
theorem dX11_isSorted_155 : decode cX11_isSorted 155 = .ok (.baload, 1) := by decide +kernel
theorem dX11_isSorted_156 : decode cX11_isSorted 156 = .ok (.ifCond .eq 56, 3) := by decide +kernel
theorem dX11_isSorted_159 : decode cX11_isSorted 159 = .ok (.aload_n 0, 1) := by decide +kernel
theorem dX11_isSorted_160 : decode cX11_isSorted 160 = .ok (.getfield 72, 3) := by decide +kernel
theorem dX11_isSorted_163 : decode cX11_isSorted 163 = .ok (.iload 4, 2) := by decide +kernel
theorem dX11_isSorted_165 : decode cX11_isSorted 165 = .ok (.iload 7, 2) := by decide +kernel
theorem dX11_isSorted_167 : decode cX11_isSorted 167 = .ok (.iadd, 1) := by decide +kernel
theorem dX11_isSorted_168 : decode cX11_isSorted 168 = .ok (.iaload, 1) := by decide +kernel
theorem dX11_isSorted_169 : decode cX11_isSorted 169 = .ok (.aload_n 0, 1) := by decide +kernel
theorem dX11_isSorted_170 : decode cX11_isSorted 170 = .ok (.getfield 72, 3) := by decide +kernel
theorem dX11_isSorted_173 : decode cX11_isSorted 173 = .ok (.iload 4, 2) := by decide +kernel
theorem dX11_isSorted_175 : decode cX11_isSorted 175 = .ok (.iload 6, 2) := by decide +kernel
theorem dX11_isSorted_177 : decode cX11_isSorted 177 = .ok (.iadd, 1) := by decide +kernel
theorem dX11_isSorted_178 : decode cX11_isSorted 178 = .ok (.iaload, 1) := by decide +kernel
theorem dX11_isSorted_179 : decode cX11_isSorted 179 = .ok (.if_icmp .ne 33, 3) := by decide +kernel
theorem dX11_isSorted_182 : decode cX11_isSorted 182 = .ok (.aload_n 0, 1) := by decide +kernel
theorem dX11_isSorted_183 : decode cX11_isSorted 183 = .ok (.getfield 75, 3) := by decide +kernel
theorem dX11_isSorted_186 : decode cX11_isSorted 186 = .ok (.iload 7, 2) := by decide +kernel
theorem dX11_isSorted_188 : decode cX11_isSorted 188 = .ok (.iaload, 1) := by decide +kernel
theorem dX11_isSorted_189 : decode cX11_isSorted 189 = .ok (.aload_n 0, 1) := by decide +kernel
theorem dX11_isSorted_190 : decode cX11_isSorted 190 = .ok (.getfield 75, 3) := by decide +kernel
theorem dX11_isSorted_193 : decode cX11_isSorted 193 = .ok (.iload 6, 2) := by decide +kernel
theorem dX11_isSorted_195 : decode cX11_isSorted 195 = .ok (.iaload, 1) := by decide +kernel
theorem dX11_isSorted_196 : decode cX11_isSorted 196 = .ok (.if_icmp .ne 16, 3) := by decide +kernel
theorem dX11_isSorted_199 : decode cX11_isSorted 199 = .ok (.aload_n 0, 1) := by decide +kernel
theorem dX11_isSorted_200 : decode cX11_isSorted 200 = .ok (.getfield 72, 3) := by decide +kernel
theorem dX11_isSorted_203 : decode cX11_isSorted 203 = .ok (.iload 5, 2) := by decide +kernel
theorem dX11_isSorted_205 : decode cX11_isSorted 205 = .ok (.iload 7, 2) := by decide +kernel
theorem dX11_isSorted_207 : decode cX11_isSorted 207 = .ok (.iadd, 1) := by decide +kernel
theorem dX11_isSorted_208 : decode cX11_isSorted 208 = .ok (.iaload, 1) := by decide +kernel
theorem dX11_isSorted_209 : decode cX11_isSorted 209 = .ok (.goto 5, 3) := by decide +kernel
theorem dX11_isSorted_212 : decode cX11_isSorted 212 = .ok (.iload 6, 2) := by decide +kernel
theorem dX11_isSorted_214 : decode cX11_isSorted 214 = .ok (.iastore, 1) := by decide +kernel
theorem dX11_isSorted_215 : decode cX11_isSorted 215 = .ok (.iinc 7 1, 3) := by decide +kernel
theorem dX11_isSorted_218 : decode cX11_isSorted 218 = .ok (.goto (-100), 3) := by decide +kernel
theorem dX11_isSorted_221 : decode cX11_isSorted 221 = .ok (.aload_n 0, 1) := by decide +kernel
theorem dX11_isSorted_222 : decode cX11_isSorted 222 = .ok (.getfield 81, 3) := by decide +kernel
theorem dX11_isSorted_225 : decode cX11_isSorted 225 = .ok (.aload_n 0, 1) := by decide +kernel
theorem dX11_isSorted_226 : decode cX11_isSorted 226 = .ok (.getfield 72, 3) := by decide +kernel
theorem dX11_isSorted_229 : decode cX11_isSorted 229 = .ok (.iload 5, 2) := by decide +kernel
theorem dX11_isSorted_231 : decode cX11_isSorted 231 = .ok (.iload 6, 2) := by decide +kernel
theorem dX11_isSorted_233 : decode cX11_isSorted 233 = .ok (.iadd, 1) := by decide +kernel
theorem dX11_isSorted_234 : decode cX11_isSorted 234 = .ok (.iaload, 1) := by decide +kernel
theorem dX11_isSorted_235 : decode cX11_isSorted 235 = .ok (.dup2, 1) := by decide +kernel
theorem dX11_isSorted_236 : decode cX11_isSorted 236 = .ok (.iaload, 1) := by decide +kernel
theorem dX11_isSorted_237 : decode cX11_isSorted 237 = .ok (.iload 6, 2) := by decide +kernel
theorem dX11_isSorted_239 : decode cX11_isSorted 239 = .ok (.bipush 40, 2) := by decide +kernel
theorem dX11_isSorted_241 : decode cX11_isSorted 241 = .ok (.if_icmp .ge 7, 3) := by decide +kernel
theorem dX11_isSorted_244 : decode cX11_isSorted 244 = .ok (.iconst 1, 1) := by decide +kernel
theorem dX11_isSorted_245 : decode cX11_isSorted 245 = .ok (.goto 4, 3) := by decide +kernel
theorem dX11_isSorted_248 : decode cX11_isSorted 248 = .ok (.iconst (-1), 1) := by decide +kernel
theorem dX11_isSorted_249 : decode cX11_isSorted 249 = .ok (.iadd, 1) := by decide +kernel
theorem dX11_isSorted_250 : decode cX11_isSorted 250 = .ok (.iastore, 1) := by decide +kernel
theorem dX11_isSorted_251 : decode cX11_isSorted 251 = .ok (.iinc 6 1, 3) := by decide +kernel
theorem dX11_isSorted_254 : decode cX11_isSorted 254 = .ok (.goto (-171), 3) := by decide +kernel
theorem dX11_isSorted_257 : decode cX11_isSorted 257 = .ok (.iconst 1, 1) := by decide +kernel
theorem dX11_isSorted_258 : decode cX11_isSorted 258 = .ok (.istore 6, 2) := by decide +kernel
theorem dX11_isSorted_260 : decode cX11_isSorted 260 = .ok (.iconst 0, 1) := by decide +kernel
theorem dX11_isSorted_261 : decode cX11_isSorted 261 = .ok (.istore 7, 2) := by decide +kernel
theorem dX11_isSorted_263 : decode cX11_isSorted 263 = .ok (.iload 7, 2) := by decide +kernel
theorem dX11_isSorted_265 : decode cX11_isSorted 265 = .ok (.bipush 80, 2) := by decide +kernel
theorem dX11_isSorted_267 : decode cX11_isSorted 267 = .ok (.if_icmp .ge 31, 3) := by decide +kernel
theorem dX11_isSorted_270 : decode cX11_isSorted 270 = .ok (.iload 6, 2) := by decide +kernel
theorem dX11_isSorted_272 : decode cX11_isSorted 272 = .ok (.ifCond .eq 17, 3) := by decide +kernel
theorem dX11_isSorted_275 : decode cX11_isSorted 275 = .ok (.aload_n 0, 1) := by decide +kernel
theorem dX11_isSorted_276 : decode cX11_isSorted 276 = .ok (.getfield 81, 3) := by decide +kernel
theorem dX11_isSorted_279 : decode cX11_isSorted 279 = .ok (.iload 7, 2) := by decide +kernel
theorem dX11_isSorted_281 : decode cX11_isSorted 281 = .ok (.iaload, 1) := by decide +kernel
theorem dX11_isSorted_282 : decode cX11_isSorted 282 = .ok (.ifCond .ne 7, 3) := by decide +kernel
theorem dX11_isSorted_285 : decode cX11_isSorted 285 = .ok (.iconst 1, 1) := by decide +kernel
theorem dX11_isSorted_286 : decode cX11_isSorted 286 = .ok (.goto 4, 3) := by decide +kernel
theorem dX11_isSorted_289 : decode cX11_isSorted 289 = .ok (.iconst 0, 1) := by decide +kernel
theorem dX11_isSorted_290 : decode cX11_isSorted 290 = .ok (.istore 6, 2) := by decide +kernel
theorem dX11_isSorted_292 : decode cX11_isSorted 292 = .ok (.iinc 7 1, 3) := by decide +kernel
theorem dX11_isSorted_295 : decode cX11_isSorted 295 = .ok (.goto (-32), 3) := by decide +kernel
theorem dX11_isSorted_298 : decode cX11_isSorted 298 = .ok (.iload 6, 2) := by decide +kernel
theorem dX11_isSorted_300 : decode cX11_isSorted 300 = .ok (.ireturn, 1) := by decide +kernel
theorem dX11_pairNets_0 : decode cX11_pairNets 0 = .ok (.iconst 0, 1) := by decide +kernel
theorem dX11_pairNets_1 : decode cX11_pairNets 1 = .ok (.istore_n 2, 1) := by decide +kernel
theorem dX11_pairNets_2 : decode cX11_pairNets 2 = .ok (.iload_n 2, 1) := by decide +kernel
theorem dX11_pairNets_3 : decode cX11_pairNets 3 = .ok (.bipush 40, 2) := by decide +kernel
theorem dX11_pairNets_5 : decode cX11_pairNets 5 = .ok (.if_icmp .ge 16, 3) := by decide +kernel
theorem dX11_pairNets_8 : decode cX11_pairNets 8 = .ok (.aload_n 0, 1) := by decide +kernel
theorem dX11_pairNets_9 : decode cX11_pairNets 9 = .ok (.getfield 66, 3) := by decide +kernel
theorem dX11_pairNets_12 : decode cX11_pairNets 12 = .ok (.iload_n 2, 1) := by decide +kernel
theorem dX11_pairNets_13 : decode cX11_pairNets 13 = .ok (.iconst 0, 1) := by decide +kernel
theorem dX11_pairNets_14 : decode cX11_pairNets 14 = .ok (.bastore, 1) := by decide +kernel
theorem dX11_pairNets_15 : decode cX11_pairNets 15 = .ok (.iinc 2 1, 3) := by decide +kernel
theorem dX11_pairNets_18 : decode cX11_pairNets 18 = .ok (.goto (-16), 3) := by decide +kernel
theorem dX11_pairNets_21 : decode cX11_pairNets 21 = .ok (.iconst 0, 1) := by decide +kernel
theorem dX11_pairNets_22 : decode cX11_pairNets 22 = .ok (.istore_n 2, 1) := by decide +kernel
theorem dX11_pairNets_23 : decode cX11_pairNets 23 = .ok (.iload_n 2, 1) := by decide +kernel
theorem dX11_pairNets_24 : decode cX11_pairNets 24 = .ok (.bipush 40, 2) := by decide +kernel
theorem dX11_pairNets_26 : decode cX11_pairNets 26 = .ok (.if_icmp .ge 112, 3) := by decide +kernel
theorem dX11_pairNets_29 : decode cX11_pairNets 29 = .ok (.aload_n 0, 1) := by decide +kernel
theorem dX11_pairNets_30 : decode cX11_pairNets 30 = .ok (.getfield 69, 3) := by decide +kernel
theorem dX11_pairNets_33 : decode cX11_pairNets 33 = .ok (.iload_n 2, 1) := by decide +kernel
theorem dX11_pairNets_34 : decode cX11_pairNets 34 = .ok (.iconst (-1), 1) := by decide +kernel
theorem dX11_pairNets_35 : decode cX11_pairNets 35 = .ok (.iastore, 1) := by decide +kernel
theorem dX11_pairNets_36 : decode cX11_pairNets 36 = .ok (.iconst 0, 1) := by decide +kernel
theorem dX11_pairNets_37 : decode cX11_pairNets 37 = .ok (.istore_n 3, 1) := by decide +kernel
theorem dX11_pairNets_38 : decode cX11_pairNets 38 = .ok (.iload_n 3, 1) := by decide +kernel
theorem dX11_pairNets_39 : decode cX11_pairNets 39 = .ok (.bipush 40, 2) := by decide +kernel
theorem dX11_pairNets_41 : decode cX11_pairNets 41 = .ok (.if_icmp .ge 91, 3) := by decide +kernel
theorem dX11_pairNets_44 : decode cX11_pairNets 44 = .ok (.aload_n 0, 1) := by decide +kernel
theorem dX11_pairNets_45 : decode cX11_pairNets 45 = .ok (.getfield 78, 3) := by decide +kernel
theorem dX11_pairNets_48 : decode cX11_pairNets 48 = .ok (.iload_n 2, 1) := by decide +kernel
theorem dX11_pairNets_49 : decode cX11_pairNets 49 = .ok (.baload, 1) := by decide +kernel
theorem dX11_pairNets_50 : decode cX11_pairNets 50 = .ok (.ifCond .eq 82, 3) := by decide +kernel
theorem dX11_pairNets_53 : decode cX11_pairNets 53 = .ok (.aload_n 0, 1) := by decide +kernel
theorem dX11_pairNets_54 : decode cX11_pairNets 54 = .ok (.getfield 69, 3) := by decide +kernel
theorem dX11_pairNets_57 : decode cX11_pairNets 57 = .ok (.iload_n 2, 1) := by decide +kernel
theorem dX11_pairNets_58 : decode cX11_pairNets 58 = .ok (.iaload, 1) := by decide +kernel
theorem dX11_pairNets_59 : decode cX11_pairNets 59 = .ok (.iconst (-1), 1) := by decide +kernel
theorem dX11_pairNets_60 : decode cX11_pairNets 60 = .ok (.if_icmp .ne 72, 3) := by decide +kernel
theorem dX11_pairNets_63 : decode cX11_pairNets 63 = .ok (.aload_n 0, 1) := by decide +kernel
theorem dX11_pairNets_64 : decode cX11_pairNets 64 = .ok (.getfield 78, 3) := by decide +kernel
theorem dX11_pairNets_67 : decode cX11_pairNets 67 = .ok (.bipush 40, 2) := by decide +kernel
theorem dX11_pairNets_69 : decode cX11_pairNets 69 = .ok (.iload_n 3, 1) := by decide +kernel
theorem dX11_pairNets_70 : decode cX11_pairNets 70 = .ok (.iadd, 1) := by decide +kernel
theorem dX11_pairNets_71 : decode cX11_pairNets 71 = .ok (.baload, 1) := by decide +kernel
theorem dX11_pairNets_72 : decode cX11_pairNets 72 = .ok (.ifCond .eq 54, 3) := by decide +kernel
theorem dX11_pairNets_75 : decode cX11_pairNets 75 = .ok (.aload_n 0, 1) := by decide +kernel
theorem dX11_pairNets_76 : decode cX11_pairNets 76 = .ok (.getfield 66, 3) := by decide +kernel
theorem dX11_pairNets_79 : decode cX11_pairNets 79 = .ok (.iload_n 3, 1) := by decide +kernel
theorem dX11_pairNets_80 : decode cX11_pairNets 80 = .ok (.baload, 1) := by decide +kernel
theorem dX11_pairNets_81 : decode cX11_pairNets 81 = .ok (.ifCond .ne 45, 3) := by decide +kernel
theorem dX11_pairNets_84 : decode cX11_pairNets 84 = .ok (.aload_n 0, 1) := by decide +kernel
theorem dX11_pairNets_85 : decode cX11_pairNets 85 = .ok (.getfield 72, 3) := by decide +kernel
theorem dX11_pairNets_88 : decode cX11_pairNets 88 = .ok (.bipush 80, 2) := by decide +kernel
theorem dX11_pairNets_90 : decode cX11_pairNets 90 = .ok (.iload_n 1, 1) := by decide +kernel
theorem dX11_pairNets_91 : decode cX11_pairNets 91 = .ok (.imul, 1) := by decide +kernel
theorem dX11_pairNets_92 : decode cX11_pairNets 92 = .ok (.iload_n 2, 1) := by decide +kernel
theorem dX11_pairNets_93 : decode cX11_pairNets 93 = .ok (.iadd, 1) := by decide +kernel
theorem dX11_pairNets_94 : decode cX11_pairNets 94 = .ok (.iaload, 1) := by decide +kernel
theorem dX11_pairNets_95 : decode cX11_pairNets 95 = .ok (.aload_n 0, 1) := by decide +kernel
theorem dX11_pairNets_96 : decode cX11_pairNets 96 = .ok (.getfield 72, 3) := by decide +kernel
theorem dX11_pairNets_99 : decode cX11_pairNets 99 = .ok (.bipush 80, 2) := by decide +kernel
theorem dX11_pairNets_101 : decode cX11_pairNets 101 = .ok (.iload_n 1, 1) := by decide +kernel
theorem dX11_pairNets_102 : decode cX11_pairNets 102 = .ok (.imul, 1) := by decide +kernel
theorem dX11_pairNets_103 : decode cX11_pairNets 103 = .ok (.bipush 40, 2) := by decide +kernel
theorem dX11_pairNets_105 : decode cX11_pairNets 105 = .ok (.iadd, 1) := by decide +kernel
theorem dX11_pairNets_106 : decode cX11_pairNets 106 = .ok (.iload_n 3, 1) := by decide +kernel
theorem dX11_pairNets_107 : decode cX11_pairNets 107 = .ok (.iadd, 1) := by decide +kernel
theorem dX11_pairNets_108 : decode cX11_pairNets 108 = .ok (.iaload, 1) := by decide +kernel
theorem dX11_pairNets_109 : decode cX11_pairNets 109 = .ok (.if_icmp .ne 17, 3) := by decide +kernel
theorem dX11_pairNets_112 : decode cX11_pairNets 112 = .ok (.aload_n 0, 1) := by decide +kernel
theorem dX11_pairNets_113 : decode cX11_pairNets 113 = .ok (.getfield 66, 3) := by decide +kernel
theorem dX11_pairNets_116 : decode cX11_pairNets 116 = .ok (.iload_n 3, 1) := by decide +kernel
theorem dX11_pairNets_117 : decode cX11_pairNets 117 = .ok (.iconst 1, 1) := by decide +kernel
theorem dX11_pairNets_118 : decode cX11_pairNets 118 = .ok (.bastore, 1) := by decide +kernel
theorem dX11_pairNets_119 : decode cX11_pairNets 119 = .ok (.aload_n 0, 1) := by decide +kernel
theorem dX11_pairNets_120 : decode cX11_pairNets 120 = .ok (.getfield 69, 3) := by decide +kernel
theorem dX11_pairNets_123 : decode cX11_pairNets 123 = .ok (.iload_n 2, 1) := by decide +kernel
theorem dX11_pairNets_124 : decode cX11_pairNets 124 = .ok (.iload_n 3, 1) := by decide +kernel
theorem dX11_pairNets_125 : decode cX11_pairNets 125 = .ok (.iastore, 1) := by decide +kernel
theorem dX11_pairNets_126 : decode cX11_pairNets 126 = .ok (.iinc 3 1, 3) := by decide +kernel
theorem dX11_pairNets_129 : decode cX11_pairNets 129 = .ok (.goto (-91), 3) := by decide +kernel
theorem dX11_pairNets_132 : decode cX11_pairNets 132 = .ok (.iinc 2 1, 3) := by decide +kernel
theorem dX11_pairNets_135 : decode cX11_pairNets 135 = .ok (.goto (-112), 3) := by decide +kernel
theorem dX11_pairNets_138 : decode cX11_pairNets 138 = .ok (.return_, 1) := by decide +kernel
theorem dX11_isFree_0 : decode cX11_isFree 0 = .ok (.iconst 0, 1) := by decide +kernel
theorem dX11_isFree_1 : decode cX11_isFree 1 = .ok (.istore_n 3, 1) := by decide +kernel
theorem dX11_isFree_2 : decode cX11_isFree 2 = .ok (.iload_n 3, 1) := by decide +kernel
theorem dX11_isFree_3 : decode cX11_isFree 3 = .ok (.iload_n 1, 1) := by decide +kernel
theorem dX11_isFree_4 : decode cX11_isFree 4 = .ok (.if_icmp .ge 21, 3) := by decide +kernel
theorem dX11_isFree_7 : decode cX11_isFree 7 = .ok (.aload_n 0, 1) := by decide +kernel
theorem dX11_isFree_8 : decode cX11_isFree 8 = .ok (.getfield 63, 3) := by decide +kernel
theorem dX11_isFree_11 : decode cX11_isFree 11 = .ok (.iload_n 3, 1) := by decide +kernel
theorem dX11_isFree_12 : decode cX11_isFree 12 = .ok (.iaload, 1) := by decide +kernel
theorem dX11_isFree_13 : decode cX11_isFree 13 = .ok (.iload_n 2, 1) := by decide +kernel
theorem dX11_isFree_14 : decode cX11_isFree 14 = .ok (.if_icmp .ne 5, 3) := by decide +kernel
theorem dX11_isFree_17 : decode cX11_isFree 17 = .ok (.iconst 0, 1) := by decide +kernel
theorem dX11_isFree_18 : decode cX11_isFree 18 = .ok (.ireturn, 1) := by decide +kernel
theorem dX11_isFree_19 : decode cX11_isFree 19 = .ok (.iinc 3 1, 3) := by decide +kernel
theorem dX11_isFree_22 : decode cX11_isFree 22 = .ok (.goto (-20), 3) := by decide +kernel
theorem dX11_isFree_25 : decode cX11_isFree 25 = .ok (.aload_n 0, 1) := by decide +kernel
theorem dX11_isFree_26 : decode cX11_isFree 26 = .ok (.getfield 23, 3) := by decide +kernel
theorem dX11_isFree_29 : decode cX11_isFree 29 = .ok (.bipush 30, 2) := by decide +kernel
theorem dX11_isFree_31 : decode cX11_isFree 31 = .ok (.iload_n 2, 1) := by decide +kernel
theorem dX11_isFree_32 : decode cX11_isFree 32 = .ok (.iadd, 1) := by decide +kernel
theorem dX11_isFree_33 : decode cX11_isFree 33 = .ok (.baload, 1) := by decide +kernel
theorem dX11_isFree_34 : decode cX11_isFree 34 = .ok (.ifCond .ne 7, 3) := by decide +kernel
theorem dX11_isFree_37 : decode cX11_isFree 37 = .ok (.iconst 1, 1) := by decide +kernel
theorem dX11_isFree_38 : decode cX11_isFree 38 = .ok (.goto 4, 3) := by decide +kernel
theorem dX11_isFree_41 : decode cX11_isFree 41 = .ok (.iconst 0, 1) := by decide +kernel
theorem dX11_isFree_42 : decode cX11_isFree 42 = .ok (.ireturn, 1) := by decide +kernel
theorem dX11_isChoice_0 : decode cX11_isChoice 0 = .ok (.aload_n 0, 1) := by decide +kernel
theorem dX11_isChoice_1 : decode cX11_isChoice 1 = .ok (.getfield 60, 3) := by decide +kernel
theorem dX11_isChoice_4 : decode cX11_isChoice 4 = .ok (.iload_n 1, 1) := by decide +kernel
theorem dX11_isChoice_5 : decode cX11_isChoice 5 = .ok (.iaload, 1) := by decide +kernel
theorem dX11_isChoice_6 : decode cX11_isChoice 6 = .ok (.istore_n 2, 1) := by decide +kernel
theorem dX11_isChoice_7 : decode cX11_isChoice 7 = .ok (.bipush 30, 2) := by decide +kernel
theorem dX11_isChoice_9 : decode cX11_isChoice 9 = .ok (.aload_n 0, 1) := by decide +kernel
theorem dX11_isChoice_10 : decode cX11_isChoice 10 = .ok (.getfield 63, 3) := by decide +kernel
theorem dX11_isChoice_13 : decode cX11_isChoice 13 = .ok (.iload_n 1, 1) := by decide +kernel
theorem dX11_isChoice_14 : decode cX11_isChoice 14 = .ok (.iaload, 1) := by decide +kernel
theorem dX11_isChoice_15 : decode cX11_isChoice 15 = .ok (.iadd, 1) := by decide +kernel
theorem dX11_isChoice_16 : decode cX11_isChoice 16 = .ok (.istore_n 3, 1) := by decide +kernel
theorem dX11_isChoice_17 : decode cX11_isChoice 17 = .ok (.aload_n 0, 1) := by decide +kernel
theorem dX11_isChoice_18 : decode cX11_isChoice 18 = .ok (.iload_n 1, 1) := by decide +kernel
theorem dX11_isChoice_19 : decode cX11_isChoice 19 = .ok (.aload_n 0, 1) := by decide +kernel
theorem dX11_isChoice_20 : decode cX11_isChoice 20 = .ok (.getfield 63, 3) := by decide +kernel
theorem dX11_isChoice_23 : decode cX11_isChoice 23 = .ok (.iload_n 1, 1) := by decide +kernel
theorem dX11_isChoice_24 : decode cX11_isChoice 24 = .ok (.iaload, 1) := by decide +kernel
theorem dX11_isChoice_25 : decode cX11_isChoice 25 = .ok (.invokevirtual 174, 3) := by decide +kernel
theorem dX11_isChoice_28 : decode cX11_isChoice 28 = .ok (.ifCond .eq 18, 3) := by decide +kernel
theorem dX11_isChoice_31 : decode cX11_isChoice 31 = .ok (.aload_n 0, 1) := by decide +kernel
theorem dX11_isChoice_32 : decode cX11_isChoice 32 = .ok (.getfield 39, 3) := by decide +kernel
theorem dX11_isChoice_35 : decode cX11_isChoice 35 = .ok (.iload_n 2, 1) := by decide +kernel
theorem dX11_isChoice_36 : decode cX11_isChoice 36 = .ok (.iaload, 1) := by decide +kernel
theorem dX11_isChoice_37 : decode cX11_isChoice 37 = .ok (.aload_n 0, 1) := by decide +kernel
theorem dX11_isChoice_38 : decode cX11_isChoice 38 = .ok (.getfield 39, 3) := by decide +kernel
theorem dX11_isChoice_41 : decode cX11_isChoice 41 = .ok (.iload_n 3, 1) := by decide +kernel
theorem dX11_isChoice_42 : decode cX11_isChoice 42 = .ok (.iaload, 1) := by decide +kernel
theorem dX11_isChoice_43 : decode cX11_isChoice 43 = .ok (.if_icmp .eq 5, 3) := by decide +kernel
theorem dX11_isChoice_46 : decode cX11_isChoice 46 = .ok (.iconst 0, 1) := by decide +kernel
theorem dX11_isChoice_47 : decode cX11_isChoice 47 = .ok (.ireturn, 1) := by decide +kernel
theorem dX11_isChoice_48 : decode cX11_isChoice 48 = .ok (.aload_n 0, 1) := by decide +kernel
theorem dX11_isChoice_49 : decode cX11_isChoice 49 = .ok (.dup, 1) := by decide +kernel
theorem dX11_isChoice_50 : decode cX11_isChoice 50 = .ok (.getfield 177, 3) := by decide +kernel
theorem dX11_isChoice_53 : decode cX11_isChoice 53 = .ok (.lconst 1, 1) := by decide +kernel
theorem dX11_isChoice_54 : decode cX11_isChoice 54 = .ok (.ladd, 1) := by decide +kernel
theorem dX11_isChoice_55 : decode cX11_isChoice 55 = .ok (.putfield 177, 3) := by decide +kernel
theorem dX11_isChoice_58 : decode cX11_isChoice 58 = .ok (.aload_n 0, 1) := by decide +kernel
theorem dX11_isChoice_59 : decode cX11_isChoice 59 = .ok (.getfield 177, 3) := by decide +kernel
theorem dX11_isChoice_62 : decode cX11_isChoice 62 = .ok (.aload_n 0, 1) := by decide +kernel
theorem dX11_isChoice_63 : decode cX11_isChoice 63 = .ok (.getfield 181, 3) := by decide +kernel
theorem dX11_isChoice_66 : decode cX11_isChoice 66 = .ok (.lcmp, 1) := by decide +kernel
theorem dX11_isChoice_67 : decode cX11_isChoice 67 = .ok (.ifCond .gt 22, 3) := by decide +kernel
theorem dX11_isChoice_70 : decode cX11_isChoice 70 = .ok (.aload_n 0, 1) := by decide +kernel
theorem dX11_isChoice_71 : decode cX11_isChoice 71 = .ok (.iload_n 2, 1) := by decide +kernel
theorem dX11_isChoice_72 : decode cX11_isChoice 72 = .ok (.iload_n 3, 1) := by decide +kernel
theorem dX11_isChoice_73 : decode cX11_isChoice 73 = .ok (.invokevirtual 184, 3) := by decide +kernel
theorem dX11_isChoice_76 : decode cX11_isChoice 76 = .ok (.ifCond .eq 17, 3) := by decide +kernel
theorem dX11_isChoice_79 : decode cX11_isChoice 79 = .ok (.aload_n 0, 1) := by decide +kernel
theorem dX11_isChoice_80 : decode cX11_isChoice 80 = .ok (.iload_n 1, 1) := by decide +kernel
theorem dX11_isChoice_81 : decode cX11_isChoice 81 = .ok (.iload_n 2, 1) := by decide +kernel
theorem dX11_isChoice_82 : decode cX11_isChoice 82 = .ok (.iload_n 3, 1) := by decide +kernel
theorem dX11_isChoice_83 : decode cX11_isChoice 83 = .ok (.invokevirtual 187, 3) := by decide +kernel
theorem dX11_isChoice_86 : decode cX11_isChoice 86 = .ok (.ifCond .eq 7, 3) := by decide +kernel
theorem dX11_isChoice_89 : decode cX11_isChoice 89 = .ok (.iconst 1, 1) := by decide +kernel
theorem dX11_isChoice_90 : decode cX11_isChoice 90 = .ok (.goto 4, 3) := by decide +kernel
theorem dX11_isChoice_93 : decode cX11_isChoice 93 = .ok (.iconst 0, 1) := by decide +kernel
theorem dX11_isChoice_94 : decode cX11_isChoice 94 = .ok (.ireturn, 1) := by decide +kernel
theorem dX11_isNamed_0 : decode cX11_isNamed 0 = .ok (.iconst 1, 1) := by decide +kernel
theorem dX11_isNamed_1 : decode cX11_isNamed 1 = .ok (.istore_n 1, 1) := by decide +kernel
theorem dX11_isNamed_2 : decode cX11_isNamed 2 = .ok (.iconst 0, 1) := by decide +kernel
theorem dX11_isNamed_3 : decode cX11_isNamed 3 = .ok (.istore_n 2, 1) := by decide +kernel
theorem dX11_isNamed_4 : decode cX11_isNamed 4 = .ok (.iload_n 2, 1) := by decide +kernel
theorem dX11_isNamed_5 : decode cX11_isNamed 5 = .ok (.bipush 80, 2) := by decide +kernel
theorem dX11_isNamed_7 : decode cX11_isNamed 7 = .ok (.if_icmp .ge 74, 3) := by decide +kernel
theorem dX11_isNamed_10 : decode cX11_isNamed 10 = .ok (.iload_n 2, 1) := by decide +kernel
theorem dX11_isNamed_11 : decode cX11_isNamed 11 = .ok (.bipush 40, 2) := by decide +kernel
theorem dX11_isNamed_13 : decode cX11_isNamed 13 = .ok (.irem, 1) := by decide +kernel
theorem dX11_isNamed_14 : decode cX11_isNamed 14 = .ok (.aload_n 0, 1) := by decide +kernel
theorem dX11_isNamed_15 : decode cX11_isNamed 15 = .ok (.getfield 13, 3) := by decide +kernel
theorem dX11_isNamed_18 : decode cX11_isNamed 18 = .ok (.iload_n 2, 1) := by decide +kernel
theorem dX11_isNamed_19 : decode cX11_isNamed 19 = .ok (.bipush 40, 2) := by decide +kernel
theorem dX11_isNamed_21 : decode cX11_isNamed 21 = .ok (.idiv, 1) := by decide +kernel
theorem dX11_isNamed_22 : decode cX11_isNamed 22 = .ok (.iaload, 1) := by decide +kernel
theorem dX11_isNamed_23 : decode cX11_isNamed 23 = .ok (.if_icmp .ge 17, 3) := by decide +kernel
theorem dX11_isNamed_26 : decode cX11_isNamed 26 = .ok (.aload_n 0, 1) := by decide +kernel
theorem dX11_isNamed_27 : decode cX11_isNamed 27 = .ok (.getfield 7, 3) := by decide +kernel
theorem dX11_isNamed_30 : decode cX11_isNamed 30 = .ok (.iload_n 2, 1) := by decide +kernel
theorem dX11_isNamed_31 : decode cX11_isNamed 31 = .ok (.iaload, 1) := by decide +kernel
theorem dX11_isNamed_32 : decode cX11_isNamed 32 = .ok (.iconst (-1), 1) := by decide +kernel
theorem dX11_isNamed_33 : decode cX11_isNamed 33 = .ok (.if_icmp .eq 7, 3) := by decide +kernel
theorem dX11_isNamed_36 : decode cX11_isNamed 36 = .ok (.iconst 1, 1) := by decide +kernel
theorem dX11_isNamed_37 : decode cX11_isNamed 37 = .ok (.goto 4, 3) := by decide +kernel
theorem dX11_isNamed_40 : decode cX11_isNamed 40 = .ok (.iconst 0, 1) := by decide +kernel
theorem dX11_isNamed_41 : decode cX11_isNamed 41 = .ok (.istore_n 3, 1) := by decide +kernel
theorem dX11_isNamed_42 : decode cX11_isNamed 42 = .ok (.iload_n 1, 1) := by decide +kernel
theorem dX11_isNamed_43 : decode cX11_isNamed 43 = .ok (.ifCond .eq 30, 3) := by decide +kernel
theorem dX11_isNamed_46 : decode cX11_isNamed 46 = .ok (.iload_n 3, 1) := by decide +kernel
theorem dX11_isNamed_47 : decode cX11_isNamed 47 = .ok (.ifCond .eq 22, 3) := by decide +kernel
theorem dX11_isNamed_50 : decode cX11_isNamed 50 = .ok (.aload_n 0, 1) := by decide +kernel
theorem dX11_isNamed_51 : decode cX11_isNamed 51 = .ok (.iconst 1, 1) := by decide +kernel
theorem dX11_isNamed_52 : decode cX11_isNamed 52 = .ok (.iload_n 2, 1) := by decide +kernel
theorem dX11_isNamed_53 : decode cX11_isNamed 53 = .ok (.bipush 40, 2) := by decide +kernel
theorem dX11_isNamed_55 : decode cX11_isNamed 55 = .ok (.idiv, 1) := by decide +kernel
theorem dX11_isNamed_56 : decode cX11_isNamed 56 = .ok (.isub, 1) := by decide +kernel
theorem dX11_isNamed_57 : decode cX11_isNamed 57 = .ok (.aload_n 0, 1) := by decide +kernel
theorem dX11_isNamed_58 : decode cX11_isNamed 58 = .ok (.getfield 7, 3) := by decide +kernel
theorem dX11_isNamed_61 : decode cX11_isNamed 61 = .ok (.iload_n 2, 1) := by decide +kernel
theorem dX11_isNamed_62 : decode cX11_isNamed 62 = .ok (.iaload, 1) := by decide +kernel
theorem dX11_isNamed_63 : decode cX11_isNamed 63 = .ok (.invokevirtual 191, 3) := by decide +kernel
theorem dX11_isNamed_66 : decode cX11_isNamed 66 = .ok (.ifCond .eq 7, 3) := by decide +kernel
theorem dX11_isNamed_69 : decode cX11_isNamed 69 = .ok (.iconst 1, 1) := by decide +kernel
theorem dX11_isNamed_70 : decode cX11_isNamed 70 = .ok (.goto 4, 3) := by decide +kernel
theorem dX11_isNamed_73 : decode cX11_isNamed 73 = .ok (.iconst 0, 1) := by decide +kernel
theorem dX11_isNamed_74 : decode cX11_isNamed 74 = .ok (.istore_n 1, 1) := by decide +kernel
theorem dX11_isNamed_75 : decode cX11_isNamed 75 = .ok (.iinc 2 1, 3) := by decide +kernel
theorem dX11_isNamed_78 : decode cX11_isNamed 78 = .ok (.goto (-74), 3) := by decide +kernel
theorem dX11_isNamed_81 : decode cX11_isNamed 81 = .ok (.iload_n 1, 1) := by decide +kernel
theorem dX11_isNamed_82 : decode cX11_isNamed 82 = .ok (.ireturn, 1) := by decide +kernel
theorem dX11_isMatched_0 : decode cX11_isMatched 0 = .ok (.aload_n 0, 1) := by decide +kernel
theorem dX11_isMatched_1 : decode cX11_isMatched 1 = .ok (.iconst 0, 1) := by decide +kernel
theorem dX11_isMatched_2 : decode cX11_isMatched 2 = .ok (.putfield 194, 3) := by decide +kernel
theorem dX11_isMatched_5 : decode cX11_isMatched 5 = .ok (.iconst 0, 1) := by decide +kernel
theorem dX11_isMatched_6 : decode cX11_isMatched 6 = .ok (.istore_n 1, 1) := by decide +kernel
theorem dX11_isMatched_7 : decode cX11_isMatched 7 = .ok (.iload_n 1, 1) := by decide +kernel
theorem dX11_isMatched_8 : decode cX11_isMatched 8 = .ok (.aload_n 0, 1) := by decide +kernel
theorem dX11_isMatched_9 : decode cX11_isMatched 9 = .ok (.getfield 30, 3) := by decide +kernel
theorem dX11_isMatched_12 : decode cX11_isMatched 12 = .ok (.iconst 0, 1) := by decide +kernel
theorem dX11_isMatched_13 : decode cX11_isMatched 13 = .ok (.iaload, 1) := by decide +kernel
theorem dX11_isMatched_14 : decode cX11_isMatched 14 = .ok (.if_icmp .ge 38, 3) := by decide +kernel
theorem dX11_isMatched_17 : decode cX11_isMatched 17 = .ok (.aload_n 0, 1) := by decide +kernel
theorem dX11_isMatched_18 : decode cX11_isMatched 18 = .ok (.getfield 23, 3) := by decide +kernel
theorem dX11_isMatched_21 : decode cX11_isMatched 21 = .ok (.iload_n 1, 1) := by decide +kernel
theorem dX11_isMatched_22 : decode cX11_isMatched 22 = .ok (.baload, 1) := by decide +kernel
theorem dX11_isMatched_23 : decode cX11_isMatched 23 = .ok (.ifCond .ne 23, 3) := by decide +kernel
theorem dX11_isMatched_26 : decode cX11_isMatched 26 = .ok (.aload_n 0, 1) := by decide +kernel
theorem dX11_isMatched_27 : decode cX11_isMatched 27 = .ok (.getfield 60, 3) := by decide +kernel
theorem dX11_isMatched_30 : decode cX11_isMatched 30 = .ok (.aload_n 0, 1) := by decide +kernel
theorem dX11_isMatched_31 : decode cX11_isMatched 31 = .ok (.getfield 194, 3) := by decide +kernel
theorem dX11_isMatched_34 : decode cX11_isMatched 34 = .ok (.iload_n 1, 1) := by decide +kernel
theorem dX11_isMatched_35 : decode cX11_isMatched 35 = .ok (.iastore, 1) := by decide +kernel
theorem dX11_isMatched_36 : decode cX11_isMatched 36 = .ok (.aload_n 0, 1) := by decide +kernel
theorem dX11_isMatched_37 : decode cX11_isMatched 37 = .ok (.dup, 1) := by decide +kernel
theorem dX11_isMatched_38 : decode cX11_isMatched 38 = .ok (.getfield 194, 3) := by decide +kernel
theorem dX11_isMatched_41 : decode cX11_isMatched 41 = .ok (.iconst 1, 1) := by decide +kernel
theorem dX11_isMatched_42 : decode cX11_isMatched 42 = .ok (.iadd, 1) := by decide +kernel
theorem dX11_isMatched_43 : decode cX11_isMatched 43 = .ok (.putfield 194, 3) := by decide +kernel
theorem dX11_isMatched_46 : decode cX11_isMatched 46 = .ok (.iinc 1 1, 3) := by decide +kernel
theorem dX11_isMatched_49 : decode cX11_isMatched 49 = .ok (.goto (-42), 3) := by decide +kernel
theorem dX11_isMatched_52 : decode cX11_isMatched 52 = .ok (.aload_n 0, 1) := by decide +kernel
theorem dX11_isMatched_53 : decode cX11_isMatched 53 = .ok (.getfield 194, 3) := by decide +kernel
theorem dX11_isMatched_56 : decode cX11_isMatched 56 = .ok (.aload_n 0, 1) := by decide +kernel
theorem dX11_isMatched_57 : decode cX11_isMatched 57 = .ok (.iconst 1, 1) := by decide +kernel
theorem dX11_isMatched_58 : decode cX11_isMatched 58 = .ok (.invokevirtual 130, 3) := by decide +kernel
theorem dX11_isMatched_61 : decode cX11_isMatched 61 = .ok (.if_icmp .ne 23, 3) := by decide +kernel
theorem dX11_isMatched_64 : decode cX11_isMatched 64 = .ok (.aload_n 0, 1) := by decide +kernel
theorem dX11_isMatched_65 : decode cX11_isMatched 65 = .ok (.iconst 0, 1) := by decide +kernel
theorem dX11_isMatched_66 : decode cX11_isMatched 66 = .ok (.invokevirtual 197, 3) := by decide +kernel
theorem dX11_isMatched_69 : decode cX11_isMatched 69 = .ok (.aload_n 0, 1) := by decide +kernel
theorem dX11_isMatched_70 : decode cX11_isMatched 70 = .ok (.iconst 1, 1) := by decide +kernel
theorem dX11_isMatched_71 : decode cX11_isMatched 71 = .ok (.invokevirtual 197, 3) := by decide +kernel
theorem dX11_isMatched_74 : decode cX11_isMatched 74 = .ok (.if_icmp .ne 10, 3) := by decide +kernel
theorem dX11_isMatched_77 : decode cX11_isMatched 77 = .ok (.aload_n 0, 1) := by decide +kernel
theorem dX11_isMatched_78 : decode cX11_isMatched 78 = .ok (.invokevirtual 200, 3) := by decide +kernel
theorem dX11_isMatched_81 : decode cX11_isMatched 81 = .ok (.ifCond .ne 5, 3) := by decide +kernel
theorem dX11_isMatched_84 : decode cX11_isMatched 84 = .ok (.iconst 0, 1) := by decide +kernel
theorem dX11_isMatched_85 : decode cX11_isMatched 85 = .ok (.ireturn, 1) := by decide +kernel
theorem dX11_isMatched_86 : decode cX11_isMatched 86 = .ok (.aload_n 0, 1) := by decide +kernel
theorem dX11_isMatched_87 : decode cX11_isMatched 87 = .ok (.invokevirtual 204, 3) := by decide +kernel
theorem dX11_isMatched_90 : decode cX11_isMatched 90 = .ok (.iconst 0, 1) := by decide +kernel
theorem dX11_isMatched_91 : decode cX11_isMatched 91 = .ok (.istore_n 1, 1) := by decide +kernel
theorem dX11_isMatched_92 : decode cX11_isMatched 92 = .ok (.aload_n 0, 1) := by decide +kernel
theorem dX11_isMatched_93 : decode cX11_isMatched 93 = .ok (.getfield 63, 3) := by decide +kernel
theorem dX11_isMatched_96 : decode cX11_isMatched 96 = .ok (.iconst 0, 1) := by decide +kernel
theorem dX11_isMatched_97 : decode cX11_isMatched 97 = .ok (.iconst (-1), 1) := by decide +kernel
theorem dX11_isMatched_98 : decode cX11_isMatched 98 = .ok (.iastore, 1) := by decide +kernel
theorem dX11_isMatched_99 : decode cX11_isMatched 99 = .ok (.iload_n 1, 1) := by decide +kernel
theorem dX11_isMatched_100 : decode cX11_isMatched 100 = .ok (.ifCond .lt 105, 3) := by decide +kernel
theorem dX11_isMatched_103 : decode cX11_isMatched 103 = .ok (.iload_n 1, 1) := by decide +kernel
theorem dX11_isMatched_104 : decode cX11_isMatched 104 = .ok (.aload_n 0, 1) := by decide +kernel
theorem dX11_isMatched_105 : decode cX11_isMatched 105 = .ok (.getfield 194, 3) := by decide +kernel
theorem dX11_isMatched_108 : decode cX11_isMatched 108 = .ok (.if_icmp .ge 97, 3) := by decide +kernel
theorem dX11_isMatched_111 : decode cX11_isMatched 111 = .ok (.aload_n 0, 1) := by decide +kernel
theorem dX11_isMatched_112 : decode cX11_isMatched 112 = .ok (.getfield 63, 3) := by decide +kernel
theorem dX11_isMatched_115 : decode cX11_isMatched 115 = .ok (.iload_n 1, 1) := by decide +kernel
theorem dX11_isMatched_116 : decode cX11_isMatched 116 = .ok (.dup2, 1) := by decide +kernel
theorem dX11_isMatched_117 : decode cX11_isMatched 117 = .ok (.iaload, 1) := by decide +kernel
theorem dX11_isMatched_118 : decode cX11_isMatched 118 = .ok (.iconst 1, 1) := by decide +kernel
theorem dX11_isMatched_119 : decode cX11_isMatched 119 = .ok (.iadd, 1) := by decide +kernel
theorem dX11_isMatched_120 : decode cX11_isMatched 120 = .ok (.iastore, 1) := by decide +kernel
theorem dX11_isMatched_121 : decode cX11_isMatched 121 = .ok (.aload_n 0, 1) := by decide +kernel
theorem dX11_isMatched_122 : decode cX11_isMatched 122 = .ok (.getfield 63, 3) := by decide +kernel
theorem dX11_isMatched_125 : decode cX11_isMatched 125 = .ok (.iload_n 1, 1) := by decide +kernel
theorem dX11_isMatched_126 : decode cX11_isMatched 126 = .ok (.iaload, 1) := by decide +kernel
theorem dX11_isMatched_127 : decode cX11_isMatched 127 = .ok (.aload_n 0, 1) := by decide +kernel
theorem dX11_isMatched_128 : decode cX11_isMatched 128 = .ok (.getfield 30, 3) := by decide +kernel
theorem dX11_isMatched_131 : decode cX11_isMatched 131 = .ok (.iconst 1, 1) := by decide +kernel
theorem dX11_isMatched_132 : decode cX11_isMatched 132 = .ok (.iaload, 1) := by decide +kernel
theorem dX11_isMatched_133 : decode cX11_isMatched 133 = .ok (.if_icmp .ge 24, 3) := by decide +kernel
theorem dX11_isMatched_136 : decode cX11_isMatched 136 = .ok (.aload_n 0, 1) := by decide +kernel
theorem dX11_isMatched_137 : decode cX11_isMatched 137 = .ok (.iload_n 1, 1) := by decide +kernel
theorem dX11_isMatched_138 : decode cX11_isMatched 138 = .ok (.invokevirtual 207, 3) := by decide +kernel
theorem dX11_isMatched_141 : decode cX11_isMatched 141 = .ok (.ifCond .ne 16, 3) := by decide +kernel
theorem dX11_isMatched_144 : decode cX11_isMatched 144 = .ok (.aload_n 0, 1) := by decide +kernel
theorem dX11_isMatched_145 : decode cX11_isMatched 145 = .ok (.getfield 63, 3) := by decide +kernel
theorem dX11_isMatched_148 : decode cX11_isMatched 148 = .ok (.iload_n 1, 1) := by decide +kernel
theorem dX11_isMatched_149 : decode cX11_isMatched 149 = .ok (.dup2, 1) := by decide +kernel
theorem dX11_isMatched_150 : decode cX11_isMatched 150 = .ok (.iaload, 1) := by decide +kernel
theorem dX11_isMatched_151 : decode cX11_isMatched 151 = .ok (.iconst 1, 1) := by decide +kernel
theorem dX11_isMatched_152 : decode cX11_isMatched 152 = .ok (.iadd, 1) := by decide +kernel
theorem dX11_isMatched_153 : decode cX11_isMatched 153 = .ok (.iastore, 1) := by decide +kernel
theorem dX11_isMatched_154 : decode cX11_isMatched 154 = .ok (.goto (-33), 3) := by decide +kernel
theorem dX11_isMatched_157 : decode cX11_isMatched 157 = .ok (.aload_n 0, 1) := by decide +kernel
theorem dX11_isMatched_158 : decode cX11_isMatched 158 = .ok (.getfield 177, 3) := by decide +kernel
theorem dX11_isMatched_161 : decode cX11_isMatched 161 = .ok (.aload_n 0, 1) := by decide +kernel
theorem dX11_isMatched_162 : decode cX11_isMatched 162 = .ok (.getfield 181, 3) := by decide +kernel
theorem dX11_isMatched_165 : decode cX11_isMatched 165 = .ok (.lcmp, 1) := by decide +kernel
theorem dX11_isMatched_166 : decode cX11_isMatched 166 = .ok (.ifCond .le 5, 3) := by decide +kernel
theorem dX11_isMatched_169 : decode cX11_isMatched 169 = .ok (.iconst 0, 1) := by decide +kernel
theorem dX11_isMatched_170 : decode cX11_isMatched 170 = .ok (.ireturn, 1) := by decide +kernel
theorem dX11_isMatched_171 : decode cX11_isMatched 171 = .ok (.aload_n 0, 1) := by decide +kernel
theorem dX11_isMatched_172 : decode cX11_isMatched 172 = .ok (.getfield 63, 3) := by decide +kernel
theorem dX11_isMatched_175 : decode cX11_isMatched 175 = .ok (.iload_n 1, 1) := by decide +kernel
theorem dX11_isMatched_176 : decode cX11_isMatched 176 = .ok (.iaload, 1) := by decide +kernel
theorem dX11_isMatched_177 : decode cX11_isMatched 177 = .ok (.aload_n 0, 1) := by decide +kernel
theorem dX11_isMatched_178 : decode cX11_isMatched 178 = .ok (.getfield 30, 3) := by decide +kernel
theorem dX11_isMatched_181 : decode cX11_isMatched 181 = .ok (.iconst 1, 1) := by decide +kernel
theorem dX11_isMatched_182 : decode cX11_isMatched 182 = .ok (.iaload, 1) := by decide +kernel
theorem dX11_isMatched_183 : decode cX11_isMatched 183 = .ok (.if_icmp .ne 9, 3) := by decide +kernel
theorem dX11_isMatched_186 : decode cX11_isMatched 186 = .ok (.iinc 1 (-1), 3) := by decide +kernel
theorem dX11_isMatched_189 : decode cX11_isMatched 189 = .ok (.goto (-90), 3) := by decide +kernel
theorem dX11_isMatched_192 : decode cX11_isMatched 192 = .ok (.iinc 1 1, 3) := by decide +kernel
theorem dX11_isMatched_195 : decode cX11_isMatched 195 = .ok (.aload_n 0, 1) := by decide +kernel
theorem dX11_isMatched_196 : decode cX11_isMatched 196 = .ok (.getfield 63, 3) := by decide +kernel
theorem dX11_isMatched_199 : decode cX11_isMatched 199 = .ok (.iload_n 1, 1) := by decide +kernel
theorem dX11_isMatched_200 : decode cX11_isMatched 200 = .ok (.iconst (-1), 1) := by decide +kernel
theorem dX11_isMatched_201 : decode cX11_isMatched 201 = .ok (.iastore, 1) := by decide +kernel
theorem dX11_isMatched_202 : decode cX11_isMatched 202 = .ok (.goto (-103), 3) := by decide +kernel
theorem dX11_isMatched_205 : decode cX11_isMatched 205 = .ok (.iload_n 1, 1) := by decide +kernel
theorem dX11_isMatched_206 : decode cX11_isMatched 206 = .ok (.ifCond .ge 5, 3) := by decide +kernel
theorem dX11_isMatched_209 : decode cX11_isMatched 209 = .ok (.iconst 0, 1) := by decide +kernel
theorem dX11_isMatched_210 : decode cX11_isMatched 210 = .ok (.ireturn, 1) := by decide +kernel
theorem dX11_isMatched_211 : decode cX11_isMatched 211 = .ok (.aload_n 0, 1) := by decide +kernel
theorem dX11_isMatched_212 : decode cX11_isMatched 212 = .ok (.aload_n 0, 1) := by decide +kernel
theorem dX11_isMatched_213 : decode cX11_isMatched 213 = .ok (.getfield 194, 3) := by decide +kernel
theorem dX11_isMatched_216 : decode cX11_isMatched 216 = .ok (.invokevirtual 210, 3) := by decide +kernel
theorem dX11_isMatched_219 : decode cX11_isMatched 219 = .ok (.iconst 1, 1) := by decide +kernel
theorem dX11_isMatched_220 : decode cX11_isMatched 220 = .ok (.ireturn, 1) := by decide +kernel
theorem dX11_used_0 : decode cX11_used 0 = .ok (.iconst 0, 1) := by decide +kernel
theorem dX11_used_1 : decode cX11_used 1 = .ok (.istore_n 2, 1) := by decide +kernel
theorem dX11_used_2 : decode cX11_used 2 = .ok (.iconst 0, 1) := by decide +kernel
theorem dX11_used_3 : decode cX11_used 3 = .ok (.istore_n 3, 1) := by decide +kernel
theorem dX11_used_4 : decode cX11_used 4 = .ok (.iload_n 3, 1) := by decide +kernel
theorem dX11_used_5 : decode cX11_used 5 = .ok (.aload_n 0, 1) := by decide +kernel
theorem dX11_used_6 : decode cX11_used 6 = .ok (.getfield 13, 3) := by decide +kernel
theorem dX11_used_9 : decode cX11_used 9 = .ok (.iload_n 1, 1) := by decide +kernel
theorem dX11_used_10 : decode cX11_used 10 = .ok (.iaload, 1) := by decide +kernel
theorem dX11_used_11 : decode cX11_used 11 = .ok (.if_icmp .ge 26, 3) := by decide +kernel
theorem dX11_used_14 : decode cX11_used 14 = .ok (.iload_n 2, 1) := by decide +kernel
theorem dX11_used_15 : decode cX11_used 15 = .ok (.aload_n 0, 1) := by decide +kernel
theorem dX11_used_16 : decode cX11_used 16 = .ok (.iload_n 1, 1) := by decide +kernel
theorem dX11_used_17 : decode cX11_used 17 = .ok (.iload_n 3, 1) := by decide +kernel
theorem dX11_used_18 : decode cX11_used 18 = .ok (.invokevirtual 140, 3) := by decide +kernel
theorem dX11_used_21 : decode cX11_used 21 = .ok (.ifCond .eq 7, 3) := by decide +kernel
theorem dX11_used_24 : decode cX11_used 24 = .ok (.iconst 1, 1) := by decide +kernel
theorem dX11_used_25 : decode cX11_used 25 = .ok (.goto 4, 3) := by decide +kernel
theorem dX11_used_28 : decode cX11_used 28 = .ok (.iconst 0, 1) := by decide +kernel
theorem dX11_used_29 : decode cX11_used 29 = .ok (.iadd, 1) := by decide +kernel
theorem dX11_used_30 : decode cX11_used 30 = .ok (.istore_n 2, 1) := by decide +kernel
theorem dX11_used_31 : decode cX11_used 31 = .ok (.iinc 3 1, 3) := by decide +kernel
theorem dX11_used_34 : decode cX11_used 34 = .ok (.goto (-30), 3) := by decide +kernel
theorem dX11_used_37 : decode cX11_used 37 = .ok (.iload_n 2, 1) := by decide +kernel
theorem dX11_used_38 : decode cX11_used 38 = .ok (.ireturn, 1) := by decide +kernel
theorem dX11_keep_0 : decode cX11_keep 0 = .ok (.iconst 0, 1) := by decide +kernel
theorem dX11_keep_1 : decode cX11_keep 1 = .ok (.istore_n 1, 1) := by decide +kernel
theorem dX11_keep_2 : decode cX11_keep 2 = .ok (.iload_n 1, 1) := by decide +kernel
theorem dX11_keep_3 : decode cX11_keep 3 = .ok (.bipush 60, 2) := by decide +kernel
theorem dX11_keep_5 : decode cX11_keep 5 = .ok (.if_icmp .ge 16, 3) := by decide +kernel
theorem dX11_keep_8 : decode cX11_keep 8 = .ok (.aload_n 0, 1) := by decide +kernel
theorem dX11_keep_9 : decode cX11_keep 9 = .ok (.getfield 54, 3) := by decide +kernel
theorem dX11_keep_12 : decode cX11_keep 12 = .ok (.iload_n 1, 1) := by decide +kernel
theorem dX11_keep_13 : decode cX11_keep 13 = .ok (.iconst (-1), 1) := by decide +kernel
theorem dX11_keep_14 : decode cX11_keep 14 = .ok (.iastore, 1) := by decide +kernel
theorem dX11_keep_15 : decode cX11_keep 15 = .ok (.iinc 1 1, 3) := by decide +kernel
theorem dX11_keep_18 : decode cX11_keep 18 = .ok (.goto (-16), 3) := by decide +kernel
theorem dX11_keep_21 : decode cX11_keep 21 = .ok (.iconst 0, 1) := by decide +kernel
theorem dX11_keep_22 : decode cX11_keep 22 = .ok (.istore_n 1, 1) := by decide +kernel
theorem dX11_keep_23 : decode cX11_keep 23 = .ok (.iload_n 1, 1) := by decide +kernel
theorem dX11_keep_24 : decode cX11_keep 24 = .ok (.aload_n 0, 1) := by decide +kernel
theorem dX11_keep_25 : decode cX11_keep 25 = .ok (.getfield 194, 3) := by decide +kernel
theorem dX11_keep_28 : decode cX11_keep 28 = .ok (.if_icmp .ge 46, 3) := by decide +kernel
theorem dX11_keep_31 : decode cX11_keep 31 = .ok (.aload_n 0, 1) := by decide +kernel
theorem dX11_keep_32 : decode cX11_keep 32 = .ok (.getfield 54, 3) := by decide +kernel
theorem dX11_keep_35 : decode cX11_keep 35 = .ok (.aload_n 0, 1) := by decide +kernel
theorem dX11_keep_36 : decode cX11_keep 36 = .ok (.getfield 60, 3) := by decide +kernel
theorem dX11_keep_39 : decode cX11_keep 39 = .ok (.iload_n 1, 1) := by decide +kernel
theorem dX11_keep_40 : decode cX11_keep 40 = .ok (.iaload, 1) := by decide +kernel
theorem dX11_keep_41 : decode cX11_keep 41 = .ok (.aload_n 0, 1) := by decide +kernel
theorem dX11_keep_42 : decode cX11_keep 42 = .ok (.getfield 63, 3) := by decide +kernel
theorem dX11_keep_45 : decode cX11_keep 45 = .ok (.iload_n 1, 1) := by decide +kernel
theorem dX11_keep_46 : decode cX11_keep 46 = .ok (.iaload, 1) := by decide +kernel
theorem dX11_keep_47 : decode cX11_keep 47 = .ok (.iastore, 1) := by decide +kernel
theorem dX11_keep_48 : decode cX11_keep 48 = .ok (.aload_n 0, 1) := by decide +kernel
theorem dX11_keep_49 : decode cX11_keep 49 = .ok (.getfield 54, 3) := by decide +kernel
theorem dX11_keep_52 : decode cX11_keep 52 = .ok (.bipush 30, 2) := by decide +kernel
theorem dX11_keep_54 : decode cX11_keep 54 = .ok (.aload_n 0, 1) := by decide +kernel
theorem dX11_keep_55 : decode cX11_keep 55 = .ok (.getfield 63, 3) := by decide +kernel
theorem dX11_keep_58 : decode cX11_keep 58 = .ok (.iload_n 1, 1) := by decide +kernel
theorem dX11_keep_59 : decode cX11_keep 59 = .ok (.iaload, 1) := by decide +kernel
theorem dX11_keep_60 : decode cX11_keep 60 = .ok (.iadd, 1) := by decide +kernel
theorem dX11_keep_61 : decode cX11_keep 61 = .ok (.aload_n 0, 1) := by decide +kernel
theorem dX11_keep_62 : decode cX11_keep 62 = .ok (.getfield 60, 3) := by decide +kernel
theorem dX11_keep_65 : decode cX11_keep 65 = .ok (.iload_n 1, 1) := by decide +kernel
theorem dX11_keep_66 : decode cX11_keep 66 = .ok (.iaload, 1) := by decide +kernel
theorem dX11_keep_67 : decode cX11_keep 67 = .ok (.iastore, 1) := by decide +kernel
theorem dX11_keep_68 : decode cX11_keep 68 = .ok (.iinc 1 1, 3) := by decide +kernel
theorem dX11_keep_71 : decode cX11_keep 71 = .ok (.goto (-48), 3) := by decide +kernel
theorem dX11_keep_74 : decode cX11_keep 74 = .ok (.iconst 0, 1) := by decide +kernel
theorem dX11_keep_75 : decode cX11_keep 75 = .ok (.istore_n 1, 1) := by decide +kernel
theorem dX11_keep_76 : decode cX11_keep 76 = .ok (.iload_n 1, 1) := by decide +kernel
theorem dX11_keep_77 : decode cX11_keep 77 = .ok (.bipush 40, 2) := by decide +kernel
theorem dX11_keep_79 : decode cX11_keep 79 = .ok (.if_icmp .ge 21, 3) := by decide +kernel
theorem dX11_keep_82 : decode cX11_keep 82 = .ok (.aload_n 0, 1) := by decide +kernel
theorem dX11_keep_83 : decode cX11_keep 83 = .ok (.getfield 57, 3) := by decide +kernel
theorem dX11_keep_86 : decode cX11_keep 86 = .ok (.iload_n 1, 1) := by decide +kernel
theorem dX11_keep_87 : decode cX11_keep 87 = .ok (.aload_n 0, 1) := by decide +kernel
theorem dX11_keep_88 : decode cX11_keep 88 = .ok (.getfield 69, 3) := by decide +kernel
theorem dX11_keep_91 : decode cX11_keep 91 = .ok (.iload_n 1, 1) := by decide +kernel
theorem dX11_keep_92 : decode cX11_keep 92 = .ok (.iaload, 1) := by decide +kernel
theorem dX11_keep_93 : decode cX11_keep 93 = .ok (.iastore, 1) := by decide +kernel
theorem dX11_keep_94 : decode cX11_keep 94 = .ok (.iinc 1 1, 3) := by decide +kernel
theorem dX11_keep_97 : decode cX11_keep 97 = .ok (.goto (-21), 3) := by decide +kernel
theorem dX11_keep_100 : decode cX11_keep 100 = .ok (.aload_n 0, 1) := by decide +kernel
theorem dX11_keep_101 : decode cX11_keep 101 = .ok (.iconst 1, 1) := by decide +kernel
theorem dX11_keep_102 : decode cX11_keep 102 = .ok (.putfield 214, 3) := by decide +kernel
theorem dX11_keep_105 : decode cX11_keep 105 = .ok (.return_, 1) := by decide +kernel
theorem dX11_differ_0 : decode cX11_differ 0 = .ok (.iconst 4, 1) := by decide +kernel
theorem dX11_differ_1 : decode cX11_differ 1 = .ok (.aload_n 0, 1) := by decide +kernel
theorem dX11_differ_2 : decode cX11_differ 2 = .ok (.getfield 218, 3) := by decide +kernel
theorem dX11_differ_5 : decode cX11_differ 5 = .ok (.imul, 1) := by decide +kernel
theorem dX11_differ_6 : decode cX11_differ 6 = .ok (.istore 5, 2) := by decide +kernel
theorem dX11_differ_8 : decode cX11_differ 8 = .ok (.aload_n 0, 1) := by decide +kernel
theorem dX11_differ_9 : decode cX11_differ 9 = .ok (.getfield 51, 3) := by decide +kernel
theorem dX11_differ_12 : decode cX11_differ 12 = .ok (.iload 5, 2) := by decide +kernel
theorem dX11_differ_14 : decode cX11_differ 14 = .ok (.iload_n 1, 1) := by decide +kernel
theorem dX11_differ_15 : decode cX11_differ 15 = .ok (.iastore, 1) := by decide +kernel
theorem dX11_differ_16 : decode cX11_differ 16 = .ok (.aload_n 0, 1) := by decide +kernel
theorem dX11_differ_17 : decode cX11_differ 17 = .ok (.getfield 51, 3) := by decide +kernel
theorem dX11_differ_20 : decode cX11_differ 20 = .ok (.iload 5, 2) := by decide +kernel
theorem dX11_differ_22 : decode cX11_differ 22 = .ok (.iconst 1, 1) := by decide +kernel
theorem dX11_differ_23 : decode cX11_differ 23 = .ok (.iadd, 1) := by decide +kernel
theorem dX11_differ_24 : decode cX11_differ 24 = .ok (.iload_n 2, 1) := by decide +kernel
theorem dX11_differ_25 : decode cX11_differ 25 = .ok (.iastore, 1) := by decide +kernel
theorem dX11_differ_26 : decode cX11_differ 26 = .ok (.aload_n 0, 1) := by decide +kernel
theorem dX11_differ_27 : decode cX11_differ 27 = .ok (.getfield 51, 3) := by decide +kernel
theorem dX11_differ_30 : decode cX11_differ 30 = .ok (.iload 5, 2) := by decide +kernel
theorem dX11_differ_32 : decode cX11_differ 32 = .ok (.iconst 2, 1) := by decide +kernel
theorem dX11_differ_33 : decode cX11_differ 33 = .ok (.iadd, 1) := by decide +kernel
theorem dX11_differ_34 : decode cX11_differ 34 = .ok (.iload_n 3, 1) := by decide +kernel
theorem dX11_differ_35 : decode cX11_differ 35 = .ok (.iastore, 1) := by decide +kernel
theorem dX11_differ_36 : decode cX11_differ 36 = .ok (.aload_n 0, 1) := by decide +kernel
theorem dX11_differ_37 : decode cX11_differ 37 = .ok (.getfield 51, 3) := by decide +kernel
theorem dX11_differ_40 : decode cX11_differ 40 = .ok (.iload 5, 2) := by decide +kernel
theorem dX11_differ_42 : decode cX11_differ 42 = .ok (.iconst 3, 1) := by decide +kernel
theorem dX11_differ_43 : decode cX11_differ 43 = .ok (.iadd, 1) := by decide +kernel
theorem dX11_differ_44 : decode cX11_differ 44 = .ok (.iload 4, 2) := by decide +kernel
theorem dX11_differ_46 : decode cX11_differ 46 = .ok (.iastore, 1) := by decide +kernel
theorem dX11_differ_47 : decode cX11_differ 47 = .ok (.aload_n 0, 1) := by decide +kernel
theorem dX11_differ_48 : decode cX11_differ 48 = .ok (.dup, 1) := by decide +kernel
theorem dX11_differ_49 : decode cX11_differ 49 = .ok (.getfield 218, 3) := by decide +kernel
theorem dX11_differ_52 : decode cX11_differ 52 = .ok (.iconst 1, 1) := by decide +kernel
theorem dX11_differ_53 : decode cX11_differ 53 = .ok (.iadd, 1) := by decide +kernel
theorem dX11_differ_54 : decode cX11_differ 54 = .ok (.putfield 218, 3) := by decide +kernel
theorem dX11_differ_57 : decode cX11_differ 57 = .ok (.return_, 1) := by decide +kernel
theorem dX11_ofKind_0 : decode cX11_ofKind 0 = .ok (.iconst 0, 1) := by decide +kernel
theorem dX11_ofKind_1 : decode cX11_ofKind 1 = .ok (.istore_n 3, 1) := by decide +kernel
theorem dX11_ofKind_2 : decode cX11_ofKind 2 = .ok (.bipush 30, 2) := by decide +kernel
theorem dX11_ofKind_4 : decode cX11_ofKind 4 = .ok (.iload_n 1, 1) := by decide +kernel
theorem dX11_ofKind_5 : decode cX11_ofKind 5 = .ok (.imul, 1) := by decide +kernel
theorem dX11_ofKind_6 : decode cX11_ofKind 6 = .ok (.istore 4, 2) := by decide +kernel
theorem dX11_ofKind_8 : decode cX11_ofKind 8 = .ok (.iload 4, 2) := by decide +kernel
theorem dX11_ofKind_10 : decode cX11_ofKind 10 = .ok (.bipush 30, 2) := by decide +kernel
theorem dX11_ofKind_12 : decode cX11_ofKind 12 = .ok (.iload_n 1, 1) := by decide +kernel
theorem dX11_ofKind_13 : decode cX11_ofKind 13 = .ok (.imul, 1) := by decide +kernel
theorem dX11_ofKind_14 : decode cX11_ofKind 14 = .ok (.aload_n 0, 1) := by decide +kernel
theorem dX11_ofKind_15 : decode cX11_ofKind 15 = .ok (.getfield 30, 3) := by decide +kernel
theorem dX11_ofKind_18 : decode cX11_ofKind 18 = .ok (.iload_n 1, 1) := by decide +kernel
theorem dX11_ofKind_19 : decode cX11_ofKind 19 = .ok (.iaload, 1) := by decide +kernel
theorem dX11_ofKind_20 : decode cX11_ofKind 20 = .ok (.iadd, 1) := by decide +kernel
theorem dX11_ofKind_21 : decode cX11_ofKind 21 = .ok (.if_icmp .ge 38, 3) := by decide +kernel
theorem dX11_ofKind_24 : decode cX11_ofKind 24 = .ok (.iload_n 3, 1) := by decide +kernel
theorem dX11_ofKind_25 : decode cX11_ofKind 25 = .ok (.aload_n 0, 1) := by decide +kernel
theorem dX11_ofKind_26 : decode cX11_ofKind 26 = .ok (.getfield 23, 3) := by decide +kernel
theorem dX11_ofKind_29 : decode cX11_ofKind 29 = .ok (.iload 4, 2) := by decide +kernel
theorem dX11_ofKind_31 : decode cX11_ofKind 31 = .ok (.baload, 1) := by decide +kernel
theorem dX11_ofKind_32 : decode cX11_ofKind 32 = .ok (.ifCond .ne 18, 3) := by decide +kernel
theorem dX11_ofKind_35 : decode cX11_ofKind 35 = .ok (.aload_n 0, 1) := by decide +kernel
theorem dX11_ofKind_36 : decode cX11_ofKind 36 = .ok (.getfield 16, 3) := by decide +kernel
theorem dX11_ofKind_39 : decode cX11_ofKind 39 = .ok (.iload 4, 2) := by decide +kernel
theorem dX11_ofKind_41 : decode cX11_ofKind 41 = .ok (.iaload, 1) := by decide +kernel
theorem dX11_ofKind_42 : decode cX11_ofKind 42 = .ok (.iload_n 2, 1) := by decide +kernel
theorem dX11_ofKind_43 : decode cX11_ofKind 43 = .ok (.if_icmp .ne 7, 3) := by decide +kernel
theorem dX11_ofKind_46 : decode cX11_ofKind 46 = .ok (.iconst 1, 1) := by decide +kernel
theorem dX11_ofKind_47 : decode cX11_ofKind 47 = .ok (.goto 4, 3) := by decide +kernel
theorem dX11_ofKind_50 : decode cX11_ofKind 50 = .ok (.iconst 0, 1) := by decide +kernel
theorem dX11_ofKind_51 : decode cX11_ofKind 51 = .ok (.iadd, 1) := by decide +kernel
theorem dX11_ofKind_52 : decode cX11_ofKind 52 = .ok (.istore_n 3, 1) := by decide +kernel
theorem dX11_ofKind_53 : decode cX11_ofKind 53 = .ok (.iinc 4 1, 3) := by decide +kernel
theorem dX11_ofKind_56 : decode cX11_ofKind 56 = .ok (.goto (-48), 3) := by decide +kernel
theorem dX11_ofKind_59 : decode cX11_ofKind 59 = .ok (.iload_n 3, 1) := by decide +kernel
theorem dX11_ofKind_60 : decode cX11_ofKind 60 = .ok (.ireturn, 1) := by decide +kernel
theorem dX11_hasName_0 : decode cX11_hasName 0 = .ok (.iconst 0, 1) := by decide +kernel
theorem dX11_hasName_1 : decode cX11_hasName 1 = .ok (.istore_n 3, 1) := by decide +kernel
theorem dX11_hasName_2 : decode cX11_hasName 2 = .ok (.iconst 0, 1) := by decide +kernel
theorem dX11_hasName_3 : decode cX11_hasName 3 = .ok (.istore 4, 2) := by decide +kernel
theorem dX11_hasName_5 : decode cX11_hasName 5 = .ok (.iload 4, 2) := by decide +kernel
theorem dX11_hasName_7 : decode cX11_hasName 7 = .ok (.aload_n 0, 1) := by decide +kernel
theorem dX11_hasName_8 : decode cX11_hasName 8 = .ok (.getfield 13, 3) := by decide +kernel
theorem dX11_hasName_11 : decode cX11_hasName 11 = .ok (.iload_n 1, 1) := by decide +kernel
theorem dX11_hasName_12 : decode cX11_hasName 12 = .ok (.iaload, 1) := by decide +kernel
theorem dX11_hasName_13 : decode cX11_hasName 13 = .ok (.if_icmp .ge 35, 3) := by decide +kernel
theorem dX11_hasName_16 : decode cX11_hasName 16 = .ok (.iload_n 3, 1) := by decide +kernel
theorem dX11_hasName_17 : decode cX11_hasName 17 = .ok (.ifCond .ne 19, 3) := by decide +kernel
theorem dX11_hasName_20 : decode cX11_hasName 20 = .ok (.aload_n 0, 1) := by decide +kernel
theorem dX11_hasName_21 : decode cX11_hasName 21 = .ok (.getfield 7, 3) := by decide +kernel
theorem dX11_hasName_24 : decode cX11_hasName 24 = .ok (.bipush 40, 2) := by decide +kernel
theorem dX11_hasName_26 : decode cX11_hasName 26 = .ok (.iload_n 1, 1) := by decide +kernel
theorem dX11_hasName_27 : decode cX11_hasName 27 = .ok (.imul, 1) := by decide +kernel
theorem dX11_hasName_28 : decode cX11_hasName 28 = .ok (.iload 4, 2) := by decide +kernel
theorem dX11_hasName_30 : decode cX11_hasName 30 = .ok (.iadd, 1) := by decide +kernel
theorem dX11_hasName_31 : decode cX11_hasName 31 = .ok (.iaload, 1) := by decide +kernel
theorem dX11_hasName_32 : decode cX11_hasName 32 = .ok (.iload_n 2, 1) := by decide +kernel
theorem dX11_hasName_33 : decode cX11_hasName 33 = .ok (.if_icmp .ne 7, 3) := by decide +kernel
theorem dX11_hasName_36 : decode cX11_hasName 36 = .ok (.iconst 1, 1) := by decide +kernel
theorem dX11_hasName_37 : decode cX11_hasName 37 = .ok (.goto 4, 3) := by decide +kernel
theorem dX11_hasName_40 : decode cX11_hasName 40 = .ok (.iconst 0, 1) := by decide +kernel
theorem dX11_hasName_41 : decode cX11_hasName 41 = .ok (.istore_n 3, 1) := by decide +kernel
theorem dX11_hasName_42 : decode cX11_hasName 42 = .ok (.iinc 4 1, 3) := by decide +kernel
theorem dX11_hasName_45 : decode cX11_hasName 45 = .ok (.goto (-40), 3) := by decide +kernel
theorem dX11_hasName_48 : decode cX11_hasName 48 = .ok (.iload_n 3, 1) := by decide +kernel
theorem dX11_hasName_49 : decode cX11_hasName 49 = .ok (.ireturn, 1) := by decide +kernel
theorem dX11_differNames_0 : decode cX11_differNames 0 = .ok (.iconst (-1), 1) := by decide +kernel
theorem dX11_differNames_1 : decode cX11_differNames 1 = .ok (.istore_n 1, 1) := by decide +kernel
theorem dX11_differNames_2 : decode cX11_differNames 2 = .ok (.iconst 1, 1) := by decide +kernel
theorem dX11_differNames_3 : decode cX11_differNames 3 = .ok (.istore_n 2, 1) := by decide +kernel
theorem dX11_differNames_4 : decode cX11_differNames 4 = .ok (.iload_n 2, 1) := by decide +kernel
theorem dX11_differNames_5 : decode cX11_differNames 5 = .ok (.ifCond .eq 165, 3) := by decide +kernel
theorem dX11_differNames_8 : decode cX11_differNames 8 = .ok (.iconst (-1), 1) := by decide +kernel
theorem dX11_differNames_9 : decode cX11_differNames 9 = .ok (.istore_n 3, 1) := by decide +kernel
theorem dX11_differNames_10 : decode cX11_differNames 10 = .ok (.iconst 0, 1) := by decide +kernel
theorem dX11_differNames_11 : decode cX11_differNames 11 = .ok (.istore 4, 2) := by decide +kernel
theorem dX11_differNames_13 : decode cX11_differNames 13 = .ok (.iload 4, 2) := by decide +kernel
theorem dX11_differNames_15 : decode cX11_differNames 15 = .ok (.bipush 80, 2) := by decide +kernel
theorem dX11_differNames_17 : decode cX11_differNames 17 = .ok (.if_icmp .ge 99, 3) := by decide +kernel
theorem dX11_differNames_20 : decode cX11_differNames 20 = .ok (.iload 4, 2) := by decide +kernel
theorem dX11_differNames_22 : decode cX11_differNames 22 = .ok (.bipush 40, 2) := by decide +kernel
theorem dX11_differNames_24 : decode cX11_differNames 24 = .ok (.irem, 1) := by decide +kernel
theorem dX11_differNames_25 : decode cX11_differNames 25 = .ok (.aload_n 0, 1) := by decide +kernel
theorem dX11_differNames_26 : decode cX11_differNames 26 = .ok (.getfield 13, 3) := by decide +kernel
theorem dX11_differNames_29 : decode cX11_differNames 29 = .ok (.iload 4, 2) := by decide +kernel
theorem dX11_differNames_31 : decode cX11_differNames 31 = .ok (.bipush 40, 2) := by decide +kernel
theorem dX11_differNames_33 : decode cX11_differNames 33 = .ok (.idiv, 1) := by decide +kernel
theorem dX11_differNames_34 : decode cX11_differNames 34 = .ok (.iaload, 1) := by decide +kernel
theorem dX11_differNames_35 : decode cX11_differNames 35 = .ok (.if_icmp .ge 39, 3) := by decide +kernel
theorem dX11_differNames_38 : decode cX11_differNames 38 = .ok (.aload_n 0, 1) := by decide +kernel
theorem dX11_differNames_39 : decode cX11_differNames 39 = .ok (.getfield 7, 3) := by decide +kernel
theorem dX11_differNames_42 : decode cX11_differNames 42 = .ok (.iload 4, 2) := by decide +kernel
theorem dX11_differNames_44 : decode cX11_differNames 44 = .ok (.iaload, 1) := by decide +kernel
theorem dX11_differNames_45 : decode cX11_differNames 45 = .ok (.iload_n 1, 1) := by decide +kernel
theorem dX11_differNames_46 : decode cX11_differNames 46 = .ok (.if_icmp .le 28, 3) := by decide +kernel
theorem dX11_differNames_49 : decode cX11_differNames 49 = .ok (.aload_n 0, 1) := by decide +kernel
theorem dX11_differNames_50 : decode cX11_differNames 50 = .ok (.iconst 1, 1) := by decide +kernel
theorem dX11_differNames_51 : decode cX11_differNames 51 = .ok (.iload 4, 2) := by decide +kernel
theorem dX11_differNames_53 : decode cX11_differNames 53 = .ok (.bipush 40, 2) := by decide +kernel
theorem dX11_differNames_55 : decode cX11_differNames 55 = .ok (.idiv, 1) := by decide +kernel
theorem dX11_differNames_56 : decode cX11_differNames 56 = .ok (.isub, 1) := by decide +kernel
theorem dX11_differNames_57 : decode cX11_differNames 57 = .ok (.aload_n 0, 1) := by decide +kernel
theorem dX11_differNames_58 : decode cX11_differNames 58 = .ok (.getfield 7, 3) := by decide +kernel
theorem dX11_differNames_61 : decode cX11_differNames 61 = .ok (.iload 4, 2) := by decide +kernel
theorem dX11_differNames_63 : decode cX11_differNames 63 = .ok (.iaload, 1) := by decide +kernel
theorem dX11_differNames_64 : decode cX11_differNames 64 = .ok (.invokevirtual 191, 3) := by decide +kernel
theorem dX11_differNames_67 : decode cX11_differNames 67 = .ok (.ifCond .ne 7, 3) := by decide +kernel
theorem dX11_differNames_70 : decode cX11_differNames 70 = .ok (.iconst 1, 1) := by decide +kernel
theorem dX11_differNames_71 : decode cX11_differNames 71 = .ok (.goto 4, 3) := by decide +kernel
theorem dX11_differNames_74 : decode cX11_differNames 74 = .ok (.iconst 0, 1) := by decide +kernel
theorem dX11_differNames_75 : decode cX11_differNames 75 = .ok (.istore 5, 2) := by decide +kernel
theorem dX11_differNames_77 : decode cX11_differNames 77 = .ok (.iload 5, 2) := by decide +kernel
theorem dX11_differNames_79 : decode cX11_differNames 79 = .ok (.ifCond .eq 29, 3) := by decide +kernel
theorem dX11_differNames_82 : decode cX11_differNames 82 = .ok (.iload_n 3, 1) := by decide +kernel
theorem dX11_differNames_83 : decode cX11_differNames 83 = .ok (.iconst (-1), 1) := by decide +kernel
theorem dX11_differNames_84 : decode cX11_differNames 84 = .ok (.if_icmp .eq 14, 3) := by decide +kernel
theorem dX11_differNames_87 : decode cX11_differNames 87 = .ok (.aload_n 0, 1) := by decide +kernel
theorem dX11_differNames_88 : decode cX11_differNames 88 = .ok (.getfield 7, 3) := by decide +kernel
theorem dX11_differNames_91 : decode cX11_differNames 91 = .ok (.iload 4, 2) := by decide +kernel
theorem dX11_differNames_93 : decode cX11_differNames 93 = .ok (.iaload, 1) := by decide +kernel
theorem dX11_differNames_94 : decode cX11_differNames 94 = .ok (.iload_n 3, 1) := by decide +kernel
theorem dX11_differNames_95 : decode cX11_differNames 95 = .ok (.if_icmp .ge 13, 3) := by decide +kernel
theorem dX11_differNames_98 : decode cX11_differNames 98 = .ok (.aload_n 0, 1) := by decide +kernel
theorem dX11_differNames_99 : decode cX11_differNames 99 = .ok (.getfield 7, 3) := by decide +kernel
theorem dX11_differNames_102 : decode cX11_differNames 102 = .ok (.iload 4, 2) := by decide +kernel
theorem dX11_differNames_104 : decode cX11_differNames 104 = .ok (.iaload, 1) := by decide +kernel
theorem dX11_differNames_105 : decode cX11_differNames 105 = .ok (.goto 4, 3) := by decide +kernel
theorem dX11_differNames_108 : decode cX11_differNames 108 = .ok (.iload_n 3, 1) := by decide +kernel
theorem dX11_differNames_109 : decode cX11_differNames 109 = .ok (.istore_n 3, 1) := by decide +kernel
theorem dX11_differNames_110 : decode cX11_differNames 110 = .ok (.iinc 4 1, 3) := by decide +kernel
theorem dX11_differNames_113 : decode cX11_differNames 113 = .ok (.goto (-100), 3) := by decide +kernel
theorem dX11_differNames_116 : decode cX11_differNames 116 = .ok (.iload_n 3, 1) := by decide +kernel
theorem dX11_differNames_117 : decode cX11_differNames 117 = .ok (.iconst (-1), 1) := by decide +kernel
theorem dX11_differNames_118 : decode cX11_differNames 118 = .ok (.if_icmp .eq 7, 3) := by decide +kernel
theorem dX11_differNames_121 : decode cX11_differNames 121 = .ok (.iconst 1, 1) := by decide +kernel
theorem dX11_differNames_122 : decode cX11_differNames 122 = .ok (.goto 4, 3) := by decide +kernel
theorem dX11_differNames_125 : decode cX11_differNames 125 = .ok (.iconst 0, 1) := by decide +kernel
theorem dX11_differNames_126 : decode cX11_differNames 126 = .ok (.istore_n 2, 1) := by decide +kernel
theorem dX11_differNames_127 : decode cX11_differNames 127 = .ok (.iload_n 3, 1) := by decide +kernel
theorem dX11_differNames_128 : decode cX11_differNames 128 = .ok (.istore_n 1, 1) := by decide +kernel
theorem dX11_differNames_129 : decode cX11_differNames 129 = .ok (.iload_n 2, 1) := by decide +kernel
theorem dX11_differNames_130 : decode cX11_differNames 130 = .ok (.ifCond .eq 37, 3) := by decide +kernel
theorem dX11_differNames_133 : decode cX11_differNames 133 = .ok (.aload_n 0, 1) := by decide +kernel
theorem dX11_differNames_134 : decode cX11_differNames 134 = .ok (.iconst 3, 1) := by decide +kernel
theorem dX11_differNames_135 : decode cX11_differNames 135 = .ok (.iload_n 3, 1) := by decide +kernel
theorem dX11_differNames_136 : decode cX11_differNames 136 = .ok (.aload_n 0, 1) := by decide +kernel
theorem dX11_differNames_137 : decode cX11_differNames 137 = .ok (.iconst 0, 1) := by decide +kernel
theorem dX11_differNames_138 : decode cX11_differNames 138 = .ok (.iload_n 3, 1) := by decide +kernel
theorem dX11_differNames_139 : decode cX11_differNames 139 = .ok (.invokevirtual 191, 3) := by decide +kernel
theorem dX11_differNames_142 : decode cX11_differNames 142 = .ok (.ifCond .eq 7, 3) := by decide +kernel
theorem dX11_differNames_145 : decode cX11_differNames 145 = .ok (.iconst 1, 1) := by decide +kernel
theorem dX11_differNames_146 : decode cX11_differNames 146 = .ok (.goto 4, 3) := by decide +kernel
theorem dX11_differNames_149 : decode cX11_differNames 149 = .ok (.iconst 0, 1) := by decide +kernel
theorem dX11_differNames_150 : decode cX11_differNames 150 = .ok (.aload_n 0, 1) := by decide +kernel
theorem dX11_differNames_151 : decode cX11_differNames 151 = .ok (.iconst 1, 1) := by decide +kernel
theorem dX11_differNames_152 : decode cX11_differNames 152 = .ok (.iload_n 3, 1) := by decide +kernel
theorem dX11_differNames_153 : decode cX11_differNames 153 = .ok (.invokevirtual 191, 3) := by decide +kernel
theorem dX11_differNames_156 : decode cX11_differNames 156 = .ok (.ifCond .eq 7, 3) := by decide +kernel
theorem dX11_differNames_159 : decode cX11_differNames 159 = .ok (.iconst 1, 1) := by decide +kernel
theorem dX11_differNames_160 : decode cX11_differNames 160 = .ok (.goto 4, 3) := by decide +kernel
theorem dX11_differNames_163 : decode cX11_differNames 163 = .ok (.iconst 0, 1) := by decide +kernel
theorem dX11_differNames_164 : decode cX11_differNames 164 = .ok (.invokevirtual 221, 3) := by decide +kernel
theorem dX11_differNames_167 : decode cX11_differNames 167 = .ok (.goto (-163), 3) := by decide +kernel
theorem dX11_differNames_170 : decode cX11_differNames 170 = .ok (.return_, 1) := by decide +kernel
theorem dX11_ofClass_0 : decode cX11_ofClass 0 = .ok (.iconst 0, 1) := by decide +kernel
theorem dX11_ofClass_1 : decode cX11_ofClass 1 = .ok (.istore_n 3, 1) := by decide +kernel
theorem dX11_ofClass_2 : decode cX11_ofClass 2 = .ok (.bipush 30, 2) := by decide +kernel
theorem dX11_ofClass_4 : decode cX11_ofClass 4 = .ok (.iload_n 1, 1) := by decide +kernel
theorem dX11_ofClass_5 : decode cX11_ofClass 5 = .ok (.imul, 1) := by decide +kernel
theorem dX11_ofClass_6 : decode cX11_ofClass 6 = .ok (.istore 4, 2) := by decide +kernel
theorem dX11_ofClass_8 : decode cX11_ofClass 8 = .ok (.iload 4, 2) := by decide +kernel
theorem dX11_ofClass_10 : decode cX11_ofClass 10 = .ok (.bipush 30, 2) := by decide +kernel
theorem dX11_ofClass_12 : decode cX11_ofClass 12 = .ok (.iload_n 1, 1) := by decide +kernel
theorem dX11_ofClass_13 : decode cX11_ofClass 13 = .ok (.imul, 1) := by decide +kernel
theorem dX11_ofClass_14 : decode cX11_ofClass 14 = .ok (.aload_n 0, 1) := by decide +kernel
theorem dX11_ofClass_15 : decode cX11_ofClass 15 = .ok (.getfield 30, 3) := by decide +kernel
theorem dX11_ofClass_18 : decode cX11_ofClass 18 = .ok (.iload_n 1, 1) := by decide +kernel
theorem dX11_ofClass_19 : decode cX11_ofClass 19 = .ok (.iaload, 1) := by decide +kernel
theorem dX11_ofClass_20 : decode cX11_ofClass 20 = .ok (.iadd, 1) := by decide +kernel
theorem dX11_ofClass_21 : decode cX11_ofClass 21 = .ok (.if_icmp .ge 38, 3) := by decide +kernel
theorem dX11_ofClass_24 : decode cX11_ofClass 24 = .ok (.iload_n 3, 1) := by decide +kernel
theorem dX11_ofClass_25 : decode cX11_ofClass 25 = .ok (.aload_n 0, 1) := by decide +kernel
theorem dX11_ofClass_26 : decode cX11_ofClass 26 = .ok (.getfield 23, 3) := by decide +kernel
theorem dX11_ofClass_29 : decode cX11_ofClass 29 = .ok (.iload 4, 2) := by decide +kernel
theorem dX11_ofClass_31 : decode cX11_ofClass 31 = .ok (.baload, 1) := by decide +kernel
theorem dX11_ofClass_32 : decode cX11_ofClass 32 = .ok (.ifCond .ne 18, 3) := by decide +kernel
theorem dX11_ofClass_35 : decode cX11_ofClass 35 = .ok (.aload_n 0, 1) := by decide +kernel
theorem dX11_ofClass_36 : decode cX11_ofClass 36 = .ok (.getfield 39, 3) := by decide +kernel
theorem dX11_ofClass_39 : decode cX11_ofClass 39 = .ok (.iload 4, 2) := by decide +kernel
theorem dX11_ofClass_41 : decode cX11_ofClass 41 = .ok (.iaload, 1) := by decide +kernel
theorem dX11_ofClass_42 : decode cX11_ofClass 42 = .ok (.iload_n 2, 1) := by decide +kernel
theorem dX11_ofClass_43 : decode cX11_ofClass 43 = .ok (.if_icmp .ne 7, 3) := by decide +kernel
theorem dX11_ofClass_46 : decode cX11_ofClass 46 = .ok (.iconst 1, 1) := by decide +kernel
theorem dX11_ofClass_47 : decode cX11_ofClass 47 = .ok (.goto 4, 3) := by decide +kernel
theorem dX11_ofClass_50 : decode cX11_ofClass 50 = .ok (.iconst 0, 1) := by decide +kernel
theorem dX11_ofClass_51 : decode cX11_ofClass 51 = .ok (.iadd, 1) := by decide +kernel
theorem dX11_ofClass_52 : decode cX11_ofClass 52 = .ok (.istore_n 3, 1) := by decide +kernel
theorem dX11_ofClass_53 : decode cX11_ofClass 53 = .ok (.iinc 4 1, 3) := by decide +kernel
theorem dX11_ofClass_56 : decode cX11_ofClass 56 = .ok (.goto (-48), 3) := by decide +kernel
theorem dX11_ofClass_59 : decode cX11_ofClass 59 = .ok (.iload_n 3, 1) := by decide +kernel
theorem dX11_ofClass_60 : decode cX11_ofClass 60 = .ok (.ireturn, 1) := by decide +kernel
theorem dX11_explain_0 : decode cX11_explain 0 = .ok (.iconst 0, 1) := by decide +kernel
theorem dX11_explain_1 : decode cX11_explain 1 = .ok (.istore_n 1, 1) := by decide +kernel
theorem dX11_explain_2 : decode cX11_explain 2 = .ok (.iload_n 1, 1) := by decide +kernel
theorem dX11_explain_3 : decode cX11_explain 3 = .ok (.bipush 8, 2) := by decide +kernel
theorem dX11_explain_5 : decode cX11_explain 5 = .ok (.if_icmp .ge 42, 3) := by decide +kernel
theorem dX11_explain_8 : decode cX11_explain 8 = .ok (.aload_n 0, 1) := by decide +kernel
theorem dX11_explain_9 : decode cX11_explain 9 = .ok (.iconst 0, 1) := by decide +kernel
theorem dX11_explain_10 : decode cX11_explain 10 = .ok (.iload_n 1, 1) := by decide +kernel
theorem dX11_explain_11 : decode cX11_explain 11 = .ok (.invokevirtual 225, 3) := by decide +kernel
theorem dX11_explain_14 : decode cX11_explain 14 = .ok (.aload_n 0, 1) := by decide +kernel
theorem dX11_explain_15 : decode cX11_explain 15 = .ok (.iconst 1, 1) := by decide +kernel
theorem dX11_explain_16 : decode cX11_explain 16 = .ok (.iload_n 1, 1) := by decide +kernel
theorem dX11_explain_17 : decode cX11_explain 17 = .ok (.invokevirtual 225, 3) := by decide +kernel
theorem dX11_explain_20 : decode cX11_explain 20 = .ok (.if_icmp .eq 21, 3) := by decide +kernel
theorem dX11_explain_23 : decode cX11_explain 23 = .ok (.aload_n 0, 1) := by decide +kernel
theorem dX11_explain_24 : decode cX11_explain 24 = .ok (.iconst 1, 1) := by decide +kernel
theorem dX11_explain_25 : decode cX11_explain 25 = .ok (.iload_n 1, 1) := by decide +kernel
theorem dX11_explain_26 : decode cX11_explain 26 = .ok (.aload_n 0, 1) := by decide +kernel
theorem dX11_explain_27 : decode cX11_explain 27 = .ok (.iconst 0, 1) := by decide +kernel
theorem dX11_explain_28 : decode cX11_explain 28 = .ok (.iload_n 1, 1) := by decide +kernel
theorem dX11_explain_29 : decode cX11_explain 29 = .ok (.invokevirtual 225, 3) := by decide +kernel
theorem dX11_explain_32 : decode cX11_explain 32 = .ok (.aload_n 0, 1) := by decide +kernel
theorem dX11_explain_33 : decode cX11_explain 33 = .ok (.iconst 1, 1) := by decide +kernel
theorem dX11_explain_34 : decode cX11_explain 34 = .ok (.iload_n 1, 1) := by decide +kernel
theorem dX11_explain_35 : decode cX11_explain 35 = .ok (.invokevirtual 225, 3) := by decide +kernel
theorem dX11_explain_38 : decode cX11_explain 38 = .ok (.invokevirtual 221, 3) := by decide +kernel
theorem dX11_explain_41 : decode cX11_explain 41 = .ok (.iinc 1 1, 3) := by decide +kernel
theorem dX11_explain_44 : decode cX11_explain 44 = .ok (.goto (-42), 3) := by decide +kernel
theorem dX11_explain_47 : decode cX11_explain 47 = .ok (.aload_n 0, 1) := by decide +kernel
theorem dX11_explain_48 : decode cX11_explain 48 = .ok (.iconst 0, 1) := by decide +kernel
theorem dX11_explain_49 : decode cX11_explain 49 = .ok (.invokevirtual 197, 3) := by decide +kernel
theorem dX11_explain_52 : decode cX11_explain 52 = .ok (.aload_n 0, 1) := by decide +kernel
theorem dX11_explain_53 : decode cX11_explain 53 = .ok (.iconst 1, 1) := by decide +kernel
theorem dX11_explain_54 : decode cX11_explain 54 = .ok (.invokevirtual 197, 3) := by decide +kernel
theorem dX11_explain_57 : decode cX11_explain 57 = .ok (.if_icmp .eq 19, 3) := by decide +kernel
theorem dX11_explain_60 : decode cX11_explain 60 = .ok (.aload_n 0, 1) := by decide +kernel
theorem dX11_explain_61 : decode cX11_explain 61 = .ok (.iconst 2, 1) := by decide +kernel
theorem dX11_explain_62 : decode cX11_explain 62 = .ok (.iconst 0, 1) := by decide +kernel
theorem dX11_explain_63 : decode cX11_explain 63 = .ok (.aload_n 0, 1) := by decide +kernel
theorem dX11_explain_64 : decode cX11_explain 64 = .ok (.iconst 0, 1) := by decide +kernel
theorem dX11_explain_65 : decode cX11_explain 65 = .ok (.invokevirtual 197, 3) := by decide +kernel
theorem dX11_explain_68 : decode cX11_explain 68 = .ok (.aload_n 0, 1) := by decide +kernel
theorem dX11_explain_69 : decode cX11_explain 69 = .ok (.iconst 1, 1) := by decide +kernel
theorem dX11_explain_70 : decode cX11_explain 70 = .ok (.invokevirtual 197, 3) := by decide +kernel
theorem dX11_explain_73 : decode cX11_explain 73 = .ok (.invokevirtual 221, 3) := by decide +kernel
theorem dX11_explain_76 : decode cX11_explain 76 = .ok (.aload_n 0, 1) := by decide +kernel
theorem dX11_explain_77 : decode cX11_explain 77 = .ok (.invokevirtual 228, 3) := by decide +kernel
theorem dX11_explain_80 : decode cX11_explain 80 = .ok (.aload_n 0, 1) := by decide +kernel
theorem dX11_explain_81 : decode cX11_explain 81 = .ok (.getfield 218, 3) := by decide +kernel
theorem dX11_explain_84 : decode cX11_explain 84 = .ok (.ifCond .le 4, 3) := by decide +kernel
theorem dX11_explain_87 : decode cX11_explain 87 = .ok (.return_, 1) := by decide +kernel
theorem dX11_explain_88 : decode cX11_explain 88 = .ok (.iconst 0, 1) := by decide +kernel
theorem dX11_explain_89 : decode cX11_explain 89 = .ok (.istore_n 1, 1) := by decide +kernel
theorem dX11_explain_90 : decode cX11_explain 90 = .ok (.iload_n 1, 1) := by decide +kernel
theorem dX11_explain_91 : decode cX11_explain 91 = .ok (.bipush 60, 2) := by decide +kernel
theorem dX11_explain_93 : decode cX11_explain 93 = .ok (.if_icmp .ge 63, 3) := by decide +kernel
theorem dX11_explain_96 : decode cX11_explain 96 = .ok (.aload_n 0, 1) := by decide +kernel
theorem dX11_explain_97 : decode cX11_explain 97 = .ok (.iload_n 1, 1) := by decide +kernel
theorem dX11_explain_98 : decode cX11_explain 98 = .ok (.invokevirtual 143, 3) := by decide +kernel
theorem dX11_explain_101 : decode cX11_explain 101 = .ok (.ifCond .eq 49, 3) := by decide +kernel
theorem dX11_explain_104 : decode cX11_explain 104 = .ok (.aload_n 0, 1) := by decide +kernel
theorem dX11_explain_105 : decode cX11_explain 105 = .ok (.getfield 39, 3) := by decide +kernel
theorem dX11_explain_108 : decode cX11_explain 108 = .ok (.iload_n 1, 1) := by decide +kernel
theorem dX11_explain_109 : decode cX11_explain 109 = .ok (.iaload, 1) := by decide +kernel
theorem dX11_explain_110 : decode cX11_explain 110 = .ok (.iload_n 1, 1) := by decide +kernel
theorem dX11_explain_111 : decode cX11_explain 111 = .ok (.if_icmp .ne 39, 3) := by decide +kernel
theorem dX11_explain_114 : decode cX11_explain 114 = .ok (.aload_n 0, 1) := by decide +kernel
theorem dX11_explain_115 : decode cX11_explain 115 = .ok (.iconst 0, 1) := by decide +kernel
theorem dX11_explain_116 : decode cX11_explain 116 = .ok (.iload_n 1, 1) := by decide +kernel
theorem dX11_explain_117 : decode cX11_explain 117 = .ok (.invokevirtual 231, 3) := by decide +kernel
theorem dX11_explain_120 : decode cX11_explain 120 = .ok (.aload_n 0, 1) := by decide +kernel
theorem dX11_explain_121 : decode cX11_explain 121 = .ok (.iconst 1, 1) := by decide +kernel
theorem dX11_explain_122 : decode cX11_explain 122 = .ok (.iload_n 1, 1) := by decide +kernel
theorem dX11_explain_123 : decode cX11_explain 123 = .ok (.invokevirtual 231, 3) := by decide +kernel
theorem dX11_explain_126 : decode cX11_explain 126 = .ok (.if_icmp .eq 24, 3) := by decide +kernel
theorem dX11_explain_129 : decode cX11_explain 129 = .ok (.aload_n 0, 1) := by decide +kernel
theorem dX11_explain_130 : decode cX11_explain 130 = .ok (.iconst 4, 1) := by decide +kernel
theorem dX11_explain_131 : decode cX11_explain 131 = .ok (.iload_n 1, 1) := by decide +kernel
theorem dX11_explain_132 : decode cX11_explain 132 = .ok (.bipush 30, 2) := by decide +kernel
theorem dX11_explain_134 : decode cX11_explain 134 = .ok (.irem, 1) := by decide +kernel
theorem dX11_explain_135 : decode cX11_explain 135 = .ok (.aload_n 0, 1) := by decide +kernel
theorem dX11_explain_136 : decode cX11_explain 136 = .ok (.iconst 0, 1) := by decide +kernel
theorem dX11_explain_137 : decode cX11_explain 137 = .ok (.iload_n 1, 1) := by decide +kernel
theorem dX11_explain_138 : decode cX11_explain 138 = .ok (.invokevirtual 231, 3) := by decide +kernel
theorem dX11_explain_141 : decode cX11_explain 141 = .ok (.aload_n 0, 1) := by decide +kernel
theorem dX11_explain_142 : decode cX11_explain 142 = .ok (.iconst 1, 1) := by decide +kernel
theorem dX11_explain_143 : decode cX11_explain 143 = .ok (.iload_n 1, 1) := by decide +kernel
theorem dX11_explain_144 : decode cX11_explain 144 = .ok (.invokevirtual 231, 3) := by decide +kernel
theorem dX11_explain_147 : decode cX11_explain 147 = .ok (.invokevirtual 221, 3) := by decide +kernel
theorem dX11_explain_150 : decode cX11_explain 150 = .ok (.iinc 1 1, 3) := by decide +kernel
theorem dX11_explain_153 : decode cX11_explain 153 = .ok (.goto (-63), 3) := by decide +kernel
theorem dX11_explain_156 : decode cX11_explain 156 = .ok (.aload_n 0, 1) := by decide +kernel
theorem dX11_explain_157 : decode cX11_explain 157 = .ok (.getfield 218, 3) := by decide +kernel
theorem dX11_explain_160 : decode cX11_explain 160 = .ok (.ifCond .ne 11, 3) := by decide +kernel
theorem dX11_explain_163 : decode cX11_explain 163 = .ok (.aload_n 0, 1) := by decide +kernel
theorem dX11_explain_164 : decode cX11_explain 164 = .ok (.iconst 5, 1) := by decide +kernel
theorem dX11_explain_165 : decode cX11_explain 165 = .ok (.iconst 0, 1) := by decide +kernel
theorem dX11_explain_166 : decode cX11_explain 166 = .ok (.iconst 0, 1) := by decide +kernel
theorem dX11_explain_167 : decode cX11_explain 167 = .ok (.iconst 0, 1) := by decide +kernel
theorem dX11_explain_168 : decode cX11_explain 168 = .ok (.invokevirtual 221, 3) := by decide +kernel
theorem dX11_explain_171 : decode cX11_explain 171 = .ok (.return_, 1) := by decide +kernel
theorem dX11_run_0 : decode cX11_run 0 = .ok (.aload_n 0, 1) := by decide +kernel
theorem dX11_run_1 : decode cX11_run 1 = .ok (.lload_n 1, 1) := by decide +kernel
theorem dX11_run_2 : decode cX11_run 2 = .ok (.lconst 0, 1) := by decide +kernel
theorem dX11_run_3 : decode cX11_run 3 = .ok (.lcmp, 1) := by decide +kernel
theorem dX11_run_4 : decode cX11_run 4 = .ok (.ifCond .lt 11, 3) := by decide +kernel
theorem dX11_run_7 : decode cX11_run 7 = .ok (.lload_n 1, 1) := by decide +kernel
theorem dX11_run_8 : decode cX11_run 8 = .ok (.ldc2_w 234, 3) := by decide +kernel
theorem dX11_run_11 : decode cX11_run 11 = .ok (.lcmp, 1) := by decide +kernel
theorem dX11_run_12 : decode cX11_run 12 = .ok (.ifCond .le 7, 3) := by decide +kernel
theorem dX11_run_15 : decode cX11_run 15 = .ok (.iconst 1, 1) := by decide +kernel
theorem dX11_run_16 : decode cX11_run 16 = .ok (.goto 4, 3) := by decide +kernel
theorem dX11_run_19 : decode cX11_run 19 = .ok (.iconst 0, 1) := by decide +kernel
theorem dX11_run_20 : decode cX11_run 20 = .ok (.putfield 84, 3) := by decide +kernel
theorem dX11_run_23 : decode cX11_run 23 = .ok (.aload_n 0, 1) := by decide +kernel
theorem dX11_run_24 : decode cX11_run 24 = .ok (.getfield 84, 3) := by decide +kernel
theorem dX11_run_27 : decode cX11_run 27 = .ok (.ifCond .le 5, 3) := by decide +kernel
theorem dX11_run_30 : decode cX11_run 30 = .ok (.iconst 0, 1) := by decide +kernel
theorem dX11_run_31 : decode cX11_run 31 = .ok (.ireturn, 1) := by decide +kernel
theorem dX11_run_32 : decode cX11_run 32 = .ok (.aload_n 0, 1) := by decide +kernel
theorem dX11_run_33 : decode cX11_run 33 = .ok (.iconst 0, 1) := by decide +kernel
theorem dX11_run_34 : decode cX11_run 34 = .ok (.putfield 214, 3) := by decide +kernel
theorem dX11_run_37 : decode cX11_run 37 = .ok (.aload_n 0, 1) := by decide +kernel
theorem dX11_run_38 : decode cX11_run 38 = .ok (.iconst 0, 1) := by decide +kernel
theorem dX11_run_39 : decode cX11_run 39 = .ok (.putfield 218, 3) := by decide +kernel
theorem dX11_run_42 : decode cX11_run 42 = .ok (.aload_n 0, 1) := by decide +kernel
theorem dX11_run_43 : decode cX11_run 43 = .ok (.getfield 162, 3) := by decide +kernel
theorem dX11_run_46 : decode cX11_run 46 = .ok (.istore_n 3, 1) := by decide +kernel
theorem dX11_run_47 : decode cX11_run 47 = .ok (.aload_n 0, 1) := by decide +kernel
theorem dX11_run_48 : decode cX11_run 48 = .ok (.getfield 168, 3) := by decide +kernel
theorem dX11_run_51 : decode cX11_run 51 = .ok (.istore 4, 2) := by decide +kernel
theorem dX11_run_53 : decode cX11_run 53 = .ok (.aload_n 0, 1) := by decide +kernel
theorem dX11_run_54 : decode cX11_run 54 = .ok (.lload_n 1, 1) := by decide +kernel
theorem dX11_run_55 : decode cX11_run 55 = .ok (.putfield 181, 3) := by decide +kernel
theorem dX11_run_58 : decode cX11_run 58 = .ok (.aload_n 0, 1) := by decide +kernel
theorem dX11_run_59 : decode cX11_run 59 = .ok (.lconst 0, 1) := by decide +kernel
theorem dX11_run_60 : decode cX11_run 60 = .ok (.putfield 177, 3) := by decide +kernel
theorem dX11_run_63 : decode cX11_run 63 = .ok (.aload_n 0, 1) := by decide +kernel
theorem dX11_run_64 : decode cX11_run 64 = .ok (.invokevirtual 236, 3) := by decide +kernel
theorem dX11_run_67 : decode cX11_run 67 = .ok (.aload_n 0, 1) := by decide +kernel
theorem dX11_run_68 : decode cX11_run 68 = .ok (.invokevirtual 239, 3) := by decide +kernel
theorem dX11_run_71 : decode cX11_run 71 = .ok (.istore 5, 2) := by decide +kernel
theorem dX11_run_73 : decode cX11_run 73 = .ok (.aload_n 0, 1) := by decide +kernel
theorem dX11_run_74 : decode cX11_run 74 = .ok (.getfield 177, 3) := by decide +kernel
theorem dX11_run_77 : decode cX11_run 77 = .ok (.aload_n 0, 1) := by decide +kernel
theorem dX11_run_78 : decode cX11_run 78 = .ok (.getfield 181, 3) := by decide +kernel
theorem dX11_run_81 : decode cX11_run 81 = .ok (.lcmp, 1) := by decide +kernel
theorem dX11_run_82 : decode cX11_run 82 = .ok (.ifCond .le 16, 3) := by decide +kernel
theorem dX11_run_85 : decode cX11_run 85 = .ok (.aload_n 0, 1) := by decide +kernel
theorem dX11_run_86 : decode cX11_run 86 = .ok (.iload_n 3, 1) := by decide +kernel
theorem dX11_run_87 : decode cX11_run 87 = .ok (.putfield 162, 3) := by decide +kernel
theorem dX11_run_90 : decode cX11_run 90 = .ok (.aload_n 0, 1) := by decide +kernel
theorem dX11_run_91 : decode cX11_run 91 = .ok (.iload 4, 2) := by decide +kernel
theorem dX11_run_93 : decode cX11_run 93 = .ok (.putfield 168, 3) := by decide +kernel
theorem dX11_run_96 : decode cX11_run 96 = .ok (.iconst 2, 1) := by decide +kernel
theorem dX11_run_97 : decode cX11_run 97 = .ok (.ireturn, 1) := by decide +kernel
theorem dX11_run_98 : decode cX11_run 98 = .ok (.iload 5, 2) := by decide +kernel
theorem dX11_run_100 : decode cX11_run 100 = .ok (.ifCond .eq 9, 3) := by decide +kernel
theorem dX11_run_103 : decode cX11_run 103 = .ok (.aload_n 0, 1) := by decide +kernel
theorem dX11_run_104 : decode cX11_run 104 = .ok (.invokevirtual 242, 3) := by decide +kernel
theorem dX11_run_107 : decode cX11_run 107 = .ok (.iconst 1, 1) := by decide +kernel
theorem dX11_run_108 : decode cX11_run 108 = .ok (.ireturn, 1) := by decide +kernel
theorem dX11_run_109 : decode cX11_run 109 = .ok (.aload_n 0, 1) := by decide +kernel
theorem dX11_run_110 : decode cX11_run 110 = .ok (.invokevirtual 245, 3) := by decide +kernel
theorem dX11_run_113 : decode cX11_run 113 = .ok (.iconst 0, 1) := by decide +kernel
theorem dX11_run_114 : decode cX11_run 114 = .ok (.ireturn, 1) := by decide +kernel
theorem dX11_match_0 : decode cX11_match 0 = .ok (.aload_n 0, 1) := by decide +kernel
theorem dX11_match_1 : decode cX11_match 1 = .ok (.aload_n 0, 1) := by decide +kernel
theorem dX11_match_2 : decode cX11_match 2 = .ok (.iload_n 1, 1) := by decide +kernel
theorem dX11_match_3 : decode cX11_match 3 = .ok (.iload_n 2, 1) := by decide +kernel
theorem dX11_match_4 : decode cX11_match 4 = .ok (.invokevirtual 97, 3) := by decide +kernel
theorem dX11_match_7 : decode cX11_match 7 = .ok (.ifCond .eq 7, 3) := by decide +kernel
theorem dX11_match_10 : decode cX11_match 10 = .ok (.iconst 0, 1) := by decide +kernel
theorem dX11_match_11 : decode cX11_match 11 = .ok (.goto 4, 3) := by decide +kernel
theorem dX11_match_14 : decode cX11_match 14 = .ok (.iconst 1, 1) := by decide +kernel
theorem dX11_match_15 : decode cX11_match 15 = .ok (.putfield 84, 3) := by decide +kernel
theorem dX11_match_18 : decode cX11_match 18 = .ok (.aload_n 0, 1) := by decide +kernel
theorem dX11_match_19 : decode cX11_match 19 = .ok (.getfield 84, 3) := by decide +kernel
theorem dX11_match_22 : decode cX11_match 22 = .ok (.ifCond .gt 24, 3) := by decide +kernel
theorem dX11_match_25 : decode cX11_match 25 = .ok (.aload_n 0, 1) := by decide +kernel
theorem dX11_match_26 : decode cX11_match 26 = .ok (.getfield 214, 3) := by decide +kernel
theorem dX11_match_29 : decode cX11_match 29 = .ok (.ifCond .eq 17, 3) := by decide +kernel
theorem dX11_match_32 : decode cX11_match 32 = .ok (.aload_n 0, 1) := by decide +kernel
theorem dX11_match_33 : decode cX11_match 33 = .ok (.getfield 23, 3) := by decide +kernel
theorem dX11_match_36 : decode cX11_match 36 = .ok (.bipush 30, 2) := by decide +kernel
theorem dX11_match_38 : decode cX11_match 38 = .ok (.iload_n 1, 1) := by decide +kernel
theorem dX11_match_39 : decode cX11_match 39 = .ok (.imul, 1) := by decide +kernel
theorem dX11_match_40 : decode cX11_match 40 = .ok (.iload_n 2, 1) := by decide +kernel
theorem dX11_match_41 : decode cX11_match 41 = .ok (.iadd, 1) := by decide +kernel
theorem dX11_match_42 : decode cX11_match 42 = .ok (.baload, 1) := by decide +kernel
theorem dX11_match_43 : decode cX11_match 43 = .ok (.ifCond .eq 18, 3) := by decide +kernel
theorem dX11_match_46 : decode cX11_match 46 = .ok (.aload_n 0, 1) := by decide +kernel
theorem dX11_match_47 : decode cX11_match 47 = .ok (.getfield 84, 3) := by decide +kernel
theorem dX11_match_50 : decode cX11_match 50 = .ok (.ifCond .le 7, 3) := by decide +kernel
theorem dX11_match_53 : decode cX11_match 53 = .ok (.iconst 0, 1) := by decide +kernel
theorem dX11_match_54 : decode cX11_match 54 = .ok (.goto 18, 3) := by decide +kernel
theorem dX11_match_57 : decode cX11_match 57 = .ok (.iconst (-1), 1) := by decide +kernel
theorem dX11_match_58 : decode cX11_match 58 = .ok (.goto 14, 3) := by decide +kernel
theorem dX11_match_61 : decode cX11_match 61 = .ok (.aload_n 0, 1) := by decide +kernel
theorem dX11_match_62 : decode cX11_match 62 = .ok (.getfield 54, 3) := by decide +kernel
theorem dX11_match_65 : decode cX11_match 65 = .ok (.bipush 30, 2) := by decide +kernel
theorem dX11_match_67 : decode cX11_match 67 = .ok (.iload_n 1, 1) := by decide +kernel
theorem dX11_match_68 : decode cX11_match 68 = .ok (.imul, 1) := by decide +kernel
theorem dX11_match_69 : decode cX11_match 69 = .ok (.iload_n 2, 1) := by decide +kernel
theorem dX11_match_70 : decode cX11_match 70 = .ok (.iadd, 1) := by decide +kernel
theorem dX11_match_71 : decode cX11_match 71 = .ok (.iaload, 1) := by decide +kernel
theorem dX11_match_72 : decode cX11_match 72 = .ok (.ireturn, 1) := by decide +kernel
theorem dX11_netMatch_0 : decode cX11_netMatch 0 = .ok (.aload_n 0, 1) := by decide +kernel
theorem dX11_netMatch_1 : decode cX11_netMatch 1 = .ok (.aload_n 0, 1) := by decide +kernel
theorem dX11_netMatch_2 : decode cX11_netMatch 2 = .ok (.iconst 0, 1) := by decide +kernel
theorem dX11_netMatch_3 : decode cX11_netMatch 3 = .ok (.iload_n 1, 1) := by decide +kernel
theorem dX11_netMatch_4 : decode cX11_netMatch 4 = .ok (.invokevirtual 104, 3) := by decide +kernel
theorem dX11_netMatch_7 : decode cX11_netMatch 7 = .ok (.ifCond .eq 7, 3) := by decide +kernel
theorem dX11_netMatch_10 : decode cX11_netMatch 10 = .ok (.iconst 0, 1) := by decide +kernel
theorem dX11_netMatch_11 : decode cX11_netMatch 11 = .ok (.goto 4, 3) := by decide +kernel
theorem dX11_netMatch_14 : decode cX11_netMatch 14 = .ok (.iconst 1, 1) := by decide +kernel
theorem dX11_netMatch_15 : decode cX11_netMatch 15 = .ok (.putfield 84, 3) := by decide +kernel
theorem dX11_netMatch_18 : decode cX11_netMatch 18 = .ok (.aload_n 0, 1) := by decide +kernel
theorem dX11_netMatch_19 : decode cX11_netMatch 19 = .ok (.getfield 84, 3) := by decide +kernel
theorem dX11_netMatch_22 : decode cX11_netMatch 22 = .ok (.ifCond .le 7, 3) := by decide +kernel
theorem dX11_netMatch_25 : decode cX11_netMatch 25 = .ok (.iconst 0, 1) := by decide +kernel
theorem dX11_netMatch_26 : decode cX11_netMatch 26 = .ok (.goto 20, 3) := by decide +kernel
theorem dX11_netMatch_29 : decode cX11_netMatch 29 = .ok (.aload_n 0, 1) := by decide +kernel
theorem dX11_netMatch_30 : decode cX11_netMatch 30 = .ok (.getfield 214, 3) := by decide +kernel
theorem dX11_netMatch_33 : decode cX11_netMatch 33 = .ok (.ifCond .eq 12, 3) := by decide +kernel
theorem dX11_netMatch_36 : decode cX11_netMatch 36 = .ok (.aload_n 0, 1) := by decide +kernel
theorem dX11_netMatch_37 : decode cX11_netMatch 37 = .ok (.getfield 57, 3) := by decide +kernel
theorem dX11_netMatch_40 : decode cX11_netMatch 40 = .ok (.iload_n 1, 1) := by decide +kernel
theorem dX11_netMatch_41 : decode cX11_netMatch 41 = .ok (.iaload, 1) := by decide +kernel
theorem dX11_netMatch_42 : decode cX11_netMatch 42 = .ok (.goto 4, 3) := by decide +kernel
theorem dX11_netMatch_45 : decode cX11_netMatch 45 = .ok (.iconst (-1), 1) := by decide +kernel
theorem dX11_netMatch_46 : decode cX11_netMatch 46 = .ok (.ireturn, 1) := by decide +kernel
theorem dX11_differs_0 : decode cX11_differs 0 = .ok (.aload_n 0, 1) := by decide +kernel
theorem dX11_differs_1 : decode cX11_differs 1 = .ok (.iload_n 1, 1) := by decide +kernel
theorem dX11_differs_2 : decode cX11_differs 2 = .ok (.ifCond .lt 20, 3) := by decide +kernel
theorem dX11_differs_5 : decode cX11_differs 5 = .ok (.iload_n 1, 1) := by decide +kernel
theorem dX11_differs_6 : decode cX11_differs 6 = .ok (.aload_n 0, 1) := by decide +kernel
theorem dX11_differs_7 : decode cX11_differs 7 = .ok (.getfield 218, 3) := by decide +kernel
theorem dX11_differs_10 : decode cX11_differs 10 = .ok (.if_icmp .ge 12, 3) := by decide +kernel
theorem dX11_differs_13 : decode cX11_differs 13 = .ok (.iload_n 2, 1) := by decide +kernel
theorem dX11_differs_14 : decode cX11_differs 14 = .ok (.ifCond .lt 8, 3) := by decide +kernel
theorem dX11_differs_17 : decode cX11_differs 17 = .ok (.iload_n 2, 1) := by decide +kernel
theorem dX11_differs_18 : decode cX11_differs 18 = .ok (.iconst 3, 1) := by decide +kernel
theorem dX11_differs_19 : decode cX11_differs 19 = .ok (.if_icmp .le 7, 3) := by decide +kernel
theorem dX11_differs_22 : decode cX11_differs 22 = .ok (.iconst 1, 1) := by decide +kernel
theorem dX11_differs_23 : decode cX11_differs 23 = .ok (.goto 4, 3) := by decide +kernel
theorem dX11_differs_26 : decode cX11_differs 26 = .ok (.iconst 0, 1) := by decide +kernel
theorem dX11_differs_27 : decode cX11_differs 27 = .ok (.putfield 84, 3) := by decide +kernel
theorem dX11_differs_30 : decode cX11_differs 30 = .ok (.aload_n 0, 1) := by decide +kernel
theorem dX11_differs_31 : decode cX11_differs 31 = .ok (.getfield 84, 3) := by decide +kernel
theorem dX11_differs_34 : decode cX11_differs 34 = .ok (.ifCond .le 7, 3) := by decide +kernel
theorem dX11_differs_37 : decode cX11_differs 37 = .ok (.iconst 0, 1) := by decide +kernel
theorem dX11_differs_38 : decode cX11_differs 38 = .ok (.goto 13, 3) := by decide +kernel
theorem dX11_differs_41 : decode cX11_differs 41 = .ok (.aload_n 0, 1) := by decide +kernel
theorem dX11_differs_42 : decode cX11_differs 42 = .ok (.getfield 51, 3) := by decide +kernel
theorem dX11_differs_45 : decode cX11_differs 45 = .ok (.iconst 4, 1) := by decide +kernel
theorem dX11_differs_46 : decode cX11_differs 46 = .ok (.iload_n 1, 1) := by decide +kernel
theorem dX11_differs_47 : decode cX11_differs 47 = .ok (.imul, 1) := by decide +kernel
theorem dX11_differs_48 : decode cX11_differs 48 = .ok (.iload_n 2, 1) := by decide +kernel
theorem dX11_differs_49 : decode cX11_differs 49 = .ok (.iadd, 1) := by decide +kernel
theorem dX11_differs_50 : decode cX11_differs 50 = .ok (.iaload, 1) := by decide +kernel
theorem dX11_differs_51 : decode cX11_differs 51 = .ok (.ireturn, 1) := by decide +kernel
theorem dX11_rounds_0 : decode cX11_rounds 0 = .ok (.aload_n 0, 1) := by decide +kernel
theorem dX11_rounds_1 : decode cX11_rounds 1 = .ok (.iconst 0, 1) := by decide +kernel
theorem dX11_rounds_2 : decode cX11_rounds 2 = .ok (.putfield 84, 3) := by decide +kernel
theorem dX11_rounds_5 : decode cX11_rounds 5 = .ok (.aload_n 0, 1) := by decide +kernel
theorem dX11_rounds_6 : decode cX11_rounds 6 = .ok (.getfield 162, 3) := by decide +kernel
theorem dX11_rounds_9 : decode cX11_rounds 9 = .ok (.ireturn, 1) := by decide +kernel
theorem dX11_tried_0 : decode cX11_tried 0 = .ok (.aload_n 0, 1) := by decide +kernel
theorem dX11_tried_1 : decode cX11_tried 1 = .ok (.iconst 0, 1) := by decide +kernel
theorem dX11_tried_2 : decode cX11_tried 2 = .ok (.putfield 84, 3) := by decide +kernel
theorem dX11_tried_5 : decode cX11_tried 5 = .ok (.aload_n 0, 1) := by decide +kernel
theorem dX11_tried_6 : decode cX11_tried 6 = .ok (.getfield 168, 3) := by decide +kernel
theorem dX11_tried_9 : decode cX11_tried 9 = .ok (.ireturn, 1) := by decide +kernel
theorem dX11_tested_0 : decode cX11_tested 0 = .ok (.aload_n 0, 1) := by decide +kernel
theorem dX11_tested_1 : decode cX11_tested 1 = .ok (.iconst 0, 1) := by decide +kernel
theorem dX11_tested_2 : decode cX11_tested 2 = .ok (.putfield 84, 3) := by decide +kernel
theorem dX11_tested_5 : decode cX11_tested 5 = .ok (.aload_n 0, 1) := by decide +kernel
theorem dX11_tested_6 : decode cX11_tested 6 = .ok (.getfield 214, 3) := by decide +kernel
theorem dX11_tested_9 : decode cX11_tested 9 = .ok (.ifCond .ne 5, 3) := by decide +kernel
theorem dX11_tested_12 : decode cX11_tested 12 = .ok (.iconst 0, 1) := by decide +kernel
theorem dX11_tested_13 : decode cX11_tested 13 = .ok (.ireturn, 1) := by decide +kernel
theorem dX11_tested_14 : decode cX11_tested 14 = .ok (.aload_n 0, 1) := by decide +kernel
theorem dX11_tested_15 : decode cX11_tested 15 = .ok (.iconst 0, 1) := by decide +kernel
theorem dX11_tested_16 : decode cX11_tested 16 = .ok (.putfield 194, 3) := by decide +kernel
theorem dX11_tested_19 : decode cX11_tested 19 = .ok (.iconst 0, 1) := by decide +kernel
theorem dX11_tested_20 : decode cX11_tested 20 = .ok (.istore_n 1, 1) := by decide +kernel
theorem dX11_tested_21 : decode cX11_tested 21 = .ok (.iload_n 1, 1) := by decide +kernel
theorem dX11_tested_22 : decode cX11_tested 22 = .ok (.aload_n 0, 1) := by decide +kernel
theorem dX11_tested_23 : decode cX11_tested 23 = .ok (.getfield 30, 3) := by decide +kernel
theorem dX11_tested_26 : decode cX11_tested 26 = .ok (.iconst 0, 1) := by decide +kernel
theorem dX11_tested_27 : decode cX11_tested 27 = .ok (.iaload, 1) := by decide +kernel
theorem dX11_tested_28 : decode cX11_tested 28 = .ok (.if_icmp .ge 113, 3) := by decide +kernel
theorem dX11_tested_31 : decode cX11_tested 31 = .ok (.aload_n 0, 1) := by decide +kernel
theorem dX11_tested_32 : decode cX11_tested 32 = .ok (.getfield 54, 3) := by decide +kernel
theorem dX11_tested_35 : decode cX11_tested 35 = .ok (.iload_n 1, 1) := by decide +kernel
theorem dX11_tested_36 : decode cX11_tested 36 = .ok (.iaload, 1) := by decide +kernel
theorem dX11_tested_37 : decode cX11_tested 37 = .ok (.istore_n 2, 1) := by decide +kernel
theorem dX11_tested_38 : decode cX11_tested 38 = .ok (.aload_n 0, 1) := by decide +kernel
theorem dX11_tested_39 : decode cX11_tested 39 = .ok (.getfield 23, 3) := by decide +kernel
theorem dX11_tested_42 : decode cX11_tested 42 = .ok (.iload_n 1, 1) := by decide +kernel
theorem dX11_tested_43 : decode cX11_tested 43 = .ok (.baload, 1) := by decide +kernel
theorem dX11_tested_44 : decode cX11_tested 44 = .ok (.ifCond .ne 52, 3) := by decide +kernel
theorem dX11_tested_47 : decode cX11_tested 47 = .ok (.iload_n 2, 1) := by decide +kernel
theorem dX11_tested_48 : decode cX11_tested 48 = .ok (.iconst (-1), 1) := by decide +kernel
theorem dX11_tested_49 : decode cX11_tested 49 = .ok (.if_icmp .eq 45, 3) := by decide +kernel
theorem dX11_tested_52 : decode cX11_tested 52 = .ok (.aload_n 0, 1) := by decide +kernel
theorem dX11_tested_53 : decode cX11_tested 53 = .ok (.getfield 23, 3) := by decide +kernel
theorem dX11_tested_56 : decode cX11_tested 56 = .ok (.bipush 30, 2) := by decide +kernel
theorem dX11_tested_58 : decode cX11_tested 58 = .ok (.iload_n 2, 1) := by decide +kernel
theorem dX11_tested_59 : decode cX11_tested 59 = .ok (.iadd, 1) := by decide +kernel
theorem dX11_tested_60 : decode cX11_tested 60 = .ok (.baload, 1) := by decide +kernel
theorem dX11_tested_61 : decode cX11_tested 61 = .ok (.ifCond .ne 33, 3) := by decide +kernel
theorem dX11_tested_64 : decode cX11_tested 64 = .ok (.aload_n 0, 1) := by decide +kernel
theorem dX11_tested_65 : decode cX11_tested 65 = .ok (.getfield 16, 3) := by decide +kernel
theorem dX11_tested_68 : decode cX11_tested 68 = .ok (.iload_n 1, 1) := by decide +kernel
theorem dX11_tested_69 : decode cX11_tested 69 = .ok (.iaload, 1) := by decide +kernel
theorem dX11_tested_70 : decode cX11_tested 70 = .ok (.aload_n 0, 1) := by decide +kernel
theorem dX11_tested_71 : decode cX11_tested 71 = .ok (.getfield 16, 3) := by decide +kernel
theorem dX11_tested_74 : decode cX11_tested 74 = .ok (.bipush 30, 2) := by decide +kernel
theorem dX11_tested_76 : decode cX11_tested 76 = .ok (.iload_n 2, 1) := by decide +kernel
theorem dX11_tested_77 : decode cX11_tested 77 = .ok (.iadd, 1) := by decide +kernel
theorem dX11_tested_78 : decode cX11_tested 78 = .ok (.iaload, 1) := by decide +kernel
theorem dX11_tested_79 : decode cX11_tested 79 = .ok (.if_icmp .ne 15, 3) := by decide +kernel
theorem dX11_tested_82 : decode cX11_tested 82 = .ok (.aload_n 0, 1) := by decide +kernel
theorem dX11_tested_83 : decode cX11_tested 83 = .ok (.iload_n 1, 1) := by decide +kernel
theorem dX11_tested_84 : decode cX11_tested 84 = .ok (.bipush 30, 2) := by decide +kernel
theorem dX11_tested_86 : decode cX11_tested 86 = .ok (.iload_n 2, 1) := by decide +kernel
theorem dX11_tested_87 : decode cX11_tested 87 = .ok (.iadd, 1) := by decide +kernel
theorem dX11_tested_88 : decode cX11_tested 88 = .ok (.invokevirtual 184, 3) := by decide +kernel
theorem dX11_tested_91 : decode cX11_tested 91 = .ok (.ifCond .ne 5, 3) := by decide +kernel
theorem dX11_tested_94 : decode cX11_tested 94 = .ok (.iconst 0, 1) := by decide +kernel
theorem dX11_tested_95 : decode cX11_tested 95 = .ok (.ireturn, 1) := by decide +kernel
theorem dX11_tested_96 : decode cX11_tested 96 = .ok (.aload_n 0, 1) := by decide +kernel
theorem dX11_tested_97 : decode cX11_tested 97 = .ok (.getfield 23, 3) := by decide +kernel
theorem dX11_tested_100 : decode cX11_tested 100 = .ok (.iload_n 1, 1) := by decide +kernel
theorem dX11_tested_101 : decode cX11_tested 101 = .ok (.baload, 1) := by decide +kernel
theorem dX11_tested_102 : decode cX11_tested 102 = .ok (.ifCond .ne 33, 3) := by decide +kernel
theorem dX11_tested_105 : decode cX11_tested 105 = .ok (.aload_n 0, 1) := by decide +kernel
theorem dX11_tested_106 : decode cX11_tested 106 = .ok (.getfield 60, 3) := by decide +kernel
theorem dX11_tested_109 : decode cX11_tested 109 = .ok (.aload_n 0, 1) := by decide +kernel
theorem dX11_tested_110 : decode cX11_tested 110 = .ok (.getfield 194, 3) := by decide +kernel
theorem dX11_tested_113 : decode cX11_tested 113 = .ok (.iload_n 1, 1) := by decide +kernel
theorem dX11_tested_114 : decode cX11_tested 114 = .ok (.iastore, 1) := by decide +kernel
theorem dX11_tested_115 : decode cX11_tested 115 = .ok (.aload_n 0, 1) := by decide +kernel
theorem dX11_tested_116 : decode cX11_tested 116 = .ok (.getfield 63, 3) := by decide +kernel
theorem dX11_tested_119 : decode cX11_tested 119 = .ok (.aload_n 0, 1) := by decide +kernel
theorem dX11_tested_120 : decode cX11_tested 120 = .ok (.getfield 194, 3) := by decide +kernel
theorem dX11_tested_123 : decode cX11_tested 123 = .ok (.iload_n 2, 1) := by decide +kernel
theorem dX11_tested_124 : decode cX11_tested 124 = .ok (.iastore, 1) := by decide +kernel
theorem dX11_tested_125 : decode cX11_tested 125 = .ok (.aload_n 0, 1) := by decide +kernel
theorem dX11_tested_126 : decode cX11_tested 126 = .ok (.dup, 1) := by decide +kernel
theorem dX11_tested_127 : decode cX11_tested 127 = .ok (.getfield 194, 3) := by decide +kernel
theorem dX11_tested_130 : decode cX11_tested 130 = .ok (.iconst 1, 1) := by decide +kernel
theorem dX11_tested_131 : decode cX11_tested 131 = .ok (.iadd, 1) := by decide +kernel
theorem dX11_tested_132 : decode cX11_tested 132 = .ok (.putfield 194, 3) := by decide +kernel
theorem dX11_tested_135 : decode cX11_tested 135 = .ok (.iinc 1 1, 3) := by decide +kernel
theorem dX11_tested_138 : decode cX11_tested 138 = .ok (.goto (-117), 3) := by decide +kernel
theorem dX11_tested_141 : decode cX11_tested 141 = .ok (.aload_n 0, 1) := by decide +kernel
theorem dX11_tested_142 : decode cX11_tested 142 = .ok (.getfield 194, 3) := by decide +kernel
theorem dX11_tested_145 : decode cX11_tested 145 = .ok (.aload_n 0, 1) := by decide +kernel
theorem dX11_tested_146 : decode cX11_tested 146 = .ok (.iconst 1, 1) := by decide +kernel
theorem dX11_tested_147 : decode cX11_tested 147 = .ok (.invokevirtual 130, 3) := by decide +kernel
theorem dX11_tested_150 : decode cX11_tested 150 = .ok (.if_icmp .eq 5, 3) := by decide +kernel
theorem dX11_tested_153 : decode cX11_tested 153 = .ok (.iconst 0, 1) := by decide +kernel
theorem dX11_tested_154 : decode cX11_tested 154 = .ok (.ireturn, 1) := by decide +kernel
theorem dX11_tested_155 : decode cX11_tested 155 = .ok (.iconst 0, 1) := by decide +kernel
theorem dX11_tested_156 : decode cX11_tested 156 = .ok (.istore_n 1, 1) := by decide +kernel
theorem dX11_tested_157 : decode cX11_tested 157 = .ok (.iconst 0, 1) := by decide +kernel
theorem dX11_tested_158 : decode cX11_tested 158 = .ok (.istore_n 2, 1) := by decide +kernel
theorem dX11_tested_159 : decode cX11_tested 159 = .ok (.iload_n 2, 1) := by decide +kernel
theorem dX11_tested_160 : decode cX11_tested 160 = .ok (.aload_n 0, 1) := by decide +kernel
theorem dX11_tested_161 : decode cX11_tested 161 = .ok (.getfield 13, 3) := by decide +kernel
theorem dX11_tested_164 : decode cX11_tested 164 = .ok (.iconst 0, 1) := by decide +kernel
theorem dX11_tested_165 : decode cX11_tested 165 = .ok (.iaload, 1) := by decide +kernel
theorem dX11_tested_166 : decode cX11_tested 166 = .ok (.if_icmp .ge 60, 3) := by decide +kernel
theorem dX11_tested_169 : decode cX11_tested 169 = .ok (.aload_n 0, 1) := by decide +kernel
theorem dX11_tested_170 : decode cX11_tested 170 = .ok (.getfield 57, 3) := by decide +kernel
theorem dX11_tested_173 : decode cX11_tested 173 = .ok (.iload_n 2, 1) := by decide +kernel
theorem dX11_tested_174 : decode cX11_tested 174 = .ok (.iaload, 1) := by decide +kernel
theorem dX11_tested_175 : decode cX11_tested 175 = .ok (.istore_n 3, 1) := by decide +kernel
theorem dX11_tested_176 : decode cX11_tested 176 = .ok (.aload_n 0, 1) := by decide +kernel
theorem dX11_tested_177 : decode cX11_tested 177 = .ok (.iconst 0, 1) := by decide +kernel
theorem dX11_tested_178 : decode cX11_tested 178 = .ok (.iload_n 2, 1) := by decide +kernel
theorem dX11_tested_179 : decode cX11_tested 179 = .ok (.invokevirtual 140, 3) := by decide +kernel
theorem dX11_tested_182 : decode cX11_tested 182 = .ok (.ifCond .ne 6, 3) := by decide +kernel
theorem dX11_tested_185 : decode cX11_tested 185 = .ok (.goto 35, 3) := by decide +kernel
theorem dX11_tested_188 : decode cX11_tested 188 = .ok (.iload_n 3, 1) := by decide +kernel
theorem dX11_tested_189 : decode cX11_tested 189 = .ok (.iconst (-1), 1) := by decide +kernel
theorem dX11_tested_190 : decode cX11_tested 190 = .ok (.if_icmp .eq 25, 3) := by decide +kernel
theorem dX11_tested_193 : decode cX11_tested 193 = .ok (.aload_n 0, 1) := by decide +kernel
theorem dX11_tested_194 : decode cX11_tested 194 = .ok (.iconst 1, 1) := by decide +kernel
theorem dX11_tested_195 : decode cX11_tested 195 = .ok (.iload_n 3, 1) := by decide +kernel
theorem dX11_tested_196 : decode cX11_tested 196 = .ok (.invokevirtual 140, 3) := by decide +kernel
theorem dX11_tested_199 : decode cX11_tested 199 = .ok (.ifCond .eq 16, 3) := by decide +kernel
theorem dX11_tested_202 : decode cX11_tested 202 = .ok (.aload_n 0, 1) := by decide +kernel
theorem dX11_tested_203 : decode cX11_tested 203 = .ok (.iload_n 2, 1) := by decide +kernel
theorem dX11_tested_204 : decode cX11_tested 204 = .ok (.iload_n 3, 1) := by decide +kernel
theorem dX11_tested_205 : decode cX11_tested 205 = .ok (.aload_n 0, 1) := by decide +kernel
theorem dX11_tested_206 : decode cX11_tested 206 = .ok (.getfield 194, 3) := by decide +kernel
theorem dX11_tested_209 : decode cX11_tested 209 = .ok (.invokevirtual 248, 3) := by decide +kernel
theorem dX11_tested_212 : decode cX11_tested 212 = .ok (.ifCond .ne 5, 3) := by decide +kernel
theorem dX11_tested_215 : decode cX11_tested 215 = .ok (.iconst 0, 1) := by decide +kernel
theorem dX11_tested_216 : decode cX11_tested 216 = .ok (.ireturn, 1) := by decide +kernel
theorem dX11_tested_217 : decode cX11_tested 217 = .ok (.iinc 1 1, 3) := by decide +kernel
theorem dX11_tested_220 : decode cX11_tested 220 = .ok (.iinc 2 1, 3) := by decide +kernel
theorem dX11_tested_223 : decode cX11_tested 223 = .ok (.goto (-64), 3) := by decide +kernel
theorem dX11_tested_226 : decode cX11_tested 226 = .ok (.iload_n 1, 1) := by decide +kernel
theorem dX11_tested_227 : decode cX11_tested 227 = .ok (.aload_n 0, 1) := by decide +kernel
theorem dX11_tested_228 : decode cX11_tested 228 = .ok (.iconst 1, 1) := by decide +kernel
theorem dX11_tested_229 : decode cX11_tested 229 = .ok (.invokevirtual 197, 3) := by decide +kernel
theorem dX11_tested_232 : decode cX11_tested 232 = .ok (.if_icmp .ne 7, 3) := by decide +kernel
theorem dX11_tested_235 : decode cX11_tested 235 = .ok (.iconst 1, 1) := by decide +kernel
theorem dX11_tested_236 : decode cX11_tested 236 = .ok (.goto 4, 3) := by decide +kernel
theorem dX11_tested_239 : decode cX11_tested 239 = .ok (.iconst 0, 1) := by decide +kernel
theorem dX11_tested_240 : decode cX11_tested 240 = .ok (.ireturn, 1) := by decide +kernel
