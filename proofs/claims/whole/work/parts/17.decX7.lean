theorem dX7_init_0 : decode cX7_init 0 = .ok (.aload_n 0, 1) := by decide +kernel
theorem dX7_init_1 : decode cX7_init 1 = .ok (.invokespecial 1, 3) := by decide +kernel
theorem dX7_init_4 : decode cX7_init 4 = .ok (.aload_n 0, 1) := by decide +kernel
theorem dX7_init_5 : decode cX7_init 5 = .ok (.bipush 31, 2) := by decide +kernel
theorem dX7_init_7 : decode cX7_init 7 = .ok (.newarray .int, 2) := by decide +kernel
theorem dX7_init_9 : decode cX7_init 9 = .ok (.putfield 9, 3) := by decide +kernel
theorem dX7_init_12 : decode cX7_init 12 = .ok (.aload_n 0, 1) := by decide +kernel
theorem dX7_init_13 : decode cX7_init 13 = .ok (.aload_n 1, 1) := by decide +kernel
theorem dX7_init_14 : decode cX7_init 14 = .ok (.putfield 13, 3) := by decide +kernel
theorem dX7_init_17 : decode cX7_init 17 = .ok (.aload_n 0, 1) := by decide +kernel
theorem dX7_init_18 : decode cX7_init 18 = .ok (.iload_n 2, 1) := by decide +kernel
theorem dX7_init_19 : decode cX7_init 19 = .ok (.putfield 16, 3) := by decide +kernel
theorem dX7_init_22 : decode cX7_init 22 = .ok (.aload_n 0, 1) := by decide +kernel
theorem dX7_init_23 : decode cX7_init 23 = .ok (.iload_n 3, 1) := by decide +kernel
theorem dX7_init_24 : decode cX7_init 24 = .ok (.putfield 20, 3) := by decide +kernel
theorem dX7_init_27 : decode cX7_init 27 = .ok (.return_, 1) := by decide +kernel
theorem dX7_worth_0 : decode cX7_worth 0 = .ok (.iload_n 1, 1) := by decide +kernel
theorem dX7_worth_1 : decode cX7_worth 1 = .ok (.ifCond .ne 7, 3) := by decide +kernel
theorem dX7_worth_4 : decode cX7_worth 4 = .ok (.iconst 0, 1) := by decide +kernel
theorem dX7_worth_5 : decode cX7_worth 5 = .ok (.goto 19, 3) := by decide +kernel
theorem dX7_worth_8 : decode cX7_worth 8 = .ok (.iload_n 1, 1) := by decide +kernel
theorem dX7_worth_9 : decode cX7_worth 9 = .ok (.iconst 1, 1) := by decide +kernel
theorem dX7_worth_10 : decode cX7_worth 10 = .ok (.if_icmp .ne 10, 3) := by decide +kernel
theorem dX7_worth_13 : decode cX7_worth 13 = .ok (.aload_n 0, 1) := by decide +kernel
theorem dX7_worth_14 : decode cX7_worth 14 = .ok (.getfield 16, 3) := by decide +kernel
theorem dX7_worth_17 : decode cX7_worth 17 = .ok (.goto 7, 3) := by decide +kernel
theorem dX7_worth_20 : decode cX7_worth 20 = .ok (.aload_n 0, 1) := by decide +kernel
theorem dX7_worth_21 : decode cX7_worth 21 = .ok (.getfield 20, 3) := by decide +kernel
theorem dX7_worth_24 : decode cX7_worth 24 = .ok (.istore_n 3, 1) := by decide +kernel
theorem dX7_worth_25 : decode cX7_worth 25 = .ok (.iload_n 1, 1) := by decide +kernel
theorem dX7_worth_26 : decode cX7_worth 26 = .ok (.ifCond .ne 10, 3) := by decide +kernel
theorem dX7_worth_29 : decode cX7_worth 29 = .ok (.aload_n 0, 1) := by decide +kernel
theorem dX7_worth_30 : decode cX7_worth 30 = .ok (.getfield 16, 3) := by decide +kernel
theorem dX7_worth_33 : decode cX7_worth 33 = .ok (.goto 20, 3) := by decide +kernel
theorem dX7_worth_36 : decode cX7_worth 36 = .ok (.iload_n 1, 1) := by decide +kernel
theorem dX7_worth_37 : decode cX7_worth 37 = .ok (.iconst 1, 1) := by decide +kernel
theorem dX7_worth_38 : decode cX7_worth 38 = .ok (.if_icmp .ne 10, 3) := by decide +kernel
theorem dX7_worth_41 : decode cX7_worth 41 = .ok (.aload_n 0, 1) := by decide +kernel
theorem dX7_worth_42 : decode cX7_worth 42 = .ok (.getfield 20, 3) := by decide +kernel
theorem dX7_worth_45 : decode cX7_worth 45 = .ok (.goto 8, 3) := by decide +kernel
theorem dX7_worth_48 : decode cX7_worth 48 = .ok (.aload_n 0, 1) := by decide +kernel
theorem dX7_worth_49 : decode cX7_worth 49 = .ok (.getfield 13, 3) := by decide +kernel
theorem dX7_worth_52 : decode cX7_worth 52 = .ok (.arraylength, 1) := by decide +kernel
theorem dX7_worth_53 : decode cX7_worth 53 = .ok (.istore 4, 2) := by decide +kernel
theorem dX7_worth_55 : decode cX7_worth 55 = .ok (.iconst 0, 1) := by decide +kernel
theorem dX7_worth_56 : decode cX7_worth 56 = .ok (.istore 5, 2) := by decide +kernel
theorem dX7_worth_58 : decode cX7_worth 58 = .ok (.iload_n 3, 1) := by decide +kernel
theorem dX7_worth_59 : decode cX7_worth 59 = .ok (.istore 6, 2) := by decide +kernel
theorem dX7_worth_61 : decode cX7_worth 61 = .ok (.iload 6, 2) := by decide +kernel
theorem dX7_worth_63 : decode cX7_worth 63 = .ok (.iload 4, 2) := by decide +kernel
theorem dX7_worth_65 : decode cX7_worth 65 = .ok (.if_icmp .ge 194, 3) := by decide +kernel
theorem dX7_worth_68 : decode cX7_worth 68 = .ok (.aload_n 0, 1) := by decide +kernel
theorem dX7_worth_69 : decode cX7_worth 69 = .ok (.getfield 13, 3) := by decide +kernel
theorem dX7_worth_72 : decode cX7_worth 72 = .ok (.iload 6, 2) := by decide +kernel
theorem dX7_worth_74 : decode cX7_worth 74 = .ok (.iaload, 1) := by decide +kernel
theorem dX7_worth_75 : decode cX7_worth 75 = .ok (.istore 7, 2) := by decide +kernel
theorem dX7_worth_77 : decode cX7_worth 77 = .ok (.iload 7, 2) := by decide +kernel
theorem dX7_worth_79 : decode cX7_worth 79 = .ok (.ineg, 1) := by decide +kernel
theorem dX7_worth_80 : decode cX7_worth 80 = .ok (.bipush 101, 2) := by decide +kernel
theorem dX7_worth_82 : decode cX7_worth 82 = .ok (.isub, 1) := by decide +kernel
theorem dX7_worth_83 : decode cX7_worth 83 = .ok (.istore 8, 2) := by decide +kernel
theorem dX7_worth_85 : decode cX7_worth 85 = .ok (.iload 7, 2) := by decide +kernel
theorem dX7_worth_87 : decode cX7_worth 87 = .ok (.ifCond .ge 15, 3) := by decide +kernel
theorem dX7_worth_90 : decode cX7_worth 90 = .ok (.iload 8, 2) := by decide +kernel
theorem dX7_worth_92 : decode cX7_worth 92 = .ok (.ifCond .lt 46, 3) := by decide +kernel
theorem dX7_worth_95 : decode cX7_worth 95 = .ok (.iload 8, 2) := by decide +kernel
theorem dX7_worth_97 : decode cX7_worth 97 = .ok (.aload_n 2, 1) := by decide +kernel
theorem dX7_worth_98 : decode cX7_worth 98 = .ok (.arraylength, 1) := by decide +kernel
theorem dX7_worth_99 : decode cX7_worth 99 = .ok (.if_icmp .ge 39, 3) := by decide +kernel
theorem dX7_worth_102 : decode cX7_worth 102 = .ok (.iload 5, 2) := by decide +kernel
theorem dX7_worth_104 : decode cX7_worth 104 = .ok (.bipush 31, 2) := by decide +kernel
theorem dX7_worth_106 : decode cX7_worth 106 = .ok (.if_icmp .lt 5, 3) := by decide +kernel
theorem dX7_worth_109 : decode cX7_worth 109 = .ok (.iconst 0, 1) := by decide +kernel
theorem dX7_worth_110 : decode cX7_worth 110 = .ok (.ireturn, 1) := by decide +kernel
theorem dX7_worth_111 : decode cX7_worth 111 = .ok (.aload_n 0, 1) := by decide +kernel
theorem dX7_worth_112 : decode cX7_worth 112 = .ok (.getfield 9, 3) := by decide +kernel
theorem dX7_worth_115 : decode cX7_worth 115 = .ok (.iload 5, 2) := by decide +kernel
theorem dX7_worth_117 : decode cX7_worth 117 = .ok (.iload 7, 2) := by decide +kernel
theorem dX7_worth_119 : decode cX7_worth 119 = .ok (.ifCond .lt 8, 3) := by decide +kernel
theorem dX7_worth_122 : decode cX7_worth 122 = .ok (.iload 7, 2) := by decide +kernel
theorem dX7_worth_124 : decode cX7_worth 124 = .ok (.goto 7, 3) := by decide +kernel
theorem dX7_worth_127 : decode cX7_worth 127 = .ok (.aload_n 2, 1) := by decide +kernel
theorem dX7_worth_128 : decode cX7_worth 128 = .ok (.iload 8, 2) := by decide +kernel
theorem dX7_worth_130 : decode cX7_worth 130 = .ok (.iaload, 1) := by decide +kernel
theorem dX7_worth_131 : decode cX7_worth 131 = .ok (.iastore, 1) := by decide +kernel
theorem dX7_worth_132 : decode cX7_worth 132 = .ok (.iinc 5 1, 3) := by decide +kernel
theorem dX7_worth_135 : decode cX7_worth 135 = .ok (.goto 118, 3) := by decide +kernel
theorem dX7_worth_138 : decode cX7_worth 138 = .ok (.iload 5, 2) := by decide +kernel
theorem dX7_worth_140 : decode cX7_worth 140 = .ok (.ifCond .le 32, 3) := by decide +kernel
theorem dX7_worth_143 : decode cX7_worth 143 = .ok (.iload 7, 2) := by decide +kernel
theorem dX7_worth_145 : decode cX7_worth 145 = .ok (.bipush (-4), 2) := by decide +kernel
theorem dX7_worth_147 : decode cX7_worth 147 = .ok (.if_icmp .ne 25, 3) := by decide +kernel
theorem dX7_worth_150 : decode cX7_worth 150 = .ok (.aload_n 0, 1) := by decide +kernel
theorem dX7_worth_151 : decode cX7_worth 151 = .ok (.getfield 9, 3) := by decide +kernel
theorem dX7_worth_154 : decode cX7_worth 154 = .ok (.iload 5, 2) := by decide +kernel
theorem dX7_worth_156 : decode cX7_worth 156 = .ok (.iconst 1, 1) := by decide +kernel
theorem dX7_worth_157 : decode cX7_worth 157 = .ok (.isub, 1) := by decide +kernel
theorem dX7_worth_158 : decode cX7_worth 158 = .ok (.aload_n 0, 1) := by decide +kernel
theorem dX7_worth_159 : decode cX7_worth 159 = .ok (.getfield 9, 3) := by decide +kernel
theorem dX7_worth_162 : decode cX7_worth 162 = .ok (.iload 5, 2) := by decide +kernel
theorem dX7_worth_164 : decode cX7_worth 164 = .ok (.iconst 1, 1) := by decide +kernel
theorem dX7_worth_165 : decode cX7_worth 165 = .ok (.isub, 1) := by decide +kernel
theorem dX7_worth_166 : decode cX7_worth 166 = .ok (.iaload, 1) := by decide +kernel
theorem dX7_worth_167 : decode cX7_worth 167 = .ok (.ineg, 1) := by decide +kernel
theorem dX7_worth_168 : decode cX7_worth 168 = .ok (.iastore, 1) := by decide +kernel
theorem dX7_worth_169 : decode cX7_worth 169 = .ok (.goto 84, 3) := by decide +kernel
theorem dX7_worth_172 : decode cX7_worth 172 = .ok (.iload 5, 2) := by decide +kernel
theorem dX7_worth_174 : decode cX7_worth 174 = .ok (.ifCond .le 39, 3) := by decide +kernel
theorem dX7_worth_177 : decode cX7_worth 177 = .ok (.iload 7, 2) := by decide +kernel
theorem dX7_worth_179 : decode cX7_worth 179 = .ok (.bipush (-112), 2) := by decide +kernel
theorem dX7_worth_181 : decode cX7_worth 181 = .ok (.if_icmp .ne 32, 3) := by decide +kernel
theorem dX7_worth_184 : decode cX7_worth 184 = .ok (.aload_n 0, 1) := by decide +kernel
theorem dX7_worth_185 : decode cX7_worth 185 = .ok (.getfield 9, 3) := by decide +kernel
theorem dX7_worth_188 : decode cX7_worth 188 = .ok (.iload 5, 2) := by decide +kernel
theorem dX7_worth_190 : decode cX7_worth 190 = .ok (.iconst 1, 1) := by decide +kernel
theorem dX7_worth_191 : decode cX7_worth 191 = .ok (.isub, 1) := by decide +kernel
theorem dX7_worth_192 : decode cX7_worth 192 = .ok (.aload_n 0, 1) := by decide +kernel
theorem dX7_worth_193 : decode cX7_worth 193 = .ok (.getfield 9, 3) := by decide +kernel
theorem dX7_worth_196 : decode cX7_worth 196 = .ok (.iload 5, 2) := by decide +kernel
theorem dX7_worth_198 : decode cX7_worth 198 = .ok (.iconst 1, 1) := by decide +kernel
theorem dX7_worth_199 : decode cX7_worth 199 = .ok (.isub, 1) := by decide +kernel
theorem dX7_worth_200 : decode cX7_worth 200 = .ok (.iaload, 1) := by decide +kernel
theorem dX7_worth_201 : decode cX7_worth 201 = .ok (.ifCond .ne 7, 3) := by decide +kernel
theorem dX7_worth_204 : decode cX7_worth 204 = .ok (.iconst 1, 1) := by decide +kernel
theorem dX7_worth_205 : decode cX7_worth 205 = .ok (.goto 4, 3) := by decide +kernel
theorem dX7_worth_208 : decode cX7_worth 208 = .ok (.iconst 0, 1) := by decide +kernel
theorem dX7_worth_209 : decode cX7_worth 209 = .ok (.iastore, 1) := by decide +kernel
theorem dX7_worth_210 : decode cX7_worth 210 = .ok (.goto 43, 3) := by decide +kernel
theorem dX7_worth_213 : decode cX7_worth 213 = .ok (.iload 5, 2) := by decide +kernel
theorem dX7_worth_215 : decode cX7_worth 215 = .ok (.iconst 1, 1) := by decide +kernel
theorem dX7_worth_216 : decode cX7_worth 216 = .ok (.if_icmp .le 37, 3) := by decide +kernel
theorem dX7_worth_219 : decode cX7_worth 219 = .ok (.iinc 5 (-1), 3) := by decide +kernel
theorem dX7_worth_222 : decode cX7_worth 222 = .ok (.aload_n 0, 1) := by decide +kernel
theorem dX7_worth_223 : decode cX7_worth 223 = .ok (.getfield 9, 3) := by decide +kernel
theorem dX7_worth_226 : decode cX7_worth 226 = .ok (.iload 5, 2) := by decide +kernel
theorem dX7_worth_228 : decode cX7_worth 228 = .ok (.iconst 1, 1) := by decide +kernel
theorem dX7_worth_229 : decode cX7_worth 229 = .ok (.isub, 1) := by decide +kernel
theorem dX7_worth_230 : decode cX7_worth 230 = .ok (.iload 7, 2) := by decide +kernel
theorem dX7_worth_232 : decode cX7_worth 232 = .ok (.ineg, 1) := by decide +kernel
theorem dX7_worth_233 : decode cX7_worth 233 = .ok (.aload_n 0, 1) := by decide +kernel
theorem dX7_worth_234 : decode cX7_worth 234 = .ok (.getfield 9, 3) := by decide +kernel
theorem dX7_worth_237 : decode cX7_worth 237 = .ok (.iload 5, 2) := by decide +kernel
theorem dX7_worth_239 : decode cX7_worth 239 = .ok (.iconst 1, 1) := by decide +kernel
theorem dX7_worth_240 : decode cX7_worth 240 = .ok (.isub, 1) := by decide +kernel
theorem dX7_worth_241 : decode cX7_worth 241 = .ok (.iaload, 1) := by decide +kernel
theorem dX7_worth_242 : decode cX7_worth 242 = .ok (.aload_n 0, 1) := by decide +kernel
theorem dX7_worth_243 : decode cX7_worth 243 = .ok (.getfield 9, 3) := by decide +kernel
theorem dX7_worth_246 : decode cX7_worth 246 = .ok (.iload 5, 2) := by decide +kernel
theorem dX7_worth_248 : decode cX7_worth 248 = .ok (.iaload, 1) := by decide +kernel
theorem dX7_worth_249 : decode cX7_worth 249 = .ok (.invokestatic 25, 3) := by decide +kernel
theorem dX7_worth_252 : decode cX7_worth 252 = .ok (.iastore, 1) := by decide +kernel
theorem dX7_worth_253 : decode cX7_worth 253 = .ok (.iinc 6 1, 3) := by decide +kernel
theorem dX7_worth_256 : decode cX7_worth 256 = .ok (.goto (-195), 3) := by decide +kernel
theorem dX7_worth_259 : decode cX7_worth 259 = .ok (.aload_n 0, 1) := by decide +kernel
theorem dX7_worth_260 : decode cX7_worth 260 = .ok (.getfield 9, 3) := by decide +kernel
theorem dX7_worth_263 : decode cX7_worth 263 = .ok (.iconst 0, 1) := by decide +kernel
theorem dX7_worth_264 : decode cX7_worth 264 = .ok (.iaload, 1) := by decide +kernel
theorem dX7_worth_265 : decode cX7_worth 265 = .ok (.ireturn, 1) := by decide +kernel
theorem dX7_joined_0 : decode cX7_joined 0 = .ok (.iload_n 0, 1) := by decide +kernel
theorem dX7_joined_1 : decode cX7_joined 1 = .ok (.lookupswitch 107 #[(42, 67), (43, 59), (45, 63), (60, 71), (61, 82), (111, 93)], 59) := by decide +kernel
theorem dX7_joined_60 : decode cX7_joined 60 = .ok (.iload_n 1, 1) := by decide +kernel
theorem dX7_joined_61 : decode cX7_joined 61 = .ok (.iload_n 2, 1) := by decide +kernel
theorem dX7_joined_62 : decode cX7_joined 62 = .ok (.iadd, 1) := by decide +kernel
theorem dX7_joined_63 : decode cX7_joined 63 = .ok (.ireturn, 1) := by decide +kernel
theorem dX7_joined_64 : decode cX7_joined 64 = .ok (.iload_n 1, 1) := by decide +kernel
theorem dX7_joined_65 : decode cX7_joined 65 = .ok (.iload_n 2, 1) := by decide +kernel
theorem dX7_joined_66 : decode cX7_joined 66 = .ok (.isub, 1) := by decide +kernel
theorem dX7_joined_67 : decode cX7_joined 67 = .ok (.ireturn, 1) := by decide +kernel
theorem dX7_joined_68 : decode cX7_joined 68 = .ok (.iload_n 1, 1) := by decide +kernel
theorem dX7_joined_69 : decode cX7_joined 69 = .ok (.iload_n 2, 1) := by decide +kernel
theorem dX7_joined_70 : decode cX7_joined 70 = .ok (.imul, 1) := by decide +kernel
theorem dX7_joined_71 : decode cX7_joined 71 = .ok (.ireturn, 1) := by decide +kernel
theorem dX7_joined_72 : decode cX7_joined 72 = .ok (.iload_n 1, 1) := by decide +kernel
theorem dX7_joined_73 : decode cX7_joined 73 = .ok (.iload_n 2, 1) := by decide +kernel
theorem dX7_joined_74 : decode cX7_joined 74 = .ok (.if_icmp .ge 7, 3) := by decide +kernel
theorem dX7_joined_77 : decode cX7_joined 77 = .ok (.iconst 1, 1) := by decide +kernel
theorem dX7_joined_78 : decode cX7_joined 78 = .ok (.goto 4, 3) := by decide +kernel
theorem dX7_joined_81 : decode cX7_joined 81 = .ok (.iconst 0, 1) := by decide +kernel
theorem dX7_joined_82 : decode cX7_joined 82 = .ok (.ireturn, 1) := by decide +kernel
theorem dX7_joined_83 : decode cX7_joined 83 = .ok (.iload_n 1, 1) := by decide +kernel
theorem dX7_joined_84 : decode cX7_joined 84 = .ok (.iload_n 2, 1) := by decide +kernel
theorem dX7_joined_85 : decode cX7_joined 85 = .ok (.if_icmp .ne 7, 3) := by decide +kernel
theorem dX7_joined_88 : decode cX7_joined 88 = .ok (.iconst 1, 1) := by decide +kernel
theorem dX7_joined_89 : decode cX7_joined 89 = .ok (.goto 4, 3) := by decide +kernel
theorem dX7_joined_92 : decode cX7_joined 92 = .ok (.iconst 0, 1) := by decide +kernel
theorem dX7_joined_93 : decode cX7_joined 93 = .ok (.ireturn, 1) := by decide +kernel
theorem dX7_joined_94 : decode cX7_joined 94 = .ok (.iload_n 1, 1) := by decide +kernel
theorem dX7_joined_95 : decode cX7_joined 95 = .ok (.ifCond .eq 11, 3) := by decide +kernel
theorem dX7_joined_98 : decode cX7_joined 98 = .ok (.iload_n 2, 1) := by decide +kernel
theorem dX7_joined_99 : decode cX7_joined 99 = .ok (.ifCond .eq 7, 3) := by decide +kernel
theorem dX7_joined_102 : decode cX7_joined 102 = .ok (.iconst 1, 1) := by decide +kernel
theorem dX7_joined_103 : decode cX7_joined 103 = .ok (.goto 4, 3) := by decide +kernel
theorem dX7_joined_106 : decode cX7_joined 106 = .ok (.iconst 0, 1) := by decide +kernel
theorem dX7_joined_107 : decode cX7_joined 107 = .ok (.ireturn, 1) := by decide +kernel
theorem dX7_joined_108 : decode cX7_joined 108 = .ok (.iload_n 1, 1) := by decide +kernel
theorem dX7_joined_109 : decode cX7_joined 109 = .ok (.ifCond .ne 7, 3) := by decide +kernel
theorem dX7_joined_112 : decode cX7_joined 112 = .ok (.iload_n 2, 1) := by decide +kernel
theorem dX7_joined_113 : decode cX7_joined 113 = .ok (.ifCond .eq 7, 3) := by decide +kernel
theorem dX7_joined_116 : decode cX7_joined 116 = .ok (.iconst 1, 1) := by decide +kernel
theorem dX7_joined_117 : decode cX7_joined 117 = .ok (.goto 4, 3) := by decide +kernel
theorem dX7_joined_120 : decode cX7_joined 120 = .ok (.iconst 0, 1) := by decide +kernel
theorem dX7_joined_121 : decode cX7_joined 121 = .ok (.ireturn, 1) := by decide +kernel
