theorem dX9_in_0 : decode cX9_in 0 = .ok (.lload_n 0, 1) := by decide +kernel
theorem dX9_in_1 : decode cX9_in 1 = .ok (.lload_n 2, 1) := by decide +kernel
theorem dX9_in_2 : decode cX9_in 2 = .ok (.lcmp, 1) := by decide +kernel
theorem dX9_in_3 : decode cX9_in 3 = .ok (.ifCond .lt 14, 3) := by decide +kernel
theorem dX9_in_6 : decode cX9_in 6 = .ok (.lload_n 0, 1) := by decide +kernel
theorem dX9_in_7 : decode cX9_in 7 = .ok (.lload 4, 2) := by decide +kernel
theorem dX9_in_9 : decode cX9_in 9 = .ok (.lcmp, 1) := by decide +kernel
theorem dX9_in_10 : decode cX9_in 10 = .ok (.ifCond .gt 7, 3) := by decide +kernel
theorem dX9_in_13 : decode cX9_in 13 = .ok (.iconst 1, 1) := by decide +kernel
theorem dX9_in_14 : decode cX9_in 14 = .ok (.goto 4, 3) := by decide +kernel
theorem dX9_in_17 : decode cX9_in 17 = .ok (.iconst 0, 1) := by decide +kernel
theorem dX9_in_18 : decode cX9_in 18 = .ok (.ireturn, 1) := by decide +kernel
theorem dX9_within_0 : decode cX9_within 0 = .ok (.iload_n 0, 1) := by decide +kernel
theorem dX9_within_1 : decode cX9_within 1 = .ok (.iload_n 1, 1) := by decide +kernel
theorem dX9_within_2 : decode cX9_within 2 = .ok (.if_icmp .ge 7, 3) := by decide +kernel
theorem dX9_within_5 : decode cX9_within 5 = .ok (.iload_n 1, 1) := by decide +kernel
theorem dX9_within_6 : decode cX9_within 6 = .ok (.goto 13, 3) := by decide +kernel
theorem dX9_within_9 : decode cX9_within 9 = .ok (.iload_n 0, 1) := by decide +kernel
theorem dX9_within_10 : decode cX9_within 10 = .ok (.iload_n 2, 1) := by decide +kernel
theorem dX9_within_11 : decode cX9_within 11 = .ok (.if_icmp .le 7, 3) := by decide +kernel
theorem dX9_within_14 : decode cX9_within 14 = .ok (.iload_n 2, 1) := by decide +kernel
theorem dX9_within_15 : decode cX9_within 15 = .ok (.goto 4, 3) := by decide +kernel
theorem dX9_within_18 : decode cX9_within 18 = .ok (.iload_n 0, 1) := by decide +kernel
theorem dX9_within_19 : decode cX9_within 19 = .ok (.ireturn, 1) := by decide +kernel
theorem dX9_bitsOf_0 : decode cX9_bitsOf 0 = .ok (.iconst 0, 1) := by decide +kernel
theorem dX9_bitsOf_1 : decode cX9_bitsOf 1 = .ok (.istore_n 1, 1) := by decide +kernel
theorem dX9_bitsOf_2 : decode cX9_bitsOf 2 = .ok (.iload_n 0, 1) := by decide +kernel
theorem dX9_bitsOf_3 : decode cX9_bitsOf 3 = .ok (.istore_n 2, 1) := by decide +kernel
theorem dX9_bitsOf_4 : decode cX9_bitsOf 4 = .ok (.iload_n 2, 1) := by decide +kernel
theorem dX9_bitsOf_5 : decode cX9_bitsOf 5 = .ok (.ifCond .eq 15, 3) := by decide +kernel
theorem dX9_bitsOf_8 : decode cX9_bitsOf 8 = .ok (.iinc 1 1, 3) := by decide +kernel
theorem dX9_bitsOf_11 : decode cX9_bitsOf 11 = .ok (.iload_n 2, 1) := by decide +kernel
theorem dX9_bitsOf_12 : decode cX9_bitsOf 12 = .ok (.iload_n 2, 1) := by decide +kernel
theorem dX9_bitsOf_13 : decode cX9_bitsOf 13 = .ok (.iconst 1, 1) := by decide +kernel
theorem dX9_bitsOf_14 : decode cX9_bitsOf 14 = .ok (.isub, 1) := by decide +kernel
theorem dX9_bitsOf_15 : decode cX9_bitsOf 15 = .ok (.iand, 1) := by decide +kernel
theorem dX9_bitsOf_16 : decode cX9_bitsOf 16 = .ok (.istore_n 2, 1) := by decide +kernel
theorem dX9_bitsOf_17 : decode cX9_bitsOf 17 = .ok (.goto (-13), 3) := by decide +kernel
theorem dX9_bitsOf_20 : decode cX9_bitsOf 20 = .ok (.iload_n 1, 1) := by decide +kernel
theorem dX9_bitsOf_21 : decode cX9_bitsOf 21 = .ok (.ireturn, 1) := by decide +kernel
theorem dX9_init_0 : decode cX9_init 0 = .ok (.aload_n 0, 1) := by decide +kernel
theorem dX9_init_1 : decode cX9_init 1 = .ok (.invokespecial 7, 3) := by decide +kernel
theorem dX9_init_4 : decode cX9_init 4 = .ok (.aload_n 0, 1) := by decide +kernel
theorem dX9_init_5 : decode cX9_init 5 = .ok (.sipush 960, 3) := by decide +kernel
theorem dX9_init_8 : decode cX9_init 8 = .ok (.newarray .int, 2) := by decide +kernel
theorem dX9_init_10 : decode cX9_init 10 = .ok (.putfield 13, 3) := by decide +kernel
theorem dX9_init_13 : decode cX9_init 13 = .ok (.aload_n 0, 1) := by decide +kernel
theorem dX9_init_14 : decode cX9_init 14 = .ok (.bipush 6, 2) := by decide +kernel
theorem dX9_init_16 : decode cX9_init 16 = .ok (.newarray .int, 2) := by decide +kernel
theorem dX9_init_18 : decode cX9_init 18 = .ok (.putfield 17, 3) := by decide +kernel
theorem dX9_init_21 : decode cX9_init 21 = .ok (.aload_n 0, 1) := by decide +kernel
theorem dX9_init_22 : decode cX9_init 22 = .ok (.sipush 160, 3) := by decide +kernel
theorem dX9_init_25 : decode cX9_init 25 = .ok (.newarray .int, 2) := by decide +kernel
theorem dX9_init_27 : decode cX9_init 27 = .ok (.putfield 20, 3) := by decide +kernel
theorem dX9_init_30 : decode cX9_init 30 = .ok (.aload_n 0, 1) := by decide +kernel
theorem dX9_init_31 : decode cX9_init 31 = .ok (.bipush 8, 2) := by decide +kernel
theorem dX9_init_33 : decode cX9_init 33 = .ok (.newarray .int, 2) := by decide +kernel
theorem dX9_init_35 : decode cX9_init 35 = .ok (.putfield 23, 3) := by decide +kernel
theorem dX9_init_38 : decode cX9_init 38 = .ok (.aload_n 0, 1) := by decide +kernel
theorem dX9_init_39 : decode cX9_init 39 = .ok (.bipush 8, 2) := by decide +kernel
theorem dX9_init_41 : decode cX9_init 41 = .ok (.newarray .int, 2) := by decide +kernel
theorem dX9_init_43 : decode cX9_init 43 = .ok (.putfield 26, 3) := by decide +kernel
theorem dX9_init_46 : decode cX9_init 46 = .ok (.aload_n 0, 1) := by decide +kernel
theorem dX9_init_47 : decode cX9_init 47 = .ok (.bipush 7, 2) := by decide +kernel
theorem dX9_init_49 : decode cX9_init 49 = .ok (.newarray .int, 2) := by decide +kernel
theorem dX9_init_51 : decode cX9_init 51 = .ok (.putfield 29, 3) := by decide +kernel
theorem dX9_init_54 : decode cX9_init 54 = .ok (.aload_n 0, 1) := by decide +kernel
theorem dX9_init_55 : decode cX9_init 55 = .ok (.bipush 7, 2) := by decide +kernel
theorem dX9_init_57 : decode cX9_init 57 = .ok (.newarray .int, 2) := by decide +kernel
theorem dX9_init_59 : decode cX9_init 59 = .ok (.putfield 32, 3) := by decide +kernel
theorem dX9_init_62 : decode cX9_init 62 = .ok (.aload_n 0, 1) := by decide +kernel
theorem dX9_init_63 : decode cX9_init 63 = .ok (.bipush 7, 2) := by decide +kernel
theorem dX9_init_65 : decode cX9_init 65 = .ok (.newarray .int, 2) := by decide +kernel
theorem dX9_init_67 : decode cX9_init 67 = .ok (.putfield 35, 3) := by decide +kernel
theorem dX9_init_70 : decode cX9_init 70 = .ok (.aload_n 0, 1) := by decide +kernel
theorem dX9_init_71 : decode cX9_init 71 = .ok (.bipush 7, 2) := by decide +kernel
theorem dX9_init_73 : decode cX9_init 73 = .ok (.newarray .int, 2) := by decide +kernel
theorem dX9_init_75 : decode cX9_init 75 = .ok (.putfield 38, 3) := by decide +kernel
theorem dX9_init_78 : decode cX9_init 78 = .ok (.aload_n 0, 1) := by decide +kernel
theorem dX9_init_79 : decode cX9_init 79 = .ok (.bipush 60, 2) := by decide +kernel
theorem dX9_init_81 : decode cX9_init 81 = .ok (.putfield 41, 3) := by decide +kernel
theorem dX9_init_84 : decode cX9_init 84 = .ok (.aload_n 0, 1) := by decide +kernel
theorem dX9_init_85 : decode cX9_init 85 = .ok (.bipush 8, 2) := by decide +kernel
theorem dX9_init_87 : decode cX9_init 87 = .ok (.newarray .int, 2) := by decide +kernel
theorem dX9_init_89 : decode cX9_init 89 = .ok (.putfield 44, 3) := by decide +kernel
theorem dX9_init_92 : decode cX9_init 92 = .ok (.aload_n 0, 1) := by decide +kernel
theorem dX9_init_93 : decode cX9_init 93 = .ok (.bipush 8, 2) := by decide +kernel
theorem dX9_init_95 : decode cX9_init 95 = .ok (.newarray .int, 2) := by decide +kernel
theorem dX9_init_97 : decode cX9_init 97 = .ok (.putfield 47, 3) := by decide +kernel
theorem dX9_init_100 : decode cX9_init 100 = .ok (.aload_n 0, 1) := by decide +kernel
theorem dX9_init_101 : decode cX9_init 101 = .ok (.bipush 7, 2) := by decide +kernel
theorem dX9_init_103 : decode cX9_init 103 = .ok (.newarray .int, 2) := by decide +kernel
theorem dX9_init_105 : decode cX9_init 105 = .ok (.putfield 50, 3) := by decide +kernel
theorem dX9_init_108 : decode cX9_init 108 = .ok (.aload_n 0, 1) := by decide +kernel
theorem dX9_init_109 : decode cX9_init 109 = .ok (.bipush 56, 2) := by decide +kernel
theorem dX9_init_111 : decode cX9_init 111 = .ok (.newarray .int, 2) := by decide +kernel
theorem dX9_init_113 : decode cX9_init 113 = .ok (.putfield 53, 3) := by decide +kernel
theorem dX9_init_116 : decode cX9_init 116 = .ok (.aload_n 0, 1) := by decide +kernel
theorem dX9_init_117 : decode cX9_init 117 = .ok (.bipush 64, 2) := by decide +kernel
theorem dX9_init_119 : decode cX9_init 119 = .ok (.newarray .int, 2) := by decide +kernel
theorem dX9_init_121 : decode cX9_init 121 = .ok (.putfield 56, 3) := by decide +kernel
theorem dX9_init_124 : decode cX9_init 124 = .ok (.aload_n 0, 1) := by decide +kernel
theorem dX9_init_125 : decode cX9_init 125 = .ok (.bipush 64, 2) := by decide +kernel
theorem dX9_init_127 : decode cX9_init 127 = .ok (.newarray .int, 2) := by decide +kernel
theorem dX9_init_129 : decode cX9_init 129 = .ok (.putfield 59, 3) := by decide +kernel
theorem dX9_init_132 : decode cX9_init 132 = .ok (.aload_n 0, 1) := by decide +kernel
theorem dX9_init_133 : decode cX9_init 133 = .ok (.bipush 16, 2) := by decide +kernel
theorem dX9_init_135 : decode cX9_init 135 = .ok (.newarray .int, 2) := by decide +kernel
theorem dX9_init_137 : decode cX9_init 137 = .ok (.putfield 62, 3) := by decide +kernel
theorem dX9_init_140 : decode cX9_init 140 = .ok (.aload_n 0, 1) := by decide +kernel
theorem dX9_init_141 : decode cX9_init 141 = .ok (.bipush 21, 2) := by decide +kernel
theorem dX9_init_143 : decode cX9_init 143 = .ok (.newarray .int, 2) := by decide +kernel
theorem dX9_init_145 : decode cX9_init 145 = .ok (.putfield 65, 3) := by decide +kernel
theorem dX9_init_148 : decode cX9_init 148 = .ok (.aload_n 0, 1) := by decide +kernel
theorem dX9_init_149 : decode cX9_init 149 = .ok (.iconst (-1), 1) := by decide +kernel
theorem dX9_init_150 : decode cX9_init 150 = .ok (.putfield 68, 3) := by decide +kernel
theorem dX9_init_153 : decode cX9_init 153 = .ok (.aload_n 0, 1) := by decide +kernel
theorem dX9_init_154 : decode cX9_init 154 = .ok (.iconst 4, 1) := by decide +kernel
theorem dX9_init_155 : decode cX9_init 155 = .ok (.newarray .boolean, 2) := by decide +kernel
theorem dX9_init_157 : decode cX9_init 157 = .ok (.putfield 71, 3) := by decide +kernel
theorem dX9_init_160 : decode cX9_init 160 = .ok (.aload_n 0, 1) := by decide +kernel
theorem dX9_init_161 : decode cX9_init 161 = .ok (.iconst 4, 1) := by decide +kernel
theorem dX9_init_162 : decode cX9_init 162 = .ok (.newarray .int, 2) := by decide +kernel
theorem dX9_init_164 : decode cX9_init 164 = .ok (.putfield 75, 3) := by decide +kernel
theorem dX9_init_167 : decode cX9_init 167 = .ok (.aload_n 0, 1) := by decide +kernel
theorem dX9_init_168 : decode cX9_init 168 = .ok (.iconst 4, 1) := by decide +kernel
theorem dX9_init_169 : decode cX9_init 169 = .ok (.newarray .int, 2) := by decide +kernel
theorem dX9_init_171 : decode cX9_init 171 = .ok (.putfield 78, 3) := by decide +kernel
theorem dX9_init_174 : decode cX9_init 174 = .ok (.aload_n 0, 1) := by decide +kernel
theorem dX9_init_175 : decode cX9_init 175 = .ok (.sipush 160, 3) := by decide +kernel
theorem dX9_init_178 : decode cX9_init 178 = .ok (.newarray .int, 2) := by decide +kernel
theorem dX9_init_180 : decode cX9_init 180 = .ok (.putfield 81, 3) := by decide +kernel
theorem dX9_init_183 : decode cX9_init 183 = .ok (.aload_n 0, 1) := by decide +kernel
theorem dX9_init_184 : decode cX9_init 184 = .ok (.iconst 0, 1) := by decide +kernel
theorem dX9_init_185 : decode cX9_init 185 = .ok (.bipush 98, 2) := by decide +kernel
theorem dX9_init_187 : decode cX9_init 187 = .ok (.bipush 101, 2) := by decide +kernel
theorem dX9_init_189 : decode cX9_init 189 = .ok (.bipush 97, 2) := by decide +kernel
theorem dX9_init_191 : decode cX9_init 191 = .ok (.bipush 114, 2) := by decide +kernel
theorem dX9_init_193 : decode cX9_init 193 = .ok (.bipush 115, 2) := by decide +kernel
theorem dX9_init_195 : decode cX9_init 195 = .ok (.bipush 32, 2) := by decide +kernel
theorem dX9_init_197 : decode cX9_init 197 = .ok (.bipush 49, 2) := by decide +kernel
theorem dX9_init_199 : decode cX9_init 199 = .ok (.bipush 48, 2) := by decide +kernel
theorem dX9_init_201 : decode cX9_init 201 = .ok (.invokevirtual 84, 3) := by decide +kernel
theorem dX9_init_204 : decode cX9_init 204 = .ok (.aload_n 0, 1) := by decide +kernel
theorem dX9_init_205 : decode cX9_init 205 = .ok (.bipush 8, 2) := by decide +kernel
theorem dX9_init_207 : decode cX9_init 207 = .ok (.bipush 32, 2) := by decide +kernel
theorem dX9_init_209 : decode cX9_init 209 = .ok (.bipush 59, 2) := by decide +kernel
theorem dX9_init_211 : decode cX9_init 211 = .ok (.bipush 32, 2) := by decide +kernel
theorem dX9_init_213 : decode cX9_init 213 = .ok (.bipush 116, 2) := by decide +kernel
theorem dX9_init_215 : decode cX9_init 215 = .ok (.bipush 97, 2) := by decide +kernel
theorem dX9_init_217 : decode cX9_init 217 = .ok (.bipush 107, 2) := by decide +kernel
theorem dX9_init_219 : decode cX9_init 219 = .ok (.bipush 101, 2) := by decide +kernel
theorem dX9_init_221 : decode cX9_init 221 = .ok (.bipush 115, 2) := by decide +kernel
theorem dX9_init_223 : decode cX9_init 223 = .ok (.invokevirtual 84, 3) := by decide +kernel
theorem dX9_init_226 : decode cX9_init 226 = .ok (.aload_n 0, 1) := by decide +kernel
theorem dX9_init_227 : decode cX9_init 227 = .ok (.bipush 16, 2) := by decide +kernel
theorem dX9_init_229 : decode cX9_init 229 = .ok (.bipush 32, 2) := by decide +kernel
theorem dX9_init_231 : decode cX9_init 231 = .ok (.bipush 50, 2) := by decide +kernel
theorem dX9_init_233 : decode cX9_init 233 = .ok (.bipush 32, 2) := by decide +kernel
theorem dX9_init_235 : decode cX9_init 235 = .ok (.bipush 43, 2) := by decide +kernel
theorem dX9_init_237 : decode cX9_init 237 = .ok (.bipush 32, 2) := by decide +kernel
theorem dX9_init_239 : decode cX9_init 239 = .ok (.bipush 109, 2) := by decide +kernel
theorem dX9_init_241 : decode cX9_init 241 = .ok (.bipush 111, 2) := by decide +kernel
theorem dX9_init_243 : decode cX9_init 243 = .ok (.bipush 111, 2) := by decide +kernel
theorem dX9_init_245 : decode cX9_init 245 = .ok (.invokevirtual 84, 3) := by decide +kernel
theorem dX9_init_248 : decode cX9_init 248 = .ok (.aload_n 0, 1) := by decide +kernel
theorem dX9_init_249 : decode cX9_init 249 = .ok (.bipush 24, 2) := by decide +kernel
theorem dX9_init_251 : decode cX9_init 251 = .ok (.bipush 100, 2) := by decide +kernel
theorem dX9_init_253 : decode cX9_init 253 = .ok (.bipush 32, 2) := by decide +kernel
theorem dX9_init_255 : decode cX9_init 255 = .ok (.bipush 59, 2) := by decide +kernel
theorem dX9_init_257 : decode cX9_init 257 = .ok (.bipush 32, 2) := by decide +kernel
theorem dX9_init_259 : decode cX9_init 259 = .ok (.bipush 102, 2) := by decide +kernel
theorem dX9_init_261 : decode cX9_init 261 = .ok (.bipush 105, 2) := by decide +kernel
theorem dX9_init_263 : decode cX9_init 263 = .ok (.bipush 114, 2) := by decide +kernel
theorem dX9_init_265 : decode cX9_init 265 = .ok (.bipush 115, 2) := by decide +kernel
theorem dX9_init_267 : decode cX9_init 267 = .ok (.invokevirtual 84, 3) := by decide +kernel
theorem dX9_init_270 : decode cX9_init 270 = .ok (.aload_n 0, 1) := by decide +kernel
theorem dX9_init_271 : decode cX9_init 271 = .ok (.bipush 32, 2) := by decide +kernel
theorem dX9_init_273 : decode cX9_init 273 = .ok (.bipush 116, 2) := by decide +kernel
theorem dX9_init_275 : decode cX9_init 275 = .ok (.bipush 32, 2) := by decide +kernel
theorem dX9_init_277 : decode cX9_init 277 = .ok (.bipush 119, 2) := by decide +kernel
theorem dX9_init_279 : decode cX9_init 279 = .ok (.bipush 97, 2) := by decide +kernel
theorem dX9_init_281 : decode cX9_init 281 = .ok (.bipush 105, 2) := by decide +kernel
theorem dX9_init_283 : decode cX9_init 283 = .ok (.bipush 116, 2) := by decide +kernel
theorem dX9_init_285 : decode cX9_init 285 = .ok (.bipush 101, 2) := by decide +kernel
theorem dX9_init_287 : decode cX9_init 287 = .ok (.bipush 100, 2) := by decide +kernel
theorem dX9_init_289 : decode cX9_init 289 = .ok (.invokevirtual 84, 3) := by decide +kernel
theorem dX9_init_292 : decode cX9_init 292 = .ok (.aload_n 0, 1) := by decide +kernel
theorem dX9_init_293 : decode cX9_init 293 = .ok (.bipush 40, 2) := by decide +kernel
theorem dX9_init_295 : decode cX9_init 295 = .ok (.bipush 32, 2) := by decide +kernel
theorem dX9_init_297 : decode cX9_init 297 = .ok (.bipush 45, 2) := by decide +kernel
theorem dX9_init_299 : decode cX9_init 299 = .ok (.bipush 32, 2) := by decide +kernel
theorem dX9_init_301 : decode cX9_init 301 = .ok (.bipush 115, 2) := by decide +kernel
theorem dX9_init_303 : decode cX9_init 303 = .ok (.bipush 117, 2) := by decide +kernel
theorem dX9_init_305 : decode cX9_init 305 = .ok (.bipush 110, 2) := by decide +kernel
theorem dX9_init_307 : decode cX9_init 307 = .ok (.bipush 103, 2) := by decide +kernel
theorem dX9_init_309 : decode cX9_init 309 = .ok (.bipush 32, 2) := by decide +kernel
theorem dX9_init_311 : decode cX9_init 311 = .ok (.invokevirtual 84, 3) := by decide +kernel
theorem dX9_init_314 : decode cX9_init 314 = .ok (.aload_n 0, 1) := by decide +kernel
theorem dX9_init_315 : decode cX9_init 315 = .ok (.bipush 48, 2) := by decide +kernel
theorem dX9_init_317 : decode cX9_init 317 = .ok (.bipush 42, 2) := by decide +kernel
theorem dX9_init_319 : decode cX9_init 319 = .ok (.bipush 32, 2) := by decide +kernel
theorem dX9_init_321 : decode cX9_init 321 = .ok (.bipush 57, 2) := by decide +kernel
theorem dX9_init_323 : decode cX9_init 323 = .ok (.bipush 32, 2) := by decide +kernel
theorem dX9_init_325 : decode cX9_init 325 = .ok (.bipush 59, 2) := by decide +kernel
theorem dX9_init_327 : decode cX9_init 327 = .ok (.bipush 32, 2) := by decide +kernel
theorem dX9_init_329 : decode cX9_init 329 = .ok (.bipush 32, 2) := by decide +kernel
theorem dX9_init_331 : decode cX9_init 331 = .ok (.bipush 32, 2) := by decide +kernel
theorem dX9_init_333 : decode cX9_init 333 = .ok (.invokevirtual 84, 3) := by decide +kernel
theorem dX9_init_336 : decode cX9_init 336 = .ok (.aload_n 0, 1) := by decide +kernel
theorem dX9_init_337 : decode cX9_init 337 = .ok (.getfield 17, 3) := by decide +kernel
theorem dX9_init_340 : decode cX9_init 340 = .ok (.iconst 0, 1) := by decide +kernel
theorem dX9_init_341 : decode cX9_init 341 = .ok (.bipush 56, 2) := by decide +kernel
theorem dX9_init_343 : decode cX9_init 343 = .ok (.iastore, 1) := by decide +kernel
theorem dX9_init_344 : decode cX9_init 344 = .ok (.aload_n 0, 1) := by decide +kernel
theorem dX9_init_345 : decode cX9_init 345 = .ok (.iconst 1, 1) := by decide +kernel
theorem dX9_init_346 : decode cX9_init 346 = .ok (.putfield 88, 3) := by decide +kernel
theorem dX9_init_349 : decode cX9_init 349 = .ok (.return_, 1) := by decide +kernel
theorem dX9_spell_0 : decode cX9_spell 0 = .ok (.aload_n 0, 1) := by decide +kernel
theorem dX9_spell_1 : decode cX9_spell 1 = .ok (.getfield 13, 3) := by decide +kernel
theorem dX9_spell_4 : decode cX9_spell 4 = .ok (.iload_n 1, 1) := by decide +kernel
theorem dX9_spell_5 : decode cX9_spell 5 = .ok (.iload_n 2, 1) := by decide +kernel
theorem dX9_spell_6 : decode cX9_spell 6 = .ok (.iastore, 1) := by decide +kernel
theorem dX9_spell_7 : decode cX9_spell 7 = .ok (.aload_n 0, 1) := by decide +kernel
theorem dX9_spell_8 : decode cX9_spell 8 = .ok (.getfield 13, 3) := by decide +kernel
theorem dX9_spell_11 : decode cX9_spell 11 = .ok (.iload_n 1, 1) := by decide +kernel
theorem dX9_spell_12 : decode cX9_spell 12 = .ok (.iconst 1, 1) := by decide +kernel
theorem dX9_spell_13 : decode cX9_spell 13 = .ok (.iadd, 1) := by decide +kernel
theorem dX9_spell_14 : decode cX9_spell 14 = .ok (.iload_n 3, 1) := by decide +kernel
theorem dX9_spell_15 : decode cX9_spell 15 = .ok (.iastore, 1) := by decide +kernel
theorem dX9_spell_16 : decode cX9_spell 16 = .ok (.aload_n 0, 1) := by decide +kernel
theorem dX9_spell_17 : decode cX9_spell 17 = .ok (.getfield 13, 3) := by decide +kernel
theorem dX9_spell_20 : decode cX9_spell 20 = .ok (.iload_n 1, 1) := by decide +kernel
theorem dX9_spell_21 : decode cX9_spell 21 = .ok (.iconst 2, 1) := by decide +kernel
theorem dX9_spell_22 : decode cX9_spell 22 = .ok (.iadd, 1) := by decide +kernel
theorem dX9_spell_23 : decode cX9_spell 23 = .ok (.iload 4, 2) := by decide +kernel
theorem dX9_spell_25 : decode cX9_spell 25 = .ok (.iastore, 1) := by decide +kernel
theorem dX9_spell_26 : decode cX9_spell 26 = .ok (.aload_n 0, 1) := by decide +kernel
theorem dX9_spell_27 : decode cX9_spell 27 = .ok (.getfield 13, 3) := by decide +kernel
theorem dX9_spell_30 : decode cX9_spell 30 = .ok (.iload_n 1, 1) := by decide +kernel
theorem dX9_spell_31 : decode cX9_spell 31 = .ok (.iconst 3, 1) := by decide +kernel
theorem dX9_spell_32 : decode cX9_spell 32 = .ok (.iadd, 1) := by decide +kernel
theorem dX9_spell_33 : decode cX9_spell 33 = .ok (.iload 5, 2) := by decide +kernel
theorem dX9_spell_35 : decode cX9_spell 35 = .ok (.iastore, 1) := by decide +kernel
theorem dX9_spell_36 : decode cX9_spell 36 = .ok (.aload_n 0, 1) := by decide +kernel
theorem dX9_spell_37 : decode cX9_spell 37 = .ok (.getfield 13, 3) := by decide +kernel
theorem dX9_spell_40 : decode cX9_spell 40 = .ok (.iload_n 1, 1) := by decide +kernel
theorem dX9_spell_41 : decode cX9_spell 41 = .ok (.iconst 4, 1) := by decide +kernel
theorem dX9_spell_42 : decode cX9_spell 42 = .ok (.iadd, 1) := by decide +kernel
theorem dX9_spell_43 : decode cX9_spell 43 = .ok (.iload 6, 2) := by decide +kernel
theorem dX9_spell_45 : decode cX9_spell 45 = .ok (.iastore, 1) := by decide +kernel
theorem dX9_spell_46 : decode cX9_spell 46 = .ok (.aload_n 0, 1) := by decide +kernel
theorem dX9_spell_47 : decode cX9_spell 47 = .ok (.getfield 13, 3) := by decide +kernel
theorem dX9_spell_50 : decode cX9_spell 50 = .ok (.iload_n 1, 1) := by decide +kernel
theorem dX9_spell_51 : decode cX9_spell 51 = .ok (.iconst 5, 1) := by decide +kernel
theorem dX9_spell_52 : decode cX9_spell 52 = .ok (.iadd, 1) := by decide +kernel
theorem dX9_spell_53 : decode cX9_spell 53 = .ok (.iload 7, 2) := by decide +kernel
theorem dX9_spell_55 : decode cX9_spell 55 = .ok (.iastore, 1) := by decide +kernel
theorem dX9_spell_56 : decode cX9_spell 56 = .ok (.aload_n 0, 1) := by decide +kernel
theorem dX9_spell_57 : decode cX9_spell 57 = .ok (.getfield 13, 3) := by decide +kernel
theorem dX9_spell_60 : decode cX9_spell 60 = .ok (.iload_n 1, 1) := by decide +kernel
theorem dX9_spell_61 : decode cX9_spell 61 = .ok (.bipush 6, 2) := by decide +kernel
theorem dX9_spell_63 : decode cX9_spell 63 = .ok (.iadd, 1) := by decide +kernel
theorem dX9_spell_64 : decode cX9_spell 64 = .ok (.iload 8, 2) := by decide +kernel
theorem dX9_spell_66 : decode cX9_spell 66 = .ok (.iastore, 1) := by decide +kernel
theorem dX9_spell_67 : decode cX9_spell 67 = .ok (.aload_n 0, 1) := by decide +kernel
theorem dX9_spell_68 : decode cX9_spell 68 = .ok (.getfield 13, 3) := by decide +kernel
theorem dX9_spell_71 : decode cX9_spell 71 = .ok (.iload_n 1, 1) := by decide +kernel
theorem dX9_spell_72 : decode cX9_spell 72 = .ok (.bipush 7, 2) := by decide +kernel
theorem dX9_spell_74 : decode cX9_spell 74 = .ok (.iadd, 1) := by decide +kernel
theorem dX9_spell_75 : decode cX9_spell 75 = .ok (.iload 9, 2) := by decide +kernel
theorem dX9_spell_77 : decode cX9_spell 77 = .ok (.iastore, 1) := by decide +kernel
theorem dX9_spell_78 : decode cX9_spell 78 = .ok (.return_, 1) := by decide +kernel
theorem dX9_isOne_0 : decode cX9_isOne 0 = .ok (.iload_n 1, 1) := by decide +kernel
theorem dX9_isOne_1 : decode cX9_isOne 1 = .ok (.i2l, 1) := by decide +kernel
theorem dX9_isOne_2 : decode cX9_isOne 2 = .ok (.lconst 0, 1) := by decide +kernel
theorem dX9_isOne_3 : decode cX9_isOne 3 = .ok (.aload_n 0, 1) := by decide +kernel
theorem dX9_isOne_4 : decode cX9_isOne 4 = .ok (.getfield 91, 3) := by decide +kernel
theorem dX9_isOne_7 : decode cX9_isOne 7 = .ok (.iconst 1, 1) := by decide +kernel
theorem dX9_isOne_8 : decode cX9_isOne 8 = .ok (.isub, 1) := by decide +kernel
theorem dX9_isOne_9 : decode cX9_isOne 9 = .ok (.i2l, 1) := by decide +kernel
theorem dX9_isOne_10 : decode cX9_isOne 10 = .ok (.invokestatic 94, 3) := by decide +kernel
theorem dX9_isOne_13 : decode cX9_isOne 13 = .ok (.ireturn, 1) := by decide +kernel
theorem dX9_isSlip_0 : decode cX9_isSlip 0 = .ok (.iload_n 1, 1) := by decide +kernel
theorem dX9_isSlip_1 : decode cX9_isSlip 1 = .ok (.i2l, 1) := by decide +kernel
theorem dX9_isSlip_2 : decode cX9_isSlip 2 = .ok (.lconst 0, 1) := by decide +kernel
theorem dX9_isSlip_3 : decode cX9_isSlip 3 = .ok (.aload_n 0, 1) := by decide +kernel
theorem dX9_isSlip_4 : decode cX9_isSlip 4 = .ok (.getfield 98, 3) := by decide +kernel
theorem dX9_isSlip_7 : decode cX9_isSlip 7 = .ok (.iconst 1, 1) := by decide +kernel
theorem dX9_isSlip_8 : decode cX9_isSlip 8 = .ok (.isub, 1) := by decide +kernel
theorem dX9_isSlip_9 : decode cX9_isSlip 9 = .ok (.i2l, 1) := by decide +kernel
theorem dX9_isSlip_10 : decode cX9_isSlip 10 = .ok (.invokestatic 94, 3) := by decide +kernel
theorem dX9_isSlip_13 : decode cX9_isSlip 13 = .ok (.ireturn, 1) := by decide +kernel
theorem dX9_come_0 : decode cX9_come 0 = .ok (.iload_n 1, 1) := by decide +kernel
theorem dX9_come_1 : decode cX9_come 1 = .ok (.i2l, 1) := by decide +kernel
theorem dX9_come_2 : decode cX9_come 2 = .ok (.lconst 0, 1) := by decide +kernel
theorem dX9_come_3 : decode cX9_come 3 = .ok (.ldc2_w 101, 3) := by decide +kernel
theorem dX9_come_6 : decode cX9_come 6 = .ok (.invokestatic 94, 3) := by decide +kernel
theorem dX9_come_9 : decode cX9_come 9 = .ok (.ifCond .eq 15, 3) := by decide +kernel
theorem dX9_come_12 : decode cX9_come 12 = .ok (.iload_n 2, 1) := by decide +kernel
theorem dX9_come_13 : decode cX9_come 13 = .ok (.i2l, 1) := by decide +kernel
theorem dX9_come_14 : decode cX9_come 14 = .ok (.lconst 0, 1) := by decide +kernel
theorem dX9_come_15 : decode cX9_come 15 = .ok (.ldc2_w 103, 3) := by decide +kernel
theorem dX9_come_18 : decode cX9_come 18 = .ok (.invokestatic 94, 3) := by decide +kernel
theorem dX9_come_21 : decode cX9_come 21 = .ok (.ifCond .ne 6, 3) := by decide +kernel
theorem dX9_come_24 : decode cX9_come 24 = .ok (.bipush (-2), 2) := by decide +kernel
theorem dX9_come_26 : decode cX9_come 26 = .ok (.ireturn, 1) := by decide +kernel
theorem dX9_come_27 : decode cX9_come 27 = .ok (.aload_n 0, 1) := by decide +kernel
theorem dX9_come_28 : decode cX9_come 28 = .ok (.getfield 91, 3) := by decide +kernel
theorem dX9_come_31 : decode cX9_come 31 = .ok (.bipush 8, 2) := by decide +kernel
theorem dX9_come_33 : decode cX9_come 33 = .ok (.if_icmp .ne 6, 3) := by decide +kernel
theorem dX9_come_36 : decode cX9_come 36 = .ok (.bipush (-4), 2) := by decide +kernel
theorem dX9_come_38 : decode cX9_come 38 = .ok (.ireturn, 1) := by decide +kernel
theorem dX9_come_39 : decode cX9_come 39 = .ok (.aload_n 0, 1) := by decide +kernel
theorem dX9_come_40 : decode cX9_come 40 = .ok (.getfield 23, 3) := by decide +kernel
theorem dX9_come_43 : decode cX9_come 43 = .ok (.aload_n 0, 1) := by decide +kernel
theorem dX9_come_44 : decode cX9_come 44 = .ok (.getfield 91, 3) := by decide +kernel
theorem dX9_come_47 : decode cX9_come 47 = .ok (.iload_n 1, 1) := by decide +kernel
theorem dX9_come_48 : decode cX9_come 48 = .ok (.iastore, 1) := by decide +kernel
theorem dX9_come_49 : decode cX9_come 49 = .ok (.aload_n 0, 1) := by decide +kernel
theorem dX9_come_50 : decode cX9_come 50 = .ok (.getfield 26, 3) := by decide +kernel
theorem dX9_come_53 : decode cX9_come 53 = .ok (.aload_n 0, 1) := by decide +kernel
theorem dX9_come_54 : decode cX9_come 54 = .ok (.getfield 91, 3) := by decide +kernel
theorem dX9_come_57 : decode cX9_come 57 = .ok (.iload_n 2, 1) := by decide +kernel
theorem dX9_come_58 : decode cX9_come 58 = .ok (.iastore, 1) := by decide +kernel
theorem dX9_come_59 : decode cX9_come 59 = .ok (.aload_n 0, 1) := by decide +kernel
theorem dX9_come_60 : decode cX9_come 60 = .ok (.dup, 1) := by decide +kernel
theorem dX9_come_61 : decode cX9_come 61 = .ok (.getfield 91, 3) := by decide +kernel
theorem dX9_come_64 : decode cX9_come 64 = .ok (.iconst 1, 1) := by decide +kernel
theorem dX9_come_65 : decode cX9_come 65 = .ok (.iadd, 1) := by decide +kernel
theorem dX9_come_66 : decode cX9_come 66 = .ok (.putfield 91, 3) := by decide +kernel
theorem dX9_come_69 : decode cX9_come 69 = .ok (.aload_n 0, 1) := by decide +kernel
theorem dX9_come_70 : decode cX9_come 70 = .ok (.getfield 91, 3) := by decide +kernel
theorem dX9_come_73 : decode cX9_come 73 = .ok (.iconst 1, 1) := by decide +kernel
theorem dX9_come_74 : decode cX9_come 74 = .ok (.isub, 1) := by decide +kernel
theorem dX9_come_75 : decode cX9_come 75 = .ok (.ireturn, 1) := by decide +kernel
theorem dX9_slip_0 : decode cX9_slip 0 = .ok (.iload_n 1, 1) := by decide +kernel
theorem dX9_slip_1 : decode cX9_slip 1 = .ok (.i2l, 1) := by decide +kernel
theorem dX9_slip_2 : decode cX9_slip 2 = .ok (.lconst 0, 1) := by decide +kernel
theorem dX9_slip_3 : decode cX9_slip 3 = .ok (.ldc2_w 105, 3) := by decide +kernel
theorem dX9_slip_6 : decode cX9_slip 6 = .ok (.invokestatic 94, 3) := by decide +kernel
theorem dX9_slip_9 : decode cX9_slip 9 = .ok (.ifCond .eq 25, 3) := by decide +kernel
theorem dX9_slip_12 : decode cX9_slip 12 = .ok (.iload_n 2, 1) := by decide +kernel
theorem dX9_slip_13 : decode cX9_slip 13 = .ok (.i2l, 1) := by decide +kernel
theorem dX9_slip_14 : decode cX9_slip 14 = .ok (.ldc2_w 107, 3) := by decide +kernel
theorem dX9_slip_17 : decode cX9_slip 17 = .ok (.ldc2_w 101, 3) := by decide +kernel
theorem dX9_slip_20 : decode cX9_slip 20 = .ok (.invokestatic 94, 3) := by decide +kernel
theorem dX9_slip_23 : decode cX9_slip 23 = .ok (.ifCond .eq 11, 3) := by decide +kernel
theorem dX9_slip_26 : decode cX9_slip 26 = .ok (.aload_n 0, 1) := by decide +kernel
theorem dX9_slip_27 : decode cX9_slip 27 = .ok (.iload_n 3, 1) := by decide +kernel
theorem dX9_slip_28 : decode cX9_slip 28 = .ok (.invokevirtual 109, 3) := by decide +kernel
theorem dX9_slip_31 : decode cX9_slip 31 = .ok (.ifCond .ne 6, 3) := by decide +kernel
theorem dX9_slip_34 : decode cX9_slip 34 = .ok (.bipush (-2), 2) := by decide +kernel
theorem dX9_slip_36 : decode cX9_slip 36 = .ok (.ireturn, 1) := by decide +kernel
theorem dX9_slip_37 : decode cX9_slip 37 = .ok (.aload_n 0, 1) := by decide +kernel
theorem dX9_slip_38 : decode cX9_slip 38 = .ok (.getfield 98, 3) := by decide +kernel
theorem dX9_slip_41 : decode cX9_slip 41 = .ok (.bipush 7, 2) := by decide +kernel
theorem dX9_slip_43 : decode cX9_slip 43 = .ok (.if_icmp .ne 6, 3) := by decide +kernel
theorem dX9_slip_46 : decode cX9_slip 46 = .ok (.bipush (-4), 2) := by decide +kernel
theorem dX9_slip_48 : decode cX9_slip 48 = .ok (.ireturn, 1) := by decide +kernel
theorem dX9_slip_49 : decode cX9_slip 49 = .ok (.aload_n 0, 1) := by decide +kernel
theorem dX9_slip_50 : decode cX9_slip 50 = .ok (.getfield 29, 3) := by decide +kernel
theorem dX9_slip_53 : decode cX9_slip 53 = .ok (.aload_n 0, 1) := by decide +kernel
theorem dX9_slip_54 : decode cX9_slip 54 = .ok (.getfield 98, 3) := by decide +kernel
theorem dX9_slip_57 : decode cX9_slip 57 = .ok (.iload_n 1, 1) := by decide +kernel
theorem dX9_slip_58 : decode cX9_slip 58 = .ok (.iastore, 1) := by decide +kernel
theorem dX9_slip_59 : decode cX9_slip 59 = .ok (.aload_n 0, 1) := by decide +kernel
theorem dX9_slip_60 : decode cX9_slip 60 = .ok (.getfield 35, 3) := by decide +kernel
theorem dX9_slip_63 : decode cX9_slip 63 = .ok (.aload_n 0, 1) := by decide +kernel
theorem dX9_slip_64 : decode cX9_slip 64 = .ok (.getfield 98, 3) := by decide +kernel
theorem dX9_slip_67 : decode cX9_slip 67 = .ok (.iload_n 2, 1) := by decide +kernel
theorem dX9_slip_68 : decode cX9_slip 68 = .ok (.bipush 10, 2) := by decide +kernel
theorem dX9_slip_70 : decode cX9_slip 70 = .ok (.idiv, 1) := by decide +kernel
theorem dX9_slip_71 : decode cX9_slip 71 = .ok (.iastore, 1) := by decide +kernel
theorem dX9_slip_72 : decode cX9_slip 72 = .ok (.aload_n 0, 1) := by decide +kernel
theorem dX9_slip_73 : decode cX9_slip 73 = .ok (.getfield 32, 3) := by decide +kernel
theorem dX9_slip_76 : decode cX9_slip 76 = .ok (.aload_n 0, 1) := by decide +kernel
theorem dX9_slip_77 : decode cX9_slip 77 = .ok (.getfield 98, 3) := by decide +kernel
theorem dX9_slip_80 : decode cX9_slip 80 = .ok (.iload_n 2, 1) := by decide +kernel
theorem dX9_slip_81 : decode cX9_slip 81 = .ok (.bipush 10, 2) := by decide +kernel
theorem dX9_slip_83 : decode cX9_slip 83 = .ok (.irem, 1) := by decide +kernel
theorem dX9_slip_84 : decode cX9_slip 84 = .ok (.iastore, 1) := by decide +kernel
theorem dX9_slip_85 : decode cX9_slip 85 = .ok (.aload_n 0, 1) := by decide +kernel
theorem dX9_slip_86 : decode cX9_slip 86 = .ok (.getfield 38, 3) := by decide +kernel
theorem dX9_slip_89 : decode cX9_slip 89 = .ok (.aload_n 0, 1) := by decide +kernel
theorem dX9_slip_90 : decode cX9_slip 90 = .ok (.getfield 98, 3) := by decide +kernel
theorem dX9_slip_93 : decode cX9_slip 93 = .ok (.iload_n 3, 1) := by decide +kernel
theorem dX9_slip_94 : decode cX9_slip 94 = .ok (.iastore, 1) := by decide +kernel
theorem dX9_slip_95 : decode cX9_slip 95 = .ok (.aload_n 0, 1) := by decide +kernel
theorem dX9_slip_96 : decode cX9_slip 96 = .ok (.dup, 1) := by decide +kernel
theorem dX9_slip_97 : decode cX9_slip 97 = .ok (.getfield 98, 3) := by decide +kernel
theorem dX9_slip_100 : decode cX9_slip 100 = .ok (.iconst 1, 1) := by decide +kernel
theorem dX9_slip_101 : decode cX9_slip 101 = .ok (.iadd, 1) := by decide +kernel
theorem dX9_slip_102 : decode cX9_slip 102 = .ok (.putfield 98, 3) := by decide +kernel
theorem dX9_slip_105 : decode cX9_slip 105 = .ok (.aload_n 0, 1) := by decide +kernel
theorem dX9_slip_106 : decode cX9_slip 106 = .ok (.getfield 98, 3) := by decide +kernel
theorem dX9_slip_109 : decode cX9_slip 109 = .ok (.iconst 1, 1) := by decide +kernel
theorem dX9_slip_110 : decode cX9_slip 110 = .ok (.isub, 1) := by decide +kernel
theorem dX9_slip_111 : decode cX9_slip 111 = .ok (.ireturn, 1) := by decide +kernel
theorem dX9_set_0 : decode cX9_set 0 = .ok (.iload_n 1, 1) := by decide +kernel
theorem dX9_set_1 : decode cX9_set 1 = .ok (.i2l, 1) := by decide +kernel
theorem dX9_set_2 : decode cX9_set 2 = .ok (.lconst 0, 1) := by decide +kernel
theorem dX9_set_3 : decode cX9_set 3 = .ok (.ldc2_w 113, 3) := by decide +kernel
theorem dX9_set_6 : decode cX9_set 6 = .ok (.invokestatic 94, 3) := by decide +kernel
theorem dX9_set_9 : decode cX9_set 9 = .ok (.ifCond .eq 38, 3) := by decide +kernel
theorem dX9_set_12 : decode cX9_set 12 = .ok (.iload_n 1, 1) := by decide +kernel
theorem dX9_set_13 : decode cX9_set 13 = .ok (.iconst 2, 1) := by decide +kernel
theorem dX9_set_14 : decode cX9_set 14 = .ok (.if_icmp .ge 11, 3) := by decide +kernel
theorem dX9_set_17 : decode cX9_set 17 = .ok (.aload_n 0, 1) := by decide +kernel
theorem dX9_set_18 : decode cX9_set 18 = .ok (.iload_n 2, 1) := by decide +kernel
theorem dX9_set_19 : decode cX9_set 19 = .ok (.invokevirtual 109, 3) := by decide +kernel
theorem dX9_set_22 : decode cX9_set 22 = .ok (.ifCond .eq 25, 3) := by decide +kernel
theorem dX9_set_25 : decode cX9_set 25 = .ok (.iload_n 1, 1) := by decide +kernel
theorem dX9_set_26 : decode cX9_set 26 = .ok (.i2l, 1) := by decide +kernel
theorem dX9_set_27 : decode cX9_set 27 = .ok (.ldc2_w 115, 3) := by decide +kernel
theorem dX9_set_30 : decode cX9_set 30 = .ok (.ldc2_w 117, 3) := by decide +kernel
theorem dX9_set_33 : decode cX9_set 33 = .ok (.invokestatic 94, 3) := by decide +kernel
theorem dX9_set_36 : decode cX9_set 36 = .ok (.ifCond .eq 14, 3) := by decide +kernel
theorem dX9_set_39 : decode cX9_set 39 = .ok (.aload_n 0, 1) := by decide +kernel
theorem dX9_set_40 : decode cX9_set 40 = .ok (.iload_n 2, 1) := by decide +kernel
theorem dX9_set_41 : decode cX9_set 41 = .ok (.invokevirtual 119, 3) := by decide +kernel
theorem dX9_set_44 : decode cX9_set 44 = .ok (.ifCond .ne 6, 3) := by decide +kernel
theorem dX9_set_47 : decode cX9_set 47 = .ok (.ldc 122, 2) := by decide +kernel
theorem dX9_set_49 : decode cX9_set 49 = .ok (.ireturn, 1) := by decide +kernel
theorem dX9_set_50 : decode cX9_set 50 = .ok (.iload_n 1, 1) := by decide +kernel
theorem dX9_set_51 : decode cX9_set 51 = .ok (.iconst 4, 1) := by decide +kernel
theorem dX9_set_52 : decode cX9_set 52 = .ok (.if_icmp .ne 11, 3) := by decide +kernel
theorem dX9_set_55 : decode cX9_set 55 = .ok (.aload_n 0, 1) := by decide +kernel
theorem dX9_set_56 : decode cX9_set 56 = .ok (.iload_n 3, 1) := by decide +kernel
theorem dX9_set_57 : decode cX9_set 57 = .ok (.invokevirtual 109, 3) := by decide +kernel
theorem dX9_set_60 : decode cX9_set 60 = .ok (.ifCond .eq 68, 3) := by decide +kernel
theorem dX9_set_63 : decode cX9_set 63 = .ok (.iload_n 3, 1) := by decide +kernel
theorem dX9_set_64 : decode cX9_set 64 = .ok (.i2l, 1) := by decide +kernel
theorem dX9_set_65 : decode cX9_set 65 = .ok (.iload_n 1, 1) := by decide +kernel
theorem dX9_set_66 : decode cX9_set 66 = .ok (.iconst 5, 1) := by decide +kernel
theorem dX9_set_67 : decode cX9_set 67 = .ok (.if_icmp .ne 9, 3) := by decide +kernel
theorem dX9_set_70 : decode cX9_set 70 = .ok (.ldc2_w 123, 3) := by decide +kernel
theorem dX9_set_73 : decode cX9_set 73 = .ok (.goto 19, 3) := by decide +kernel
theorem dX9_set_76 : decode cX9_set 76 = .ok (.iload_n 1, 1) := by decide +kernel
theorem dX9_set_77 : decode cX9_set 77 = .ok (.iconst 3, 1) := by decide +kernel
theorem dX9_set_78 : decode cX9_set 78 = .ok (.if_icmp .eq 9, 3) := by decide +kernel
theorem dX9_set_81 : decode cX9_set 81 = .ok (.iload_n 1, 1) := by decide +kernel
theorem dX9_set_82 : decode cX9_set 82 = .ok (.bipush 6, 2) := by decide +kernel
theorem dX9_set_84 : decode cX9_set 84 = .ok (.if_icmp .ne 7, 3) := by decide +kernel
theorem dX9_set_87 : decode cX9_set 87 = .ok (.lconst 1, 1) := by decide +kernel
theorem dX9_set_88 : decode cX9_set 88 = .ok (.goto 4, 3) := by decide +kernel
theorem dX9_set_91 : decode cX9_set 91 = .ok (.lconst 0, 1) := by decide +kernel
theorem dX9_set_92 : decode cX9_set 92 = .ok (.iload_n 1, 1) := by decide +kernel
theorem dX9_set_93 : decode cX9_set 93 = .ok (.iconst 1, 1) := by decide +kernel
theorem dX9_set_94 : decode cX9_set 94 = .ok (.if_icmp .ne 9, 3) := by decide +kernel
theorem dX9_set_97 : decode cX9_set 97 = .ok (.ldc2_w 103, 3) := by decide +kernel
theorem dX9_set_100 : decode cX9_set 100 = .ok (.goto 22, 3) := by decide +kernel
theorem dX9_set_103 : decode cX9_set 103 = .ok (.iload_n 1, 1) := by decide +kernel
theorem dX9_set_104 : decode cX9_set 104 = .ok (.iconst 2, 1) := by decide +kernel
theorem dX9_set_105 : decode cX9_set 105 = .ok (.if_icmp .eq 8, 3) := by decide +kernel
theorem dX9_set_108 : decode cX9_set 108 = .ok (.iload_n 1, 1) := by decide +kernel
theorem dX9_set_109 : decode cX9_set 109 = .ok (.iconst 3, 1) := by decide +kernel
theorem dX9_set_110 : decode cX9_set 110 = .ok (.if_icmp .ne 9, 3) := by decide +kernel
theorem dX9_set_113 : decode cX9_set 113 = .ok (.ldc2_w 125, 3) := by decide +kernel
theorem dX9_set_116 : decode cX9_set 116 = .ok (.goto 6, 3) := by decide +kernel
theorem dX9_set_119 : decode cX9_set 119 = .ok (.ldc2_w 101, 3) := by decide +kernel
theorem dX9_set_122 : decode cX9_set 122 = .ok (.invokestatic 94, 3) := by decide +kernel
theorem dX9_set_125 : decode cX9_set 125 = .ok (.ifCond .ne 6, 3) := by decide +kernel
theorem dX9_set_128 : decode cX9_set 128 = .ok (.ldc 122, 2) := by decide +kernel
theorem dX9_set_130 : decode cX9_set 130 = .ok (.ireturn, 1) := by decide +kernel
theorem dX9_set_131 : decode cX9_set 131 = .ok (.iload_n 1, 1) := by decide +kernel
theorem dX9_set_132 : decode cX9_set 132 = .ok (.ifCond .ne 12, 3) := by decide +kernel
theorem dX9_set_135 : decode cX9_set 135 = .ok (.aload_n 0, 1) := by decide +kernel
theorem dX9_set_136 : decode cX9_set 136 = .ok (.getfield 23, 3) := by decide +kernel
theorem dX9_set_139 : decode cX9_set 139 = .ok (.iload_n 2, 1) := by decide +kernel
theorem dX9_set_140 : decode cX9_set 140 = .ok (.iaload, 1) := by decide +kernel
theorem dX9_set_141 : decode cX9_set 141 = .ok (.goto 75, 3) := by decide +kernel
theorem dX9_set_144 : decode cX9_set 144 = .ok (.iload_n 1, 1) := by decide +kernel
theorem dX9_set_145 : decode cX9_set 145 = .ok (.iconst 1, 1) := by decide +kernel
theorem dX9_set_146 : decode cX9_set 146 = .ok (.if_icmp .ne 12, 3) := by decide +kernel
theorem dX9_set_149 : decode cX9_set 149 = .ok (.aload_n 0, 1) := by decide +kernel
theorem dX9_set_150 : decode cX9_set 150 = .ok (.getfield 26, 3) := by decide +kernel
theorem dX9_set_153 : decode cX9_set 153 = .ok (.iload_n 2, 1) := by decide +kernel
theorem dX9_set_154 : decode cX9_set 154 = .ok (.iaload, 1) := by decide +kernel
theorem dX9_set_155 : decode cX9_set 155 = .ok (.goto 61, 3) := by decide +kernel
theorem dX9_set_158 : decode cX9_set 158 = .ok (.iload_n 1, 1) := by decide +kernel
theorem dX9_set_159 : decode cX9_set 159 = .ok (.iconst 2, 1) := by decide +kernel
theorem dX9_set_160 : decode cX9_set 160 = .ok (.if_icmp .ne 12, 3) := by decide +kernel
theorem dX9_set_163 : decode cX9_set 163 = .ok (.aload_n 0, 1) := by decide +kernel
theorem dX9_set_164 : decode cX9_set 164 = .ok (.getfield 32, 3) := by decide +kernel
theorem dX9_set_167 : decode cX9_set 167 = .ok (.iload_n 2, 1) := by decide +kernel
theorem dX9_set_168 : decode cX9_set 168 = .ok (.iaload, 1) := by decide +kernel
theorem dX9_set_169 : decode cX9_set 169 = .ok (.goto 47, 3) := by decide +kernel
theorem dX9_set_172 : decode cX9_set 172 = .ok (.iload_n 1, 1) := by decide +kernel
theorem dX9_set_173 : decode cX9_set 173 = .ok (.iconst 3, 1) := by decide +kernel
theorem dX9_set_174 : decode cX9_set 174 = .ok (.if_icmp .ne 12, 3) := by decide +kernel
theorem dX9_set_177 : decode cX9_set 177 = .ok (.aload_n 0, 1) := by decide +kernel
theorem dX9_set_178 : decode cX9_set 178 = .ok (.getfield 35, 3) := by decide +kernel
theorem dX9_set_181 : decode cX9_set 181 = .ok (.iload_n 2, 1) := by decide +kernel
theorem dX9_set_182 : decode cX9_set 182 = .ok (.iaload, 1) := by decide +kernel
theorem dX9_set_183 : decode cX9_set 183 = .ok (.goto 33, 3) := by decide +kernel
theorem dX9_set_186 : decode cX9_set 186 = .ok (.iload_n 1, 1) := by decide +kernel
theorem dX9_set_187 : decode cX9_set 187 = .ok (.iconst 4, 1) := by decide +kernel
theorem dX9_set_188 : decode cX9_set 188 = .ok (.if_icmp .ne 12, 3) := by decide +kernel
theorem dX9_set_191 : decode cX9_set 191 = .ok (.aload_n 0, 1) := by decide +kernel
theorem dX9_set_192 : decode cX9_set 192 = .ok (.getfield 38, 3) := by decide +kernel
theorem dX9_set_195 : decode cX9_set 195 = .ok (.iload_n 2, 1) := by decide +kernel
theorem dX9_set_196 : decode cX9_set 196 = .ok (.iaload, 1) := by decide +kernel
theorem dX9_set_197 : decode cX9_set 197 = .ok (.goto 19, 3) := by decide +kernel
theorem dX9_set_200 : decode cX9_set 200 = .ok (.iload_n 1, 1) := by decide +kernel
theorem dX9_set_201 : decode cX9_set 201 = .ok (.iconst 5, 1) := by decide +kernel
theorem dX9_set_202 : decode cX9_set 202 = .ok (.if_icmp .ne 10, 3) := by decide +kernel
theorem dX9_set_205 : decode cX9_set 205 = .ok (.aload_n 0, 1) := by decide +kernel
theorem dX9_set_206 : decode cX9_set 206 = .ok (.getfield 127, 3) := by decide +kernel
theorem dX9_set_209 : decode cX9_set 209 = .ok (.goto 7, 3) := by decide +kernel
theorem dX9_set_212 : decode cX9_set 212 = .ok (.aload_n 0, 1) := by decide +kernel
theorem dX9_set_213 : decode cX9_set 213 = .ok (.getfield 41, 3) := by decide +kernel
theorem dX9_set_216 : decode cX9_set 216 = .ok (.istore 4, 2) := by decide +kernel
theorem dX9_set_218 : decode cX9_set 218 = .ok (.iload_n 1, 1) := by decide +kernel
theorem dX9_set_219 : decode cX9_set 219 = .ok (.ifCond .ne 13, 3) := by decide +kernel
theorem dX9_set_222 : decode cX9_set 222 = .ok (.aload_n 0, 1) := by decide +kernel
theorem dX9_set_223 : decode cX9_set 223 = .ok (.getfield 23, 3) := by decide +kernel
theorem dX9_set_226 : decode cX9_set 226 = .ok (.iload_n 2, 1) := by decide +kernel
theorem dX9_set_227 : decode cX9_set 227 = .ok (.iload_n 3, 1) := by decide +kernel
theorem dX9_set_228 : decode cX9_set 228 = .ok (.iastore, 1) := by decide +kernel
theorem dX9_set_229 : decode cX9_set 229 = .ok (.goto 81, 3) := by decide +kernel
theorem dX9_set_232 : decode cX9_set 232 = .ok (.iload_n 1, 1) := by decide +kernel
theorem dX9_set_233 : decode cX9_set 233 = .ok (.iconst 1, 1) := by decide +kernel
theorem dX9_set_234 : decode cX9_set 234 = .ok (.if_icmp .ne 13, 3) := by decide +kernel
theorem dX9_set_237 : decode cX9_set 237 = .ok (.aload_n 0, 1) := by decide +kernel
theorem dX9_set_238 : decode cX9_set 238 = .ok (.getfield 26, 3) := by decide +kernel
theorem dX9_set_241 : decode cX9_set 241 = .ok (.iload_n 2, 1) := by decide +kernel
theorem dX9_set_242 : decode cX9_set 242 = .ok (.iload_n 3, 1) := by decide +kernel
theorem dX9_set_243 : decode cX9_set 243 = .ok (.iastore, 1) := by decide +kernel
theorem dX9_set_244 : decode cX9_set 244 = .ok (.goto 66, 3) := by decide +kernel
theorem dX9_set_247 : decode cX9_set 247 = .ok (.iload_n 1, 1) := by decide +kernel
theorem dX9_set_248 : decode cX9_set 248 = .ok (.iconst 2, 1) := by decide +kernel
theorem dX9_set_249 : decode cX9_set 249 = .ok (.if_icmp .ne 13, 3) := by decide +kernel
theorem dX9_set_252 : decode cX9_set 252 = .ok (.aload_n 0, 1) := by decide +kernel
theorem dX9_set_253 : decode cX9_set 253 = .ok (.getfield 32, 3) := by decide +kernel
theorem dX9_set_256 : decode cX9_set 256 = .ok (.iload_n 2, 1) := by decide +kernel
theorem dX9_set_257 : decode cX9_set 257 = .ok (.iload_n 3, 1) := by decide +kernel
theorem dX9_set_258 : decode cX9_set 258 = .ok (.iastore, 1) := by decide +kernel
theorem dX9_set_259 : decode cX9_set 259 = .ok (.goto 51, 3) := by decide +kernel
theorem dX9_set_262 : decode cX9_set 262 = .ok (.iload_n 1, 1) := by decide +kernel
theorem dX9_set_263 : decode cX9_set 263 = .ok (.iconst 3, 1) := by decide +kernel
theorem dX9_set_264 : decode cX9_set 264 = .ok (.if_icmp .ne 13, 3) := by decide +kernel
theorem dX9_set_267 : decode cX9_set 267 = .ok (.aload_n 0, 1) := by decide +kernel
theorem dX9_set_268 : decode cX9_set 268 = .ok (.getfield 35, 3) := by decide +kernel
theorem dX9_set_271 : decode cX9_set 271 = .ok (.iload_n 2, 1) := by decide +kernel
theorem dX9_set_272 : decode cX9_set 272 = .ok (.iload_n 3, 1) := by decide +kernel
theorem dX9_set_273 : decode cX9_set 273 = .ok (.iastore, 1) := by decide +kernel
theorem dX9_set_274 : decode cX9_set 274 = .ok (.goto 36, 3) := by decide +kernel
theorem dX9_set_277 : decode cX9_set 277 = .ok (.iload_n 1, 1) := by decide +kernel
theorem dX9_set_278 : decode cX9_set 278 = .ok (.iconst 4, 1) := by decide +kernel
theorem dX9_set_279 : decode cX9_set 279 = .ok (.if_icmp .ne 13, 3) := by decide +kernel
theorem dX9_set_282 : decode cX9_set 282 = .ok (.aload_n 0, 1) := by decide +kernel
theorem dX9_set_283 : decode cX9_set 283 = .ok (.getfield 38, 3) := by decide +kernel
theorem dX9_set_286 : decode cX9_set 286 = .ok (.iload_n 2, 1) := by decide +kernel
theorem dX9_set_287 : decode cX9_set 287 = .ok (.iload_n 3, 1) := by decide +kernel
theorem dX9_set_288 : decode cX9_set 288 = .ok (.iastore, 1) := by decide +kernel
theorem dX9_set_289 : decode cX9_set 289 = .ok (.goto 21, 3) := by decide +kernel
theorem dX9_set_292 : decode cX9_set 292 = .ok (.iload_n 1, 1) := by decide +kernel
theorem dX9_set_293 : decode cX9_set 293 = .ok (.iconst 5, 1) := by decide +kernel
theorem dX9_set_294 : decode cX9_set 294 = .ok (.if_icmp .ne 11, 3) := by decide +kernel
theorem dX9_set_297 : decode cX9_set 297 = .ok (.aload_n 0, 1) := by decide +kernel
theorem dX9_set_298 : decode cX9_set 298 = .ok (.iload_n 3, 1) := by decide +kernel
theorem dX9_set_299 : decode cX9_set 299 = .ok (.putfield 127, 3) := by decide +kernel
theorem dX9_set_302 : decode cX9_set 302 = .ok (.goto 8, 3) := by decide +kernel
theorem dX9_set_305 : decode cX9_set 305 = .ok (.aload_n 0, 1) := by decide +kernel
theorem dX9_set_306 : decode cX9_set 306 = .ok (.iload_n 3, 1) := by decide +kernel
theorem dX9_set_307 : decode cX9_set 307 = .ok (.putfield 41, 3) := by decide +kernel
theorem dX9_set_310 : decode cX9_set 310 = .ok (.iload 4, 2) := by decide +kernel
theorem dX9_set_312 : decode cX9_set 312 = .ok (.ireturn, 1) := by decide +kernel
theorem dX9_told_0 : decode cX9_told 0 = .ok (.iload_n 2, 1) := by decide +kernel
theorem dX9_told_1 : decode cX9_told 1 = .ok (.i2l, 1) := by decide +kernel
theorem dX9_told_2 : decode cX9_told 2 = .ok (.lconst 0, 1) := by decide +kernel
theorem dX9_told_3 : decode cX9_told 3 = .ok (.ldc2_w 105, 3) := by decide +kernel
theorem dX9_told_6 : decode cX9_told 6 = .ok (.invokestatic 94, 3) := by decide +kernel
theorem dX9_told_9 : decode cX9_told 9 = .ok (.ifCond .eq 27, 3) := by decide +kernel
theorem dX9_told_12 : decode cX9_told 12 = .ok (.iload_n 2, 1) := by decide +kernel
theorem dX9_told_13 : decode cX9_told 13 = .ok (.iconst 2, 1) := by decide +kernel
theorem dX9_told_14 : decode cX9_told 14 = .ok (.if_icmp .ge 14, 3) := by decide +kernel
theorem dX9_told_17 : decode cX9_told 17 = .ok (.aload_n 0, 1) := by decide +kernel
theorem dX9_told_18 : decode cX9_told 18 = .ok (.iload_n 1, 1) := by decide +kernel
theorem dX9_told_19 : decode cX9_told 19 = .ok (.invokevirtual 109, 3) := by decide +kernel
theorem dX9_told_22 : decode cX9_told 22 = .ok (.ifCond .eq 14, 3) := by decide +kernel
theorem dX9_told_25 : decode cX9_told 25 = .ok (.goto 14, 3) := by decide +kernel
theorem dX9_told_28 : decode cX9_told 28 = .ok (.aload_n 0, 1) := by decide +kernel
theorem dX9_told_29 : decode cX9_told 29 = .ok (.iload_n 1, 1) := by decide +kernel
theorem dX9_told_30 : decode cX9_told 30 = .ok (.invokevirtual 119, 3) := by decide +kernel
theorem dX9_told_33 : decode cX9_told 33 = .ok (.ifCond .ne 6, 3) := by decide +kernel
theorem dX9_told_36 : decode cX9_told 36 = .ok (.bipush (-2), 2) := by decide +kernel
theorem dX9_told_38 : decode cX9_told 38 = .ok (.ireturn, 1) := by decide +kernel
theorem dX9_told_39 : decode cX9_told 39 = .ok (.iload_n 2, 1) := by decide +kernel
theorem dX9_told_40 : decode cX9_told 40 = .ok (.iconst 2, 1) := by decide +kernel
theorem dX9_told_41 : decode cX9_told 41 = .ok (.if_icmp .ge 23, 3) := by decide +kernel
theorem dX9_told_44 : decode cX9_told 44 = .ok (.iload_n 2, 1) := by decide +kernel
theorem dX9_told_45 : decode cX9_told 45 = .ok (.ifCond .ne 12, 3) := by decide +kernel
theorem dX9_told_48 : decode cX9_told 48 = .ok (.aload_n 0, 1) := by decide +kernel
theorem dX9_told_49 : decode cX9_told 49 = .ok (.getfield 23, 3) := by decide +kernel
theorem dX9_told_52 : decode cX9_told 52 = .ok (.iload_n 1, 1) := by decide +kernel
theorem dX9_told_53 : decode cX9_told 53 = .ok (.iaload, 1) := by decide +kernel
theorem dX9_told_54 : decode cX9_told 54 = .ok (.goto 9, 3) := by decide +kernel
theorem dX9_told_57 : decode cX9_told 57 = .ok (.aload_n 0, 1) := by decide +kernel
theorem dX9_told_58 : decode cX9_told 58 = .ok (.getfield 26, 3) := by decide +kernel
theorem dX9_told_61 : decode cX9_told 61 = .ok (.iload_n 1, 1) := by decide +kernel
theorem dX9_told_62 : decode cX9_told 62 = .ok (.iaload, 1) := by decide +kernel
theorem dX9_told_63 : decode cX9_told 63 = .ok (.ireturn, 1) := by decide +kernel
theorem dX9_told_64 : decode cX9_told 64 = .ok (.iload_n 2, 1) := by decide +kernel
theorem dX9_told_65 : decode cX9_told 65 = .ok (.iconst 2, 1) := by decide +kernel
theorem dX9_told_66 : decode cX9_told 66 = .ok (.if_icmp .ne 12, 3) := by decide +kernel
theorem dX9_told_69 : decode cX9_told 69 = .ok (.aload_n 0, 1) := by decide +kernel
theorem dX9_told_70 : decode cX9_told 70 = .ok (.getfield 32, 3) := by decide +kernel
theorem dX9_told_73 : decode cX9_told 73 = .ok (.iload_n 1, 1) := by decide +kernel
theorem dX9_told_74 : decode cX9_told 74 = .ok (.iaload, 1) := by decide +kernel
theorem dX9_told_75 : decode cX9_told 75 = .ok (.goto 37, 3) := by decide +kernel
theorem dX9_told_78 : decode cX9_told 78 = .ok (.iload_n 2, 1) := by decide +kernel
theorem dX9_told_79 : decode cX9_told 79 = .ok (.iconst 3, 1) := by decide +kernel
theorem dX9_told_80 : decode cX9_told 80 = .ok (.if_icmp .ne 12, 3) := by decide +kernel
theorem dX9_told_83 : decode cX9_told 83 = .ok (.aload_n 0, 1) := by decide +kernel
theorem dX9_told_84 : decode cX9_told 84 = .ok (.getfield 35, 3) := by decide +kernel
theorem dX9_told_87 : decode cX9_told 87 = .ok (.iload_n 1, 1) := by decide +kernel
theorem dX9_told_88 : decode cX9_told 88 = .ok (.iaload, 1) := by decide +kernel
theorem dX9_told_89 : decode cX9_told 89 = .ok (.goto 23, 3) := by decide +kernel
theorem dX9_told_92 : decode cX9_told 92 = .ok (.iload_n 2, 1) := by decide +kernel
theorem dX9_told_93 : decode cX9_told 93 = .ok (.iconst 4, 1) := by decide +kernel
theorem dX9_told_94 : decode cX9_told 94 = .ok (.if_icmp .ne 12, 3) := by decide +kernel
theorem dX9_told_97 : decode cX9_told 97 = .ok (.aload_n 0, 1) := by decide +kernel
theorem dX9_told_98 : decode cX9_told 98 = .ok (.getfield 38, 3) := by decide +kernel
theorem dX9_told_101 : decode cX9_told 101 = .ok (.iload_n 1, 1) := by decide +kernel
theorem dX9_told_102 : decode cX9_told 102 = .ok (.iaload, 1) := by decide +kernel
theorem dX9_told_103 : decode cX9_told 103 = .ok (.goto 9, 3) := by decide +kernel
theorem dX9_told_106 : decode cX9_told 106 = .ok (.aload_n 0, 1) := by decide +kernel
theorem dX9_told_107 : decode cX9_told 107 = .ok (.getfield 29, 3) := by decide +kernel
theorem dX9_told_110 : decode cX9_told 110 = .ok (.iload_n 1, 1) := by decide +kernel
theorem dX9_told_111 : decode cX9_told 111 = .ok (.iaload, 1) := by decide +kernel
theorem dX9_told_112 : decode cX9_told 112 = .ok (.ireturn, 1) := by decide +kernel
theorem dX9_moves_0 : decode cX9_moves 0 = .ok (.aload_n 0, 1) := by decide +kernel
theorem dX9_moves_1 : decode cX9_moves 1 = .ok (.getfield 29, 3) := by decide +kernel
theorem dX9_moves_4 : decode cX9_moves 4 = .ok (.iload_n 1, 1) := by decide +kernel
theorem dX9_moves_5 : decode cX9_moves 5 = .ok (.iaload, 1) := by decide +kernel
theorem dX9_moves_6 : decode cX9_moves 6 = .ok (.istore_n 3, 1) := by decide +kernel
theorem dX9_moves_7 : decode cX9_moves 7 = .ok (.iconst 1, 1) := by decide +kernel
theorem dX9_moves_8 : decode cX9_moves 8 = .ok (.aload_n 0, 1) := by decide +kernel
theorem dX9_moves_9 : decode cX9_moves 9 = .ok (.getfield 32, 3) := by decide +kernel
theorem dX9_moves_12 : decode cX9_moves 12 = .ok (.iload_n 1, 1) := by decide +kernel
theorem dX9_moves_13 : decode cX9_moves 13 = .ok (.iaload, 1) := by decide +kernel
theorem dX9_moves_14 : decode cX9_moves 14 = .ok (.isub, 1) := by decide +kernel
theorem dX9_moves_15 : decode cX9_moves 15 = .ok (.istore 4, 2) := by decide +kernel
theorem dX9_moves_17 : decode cX9_moves 17 = .ok (.iconst 1, 1) := by decide +kernel
theorem dX9_moves_18 : decode cX9_moves 18 = .ok (.aload_n 0, 1) := by decide +kernel
theorem dX9_moves_19 : decode cX9_moves 19 = .ok (.getfield 32, 3) := by decide +kernel
theorem dX9_moves_22 : decode cX9_moves 22 = .ok (.iload_n 1, 1) := by decide +kernel
theorem dX9_moves_23 : decode cX9_moves 23 = .ok (.iaload, 1) := by decide +kernel
theorem dX9_moves_24 : decode cX9_moves 24 = .ok (.iadd, 1) := by decide +kernel
theorem dX9_moves_25 : decode cX9_moves 25 = .ok (.istore 5, 2) := by decide +kernel
theorem dX9_moves_27 : decode cX9_moves 27 = .ok (.iload_n 3, 1) := by decide +kernel
theorem dX9_moves_28 : decode cX9_moves 28 = .ok (.iconst 1, 1) := by decide +kernel
theorem dX9_moves_29 : decode cX9_moves 29 = .ok (.if_icmp .eq 8, 3) := by decide +kernel
theorem dX9_moves_32 : decode cX9_moves 32 = .ok (.iload_n 3, 1) := by decide +kernel
theorem dX9_moves_33 : decode cX9_moves 33 = .ok (.iconst 3, 1) := by decide +kernel
theorem dX9_moves_34 : decode cX9_moves 34 = .ok (.if_icmp .ne 19, 3) := by decide +kernel
theorem dX9_moves_37 : decode cX9_moves 37 = .ok (.iload_n 3, 1) := by decide +kernel
theorem dX9_moves_38 : decode cX9_moves 38 = .ok (.iconst 3, 1) := by decide +kernel
theorem dX9_moves_39 : decode cX9_moves 39 = .ok (.if_icmp .ne 11, 3) := by decide +kernel
theorem dX9_moves_42 : decode cX9_moves 42 = .ok (.iload_n 2, 1) := by decide +kernel
theorem dX9_moves_43 : decode cX9_moves 43 = .ok (.ifCond .ge 7, 3) := by decide +kernel
theorem dX9_moves_46 : decode cX9_moves 46 = .ok (.iconst 0, 1) := by decide +kernel
theorem dX9_moves_47 : decode cX9_moves 47 = .ok (.goto 5, 3) := by decide +kernel
theorem dX9_moves_50 : decode cX9_moves 50 = .ok (.iload 4, 2) := by decide +kernel
theorem dX9_moves_52 : decode cX9_moves 52 = .ok (.ireturn, 1) := by decide +kernel
theorem dX9_moves_53 : decode cX9_moves 53 = .ok (.iload_n 3, 1) := by decide +kernel
theorem dX9_moves_54 : decode cX9_moves 54 = .ok (.iconst 4, 1) := by decide +kernel
theorem dX9_moves_55 : decode cX9_moves 55 = .ok (.if_icmp .ne 17, 3) := by decide +kernel
theorem dX9_moves_58 : decode cX9_moves 58 = .ok (.iload_n 2, 1) := by decide +kernel
theorem dX9_moves_59 : decode cX9_moves 59 = .ok (.ifCond .ge 10, 3) := by decide +kernel
theorem dX9_moves_62 : decode cX9_moves 62 = .ok (.iconst 2, 1) := by decide +kernel
theorem dX9_moves_63 : decode cX9_moves 63 = .ok (.iload 5, 2) := by decide +kernel
theorem dX9_moves_65 : decode cX9_moves 65 = .ok (.imul, 1) := by decide +kernel
theorem dX9_moves_66 : decode cX9_moves 66 = .ok (.goto 5, 3) := by decide +kernel
theorem dX9_moves_69 : decode cX9_moves 69 = .ok (.iload 5, 2) := by decide +kernel
theorem dX9_moves_71 : decode cX9_moves 71 = .ok (.ireturn, 1) := by decide +kernel
theorem dX9_moves_72 : decode cX9_moves 72 = .ok (.iload_n 3, 1) := by decide +kernel
theorem dX9_moves_73 : decode cX9_moves 73 = .ok (.iconst 2, 1) := by decide +kernel
theorem dX9_moves_74 : decode cX9_moves 74 = .ok (.if_icmp .ne 8, 3) := by decide +kernel
theorem dX9_moves_77 : decode cX9_moves 77 = .ok (.iload 5, 2) := by decide +kernel
theorem dX9_moves_79 : decode cX9_moves 79 = .ok (.goto 16, 3) := by decide +kernel
theorem dX9_moves_82 : decode cX9_moves 82 = .ok (.iload_n 3, 1) := by decide +kernel
theorem dX9_moves_83 : decode cX9_moves 83 = .ok (.iconst 5, 1) := by decide +kernel
theorem dX9_moves_84 : decode cX9_moves 84 = .ok (.if_icmp .ne 10, 3) := by decide +kernel
theorem dX9_moves_87 : decode cX9_moves 87 = .ok (.iload 5, 2) := by decide +kernel
theorem dX9_moves_89 : decode cX9_moves 89 = .ok (.iconst 2, 1) := by decide +kernel
theorem dX9_moves_90 : decode cX9_moves 90 = .ok (.idiv, 1) := by decide +kernel
theorem dX9_moves_91 : decode cX9_moves 91 = .ok (.goto 4, 3) := by decide +kernel
theorem dX9_moves_94 : decode cX9_moves 94 = .ok (.iconst 1, 1) := by decide +kernel
theorem dX9_moves_95 : decode cX9_moves 95 = .ok (.ireturn, 1) := by decide +kernel
theorem dX9_thirst_0 : decode cX9_thirst 0 = .ok (.aload_n 0, 1) := by decide +kernel
theorem dX9_thirst_1 : decode cX9_thirst 1 = .ok (.getfield 29, 3) := by decide +kernel
theorem dX9_thirst_4 : decode cX9_thirst 4 = .ok (.iload_n 1, 1) := by decide +kernel
theorem dX9_thirst_5 : decode cX9_thirst 5 = .ok (.iaload, 1) := by decide +kernel
theorem dX9_thirst_6 : decode cX9_thirst 6 = .ok (.istore_n 3, 1) := by decide +kernel
theorem dX9_thirst_7 : decode cX9_thirst 7 = .ok (.iload_n 2, 1) := by decide +kernel
theorem dX9_thirst_8 : decode cX9_thirst 8 = .ok (.istore 4, 2) := by decide +kernel
theorem dX9_thirst_10 : decode cX9_thirst 10 = .ok (.iload_n 3, 1) := by decide +kernel
theorem dX9_thirst_11 : decode cX9_thirst 11 = .ok (.iconst 1, 1) := by decide +kernel
theorem dX9_thirst_12 : decode cX9_thirst 12 = .ok (.if_icmp .ne 8, 3) := by decide +kernel
theorem dX9_thirst_15 : decode cX9_thirst 15 = .ok (.iload_n 2, 1) := by decide +kernel
theorem dX9_thirst_16 : decode cX9_thirst 16 = .ok (.iconst 2, 1) := by decide +kernel
theorem dX9_thirst_17 : decode cX9_thirst 17 = .ok (.idiv, 1) := by decide +kernel
theorem dX9_thirst_18 : decode cX9_thirst 18 = .ok (.istore 4, 2) := by decide +kernel
theorem dX9_thirst_20 : decode cX9_thirst 20 = .ok (.iload_n 3, 1) := by decide +kernel
theorem dX9_thirst_21 : decode cX9_thirst 21 = .ok (.iconst 3, 1) := by decide +kernel
theorem dX9_thirst_22 : decode cX9_thirst 22 = .ok (.if_icmp .ne 15, 3) := by decide +kernel
theorem dX9_thirst_25 : decode cX9_thirst 25 = .ok (.iload_n 2, 1) := by decide +kernel
theorem dX9_thirst_26 : decode cX9_thirst 26 = .ok (.iconst 2, 1) := by decide +kernel
theorem dX9_thirst_27 : decode cX9_thirst 27 = .ok (.idiv, 1) := by decide +kernel
theorem dX9_thirst_28 : decode cX9_thirst 28 = .ok (.aload_n 0, 1) := by decide +kernel
theorem dX9_thirst_29 : decode cX9_thirst 29 = .ok (.getfield 32, 3) := by decide +kernel
theorem dX9_thirst_32 : decode cX9_thirst 32 = .ok (.iload_n 1, 1) := by decide +kernel
theorem dX9_thirst_33 : decode cX9_thirst 33 = .ok (.iaload, 1) := by decide +kernel
theorem dX9_thirst_34 : decode cX9_thirst 34 = .ok (.iadd, 1) := by decide +kernel
theorem dX9_thirst_35 : decode cX9_thirst 35 = .ok (.istore 4, 2) := by decide +kernel
theorem dX9_thirst_37 : decode cX9_thirst 37 = .ok (.iload_n 3, 1) := by decide +kernel
theorem dX9_thirst_38 : decode cX9_thirst 38 = .ok (.iconst 4, 1) := by decide +kernel
theorem dX9_thirst_39 : decode cX9_thirst 39 = .ok (.if_icmp .ne 8, 3) := by decide +kernel
theorem dX9_thirst_42 : decode cX9_thirst 42 = .ok (.iload_n 2, 1) := by decide +kernel
theorem dX9_thirst_43 : decode cX9_thirst 43 = .ok (.iconst 1, 1) := by decide +kernel
theorem dX9_thirst_44 : decode cX9_thirst 44 = .ok (.iadd, 1) := by decide +kernel
theorem dX9_thirst_45 : decode cX9_thirst 45 = .ok (.istore 4, 2) := by decide +kernel
theorem dX9_thirst_47 : decode cX9_thirst 47 = .ok (.iload_n 3, 1) := by decide +kernel
theorem dX9_thirst_48 : decode cX9_thirst 48 = .ok (.iconst 5, 1) := by decide +kernel
theorem dX9_thirst_49 : decode cX9_thirst 49 = .ok (.if_icmp .ne 8, 3) := by decide +kernel
theorem dX9_thirst_52 : decode cX9_thirst 52 = .ok (.iload_n 2, 1) := by decide +kernel
theorem dX9_thirst_53 : decode cX9_thirst 53 = .ok (.iconst 3, 1) := by decide +kernel
theorem dX9_thirst_54 : decode cX9_thirst 54 = .ok (.iadd, 1) := by decide +kernel
theorem dX9_thirst_55 : decode cX9_thirst 55 = .ok (.istore 4, 2) := by decide +kernel
theorem dX9_thirst_57 : decode cX9_thirst 57 = .ok (.iload 4, 2) := by decide +kernel
theorem dX9_thirst_59 : decode cX9_thirst 59 = .ok (.ifCond .ge 7, 3) := by decide +kernel
theorem dX9_thirst_62 : decode cX9_thirst 62 = .ok (.iconst 0, 1) := by decide +kernel
theorem dX9_thirst_63 : decode cX9_thirst 63 = .ok (.goto 5, 3) := by decide +kernel
theorem dX9_thirst_66 : decode cX9_thirst 66 = .ok (.iload 4, 2) := by decide +kernel
theorem dX9_thirst_68 : decode cX9_thirst 68 = .ok (.ireturn, 1) := by decide +kernel
theorem dX9_feed_0 : decode cX9_feed 0 = .ok (.iload_n 1, 1) := by decide +kernel
theorem dX9_feed_1 : decode cX9_feed 1 = .ok (.i2l, 1) := by decide +kernel
theorem dX9_feed_2 : decode cX9_feed 2 = .ok (.lconst 0, 1) := by decide +kernel
theorem dX9_feed_3 : decode cX9_feed 3 = .ok (.ldc2_w 130, 3) := by decide +kernel
theorem dX9_feed_6 : decode cX9_feed 6 = .ok (.invokestatic 94, 3) := by decide +kernel
theorem dX9_feed_9 : decode cX9_feed 9 = .ok (.ifCond .ne 6, 3) := by decide +kernel
theorem dX9_feed_12 : decode cX9_feed 12 = .ok (.bipush (-2), 2) := by decide +kernel
theorem dX9_feed_14 : decode cX9_feed 14 = .ok (.ireturn, 1) := by decide +kernel
theorem dX9_feed_15 : decode cX9_feed 15 = .ok (.aload_n 0, 1) := by decide +kernel
theorem dX9_feed_16 : decode cX9_feed 16 = .ok (.getfield 132, 3) := by decide +kernel
theorem dX9_feed_19 : decode cX9_feed 19 = .ok (.sipush 160, 3) := by decide +kernel
theorem dX9_feed_22 : decode cX9_feed 22 = .ok (.if_icmp .ne 6, 3) := by decide +kernel
theorem dX9_feed_25 : decode cX9_feed 25 = .ok (.bipush (-4), 2) := by decide +kernel
theorem dX9_feed_27 : decode cX9_feed 27 = .ok (.ireturn, 1) := by decide +kernel
theorem dX9_feed_28 : decode cX9_feed 28 = .ok (.aload_n 0, 1) := by decide +kernel
theorem dX9_feed_29 : decode cX9_feed 29 = .ok (.getfield 20, 3) := by decide +kernel
theorem dX9_feed_32 : decode cX9_feed 32 = .ok (.aload_n 0, 1) := by decide +kernel
theorem dX9_feed_33 : decode cX9_feed 33 = .ok (.getfield 132, 3) := by decide +kernel
theorem dX9_feed_36 : decode cX9_feed 36 = .ok (.iload_n 1, 1) := by decide +kernel
theorem dX9_feed_37 : decode cX9_feed 37 = .ok (.iastore, 1) := by decide +kernel
theorem dX9_feed_38 : decode cX9_feed 38 = .ok (.aload_n 0, 1) := by decide +kernel
theorem dX9_feed_39 : decode cX9_feed 39 = .ok (.dup, 1) := by decide +kernel
theorem dX9_feed_40 : decode cX9_feed 40 = .ok (.getfield 132, 3) := by decide +kernel
theorem dX9_feed_43 : decode cX9_feed 43 = .ok (.iconst 1, 1) := by decide +kernel
theorem dX9_feed_44 : decode cX9_feed 44 = .ok (.iadd, 1) := by decide +kernel
theorem dX9_feed_45 : decode cX9_feed 45 = .ok (.putfield 132, 3) := by decide +kernel
theorem dX9_feed_48 : decode cX9_feed 48 = .ok (.aload_n 0, 1) := by decide +kernel
theorem dX9_feed_49 : decode cX9_feed 49 = .ok (.getfield 132, 3) := by decide +kernel
theorem dX9_feed_52 : decode cX9_feed 52 = .ok (.ireturn, 1) := by decide +kernel
theorem dX9_byteAt_0 : decode cX9_byteAt 0 = .ok (.iload_n 1, 1) := by decide +kernel
theorem dX9_byteAt_1 : decode cX9_byteAt 1 = .ok (.aload_n 0, 1) := by decide +kernel
theorem dX9_byteAt_2 : decode cX9_byteAt 2 = .ok (.getfield 135, 3) := by decide +kernel
theorem dX9_byteAt_5 : decode cX9_byteAt 5 = .ok (.if_icmp .ge 17, 3) := by decide +kernel
theorem dX9_byteAt_8 : decode cX9_byteAt 8 = .ok (.aload_n 0, 1) := by decide +kernel
theorem dX9_byteAt_9 : decode cX9_byteAt 9 = .ok (.getfield 13, 3) := by decide +kernel
theorem dX9_byteAt_12 : decode cX9_byteAt 12 = .ok (.aload_n 0, 1) := by decide +kernel
theorem dX9_byteAt_13 : decode cX9_byteAt 13 = .ok (.getfield 138, 3) := by decide +kernel
theorem dX9_byteAt_16 : decode cX9_byteAt 16 = .ok (.iload_n 1, 1) := by decide +kernel
theorem dX9_byteAt_17 : decode cX9_byteAt 17 = .ok (.iadd, 1) := by decide +kernel
theorem dX9_byteAt_18 : decode cX9_byteAt 18 = .ok (.iaload, 1) := by decide +kernel
theorem dX9_byteAt_19 : decode cX9_byteAt 19 = .ok (.goto 4, 3) := by decide +kernel
theorem dX9_byteAt_22 : decode cX9_byteAt 22 = .ok (.iconst (-1), 1) := by decide +kernel
theorem dX9_byteAt_23 : decode cX9_byteAt 23 = .ok (.ireturn, 1) := by decide +kernel
theorem dX9_next_0 : decode cX9_next 0 = .ok (.aload_n 0, 1) := by decide +kernel
theorem dX9_next_1 : decode cX9_next 1 = .ok (.aload_n 0, 1) := by decide +kernel
theorem dX9_next_2 : decode cX9_next 2 = .ok (.getfield 141, 3) := by decide +kernel
theorem dX9_next_5 : decode cX9_next 5 = .ok (.invokevirtual 144, 3) := by decide +kernel
theorem dX9_next_8 : decode cX9_next 8 = .ok (.bipush 32, 2) := by decide +kernel
theorem dX9_next_10 : decode cX9_next 10 = .ok (.if_icmp .eq 16, 3) := by decide +kernel
theorem dX9_next_13 : decode cX9_next 13 = .ok (.aload_n 0, 1) := by decide +kernel
theorem dX9_next_14 : decode cX9_next 14 = .ok (.aload_n 0, 1) := by decide +kernel
theorem dX9_next_15 : decode cX9_next 15 = .ok (.getfield 141, 3) := by decide +kernel
theorem dX9_next_18 : decode cX9_next 18 = .ok (.invokevirtual 144, 3) := by decide +kernel
theorem dX9_next_21 : decode cX9_next 21 = .ok (.bipush 10, 2) := by decide +kernel
theorem dX9_next_23 : decode cX9_next 23 = .ok (.if_icmp .ne 16, 3) := by decide +kernel
theorem dX9_next_26 : decode cX9_next 26 = .ok (.aload_n 0, 1) := by decide +kernel
theorem dX9_next_27 : decode cX9_next 27 = .ok (.dup, 1) := by decide +kernel
theorem dX9_next_28 : decode cX9_next 28 = .ok (.getfield 141, 3) := by decide +kernel
theorem dX9_next_31 : decode cX9_next 31 = .ok (.iconst 1, 1) := by decide +kernel
theorem dX9_next_32 : decode cX9_next 32 = .ok (.iadd, 1) := by decide +kernel
theorem dX9_next_33 : decode cX9_next 33 = .ok (.putfield 141, 3) := by decide +kernel
theorem dX9_next_36 : decode cX9_next 36 = .ok (.goto (-36), 3) := by decide +kernel
theorem dX9_next_39 : decode cX9_next 39 = .ok (.aload_n 0, 1) := by decide +kernel
theorem dX9_next_40 : decode cX9_next 40 = .ok (.aload_n 0, 1) := by decide +kernel
theorem dX9_next_41 : decode cX9_next 41 = .ok (.getfield 141, 3) := by decide +kernel
theorem dX9_next_44 : decode cX9_next 44 = .ok (.putfield 148, 3) := by decide +kernel
theorem dX9_next_47 : decode cX9_next 47 = .ok (.aload_n 0, 1) := by decide +kernel
theorem dX9_next_48 : decode cX9_next 48 = .ok (.aload_n 0, 1) := by decide +kernel
theorem dX9_next_49 : decode cX9_next 49 = .ok (.getfield 141, 3) := by decide +kernel
theorem dX9_next_52 : decode cX9_next 52 = .ok (.invokevirtual 144, 3) := by decide +kernel
theorem dX9_next_55 : decode cX9_next 55 = .ok (.istore_n 1, 1) := by decide +kernel
theorem dX9_next_56 : decode cX9_next 56 = .ok (.aload_n 0, 1) := by decide +kernel
theorem dX9_next_57 : decode cX9_next 57 = .ok (.iconst 4, 1) := by decide +kernel
theorem dX9_next_58 : decode cX9_next 58 = .ok (.putfield 151, 3) := by decide +kernel
theorem dX9_next_61 : decode cX9_next 61 = .ok (.iload_n 1, 1) := by decide +kernel
theorem dX9_next_62 : decode cX9_next 62 = .ok (.ifCond .ge 19, 3) := by decide +kernel
theorem dX9_next_65 : decode cX9_next 65 = .ok (.aload_n 0, 1) := by decide +kernel
theorem dX9_next_66 : decode cX9_next 66 = .ok (.iconst 0, 1) := by decide +kernel
theorem dX9_next_67 : decode cX9_next 67 = .ok (.putfield 151, 3) := by decide +kernel
theorem dX9_next_70 : decode cX9_next 70 = .ok (.aload_n 0, 1) := by decide +kernel
theorem dX9_next_71 : decode cX9_next 71 = .ok (.aload_n 0, 1) := by decide +kernel
theorem dX9_next_72 : decode cX9_next 72 = .ok (.getfield 135, 3) := by decide +kernel
theorem dX9_next_75 : decode cX9_next 75 = .ok (.putfield 148, 3) := by decide +kernel
theorem dX9_next_78 : decode cX9_next 78 = .ok (.goto 243, 3) := by decide +kernel
theorem dX9_next_81 : decode cX9_next 81 = .ok (.iload_n 1, 1) := by decide +kernel
theorem dX9_next_82 : decode cX9_next 82 = .ok (.i2l, 1) := by decide +kernel
theorem dX9_next_83 : decode cX9_next 83 = .ok (.ldc2_w 154, 3) := by decide +kernel
theorem dX9_next_86 : decode cX9_next 86 = .ok (.ldc2_w 156, 3) := by decide +kernel
theorem dX9_next_89 : decode cX9_next 89 = .ok (.invokestatic 94, 3) := by decide +kernel
theorem dX9_next_92 : decode cX9_next 92 = .ok (.ifCond .eq 42, 3) := by decide +kernel
theorem dX9_next_95 : decode cX9_next 95 = .ok (.aload_n 0, 1) := by decide +kernel
theorem dX9_next_96 : decode cX9_next 96 = .ok (.iconst 1, 1) := by decide +kernel
theorem dX9_next_97 : decode cX9_next 97 = .ok (.putfield 151, 3) := by decide +kernel
theorem dX9_next_100 : decode cX9_next 100 = .ok (.aload_n 0, 1) := by decide +kernel
theorem dX9_next_101 : decode cX9_next 101 = .ok (.aload_n 0, 1) := by decide +kernel
theorem dX9_next_102 : decode cX9_next 102 = .ok (.getfield 141, 3) := by decide +kernel
theorem dX9_next_105 : decode cX9_next 105 = .ok (.invokevirtual 144, 3) := by decide +kernel
theorem dX9_next_108 : decode cX9_next 108 = .ok (.i2l, 1) := by decide +kernel
theorem dX9_next_109 : decode cX9_next 109 = .ok (.ldc2_w 154, 3) := by decide +kernel
theorem dX9_next_112 : decode cX9_next 112 = .ok (.ldc2_w 156, 3) := by decide +kernel
theorem dX9_next_115 : decode cX9_next 115 = .ok (.invokestatic 94, 3) := by decide +kernel
theorem dX9_next_118 : decode cX9_next 118 = .ok (.ifCond .eq 203, 3) := by decide +kernel
theorem dX9_next_121 : decode cX9_next 121 = .ok (.aload_n 0, 1) := by decide +kernel
theorem dX9_next_122 : decode cX9_next 122 = .ok (.dup, 1) := by decide +kernel
theorem dX9_next_123 : decode cX9_next 123 = .ok (.getfield 141, 3) := by decide +kernel
theorem dX9_next_126 : decode cX9_next 126 = .ok (.iconst 1, 1) := by decide +kernel
theorem dX9_next_127 : decode cX9_next 127 = .ok (.iadd, 1) := by decide +kernel
theorem dX9_next_128 : decode cX9_next 128 = .ok (.putfield 141, 3) := by decide +kernel
theorem dX9_next_131 : decode cX9_next 131 = .ok (.goto (-31), 3) := by decide +kernel
theorem dX9_next_134 : decode cX9_next 134 = .ok (.iload_n 1, 1) := by decide +kernel
theorem dX9_next_135 : decode cX9_next 135 = .ok (.i2l, 1) := by decide +kernel
theorem dX9_next_136 : decode cX9_next 136 = .ok (.ldc2_w 158, 3) := by decide +kernel
theorem dX9_next_139 : decode cX9_next 139 = .ok (.ldc2_w 160, 3) := by decide +kernel
theorem dX9_next_142 : decode cX9_next 142 = .ok (.invokestatic 94, 3) := by decide +kernel
theorem dX9_next_145 : decode cX9_next 145 = .ok (.ifCond .eq 107, 3) := by decide +kernel
theorem dX9_next_148 : decode cX9_next 148 = .ok (.aload_n 0, 1) := by decide +kernel
theorem dX9_next_149 : decode cX9_next 149 = .ok (.iconst 2, 1) := by decide +kernel
theorem dX9_next_150 : decode cX9_next 150 = .ok (.putfield 151, 3) := by decide +kernel
theorem dX9_next_153 : decode cX9_next 153 = .ok (.aload_n 0, 1) := by decide +kernel
theorem dX9_next_154 : decode cX9_next 154 = .ok (.lconst 0, 1) := by decide +kernel
theorem dX9_next_155 : decode cX9_next 155 = .ok (.putfield 162, 3) := by decide +kernel
theorem dX9_next_158 : decode cX9_next 158 = .ok (.iconst 0, 1) := by decide +kernel
theorem dX9_next_159 : decode cX9_next 159 = .ok (.istore_n 2, 1) := by decide +kernel
theorem dX9_next_160 : decode cX9_next 160 = .ok (.aload_n 0, 1) := by decide +kernel
theorem dX9_next_161 : decode cX9_next 161 = .ok (.aload_n 0, 1) := by decide +kernel
theorem dX9_next_162 : decode cX9_next 162 = .ok (.getfield 141, 3) := by decide +kernel
theorem dX9_next_165 : decode cX9_next 165 = .ok (.invokevirtual 144, 3) := by decide +kernel
theorem dX9_next_168 : decode cX9_next 168 = .ok (.i2l, 1) := by decide +kernel
theorem dX9_next_169 : decode cX9_next 169 = .ok (.ldc2_w 158, 3) := by decide +kernel
theorem dX9_next_172 : decode cX9_next 172 = .ok (.ldc2_w 160, 3) := by decide +kernel
theorem dX9_next_175 : decode cX9_next 175 = .ok (.invokestatic 94, 3) := by decide +kernel
theorem dX9_next_178 : decode cX9_next 178 = .ok (.ifCond .eq 57, 3) := by decide +kernel
theorem dX9_next_181 : decode cX9_next 181 = .ok (.aload_n 0, 1) := by decide +kernel
theorem dX9_next_182 : decode cX9_next 182 = .ok (.iload_n 2, 1) := by decide +kernel
theorem dX9_next_183 : decode cX9_next 183 = .ok (.iconst 4, 1) := by decide +kernel
theorem dX9_next_184 : decode cX9_next 184 = .ok (.if_icmp .ge 28, 3) := by decide +kernel
theorem dX9_next_187 : decode cX9_next 187 = .ok (.ldc2_w 107, 3) := by decide +kernel
theorem dX9_next_190 : decode cX9_next 190 = .ok (.aload_n 0, 1) := by decide +kernel
theorem dX9_next_191 : decode cX9_next 191 = .ok (.getfield 162, 3) := by decide +kernel
theorem dX9_next_194 : decode cX9_next 194 = .ok (.lmul, 1) := by decide +kernel
theorem dX9_next_195 : decode cX9_next 195 = .ok (.aload_n 0, 1) := by decide +kernel
theorem dX9_next_196 : decode cX9_next 196 = .ok (.aload_n 0, 1) := by decide +kernel
theorem dX9_next_197 : decode cX9_next 197 = .ok (.getfield 141, 3) := by decide +kernel
theorem dX9_next_200 : decode cX9_next 200 = .ok (.invokevirtual 144, 3) := by decide +kernel
theorem dX9_next_203 : decode cX9_next 203 = .ok (.i2l, 1) := by decide +kernel
theorem dX9_next_204 : decode cX9_next 204 = .ok (.ladd, 1) := by decide +kernel
theorem dX9_next_205 : decode cX9_next 205 = .ok (.ldc2_w 158, 3) := by decide +kernel
theorem dX9_next_208 : decode cX9_next 208 = .ok (.lsub, 1) := by decide +kernel
theorem dX9_next_209 : decode cX9_next 209 = .ok (.goto 7, 3) := by decide +kernel
theorem dX9_next_212 : decode cX9_next 212 = .ok (.aload_n 0, 1) := by decide +kernel
theorem dX9_next_213 : decode cX9_next 213 = .ok (.getfield 162, 3) := by decide +kernel
theorem dX9_next_216 : decode cX9_next 216 = .ok (.putfield 162, 3) := by decide +kernel
theorem dX9_next_219 : decode cX9_next 219 = .ok (.iinc 2 1, 3) := by decide +kernel
theorem dX9_next_222 : decode cX9_next 222 = .ok (.aload_n 0, 1) := by decide +kernel
theorem dX9_next_223 : decode cX9_next 223 = .ok (.dup, 1) := by decide +kernel
theorem dX9_next_224 : decode cX9_next 224 = .ok (.getfield 141, 3) := by decide +kernel
theorem dX9_next_227 : decode cX9_next 227 = .ok (.iconst 1, 1) := by decide +kernel
theorem dX9_next_228 : decode cX9_next 228 = .ok (.iadd, 1) := by decide +kernel
theorem dX9_next_229 : decode cX9_next 229 = .ok (.putfield 141, 3) := by decide +kernel
theorem dX9_next_232 : decode cX9_next 232 = .ok (.goto (-72), 3) := by decide +kernel
theorem dX9_next_235 : decode cX9_next 235 = .ok (.aload_n 0, 1) := by decide +kernel
theorem dX9_next_236 : decode cX9_next 236 = .ok (.iload_n 2, 1) := by decide +kernel
theorem dX9_next_237 : decode cX9_next 237 = .ok (.iconst 4, 1) := by decide +kernel
theorem dX9_next_238 : decode cX9_next 238 = .ok (.if_icmp .le 7, 3) := by decide +kernel
theorem dX9_next_241 : decode cX9_next 241 = .ok (.iconst 4, 1) := by decide +kernel
theorem dX9_next_242 : decode cX9_next 242 = .ok (.goto 4, 3) := by decide +kernel
theorem dX9_next_245 : decode cX9_next 245 = .ok (.iconst 2, 1) := by decide +kernel
theorem dX9_next_246 : decode cX9_next 246 = .ok (.putfield 151, 3) := by decide +kernel
theorem dX9_next_249 : decode cX9_next 249 = .ok (.goto 72, 3) := by decide +kernel
theorem dX9_next_252 : decode cX9_next 252 = .ok (.iload_n 1, 1) := by decide +kernel
theorem dX9_next_253 : decode cX9_next 253 = .ok (.bipush 40, 2) := by decide +kernel
theorem dX9_next_255 : decode cX9_next 255 = .ok (.if_icmp .eq 45, 3) := by decide +kernel
theorem dX9_next_258 : decode cX9_next 258 = .ok (.iload_n 1, 1) := by decide +kernel
theorem dX9_next_259 : decode cX9_next 259 = .ok (.bipush 41, 2) := by decide +kernel
theorem dX9_next_261 : decode cX9_next 261 = .ok (.if_icmp .eq 39, 3) := by decide +kernel
theorem dX9_next_264 : decode cX9_next 264 = .ok (.iload_n 1, 1) := by decide +kernel
theorem dX9_next_265 : decode cX9_next 265 = .ok (.bipush 59, 2) := by decide +kernel
theorem dX9_next_267 : decode cX9_next 267 = .ok (.if_icmp .eq 33, 3) := by decide +kernel
theorem dX9_next_270 : decode cX9_next 270 = .ok (.iload_n 1, 1) := by decide +kernel
theorem dX9_next_271 : decode cX9_next 271 = .ok (.bipush 43, 2) := by decide +kernel
theorem dX9_next_273 : decode cX9_next 273 = .ok (.if_icmp .eq 27, 3) := by decide +kernel
theorem dX9_next_276 : decode cX9_next 276 = .ok (.iload_n 1, 1) := by decide +kernel
theorem dX9_next_277 : decode cX9_next 277 = .ok (.bipush 45, 2) := by decide +kernel
theorem dX9_next_279 : decode cX9_next 279 = .ok (.if_icmp .eq 21, 3) := by decide +kernel
theorem dX9_next_282 : decode cX9_next 282 = .ok (.iload_n 1, 1) := by decide +kernel
theorem dX9_next_283 : decode cX9_next 283 = .ok (.bipush 42, 2) := by decide +kernel
theorem dX9_next_285 : decode cX9_next 285 = .ok (.if_icmp .eq 15, 3) := by decide +kernel
theorem dX9_next_288 : decode cX9_next 288 = .ok (.iload_n 1, 1) := by decide +kernel
theorem dX9_next_289 : decode cX9_next 289 = .ok (.bipush 60, 2) := by decide +kernel
theorem dX9_next_291 : decode cX9_next 291 = .ok (.if_icmp .eq 9, 3) := by decide +kernel
theorem dX9_next_294 : decode cX9_next 294 = .ok (.iload_n 1, 1) := by decide +kernel
theorem dX9_next_295 : decode cX9_next 295 = .ok (.bipush 61, 2) := by decide +kernel
theorem dX9_next_297 : decode cX9_next 297 = .ok (.if_icmp .ne 24, 3) := by decide +kernel
theorem dX9_next_300 : decode cX9_next 300 = .ok (.aload_n 0, 1) := by decide +kernel
theorem dX9_next_301 : decode cX9_next 301 = .ok (.iconst 3, 1) := by decide +kernel
theorem dX9_next_302 : decode cX9_next 302 = .ok (.putfield 151, 3) := by decide +kernel
theorem dX9_next_305 : decode cX9_next 305 = .ok (.aload_n 0, 1) := by decide +kernel
theorem dX9_next_306 : decode cX9_next 306 = .ok (.iload_n 1, 1) := by decide +kernel
theorem dX9_next_307 : decode cX9_next 307 = .ok (.i2l, 1) := by decide +kernel
theorem dX9_next_308 : decode cX9_next 308 = .ok (.putfield 162, 3) := by decide +kernel
theorem dX9_next_311 : decode cX9_next 311 = .ok (.aload_n 0, 1) := by decide +kernel
theorem dX9_next_312 : decode cX9_next 312 = .ok (.dup, 1) := by decide +kernel
theorem dX9_next_313 : decode cX9_next 313 = .ok (.getfield 141, 3) := by decide +kernel
theorem dX9_next_316 : decode cX9_next 316 = .ok (.iconst 1, 1) := by decide +kernel
theorem dX9_next_317 : decode cX9_next 317 = .ok (.iadd, 1) := by decide +kernel
theorem dX9_next_318 : decode cX9_next 318 = .ok (.putfield 141, 3) := by decide +kernel
theorem dX9_next_321 : decode cX9_next 321 = .ok (.return_, 1) := by decide +kernel
theorem dX9_fail_0 : decode cX9_fail 0 = .ok (.aload_n 0, 1) := by decide +kernel
theorem dX9_fail_1 : decode cX9_fail 1 = .ok (.getfield 166, 3) := by decide +kernel
theorem dX9_fail_4 : decode cX9_fail 4 = .ok (.ifCond .ne 16, 3) := by decide +kernel
theorem dX9_fail_7 : decode cX9_fail 7 = .ok (.aload_n 0, 1) := by decide +kernel
theorem dX9_fail_8 : decode cX9_fail 8 = .ok (.iconst 1, 1) := by decide +kernel
theorem dX9_fail_9 : decode cX9_fail 9 = .ok (.putfield 166, 3) := by decide +kernel
theorem dX9_fail_12 : decode cX9_fail 12 = .ok (.aload_n 0, 1) := by decide +kernel
theorem dX9_fail_13 : decode cX9_fail 13 = .ok (.aload_n 0, 1) := by decide +kernel
theorem dX9_fail_14 : decode cX9_fail 14 = .ok (.getfield 148, 3) := by decide +kernel
theorem dX9_fail_17 : decode cX9_fail 17 = .ok (.putfield 170, 3) := by decide +kernel
theorem dX9_fail_20 : decode cX9_fail 20 = .ok (.return_, 1) := by decide +kernel
theorem dX9_isLetter_0 : decode cX9_isLetter 0 = .ok (.aload_n 0, 1) := by decide +kernel
theorem dX9_isLetter_1 : decode cX9_isLetter 1 = .ok (.getfield 148, 3) := by decide +kernel
theorem dX9_isLetter_4 : decode cX9_isLetter 4 = .ok (.iload_n 1, 1) := by decide +kernel
theorem dX9_isLetter_5 : decode cX9_isLetter 5 = .ok (.iadd, 1) := by decide +kernel
theorem dX9_isLetter_6 : decode cX9_isLetter 6 = .ok (.aload_n 0, 1) := by decide +kernel
theorem dX9_isLetter_7 : decode cX9_isLetter 7 = .ok (.getfield 141, 3) := by decide +kernel
theorem dX9_isLetter_10 : decode cX9_isLetter 10 = .ok (.if_icmp .ge 25, 3) := by decide +kernel
theorem dX9_isLetter_13 : decode cX9_isLetter 13 = .ok (.aload_n 0, 1) := by decide +kernel
theorem dX9_isLetter_14 : decode cX9_isLetter 14 = .ok (.aload_n 0, 1) := by decide +kernel
theorem dX9_isLetter_15 : decode cX9_isLetter 15 = .ok (.getfield 148, 3) := by decide +kernel
theorem dX9_isLetter_18 : decode cX9_isLetter 18 = .ok (.iload_n 1, 1) := by decide +kernel
theorem dX9_isLetter_19 : decode cX9_isLetter 19 = .ok (.iadd, 1) := by decide +kernel
theorem dX9_isLetter_20 : decode cX9_isLetter 20 = .ok (.invokevirtual 144, 3) := by decide +kernel
theorem dX9_isLetter_23 : decode cX9_isLetter 23 = .ok (.iload_n 2, 1) := by decide +kernel
theorem dX9_isLetter_24 : decode cX9_isLetter 24 = .ok (.if_icmp .ne 7, 3) := by decide +kernel
theorem dX9_isLetter_27 : decode cX9_isLetter 27 = .ok (.iconst 1, 1) := by decide +kernel
theorem dX9_isLetter_28 : decode cX9_isLetter 28 = .ok (.goto 16, 3) := by decide +kernel
theorem dX9_isLetter_31 : decode cX9_isLetter 31 = .ok (.iconst 0, 1) := by decide +kernel
theorem dX9_isLetter_32 : decode cX9_isLetter 32 = .ok (.goto 12, 3) := by decide +kernel
theorem dX9_isLetter_35 : decode cX9_isLetter 35 = .ok (.iload_n 2, 1) := by decide +kernel
theorem dX9_isLetter_36 : decode cX9_isLetter 36 = .ok (.ifCond .ne 7, 3) := by decide +kernel
theorem dX9_isLetter_39 : decode cX9_isLetter 39 = .ok (.iconst 1, 1) := by decide +kernel
theorem dX9_isLetter_40 : decode cX9_isLetter 40 = .ok (.goto 4, 3) := by decide +kernel
theorem dX9_isLetter_43 : decode cX9_isLetter 43 = .ok (.iconst 0, 1) := by decide +kernel
theorem dX9_isLetter_44 : decode cX9_isLetter 44 = .ok (.ireturn, 1) := by decide +kernel
theorem dX9_isWord_0 : decode cX9_isWord 0 = .ok (.aload_n 0, 1) := by decide +kernel
theorem dX9_isWord_1 : decode cX9_isWord 1 = .ok (.getfield 166, 3) := by decide +kernel
theorem dX9_isWord_4 : decode cX9_isWord 4 = .ok (.ifCond .ne 108, 3) := by decide +kernel
theorem dX9_isWord_7 : decode cX9_isWord 7 = .ok (.aload_n 0, 1) := by decide +kernel
theorem dX9_isWord_8 : decode cX9_isWord 8 = .ok (.getfield 151, 3) := by decide +kernel
theorem dX9_isWord_11 : decode cX9_isWord 11 = .ok (.iconst 1, 1) := by decide +kernel
theorem dX9_isWord_12 : decode cX9_isWord 12 = .ok (.if_icmp .ne 100, 3) := by decide +kernel
theorem dX9_isWord_15 : decode cX9_isWord 15 = .ok (.aload_n 0, 1) := by decide +kernel
theorem dX9_isWord_16 : decode cX9_isWord 16 = .ok (.getfield 141, 3) := by decide +kernel
theorem dX9_isWord_19 : decode cX9_isWord 19 = .ok (.aload_n 0, 1) := by decide +kernel
theorem dX9_isWord_20 : decode cX9_isWord 20 = .ok (.getfield 148, 3) := by decide +kernel
theorem dX9_isWord_23 : decode cX9_isWord 23 = .ok (.bipush 8, 2) := by decide +kernel
theorem dX9_isWord_25 : decode cX9_isWord 25 = .ok (.iadd, 1) := by decide +kernel
theorem dX9_isWord_26 : decode cX9_isWord 26 = .ok (.if_icmp .gt 86, 3) := by decide +kernel
theorem dX9_isWord_29 : decode cX9_isWord 29 = .ok (.aload_n 0, 1) := by decide +kernel
theorem dX9_isWord_30 : decode cX9_isWord 30 = .ok (.iconst 0, 1) := by decide +kernel
theorem dX9_isWord_31 : decode cX9_isWord 31 = .ok (.iload_n 1, 1) := by decide +kernel
theorem dX9_isWord_32 : decode cX9_isWord 32 = .ok (.invokevirtual 173, 3) := by decide +kernel
theorem dX9_isWord_35 : decode cX9_isWord 35 = .ok (.ifCond .eq 77, 3) := by decide +kernel
theorem dX9_isWord_38 : decode cX9_isWord 38 = .ok (.aload_n 0, 1) := by decide +kernel
theorem dX9_isWord_39 : decode cX9_isWord 39 = .ok (.iconst 1, 1) := by decide +kernel
theorem dX9_isWord_40 : decode cX9_isWord 40 = .ok (.iload_n 2, 1) := by decide +kernel
theorem dX9_isWord_41 : decode cX9_isWord 41 = .ok (.invokevirtual 173, 3) := by decide +kernel
theorem dX9_isWord_44 : decode cX9_isWord 44 = .ok (.ifCond .eq 68, 3) := by decide +kernel
theorem dX9_isWord_47 : decode cX9_isWord 47 = .ok (.aload_n 0, 1) := by decide +kernel
theorem dX9_isWord_48 : decode cX9_isWord 48 = .ok (.iconst 2, 1) := by decide +kernel
theorem dX9_isWord_49 : decode cX9_isWord 49 = .ok (.iload_n 3, 1) := by decide +kernel
theorem dX9_isWord_50 : decode cX9_isWord 50 = .ok (.invokevirtual 173, 3) := by decide +kernel
theorem dX9_isWord_53 : decode cX9_isWord 53 = .ok (.ifCond .eq 59, 3) := by decide +kernel
theorem dX9_isWord_56 : decode cX9_isWord 56 = .ok (.aload_n 0, 1) := by decide +kernel
theorem dX9_isWord_57 : decode cX9_isWord 57 = .ok (.iconst 3, 1) := by decide +kernel
theorem dX9_isWord_58 : decode cX9_isWord 58 = .ok (.iload 4, 2) := by decide +kernel
theorem dX9_isWord_60 : decode cX9_isWord 60 = .ok (.invokevirtual 173, 3) := by decide +kernel
theorem dX9_isWord_63 : decode cX9_isWord 63 = .ok (.ifCond .eq 49, 3) := by decide +kernel
theorem dX9_isWord_66 : decode cX9_isWord 66 = .ok (.aload_n 0, 1) := by decide +kernel
theorem dX9_isWord_67 : decode cX9_isWord 67 = .ok (.iconst 4, 1) := by decide +kernel
theorem dX9_isWord_68 : decode cX9_isWord 68 = .ok (.iload 5, 2) := by decide +kernel
theorem dX9_isWord_70 : decode cX9_isWord 70 = .ok (.invokevirtual 173, 3) := by decide +kernel
theorem dX9_isWord_73 : decode cX9_isWord 73 = .ok (.ifCond .eq 39, 3) := by decide +kernel
theorem dX9_isWord_76 : decode cX9_isWord 76 = .ok (.aload_n 0, 1) := by decide +kernel
theorem dX9_isWord_77 : decode cX9_isWord 77 = .ok (.iconst 5, 1) := by decide +kernel
theorem dX9_isWord_78 : decode cX9_isWord 78 = .ok (.iload 6, 2) := by decide +kernel
theorem dX9_isWord_80 : decode cX9_isWord 80 = .ok (.invokevirtual 173, 3) := by decide +kernel
theorem dX9_isWord_83 : decode cX9_isWord 83 = .ok (.ifCond .eq 29, 3) := by decide +kernel
theorem dX9_isWord_86 : decode cX9_isWord 86 = .ok (.aload_n 0, 1) := by decide +kernel
theorem dX9_isWord_87 : decode cX9_isWord 87 = .ok (.bipush 6, 2) := by decide +kernel
theorem dX9_isWord_89 : decode cX9_isWord 89 = .ok (.iload 7, 2) := by decide +kernel
theorem dX9_isWord_91 : decode cX9_isWord 91 = .ok (.invokevirtual 173, 3) := by decide +kernel
theorem dX9_isWord_94 : decode cX9_isWord 94 = .ok (.ifCond .eq 18, 3) := by decide +kernel
theorem dX9_isWord_97 : decode cX9_isWord 97 = .ok (.aload_n 0, 1) := by decide +kernel
theorem dX9_isWord_98 : decode cX9_isWord 98 = .ok (.bipush 7, 2) := by decide +kernel
theorem dX9_isWord_100 : decode cX9_isWord 100 = .ok (.iload 8, 2) := by decide +kernel
theorem dX9_isWord_102 : decode cX9_isWord 102 = .ok (.invokevirtual 173, 3) := by decide +kernel
theorem dX9_isWord_105 : decode cX9_isWord 105 = .ok (.ifCond .eq 7, 3) := by decide +kernel
theorem dX9_isWord_108 : decode cX9_isWord 108 = .ok (.iconst 1, 1) := by decide +kernel
theorem dX9_isWord_109 : decode cX9_isWord 109 = .ok (.goto 4, 3) := by decide +kernel
theorem dX9_isWord_112 : decode cX9_isWord 112 = .ok (.iconst 0, 1) := by decide +kernel
theorem dX9_isWord_113 : decode cX9_isWord 113 = .ok (.ireturn, 1) := by decide +kernel
theorem dX9_isSign_0 : decode cX9_isSign 0 = .ok (.aload_n 0, 1) := by decide +kernel
theorem dX9_isSign_1 : decode cX9_isSign 1 = .ok (.getfield 166, 3) := by decide +kernel
theorem dX9_isSign_4 : decode cX9_isSign 4 = .ok (.ifCond .ne 25, 3) := by decide +kernel
theorem dX9_isSign_7 : decode cX9_isSign 7 = .ok (.aload_n 0, 1) := by decide +kernel
theorem dX9_isSign_8 : decode cX9_isSign 8 = .ok (.getfield 151, 3) := by decide +kernel
theorem dX9_isSign_11 : decode cX9_isSign 11 = .ok (.iconst 3, 1) := by decide +kernel
theorem dX9_isSign_12 : decode cX9_isSign 12 = .ok (.if_icmp .ne 17, 3) := by decide +kernel
theorem dX9_isSign_15 : decode cX9_isSign 15 = .ok (.aload_n 0, 1) := by decide +kernel
theorem dX9_isSign_16 : decode cX9_isSign 16 = .ok (.getfield 162, 3) := by decide +kernel
theorem dX9_isSign_19 : decode cX9_isSign 19 = .ok (.iload_n 1, 1) := by decide +kernel
theorem dX9_isSign_20 : decode cX9_isSign 20 = .ok (.i2l, 1) := by decide +kernel
theorem dX9_isSign_21 : decode cX9_isSign 21 = .ok (.lcmp, 1) := by decide +kernel
theorem dX9_isSign_22 : decode cX9_isSign 22 = .ok (.ifCond .ne 7, 3) := by decide +kernel
theorem dX9_isSign_25 : decode cX9_isSign 25 = .ok (.iconst 1, 1) := by decide +kernel
theorem dX9_isSign_26 : decode cX9_isSign 26 = .ok (.goto 4, 3) := by decide +kernel
theorem dX9_isSign_29 : decode cX9_isSign 29 = .ok (.iconst 0, 1) := by decide +kernel
theorem dX9_isSign_30 : decode cX9_isSign 30 = .ok (.ireturn, 1) := by decide +kernel
theorem dX9_opens_0 : decode cX9_opens 0 = .ok (.aload_n 0, 1) := by decide +kernel
theorem dX9_opens_1 : decode cX9_opens 1 = .ok (.getfield 177, 3) := by decide +kernel
theorem dX9_opens_4 : decode cX9_opens 4 = .ok (.iconst 5, 1) := by decide +kernel
theorem dX9_opens_5 : decode cX9_opens 5 = .ok (.if_icmp .ne 9, 3) := by decide +kernel
theorem dX9_opens_8 : decode cX9_opens 8 = .ok (.aload_n 0, 1) := by decide +kernel
theorem dX9_opens_9 : decode cX9_opens 9 = .ok (.invokevirtual 180, 3) := by decide +kernel
theorem dX9_opens_12 : decode cX9_opens 12 = .ok (.iconst 0, 1) := by decide +kernel
theorem dX9_opens_13 : decode cX9_opens 13 = .ok (.ireturn, 1) := by decide +kernel
theorem dX9_opens_14 : decode cX9_opens 14 = .ok (.aload_n 0, 1) := by decide +kernel
theorem dX9_opens_15 : decode cX9_opens 15 = .ok (.dup, 1) := by decide +kernel
theorem dX9_opens_16 : decode cX9_opens 16 = .ok (.getfield 177, 3) := by decide +kernel
theorem dX9_opens_19 : decode cX9_opens 19 = .ok (.iconst 1, 1) := by decide +kernel
theorem dX9_opens_20 : decode cX9_opens 20 = .ok (.iadd, 1) := by decide +kernel
theorem dX9_opens_21 : decode cX9_opens 21 = .ok (.putfield 177, 3) := by decide +kernel
theorem dX9_opens_24 : decode cX9_opens 24 = .ok (.aload_n 0, 1) := by decide +kernel
theorem dX9_opens_25 : decode cX9_opens 25 = .ok (.invokevirtual 183, 3) := by decide +kernel
theorem dX9_opens_28 : decode cX9_opens 28 = .ok (.iconst 1, 1) := by decide +kernel
theorem dX9_opens_29 : decode cX9_opens 29 = .ok (.ireturn, 1) := by decide +kernel
theorem dX9_name_0 : decode cX9_name 0 = .ok (.aload_n 0, 1) := by decide +kernel
theorem dX9_name_1 : decode cX9_name 1 = .ok (.bipush 109, 2) := by decide +kernel
theorem dX9_name_3 : decode cX9_name 3 = .ok (.bipush 105, 2) := by decide +kernel
theorem dX9_name_5 : decode cX9_name 5 = .ok (.bipush 110, 2) := by decide +kernel
theorem dX9_name_7 : decode cX9_name 7 = .ok (.bipush 117, 2) := by decide +kernel
theorem dX9_name_9 : decode cX9_name 9 = .ok (.bipush 116, 2) := by decide +kernel
theorem dX9_name_11 : decode cX9_name 11 = .ok (.bipush 101, 2) := by decide +kernel
theorem dX9_name_13 : decode cX9_name 13 = .ok (.iconst 0, 1) := by decide +kernel
theorem dX9_name_14 : decode cX9_name 14 = .ok (.iconst 0, 1) := by decide +kernel
theorem dX9_name_15 : decode cX9_name 15 = .ok (.invokevirtual 186, 3) := by decide +kernel
theorem dX9_name_18 : decode cX9_name 18 = .ok (.ifCond .eq 8, 3) := by decide +kernel
theorem dX9_name_21 : decode cX9_name 21 = .ok (.aload_n 0, 1) := by decide +kernel
theorem dX9_name_22 : decode cX9_name 22 = .ok (.getfield 190, 3) := by decide +kernel
theorem dX9_name_25 : decode cX9_name 25 = .ok (.ireturn, 1) := by decide +kernel
theorem dX9_name_26 : decode cX9_name 26 = .ok (.aload_n 0, 1) := by decide +kernel
theorem dX9_name_27 : decode cX9_name 27 = .ok (.bipush 119, 2) := by decide +kernel
theorem dX9_name_29 : decode cX9_name 29 = .ok (.bipush 97, 2) := by decide +kernel
theorem dX9_name_31 : decode cX9_name 31 = .ok (.bipush 105, 2) := by decide +kernel
theorem dX9_name_33 : decode cX9_name 33 = .ok (.bipush 116, 2) := by decide +kernel
theorem dX9_name_35 : decode cX9_name 35 = .ok (.bipush 101, 2) := by decide +kernel
theorem dX9_name_37 : decode cX9_name 37 = .ok (.bipush 100, 2) := by decide +kernel
theorem dX9_name_39 : decode cX9_name 39 = .ok (.iconst 0, 1) := by decide +kernel
theorem dX9_name_40 : decode cX9_name 40 = .ok (.iconst 0, 1) := by decide +kernel
theorem dX9_name_41 : decode cX9_name 41 = .ok (.invokevirtual 186, 3) := by decide +kernel
theorem dX9_name_44 : decode cX9_name 44 = .ok (.ifCond .eq 8, 3) := by decide +kernel
theorem dX9_name_47 : decode cX9_name 47 = .ok (.aload_n 0, 1) := by decide +kernel
theorem dX9_name_48 : decode cX9_name 48 = .ok (.getfield 193, 3) := by decide +kernel
theorem dX9_name_51 : decode cX9_name 51 = .ok (.ireturn, 1) := by decide +kernel
theorem dX9_name_52 : decode cX9_name 52 = .ok (.aload_n 0, 1) := by decide +kernel
theorem dX9_name_53 : decode cX9_name 53 = .ok (.bipush 115, 2) := by decide +kernel
theorem dX9_name_55 : decode cX9_name 55 = .ok (.bipush 117, 2) := by decide +kernel
theorem dX9_name_57 : decode cX9_name 57 = .ok (.bipush 110, 2) := by decide +kernel
theorem dX9_name_59 : decode cX9_name 59 = .ok (.bipush 103, 2) := by decide +kernel
theorem dX9_name_61 : decode cX9_name 61 = .ok (.iconst 0, 1) := by decide +kernel
theorem dX9_name_62 : decode cX9_name 62 = .ok (.iconst 0, 1) := by decide +kernel
theorem dX9_name_63 : decode cX9_name 63 = .ok (.iconst 0, 1) := by decide +kernel
theorem dX9_name_64 : decode cX9_name 64 = .ok (.iconst 0, 1) := by decide +kernel
theorem dX9_name_65 : decode cX9_name 65 = .ok (.invokevirtual 186, 3) := by decide +kernel
theorem dX9_name_68 : decode cX9_name 68 = .ok (.ifCond .eq 8, 3) := by decide +kernel
theorem dX9_name_71 : decode cX9_name 71 = .ok (.aload_n 0, 1) := by decide +kernel
theorem dX9_name_72 : decode cX9_name 72 = .ok (.getfield 196, 3) := by decide +kernel
theorem dX9_name_75 : decode cX9_name 75 = .ok (.ireturn, 1) := by decide +kernel
theorem dX9_name_76 : decode cX9_name 76 = .ok (.aload_n 0, 1) := by decide +kernel
theorem dX9_name_77 : decode cX9_name 77 = .ok (.bipush 115, 2) := by decide +kernel
theorem dX9_name_79 : decode cX9_name 79 = .ok (.bipush 111, 2) := by decide +kernel
theorem dX9_name_81 : decode cX9_name 81 = .ok (.bipush 114, 2) := by decide +kernel
theorem dX9_name_83 : decode cX9_name 83 = .ok (.bipush 116, 2) := by decide +kernel
theorem dX9_name_85 : decode cX9_name 85 = .ok (.iconst 0, 1) := by decide +kernel
theorem dX9_name_86 : decode cX9_name 86 = .ok (.iconst 0, 1) := by decide +kernel
theorem dX9_name_87 : decode cX9_name 87 = .ok (.iconst 0, 1) := by decide +kernel
theorem dX9_name_88 : decode cX9_name 88 = .ok (.iconst 0, 1) := by decide +kernel
theorem dX9_name_89 : decode cX9_name 89 = .ok (.invokevirtual 186, 3) := by decide +kernel
theorem dX9_name_92 : decode cX9_name 92 = .ok (.ifCond .eq 8, 3) := by decide +kernel
theorem dX9_name_95 : decode cX9_name 95 = .ok (.aload_n 0, 1) := by decide +kernel
theorem dX9_name_96 : decode cX9_name 96 = .ok (.getfield 199, 3) := by decide +kernel
theorem dX9_name_99 : decode cX9_name 99 = .ok (.ireturn, 1) := by decide +kernel
theorem dX9_name_100 : decode cX9_name 100 = .ok (.aload_n 0, 1) := by decide +kernel
theorem dX9_name_101 : decode cX9_name 101 = .ok (.bipush 98, 2) := by decide +kernel
theorem dX9_name_103 : decode cX9_name 103 = .ok (.bipush 97, 2) := by decide +kernel
theorem dX9_name_105 : decode cX9_name 105 = .ok (.bipush 114, 2) := by decide +kernel
theorem dX9_name_107 : decode cX9_name 107 = .ok (.iconst 0, 1) := by decide +kernel
theorem dX9_name_108 : decode cX9_name 108 = .ok (.iconst 0, 1) := by decide +kernel
theorem dX9_name_109 : decode cX9_name 109 = .ok (.iconst 0, 1) := by decide +kernel
theorem dX9_name_110 : decode cX9_name 110 = .ok (.iconst 0, 1) := by decide +kernel
theorem dX9_name_111 : decode cX9_name 111 = .ok (.iconst 0, 1) := by decide +kernel
theorem dX9_name_112 : decode cX9_name 112 = .ok (.invokevirtual 186, 3) := by decide +kernel
theorem dX9_name_115 : decode cX9_name 115 = .ok (.ifCond .eq 8, 3) := by decide +kernel
theorem dX9_name_118 : decode cX9_name 118 = .ok (.aload_n 0, 1) := by decide +kernel
theorem dX9_name_119 : decode cX9_name 119 = .ok (.getfield 202, 3) := by decide +kernel
theorem dX9_name_122 : decode cX9_name 122 = .ok (.ireturn, 1) := by decide +kernel
theorem dX9_name_123 : decode cX9_name 123 = .ok (.aload_n 0, 1) := by decide +kernel
theorem dX9_name_124 : decode cX9_name 124 = .ok (.bipush 109, 2) := by decide +kernel
theorem dX9_name_126 : decode cX9_name 126 = .ok (.bipush 111, 2) := by decide +kernel
theorem dX9_name_128 : decode cX9_name 128 = .ok (.bipush 111, 2) := by decide +kernel
theorem dX9_name_130 : decode cX9_name 130 = .ok (.bipush 100, 2) := by decide +kernel
theorem dX9_name_132 : decode cX9_name 132 = .ok (.iconst 0, 1) := by decide +kernel
theorem dX9_name_133 : decode cX9_name 133 = .ok (.iconst 0, 1) := by decide +kernel
theorem dX9_name_134 : decode cX9_name 134 = .ok (.iconst 0, 1) := by decide +kernel
theorem dX9_name_135 : decode cX9_name 135 = .ok (.iconst 0, 1) := by decide +kernel
theorem dX9_name_136 : decode cX9_name 136 = .ok (.invokevirtual 186, 3) := by decide +kernel
theorem dX9_name_139 : decode cX9_name 139 = .ok (.ifCond .eq 8, 3) := by decide +kernel
theorem dX9_name_142 : decode cX9_name 142 = .ok (.aload_n 0, 1) := by decide +kernel
theorem dX9_name_143 : decode cX9_name 143 = .ok (.getfield 205, 3) := by decide +kernel
theorem dX9_name_146 : decode cX9_name 146 = .ok (.ireturn, 1) := by decide +kernel
theorem dX9_name_147 : decode cX9_name 147 = .ok (.aload_n 0, 1) := by decide +kernel
theorem dX9_name_148 : decode cX9_name 148 = .ok (.invokevirtual 180, 3) := by decide +kernel
theorem dX9_name_151 : decode cX9_name 151 = .ok (.iconst 0, 1) := by decide +kernel
theorem dX9_name_152 : decode cX9_name 152 = .ok (.ireturn, 1) := by decide +kernel
theorem dX9_atom_0 : decode cX9_atom 0 = .ok (.iconst 0, 1) := by decide +kernel
theorem dX9_atom_1 : decode cX9_atom 1 = .ok (.istore_n 1, 1) := by decide +kernel
theorem dX9_atom_2 : decode cX9_atom 2 = .ok (.aload_n 0, 1) := by decide +kernel
theorem dX9_atom_3 : decode cX9_atom 3 = .ok (.bipush 45, 2) := by decide +kernel
theorem dX9_atom_5 : decode cX9_atom 5 = .ok (.invokevirtual 208, 3) := by decide +kernel
theorem dX9_atom_8 : decode cX9_atom 8 = .ok (.ifCond .eq 29, 3) := by decide +kernel
theorem dX9_atom_11 : decode cX9_atom 11 = .ok (.aload_n 0, 1) := by decide +kernel
theorem dX9_atom_12 : decode cX9_atom 12 = .ok (.invokevirtual 211, 3) := by decide +kernel
theorem dX9_atom_15 : decode cX9_atom 15 = .ok (.ifCond .eq 146, 3) := by decide +kernel
theorem dX9_atom_18 : decode cX9_atom 18 = .ok (.aload_n 0, 1) := by decide +kernel
theorem dX9_atom_19 : decode cX9_atom 19 = .ok (.invokevirtual 215, 3) := by decide +kernel
theorem dX9_atom_22 : decode cX9_atom 22 = .ok (.ineg, 1) := by decide +kernel
theorem dX9_atom_23 : decode cX9_atom 23 = .ok (.istore_n 1, 1) := by decide +kernel
theorem dX9_atom_24 : decode cX9_atom 24 = .ok (.aload_n 0, 1) := by decide +kernel
theorem dX9_atom_25 : decode cX9_atom 25 = .ok (.dup, 1) := by decide +kernel
theorem dX9_atom_26 : decode cX9_atom 26 = .ok (.getfield 177, 3) := by decide +kernel
theorem dX9_atom_29 : decode cX9_atom 29 = .ok (.iconst 1, 1) := by decide +kernel
theorem dX9_atom_30 : decode cX9_atom 30 = .ok (.isub, 1) := by decide +kernel
theorem dX9_atom_31 : decode cX9_atom 31 = .ok (.putfield 177, 3) := by decide +kernel
theorem dX9_atom_34 : decode cX9_atom 34 = .ok (.goto 127, 3) := by decide +kernel
theorem dX9_atom_37 : decode cX9_atom 37 = .ok (.aload_n 0, 1) := by decide +kernel
theorem dX9_atom_38 : decode cX9_atom 38 = .ok (.bipush 40, 2) := by decide +kernel
theorem dX9_atom_40 : decode cX9_atom 40 = .ok (.invokevirtual 208, 3) := by decide +kernel
theorem dX9_atom_43 : decode cX9_atom 43 = .ok (.ifCond .eq 52, 3) := by decide +kernel
theorem dX9_atom_46 : decode cX9_atom 46 = .ok (.aload_n 0, 1) := by decide +kernel
theorem dX9_atom_47 : decode cX9_atom 47 = .ok (.invokevirtual 211, 3) := by decide +kernel
theorem dX9_atom_50 : decode cX9_atom 50 = .ok (.ifCond .eq 111, 3) := by decide +kernel
theorem dX9_atom_53 : decode cX9_atom 53 = .ok (.aload_n 0, 1) := by decide +kernel
theorem dX9_atom_54 : decode cX9_atom 54 = .ok (.invokevirtual 219, 3) := by decide +kernel
theorem dX9_atom_57 : decode cX9_atom 57 = .ok (.istore_n 1, 1) := by decide +kernel
theorem dX9_atom_58 : decode cX9_atom 58 = .ok (.aload_n 0, 1) := by decide +kernel
theorem dX9_atom_59 : decode cX9_atom 59 = .ok (.bipush 41, 2) := by decide +kernel
theorem dX9_atom_61 : decode cX9_atom 61 = .ok (.invokevirtual 208, 3) := by decide +kernel
theorem dX9_atom_64 : decode cX9_atom 64 = .ok (.ifCond .ne 7, 3) := by decide +kernel
theorem dX9_atom_67 : decode cX9_atom 67 = .ok (.aload_n 0, 1) := by decide +kernel
theorem dX9_atom_68 : decode cX9_atom 68 = .ok (.invokevirtual 180, 3) := by decide +kernel
theorem dX9_atom_71 : decode cX9_atom 71 = .ok (.aload_n 0, 1) := by decide +kernel
theorem dX9_atom_72 : decode cX9_atom 72 = .ok (.dup, 1) := by decide +kernel
theorem dX9_atom_73 : decode cX9_atom 73 = .ok (.getfield 177, 3) := by decide +kernel
theorem dX9_atom_76 : decode cX9_atom 76 = .ok (.iconst 1, 1) := by decide +kernel
theorem dX9_atom_77 : decode cX9_atom 77 = .ok (.isub, 1) := by decide +kernel
theorem dX9_atom_78 : decode cX9_atom 78 = .ok (.putfield 177, 3) := by decide +kernel
theorem dX9_atom_81 : decode cX9_atom 81 = .ok (.aload_n 0, 1) := by decide +kernel
theorem dX9_atom_82 : decode cX9_atom 82 = .ok (.getfield 166, 3) := by decide +kernel
theorem dX9_atom_85 : decode cX9_atom 85 = .ok (.ifCond .ne 76, 3) := by decide +kernel
theorem dX9_atom_88 : decode cX9_atom 88 = .ok (.aload_n 0, 1) := by decide +kernel
theorem dX9_atom_89 : decode cX9_atom 89 = .ok (.invokevirtual 183, 3) := by decide +kernel
theorem dX9_atom_92 : decode cX9_atom 92 = .ok (.goto 69, 3) := by decide +kernel
theorem dX9_atom_95 : decode cX9_atom 95 = .ok (.aload_n 0, 1) := by decide +kernel
theorem dX9_atom_96 : decode cX9_atom 96 = .ok (.getfield 166, 3) := by decide +kernel
theorem dX9_atom_99 : decode cX9_atom 99 = .ok (.ifCond .ne 24, 3) := by decide +kernel
theorem dX9_atom_102 : decode cX9_atom 102 = .ok (.aload_n 0, 1) := by decide +kernel
theorem dX9_atom_103 : decode cX9_atom 103 = .ok (.getfield 151, 3) := by decide +kernel
theorem dX9_atom_106 : decode cX9_atom 106 = .ok (.iconst 2, 1) := by decide +kernel
theorem dX9_atom_107 : decode cX9_atom 107 = .ok (.if_icmp .ne 16, 3) := by decide +kernel
theorem dX9_atom_110 : decode cX9_atom 110 = .ok (.aload_n 0, 1) := by decide +kernel
theorem dX9_atom_111 : decode cX9_atom 111 = .ok (.getfield 162, 3) := by decide +kernel
theorem dX9_atom_114 : decode cX9_atom 114 = .ok (.l2i, 1) := by decide +kernel
theorem dX9_atom_115 : decode cX9_atom 115 = .ok (.istore_n 1, 1) := by decide +kernel
theorem dX9_atom_116 : decode cX9_atom 116 = .ok (.aload_n 0, 1) := by decide +kernel
theorem dX9_atom_117 : decode cX9_atom 117 = .ok (.invokevirtual 183, 3) := by decide +kernel
theorem dX9_atom_120 : decode cX9_atom 120 = .ok (.goto 41, 3) := by decide +kernel
theorem dX9_atom_123 : decode cX9_atom 123 = .ok (.aload_n 0, 1) := by decide +kernel
theorem dX9_atom_124 : decode cX9_atom 124 = .ok (.getfield 166, 3) := by decide +kernel
theorem dX9_atom_127 : decode cX9_atom 127 = .ok (.ifCond .ne 30, 3) := by decide +kernel
theorem dX9_atom_130 : decode cX9_atom 130 = .ok (.aload_n 0, 1) := by decide +kernel
theorem dX9_atom_131 : decode cX9_atom 131 = .ok (.getfield 151, 3) := by decide +kernel
theorem dX9_atom_134 : decode cX9_atom 134 = .ok (.iconst 1, 1) := by decide +kernel
theorem dX9_atom_135 : decode cX9_atom 135 = .ok (.if_icmp .ne 22, 3) := by decide +kernel
theorem dX9_atom_138 : decode cX9_atom 138 = .ok (.aload_n 0, 1) := by decide +kernel
theorem dX9_atom_139 : decode cX9_atom 139 = .ok (.invokevirtual 222, 3) := by decide +kernel
theorem dX9_atom_142 : decode cX9_atom 142 = .ok (.istore_n 1, 1) := by decide +kernel
theorem dX9_atom_143 : decode cX9_atom 143 = .ok (.aload_n 0, 1) := by decide +kernel
theorem dX9_atom_144 : decode cX9_atom 144 = .ok (.getfield 166, 3) := by decide +kernel
theorem dX9_atom_147 : decode cX9_atom 147 = .ok (.ifCond .ne 14, 3) := by decide +kernel
theorem dX9_atom_150 : decode cX9_atom 150 = .ok (.aload_n 0, 1) := by decide +kernel
theorem dX9_atom_151 : decode cX9_atom 151 = .ok (.invokevirtual 183, 3) := by decide +kernel
theorem dX9_atom_154 : decode cX9_atom 154 = .ok (.goto 7, 3) := by decide +kernel
theorem dX9_atom_157 : decode cX9_atom 157 = .ok (.aload_n 0, 1) := by decide +kernel
theorem dX9_atom_158 : decode cX9_atom 158 = .ok (.invokevirtual 180, 3) := by decide +kernel
theorem dX9_atom_161 : decode cX9_atom 161 = .ok (.iload_n 1, 1) := by decide +kernel
theorem dX9_atom_162 : decode cX9_atom 162 = .ok (.ireturn, 1) := by decide +kernel
theorem dX9_term_0 : decode cX9_term 0 = .ok (.aload_n 0, 1) := by decide +kernel
theorem dX9_term_1 : decode cX9_term 1 = .ok (.invokevirtual 215, 3) := by decide +kernel
theorem dX9_term_4 : decode cX9_term 4 = .ok (.istore_n 1, 1) := by decide +kernel
theorem dX9_term_5 : decode cX9_term 5 = .ok (.aload_n 0, 1) := by decide +kernel
theorem dX9_term_6 : decode cX9_term 6 = .ok (.bipush 42, 2) := by decide +kernel
theorem dX9_term_8 : decode cX9_term 8 = .ok (.invokevirtual 208, 3) := by decide +kernel
theorem dX9_term_11 : decode cX9_term 11 = .ok (.ifCond .eq 17, 3) := by decide +kernel
theorem dX9_term_14 : decode cX9_term 14 = .ok (.aload_n 0, 1) := by decide +kernel
theorem dX9_term_15 : decode cX9_term 15 = .ok (.invokevirtual 183, 3) := by decide +kernel
theorem dX9_term_18 : decode cX9_term 18 = .ok (.iload_n 1, 1) := by decide +kernel
theorem dX9_term_19 : decode cX9_term 19 = .ok (.aload_n 0, 1) := by decide +kernel
theorem dX9_term_20 : decode cX9_term 20 = .ok (.invokevirtual 215, 3) := by decide +kernel
theorem dX9_term_23 : decode cX9_term 23 = .ok (.imul, 1) := by decide +kernel
theorem dX9_term_24 : decode cX9_term 24 = .ok (.istore_n 1, 1) := by decide +kernel
theorem dX9_term_25 : decode cX9_term 25 = .ok (.goto (-20), 3) := by decide +kernel
theorem dX9_term_28 : decode cX9_term 28 = .ok (.iload_n 1, 1) := by decide +kernel
theorem dX9_term_29 : decode cX9_term 29 = .ok (.ireturn, 1) := by decide +kernel
theorem dX9_added_0 : decode cX9_added 0 = .ok (.aload_n 0, 1) := by decide +kernel
theorem dX9_added_1 : decode cX9_added 1 = .ok (.invokevirtual 225, 3) := by decide +kernel
theorem dX9_added_4 : decode cX9_added 4 = .ok (.istore_n 1, 1) := by decide +kernel
theorem dX9_added_5 : decode cX9_added 5 = .ok (.aload_n 0, 1) := by decide +kernel
theorem dX9_added_6 : decode cX9_added 6 = .ok (.bipush 43, 2) := by decide +kernel
theorem dX9_added_8 : decode cX9_added 8 = .ok (.invokevirtual 208, 3) := by decide +kernel
theorem dX9_added_11 : decode cX9_added 11 = .ok (.ifCond .ne 12, 3) := by decide +kernel
theorem dX9_added_14 : decode cX9_added 14 = .ok (.aload_n 0, 1) := by decide +kernel
theorem dX9_added_15 : decode cX9_added 15 = .ok (.bipush 45, 2) := by decide +kernel
theorem dX9_added_17 : decode cX9_added 17 = .ok (.invokevirtual 208, 3) := by decide +kernel
theorem dX9_added_20 : decode cX9_added 20 = .ok (.ifCond .eq 46, 3) := by decide +kernel
theorem dX9_added_23 : decode cX9_added 23 = .ok (.aload_n 0, 1) := by decide +kernel
theorem dX9_added_24 : decode cX9_added 24 = .ok (.getfield 162, 3) := by decide +kernel
theorem dX9_added_27 : decode cX9_added 27 = .ok (.ldc2_w 228, 3) := by decide +kernel
theorem dX9_added_30 : decode cX9_added 30 = .ok (.lcmp, 1) := by decide +kernel
theorem dX9_added_31 : decode cX9_added 31 = .ok (.ifCond .ne 7, 3) := by decide +kernel
theorem dX9_added_34 : decode cX9_added 34 = .ok (.iconst 1, 1) := by decide +kernel
theorem dX9_added_35 : decode cX9_added 35 = .ok (.goto 4, 3) := by decide +kernel
theorem dX9_added_38 : decode cX9_added 38 = .ok (.iconst 0, 1) := by decide +kernel
theorem dX9_added_39 : decode cX9_added 39 = .ok (.istore_n 2, 1) := by decide +kernel
theorem dX9_added_40 : decode cX9_added 40 = .ok (.aload_n 0, 1) := by decide +kernel
theorem dX9_added_41 : decode cX9_added 41 = .ok (.invokevirtual 183, 3) := by decide +kernel
theorem dX9_added_44 : decode cX9_added 44 = .ok (.aload_n 0, 1) := by decide +kernel
theorem dX9_added_45 : decode cX9_added 45 = .ok (.invokevirtual 225, 3) := by decide +kernel
theorem dX9_added_48 : decode cX9_added 48 = .ok (.istore_n 3, 1) := by decide +kernel
theorem dX9_added_49 : decode cX9_added 49 = .ok (.iload_n 2, 1) := by decide +kernel
theorem dX9_added_50 : decode cX9_added 50 = .ok (.ifCond .eq 9, 3) := by decide +kernel
theorem dX9_added_53 : decode cX9_added 53 = .ok (.iload_n 1, 1) := by decide +kernel
theorem dX9_added_54 : decode cX9_added 54 = .ok (.iload_n 3, 1) := by decide +kernel
theorem dX9_added_55 : decode cX9_added 55 = .ok (.iadd, 1) := by decide +kernel
theorem dX9_added_56 : decode cX9_added 56 = .ok (.goto 6, 3) := by decide +kernel
theorem dX9_added_59 : decode cX9_added 59 = .ok (.iload_n 1, 1) := by decide +kernel
theorem dX9_added_60 : decode cX9_added 60 = .ok (.iload_n 3, 1) := by decide +kernel
theorem dX9_added_61 : decode cX9_added 61 = .ok (.isub, 1) := by decide +kernel
theorem dX9_added_62 : decode cX9_added 62 = .ok (.istore_n 1, 1) := by decide +kernel
theorem dX9_added_63 : decode cX9_added 63 = .ok (.goto (-58), 3) := by decide +kernel
theorem dX9_added_66 : decode cX9_added 66 = .ok (.iload_n 1, 1) := by decide +kernel
theorem dX9_added_67 : decode cX9_added 67 = .ok (.ireturn, 1) := by decide +kernel
theorem dX9_not_0 : decode cX9_not 0 = .ok (.aload_n 0, 1) := by decide +kernel
theorem dX9_not_1 : decode cX9_not 1 = .ok (.bipush 110, 2) := by decide +kernel
theorem dX9_not_3 : decode cX9_not 3 = .ok (.bipush 111, 2) := by decide +kernel
theorem dX9_not_5 : decode cX9_not 5 = .ok (.bipush 116, 2) := by decide +kernel
theorem dX9_not_7 : decode cX9_not 7 = .ok (.iconst 0, 1) := by decide +kernel
theorem dX9_not_8 : decode cX9_not 8 = .ok (.iconst 0, 1) := by decide +kernel
theorem dX9_not_9 : decode cX9_not 9 = .ok (.iconst 0, 1) := by decide +kernel
theorem dX9_not_10 : decode cX9_not 10 = .ok (.iconst 0, 1) := by decide +kernel
theorem dX9_not_11 : decode cX9_not 11 = .ok (.iconst 0, 1) := by decide +kernel
theorem dX9_not_12 : decode cX9_not 12 = .ok (.invokevirtual 186, 3) := by decide +kernel
theorem dX9_not_15 : decode cX9_not 15 = .ok (.ifCond .eq 37, 3) := by decide +kernel
theorem dX9_not_18 : decode cX9_not 18 = .ok (.aload_n 0, 1) := by decide +kernel
theorem dX9_not_19 : decode cX9_not 19 = .ok (.invokevirtual 211, 3) := by decide +kernel
theorem dX9_not_22 : decode cX9_not 22 = .ok (.ifCond .ne 5, 3) := by decide +kernel
theorem dX9_not_25 : decode cX9_not 25 = .ok (.iconst 0, 1) := by decide +kernel
theorem dX9_not_26 : decode cX9_not 26 = .ok (.ireturn, 1) := by decide +kernel
theorem dX9_not_27 : decode cX9_not 27 = .ok (.aload_n 0, 1) := by decide +kernel
theorem dX9_not_28 : decode cX9_not 28 = .ok (.invokevirtual 230, 3) := by decide +kernel
theorem dX9_not_31 : decode cX9_not 31 = .ok (.istore_n 1, 1) := by decide +kernel
theorem dX9_not_32 : decode cX9_not 32 = .ok (.aload_n 0, 1) := by decide +kernel
theorem dX9_not_33 : decode cX9_not 33 = .ok (.dup, 1) := by decide +kernel
theorem dX9_not_34 : decode cX9_not 34 = .ok (.getfield 177, 3) := by decide +kernel
theorem dX9_not_37 : decode cX9_not 37 = .ok (.iconst 1, 1) := by decide +kernel
theorem dX9_not_38 : decode cX9_not 38 = .ok (.isub, 1) := by decide +kernel
theorem dX9_not_39 : decode cX9_not 39 = .ok (.putfield 177, 3) := by decide +kernel
theorem dX9_not_42 : decode cX9_not 42 = .ok (.iload_n 1, 1) := by decide +kernel
theorem dX9_not_43 : decode cX9_not 43 = .ok (.ifCond .ne 7, 3) := by decide +kernel
theorem dX9_not_46 : decode cX9_not 46 = .ok (.iconst 1, 1) := by decide +kernel
theorem dX9_not_47 : decode cX9_not 47 = .ok (.goto 4, 3) := by decide +kernel
theorem dX9_not_50 : decode cX9_not 50 = .ok (.iconst 0, 1) := by decide +kernel
theorem dX9_not_51 : decode cX9_not 51 = .ok (.ireturn, 1) := by decide +kernel
theorem dX9_not_52 : decode cX9_not 52 = .ok (.aload_n 0, 1) := by decide +kernel
theorem dX9_not_53 : decode cX9_not 53 = .ok (.invokevirtual 233, 3) := by decide +kernel
theorem dX9_not_56 : decode cX9_not 56 = .ok (.istore_n 1, 1) := by decide +kernel
theorem dX9_not_57 : decode cX9_not 57 = .ok (.aload_n 0, 1) := by decide +kernel
theorem dX9_not_58 : decode cX9_not 58 = .ok (.bipush 60, 2) := by decide +kernel
theorem dX9_not_60 : decode cX9_not 60 = .ok (.invokevirtual 208, 3) := by decide +kernel
theorem dX9_not_63 : decode cX9_not 63 = .ok (.ifCond .ne 14, 3) := by decide +kernel
theorem dX9_not_66 : decode cX9_not 66 = .ok (.aload_n 0, 1) := by decide +kernel
theorem dX9_not_67 : decode cX9_not 67 = .ok (.bipush 61, 2) := by decide +kernel
theorem dX9_not_69 : decode cX9_not 69 = .ok (.invokevirtual 208, 3) := by decide +kernel
theorem dX9_not_72 : decode cX9_not 72 = .ok (.ifCond .ne 5, 3) := by decide +kernel
theorem dX9_not_75 : decode cX9_not 75 = .ok (.iload_n 1, 1) := by decide +kernel
theorem dX9_not_76 : decode cX9_not 76 = .ok (.ireturn, 1) := by decide +kernel
theorem dX9_not_77 : decode cX9_not 77 = .ok (.aload_n 0, 1) := by decide +kernel
theorem dX9_not_78 : decode cX9_not 78 = .ok (.getfield 162, 3) := by decide +kernel
theorem dX9_not_81 : decode cX9_not 81 = .ok (.ldc2_w 236, 3) := by decide +kernel
theorem dX9_not_84 : decode cX9_not 84 = .ok (.lcmp, 1) := by decide +kernel
theorem dX9_not_85 : decode cX9_not 85 = .ok (.ifCond .ne 7, 3) := by decide +kernel
theorem dX9_not_88 : decode cX9_not 88 = .ok (.iconst 1, 1) := by decide +kernel
theorem dX9_not_89 : decode cX9_not 89 = .ok (.goto 4, 3) := by decide +kernel
theorem dX9_not_92 : decode cX9_not 92 = .ok (.iconst 0, 1) := by decide +kernel
theorem dX9_not_93 : decode cX9_not 93 = .ok (.istore_n 2, 1) := by decide +kernel
theorem dX9_not_94 : decode cX9_not 94 = .ok (.aload_n 0, 1) := by decide +kernel
theorem dX9_not_95 : decode cX9_not 95 = .ok (.invokevirtual 183, 3) := by decide +kernel
theorem dX9_not_98 : decode cX9_not 98 = .ok (.aload_n 0, 1) := by decide +kernel
theorem dX9_not_99 : decode cX9_not 99 = .ok (.invokevirtual 233, 3) := by decide +kernel
theorem dX9_not_102 : decode cX9_not 102 = .ok (.istore_n 3, 1) := by decide +kernel
theorem dX9_not_103 : decode cX9_not 103 = .ok (.iload_n 2, 1) := by decide +kernel
theorem dX9_not_104 : decode cX9_not 104 = .ok (.ifCond .eq 11, 3) := by decide +kernel
theorem dX9_not_107 : decode cX9_not 107 = .ok (.iload_n 1, 1) := by decide +kernel
theorem dX9_not_108 : decode cX9_not 108 = .ok (.iload_n 3, 1) := by decide +kernel
theorem dX9_not_109 : decode cX9_not 109 = .ok (.if_icmp .ge 15, 3) := by decide +kernel
theorem dX9_not_112 : decode cX9_not 112 = .ok (.goto 8, 3) := by decide +kernel
theorem dX9_not_115 : decode cX9_not 115 = .ok (.iload_n 1, 1) := by decide +kernel
theorem dX9_not_116 : decode cX9_not 116 = .ok (.iload_n 3, 1) := by decide +kernel
theorem dX9_not_117 : decode cX9_not 117 = .ok (.if_icmp .ne 7, 3) := by decide +kernel
theorem dX9_not_120 : decode cX9_not 120 = .ok (.iconst 1, 1) := by decide +kernel
theorem dX9_not_121 : decode cX9_not 121 = .ok (.goto 4, 3) := by decide +kernel
theorem dX9_not_124 : decode cX9_not 124 = .ok (.iconst 0, 1) := by decide +kernel
theorem dX9_not_125 : decode cX9_not 125 = .ok (.ireturn, 1) := by decide +kernel
theorem dX9_both_0 : decode cX9_both 0 = .ok (.aload_n 0, 1) := by decide +kernel
theorem dX9_both_1 : decode cX9_both 1 = .ok (.invokevirtual 230, 3) := by decide +kernel
theorem dX9_both_4 : decode cX9_both 4 = .ok (.istore_n 1, 1) := by decide +kernel
theorem dX9_both_5 : decode cX9_both 5 = .ok (.aload_n 0, 1) := by decide +kernel
theorem dX9_both_6 : decode cX9_both 6 = .ok (.bipush 97, 2) := by decide +kernel
theorem dX9_both_8 : decode cX9_both 8 = .ok (.bipush 110, 2) := by decide +kernel
theorem dX9_both_10 : decode cX9_both 10 = .ok (.bipush 100, 2) := by decide +kernel
theorem dX9_both_12 : decode cX9_both 12 = .ok (.iconst 0, 1) := by decide +kernel
theorem dX9_both_13 : decode cX9_both 13 = .ok (.iconst 0, 1) := by decide +kernel
theorem dX9_both_14 : decode cX9_both 14 = .ok (.iconst 0, 1) := by decide +kernel
theorem dX9_both_15 : decode cX9_both 15 = .ok (.iconst 0, 1) := by decide +kernel
theorem dX9_both_16 : decode cX9_both 16 = .ok (.iconst 0, 1) := by decide +kernel
theorem dX9_both_17 : decode cX9_both 17 = .ok (.invokevirtual 186, 3) := by decide +kernel
theorem dX9_both_20 : decode cX9_both 20 = .ok (.ifCond .eq 29, 3) := by decide +kernel
theorem dX9_both_23 : decode cX9_both 23 = .ok (.aload_n 0, 1) := by decide +kernel
theorem dX9_both_24 : decode cX9_both 24 = .ok (.invokevirtual 183, 3) := by decide +kernel
theorem dX9_both_27 : decode cX9_both 27 = .ok (.aload_n 0, 1) := by decide +kernel
theorem dX9_both_28 : decode cX9_both 28 = .ok (.invokevirtual 230, 3) := by decide +kernel
theorem dX9_both_31 : decode cX9_both 31 = .ok (.istore_n 2, 1) := by decide +kernel
theorem dX9_both_32 : decode cX9_both 32 = .ok (.iload_n 1, 1) := by decide +kernel
theorem dX9_both_33 : decode cX9_both 33 = .ok (.ifCond .eq 11, 3) := by decide +kernel
theorem dX9_both_36 : decode cX9_both 36 = .ok (.iload_n 2, 1) := by decide +kernel
theorem dX9_both_37 : decode cX9_both 37 = .ok (.ifCond .eq 7, 3) := by decide +kernel
theorem dX9_both_40 : decode cX9_both 40 = .ok (.iconst 1, 1) := by decide +kernel
theorem dX9_both_41 : decode cX9_both 41 = .ok (.goto 4, 3) := by decide +kernel
theorem dX9_both_44 : decode cX9_both 44 = .ok (.iconst 0, 1) := by decide +kernel
theorem dX9_both_45 : decode cX9_both 45 = .ok (.istore_n 1, 1) := by decide +kernel
theorem dX9_both_46 : decode cX9_both 46 = .ok (.goto (-41), 3) := by decide +kernel
theorem dX9_both_49 : decode cX9_both 49 = .ok (.iload_n 1, 1) := by decide +kernel
theorem dX9_both_50 : decode cX9_both 50 = .ok (.ireturn, 1) := by decide +kernel
theorem dX9_either_0 : decode cX9_either 0 = .ok (.aload_n 0, 1) := by decide +kernel
theorem dX9_either_1 : decode cX9_either 1 = .ok (.invokevirtual 238, 3) := by decide +kernel
theorem dX9_either_4 : decode cX9_either 4 = .ok (.istore_n 1, 1) := by decide +kernel
theorem dX9_either_5 : decode cX9_either 5 = .ok (.aload_n 0, 1) := by decide +kernel
theorem dX9_either_6 : decode cX9_either 6 = .ok (.bipush 111, 2) := by decide +kernel
theorem dX9_either_8 : decode cX9_either 8 = .ok (.bipush 114, 2) := by decide +kernel
theorem dX9_either_10 : decode cX9_either 10 = .ok (.iconst 0, 1) := by decide +kernel
theorem dX9_either_11 : decode cX9_either 11 = .ok (.iconst 0, 1) := by decide +kernel
theorem dX9_either_12 : decode cX9_either 12 = .ok (.iconst 0, 1) := by decide +kernel
theorem dX9_either_13 : decode cX9_either 13 = .ok (.iconst 0, 1) := by decide +kernel
theorem dX9_either_14 : decode cX9_either 14 = .ok (.iconst 0, 1) := by decide +kernel
theorem dX9_either_15 : decode cX9_either 15 = .ok (.iconst 0, 1) := by decide +kernel
theorem dX9_either_16 : decode cX9_either 16 = .ok (.invokevirtual 186, 3) := by decide +kernel
theorem dX9_either_19 : decode cX9_either 19 = .ok (.ifCond .eq 29, 3) := by decide +kernel
theorem dX9_either_22 : decode cX9_either 22 = .ok (.aload_n 0, 1) := by decide +kernel
theorem dX9_either_23 : decode cX9_either 23 = .ok (.invokevirtual 183, 3) := by decide +kernel
theorem dX9_either_26 : decode cX9_either 26 = .ok (.aload_n 0, 1) := by decide +kernel
theorem dX9_either_27 : decode cX9_either 27 = .ok (.invokevirtual 238, 3) := by decide +kernel
theorem dX9_either_30 : decode cX9_either 30 = .ok (.istore_n 2, 1) := by decide +kernel
theorem dX9_either_31 : decode cX9_either 31 = .ok (.iload_n 1, 1) := by decide +kernel
theorem dX9_either_32 : decode cX9_either 32 = .ok (.ifCond .ne 7, 3) := by decide +kernel
theorem dX9_either_35 : decode cX9_either 35 = .ok (.iload_n 2, 1) := by decide +kernel
theorem dX9_either_36 : decode cX9_either 36 = .ok (.ifCond .eq 7, 3) := by decide +kernel
theorem dX9_either_39 : decode cX9_either 39 = .ok (.iconst 1, 1) := by decide +kernel
theorem dX9_either_40 : decode cX9_either 40 = .ok (.goto 4, 3) := by decide +kernel
theorem dX9_either_43 : decode cX9_either 43 = .ok (.iconst 0, 1) := by decide +kernel
theorem dX9_either_44 : decode cX9_either 44 = .ok (.istore_n 1, 1) := by decide +kernel
theorem dX9_either_45 : decode cX9_either 45 = .ok (.goto (-40), 3) := by decide +kernel
theorem dX9_either_48 : decode cX9_either 48 = .ok (.iload_n 1, 1) := by decide +kernel
theorem dX9_either_49 : decode cX9_either 49 = .ok (.ireturn, 1) := by decide +kernel
theorem dX9_part_0 : decode cX9_part 0 = .ok (.iload_n 1, 1) := by decide +kernel
theorem dX9_part_1 : decode cX9_part 1 = .ok (.ifCond .ne 7, 3) := by decide +kernel
theorem dX9_part_4 : decode cX9_part 4 = .ok (.aload_n 0, 1) := by decide +kernel
theorem dX9_part_5 : decode cX9_part 5 = .ok (.invokevirtual 180, 3) := by decide +kernel
theorem dX9_part_8 : decode cX9_part 8 = .ok (.aload_n 0, 1) := by decide +kernel
theorem dX9_part_9 : decode cX9_part 9 = .ok (.getfield 166, 3) := by decide +kernel
theorem dX9_part_12 : decode cX9_part 12 = .ok (.ifCond .ne 7, 3) := by decide +kernel
theorem dX9_part_15 : decode cX9_part 15 = .ok (.aload_n 0, 1) := by decide +kernel
theorem dX9_part_16 : decode cX9_part 16 = .ok (.invokevirtual 183, 3) := by decide +kernel
theorem dX9_part_19 : decode cX9_part 19 = .ok (.aload_n 0, 1) := by decide +kernel
theorem dX9_part_20 : decode cX9_part 20 = .ok (.getfield 166, 3) := by decide +kernel
theorem dX9_part_23 : decode cX9_part 23 = .ok (.ifCond .eq 7, 3) := by decide +kernel
theorem dX9_part_26 : decode cX9_part 26 = .ok (.iconst 0, 1) := by decide +kernel
theorem dX9_part_27 : decode cX9_part 27 = .ok (.goto 7, 3) := by decide +kernel
theorem dX9_part_30 : decode cX9_part 30 = .ok (.aload_n 0, 1) := by decide +kernel
theorem dX9_part_31 : decode cX9_part 31 = .ok (.invokevirtual 219, 3) := by decide +kernel
theorem dX9_part_34 : decode cX9_part 34 = .ok (.istore_n 2, 1) := by decide +kernel
theorem dX9_part_35 : decode cX9_part 35 = .ok (.aload_n 0, 1) := by decide +kernel
theorem dX9_part_36 : decode cX9_part 36 = .ok (.bipush 59, 2) := by decide +kernel
theorem dX9_part_38 : decode cX9_part 38 = .ok (.invokevirtual 208, 3) := by decide +kernel
theorem dX9_part_41 : decode cX9_part 41 = .ok (.ifCond .ne 7, 3) := by decide +kernel
theorem dX9_part_44 : decode cX9_part 44 = .ok (.aload_n 0, 1) := by decide +kernel
theorem dX9_part_45 : decode cX9_part 45 = .ok (.invokevirtual 180, 3) := by decide +kernel
theorem dX9_part_48 : decode cX9_part 48 = .ok (.aload_n 0, 1) := by decide +kernel
theorem dX9_part_49 : decode cX9_part 49 = .ok (.getfield 166, 3) := by decide +kernel
theorem dX9_part_52 : decode cX9_part 52 = .ok (.ifCond .ne 7, 3) := by decide +kernel
theorem dX9_part_55 : decode cX9_part 55 = .ok (.aload_n 0, 1) := by decide +kernel
theorem dX9_part_56 : decode cX9_part 56 = .ok (.invokevirtual 183, 3) := by decide +kernel
theorem dX9_part_59 : decode cX9_part 59 = .ok (.iload_n 2, 1) := by decide +kernel
theorem dX9_part_60 : decode cX9_part 60 = .ok (.ireturn, 1) := by decide +kernel
theorem dX9_read_0 : decode cX9_read 0 = .ok (.aload_n 0, 1) := by decide +kernel
theorem dX9_read_1 : decode cX9_read 1 = .ok (.sipush 160, 3) := by decide +kernel
theorem dX9_read_4 : decode cX9_read 4 = .ok (.iload_n 1, 1) := by decide +kernel
theorem dX9_read_5 : decode cX9_read 5 = .ok (.imul, 1) := by decide +kernel
theorem dX9_read_6 : decode cX9_read 6 = .ok (.putfield 138, 3) := by decide +kernel
theorem dX9_read_9 : decode cX9_read 9 = .ok (.aload_n 0, 1) := by decide +kernel
theorem dX9_read_10 : decode cX9_read 10 = .ok (.aload_n 0, 1) := by decide +kernel
theorem dX9_read_11 : decode cX9_read 11 = .ok (.getfield 17, 3) := by decide +kernel
theorem dX9_read_14 : decode cX9_read 14 = .ok (.iload_n 1, 1) := by decide +kernel
theorem dX9_read_15 : decode cX9_read 15 = .ok (.iaload, 1) := by decide +kernel
theorem dX9_read_16 : decode cX9_read 16 = .ok (.putfield 135, 3) := by decide +kernel
theorem dX9_read_19 : decode cX9_read 19 = .ok (.aload_n 0, 1) := by decide +kernel
theorem dX9_read_20 : decode cX9_read 20 = .ok (.iconst 0, 1) := by decide +kernel
theorem dX9_read_21 : decode cX9_read 21 = .ok (.putfield 141, 3) := by decide +kernel
theorem dX9_read_24 : decode cX9_read 24 = .ok (.aload_n 0, 1) := by decide +kernel
theorem dX9_read_25 : decode cX9_read 25 = .ok (.iconst 0, 1) := by decide +kernel
theorem dX9_read_26 : decode cX9_read 26 = .ok (.putfield 177, 3) := by decide +kernel
theorem dX9_read_29 : decode cX9_read 29 = .ok (.aload_n 0, 1) := by decide +kernel
theorem dX9_read_30 : decode cX9_read 30 = .ok (.iconst 0, 1) := by decide +kernel
theorem dX9_read_31 : decode cX9_read 31 = .ok (.putfield 166, 3) := by decide +kernel
theorem dX9_read_34 : decode cX9_read 34 = .ok (.aload_n 0, 1) := by decide +kernel
theorem dX9_read_35 : decode cX9_read 35 = .ok (.invokevirtual 183, 3) := by decide +kernel
theorem dX9_read_38 : decode cX9_read 38 = .ok (.aload_n 0, 1) := by decide +kernel
theorem dX9_read_39 : decode cX9_read 39 = .ok (.aload_n 0, 1) := by decide +kernel
theorem dX9_read_40 : decode cX9_read 40 = .ok (.bipush 98, 2) := by decide +kernel
theorem dX9_read_42 : decode cX9_read 42 = .ok (.bipush 101, 2) := by decide +kernel
theorem dX9_read_44 : decode cX9_read 44 = .ok (.bipush 97, 2) := by decide +kernel
theorem dX9_read_46 : decode cX9_read 46 = .ok (.bipush 114, 2) := by decide +kernel
theorem dX9_read_48 : decode cX9_read 48 = .ok (.bipush 115, 2) := by decide +kernel
theorem dX9_read_50 : decode cX9_read 50 = .ok (.iconst 0, 1) := by decide +kernel
theorem dX9_read_51 : decode cX9_read 51 = .ok (.iconst 0, 1) := by decide +kernel
theorem dX9_read_52 : decode cX9_read 52 = .ok (.iconst 0, 1) := by decide +kernel
theorem dX9_read_53 : decode cX9_read 53 = .ok (.invokevirtual 186, 3) := by decide +kernel
theorem dX9_read_56 : decode cX9_read 56 = .ok (.invokevirtual 241, 3) := by decide +kernel
theorem dX9_read_59 : decode cX9_read 59 = .ok (.istore_n 3, 1) := by decide +kernel
theorem dX9_read_60 : decode cX9_read 60 = .ok (.aload_n 0, 1) := by decide +kernel
theorem dX9_read_61 : decode cX9_read 61 = .ok (.getfield 166, 3) := by decide +kernel
theorem dX9_read_64 : decode cX9_read 64 = .ok (.ifCond .eq 7, 3) := by decide +kernel
theorem dX9_read_67 : decode cX9_read 67 = .ok (.iconst 0, 1) := by decide +kernel
theorem dX9_read_68 : decode cX9_read 68 = .ok (.goto 24, 3) := by decide +kernel
theorem dX9_read_71 : decode cX9_read 71 = .ok (.aload_n 0, 1) := by decide +kernel
theorem dX9_read_72 : decode cX9_read 72 = .ok (.aload_n 0, 1) := by decide +kernel
theorem dX9_read_73 : decode cX9_read 73 = .ok (.bipush 116, 2) := by decide +kernel
theorem dX9_read_75 : decode cX9_read 75 = .ok (.bipush 97, 2) := by decide +kernel
theorem dX9_read_77 : decode cX9_read 77 = .ok (.bipush 107, 2) := by decide +kernel
theorem dX9_read_79 : decode cX9_read 79 = .ok (.bipush 101, 2) := by decide +kernel
theorem dX9_read_81 : decode cX9_read 81 = .ok (.bipush 115, 2) := by decide +kernel
theorem dX9_read_83 : decode cX9_read 83 = .ok (.iconst 0, 1) := by decide +kernel
theorem dX9_read_84 : decode cX9_read 84 = .ok (.iconst 0, 1) := by decide +kernel
theorem dX9_read_85 : decode cX9_read 85 = .ok (.iconst 0, 1) := by decide +kernel
theorem dX9_read_86 : decode cX9_read 86 = .ok (.invokevirtual 186, 3) := by decide +kernel
theorem dX9_read_89 : decode cX9_read 89 = .ok (.invokevirtual 241, 3) := by decide +kernel
theorem dX9_read_92 : decode cX9_read 92 = .ok (.istore 4, 2) := by decide +kernel
theorem dX9_read_94 : decode cX9_read 94 = .ok (.aload_n 0, 1) := by decide +kernel
theorem dX9_read_95 : decode cX9_read 95 = .ok (.getfield 166, 3) := by decide +kernel
theorem dX9_read_98 : decode cX9_read 98 = .ok (.ifCond .eq 7, 3) := by decide +kernel
theorem dX9_read_101 : decode cX9_read 101 = .ok (.iconst 0, 1) := by decide +kernel
theorem dX9_read_102 : decode cX9_read 102 = .ok (.goto 24, 3) := by decide +kernel
theorem dX9_read_105 : decode cX9_read 105 = .ok (.aload_n 0, 1) := by decide +kernel
theorem dX9_read_106 : decode cX9_read 106 = .ok (.aload_n 0, 1) := by decide +kernel
theorem dX9_read_107 : decode cX9_read 107 = .ok (.bipush 102, 2) := by decide +kernel
theorem dX9_read_109 : decode cX9_read 109 = .ok (.bipush 105, 2) := by decide +kernel
theorem dX9_read_111 : decode cX9_read 111 = .ok (.bipush 114, 2) := by decide +kernel
theorem dX9_read_113 : decode cX9_read 113 = .ok (.bipush 115, 2) := by decide +kernel
theorem dX9_read_115 : decode cX9_read 115 = .ok (.bipush 116, 2) := by decide +kernel
theorem dX9_read_117 : decode cX9_read 117 = .ok (.iconst 0, 1) := by decide +kernel
theorem dX9_read_118 : decode cX9_read 118 = .ok (.iconst 0, 1) := by decide +kernel
theorem dX9_read_119 : decode cX9_read 119 = .ok (.iconst 0, 1) := by decide +kernel
theorem dX9_read_120 : decode cX9_read 120 = .ok (.invokevirtual 186, 3) := by decide +kernel
theorem dX9_read_123 : decode cX9_read 123 = .ok (.invokevirtual 241, 3) := by decide +kernel
theorem dX9_read_126 : decode cX9_read 126 = .ok (.istore 5, 2) := by decide +kernel
theorem dX9_read_128 : decode cX9_read 128 = .ok (.aload_n 0, 1) := by decide +kernel
theorem dX9_read_129 : decode cX9_read 129 = .ok (.getfield 166, 3) := by decide +kernel
theorem dX9_read_132 : decode cX9_read 132 = .ok (.ifCond .ne 14, 3) := by decide +kernel
theorem dX9_read_135 : decode cX9_read 135 = .ok (.aload_n 0, 1) := by decide +kernel
theorem dX9_read_136 : decode cX9_read 136 = .ok (.getfield 151, 3) := by decide +kernel
theorem dX9_read_139 : decode cX9_read 139 = .ok (.ifCond .eq 7, 3) := by decide +kernel
theorem dX9_read_142 : decode cX9_read 142 = .ok (.aload_n 0, 1) := by decide +kernel
theorem dX9_read_143 : decode cX9_read 143 = .ok (.invokevirtual 180, 3) := by decide +kernel
theorem dX9_read_146 : decode cX9_read 146 = .ok (.iload_n 2, 1) := by decide +kernel
theorem dX9_read_147 : decode cX9_read 147 = .ok (.ifCond .ne 7, 3) := by decide +kernel
theorem dX9_read_150 : decode cX9_read 150 = .ok (.iload_n 3, 1) := by decide +kernel
theorem dX9_read_151 : decode cX9_read 151 = .ok (.goto 15, 3) := by decide +kernel
theorem dX9_read_154 : decode cX9_read 154 = .ok (.iload_n 2, 1) := by decide +kernel
theorem dX9_read_155 : decode cX9_read 155 = .ok (.iconst 1, 1) := by decide +kernel
theorem dX9_read_156 : decode cX9_read 156 = .ok (.if_icmp .ne 8, 3) := by decide +kernel
theorem dX9_read_159 : decode cX9_read 159 = .ok (.iload 4, 2) := by decide +kernel
theorem dX9_read_161 : decode cX9_read 161 = .ok (.goto 5, 3) := by decide +kernel
theorem dX9_read_164 : decode cX9_read 164 = .ok (.iload 5, 2) := by decide +kernel
theorem dX9_read_166 : decode cX9_read 166 = .ok (.ireturn, 1) := by decide +kernel
theorem dX9_text_0 : decode cX9_text 0 = .ok (.aload_n 0, 1) := by decide +kernel
theorem dX9_text_1 : decode cX9_text 1 = .ok (.getfield 88, 3) := by decide +kernel
theorem dX9_text_4 : decode cX9_text 4 = .ok (.bipush 6, 2) := by decide +kernel
theorem dX9_text_6 : decode cX9_text 6 = .ok (.if_icmp .ne 6, 3) := by decide +kernel
theorem dX9_text_9 : decode cX9_text 9 = .ok (.bipush (-4), 2) := by decide +kernel
theorem dX9_text_11 : decode cX9_text 11 = .ok (.ireturn, 1) := by decide +kernel
theorem dX9_text_12 : decode cX9_text 12 = .ok (.iconst 0, 1) := by decide +kernel
theorem dX9_text_13 : decode cX9_text 13 = .ok (.istore_n 1, 1) := by decide +kernel
theorem dX9_text_14 : decode cX9_text 14 = .ok (.iload_n 1, 1) := by decide +kernel
theorem dX9_text_15 : decode cX9_text 15 = .ok (.aload_n 0, 1) := by decide +kernel
theorem dX9_text_16 : decode cX9_text 16 = .ok (.getfield 132, 3) := by decide +kernel
theorem dX9_text_19 : decode cX9_text 19 = .ok (.if_icmp .ge 30, 3) := by decide +kernel
theorem dX9_text_22 : decode cX9_text 22 = .ok (.aload_n 0, 1) := by decide +kernel
theorem dX9_text_23 : decode cX9_text 23 = .ok (.getfield 13, 3) := by decide +kernel
theorem dX9_text_26 : decode cX9_text 26 = .ok (.sipush 160, 3) := by decide +kernel
theorem dX9_text_29 : decode cX9_text 29 = .ok (.aload_n 0, 1) := by decide +kernel
theorem dX9_text_30 : decode cX9_text 30 = .ok (.getfield 88, 3) := by decide +kernel
theorem dX9_text_33 : decode cX9_text 33 = .ok (.imul, 1) := by decide +kernel
theorem dX9_text_34 : decode cX9_text 34 = .ok (.iload_n 1, 1) := by decide +kernel
theorem dX9_text_35 : decode cX9_text 35 = .ok (.iadd, 1) := by decide +kernel
theorem dX9_text_36 : decode cX9_text 36 = .ok (.aload_n 0, 1) := by decide +kernel
theorem dX9_text_37 : decode cX9_text 37 = .ok (.getfield 20, 3) := by decide +kernel
theorem dX9_text_40 : decode cX9_text 40 = .ok (.iload_n 1, 1) := by decide +kernel
theorem dX9_text_41 : decode cX9_text 41 = .ok (.iaload, 1) := by decide +kernel
theorem dX9_text_42 : decode cX9_text 42 = .ok (.iastore, 1) := by decide +kernel
theorem dX9_text_43 : decode cX9_text 43 = .ok (.iinc 1 1, 3) := by decide +kernel
theorem dX9_text_46 : decode cX9_text 46 = .ok (.goto (-32), 3) := by decide +kernel
theorem dX9_text_49 : decode cX9_text 49 = .ok (.aload_n 0, 1) := by decide +kernel
theorem dX9_text_50 : decode cX9_text 50 = .ok (.getfield 17, 3) := by decide +kernel
theorem dX9_text_53 : decode cX9_text 53 = .ok (.aload_n 0, 1) := by decide +kernel
theorem dX9_text_54 : decode cX9_text 54 = .ok (.getfield 88, 3) := by decide +kernel
theorem dX9_text_57 : decode cX9_text 57 = .ok (.aload_n 0, 1) := by decide +kernel
theorem dX9_text_58 : decode cX9_text 58 = .ok (.getfield 132, 3) := by decide +kernel
theorem dX9_text_61 : decode cX9_text 61 = .ok (.iastore, 1) := by decide +kernel
theorem dX9_text_62 : decode cX9_text 62 = .ok (.aload_n 0, 1) := by decide +kernel
theorem dX9_text_63 : decode cX9_text 63 = .ok (.iconst 0, 1) := by decide +kernel
theorem dX9_text_64 : decode cX9_text 64 = .ok (.putfield 132, 3) := by decide +kernel
theorem dX9_text_67 : decode cX9_text 67 = .ok (.aload_n 0, 1) := by decide +kernel
theorem dX9_text_68 : decode cX9_text 68 = .ok (.aload_n 0, 1) := by decide +kernel
theorem dX9_text_69 : decode cX9_text 69 = .ok (.getfield 88, 3) := by decide +kernel
theorem dX9_text_72 : decode cX9_text 72 = .ok (.iconst 0, 1) := by decide +kernel
theorem dX9_text_73 : decode cX9_text 73 = .ok (.invokevirtual 245, 3) := by decide +kernel
theorem dX9_text_76 : decode cX9_text 76 = .ok (.istore_n 1, 1) := by decide +kernel
theorem dX9_text_77 : decode cX9_text 77 = .ok (.aload_n 0, 1) := by decide +kernel
theorem dX9_text_78 : decode cX9_text 78 = .ok (.getfield 166, 3) := by decide +kernel
theorem dX9_text_81 : decode cX9_text 81 = .ok (.ifCond .eq 11, 3) := by decide +kernel
theorem dX9_text_84 : decode cX9_text 84 = .ok (.bipush (-100), 2) := by decide +kernel
theorem dX9_text_86 : decode cX9_text 86 = .ok (.aload_n 0, 1) := by decide +kernel
theorem dX9_text_87 : decode cX9_text 87 = .ok (.getfield 170, 3) := by decide +kernel
theorem dX9_text_90 : decode cX9_text 90 = .ok (.isub, 1) := by decide +kernel
theorem dX9_text_91 : decode cX9_text 91 = .ok (.ireturn, 1) := by decide +kernel
theorem dX9_text_92 : decode cX9_text 92 = .ok (.aload_n 0, 1) := by decide +kernel
theorem dX9_text_93 : decode cX9_text 93 = .ok (.dup, 1) := by decide +kernel
theorem dX9_text_94 : decode cX9_text 94 = .ok (.getfield 88, 3) := by decide +kernel
theorem dX9_text_97 : decode cX9_text 97 = .ok (.iconst 1, 1) := by decide +kernel
theorem dX9_text_98 : decode cX9_text 98 = .ok (.iadd, 1) := by decide +kernel
theorem dX9_text_99 : decode cX9_text 99 = .ok (.putfield 88, 3) := by decide +kernel
theorem dX9_text_102 : decode cX9_text 102 = .ok (.aload_n 0, 1) := by decide +kernel
theorem dX9_text_103 : decode cX9_text 103 = .ok (.getfield 88, 3) := by decide +kernel
theorem dX9_text_106 : decode cX9_text 106 = .ok (.iconst 1, 1) := by decide +kernel
theorem dX9_text_107 : decode cX9_text 107 = .ok (.isub, 1) := by decide +kernel
theorem dX9_text_108 : decode cX9_text 108 = .ok (.ireturn, 1) := by decide +kernel
theorem dX9_force_0 : decode cX9_force 0 = .ok (.iload_n 1, 1) := by decide +kernel
theorem dX9_force_1 : decode cX9_force 1 = .ok (.i2l, 1) := by decide +kernel
theorem dX9_force_2 : decode cX9_force 2 = .ok (.lconst 0, 1) := by decide +kernel
theorem dX9_force_3 : decode cX9_force 3 = .ok (.aload_n 0, 1) := by decide +kernel
theorem dX9_force_4 : decode cX9_force 4 = .ok (.getfield 88, 3) := by decide +kernel
theorem dX9_force_7 : decode cX9_force 7 = .ok (.iconst 1, 1) := by decide +kernel
theorem dX9_force_8 : decode cX9_force 8 = .ok (.isub, 1) := by decide +kernel
theorem dX9_force_9 : decode cX9_force 9 = .ok (.i2l, 1) := by decide +kernel
theorem dX9_force_10 : decode cX9_force 10 = .ok (.invokestatic 94, 3) := by decide +kernel
theorem dX9_force_13 : decode cX9_force 13 = .ok (.ifCond .ne 6, 3) := by decide +kernel
theorem dX9_force_16 : decode cX9_force 16 = .ok (.bipush (-2), 2) := by decide +kernel
theorem dX9_force_18 : decode cX9_force 18 = .ok (.ireturn, 1) := by decide +kernel
theorem dX9_force_19 : decode cX9_force 19 = .ok (.aload_n 0, 1) := by decide +kernel
theorem dX9_force_20 : decode cX9_force 20 = .ok (.getfield 249, 3) := by decide +kernel
theorem dX9_force_23 : decode cX9_force 23 = .ok (.istore_n 2, 1) := by decide +kernel
theorem dX9_force_24 : decode cX9_force 24 = .ok (.aload_n 0, 1) := by decide +kernel
theorem dX9_force_25 : decode cX9_force 25 = .ok (.iload_n 1, 1) := by decide +kernel
theorem dX9_force_26 : decode cX9_force 26 = .ok (.putfield 249, 3) := by decide +kernel
theorem dX9_force_29 : decode cX9_force 29 = .ok (.iload_n 2, 1) := by decide +kernel
theorem dX9_force_30 : decode cX9_force 30 = .ok (.ireturn, 1) := by decide +kernel
theorem dX9_says_0 : decode cX9_says 0 = .ok (.aload_n 0, 1) := by decide +kernel
theorem dX9_says_1 : decode cX9_says 1 = .ok (.aload_n 0, 1) := by decide +kernel
theorem dX9_says_2 : decode cX9_says 2 = .ok (.getfield 252, 3) := by decide +kernel
theorem dX9_says_5 : decode cX9_says 5 = .ok (.putfield 190, 3) := by decide +kernel
theorem dX9_says_8 : decode cX9_says 8 = .ok (.aload_n 0, 1) := by decide +kernel
theorem dX9_says_9 : decode cX9_says 9 = .ok (.iload_n 2, 1) := by decide +kernel
theorem dX9_says_10 : decode cX9_says 10 = .ok (.putfield 193, 3) := by decide +kernel
theorem dX9_says_13 : decode cX9_says 13 = .ok (.aload_n 0, 1) := by decide +kernel
theorem dX9_says_14 : decode cX9_says 14 = .ok (.iload_n 3, 1) := by decide +kernel
theorem dX9_says_15 : decode cX9_says 15 = .ok (.putfield 196, 3) := by decide +kernel
theorem dX9_says_18 : decode cX9_says 18 = .ok (.aload_n 0, 1) := by decide +kernel
theorem dX9_says_19 : decode cX9_says 19 = .ok (.iload 4, 2) := by decide +kernel
theorem dX9_says_21 : decode cX9_says 21 = .ok (.putfield 199, 3) := by decide +kernel
theorem dX9_says_24 : decode cX9_says 24 = .ok (.aload_n 0, 1) := by decide +kernel
theorem dX9_says_25 : decode cX9_says 25 = .ok (.aload_n 0, 1) := by decide +kernel
theorem dX9_says_26 : decode cX9_says 26 = .ok (.getfield 255, 3) := by decide +kernel
theorem dX9_says_29 : decode cX9_says 29 = .ok (.putfield 202, 3) := by decide +kernel
theorem dX9_says_32 : decode cX9_says 32 = .ok (.aload_n 0, 1) := by decide +kernel
theorem dX9_says_33 : decode cX9_says 33 = .ok (.aload_n 0, 1) := by decide +kernel
theorem dX9_says_34 : decode cX9_says 34 = .ok (.getfield 258, 3) := by decide +kernel
theorem dX9_says_37 : decode cX9_says 37 = .ok (.putfield 205, 3) := by decide +kernel
theorem dX9_says_40 : decode cX9_says 40 = .ok (.aload_n 0, 1) := by decide +kernel
theorem dX9_says_41 : decode cX9_says 41 = .ok (.aload_n 0, 1) := by decide +kernel
theorem dX9_says_42 : decode cX9_says 42 = .ok (.getfield 249, 3) := by decide +kernel
theorem dX9_says_45 : decode cX9_says 45 = .ok (.iload_n 1, 1) := by decide +kernel
theorem dX9_says_46 : decode cX9_says 46 = .ok (.invokevirtual 245, 3) := by decide +kernel
theorem dX9_says_49 : decode cX9_says 49 = .ok (.istore 5, 2) := by decide +kernel
theorem dX9_says_51 : decode cX9_says 51 = .ok (.iload_n 1, 1) := by decide +kernel
theorem dX9_says_52 : decode cX9_says 52 = .ok (.ifCond .ne 15, 3) := by decide +kernel
theorem dX9_says_55 : decode cX9_says 55 = .ok (.iload 5, 2) := by decide +kernel
theorem dX9_says_57 : decode cX9_says 57 = .ok (.bipush (-99), 2) := by decide +kernel
theorem dX9_says_59 : decode cX9_says 59 = .ok (.bipush 99, 2) := by decide +kernel
theorem dX9_says_61 : decode cX9_says 61 = .ok (.invokestatic 261, 3) := by decide +kernel
theorem dX9_says_64 : decode cX9_says 64 = .ok (.goto 21, 3) := by decide +kernel
theorem dX9_says_67 : decode cX9_says 67 = .ok (.iload_n 1, 1) := by decide +kernel
theorem dX9_says_68 : decode cX9_says 68 = .ok (.iconst 1, 1) := by decide +kernel
theorem dX9_says_69 : decode cX9_says 69 = .ok (.if_icmp .ne 14, 3) := by decide +kernel
theorem dX9_says_72 : decode cX9_says 72 = .ok (.iload 5, 2) := by decide +kernel
theorem dX9_says_74 : decode cX9_says 74 = .ok (.iconst 0, 1) := by decide +kernel
theorem dX9_says_75 : decode cX9_says 75 = .ok (.bipush 99, 2) := by decide +kernel
theorem dX9_says_77 : decode cX9_says 77 = .ok (.invokestatic 261, 3) := by decide +kernel
theorem dX9_says_80 : decode cX9_says 80 = .ok (.goto 5, 3) := by decide +kernel
theorem dX9_says_83 : decode cX9_says 83 = .ok (.iload 5, 2) := by decide +kernel
theorem dX9_says_85 : decode cX9_says 85 = .ok (.ireturn, 1) := by decide +kernel
theorem dX9_begins_0 : decode cX9_begins 0 = .ok (.aload_n 0, 1) := by decide +kernel
theorem dX9_begins_1 : decode cX9_begins 1 = .ok (.iconst 0, 1) := by decide +kernel
theorem dX9_begins_2 : decode cX9_begins 2 = .ok (.putfield 252, 3) := by decide +kernel
theorem dX9_begins_5 : decode cX9_begins 5 = .ok (.aload_n 0, 1) := by decide +kernel
theorem dX9_begins_6 : decode cX9_begins 6 = .ok (.aload_n 0, 1) := by decide +kernel
theorem dX9_begins_7 : decode cX9_begins 7 = .ok (.getfield 127, 3) := by decide +kernel
theorem dX9_begins_10 : decode cX9_begins 10 = .ok (.putfield 258, 3) := by decide +kernel
theorem dX9_begins_13 : decode cX9_begins 13 = .ok (.aload_n 0, 1) := by decide +kernel
theorem dX9_begins_14 : decode cX9_begins 14 = .ok (.iconst 0, 1) := by decide +kernel
theorem dX9_begins_15 : decode cX9_begins 15 = .ok (.putfield 255, 3) := by decide +kernel
theorem dX9_begins_18 : decode cX9_begins 18 = .ok (.aload_n 0, 1) := by decide +kernel
theorem dX9_begins_19 : decode cX9_begins 19 = .ok (.iconst 1, 1) := by decide +kernel
theorem dX9_begins_20 : decode cX9_begins 20 = .ok (.aload_n 0, 1) := by decide +kernel
theorem dX9_begins_21 : decode cX9_begins 21 = .ok (.getfield 91, 3) := by decide +kernel
theorem dX9_begins_24 : decode cX9_begins 24 = .ok (.ishl, 1) := by decide +kernel
theorem dX9_begins_25 : decode cX9_begins 25 = .ok (.iconst 1, 1) := by decide +kernel
theorem dX9_begins_26 : decode cX9_begins 26 = .ok (.isub, 1) := by decide +kernel
theorem dX9_begins_27 : decode cX9_begins 27 = .ok (.putfield 265, 3) := by decide +kernel
theorem dX9_begins_30 : decode cX9_begins 30 = .ok (.aload_n 0, 1) := by decide +kernel
theorem dX9_begins_31 : decode cX9_begins 31 = .ok (.iconst 0, 1) := by decide +kernel
theorem dX9_begins_32 : decode cX9_begins 32 = .ok (.putfield 268, 3) := by decide +kernel
theorem dX9_begins_35 : decode cX9_begins 35 = .ok (.aload_n 0, 1) := by decide +kernel
theorem dX9_begins_36 : decode cX9_begins 36 = .ok (.iconst 0, 1) := by decide +kernel
theorem dX9_begins_37 : decode cX9_begins 37 = .ok (.putfield 271, 3) := by decide +kernel
theorem dX9_begins_40 : decode cX9_begins 40 = .ok (.aload_n 0, 1) := by decide +kernel
theorem dX9_begins_41 : decode cX9_begins 41 = .ok (.iconst 0, 1) := by decide +kernel
theorem dX9_begins_42 : decode cX9_begins 42 = .ok (.putfield 274, 3) := by decide +kernel
theorem dX9_begins_45 : decode cX9_begins 45 = .ok (.iconst 0, 1) := by decide +kernel
theorem dX9_begins_46 : decode cX9_begins 46 = .ok (.istore_n 1, 1) := by decide +kernel
theorem dX9_begins_47 : decode cX9_begins 47 = .ok (.iload_n 1, 1) := by decide +kernel
theorem dX9_begins_48 : decode cX9_begins 48 = .ok (.bipush 8, 2) := by decide +kernel
theorem dX9_begins_50 : decode cX9_begins 50 = .ok (.if_icmp .ge 23, 3) := by decide +kernel
theorem dX9_begins_53 : decode cX9_begins 53 = .ok (.aload_n 0, 1) := by decide +kernel
theorem dX9_begins_54 : decode cX9_begins 54 = .ok (.getfield 44, 3) := by decide +kernel
theorem dX9_begins_57 : decode cX9_begins 57 = .ok (.iload_n 1, 1) := by decide +kernel
theorem dX9_begins_58 : decode cX9_begins 58 = .ok (.iconst 0, 1) := by decide +kernel
theorem dX9_begins_59 : decode cX9_begins 59 = .ok (.iastore, 1) := by decide +kernel
theorem dX9_begins_60 : decode cX9_begins 60 = .ok (.aload_n 0, 1) := by decide +kernel
theorem dX9_begins_61 : decode cX9_begins 61 = .ok (.getfield 47, 3) := by decide +kernel
theorem dX9_begins_64 : decode cX9_begins 64 = .ok (.iload_n 1, 1) := by decide +kernel
theorem dX9_begins_65 : decode cX9_begins 65 = .ok (.iconst 0, 1) := by decide +kernel
theorem dX9_begins_66 : decode cX9_begins 66 = .ok (.iastore, 1) := by decide +kernel
theorem dX9_begins_67 : decode cX9_begins 67 = .ok (.iinc 1 1, 3) := by decide +kernel
theorem dX9_begins_70 : decode cX9_begins 70 = .ok (.goto (-23), 3) := by decide +kernel
theorem dX9_begins_73 : decode cX9_begins 73 = .ok (.return_, 1) := by decide +kernel
theorem dX9_canSing_0 : decode cX9_canSing 0 = .ok (.aload_n 0, 1) := by decide +kernel
theorem dX9_canSing_1 : decode cX9_canSing 1 = .ok (.getfield 265, 3) := by decide +kernel
theorem dX9_canSing_4 : decode cX9_canSing 4 = .ok (.aload_n 0, 1) := by decide +kernel
theorem dX9_canSing_5 : decode cX9_canSing 5 = .ok (.getfield 38, 3) := by decide +kernel
theorem dX9_canSing_8 : decode cX9_canSing 8 = .ok (.iload_n 1, 1) := by decide +kernel
theorem dX9_canSing_9 : decode cX9_canSing 9 = .ok (.iaload, 1) := by decide +kernel
theorem dX9_canSing_10 : decode cX9_canSing 10 = .ok (.ishr, 1) := by decide +kernel
theorem dX9_canSing_11 : decode cX9_canSing 11 = .ok (.iconst 1, 1) := by decide +kernel
theorem dX9_canSing_12 : decode cX9_canSing 12 = .ok (.iand, 1) := by decide +kernel
theorem dX9_canSing_13 : decode cX9_canSing 13 = .ok (.iconst 1, 1) := by decide +kernel
theorem dX9_canSing_14 : decode cX9_canSing 14 = .ok (.if_icmp .ne 25, 3) := by decide +kernel
theorem dX9_canSing_17 : decode cX9_canSing 17 = .ok (.aload_n 0, 1) := by decide +kernel
theorem dX9_canSing_18 : decode cX9_canSing 18 = .ok (.getfield 252, 3) := by decide +kernel
theorem dX9_canSing_21 : decode cX9_canSing 21 = .ok (.aload_n 0, 1) := by decide +kernel
theorem dX9_canSing_22 : decode cX9_canSing 22 = .ok (.getfield 35, 3) := by decide +kernel
theorem dX9_canSing_25 : decode cX9_canSing 25 = .ok (.iload_n 1, 1) := by decide +kernel
theorem dX9_canSing_26 : decode cX9_canSing 26 = .ok (.iaload, 1) := by decide +kernel
theorem dX9_canSing_27 : decode cX9_canSing 27 = .ok (.iadd, 1) := by decide +kernel
theorem dX9_canSing_28 : decode cX9_canSing 28 = .ok (.aload_n 0, 1) := by decide +kernel
theorem dX9_canSing_29 : decode cX9_canSing 29 = .ok (.getfield 41, 3) := by decide +kernel
theorem dX9_canSing_32 : decode cX9_canSing 32 = .ok (.if_icmp .gt 7, 3) := by decide +kernel
theorem dX9_canSing_35 : decode cX9_canSing 35 = .ok (.iconst 1, 1) := by decide +kernel
theorem dX9_canSing_36 : decode cX9_canSing 36 = .ok (.goto 4, 3) := by decide +kernel
theorem dX9_canSing_39 : decode cX9_canSing 39 = .ok (.iconst 0, 1) := by decide +kernel
theorem dX9_canSing_40 : decode cX9_canSing 40 = .ok (.ireturn, 1) := by decide +kernel
theorem dX9_calls_0 : decode cX9_calls 0 = .ok (.aload_n 0, 1) := by decide +kernel
theorem dX9_calls_1 : decode cX9_calls 1 = .ok (.dup, 1) := by decide +kernel
theorem dX9_calls_2 : decode cX9_calls 2 = .ok (.getfield 271, 3) := by decide +kernel
theorem dX9_calls_5 : decode cX9_calls 5 = .ok (.iconst 1, 1) := by decide +kernel
theorem dX9_calls_6 : decode cX9_calls 6 = .ok (.iload_n 1, 1) := by decide +kernel
theorem dX9_calls_7 : decode cX9_calls 7 = .ok (.ishl, 1) := by decide +kernel
theorem dX9_calls_8 : decode cX9_calls 8 = .ok (.ior, 1) := by decide +kernel
theorem dX9_calls_9 : decode cX9_calls 9 = .ok (.putfield 271, 3) := by decide +kernel
theorem dX9_calls_12 : decode cX9_calls 12 = .ok (.aload_n 0, 1) := by decide +kernel
theorem dX9_calls_13 : decode cX9_calls 13 = .ok (.iload_n 1, 1) := by decide +kernel
theorem dX9_calls_14 : decode cX9_calls 14 = .ok (.invokevirtual 277, 3) := by decide +kernel
theorem dX9_calls_17 : decode cX9_calls 17 = .ok (.ifCond .ne 4, 3) := by decide +kernel
theorem dX9_calls_20 : decode cX9_calls 20 = .ok (.return_, 1) := by decide +kernel
theorem dX9_calls_21 : decode cX9_calls 21 = .ok (.aload_n 0, 1) := by decide +kernel
theorem dX9_calls_22 : decode cX9_calls 22 = .ok (.getfield 50, 3) := by decide +kernel
theorem dX9_calls_25 : decode cX9_calls 25 = .ok (.iload_n 1, 1) := by decide +kernel
theorem dX9_calls_26 : decode cX9_calls 26 = .ok (.aload_n 0, 1) := by decide +kernel
theorem dX9_calls_27 : decode cX9_calls 27 = .ok (.getfield 252, 3) := by decide +kernel
theorem dX9_calls_30 : decode cX9_calls 30 = .ok (.iastore, 1) := by decide +kernel
theorem dX9_calls_31 : decode cX9_calls 31 = .ok (.aload_n 0, 1) := by decide +kernel
theorem dX9_calls_32 : decode cX9_calls 32 = .ok (.dup, 1) := by decide +kernel
theorem dX9_calls_33 : decode cX9_calls 33 = .ok (.getfield 252, 3) := by decide +kernel
theorem dX9_calls_36 : decode cX9_calls 36 = .ok (.aload_n 0, 1) := by decide +kernel
theorem dX9_calls_37 : decode cX9_calls 37 = .ok (.getfield 35, 3) := by decide +kernel
theorem dX9_calls_40 : decode cX9_calls 40 = .ok (.iload_n 1, 1) := by decide +kernel
theorem dX9_calls_41 : decode cX9_calls 41 = .ok (.iaload, 1) := by decide +kernel
theorem dX9_calls_42 : decode cX9_calls 42 = .ok (.iadd, 1) := by decide +kernel
theorem dX9_calls_43 : decode cX9_calls 43 = .ok (.putfield 252, 3) := by decide +kernel
theorem dX9_calls_46 : decode cX9_calls 46 = .ok (.aload_n 0, 1) := by decide +kernel
theorem dX9_calls_47 : decode cX9_calls 47 = .ok (.aload_n 0, 1) := by decide +kernel
theorem dX9_calls_48 : decode cX9_calls 48 = .ok (.getfield 258, 3) := by decide +kernel
theorem dX9_calls_51 : decode cX9_calls 51 = .ok (.aload_n 0, 1) := by decide +kernel
theorem dX9_calls_52 : decode cX9_calls 52 = .ok (.iload_n 1, 1) := by decide +kernel
theorem dX9_calls_53 : decode cX9_calls 53 = .ok (.aload_n 0, 1) := by decide +kernel
theorem dX9_calls_54 : decode cX9_calls 54 = .ok (.getfield 258, 3) := by decide +kernel
theorem dX9_calls_57 : decode cX9_calls 57 = .ok (.invokevirtual 280, 3) := by decide +kernel
theorem dX9_calls_60 : decode cX9_calls 60 = .ok (.iadd, 1) := by decide +kernel
theorem dX9_calls_61 : decode cX9_calls 61 = .ok (.bipush (-99), 2) := by decide +kernel
theorem dX9_calls_63 : decode cX9_calls 63 = .ok (.bipush 99, 2) := by decide +kernel
theorem dX9_calls_65 : decode cX9_calls 65 = .ok (.invokestatic 261, 3) := by decide +kernel
theorem dX9_calls_68 : decode cX9_calls 68 = .ok (.putfield 258, 3) := by decide +kernel
theorem dX9_calls_71 : decode cX9_calls 71 = .ok (.aload_n 0, 1) := by decide +kernel
theorem dX9_calls_72 : decode cX9_calls 72 = .ok (.getfield 26, 3) := by decide +kernel
theorem dX9_calls_75 : decode cX9_calls 75 = .ok (.aload_n 0, 1) := by decide +kernel
theorem dX9_calls_76 : decode cX9_calls 76 = .ok (.getfield 38, 3) := by decide +kernel
theorem dX9_calls_79 : decode cX9_calls 79 = .ok (.iload_n 1, 1) := by decide +kernel
theorem dX9_calls_80 : decode cX9_calls 80 = .ok (.iaload, 1) := by decide +kernel
theorem dX9_calls_81 : decode cX9_calls 81 = .ok (.iaload, 1) := by decide +kernel
theorem dX9_calls_82 : decode cX9_calls 82 = .ok (.istore_n 2, 1) := by decide +kernel
theorem dX9_calls_83 : decode cX9_calls 83 = .ok (.aload_n 0, 1) := by decide +kernel
theorem dX9_calls_84 : decode cX9_calls 84 = .ok (.getfield 44, 3) := by decide +kernel
theorem dX9_calls_87 : decode cX9_calls 87 = .ok (.iload_n 2, 1) := by decide +kernel
theorem dX9_calls_88 : decode cX9_calls 88 = .ok (.aload_n 0, 1) := by decide +kernel
theorem dX9_calls_89 : decode cX9_calls 89 = .ok (.getfield 252, 3) := by decide +kernel
theorem dX9_calls_92 : decode cX9_calls 92 = .ok (.iastore, 1) := by decide +kernel
theorem dX9_calls_93 : decode cX9_calls 93 = .ok (.aload_n 0, 1) := by decide +kernel
theorem dX9_calls_94 : decode cX9_calls 94 = .ok (.getfield 47, 3) := by decide +kernel
theorem dX9_calls_97 : decode cX9_calls 97 = .ok (.iload_n 2, 1) := by decide +kernel
theorem dX9_calls_98 : decode cX9_calls 98 = .ok (.dup2, 1) := by decide +kernel
theorem dX9_calls_99 : decode cX9_calls 99 = .ok (.iaload, 1) := by decide +kernel
theorem dX9_calls_100 : decode cX9_calls 100 = .ok (.iconst 1, 1) := by decide +kernel
theorem dX9_calls_101 : decode cX9_calls 101 = .ok (.iadd, 1) := by decide +kernel
theorem dX9_calls_102 : decode cX9_calls 102 = .ok (.iastore, 1) := by decide +kernel
theorem dX9_calls_103 : decode cX9_calls 103 = .ok (.aload_n 0, 1) := by decide +kernel
theorem dX9_calls_104 : decode cX9_calls 104 = .ok (.dup, 1) := by decide +kernel
theorem dX9_calls_105 : decode cX9_calls 105 = .ok (.getfield 268, 3) := by decide +kernel
theorem dX9_calls_108 : decode cX9_calls 108 = .ok (.iconst 1, 1) := by decide +kernel
theorem dX9_calls_109 : decode cX9_calls 109 = .ok (.iadd, 1) := by decide +kernel
theorem dX9_calls_110 : decode cX9_calls 110 = .ok (.putfield 268, 3) := by decide +kernel
theorem dX9_calls_113 : decode cX9_calls 113 = .ok (.aload_n 0, 1) := by decide +kernel
theorem dX9_calls_114 : decode cX9_calls 114 = .ok (.dup, 1) := by decide +kernel
theorem dX9_calls_115 : decode cX9_calls 115 = .ok (.getfield 274, 3) := by decide +kernel
theorem dX9_calls_118 : decode cX9_calls 118 = .ok (.iconst 1, 1) := by decide +kernel
theorem dX9_calls_119 : decode cX9_calls 119 = .ok (.iload_n 1, 1) := by decide +kernel
theorem dX9_calls_120 : decode cX9_calls 120 = .ok (.ishl, 1) := by decide +kernel
theorem dX9_calls_121 : decode cX9_calls 121 = .ok (.ior, 1) := by decide +kernel
theorem dX9_calls_122 : decode cX9_calls 122 = .ok (.putfield 274, 3) := by decide +kernel
theorem dX9_calls_125 : decode cX9_calls 125 = .ok (.aload_n 0, 1) := by decide +kernel
theorem dX9_calls_126 : decode cX9_calls 126 = .ok (.dup, 1) := by decide +kernel
theorem dX9_calls_127 : decode cX9_calls 127 = .ok (.getfield 255, 3) := by decide +kernel
theorem dX9_calls_130 : decode cX9_calls 130 = .ok (.aload_n 0, 1) := by decide +kernel
theorem dX9_calls_131 : decode cX9_calls 131 = .ok (.iload_n 1, 1) := by decide +kernel
theorem dX9_calls_132 : decode cX9_calls 132 = .ok (.aload_n 0, 1) := by decide +kernel
theorem dX9_calls_133 : decode cX9_calls 133 = .ok (.getfield 265, 3) := by decide +kernel
theorem dX9_calls_136 : decode cX9_calls 136 = .ok (.invokestatic 283, 3) := by decide +kernel
theorem dX9_calls_139 : decode cX9_calls 139 = .ok (.invokevirtual 286, 3) := by decide +kernel
theorem dX9_calls_142 : decode cX9_calls 142 = .ok (.aload_n 0, 1) := by decide +kernel
theorem dX9_calls_143 : decode cX9_calls 143 = .ok (.iconst 1, 1) := by decide +kernel
theorem dX9_calls_144 : decode cX9_calls 144 = .ok (.iconst 0, 1) := by decide +kernel
theorem dX9_calls_145 : decode cX9_calls 145 = .ok (.iconst 0, 1) := by decide +kernel
theorem dX9_calls_146 : decode cX9_calls 146 = .ok (.aload_n 0, 1) := by decide +kernel
theorem dX9_calls_147 : decode cX9_calls 147 = .ok (.getfield 29, 3) := by decide +kernel
theorem dX9_calls_150 : decode cX9_calls 150 = .ok (.iload_n 1, 1) := by decide +kernel
theorem dX9_calls_151 : decode cX9_calls 151 = .ok (.iaload, 1) := by decide +kernel
theorem dX9_calls_152 : decode cX9_calls 152 = .ok (.invokevirtual 289, 3) := by decide +kernel
theorem dX9_calls_155 : decode cX9_calls 155 = .ok (.imul, 1) := by decide +kernel
theorem dX9_calls_156 : decode cX9_calls 156 = .ok (.iadd, 1) := by decide +kernel
theorem dX9_calls_157 : decode cX9_calls 157 = .ok (.putfield 255, 3) := by decide +kernel
theorem dX9_calls_160 : decode cX9_calls 160 = .ok (.aload_n 0, 1) := by decide +kernel
theorem dX9_calls_161 : decode cX9_calls 161 = .ok (.getfield 265, 3) := by decide +kernel
theorem dX9_calls_164 : decode cX9_calls 164 = .ok (.istore_n 3, 1) := by decide +kernel
theorem dX9_calls_165 : decode cX9_calls 165 = .ok (.iconst 0, 1) := by decide +kernel
theorem dX9_calls_166 : decode cX9_calls 166 = .ok (.istore 4, 2) := by decide +kernel
theorem dX9_calls_168 : decode cX9_calls 168 = .ok (.iload 4, 2) := by decide +kernel
theorem dX9_calls_170 : decode cX9_calls 170 = .ok (.aload_n 0, 1) := by decide +kernel
theorem dX9_calls_171 : decode cX9_calls 171 = .ok (.getfield 91, 3) := by decide +kernel
theorem dX9_calls_174 : decode cX9_calls 174 = .ok (.if_icmp .ge 83, 3) := by decide +kernel
theorem dX9_calls_177 : decode cX9_calls 177 = .ok (.aload_n 0, 1) := by decide +kernel
theorem dX9_calls_178 : decode cX9_calls 178 = .ok (.getfield 265, 3) := by decide +kernel
theorem dX9_calls_181 : decode cX9_calls 181 = .ok (.iload 4, 2) := by decide +kernel
theorem dX9_calls_183 : decode cX9_calls 183 = .ok (.ishr, 1) := by decide +kernel
theorem dX9_calls_184 : decode cX9_calls 184 = .ok (.iconst 1, 1) := by decide +kernel
theorem dX9_calls_185 : decode cX9_calls 185 = .ok (.iand, 1) := by decide +kernel
theorem dX9_calls_186 : decode cX9_calls 186 = .ok (.iconst 1, 1) := by decide +kernel
theorem dX9_calls_187 : decode cX9_calls 187 = .ok (.if_icmp .ne 64, 3) := by decide +kernel
theorem dX9_calls_190 : decode cX9_calls 190 = .ok (.aload_n 0, 1) := by decide +kernel
theorem dX9_calls_191 : decode cX9_calls 191 = .ok (.getfield 252, 3) := by decide +kernel
theorem dX9_calls_194 : decode cX9_calls 194 = .ok (.aload_n 0, 1) := by decide +kernel
theorem dX9_calls_195 : decode cX9_calls 195 = .ok (.getfield 44, 3) := by decide +kernel
theorem dX9_calls_198 : decode cX9_calls 198 = .ok (.aload_n 0, 1) := by decide +kernel
theorem dX9_calls_199 : decode cX9_calls 199 = .ok (.getfield 26, 3) := by decide +kernel
theorem dX9_calls_202 : decode cX9_calls 202 = .ok (.iload 4, 2) := by decide +kernel
theorem dX9_calls_204 : decode cX9_calls 204 = .ok (.iaload, 1) := by decide +kernel
theorem dX9_calls_205 : decode cX9_calls 205 = .ok (.iaload, 1) := by decide +kernel
theorem dX9_calls_206 : decode cX9_calls 206 = .ok (.isub, 1) := by decide +kernel
theorem dX9_calls_207 : decode cX9_calls 207 = .ok (.istore 5, 2) := by decide +kernel
theorem dX9_calls_209 : decode cX9_calls 209 = .ok (.iload 5, 2) := by decide +kernel
theorem dX9_calls_211 : decode cX9_calls 211 = .ok (.aload_n 0, 1) := by decide +kernel
theorem dX9_calls_212 : decode cX9_calls 212 = .ok (.getfield 23, 3) := by decide +kernel
theorem dX9_calls_215 : decode cX9_calls 215 = .ok (.iload 4, 2) := by decide +kernel
theorem dX9_calls_217 : decode cX9_calls 217 = .ok (.iaload, 1) := by decide +kernel
theorem dX9_calls_218 : decode cX9_calls 218 = .ok (.aload_n 0, 1) := by decide +kernel
theorem dX9_calls_219 : decode cX9_calls 219 = .ok (.iconst 0, 1) := by decide +kernel
theorem dX9_calls_220 : decode cX9_calls 220 = .ok (.iload 5, 2) := by decide +kernel
theorem dX9_calls_222 : decode cX9_calls 222 = .ok (.aload_n 0, 1) := by decide +kernel
theorem dX9_calls_223 : decode cX9_calls 223 = .ok (.getfield 47, 3) := by decide +kernel
theorem dX9_calls_226 : decode cX9_calls 226 = .ok (.aload_n 0, 1) := by decide +kernel
theorem dX9_calls_227 : decode cX9_calls 227 = .ok (.getfield 26, 3) := by decide +kernel
theorem dX9_calls_230 : decode cX9_calls 230 = .ok (.iload 4, 2) := by decide +kernel
theorem dX9_calls_232 : decode cX9_calls 232 = .ok (.iaload, 1) := by decide +kernel
theorem dX9_calls_233 : decode cX9_calls 233 = .ok (.iaload, 1) := by decide +kernel
theorem dX9_calls_234 : decode cX9_calls 234 = .ok (.iconst 0, 1) := by decide +kernel
theorem dX9_calls_235 : decode cX9_calls 235 = .ok (.invokevirtual 289, 3) := by decide +kernel
theorem dX9_calls_238 : decode cX9_calls 238 = .ok (.iadd, 1) := by decide +kernel
theorem dX9_calls_239 : decode cX9_calls 239 = .ok (.if_icmp .le 12, 3) := by decide +kernel
theorem dX9_calls_242 : decode cX9_calls 242 = .ok (.iload_n 3, 1) := by decide +kernel
theorem dX9_calls_243 : decode cX9_calls 243 = .ok (.iconst 1, 1) := by decide +kernel
theorem dX9_calls_244 : decode cX9_calls 244 = .ok (.iload 4, 2) := by decide +kernel
theorem dX9_calls_246 : decode cX9_calls 246 = .ok (.ishl, 1) := by decide +kernel
theorem dX9_calls_247 : decode cX9_calls 247 = .ok (.iconst (-1), 1) := by decide +kernel
theorem dX9_calls_248 : decode cX9_calls 248 = .ok (.ixor, 1) := by decide +kernel
theorem dX9_calls_249 : decode cX9_calls 249 = .ok (.iand, 1) := by decide +kernel
theorem dX9_calls_250 : decode cX9_calls 250 = .ok (.istore_n 3, 1) := by decide +kernel
theorem dX9_calls_251 : decode cX9_calls 251 = .ok (.iinc 4 1, 3) := by decide +kernel
theorem dX9_calls_254 : decode cX9_calls 254 = .ok (.goto (-86), 3) := by decide +kernel
theorem dX9_calls_257 : decode cX9_calls 257 = .ok (.aload_n 0, 1) := by decide +kernel
theorem dX9_calls_258 : decode cX9_calls 258 = .ok (.iload_n 3, 1) := by decide +kernel
theorem dX9_calls_259 : decode cX9_calls 259 = .ok (.putfield 265, 3) := by decide +kernel
theorem dX9_calls_262 : decode cX9_calls 262 = .ok (.return_, 1) := by decide +kernel
theorem dX9_leftMany_0 : decode cX9_leftMany 0 = .ok (.aload_n 0, 1) := by decide +kernel
theorem dX9_leftMany_1 : decode cX9_leftMany 1 = .ok (.getfield 91, 3) := by decide +kernel
theorem dX9_leftMany_4 : decode cX9_leftMany 4 = .ok (.aload_n 0, 1) := by decide +kernel
theorem dX9_leftMany_5 : decode cX9_leftMany 5 = .ok (.getfield 265, 3) := by decide +kernel
theorem dX9_leftMany_8 : decode cX9_leftMany 8 = .ok (.invokestatic 283, 3) := by decide +kernel
theorem dX9_leftMany_11 : decode cX9_leftMany 11 = .ok (.isub, 1) := by decide +kernel
theorem dX9_leftMany_12 : decode cX9_leftMany 12 = .ok (.ireturn, 1) := by decide +kernel
theorem dX9_tells_0 : decode cX9_tells 0 = .ok (.iload_n 1, 1) := by decide +kernel
theorem dX9_tells_1 : decode cX9_tells 1 = .ok (.iconst 3, 1) := by decide +kernel
theorem dX9_tells_2 : decode cX9_tells 2 = .ok (.if_icmp .ge 31, 3) := by decide +kernel
theorem dX9_tells_5 : decode cX9_tells 5 = .ok (.iload_n 1, 1) := by decide +kernel
theorem dX9_tells_6 : decode cX9_tells 6 = .ok (.ifCond .ne 10, 3) := by decide +kernel
theorem dX9_tells_9 : decode cX9_tells 9 = .ok (.aload_n 0, 1) := by decide +kernel
theorem dX9_tells_10 : decode cX9_tells 10 = .ok (.getfield 255, 3) := by decide +kernel
theorem dX9_tells_13 : decode cX9_tells 13 = .ok (.goto 19, 3) := by decide +kernel
theorem dX9_tells_16 : decode cX9_tells 16 = .ok (.iload_n 1, 1) := by decide +kernel
theorem dX9_tells_17 : decode cX9_tells 17 = .ok (.iconst 1, 1) := by decide +kernel
theorem dX9_tells_18 : decode cX9_tells 18 = .ok (.if_icmp .ne 10, 3) := by decide +kernel
theorem dX9_tells_21 : decode cX9_tells 21 = .ok (.aload_n 0, 1) := by decide +kernel
theorem dX9_tells_22 : decode cX9_tells 22 = .ok (.invokevirtual 293, 3) := by decide +kernel
theorem dX9_tells_25 : decode cX9_tells 25 = .ok (.goto 7, 3) := by decide +kernel
theorem dX9_tells_28 : decode cX9_tells 28 = .ok (.aload_n 0, 1) := by decide +kernel
theorem dX9_tells_29 : decode cX9_tells 29 = .ok (.getfield 268, 3) := by decide +kernel
theorem dX9_tells_32 : decode cX9_tells 32 = .ok (.ireturn, 1) := by decide +kernel
theorem dX9_tells_33 : decode cX9_tells 33 = .ok (.iload_n 1, 1) := by decide +kernel
theorem dX9_tells_34 : decode cX9_tells 34 = .ok (.iconst 3, 1) := by decide +kernel
theorem dX9_tells_35 : decode cX9_tells 35 = .ok (.if_icmp .ne 10, 3) := by decide +kernel
theorem dX9_tells_38 : decode cX9_tells 38 = .ok (.aload_n 0, 1) := by decide +kernel
theorem dX9_tells_39 : decode cX9_tells 39 = .ok (.getfield 258, 3) := by decide +kernel
theorem dX9_tells_42 : decode cX9_tells 42 = .ok (.goto 19, 3) := by decide +kernel
theorem dX9_tells_45 : decode cX9_tells 45 = .ok (.iload_n 1, 1) := by decide +kernel
theorem dX9_tells_46 : decode cX9_tells 46 = .ok (.iconst 4, 1) := by decide +kernel
theorem dX9_tells_47 : decode cX9_tells 47 = .ok (.if_icmp .ne 10, 3) := by decide +kernel
theorem dX9_tells_50 : decode cX9_tells 50 = .ok (.aload_n 0, 1) := by decide +kernel
theorem dX9_tells_51 : decode cX9_tells 51 = .ok (.getfield 252, 3) := by decide +kernel
theorem dX9_tells_54 : decode cX9_tells 54 = .ok (.goto 7, 3) := by decide +kernel
theorem dX9_tells_57 : decode cX9_tells 57 = .ok (.aload_n 0, 1) := by decide +kernel
theorem dX9_tells_58 : decode cX9_tells 58 = .ok (.getfield 265, 3) := by decide +kernel
theorem dX9_tells_61 : decode cX9_tells 61 = .ok (.ireturn, 1) := by decide +kernel
theorem dX9_sizeOf_0 : decode cX9_sizeOf 0 = .ok (.iconst 0, 1) := by decide +kernel
theorem dX9_sizeOf_1 : decode cX9_sizeOf 1 = .ok (.istore_n 1, 1) := by decide +kernel
theorem dX9_sizeOf_2 : decode cX9_sizeOf 2 = .ok (.iload_n 0, 1) := by decide +kernel
theorem dX9_sizeOf_3 : decode cX9_sizeOf 3 = .ok (.istore_n 2, 1) := by decide +kernel
theorem dX9_sizeOf_4 : decode cX9_sizeOf 4 = .ok (.iload_n 2, 1) := by decide +kernel
theorem dX9_sizeOf_5 : decode cX9_sizeOf 5 = .ok (.ifCond .le 14, 3) := by decide +kernel
theorem dX9_sizeOf_8 : decode cX9_sizeOf 8 = .ok (.iinc 1 1, 3) := by decide +kernel
theorem dX9_sizeOf_11 : decode cX9_sizeOf 11 = .ok (.iload_n 2, 1) := by decide +kernel
theorem dX9_sizeOf_12 : decode cX9_sizeOf 12 = .ok (.bipush 10, 2) := by decide +kernel
theorem dX9_sizeOf_14 : decode cX9_sizeOf 14 = .ok (.idiv, 1) := by decide +kernel
theorem dX9_sizeOf_15 : decode cX9_sizeOf 15 = .ok (.istore_n 2, 1) := by decide +kernel
theorem dX9_sizeOf_16 : decode cX9_sizeOf 16 = .ok (.goto (-12), 3) := by decide +kernel
theorem dX9_sizeOf_19 : decode cX9_sizeOf 19 = .ok (.iload_n 1, 1) := by decide +kernel
theorem dX9_sizeOf_20 : decode cX9_sizeOf 20 = .ok (.ireturn, 1) := by decide +kernel
theorem dX9_isRow_0 : decode cX9_isRow 0 = .ok (.iconst 0, 1) := by decide +kernel
theorem dX9_isRow_1 : decode cX9_isRow 1 = .ok (.istore_n 2, 1) := by decide +kernel
theorem dX9_isRow_2 : decode cX9_isRow 2 = .ok (.iload_n 1, 1) := by decide +kernel
theorem dX9_isRow_3 : decode cX9_isRow 3 = .ok (.ifCond .ge 5, 3) := by decide +kernel
theorem dX9_isRow_6 : decode cX9_isRow 6 = .ok (.iconst 0, 1) := by decide +kernel
theorem dX9_isRow_7 : decode cX9_isRow 7 = .ok (.ireturn, 1) := by decide +kernel
theorem dX9_isRow_8 : decode cX9_isRow 8 = .ok (.iload_n 1, 1) := by decide +kernel
theorem dX9_isRow_9 : decode cX9_isRow 9 = .ok (.istore_n 3, 1) := by decide +kernel
theorem dX9_isRow_10 : decode cX9_isRow 10 = .ok (.iload_n 3, 1) := by decide +kernel
theorem dX9_isRow_11 : decode cX9_isRow 11 = .ok (.ifCond .le 47, 3) := by decide +kernel
theorem dX9_isRow_14 : decode cX9_isRow 14 = .ok (.iload_n 3, 1) := by decide +kernel
theorem dX9_isRow_15 : decode cX9_isRow 15 = .ok (.bipush 10, 2) := by decide +kernel
theorem dX9_isRow_17 : decode cX9_isRow 17 = .ok (.irem, 1) := by decide +kernel
theorem dX9_isRow_18 : decode cX9_isRow 18 = .ok (.iconst 1, 1) := by decide +kernel
theorem dX9_isRow_19 : decode cX9_isRow 19 = .ok (.isub, 1) := by decide +kernel
theorem dX9_isRow_20 : decode cX9_isRow 20 = .ok (.istore 4, 2) := by decide +kernel
theorem dX9_isRow_22 : decode cX9_isRow 22 = .ok (.aload_n 0, 1) := by decide +kernel
theorem dX9_isRow_23 : decode cX9_isRow 23 = .ok (.iload 4, 2) := by decide +kernel
theorem dX9_isRow_25 : decode cX9_isRow 25 = .ok (.invokevirtual 119, 3) := by decide +kernel
theorem dX9_isRow_28 : decode cX9_isRow 28 = .ok (.ifCond .eq 13, 3) := by decide +kernel
theorem dX9_isRow_31 : decode cX9_isRow 31 = .ok (.iload_n 2, 1) := by decide +kernel
theorem dX9_isRow_32 : decode cX9_isRow 32 = .ok (.iload 4, 2) := by decide +kernel
theorem dX9_isRow_34 : decode cX9_isRow 34 = .ok (.ishr, 1) := by decide +kernel
theorem dX9_isRow_35 : decode cX9_isRow 35 = .ok (.iconst 1, 1) := by decide +kernel
theorem dX9_isRow_36 : decode cX9_isRow 36 = .ok (.iand, 1) := by decide +kernel
theorem dX9_isRow_37 : decode cX9_isRow 37 = .ok (.iconst 1, 1) := by decide +kernel
theorem dX9_isRow_38 : decode cX9_isRow 38 = .ok (.if_icmp .ne 5, 3) := by decide +kernel
theorem dX9_isRow_41 : decode cX9_isRow 41 = .ok (.iconst 0, 1) := by decide +kernel
theorem dX9_isRow_42 : decode cX9_isRow 42 = .ok (.ireturn, 1) := by decide +kernel
theorem dX9_isRow_43 : decode cX9_isRow 43 = .ok (.iload_n 2, 1) := by decide +kernel
theorem dX9_isRow_44 : decode cX9_isRow 44 = .ok (.iconst 1, 1) := by decide +kernel
theorem dX9_isRow_45 : decode cX9_isRow 45 = .ok (.iload 4, 2) := by decide +kernel
theorem dX9_isRow_47 : decode cX9_isRow 47 = .ok (.ishl, 1) := by decide +kernel
theorem dX9_isRow_48 : decode cX9_isRow 48 = .ok (.ior, 1) := by decide +kernel
theorem dX9_isRow_49 : decode cX9_isRow 49 = .ok (.istore_n 2, 1) := by decide +kernel
theorem dX9_isRow_50 : decode cX9_isRow 50 = .ok (.iload_n 3, 1) := by decide +kernel
theorem dX9_isRow_51 : decode cX9_isRow 51 = .ok (.bipush 10, 2) := by decide +kernel
theorem dX9_isRow_53 : decode cX9_isRow 53 = .ok (.idiv, 1) := by decide +kernel
theorem dX9_isRow_54 : decode cX9_isRow 54 = .ok (.istore_n 3, 1) := by decide +kernel
theorem dX9_isRow_55 : decode cX9_isRow 55 = .ok (.goto (-45), 3) := by decide +kernel
theorem dX9_isRow_58 : decode cX9_isRow 58 = .ok (.iconst 1, 1) := by decide +kernel
theorem dX9_isRow_59 : decode cX9_isRow 59 = .ok (.ireturn, 1) := by decide +kernel
theorem dX9_goes_0 : decode cX9_goes 0 = .ok (.aload_n 0, 1) := by decide +kernel
theorem dX9_goes_1 : decode cX9_goes 1 = .ok (.invokevirtual 296, 3) := by decide +kernel
theorem dX9_goes_4 : decode cX9_goes 4 = .ok (.iconst 1, 1) := by decide +kernel
theorem dX9_goes_5 : decode cX9_goes 5 = .ok (.istore_n 2, 1) := by decide +kernel
theorem dX9_goes_6 : decode cX9_goes 6 = .ok (.iconst 1, 1) := by decide +kernel
theorem dX9_goes_7 : decode cX9_goes 7 = .ok (.istore_n 3, 1) := by decide +kernel
theorem dX9_goes_8 : decode cX9_goes 8 = .ok (.iload_n 3, 1) := by decide +kernel
theorem dX9_goes_9 : decode cX9_goes 9 = .ok (.iload_n 1, 1) := by decide +kernel
theorem dX9_goes_10 : decode cX9_goes 10 = .ok (.invokestatic 299, 3) := by decide +kernel
theorem dX9_goes_13 : decode cX9_goes 13 = .ok (.if_icmp .ge 14, 3) := by decide +kernel
theorem dX9_goes_16 : decode cX9_goes 16 = .ok (.iload_n 2, 1) := by decide +kernel
theorem dX9_goes_17 : decode cX9_goes 17 = .ok (.bipush 10, 2) := by decide +kernel
theorem dX9_goes_19 : decode cX9_goes 19 = .ok (.imul, 1) := by decide +kernel
theorem dX9_goes_20 : decode cX9_goes 20 = .ok (.istore_n 2, 1) := by decide +kernel
theorem dX9_goes_21 : decode cX9_goes 21 = .ok (.iinc 3 1, 3) := by decide +kernel
theorem dX9_goes_24 : decode cX9_goes 24 = .ok (.goto (-16), 3) := by decide +kernel
theorem dX9_goes_27 : decode cX9_goes 27 = .ok (.iload_n 2, 1) := by decide +kernel
theorem dX9_goes_28 : decode cX9_goes 28 = .ok (.istore_n 3, 1) := by decide +kernel
theorem dX9_goes_29 : decode cX9_goes 29 = .ok (.iload_n 3, 1) := by decide +kernel
theorem dX9_goes_30 : decode cX9_goes 30 = .ok (.ifCond .le 27, 3) := by decide +kernel
theorem dX9_goes_33 : decode cX9_goes 33 = .ok (.iload_n 1, 1) := by decide +kernel
theorem dX9_goes_34 : decode cX9_goes 34 = .ok (.ifCond .le 23, 3) := by decide +kernel
theorem dX9_goes_37 : decode cX9_goes 37 = .ok (.aload_n 0, 1) := by decide +kernel
theorem dX9_goes_38 : decode cX9_goes 38 = .ok (.iload_n 1, 1) := by decide +kernel
theorem dX9_goes_39 : decode cX9_goes 39 = .ok (.iload_n 3, 1) := by decide +kernel
theorem dX9_goes_40 : decode cX9_goes 40 = .ok (.idiv, 1) := by decide +kernel
theorem dX9_goes_41 : decode cX9_goes 41 = .ok (.bipush 10, 2) := by decide +kernel
theorem dX9_goes_43 : decode cX9_goes 43 = .ok (.irem, 1) := by decide +kernel
theorem dX9_goes_44 : decode cX9_goes 44 = .ok (.iconst 1, 1) := by decide +kernel
theorem dX9_goes_45 : decode cX9_goes 45 = .ok (.isub, 1) := by decide +kernel
theorem dX9_goes_46 : decode cX9_goes 46 = .ok (.invokevirtual 302, 3) := by decide +kernel
theorem dX9_goes_49 : decode cX9_goes 49 = .ok (.iload_n 3, 1) := by decide +kernel
theorem dX9_goes_50 : decode cX9_goes 50 = .ok (.bipush 10, 2) := by decide +kernel
theorem dX9_goes_52 : decode cX9_goes 52 = .ok (.idiv, 1) := by decide +kernel
theorem dX9_goes_53 : decode cX9_goes 53 = .ok (.istore_n 3, 1) := by decide +kernel
theorem dX9_goes_54 : decode cX9_goes 54 = .ok (.goto (-25), 3) := by decide +kernel
theorem dX9_goes_57 : decode cX9_goes 57 = .ok (.return_, 1) := by decide +kernel
theorem dX9_evening_0 : decode cX9_evening 0 = .ok (.aload_n 0, 1) := by decide +kernel
theorem dX9_evening_1 : decode cX9_evening 1 = .ok (.iload_n 1, 1) := by decide +kernel
theorem dX9_evening_2 : decode cX9_evening 2 = .ok (.invokevirtual 306, 3) := by decide +kernel
theorem dX9_evening_5 : decode cX9_evening 5 = .ok (.ifCond .eq 15, 3) := by decide +kernel
theorem dX9_evening_8 : decode cX9_evening 8 = .ok (.iload_n 2, 1) := by decide +kernel
theorem dX9_evening_9 : decode cX9_evening 9 = .ok (.i2l, 1) := by decide +kernel
theorem dX9_evening_10 : decode cX9_evening 10 = .ok (.lconst 0, 1) := by decide +kernel
theorem dX9_evening_11 : decode cX9_evening 11 = .ok (.ldc2_w 105, 3) := by decide +kernel
theorem dX9_evening_14 : decode cX9_evening 14 = .ok (.invokestatic 94, 3) := by decide +kernel
theorem dX9_evening_17 : decode cX9_evening 17 = .ok (.ifCond .ne 6, 3) := by decide +kernel
theorem dX9_evening_20 : decode cX9_evening 20 = .ok (.ldc 122, 2) := by decide +kernel
theorem dX9_evening_22 : decode cX9_evening 22 = .ok (.ireturn, 1) := by decide +kernel
theorem dX9_evening_23 : decode cX9_evening 23 = .ok (.aload_n 0, 1) := by decide +kernel
theorem dX9_evening_24 : decode cX9_evening 24 = .ok (.iload_n 1, 1) := by decide +kernel
theorem dX9_evening_25 : decode cX9_evening 25 = .ok (.invokevirtual 309, 3) := by decide +kernel
theorem dX9_evening_28 : decode cX9_evening 28 = .ok (.aload_n 0, 1) := by decide +kernel
theorem dX9_evening_29 : decode cX9_evening 29 = .ok (.iload_n 2, 1) := by decide +kernel
theorem dX9_evening_30 : decode cX9_evening 30 = .ok (.invokevirtual 312, 3) := by decide +kernel
theorem dX9_evening_33 : decode cX9_evening 33 = .ok (.ireturn, 1) := by decide +kernel
theorem dX9_hold_0 : decode cX9_hold 0 = .ok (.aload_n 0, 1) := by decide +kernel
theorem dX9_hold_1 : decode cX9_hold 1 = .ok (.iload_n 1, 1) := by decide +kernel
theorem dX9_hold_2 : decode cX9_hold 2 = .ok (.invokevirtual 306, 3) := by decide +kernel
theorem dX9_hold_5 : decode cX9_hold 5 = .ok (.ifCond .ne 6, 3) := by decide +kernel
theorem dX9_hold_8 : decode cX9_hold 8 = .ok (.ldc 122, 2) := by decide +kernel
theorem dX9_hold_10 : decode cX9_hold 10 = .ok (.ireturn, 1) := by decide +kernel
theorem dX9_hold_11 : decode cX9_hold 11 = .ok (.aload_n 0, 1) := by decide +kernel
theorem dX9_hold_12 : decode cX9_hold 12 = .ok (.iload_n 1, 1) := by decide +kernel
theorem dX9_hold_13 : decode cX9_hold 13 = .ok (.invokevirtual 309, 3) := by decide +kernel
theorem dX9_hold_16 : decode cX9_hold 16 = .ok (.aload_n 0, 1) := by decide +kernel
theorem dX9_hold_17 : decode cX9_hold 17 = .ok (.aload_n 0, 1) := by decide +kernel
theorem dX9_hold_18 : decode cX9_hold 18 = .ok (.getfield 258, 3) := by decide +kernel
theorem dX9_hold_21 : decode cX9_hold 21 = .ok (.putfield 127, 3) := by decide +kernel
theorem dX9_hold_24 : decode cX9_hold 24 = .ok (.aload_n 0, 1) := by decide +kernel
theorem dX9_hold_25 : decode cX9_hold 25 = .ok (.getfield 255, 3) := by decide +kernel
theorem dX9_hold_28 : decode cX9_hold 28 = .ok (.ireturn, 1) := by decide +kernel
theorem dX9_lays_0 : decode cX9_lays 0 = .ok (.bipush 7, 2) := by decide +kernel
theorem dX9_lays_2 : decode cX9_lays 2 = .ok (.iload_n 1, 1) := by decide +kernel
theorem dX9_lays_3 : decode cX9_lays 3 = .ok (.imul, 1) := by decide +kernel
theorem dX9_lays_4 : decode cX9_lays 4 = .ok (.istore_n 2, 1) := by decide +kernel
theorem dX9_lays_5 : decode cX9_lays 5 = .ok (.aload_n 0, 1) := by decide +kernel
theorem dX9_lays_6 : decode cX9_lays 6 = .ok (.getfield 53, 3) := by decide +kernel
theorem dX9_lays_9 : decode cX9_lays 9 = .ok (.iload_n 2, 1) := by decide +kernel
theorem dX9_lays_10 : decode cX9_lays 10 = .ok (.aload_n 0, 1) := by decide +kernel
theorem dX9_lays_11 : decode cX9_lays 11 = .ok (.getfield 252, 3) := by decide +kernel
theorem dX9_lays_14 : decode cX9_lays 14 = .ok (.iastore, 1) := by decide +kernel
theorem dX9_lays_15 : decode cX9_lays 15 = .ok (.aload_n 0, 1) := by decide +kernel
theorem dX9_lays_16 : decode cX9_lays 16 = .ok (.getfield 53, 3) := by decide +kernel
theorem dX9_lays_19 : decode cX9_lays 19 = .ok (.iload_n 2, 1) := by decide +kernel
theorem dX9_lays_20 : decode cX9_lays 20 = .ok (.iconst 1, 1) := by decide +kernel
theorem dX9_lays_21 : decode cX9_lays 21 = .ok (.iadd, 1) := by decide +kernel
theorem dX9_lays_22 : decode cX9_lays 22 = .ok (.aload_n 0, 1) := by decide +kernel
theorem dX9_lays_23 : decode cX9_lays 23 = .ok (.getfield 258, 3) := by decide +kernel
theorem dX9_lays_26 : decode cX9_lays 26 = .ok (.iastore, 1) := by decide +kernel
theorem dX9_lays_27 : decode cX9_lays 27 = .ok (.aload_n 0, 1) := by decide +kernel
theorem dX9_lays_28 : decode cX9_lays 28 = .ok (.getfield 53, 3) := by decide +kernel
theorem dX9_lays_31 : decode cX9_lays 31 = .ok (.iload_n 2, 1) := by decide +kernel
theorem dX9_lays_32 : decode cX9_lays 32 = .ok (.iconst 2, 1) := by decide +kernel
theorem dX9_lays_33 : decode cX9_lays 33 = .ok (.iadd, 1) := by decide +kernel
theorem dX9_lays_34 : decode cX9_lays 34 = .ok (.aload_n 0, 1) := by decide +kernel
theorem dX9_lays_35 : decode cX9_lays 35 = .ok (.getfield 255, 3) := by decide +kernel
theorem dX9_lays_38 : decode cX9_lays 38 = .ok (.iastore, 1) := by decide +kernel
theorem dX9_lays_39 : decode cX9_lays 39 = .ok (.aload_n 0, 1) := by decide +kernel
theorem dX9_lays_40 : decode cX9_lays 40 = .ok (.getfield 53, 3) := by decide +kernel
theorem dX9_lays_43 : decode cX9_lays 43 = .ok (.iload_n 2, 1) := by decide +kernel
theorem dX9_lays_44 : decode cX9_lays 44 = .ok (.iconst 3, 1) := by decide +kernel
theorem dX9_lays_45 : decode cX9_lays 45 = .ok (.iadd, 1) := by decide +kernel
theorem dX9_lays_46 : decode cX9_lays 46 = .ok (.aload_n 0, 1) := by decide +kernel
theorem dX9_lays_47 : decode cX9_lays 47 = .ok (.getfield 265, 3) := by decide +kernel
theorem dX9_lays_50 : decode cX9_lays 50 = .ok (.iastore, 1) := by decide +kernel
theorem dX9_lays_51 : decode cX9_lays 51 = .ok (.aload_n 0, 1) := by decide +kernel
theorem dX9_lays_52 : decode cX9_lays 52 = .ok (.getfield 53, 3) := by decide +kernel
theorem dX9_lays_55 : decode cX9_lays 55 = .ok (.iload_n 2, 1) := by decide +kernel
theorem dX9_lays_56 : decode cX9_lays 56 = .ok (.iconst 4, 1) := by decide +kernel
theorem dX9_lays_57 : decode cX9_lays 57 = .ok (.iadd, 1) := by decide +kernel
theorem dX9_lays_58 : decode cX9_lays 58 = .ok (.aload_n 0, 1) := by decide +kernel
theorem dX9_lays_59 : decode cX9_lays 59 = .ok (.getfield 268, 3) := by decide +kernel
theorem dX9_lays_62 : decode cX9_lays 62 = .ok (.iastore, 1) := by decide +kernel
theorem dX9_lays_63 : decode cX9_lays 63 = .ok (.aload_n 0, 1) := by decide +kernel
theorem dX9_lays_64 : decode cX9_lays 64 = .ok (.getfield 53, 3) := by decide +kernel
theorem dX9_lays_67 : decode cX9_lays 67 = .ok (.iload_n 2, 1) := by decide +kernel
theorem dX9_lays_68 : decode cX9_lays 68 = .ok (.iconst 5, 1) := by decide +kernel
theorem dX9_lays_69 : decode cX9_lays 69 = .ok (.iadd, 1) := by decide +kernel
theorem dX9_lays_70 : decode cX9_lays 70 = .ok (.aload_n 0, 1) := by decide +kernel
theorem dX9_lays_71 : decode cX9_lays 71 = .ok (.getfield 271, 3) := by decide +kernel
theorem dX9_lays_74 : decode cX9_lays 74 = .ok (.iastore, 1) := by decide +kernel
theorem dX9_lays_75 : decode cX9_lays 75 = .ok (.aload_n 0, 1) := by decide +kernel
theorem dX9_lays_76 : decode cX9_lays 76 = .ok (.getfield 53, 3) := by decide +kernel
theorem dX9_lays_79 : decode cX9_lays 79 = .ok (.iload_n 2, 1) := by decide +kernel
theorem dX9_lays_80 : decode cX9_lays 80 = .ok (.bipush 6, 2) := by decide +kernel
theorem dX9_lays_82 : decode cX9_lays 82 = .ok (.iadd, 1) := by decide +kernel
theorem dX9_lays_83 : decode cX9_lays 83 = .ok (.aload_n 0, 1) := by decide +kernel
theorem dX9_lays_84 : decode cX9_lays 84 = .ok (.getfield 274, 3) := by decide +kernel
theorem dX9_lays_87 : decode cX9_lays 87 = .ok (.iastore, 1) := by decide +kernel
theorem dX9_lays_88 : decode cX9_lays 88 = .ok (.iconst 0, 1) := by decide +kernel
theorem dX9_lays_89 : decode cX9_lays 89 = .ok (.istore_n 3, 1) := by decide +kernel
theorem dX9_lays_90 : decode cX9_lays 90 = .ok (.iload_n 3, 1) := by decide +kernel
theorem dX9_lays_91 : decode cX9_lays 91 = .ok (.bipush 8, 2) := by decide +kernel
theorem dX9_lays_93 : decode cX9_lays 93 = .ok (.if_icmp .ge 43, 3) := by decide +kernel
theorem dX9_lays_96 : decode cX9_lays 96 = .ok (.aload_n 0, 1) := by decide +kernel
theorem dX9_lays_97 : decode cX9_lays 97 = .ok (.getfield 56, 3) := by decide +kernel
theorem dX9_lays_100 : decode cX9_lays 100 = .ok (.bipush 8, 2) := by decide +kernel
theorem dX9_lays_102 : decode cX9_lays 102 = .ok (.iload_n 1, 1) := by decide +kernel
theorem dX9_lays_103 : decode cX9_lays 103 = .ok (.imul, 1) := by decide +kernel
theorem dX9_lays_104 : decode cX9_lays 104 = .ok (.iload_n 3, 1) := by decide +kernel
theorem dX9_lays_105 : decode cX9_lays 105 = .ok (.iadd, 1) := by decide +kernel
theorem dX9_lays_106 : decode cX9_lays 106 = .ok (.aload_n 0, 1) := by decide +kernel
theorem dX9_lays_107 : decode cX9_lays 107 = .ok (.getfield 44, 3) := by decide +kernel
theorem dX9_lays_110 : decode cX9_lays 110 = .ok (.iload_n 3, 1) := by decide +kernel
theorem dX9_lays_111 : decode cX9_lays 111 = .ok (.iaload, 1) := by decide +kernel
theorem dX9_lays_112 : decode cX9_lays 112 = .ok (.iastore, 1) := by decide +kernel
theorem dX9_lays_113 : decode cX9_lays 113 = .ok (.aload_n 0, 1) := by decide +kernel
theorem dX9_lays_114 : decode cX9_lays 114 = .ok (.getfield 59, 3) := by decide +kernel
theorem dX9_lays_117 : decode cX9_lays 117 = .ok (.bipush 8, 2) := by decide +kernel
theorem dX9_lays_119 : decode cX9_lays 119 = .ok (.iload_n 1, 1) := by decide +kernel
theorem dX9_lays_120 : decode cX9_lays 120 = .ok (.imul, 1) := by decide +kernel
theorem dX9_lays_121 : decode cX9_lays 121 = .ok (.iload_n 3, 1) := by decide +kernel
theorem dX9_lays_122 : decode cX9_lays 122 = .ok (.iadd, 1) := by decide +kernel
theorem dX9_lays_123 : decode cX9_lays 123 = .ok (.aload_n 0, 1) := by decide +kernel
theorem dX9_lays_124 : decode cX9_lays 124 = .ok (.getfield 47, 3) := by decide +kernel
theorem dX9_lays_127 : decode cX9_lays 127 = .ok (.iload_n 3, 1) := by decide +kernel
theorem dX9_lays_128 : decode cX9_lays 128 = .ok (.iaload, 1) := by decide +kernel
theorem dX9_lays_129 : decode cX9_lays 129 = .ok (.iastore, 1) := by decide +kernel
theorem dX9_lays_130 : decode cX9_lays 130 = .ok (.iinc 3 1, 3) := by decide +kernel
theorem dX9_lays_133 : decode cX9_lays 133 = .ok (.goto (-43), 3) := by decide +kernel
theorem dX9_lays_136 : decode cX9_lays 136 = .ok (.return_, 1) := by decide +kernel
theorem dX9_laysBack_0 : decode cX9_laysBack 0 = .ok (.bipush 7, 2) := by decide +kernel
theorem dX9_laysBack_2 : decode cX9_laysBack 2 = .ok (.iload_n 1, 1) := by decide +kernel
theorem dX9_laysBack_3 : decode cX9_laysBack 3 = .ok (.imul, 1) := by decide +kernel
theorem dX9_laysBack_4 : decode cX9_laysBack 4 = .ok (.istore_n 2, 1) := by decide +kernel
theorem dX9_laysBack_5 : decode cX9_laysBack 5 = .ok (.aload_n 0, 1) := by decide +kernel
theorem dX9_laysBack_6 : decode cX9_laysBack 6 = .ok (.aload_n 0, 1) := by decide +kernel
theorem dX9_laysBack_7 : decode cX9_laysBack 7 = .ok (.getfield 53, 3) := by decide +kernel
theorem dX9_laysBack_10 : decode cX9_laysBack 10 = .ok (.iload_n 2, 1) := by decide +kernel
theorem dX9_laysBack_11 : decode cX9_laysBack 11 = .ok (.iaload, 1) := by decide +kernel
theorem dX9_laysBack_12 : decode cX9_laysBack 12 = .ok (.putfield 252, 3) := by decide +kernel
theorem dX9_laysBack_15 : decode cX9_laysBack 15 = .ok (.aload_n 0, 1) := by decide +kernel
theorem dX9_laysBack_16 : decode cX9_laysBack 16 = .ok (.aload_n 0, 1) := by decide +kernel
theorem dX9_laysBack_17 : decode cX9_laysBack 17 = .ok (.getfield 53, 3) := by decide +kernel
theorem dX9_laysBack_20 : decode cX9_laysBack 20 = .ok (.iload_n 2, 1) := by decide +kernel
theorem dX9_laysBack_21 : decode cX9_laysBack 21 = .ok (.iconst 1, 1) := by decide +kernel
theorem dX9_laysBack_22 : decode cX9_laysBack 22 = .ok (.iadd, 1) := by decide +kernel
theorem dX9_laysBack_23 : decode cX9_laysBack 23 = .ok (.iaload, 1) := by decide +kernel
theorem dX9_laysBack_24 : decode cX9_laysBack 24 = .ok (.putfield 258, 3) := by decide +kernel
theorem dX9_laysBack_27 : decode cX9_laysBack 27 = .ok (.aload_n 0, 1) := by decide +kernel
theorem dX9_laysBack_28 : decode cX9_laysBack 28 = .ok (.aload_n 0, 1) := by decide +kernel
theorem dX9_laysBack_29 : decode cX9_laysBack 29 = .ok (.getfield 53, 3) := by decide +kernel
theorem dX9_laysBack_32 : decode cX9_laysBack 32 = .ok (.iload_n 2, 1) := by decide +kernel
theorem dX9_laysBack_33 : decode cX9_laysBack 33 = .ok (.iconst 2, 1) := by decide +kernel
theorem dX9_laysBack_34 : decode cX9_laysBack 34 = .ok (.iadd, 1) := by decide +kernel
theorem dX9_laysBack_35 : decode cX9_laysBack 35 = .ok (.iaload, 1) := by decide +kernel
theorem dX9_laysBack_36 : decode cX9_laysBack 36 = .ok (.putfield 255, 3) := by decide +kernel
theorem dX9_laysBack_39 : decode cX9_laysBack 39 = .ok (.aload_n 0, 1) := by decide +kernel
theorem dX9_laysBack_40 : decode cX9_laysBack 40 = .ok (.aload_n 0, 1) := by decide +kernel
theorem dX9_laysBack_41 : decode cX9_laysBack 41 = .ok (.getfield 53, 3) := by decide +kernel
theorem dX9_laysBack_44 : decode cX9_laysBack 44 = .ok (.iload_n 2, 1) := by decide +kernel
theorem dX9_laysBack_45 : decode cX9_laysBack 45 = .ok (.iconst 3, 1) := by decide +kernel
theorem dX9_laysBack_46 : decode cX9_laysBack 46 = .ok (.iadd, 1) := by decide +kernel
theorem dX9_laysBack_47 : decode cX9_laysBack 47 = .ok (.iaload, 1) := by decide +kernel
theorem dX9_laysBack_48 : decode cX9_laysBack 48 = .ok (.putfield 265, 3) := by decide +kernel
theorem dX9_laysBack_51 : decode cX9_laysBack 51 = .ok (.aload_n 0, 1) := by decide +kernel
theorem dX9_laysBack_52 : decode cX9_laysBack 52 = .ok (.aload_n 0, 1) := by decide +kernel
theorem dX9_laysBack_53 : decode cX9_laysBack 53 = .ok (.getfield 53, 3) := by decide +kernel
theorem dX9_laysBack_56 : decode cX9_laysBack 56 = .ok (.iload_n 2, 1) := by decide +kernel
theorem dX9_laysBack_57 : decode cX9_laysBack 57 = .ok (.iconst 4, 1) := by decide +kernel
theorem dX9_laysBack_58 : decode cX9_laysBack 58 = .ok (.iadd, 1) := by decide +kernel
theorem dX9_laysBack_59 : decode cX9_laysBack 59 = .ok (.iaload, 1) := by decide +kernel
theorem dX9_laysBack_60 : decode cX9_laysBack 60 = .ok (.putfield 268, 3) := by decide +kernel
theorem dX9_laysBack_63 : decode cX9_laysBack 63 = .ok (.aload_n 0, 1) := by decide +kernel
theorem dX9_laysBack_64 : decode cX9_laysBack 64 = .ok (.aload_n 0, 1) := by decide +kernel
theorem dX9_laysBack_65 : decode cX9_laysBack 65 = .ok (.getfield 53, 3) := by decide +kernel
theorem dX9_laysBack_68 : decode cX9_laysBack 68 = .ok (.iload_n 2, 1) := by decide +kernel
theorem dX9_laysBack_69 : decode cX9_laysBack 69 = .ok (.iconst 5, 1) := by decide +kernel
theorem dX9_laysBack_70 : decode cX9_laysBack 70 = .ok (.iadd, 1) := by decide +kernel
theorem dX9_laysBack_71 : decode cX9_laysBack 71 = .ok (.iaload, 1) := by decide +kernel
theorem dX9_laysBack_72 : decode cX9_laysBack 72 = .ok (.putfield 271, 3) := by decide +kernel
theorem dX9_laysBack_75 : decode cX9_laysBack 75 = .ok (.aload_n 0, 1) := by decide +kernel
theorem dX9_laysBack_76 : decode cX9_laysBack 76 = .ok (.aload_n 0, 1) := by decide +kernel
theorem dX9_laysBack_77 : decode cX9_laysBack 77 = .ok (.getfield 53, 3) := by decide +kernel
theorem dX9_laysBack_80 : decode cX9_laysBack 80 = .ok (.iload_n 2, 1) := by decide +kernel
theorem dX9_laysBack_81 : decode cX9_laysBack 81 = .ok (.bipush 6, 2) := by decide +kernel
theorem dX9_laysBack_83 : decode cX9_laysBack 83 = .ok (.iadd, 1) := by decide +kernel
theorem dX9_laysBack_84 : decode cX9_laysBack 84 = .ok (.iaload, 1) := by decide +kernel
theorem dX9_laysBack_85 : decode cX9_laysBack 85 = .ok (.putfield 274, 3) := by decide +kernel
theorem dX9_laysBack_88 : decode cX9_laysBack 88 = .ok (.iconst 0, 1) := by decide +kernel
theorem dX9_laysBack_89 : decode cX9_laysBack 89 = .ok (.istore_n 3, 1) := by decide +kernel
theorem dX9_laysBack_90 : decode cX9_laysBack 90 = .ok (.iload_n 3, 1) := by decide +kernel
theorem dX9_laysBack_91 : decode cX9_laysBack 91 = .ok (.bipush 8, 2) := by decide +kernel
theorem dX9_laysBack_93 : decode cX9_laysBack 93 = .ok (.if_icmp .ge 43, 3) := by decide +kernel
theorem dX9_laysBack_96 : decode cX9_laysBack 96 = .ok (.aload_n 0, 1) := by decide +kernel
theorem dX9_laysBack_97 : decode cX9_laysBack 97 = .ok (.getfield 44, 3) := by decide +kernel
theorem dX9_laysBack_100 : decode cX9_laysBack 100 = .ok (.iload_n 3, 1) := by decide +kernel
theorem dX9_laysBack_101 : decode cX9_laysBack 101 = .ok (.aload_n 0, 1) := by decide +kernel
theorem dX9_laysBack_102 : decode cX9_laysBack 102 = .ok (.getfield 56, 3) := by decide +kernel
theorem dX9_laysBack_105 : decode cX9_laysBack 105 = .ok (.bipush 8, 2) := by decide +kernel
theorem dX9_laysBack_107 : decode cX9_laysBack 107 = .ok (.iload_n 1, 1) := by decide +kernel
theorem dX9_laysBack_108 : decode cX9_laysBack 108 = .ok (.imul, 1) := by decide +kernel
theorem dX9_laysBack_109 : decode cX9_laysBack 109 = .ok (.iload_n 3, 1) := by decide +kernel
theorem dX9_laysBack_110 : decode cX9_laysBack 110 = .ok (.iadd, 1) := by decide +kernel
theorem dX9_laysBack_111 : decode cX9_laysBack 111 = .ok (.iaload, 1) := by decide +kernel
theorem dX9_laysBack_112 : decode cX9_laysBack 112 = .ok (.iastore, 1) := by decide +kernel
theorem dX9_laysBack_113 : decode cX9_laysBack 113 = .ok (.aload_n 0, 1) := by decide +kernel
theorem dX9_laysBack_114 : decode cX9_laysBack 114 = .ok (.getfield 47, 3) := by decide +kernel
theorem dX9_laysBack_117 : decode cX9_laysBack 117 = .ok (.iload_n 3, 1) := by decide +kernel
theorem dX9_laysBack_118 : decode cX9_laysBack 118 = .ok (.aload_n 0, 1) := by decide +kernel
theorem dX9_laysBack_119 : decode cX9_laysBack 119 = .ok (.getfield 59, 3) := by decide +kernel
theorem dX9_laysBack_122 : decode cX9_laysBack 122 = .ok (.bipush 8, 2) := by decide +kernel
theorem dX9_laysBack_124 : decode cX9_laysBack 124 = .ok (.iload_n 1, 1) := by decide +kernel
theorem dX9_laysBack_125 : decode cX9_laysBack 125 = .ok (.imul, 1) := by decide +kernel
theorem dX9_laysBack_126 : decode cX9_laysBack 126 = .ok (.iload_n 3, 1) := by decide +kernel
theorem dX9_laysBack_127 : decode cX9_laysBack 127 = .ok (.iadd, 1) := by decide +kernel
theorem dX9_laysBack_128 : decode cX9_laysBack 128 = .ok (.iaload, 1) := by decide +kernel
theorem dX9_laysBack_129 : decode cX9_laysBack 129 = .ok (.iastore, 1) := by decide +kernel
theorem dX9_laysBack_130 : decode cX9_laysBack 130 = .ok (.iinc 3 1, 3) := by decide +kernel
theorem dX9_laysBack_133 : decode cX9_laysBack 133 = .ok (.goto (-43), 3) := by decide +kernel
theorem dX9_laysBack_136 : decode cX9_laysBack 136 = .ok (.return_, 1) := by decide +kernel
theorem dX9_isBetter_0 : decode cX9_isBetter 0 = .ok (.iload_n 1, 1) := by decide +kernel
theorem dX9_isBetter_1 : decode cX9_isBetter 1 = .ok (.ifCond .ne 20, 3) := by decide +kernel
theorem dX9_isBetter_4 : decode cX9_isBetter 4 = .ok (.aload_n 0, 1) := by decide +kernel
theorem dX9_isBetter_5 : decode cX9_isBetter 5 = .ok (.getfield 255, 3) := by decide +kernel
theorem dX9_isBetter_8 : decode cX9_isBetter 8 = .ok (.aload_n 0, 1) := by decide +kernel
theorem dX9_isBetter_9 : decode cX9_isBetter 9 = .ok (.getfield 315, 3) := by decide +kernel
theorem dX9_isBetter_12 : decode cX9_isBetter 12 = .ok (.if_icmp .le 7, 3) := by decide +kernel
theorem dX9_isBetter_15 : decode cX9_isBetter 15 = .ok (.iconst 1, 1) := by decide +kernel
theorem dX9_isBetter_16 : decode cX9_isBetter 16 = .ok (.goto 4, 3) := by decide +kernel
theorem dX9_isBetter_19 : decode cX9_isBetter 19 = .ok (.iconst 0, 1) := by decide +kernel
theorem dX9_isBetter_20 : decode cX9_isBetter 20 = .ok (.ireturn, 1) := by decide +kernel
theorem dX9_isBetter_21 : decode cX9_isBetter 21 = .ok (.aload_n 0, 1) := by decide +kernel
theorem dX9_isBetter_22 : decode cX9_isBetter 22 = .ok (.invokevirtual 293, 3) := by decide +kernel
theorem dX9_isBetter_25 : decode cX9_isBetter 25 = .ok (.aload_n 0, 1) := by decide +kernel
theorem dX9_isBetter_26 : decode cX9_isBetter 26 = .ok (.getfield 318, 3) := by decide +kernel
theorem dX9_isBetter_29 : decode cX9_isBetter 29 = .ok (.if_icmp .lt 25, 3) := by decide +kernel
theorem dX9_isBetter_32 : decode cX9_isBetter 32 = .ok (.aload_n 0, 1) := by decide +kernel
theorem dX9_isBetter_33 : decode cX9_isBetter 33 = .ok (.invokevirtual 293, 3) := by decide +kernel
theorem dX9_isBetter_36 : decode cX9_isBetter 36 = .ok (.aload_n 0, 1) := by decide +kernel
theorem dX9_isBetter_37 : decode cX9_isBetter 37 = .ok (.getfield 318, 3) := by decide +kernel
theorem dX9_isBetter_40 : decode cX9_isBetter 40 = .ok (.if_icmp .ne 18, 3) := by decide +kernel
theorem dX9_isBetter_43 : decode cX9_isBetter 43 = .ok (.aload_n 0, 1) := by decide +kernel
theorem dX9_isBetter_44 : decode cX9_isBetter 44 = .ok (.getfield 268, 3) := by decide +kernel
theorem dX9_isBetter_47 : decode cX9_isBetter 47 = .ok (.aload_n 0, 1) := by decide +kernel
theorem dX9_isBetter_48 : decode cX9_isBetter 48 = .ok (.getfield 321, 3) := by decide +kernel
theorem dX9_isBetter_51 : decode cX9_isBetter 51 = .ok (.if_icmp .le 7, 3) := by decide +kernel
theorem dX9_isBetter_54 : decode cX9_isBetter 54 = .ok (.iconst 1, 1) := by decide +kernel
theorem dX9_isBetter_55 : decode cX9_isBetter 55 = .ok (.goto 4, 3) := by decide +kernel
theorem dX9_isBetter_58 : decode cX9_isBetter 58 = .ok (.iconst 0, 1) := by decide +kernel
theorem dX9_isBetter_59 : decode cX9_isBetter 59 = .ok (.ireturn, 1) := by decide +kernel
theorem dX9_rows_0 : decode cX9_rows 0 = .ok (.iload_n 1, 1) := by decide +kernel
theorem dX9_rows_1 : decode cX9_rows 1 = .ok (.ifCond .eq 11, 3) := by decide +kernel
theorem dX9_rows_4 : decode cX9_rows 4 = .ok (.aload_n 0, 1) := by decide +kernel
theorem dX9_rows_5 : decode cX9_rows 5 = .ok (.iload_n 3, 1) := by decide +kernel
theorem dX9_rows_6 : decode cX9_rows 6 = .ok (.invokevirtual 324, 3) := by decide +kernel
theorem dX9_rows_9 : decode cX9_rows 9 = .ok (.ifCond .eq 32, 3) := by decide +kernel
theorem dX9_rows_12 : decode cX9_rows 12 = .ok (.aload_n 0, 1) := by decide +kernel
theorem dX9_rows_13 : decode cX9_rows 13 = .ok (.iload_n 2, 1) := by decide +kernel
theorem dX9_rows_14 : decode cX9_rows 14 = .ok (.putfield 327, 3) := by decide +kernel
theorem dX9_rows_17 : decode cX9_rows 17 = .ok (.aload_n 0, 1) := by decide +kernel
theorem dX9_rows_18 : decode cX9_rows 18 = .ok (.aload_n 0, 1) := by decide +kernel
theorem dX9_rows_19 : decode cX9_rows 19 = .ok (.getfield 255, 3) := by decide +kernel
theorem dX9_rows_22 : decode cX9_rows 22 = .ok (.putfield 315, 3) := by decide +kernel
theorem dX9_rows_25 : decode cX9_rows 25 = .ok (.aload_n 0, 1) := by decide +kernel
theorem dX9_rows_26 : decode cX9_rows 26 = .ok (.aload_n 0, 1) := by decide +kernel
theorem dX9_rows_27 : decode cX9_rows 27 = .ok (.invokevirtual 293, 3) := by decide +kernel
theorem dX9_rows_30 : decode cX9_rows 30 = .ok (.putfield 318, 3) := by decide +kernel
theorem dX9_rows_33 : decode cX9_rows 33 = .ok (.aload_n 0, 1) := by decide +kernel
theorem dX9_rows_34 : decode cX9_rows 34 = .ok (.aload_n 0, 1) := by decide +kernel
theorem dX9_rows_35 : decode cX9_rows 35 = .ok (.getfield 268, 3) := by decide +kernel
theorem dX9_rows_38 : decode cX9_rows 38 = .ok (.putfield 321, 3) := by decide +kernel
theorem dX9_rows_41 : decode cX9_rows 41 = .ok (.iconst 0, 1) := by decide +kernel
theorem dX9_rows_42 : decode cX9_rows 42 = .ok (.istore 4, 2) := by decide +kernel
theorem dX9_rows_44 : decode cX9_rows 44 = .ok (.iload 4, 2) := by decide +kernel
theorem dX9_rows_46 : decode cX9_rows 46 = .ok (.aload_n 0, 1) := by decide +kernel
theorem dX9_rows_47 : decode cX9_rows 47 = .ok (.getfield 98, 3) := by decide +kernel
theorem dX9_rows_50 : decode cX9_rows 50 = .ok (.if_icmp .ge 54, 3) := by decide +kernel
theorem dX9_rows_53 : decode cX9_rows 53 = .ok (.aload_n 0, 1) := by decide +kernel
theorem dX9_rows_54 : decode cX9_rows 54 = .ok (.getfield 271, 3) := by decide +kernel
theorem dX9_rows_57 : decode cX9_rows 57 = .ok (.iload 4, 2) := by decide +kernel
theorem dX9_rows_59 : decode cX9_rows 59 = .ok (.ishr, 1) := by decide +kernel
theorem dX9_rows_60 : decode cX9_rows 60 = .ok (.iconst 1, 1) := by decide +kernel
theorem dX9_rows_61 : decode cX9_rows 61 = .ok (.iand, 1) := by decide +kernel
theorem dX9_rows_62 : decode cX9_rows 62 = .ok (.ifCond .ne 36, 3) := by decide +kernel
theorem dX9_rows_65 : decode cX9_rows 65 = .ok (.aload_n 0, 1) := by decide +kernel
theorem dX9_rows_66 : decode cX9_rows 66 = .ok (.iload_n 1, 1) := by decide +kernel
theorem dX9_rows_67 : decode cX9_rows 67 = .ok (.invokevirtual 330, 3) := by decide +kernel
theorem dX9_rows_70 : decode cX9_rows 70 = .ok (.aload_n 0, 1) := by decide +kernel
theorem dX9_rows_71 : decode cX9_rows 71 = .ok (.iload 4, 2) := by decide +kernel
theorem dX9_rows_73 : decode cX9_rows 73 = .ok (.invokevirtual 302, 3) := by decide +kernel
theorem dX9_rows_76 : decode cX9_rows 76 = .ok (.aload_n 0, 1) := by decide +kernel
theorem dX9_rows_77 : decode cX9_rows 77 = .ok (.iload_n 1, 1) := by decide +kernel
theorem dX9_rows_78 : decode cX9_rows 78 = .ok (.iconst 1, 1) := by decide +kernel
theorem dX9_rows_79 : decode cX9_rows 79 = .ok (.iadd, 1) := by decide +kernel
theorem dX9_rows_80 : decode cX9_rows 80 = .ok (.bipush 10, 2) := by decide +kernel
theorem dX9_rows_82 : decode cX9_rows 82 = .ok (.iload_n 2, 1) := by decide +kernel
theorem dX9_rows_83 : decode cX9_rows 83 = .ok (.imul, 1) := by decide +kernel
theorem dX9_rows_84 : decode cX9_rows 84 = .ok (.iload 4, 2) := by decide +kernel
theorem dX9_rows_86 : decode cX9_rows 86 = .ok (.iadd, 1) := by decide +kernel
theorem dX9_rows_87 : decode cX9_rows 87 = .ok (.iconst 1, 1) := by decide +kernel
theorem dX9_rows_88 : decode cX9_rows 88 = .ok (.iadd, 1) := by decide +kernel
theorem dX9_rows_89 : decode cX9_rows 89 = .ok (.iload_n 3, 1) := by decide +kernel
theorem dX9_rows_90 : decode cX9_rows 90 = .ok (.invokevirtual 333, 3) := by decide +kernel
theorem dX9_rows_93 : decode cX9_rows 93 = .ok (.aload_n 0, 1) := by decide +kernel
theorem dX9_rows_94 : decode cX9_rows 94 = .ok (.iload_n 1, 1) := by decide +kernel
theorem dX9_rows_95 : decode cX9_rows 95 = .ok (.invokevirtual 337, 3) := by decide +kernel
theorem dX9_rows_98 : decode cX9_rows 98 = .ok (.iinc 4 1, 3) := by decide +kernel
theorem dX9_rows_101 : decode cX9_rows 101 = .ok (.goto (-57), 3) := by decide +kernel
theorem dX9_rows_104 : decode cX9_rows 104 = .ok (.return_, 1) := by decide +kernel
theorem dX9_best_0 : decode cX9_best 0 = .ok (.iload_n 1, 1) := by decide +kernel
theorem dX9_best_1 : decode cX9_best 1 = .ok (.i2l, 1) := by decide +kernel
theorem dX9_best_2 : decode cX9_best 2 = .ok (.lconst 0, 1) := by decide +kernel
theorem dX9_best_3 : decode cX9_best 3 = .ok (.lconst 1, 1) := by decide +kernel
theorem dX9_best_4 : decode cX9_best 4 = .ok (.invokestatic 94, 3) := by decide +kernel
theorem dX9_best_7 : decode cX9_best 7 = .ok (.ifCond .eq 15, 3) := by decide +kernel
theorem dX9_best_10 : decode cX9_best 10 = .ok (.iload_n 2, 1) := by decide +kernel
theorem dX9_best_11 : decode cX9_best 11 = .ok (.i2l, 1) := by decide +kernel
theorem dX9_best_12 : decode cX9_best 12 = .ok (.lconst 0, 1) := by decide +kernel
theorem dX9_best_13 : decode cX9_best 13 = .ok (.ldc2_w 340, 3) := by decide +kernel
theorem dX9_best_16 : decode cX9_best 16 = .ok (.invokestatic 94, 3) := by decide +kernel
theorem dX9_best_19 : decode cX9_best 19 = .ok (.ifCond .ne 6, 3) := by decide +kernel
theorem dX9_best_22 : decode cX9_best 22 = .ok (.bipush (-2), 2) := by decide +kernel
theorem dX9_best_24 : decode cX9_best 24 = .ok (.ireturn, 1) := by decide +kernel
theorem dX9_best_25 : decode cX9_best 25 = .ok (.aload_n 0, 1) := by decide +kernel
theorem dX9_best_26 : decode cX9_best 26 = .ok (.invokevirtual 296, 3) := by decide +kernel
theorem dX9_best_29 : decode cX9_best 29 = .ok (.aload_n 0, 1) := by decide +kernel
theorem dX9_best_30 : decode cX9_best 30 = .ok (.iconst 0, 1) := by decide +kernel
theorem dX9_best_31 : decode cX9_best 31 = .ok (.iconst 0, 1) := by decide +kernel
theorem dX9_best_32 : decode cX9_best 32 = .ok (.iload_n 1, 1) := by decide +kernel
theorem dX9_best_33 : decode cX9_best 33 = .ok (.invokevirtual 333, 3) := by decide +kernel
theorem dX9_best_36 : decode cX9_best 36 = .ok (.iload_n 2, 1) := by decide +kernel
theorem dX9_best_37 : decode cX9_best 37 = .ok (.ifCond .ne 10, 3) := by decide +kernel
theorem dX9_best_40 : decode cX9_best 40 = .ok (.aload_n 0, 1) := by decide +kernel
theorem dX9_best_41 : decode cX9_best 41 = .ok (.getfield 315, 3) := by decide +kernel
theorem dX9_best_44 : decode cX9_best 44 = .ok (.goto 31, 3) := by decide +kernel
theorem dX9_best_47 : decode cX9_best 47 = .ok (.iload_n 2, 1) := by decide +kernel
theorem dX9_best_48 : decode cX9_best 48 = .ok (.iconst 1, 1) := by decide +kernel
theorem dX9_best_49 : decode cX9_best 49 = .ok (.if_icmp .ne 10, 3) := by decide +kernel
theorem dX9_best_52 : decode cX9_best 52 = .ok (.aload_n 0, 1) := by decide +kernel
theorem dX9_best_53 : decode cX9_best 53 = .ok (.getfield 318, 3) := by decide +kernel
theorem dX9_best_56 : decode cX9_best 56 = .ok (.goto 19, 3) := by decide +kernel
theorem dX9_best_59 : decode cX9_best 59 = .ok (.iload_n 2, 1) := by decide +kernel
theorem dX9_best_60 : decode cX9_best 60 = .ok (.iconst 2, 1) := by decide +kernel
theorem dX9_best_61 : decode cX9_best 61 = .ok (.if_icmp .ne 10, 3) := by decide +kernel
theorem dX9_best_64 : decode cX9_best 64 = .ok (.aload_n 0, 1) := by decide +kernel
theorem dX9_best_65 : decode cX9_best 65 = .ok (.getfield 321, 3) := by decide +kernel
theorem dX9_best_68 : decode cX9_best 68 = .ok (.goto 7, 3) := by decide +kernel
theorem dX9_best_71 : decode cX9_best 71 = .ok (.aload_n 0, 1) := by decide +kernel
theorem dX9_best_72 : decode cX9_best 72 = .ok (.getfield 327, 3) := by decide +kernel
theorem dX9_best_75 : decode cX9_best 75 = .ok (.ireturn, 1) := by decide +kernel
theorem dX9_deskCalls_0 : decode cX9_deskCalls 0 = .ok (.iconst (-1), 1) := by decide +kernel
theorem dX9_deskCalls_1 : decode cX9_deskCalls 1 = .ok (.istore_n 2, 1) := by decide +kernel
theorem dX9_deskCalls_2 : decode cX9_deskCalls 2 = .ok (.iconst 0, 1) := by decide +kernel
theorem dX9_deskCalls_3 : decode cX9_deskCalls 3 = .ok (.istore_n 3, 1) := by decide +kernel
theorem dX9_deskCalls_4 : decode cX9_deskCalls 4 = .ok (.iconst 0, 1) := by decide +kernel
theorem dX9_deskCalls_5 : decode cX9_deskCalls 5 = .ok (.istore 4, 2) := by decide +kernel
theorem dX9_deskCalls_7 : decode cX9_deskCalls 7 = .ok (.iload 4, 2) := by decide +kernel
theorem dX9_deskCalls_9 : decode cX9_deskCalls 9 = .ok (.aload_n 0, 1) := by decide +kernel
theorem dX9_deskCalls_10 : decode cX9_deskCalls 10 = .ok (.getfield 98, 3) := by decide +kernel
theorem dX9_deskCalls_13 : decode cX9_deskCalls 13 = .ok (.if_icmp .ge 96, 3) := by decide +kernel
theorem dX9_deskCalls_16 : decode cX9_deskCalls 16 = .ok (.aload_n 0, 1) := by decide +kernel
theorem dX9_deskCalls_17 : decode cX9_deskCalls 17 = .ok (.getfield 271, 3) := by decide +kernel
theorem dX9_deskCalls_20 : decode cX9_deskCalls 20 = .ok (.iload_n 1, 1) := by decide +kernel
theorem dX9_deskCalls_21 : decode cX9_deskCalls 21 = .ok (.ior, 1) := by decide +kernel
theorem dX9_deskCalls_22 : decode cX9_deskCalls 22 = .ok (.iload 4, 2) := by decide +kernel
theorem dX9_deskCalls_24 : decode cX9_deskCalls 24 = .ok (.ishr, 1) := by decide +kernel
theorem dX9_deskCalls_25 : decode cX9_deskCalls 25 = .ok (.iconst 1, 1) := by decide +kernel
theorem dX9_deskCalls_26 : decode cX9_deskCalls 26 = .ok (.iand, 1) := by decide +kernel
theorem dX9_deskCalls_27 : decode cX9_deskCalls 27 = .ok (.ifCond .ne 76, 3) := by decide +kernel
theorem dX9_deskCalls_30 : decode cX9_deskCalls 30 = .ok (.aload_n 0, 1) := by decide +kernel
theorem dX9_deskCalls_31 : decode cX9_deskCalls 31 = .ok (.iload 4, 2) := by decide +kernel
theorem dX9_deskCalls_33 : decode cX9_deskCalls 33 = .ok (.invokevirtual 277, 3) := by decide +kernel
theorem dX9_deskCalls_36 : decode cX9_deskCalls 36 = .ok (.ifCond .eq 67, 3) := by decide +kernel
theorem dX9_deskCalls_39 : decode cX9_deskCalls 39 = .ok (.aload_n 0, 1) := by decide +kernel
theorem dX9_deskCalls_40 : decode cX9_deskCalls 40 = .ok (.getfield 26, 3) := by decide +kernel
theorem dX9_deskCalls_43 : decode cX9_deskCalls 43 = .ok (.aload_n 0, 1) := by decide +kernel
theorem dX9_deskCalls_44 : decode cX9_deskCalls 44 = .ok (.getfield 38, 3) := by decide +kernel
theorem dX9_deskCalls_47 : decode cX9_deskCalls 47 = .ok (.iload 4, 2) := by decide +kernel
theorem dX9_deskCalls_49 : decode cX9_deskCalls 49 = .ok (.iaload, 1) := by decide +kernel
theorem dX9_deskCalls_50 : decode cX9_deskCalls 50 = .ok (.iaload, 1) := by decide +kernel
theorem dX9_deskCalls_51 : decode cX9_deskCalls 51 = .ok (.istore 5, 2) := by decide +kernel
theorem dX9_deskCalls_53 : decode cX9_deskCalls 53 = .ok (.aload_n 0, 1) := by decide +kernel
theorem dX9_deskCalls_54 : decode cX9_deskCalls 54 = .ok (.iconst 2, 1) := by decide +kernel
theorem dX9_deskCalls_55 : decode cX9_deskCalls 55 = .ok (.aload_n 0, 1) := by decide +kernel
theorem dX9_deskCalls_56 : decode cX9_deskCalls 56 = .ok (.getfield 252, 3) := by decide +kernel
theorem dX9_deskCalls_59 : decode cX9_deskCalls 59 = .ok (.aload_n 0, 1) := by decide +kernel
theorem dX9_deskCalls_60 : decode cX9_deskCalls 60 = .ok (.getfield 44, 3) := by decide +kernel
theorem dX9_deskCalls_63 : decode cX9_deskCalls 63 = .ok (.iload 5, 2) := by decide +kernel
theorem dX9_deskCalls_65 : decode cX9_deskCalls 65 = .ok (.iaload, 1) := by decide +kernel
theorem dX9_deskCalls_66 : decode cX9_deskCalls 66 = .ok (.isub, 1) := by decide +kernel
theorem dX9_deskCalls_67 : decode cX9_deskCalls 67 = .ok (.aload_n 0, 1) := by decide +kernel
theorem dX9_deskCalls_68 : decode cX9_deskCalls 68 = .ok (.getfield 47, 3) := by decide +kernel
theorem dX9_deskCalls_71 : decode cX9_deskCalls 71 = .ok (.iload 5, 2) := by decide +kernel
theorem dX9_deskCalls_73 : decode cX9_deskCalls 73 = .ok (.iaload, 1) := by decide +kernel
theorem dX9_deskCalls_74 : decode cX9_deskCalls 74 = .ok (.aload_n 0, 1) := by decide +kernel
theorem dX9_deskCalls_75 : decode cX9_deskCalls 75 = .ok (.getfield 29, 3) := by decide +kernel
theorem dX9_deskCalls_78 : decode cX9_deskCalls 78 = .ok (.iload 4, 2) := by decide +kernel
theorem dX9_deskCalls_80 : decode cX9_deskCalls 80 = .ok (.iaload, 1) := by decide +kernel
theorem dX9_deskCalls_81 : decode cX9_deskCalls 81 = .ok (.invokevirtual 289, 3) := by decide +kernel
theorem dX9_deskCalls_84 : decode cX9_deskCalls 84 = .ok (.istore 6, 2) := by decide +kernel
theorem dX9_deskCalls_86 : decode cX9_deskCalls 86 = .ok (.iload_n 2, 1) := by decide +kernel
theorem dX9_deskCalls_87 : decode cX9_deskCalls 87 = .ok (.iconst (-1), 1) := by decide +kernel
theorem dX9_deskCalls_88 : decode cX9_deskCalls 88 = .ok (.if_icmp .eq 9, 3) := by decide +kernel
theorem dX9_deskCalls_91 : decode cX9_deskCalls 91 = .ok (.iload 6, 2) := by decide +kernel
theorem dX9_deskCalls_93 : decode cX9_deskCalls 93 = .ok (.iload_n 3, 1) := by decide +kernel
theorem dX9_deskCalls_94 : decode cX9_deskCalls 94 = .ok (.if_icmp .le 9, 3) := by decide +kernel
theorem dX9_deskCalls_97 : decode cX9_deskCalls 97 = .ok (.iload 4, 2) := by decide +kernel
theorem dX9_deskCalls_99 : decode cX9_deskCalls 99 = .ok (.istore_n 2, 1) := by decide +kernel
theorem dX9_deskCalls_100 : decode cX9_deskCalls 100 = .ok (.iload 6, 2) := by decide +kernel
theorem dX9_deskCalls_102 : decode cX9_deskCalls 102 = .ok (.istore_n 3, 1) := by decide +kernel
theorem dX9_deskCalls_103 : decode cX9_deskCalls 103 = .ok (.iinc 4 1, 3) := by decide +kernel
theorem dX9_deskCalls_106 : decode cX9_deskCalls 106 = .ok (.goto (-99), 3) := by decide +kernel
theorem dX9_deskCalls_109 : decode cX9_deskCalls 109 = .ok (.iload_n 2, 1) := by decide +kernel
theorem dX9_deskCalls_110 : decode cX9_deskCalls 110 = .ok (.ireturn, 1) := by decide +kernel
theorem dX9_goesOn_0 : decode cX9_goesOn 0 = .ok (.aload_n 0, 1) := by decide +kernel
theorem dX9_goesOn_1 : decode cX9_goesOn 1 = .ok (.iconst 0, 1) := by decide +kernel
theorem dX9_goesOn_2 : decode cX9_goesOn 2 = .ok (.putfield 342, 3) := by decide +kernel
theorem dX9_goesOn_5 : decode cX9_goesOn 5 = .ok (.aload_n 0, 1) := by decide +kernel
theorem dX9_goesOn_6 : decode cX9_goesOn 6 = .ok (.iload_n 1, 1) := by decide +kernel
theorem dX9_goesOn_7 : decode cX9_goesOn 7 = .ok (.invokevirtual 345, 3) := by decide +kernel
theorem dX9_goesOn_10 : decode cX9_goesOn 10 = .ok (.istore_n 2, 1) := by decide +kernel
theorem dX9_goesOn_11 : decode cX9_goesOn 11 = .ok (.iload_n 2, 1) := by decide +kernel
theorem dX9_goesOn_12 : decode cX9_goesOn 12 = .ok (.iconst (-1), 1) := by decide +kernel
theorem dX9_goesOn_13 : decode cX9_goesOn 13 = .ok (.if_icmp .eq 32, 3) := by decide +kernel
theorem dX9_goesOn_16 : decode cX9_goesOn 16 = .ok (.aload_n 0, 1) := by decide +kernel
theorem dX9_goesOn_17 : decode cX9_goesOn 17 = .ok (.iload_n 2, 1) := by decide +kernel
theorem dX9_goesOn_18 : decode cX9_goesOn 18 = .ok (.invokevirtual 302, 3) := by decide +kernel
theorem dX9_goesOn_21 : decode cX9_goesOn 21 = .ok (.aload_n 0, 1) := by decide +kernel
theorem dX9_goesOn_22 : decode cX9_goesOn 22 = .ok (.bipush 10, 2) := by decide +kernel
theorem dX9_goesOn_24 : decode cX9_goesOn 24 = .ok (.aload_n 0, 1) := by decide +kernel
theorem dX9_goesOn_25 : decode cX9_goesOn 25 = .ok (.getfield 342, 3) := by decide +kernel
theorem dX9_goesOn_28 : decode cX9_goesOn 28 = .ok (.imul, 1) := by decide +kernel
theorem dX9_goesOn_29 : decode cX9_goesOn 29 = .ok (.iload_n 2, 1) := by decide +kernel
theorem dX9_goesOn_30 : decode cX9_goesOn 30 = .ok (.iadd, 1) := by decide +kernel
theorem dX9_goesOn_31 : decode cX9_goesOn 31 = .ok (.iconst 1, 1) := by decide +kernel
theorem dX9_goesOn_32 : decode cX9_goesOn 32 = .ok (.iadd, 1) := by decide +kernel
theorem dX9_goesOn_33 : decode cX9_goesOn 33 = .ok (.putfield 342, 3) := by decide +kernel
theorem dX9_goesOn_36 : decode cX9_goesOn 36 = .ok (.aload_n 0, 1) := by decide +kernel
theorem dX9_goesOn_37 : decode cX9_goesOn 37 = .ok (.iload_n 1, 1) := by decide +kernel
theorem dX9_goesOn_38 : decode cX9_goesOn 38 = .ok (.invokevirtual 345, 3) := by decide +kernel
theorem dX9_goesOn_41 : decode cX9_goesOn 41 = .ok (.istore_n 2, 1) := by decide +kernel
theorem dX9_goesOn_42 : decode cX9_goesOn 42 = .ok (.goto (-31), 3) := by decide +kernel
theorem dX9_goesOn_45 : decode cX9_goesOn 45 = .ok (.return_, 1) := by decide +kernel
theorem dX9_desks_0 : decode cX9_desks 0 = .ok (.aload_n 0, 1) := by decide +kernel
theorem dX9_desks_1 : decode cX9_desks 1 = .ok (.invokevirtual 296, 3) := by decide +kernel
theorem dX9_desks_4 : decode cX9_desks 4 = .ok (.aload_n 0, 1) := by decide +kernel
theorem dX9_desks_5 : decode cX9_desks 5 = .ok (.iload_n 1, 1) := by decide +kernel
theorem dX9_desks_6 : decode cX9_desks 6 = .ok (.invokevirtual 348, 3) := by decide +kernel
theorem dX9_desks_9 : decode cX9_desks 9 = .ok (.return_, 1) := by decide +kernel
theorem dX9_desk_0 : decode cX9_desk 0 = .ok (.iload_n 1, 1) := by decide +kernel
theorem dX9_desk_1 : decode cX9_desk 1 = .ok (.i2l, 1) := by decide +kernel
theorem dX9_desk_2 : decode cX9_desk 2 = .ok (.lconst 0, 1) := by decide +kernel
theorem dX9_desk_3 : decode cX9_desk 3 = .ok (.ldc2_w 113, 3) := by decide +kernel
theorem dX9_desk_6 : decode cX9_desk 6 = .ok (.invokestatic 94, 3) := by decide +kernel
theorem dX9_desk_9 : decode cX9_desk 9 = .ok (.ifCond .ne 6, 3) := by decide +kernel
theorem dX9_desk_12 : decode cX9_desk 12 = .ok (.ldc 122, 2) := by decide +kernel
theorem dX9_desk_14 : decode cX9_desk 14 = .ok (.ireturn, 1) := by decide +kernel
theorem dX9_desk_15 : decode cX9_desk 15 = .ok (.aload_n 0, 1) := by decide +kernel
theorem dX9_desk_16 : decode cX9_desk 16 = .ok (.iconst 0, 1) := by decide +kernel
theorem dX9_desk_17 : decode cX9_desk 17 = .ok (.invokevirtual 351, 3) := by decide +kernel
theorem dX9_desk_20 : decode cX9_desk 20 = .ok (.iload_n 1, 1) := by decide +kernel
theorem dX9_desk_21 : decode cX9_desk 21 = .ok (.bipush 6, 2) := by decide +kernel
theorem dX9_desk_23 : decode cX9_desk 23 = .ok (.if_icmp .ne 10, 3) := by decide +kernel
theorem dX9_desk_26 : decode cX9_desk 26 = .ok (.aload_n 0, 1) := by decide +kernel
theorem dX9_desk_27 : decode cX9_desk 27 = .ok (.getfield 342, 3) := by decide +kernel
theorem dX9_desk_30 : decode cX9_desk 30 = .ok (.goto 8, 3) := by decide +kernel
theorem dX9_desk_33 : decode cX9_desk 33 = .ok (.aload_n 0, 1) := by decide +kernel
theorem dX9_desk_34 : decode cX9_desk 34 = .ok (.iload_n 1, 1) := by decide +kernel
theorem dX9_desk_35 : decode cX9_desk 35 = .ok (.invokevirtual 312, 3) := by decide +kernel
theorem dX9_desk_38 : decode cX9_desk 38 = .ok (.ireturn, 1) := by decide +kernel
theorem dX9_wait_0 : decode cX9_wait 0 = .ok (.aload_n 0, 1) := by decide +kernel
theorem dX9_wait_1 : decode cX9_wait 1 = .ok (.iload_n 1, 1) := by decide +kernel
theorem dX9_wait_2 : decode cX9_wait 2 = .ok (.invokevirtual 119, 3) := by decide +kernel
theorem dX9_wait_5 : decode cX9_wait 5 = .ok (.ifCond .ne 6, 3) := by decide +kernel
theorem dX9_wait_8 : decode cX9_wait 8 = .ok (.bipush (-2), 2) := by decide +kernel
theorem dX9_wait_10 : decode cX9_wait 10 = .ok (.ireturn, 1) := by decide +kernel
theorem dX9_wait_11 : decode cX9_wait 11 = .ok (.aload_n 0, 1) := by decide +kernel
theorem dX9_wait_12 : decode cX9_wait 12 = .ok (.iconst 0, 1) := by decide +kernel
theorem dX9_wait_13 : decode cX9_wait 13 = .ok (.invokevirtual 351, 3) := by decide +kernel
theorem dX9_wait_16 : decode cX9_wait 16 = .ok (.aload_n 0, 1) := by decide +kernel
theorem dX9_wait_17 : decode cX9_wait 17 = .ok (.getfield 274, 3) := by decide +kernel
theorem dX9_wait_20 : decode cX9_wait 20 = .ok (.iload_n 1, 1) := by decide +kernel
theorem dX9_wait_21 : decode cX9_wait 21 = .ok (.ishr, 1) := by decide +kernel
theorem dX9_wait_22 : decode cX9_wait 22 = .ok (.iconst 1, 1) := by decide +kernel
theorem dX9_wait_23 : decode cX9_wait 23 = .ok (.iand, 1) := by decide +kernel
theorem dX9_wait_24 : decode cX9_wait 24 = .ok (.iconst 1, 1) := by decide +kernel
theorem dX9_wait_25 : decode cX9_wait 25 = .ok (.if_icmp .ne 12, 3) := by decide +kernel
theorem dX9_wait_28 : decode cX9_wait 28 = .ok (.aload_n 0, 1) := by decide +kernel
theorem dX9_wait_29 : decode cX9_wait 29 = .ok (.getfield 50, 3) := by decide +kernel
theorem dX9_wait_32 : decode cX9_wait 32 = .ok (.iload_n 1, 1) := by decide +kernel
theorem dX9_wait_33 : decode cX9_wait 33 = .ok (.iaload, 1) := by decide +kernel
theorem dX9_wait_34 : decode cX9_wait 34 = .ok (.goto 4, 3) := by decide +kernel
theorem dX9_wait_37 : decode cX9_wait 37 = .ok (.iconst (-1), 1) := by decide +kernel
theorem dX9_wait_38 : decode cX9_wait 38 = .ok (.ireturn, 1) := by decide +kernel
theorem dX9_refuse_0 : decode cX9_refuse 0 = .ok (.iload_n 1, 1) := by decide +kernel
theorem dX9_refuse_1 : decode cX9_refuse 1 = .ok (.i2l, 1) := by decide +kernel
theorem dX9_refuse_2 : decode cX9_refuse 2 = .ok (.lconst 0, 1) := by decide +kernel
theorem dX9_refuse_3 : decode cX9_refuse 3 = .ok (.lconst 1, 1) := by decide +kernel
theorem dX9_refuse_4 : decode cX9_refuse 4 = .ok (.invokestatic 94, 3) := by decide +kernel
theorem dX9_refuse_7 : decode cX9_refuse 7 = .ok (.ifCond .ne 6, 3) := by decide +kernel
theorem dX9_refuse_10 : decode cX9_refuse 10 = .ok (.bipush (-2), 2) := by decide +kernel
theorem dX9_refuse_12 : decode cX9_refuse 12 = .ok (.ireturn, 1) := by decide +kernel
theorem dX9_refuse_13 : decode cX9_refuse 13 = .ok (.aload_n 0, 1) := by decide +kernel
theorem dX9_refuse_14 : decode cX9_refuse 14 = .ok (.iconst 0, 1) := by decide +kernel
theorem dX9_refuse_15 : decode cX9_refuse 15 = .ok (.invokevirtual 351, 3) := by decide +kernel
theorem dX9_refuse_18 : decode cX9_refuse 18 = .ok (.aload_n 0, 1) := by decide +kernel
theorem dX9_refuse_19 : decode cX9_refuse 19 = .ok (.getfield 255, 3) := by decide +kernel
theorem dX9_refuse_22 : decode cX9_refuse 22 = .ok (.istore_n 2, 1) := by decide +kernel
theorem dX9_refuse_23 : decode cX9_refuse 23 = .ok (.iconst (-1), 1) := by decide +kernel
theorem dX9_refuse_24 : decode cX9_refuse 24 = .ok (.istore_n 3, 1) := by decide +kernel
theorem dX9_refuse_25 : decode cX9_refuse 25 = .ok (.iconst 0, 1) := by decide +kernel
theorem dX9_refuse_26 : decode cX9_refuse 26 = .ok (.istore 4, 2) := by decide +kernel
theorem dX9_refuse_28 : decode cX9_refuse 28 = .ok (.iload 4, 2) := by decide +kernel
theorem dX9_refuse_30 : decode cX9_refuse 30 = .ok (.aload_n 0, 1) := by decide +kernel
theorem dX9_refuse_31 : decode cX9_refuse 31 = .ok (.getfield 98, 3) := by decide +kernel
theorem dX9_refuse_34 : decode cX9_refuse 34 = .ok (.if_icmp .ge 33, 3) := by decide +kernel
theorem dX9_refuse_37 : decode cX9_refuse 37 = .ok (.aload_n 0, 1) := by decide +kernel
theorem dX9_refuse_38 : decode cX9_refuse 38 = .ok (.iconst 1, 1) := by decide +kernel
theorem dX9_refuse_39 : decode cX9_refuse 39 = .ok (.iload 4, 2) := by decide +kernel
theorem dX9_refuse_41 : decode cX9_refuse 41 = .ok (.ishl, 1) := by decide +kernel
theorem dX9_refuse_42 : decode cX9_refuse 42 = .ok (.invokevirtual 351, 3) := by decide +kernel
theorem dX9_refuse_45 : decode cX9_refuse 45 = .ok (.aload_n 0, 1) := by decide +kernel
theorem dX9_refuse_46 : decode cX9_refuse 46 = .ok (.getfield 255, 3) := by decide +kernel
theorem dX9_refuse_49 : decode cX9_refuse 49 = .ok (.iload_n 2, 1) := by decide +kernel
theorem dX9_refuse_50 : decode cX9_refuse 50 = .ok (.if_icmp .le 11, 3) := by decide +kernel
theorem dX9_refuse_53 : decode cX9_refuse 53 = .ok (.aload_n 0, 1) := by decide +kernel
theorem dX9_refuse_54 : decode cX9_refuse 54 = .ok (.getfield 255, 3) := by decide +kernel
theorem dX9_refuse_57 : decode cX9_refuse 57 = .ok (.istore_n 2, 1) := by decide +kernel
theorem dX9_refuse_58 : decode cX9_refuse 58 = .ok (.iload 4, 2) := by decide +kernel
theorem dX9_refuse_60 : decode cX9_refuse 60 = .ok (.istore_n 3, 1) := by decide +kernel
theorem dX9_refuse_61 : decode cX9_refuse 61 = .ok (.iinc 4 1, 3) := by decide +kernel
theorem dX9_refuse_64 : decode cX9_refuse 64 = .ok (.goto (-36), 3) := by decide +kernel
theorem dX9_refuse_67 : decode cX9_refuse 67 = .ok (.iload_n 1, 1) := by decide +kernel
theorem dX9_refuse_68 : decode cX9_refuse 68 = .ok (.ifCond .ne 7, 3) := by decide +kernel
theorem dX9_refuse_71 : decode cX9_refuse 71 = .ok (.iload_n 3, 1) := by decide +kernel
theorem dX9_refuse_72 : decode cX9_refuse 72 = .ok (.goto 4, 3) := by decide +kernel
theorem dX9_refuse_75 : decode cX9_refuse 75 = .ok (.iload_n 2, 1) := by decide +kernel
theorem dX9_refuse_76 : decode cX9_refuse 76 = .ok (.ireturn, 1) := by decide +kernel
theorem dX9_coin_0 : decode cX9_coin 0 = .ok (.aload_n 0, 1) := by decide +kernel
theorem dX9_coin_1 : decode cX9_coin 1 = .ok (.iload_n 1, 1) := by decide +kernel
theorem dX9_coin_2 : decode cX9_coin 2 = .ok (.invokevirtual 119, 3) := by decide +kernel
theorem dX9_coin_5 : decode cX9_coin 5 = .ok (.ifCond .ne 6, 3) := by decide +kernel
theorem dX9_coin_8 : decode cX9_coin 8 = .ok (.ldc 122, 2) := by decide +kernel
theorem dX9_coin_10 : decode cX9_coin 10 = .ok (.ireturn, 1) := by decide +kernel
theorem dX9_coin_11 : decode cX9_coin 11 = .ok (.aload_n 0, 1) := by decide +kernel
theorem dX9_coin_12 : decode cX9_coin 12 = .ok (.iconst 0, 1) := by decide +kernel
theorem dX9_coin_13 : decode cX9_coin 13 = .ok (.invokevirtual 351, 3) := by decide +kernel
theorem dX9_coin_16 : decode cX9_coin 16 = .ok (.aload_n 0, 1) := by decide +kernel
theorem dX9_coin_17 : decode cX9_coin 17 = .ok (.getfield 255, 3) := by decide +kernel
theorem dX9_coin_20 : decode cX9_coin 20 = .ok (.istore_n 2, 1) := by decide +kernel
theorem dX9_coin_21 : decode cX9_coin 21 = .ok (.aload_n 0, 1) := by decide +kernel
theorem dX9_coin_22 : decode cX9_coin 22 = .ok (.invokevirtual 296, 3) := by decide +kernel
theorem dX9_coin_25 : decode cX9_coin 25 = .ok (.aload_n 0, 1) := by decide +kernel
theorem dX9_coin_26 : decode cX9_coin 26 = .ok (.iload_n 1, 1) := by decide +kernel
theorem dX9_coin_27 : decode cX9_coin 27 = .ok (.invokevirtual 302, 3) := by decide +kernel
theorem dX9_coin_30 : decode cX9_coin 30 = .ok (.aload_n 0, 1) := by decide +kernel
theorem dX9_coin_31 : decode cX9_coin 31 = .ok (.iconst 0, 1) := by decide +kernel
theorem dX9_coin_32 : decode cX9_coin 32 = .ok (.invokevirtual 348, 3) := by decide +kernel
theorem dX9_coin_35 : decode cX9_coin 35 = .ok (.iload_n 2, 1) := by decide +kernel
theorem dX9_coin_36 : decode cX9_coin 36 = .ok (.aload_n 0, 1) := by decide +kernel
theorem dX9_coin_37 : decode cX9_coin 37 = .ok (.getfield 255, 3) := by decide +kernel
theorem dX9_coin_40 : decode cX9_coin 40 = .ok (.isub, 1) := by decide +kernel
theorem dX9_coin_41 : decode cX9_coin 41 = .ok (.ireturn, 1) := by decide +kernel
theorem dX9_harm_0 : decode cX9_harm 0 = .ok (.aload_n 0, 1) := by decide +kernel
theorem dX9_harm_1 : decode cX9_harm 1 = .ok (.iload_n 1, 1) := by decide +kernel
theorem dX9_harm_2 : decode cX9_harm 2 = .ok (.invokevirtual 119, 3) := by decide +kernel
theorem dX9_harm_5 : decode cX9_harm 5 = .ok (.ifCond .ne 6, 3) := by decide +kernel
theorem dX9_harm_8 : decode cX9_harm 8 = .ok (.ldc 122, 2) := by decide +kernel
theorem dX9_harm_10 : decode cX9_harm 10 = .ok (.ireturn, 1) := by decide +kernel
theorem dX9_harm_11 : decode cX9_harm 11 = .ok (.aload_n 0, 1) := by decide +kernel
theorem dX9_harm_12 : decode cX9_harm 12 = .ok (.iconst 0, 1) := by decide +kernel
theorem dX9_harm_13 : decode cX9_harm 13 = .ok (.invokevirtual 351, 3) := by decide +kernel
theorem dX9_harm_16 : decode cX9_harm 16 = .ok (.aload_n 0, 1) := by decide +kernel
theorem dX9_harm_17 : decode cX9_harm 17 = .ok (.invokevirtual 293, 3) := by decide +kernel
theorem dX9_harm_20 : decode cX9_harm 20 = .ok (.istore_n 2, 1) := by decide +kernel
theorem dX9_harm_21 : decode cX9_harm 21 = .ok (.aload_n 0, 1) := by decide +kernel
theorem dX9_harm_22 : decode cX9_harm 22 = .ok (.iconst 1, 1) := by decide +kernel
theorem dX9_harm_23 : decode cX9_harm 23 = .ok (.iload_n 1, 1) := by decide +kernel
theorem dX9_harm_24 : decode cX9_harm 24 = .ok (.ishl, 1) := by decide +kernel
theorem dX9_harm_25 : decode cX9_harm 25 = .ok (.invokevirtual 351, 3) := by decide +kernel
theorem dX9_harm_28 : decode cX9_harm 28 = .ok (.iload_n 2, 1) := by decide +kernel
theorem dX9_harm_29 : decode cX9_harm 29 = .ok (.aload_n 0, 1) := by decide +kernel
theorem dX9_harm_30 : decode cX9_harm 30 = .ok (.invokevirtual 293, 3) := by decide +kernel
theorem dX9_harm_33 : decode cX9_harm 33 = .ok (.isub, 1) := by decide +kernel
theorem dX9_harm_34 : decode cX9_harm 34 = .ok (.ireturn, 1) := by decide +kernel
theorem dX9_wrongAt_0 : decode cX9_wrongAt 0 = .ok (.aload_n 0, 1) := by decide +kernel
theorem dX9_wrongAt_1 : decode cX9_wrongAt 1 = .ok (.invokevirtual 296, 3) := by decide +kernel
theorem dX9_wrongAt_4 : decode cX9_wrongAt 4 = .ok (.iconst 0, 1) := by decide +kernel
theorem dX9_wrongAt_5 : decode cX9_wrongAt 5 = .ok (.istore_n 2, 1) := by decide +kernel
theorem dX9_wrongAt_6 : decode cX9_wrongAt 6 = .ok (.iload_n 2, 1) := by decide +kernel
theorem dX9_wrongAt_7 : decode cX9_wrongAt 7 = .ok (.aload_n 0, 1) := by decide +kernel
theorem dX9_wrongAt_8 : decode cX9_wrongAt 8 = .ok (.getfield 78, 3) := by decide +kernel
theorem dX9_wrongAt_11 : decode cX9_wrongAt 11 = .ok (.iload_n 1, 1) := by decide +kernel
theorem dX9_wrongAt_12 : decode cX9_wrongAt 12 = .ok (.iaload, 1) := by decide +kernel
theorem dX9_wrongAt_13 : decode cX9_wrongAt 13 = .ok (.if_icmp .ge 42, 3) := by decide +kernel
theorem dX9_wrongAt_16 : decode cX9_wrongAt 16 = .ok (.aload_n 0, 1) := by decide +kernel
theorem dX9_wrongAt_17 : decode cX9_wrongAt 17 = .ok (.iconst 0, 1) := by decide +kernel
theorem dX9_wrongAt_18 : decode cX9_wrongAt 18 = .ok (.invokevirtual 345, 3) := by decide +kernel
theorem dX9_wrongAt_21 : decode cX9_wrongAt 21 = .ok (.istore_n 3, 1) := by decide +kernel
theorem dX9_wrongAt_22 : decode cX9_wrongAt 22 = .ok (.iload_n 3, 1) := by decide +kernel
theorem dX9_wrongAt_23 : decode cX9_wrongAt 23 = .ok (.iconst (-1), 1) := by decide +kernel
theorem dX9_wrongAt_24 : decode cX9_wrongAt 24 = .ok (.if_icmp .eq 18, 3) := by decide +kernel
theorem dX9_wrongAt_27 : decode cX9_wrongAt 27 = .ok (.iload_n 3, 1) := by decide +kernel
theorem dX9_wrongAt_28 : decode cX9_wrongAt 28 = .ok (.aload_n 0, 1) := by decide +kernel
theorem dX9_wrongAt_29 : decode cX9_wrongAt 29 = .ok (.getfield 81, 3) := by decide +kernel
theorem dX9_wrongAt_32 : decode cX9_wrongAt 32 = .ok (.bipush 40, 2) := by decide +kernel
theorem dX9_wrongAt_34 : decode cX9_wrongAt 34 = .ok (.iload_n 1, 1) := by decide +kernel
theorem dX9_wrongAt_35 : decode cX9_wrongAt 35 = .ok (.imul, 1) := by decide +kernel
theorem dX9_wrongAt_36 : decode cX9_wrongAt 36 = .ok (.iload_n 2, 1) := by decide +kernel
theorem dX9_wrongAt_37 : decode cX9_wrongAt 37 = .ok (.iadd, 1) := by decide +kernel
theorem dX9_wrongAt_38 : decode cX9_wrongAt 38 = .ok (.iaload, 1) := by decide +kernel
theorem dX9_wrongAt_39 : decode cX9_wrongAt 39 = .ok (.if_icmp .eq 5, 3) := by decide +kernel
theorem dX9_wrongAt_42 : decode cX9_wrongAt 42 = .ok (.iload_n 2, 1) := by decide +kernel
theorem dX9_wrongAt_43 : decode cX9_wrongAt 43 = .ok (.ireturn, 1) := by decide +kernel
theorem dX9_wrongAt_44 : decode cX9_wrongAt 44 = .ok (.aload_n 0, 1) := by decide +kernel
theorem dX9_wrongAt_45 : decode cX9_wrongAt 45 = .ok (.iload_n 3, 1) := by decide +kernel
theorem dX9_wrongAt_46 : decode cX9_wrongAt 46 = .ok (.invokevirtual 302, 3) := by decide +kernel
theorem dX9_wrongAt_49 : decode cX9_wrongAt 49 = .ok (.iinc 2 1, 3) := by decide +kernel
theorem dX9_wrongAt_52 : decode cX9_wrongAt 52 = .ok (.goto (-46), 3) := by decide +kernel
theorem dX9_wrongAt_55 : decode cX9_wrongAt 55 = .ok (.iconst (-1), 1) := by decide +kernel
theorem dX9_wrongAt_56 : decode cX9_wrongAt 56 = .ok (.ireturn, 1) := by decide +kernel
theorem dX9_tellBad_0 : decode cX9_tellBad 0 = .ok (.iload_n 1, 1) := by decide +kernel
theorem dX9_tellBad_1 : decode cX9_tellBad 1 = .ok (.invokestatic 354, 3) := by decide +kernel
theorem dX9_tellBad_4 : decode cX9_tellBad 4 = .ok (.ifCond .ne 6, 3) := by decide +kernel
theorem dX9_tellBad_7 : decode cX9_tellBad 7 = .ok (.bipush (-2), 2) := by decide +kernel
theorem dX9_tellBad_9 : decode cX9_tellBad 9 = .ok (.ireturn, 1) := by decide +kernel
theorem dX9_tellBad_10 : decode cX9_tellBad 10 = .ok (.aload_n 0, 1) := by decide +kernel
theorem dX9_tellBad_11 : decode cX9_tellBad 11 = .ok (.getfield 71, 3) := by decide +kernel
theorem dX9_tellBad_14 : decode cX9_tellBad 14 = .ok (.iload_n 1, 1) := by decide +kernel
theorem dX9_tellBad_15 : decode cX9_tellBad 15 = .ok (.baload, 1) := by decide +kernel
theorem dX9_tellBad_16 : decode cX9_tellBad 16 = .ok (.ifCond .eq 7, 3) := by decide +kernel
theorem dX9_tellBad_19 : decode cX9_tellBad 19 = .ok (.iconst 0, 1) := by decide +kernel
theorem dX9_tellBad_20 : decode cX9_tellBad 20 = .ok (.goto 5, 3) := by decide +kernel
theorem dX9_tellBad_23 : decode cX9_tellBad 23 = .ok (.bipush (-11), 2) := by decide +kernel
theorem dX9_tellBad_25 : decode cX9_tellBad 25 = .ok (.ireturn, 1) := by decide +kernel
theorem dX9_judge_0 : decode cX9_judge 0 = .ok (.aload_n 0, 1) := by decide +kernel
theorem dX9_judge_1 : decode cX9_judge 1 = .ok (.iload_n 1, 1) := by decide +kernel
theorem dX9_judge_2 : decode cX9_judge 2 = .ok (.invokevirtual 357, 3) := by decide +kernel
theorem dX9_judge_5 : decode cX9_judge 5 = .ok (.istore_n 2, 1) := by decide +kernel
theorem dX9_judge_6 : decode cX9_judge 6 = .ok (.iload_n 2, 1) := by decide +kernel
theorem dX9_judge_7 : decode cX9_judge 7 = .ok (.ifCond .eq 7, 3) := by decide +kernel
theorem dX9_judge_10 : decode cX9_judge 10 = .ok (.iload_n 2, 1) := by decide +kernel
theorem dX9_judge_11 : decode cX9_judge 11 = .ok (.goto 8, 3) := by decide +kernel
theorem dX9_judge_14 : decode cX9_judge 14 = .ok (.aload_n 0, 1) := by decide +kernel
theorem dX9_judge_15 : decode cX9_judge 15 = .ok (.iload_n 1, 1) := by decide +kernel
theorem dX9_judge_16 : decode cX9_judge 16 = .ok (.invokevirtual 360, 3) := by decide +kernel
theorem dX9_judge_19 : decode cX9_judge 19 = .ok (.ireturn, 1) := by decide +kernel
theorem dX9_which_0 : decode cX9_which 0 = .ok (.aload_n 0, 1) := by decide +kernel
theorem dX9_which_1 : decode cX9_which 1 = .ok (.iload_n 1, 1) := by decide +kernel
theorem dX9_which_2 : decode cX9_which 2 = .ok (.invokevirtual 357, 3) := by decide +kernel
theorem dX9_which_5 : decode cX9_which 5 = .ok (.istore_n 2, 1) := by decide +kernel
theorem dX9_which_6 : decode cX9_which 6 = .ok (.iload_n 2, 1) := by decide +kernel
theorem dX9_which_7 : decode cX9_which 7 = .ok (.ifCond .eq 5, 3) := by decide +kernel
theorem dX9_which_10 : decode cX9_which 10 = .ok (.iload_n 2, 1) := by decide +kernel
theorem dX9_which_11 : decode cX9_which 11 = .ok (.ireturn, 1) := by decide +kernel
theorem dX9_which_12 : decode cX9_which 12 = .ok (.aload_n 0, 1) := by decide +kernel
theorem dX9_which_13 : decode cX9_which 13 = .ok (.getfield 249, 3) := by decide +kernel
theorem dX9_which_16 : decode cX9_which 16 = .ok (.istore_n 3, 1) := by decide +kernel
theorem dX9_which_17 : decode cX9_which 17 = .ok (.iconst 0, 1) := by decide +kernel
theorem dX9_which_18 : decode cX9_which 18 = .ok (.istore 4, 2) := by decide +kernel
theorem dX9_which_20 : decode cX9_which 20 = .ok (.aload_n 0, 1) := by decide +kernel
theorem dX9_which_21 : decode cX9_which 21 = .ok (.iconst 0, 1) := by decide +kernel
theorem dX9_which_22 : decode cX9_which 22 = .ok (.putfield 249, 3) := by decide +kernel
theorem dX9_which_25 : decode cX9_which 25 = .ok (.aload_n 0, 1) := by decide +kernel
theorem dX9_which_26 : decode cX9_which 26 = .ok (.getfield 249, 3) := by decide +kernel
theorem dX9_which_29 : decode cX9_which 29 = .ok (.aload_n 0, 1) := by decide +kernel
theorem dX9_which_30 : decode cX9_which 30 = .ok (.getfield 88, 3) := by decide +kernel
theorem dX9_which_33 : decode cX9_which 33 = .ok (.if_icmp .ge 40, 3) := by decide +kernel
theorem dX9_which_36 : decode cX9_which 36 = .ok (.iload 4, 2) := by decide +kernel
theorem dX9_which_38 : decode cX9_which 38 = .ok (.aload_n 0, 1) := by decide +kernel
theorem dX9_which_39 : decode cX9_which 39 = .ok (.iload_n 1, 1) := by decide +kernel
theorem dX9_which_40 : decode cX9_which 40 = .ok (.invokevirtual 360, 3) := by decide +kernel
theorem dX9_which_43 : decode cX9_which 43 = .ok (.iconst (-1), 1) := by decide +kernel
theorem dX9_which_44 : decode cX9_which 44 = .ok (.if_icmp .ne 7, 3) := by decide +kernel
theorem dX9_which_47 : decode cX9_which 47 = .ok (.iconst 1, 1) := by decide +kernel
theorem dX9_which_48 : decode cX9_which 48 = .ok (.goto 4, 3) := by decide +kernel
theorem dX9_which_51 : decode cX9_which 51 = .ok (.iconst 0, 1) := by decide +kernel
theorem dX9_which_52 : decode cX9_which 52 = .ok (.aload_n 0, 1) := by decide +kernel
theorem dX9_which_53 : decode cX9_which 53 = .ok (.getfield 249, 3) := by decide +kernel
theorem dX9_which_56 : decode cX9_which 56 = .ok (.ishl, 1) := by decide +kernel
theorem dX9_which_57 : decode cX9_which 57 = .ok (.ior, 1) := by decide +kernel
theorem dX9_which_58 : decode cX9_which 58 = .ok (.istore 4, 2) := by decide +kernel
theorem dX9_which_60 : decode cX9_which 60 = .ok (.aload_n 0, 1) := by decide +kernel
theorem dX9_which_61 : decode cX9_which 61 = .ok (.dup, 1) := by decide +kernel
theorem dX9_which_62 : decode cX9_which 62 = .ok (.getfield 249, 3) := by decide +kernel
theorem dX9_which_65 : decode cX9_which 65 = .ok (.iconst 1, 1) := by decide +kernel
theorem dX9_which_66 : decode cX9_which 66 = .ok (.iadd, 1) := by decide +kernel
theorem dX9_which_67 : decode cX9_which 67 = .ok (.putfield 249, 3) := by decide +kernel
theorem dX9_which_70 : decode cX9_which 70 = .ok (.goto (-45), 3) := by decide +kernel
theorem dX9_which_73 : decode cX9_which 73 = .ok (.aload_n 0, 1) := by decide +kernel
theorem dX9_which_74 : decode cX9_which 74 = .ok (.iload_n 3, 1) := by decide +kernel
theorem dX9_which_75 : decode cX9_which 75 = .ok (.putfield 249, 3) := by decide +kernel
theorem dX9_which_78 : decode cX9_which 78 = .ok (.iload 4, 2) := by decide +kernel
theorem dX9_which_80 : decode cX9_which 80 = .ok (.ireturn, 1) := by decide +kernel
theorem dX9_behind_0 : decode cX9_behind 0 = .ok (.aload_n 0, 1) := by decide +kernel
theorem dX9_behind_1 : decode cX9_behind 1 = .ok (.iconst 0, 1) := by decide +kernel
theorem dX9_behind_2 : decode cX9_behind 2 = .ok (.invokevirtual 351, 3) := by decide +kernel
theorem dX9_behind_5 : decode cX9_behind 5 = .ok (.iconst 0, 1) := by decide +kernel
theorem dX9_behind_6 : decode cX9_behind 6 = .ok (.istore_n 1, 1) := by decide +kernel
theorem dX9_behind_7 : decode cX9_behind 7 = .ok (.iconst 0, 1) := by decide +kernel
theorem dX9_behind_8 : decode cX9_behind 8 = .ok (.istore_n 2, 1) := by decide +kernel
theorem dX9_behind_9 : decode cX9_behind 9 = .ok (.iconst 0, 1) := by decide +kernel
theorem dX9_behind_10 : decode cX9_behind 10 = .ok (.istore_n 3, 1) := by decide +kernel
theorem dX9_behind_11 : decode cX9_behind 11 = .ok (.iload_n 3, 1) := by decide +kernel
theorem dX9_behind_12 : decode cX9_behind 12 = .ok (.aload_n 0, 1) := by decide +kernel
theorem dX9_behind_13 : decode cX9_behind 13 = .ok (.getfield 98, 3) := by decide +kernel
theorem dX9_behind_16 : decode cX9_behind 16 = .ok (.if_icmp .ge 38, 3) := by decide +kernel
theorem dX9_behind_19 : decode cX9_behind 19 = .ok (.iload_n 1, 1) := by decide +kernel
theorem dX9_behind_20 : decode cX9_behind 20 = .ok (.iconst 1, 1) := by decide +kernel
theorem dX9_behind_21 : decode cX9_behind 21 = .ok (.aload_n 0, 1) := by decide +kernel
theorem dX9_behind_22 : decode cX9_behind 22 = .ok (.getfield 38, 3) := by decide +kernel
theorem dX9_behind_25 : decode cX9_behind 25 = .ok (.iload_n 3, 1) := by decide +kernel
theorem dX9_behind_26 : decode cX9_behind 26 = .ok (.iaload, 1) := by decide +kernel
theorem dX9_behind_27 : decode cX9_behind 27 = .ok (.ishl, 1) := by decide +kernel
theorem dX9_behind_28 : decode cX9_behind 28 = .ok (.ior, 1) := by decide +kernel
theorem dX9_behind_29 : decode cX9_behind 29 = .ok (.istore_n 1, 1) := by decide +kernel
theorem dX9_behind_30 : decode cX9_behind 30 = .ok (.iload_n 2, 1) := by decide +kernel
theorem dX9_behind_31 : decode cX9_behind 31 = .ok (.aload_n 0, 1) := by decide +kernel
theorem dX9_behind_32 : decode cX9_behind 32 = .ok (.getfield 274, 3) := by decide +kernel
theorem dX9_behind_35 : decode cX9_behind 35 = .ok (.iload_n 3, 1) := by decide +kernel
theorem dX9_behind_36 : decode cX9_behind 36 = .ok (.ishr, 1) := by decide +kernel
theorem dX9_behind_37 : decode cX9_behind 37 = .ok (.iconst 1, 1) := by decide +kernel
theorem dX9_behind_38 : decode cX9_behind 38 = .ok (.iand, 1) := by decide +kernel
theorem dX9_behind_39 : decode cX9_behind 39 = .ok (.aload_n 0, 1) := by decide +kernel
theorem dX9_behind_40 : decode cX9_behind 40 = .ok (.getfield 38, 3) := by decide +kernel
theorem dX9_behind_43 : decode cX9_behind 43 = .ok (.iload_n 3, 1) := by decide +kernel
theorem dX9_behind_44 : decode cX9_behind 44 = .ok (.iaload, 1) := by decide +kernel
theorem dX9_behind_45 : decode cX9_behind 45 = .ok (.ishl, 1) := by decide +kernel
theorem dX9_behind_46 : decode cX9_behind 46 = .ok (.ior, 1) := by decide +kernel
theorem dX9_behind_47 : decode cX9_behind 47 = .ok (.istore_n 2, 1) := by decide +kernel
theorem dX9_behind_48 : decode cX9_behind 48 = .ok (.iinc 3 1, 3) := by decide +kernel
theorem dX9_behind_51 : decode cX9_behind 51 = .ok (.goto (-40), 3) := by decide +kernel
theorem dX9_behind_54 : decode cX9_behind 54 = .ok (.iload_n 1, 1) := by decide +kernel
theorem dX9_behind_55 : decode cX9_behind 55 = .ok (.iload_n 2, 1) := by decide +kernel
theorem dX9_behind_56 : decode cX9_behind 56 = .ok (.iconst (-1), 1) := by decide +kernel
theorem dX9_behind_57 : decode cX9_behind 57 = .ok (.ixor, 1) := by decide +kernel
theorem dX9_behind_58 : decode cX9_behind 58 = .ok (.iand, 1) := by decide +kernel
theorem dX9_behind_59 : decode cX9_behind 59 = .ok (.ireturn, 1) := by decide +kernel
theorem dX9_draws_0 : decode cX9_draws 0 = .ok (.aload_n 0, 1) := by decide +kernel
theorem dX9_draws_1 : decode cX9_draws 1 = .ok (.invokevirtual 296, 3) := by decide +kernel
theorem dX9_draws_4 : decode cX9_draws 4 = .ok (.iload_n 1, 1) := by decide +kernel
theorem dX9_draws_5 : decode cX9_draws 5 = .ok (.istore_n 2, 1) := by decide +kernel
theorem dX9_draws_6 : decode cX9_draws 6 = .ok (.aload_n 0, 1) := by decide +kernel
theorem dX9_draws_7 : decode cX9_draws 7 = .ok (.getfield 98, 3) := by decide +kernel
theorem dX9_draws_10 : decode cX9_draws 10 = .ok (.istore_n 3, 1) := by decide +kernel
theorem dX9_draws_11 : decode cX9_draws 11 = .ok (.iload_n 3, 1) := by decide +kernel
theorem dX9_draws_12 : decode cX9_draws 12 = .ok (.ifCond .le 83, 3) := by decide +kernel
theorem dX9_draws_15 : decode cX9_draws 15 = .ok (.iload_n 2, 1) := by decide +kernel
theorem dX9_draws_16 : decode cX9_draws 16 = .ok (.ldc_w 363, 3) := by decide +kernel
theorem dX9_draws_19 : decode cX9_draws 19 = .ok (.imul, 1) := by decide +kernel
theorem dX9_draws_20 : decode cX9_draws 20 = .ok (.sipush 12345, 3) := by decide +kernel
theorem dX9_draws_23 : decode cX9_draws 23 = .ok (.iadd, 1) := by decide +kernel
theorem dX9_draws_24 : decode cX9_draws 24 = .ok (.istore_n 2, 1) := by decide +kernel
theorem dX9_draws_25 : decode cX9_draws 25 = .ok (.iload_n 2, 1) := by decide +kernel
theorem dX9_draws_26 : decode cX9_draws 26 = .ok (.bipush 9, 2) := by decide +kernel
theorem dX9_draws_28 : decode cX9_draws 28 = .ok (.iushr, 1) := by decide +kernel
theorem dX9_draws_29 : decode cX9_draws 29 = .ok (.iload_n 3, 1) := by decide +kernel
theorem dX9_draws_30 : decode cX9_draws 30 = .ok (.irem, 1) := by decide +kernel
theorem dX9_draws_31 : decode cX9_draws 31 = .ok (.istore 4, 2) := by decide +kernel
theorem dX9_draws_33 : decode cX9_draws 33 = .ok (.iconst 0, 1) := by decide +kernel
theorem dX9_draws_34 : decode cX9_draws 34 = .ok (.istore 5, 2) := by decide +kernel
theorem dX9_draws_36 : decode cX9_draws 36 = .ok (.aload_n 0, 1) := by decide +kernel
theorem dX9_draws_37 : decode cX9_draws 37 = .ok (.getfield 271, 3) := by decide +kernel
theorem dX9_draws_40 : decode cX9_draws 40 = .ok (.iload 5, 2) := by decide +kernel
theorem dX9_draws_42 : decode cX9_draws 42 = .ok (.ishr, 1) := by decide +kernel
theorem dX9_draws_43 : decode cX9_draws 43 = .ok (.iconst 1, 1) := by decide +kernel
theorem dX9_draws_44 : decode cX9_draws 44 = .ok (.iand, 1) := by decide +kernel
theorem dX9_draws_45 : decode cX9_draws 45 = .ok (.iconst 1, 1) := by decide +kernel
theorem dX9_draws_46 : decode cX9_draws 46 = .ok (.if_icmp .eq 8, 3) := by decide +kernel
theorem dX9_draws_49 : decode cX9_draws 49 = .ok (.iload 4, 2) := by decide +kernel
theorem dX9_draws_51 : decode cX9_draws 51 = .ok (.ifCond .le 32, 3) := by decide +kernel
theorem dX9_draws_54 : decode cX9_draws 54 = .ok (.iload 4, 2) := by decide +kernel
theorem dX9_draws_56 : decode cX9_draws 56 = .ok (.aload_n 0, 1) := by decide +kernel
theorem dX9_draws_57 : decode cX9_draws 57 = .ok (.getfield 271, 3) := by decide +kernel
theorem dX9_draws_60 : decode cX9_draws 60 = .ok (.iload 5, 2) := by decide +kernel
theorem dX9_draws_62 : decode cX9_draws 62 = .ok (.ishr, 1) := by decide +kernel
theorem dX9_draws_63 : decode cX9_draws 63 = .ok (.iconst 1, 1) := by decide +kernel
theorem dX9_draws_64 : decode cX9_draws 64 = .ok (.iand, 1) := by decide +kernel
theorem dX9_draws_65 : decode cX9_draws 65 = .ok (.iconst 1, 1) := by decide +kernel
theorem dX9_draws_66 : decode cX9_draws 66 = .ok (.if_icmp .ne 7, 3) := by decide +kernel
theorem dX9_draws_69 : decode cX9_draws 69 = .ok (.iconst 0, 1) := by decide +kernel
theorem dX9_draws_70 : decode cX9_draws 70 = .ok (.goto 4, 3) := by decide +kernel
theorem dX9_draws_73 : decode cX9_draws 73 = .ok (.iconst 1, 1) := by decide +kernel
theorem dX9_draws_74 : decode cX9_draws 74 = .ok (.isub, 1) := by decide +kernel
theorem dX9_draws_75 : decode cX9_draws 75 = .ok (.istore 4, 2) := by decide +kernel
theorem dX9_draws_77 : decode cX9_draws 77 = .ok (.iinc 5 1, 3) := by decide +kernel
theorem dX9_draws_80 : decode cX9_draws 80 = .ok (.goto (-44), 3) := by decide +kernel
theorem dX9_draws_83 : decode cX9_draws 83 = .ok (.aload_n 0, 1) := by decide +kernel
theorem dX9_draws_84 : decode cX9_draws 84 = .ok (.iload 5, 2) := by decide +kernel
theorem dX9_draws_86 : decode cX9_draws 86 = .ok (.invokevirtual 302, 3) := by decide +kernel
theorem dX9_draws_89 : decode cX9_draws 89 = .ok (.iinc 3 (-1), 3) := by decide +kernel
theorem dX9_draws_92 : decode cX9_draws 92 = .ok (.goto (-81), 3) := by decide +kernel
theorem dX9_draws_95 : decode cX9_draws 95 = .ok (.return_, 1) := by decide +kernel
theorem dX9_drawn_0 : decode cX9_drawn 0 = .ok (.aload_n 0, 1) := by decide +kernel
theorem dX9_drawn_1 : decode cX9_drawn 1 = .ok (.iload_n 1, 1) := by decide +kernel
theorem dX9_drawn_2 : decode cX9_drawn 2 = .ok (.invokevirtual 364, 3) := by decide +kernel
theorem dX9_drawn_5 : decode cX9_drawn 5 = .ok (.aload_n 0, 1) := by decide +kernel
theorem dX9_drawn_6 : decode cX9_drawn 6 = .ok (.getfield 255, 3) := by decide +kernel
theorem dX9_drawn_9 : decode cX9_drawn 9 = .ok (.ireturn, 1) := by decide +kernel
theorem dX9_chance_0 : decode cX9_chance 0 = .ok (.iload_n 2, 1) := by decide +kernel
theorem dX9_chance_1 : decode cX9_chance 1 = .ok (.i2l, 1) := by decide +kernel
theorem dX9_chance_2 : decode cX9_chance 2 = .ok (.lconst 1, 1) := by decide +kernel
theorem dX9_chance_3 : decode cX9_chance 3 = .ok (.ldc2_w 367, 3) := by decide +kernel
theorem dX9_chance_6 : decode cX9_chance 6 = .ok (.invokestatic 94, 3) := by decide +kernel
theorem dX9_chance_9 : decode cX9_chance 9 = .ok (.ifCond .eq 13, 3) := by decide +kernel
theorem dX9_chance_12 : decode cX9_chance 12 = .ok (.iload_n 3, 1) := by decide +kernel
theorem dX9_chance_13 : decode cX9_chance 13 = .ok (.i2l, 1) := by decide +kernel
theorem dX9_chance_14 : decode cX9_chance 14 = .ok (.lconst 0, 1) := by decide +kernel
theorem dX9_chance_15 : decode cX9_chance 15 = .ok (.lconst 1, 1) := by decide +kernel
theorem dX9_chance_16 : decode cX9_chance 16 = .ok (.invokestatic 94, 3) := by decide +kernel
theorem dX9_chance_19 : decode cX9_chance 19 = .ok (.ifCond .ne 7, 3) := by decide +kernel
theorem dX9_chance_22 : decode cX9_chance 22 = .ok (.ldc2_w 369, 3) := by decide +kernel
theorem dX9_chance_25 : decode cX9_chance 25 = .ok (.lreturn, 1) := by decide +kernel
theorem dX9_chance_26 : decode cX9_chance 26 = .ok (.lconst 0, 1) := by decide +kernel
theorem dX9_chance_27 : decode cX9_chance 27 = .ok (.lstore 4, 2) := by decide +kernel
theorem dX9_chance_29 : decode cX9_chance 29 = .ok (.iconst 0, 1) := by decide +kernel
theorem dX9_chance_30 : decode cX9_chance 30 = .ok (.istore 6, 2) := by decide +kernel
theorem dX9_chance_32 : decode cX9_chance 32 = .ok (.iload 6, 2) := by decide +kernel
theorem dX9_chance_34 : decode cX9_chance 34 = .ok (.iload_n 2, 1) := by decide +kernel
theorem dX9_chance_35 : decode cX9_chance 35 = .ok (.if_icmp .ge 34, 3) := by decide +kernel
theorem dX9_chance_38 : decode cX9_chance 38 = .ok (.aload_n 0, 1) := by decide +kernel
theorem dX9_chance_39 : decode cX9_chance 39 = .ok (.iload_n 1, 1) := by decide +kernel
theorem dX9_chance_40 : decode cX9_chance 40 = .ok (.iload 6, 2) := by decide +kernel
theorem dX9_chance_42 : decode cX9_chance 42 = .ok (.iadd, 1) := by decide +kernel
theorem dX9_chance_43 : decode cX9_chance 43 = .ok (.invokevirtual 364, 3) := by decide +kernel
theorem dX9_chance_46 : decode cX9_chance 46 = .ok (.lload 4, 2) := by decide +kernel
theorem dX9_chance_48 : decode cX9_chance 48 = .ok (.aload_n 0, 1) := by decide +kernel
theorem dX9_chance_49 : decode cX9_chance 49 = .ok (.invokevirtual 293, 3) := by decide +kernel
theorem dX9_chance_52 : decode cX9_chance 52 = .ok (.ifCond .ne 7, 3) := by decide +kernel
theorem dX9_chance_55 : decode cX9_chance 55 = .ok (.lconst 1, 1) := by decide +kernel
theorem dX9_chance_56 : decode cX9_chance 56 = .ok (.goto 4, 3) := by decide +kernel
theorem dX9_chance_59 : decode cX9_chance 59 = .ok (.lconst 0, 1) := by decide +kernel
theorem dX9_chance_60 : decode cX9_chance 60 = .ok (.ladd, 1) := by decide +kernel
theorem dX9_chance_61 : decode cX9_chance 61 = .ok (.lstore 4, 2) := by decide +kernel
theorem dX9_chance_63 : decode cX9_chance 63 = .ok (.iinc 6 1, 3) := by decide +kernel
theorem dX9_chance_66 : decode cX9_chance 66 = .ok (.goto (-34), 3) := by decide +kernel
theorem dX9_chance_69 : decode cX9_chance 69 = .ok (.lload 4, 2) := by decide +kernel
theorem dX9_chance_71 : decode cX9_chance 71 = .ok (.lstore 6, 2) := by decide +kernel
theorem dX9_chance_73 : decode cX9_chance 73 = .ok (.iload_n 2, 1) := by decide +kernel
theorem dX9_chance_74 : decode cX9_chance 74 = .ok (.i2l, 1) := by decide +kernel
theorem dX9_chance_75 : decode cX9_chance 75 = .ok (.lstore 8, 2) := by decide +kernel
theorem dX9_chance_77 : decode cX9_chance 77 = .ok (.lload 8, 2) := by decide +kernel
theorem dX9_chance_79 : decode cX9_chance 79 = .ok (.lconst 0, 1) := by decide +kernel
theorem dX9_chance_80 : decode cX9_chance 80 = .ok (.lcmp, 1) := by decide +kernel
theorem dX9_chance_81 : decode cX9_chance 81 = .ok (.ifCond .eq 21, 3) := by decide +kernel
theorem dX9_chance_84 : decode cX9_chance 84 = .ok (.lload 6, 2) := by decide +kernel
theorem dX9_chance_86 : decode cX9_chance 86 = .ok (.lload 8, 2) := by decide +kernel
theorem dX9_chance_88 : decode cX9_chance 88 = .ok (.lrem, 1) := by decide +kernel
theorem dX9_chance_89 : decode cX9_chance 89 = .ok (.lstore 10, 2) := by decide +kernel
theorem dX9_chance_91 : decode cX9_chance 91 = .ok (.lload 8, 2) := by decide +kernel
theorem dX9_chance_93 : decode cX9_chance 93 = .ok (.lstore 6, 2) := by decide +kernel
theorem dX9_chance_95 : decode cX9_chance 95 = .ok (.lload 10, 2) := by decide +kernel
theorem dX9_chance_97 : decode cX9_chance 97 = .ok (.lstore 8, 2) := by decide +kernel
theorem dX9_chance_99 : decode cX9_chance 99 = .ok (.goto (-22), 3) := by decide +kernel
theorem dX9_chance_102 : decode cX9_chance 102 = .ok (.iload_n 3, 1) := by decide +kernel
theorem dX9_chance_103 : decode cX9_chance 103 = .ok (.ifCond .ne 11, 3) := by decide +kernel
theorem dX9_chance_106 : decode cX9_chance 106 = .ok (.lload 4, 2) := by decide +kernel
theorem dX9_chance_108 : decode cX9_chance 108 = .ok (.lload 6, 2) := by decide +kernel
theorem dX9_chance_110 : decode cX9_chance 110 = .ok (.ldiv, 1) := by decide +kernel
theorem dX9_chance_111 : decode cX9_chance 111 = .ok (.goto 8, 3) := by decide +kernel
theorem dX9_chance_114 : decode cX9_chance 114 = .ok (.iload_n 2, 1) := by decide +kernel
theorem dX9_chance_115 : decode cX9_chance 115 = .ok (.i2l, 1) := by decide +kernel
theorem dX9_chance_116 : decode cX9_chance 116 = .ok (.lload 6, 2) := by decide +kernel
theorem dX9_chance_118 : decode cX9_chance 118 = .ok (.ldiv, 1) := by decide +kernel
theorem dX9_chance_119 : decode cX9_chance 119 = .ok (.lreturn, 1) := by decide +kernel
theorem dX9_image_0 : decode cX9_image 0 = .ok (.iconst 0, 1) := by decide +kernel
theorem dX9_image_1 : decode cX9_image 1 = .ok (.istore_n 1, 1) := by decide +kernel
theorem dX9_image_2 : decode cX9_image 2 = .ok (.iload_n 1, 1) := by decide +kernel
theorem dX9_image_3 : decode cX9_image 3 = .ok (.bipush 8, 2) := by decide +kernel
theorem dX9_image_5 : decode cX9_image 5 = .ok (.if_icmp .ge 36, 3) := by decide +kernel
theorem dX9_image_8 : decode cX9_image 8 = .ok (.aload_n 0, 1) := by decide +kernel
theorem dX9_image_9 : decode cX9_image 9 = .ok (.getfield 62, 3) := by decide +kernel
theorem dX9_image_12 : decode cX9_image 12 = .ok (.iload_n 1, 1) := by decide +kernel
theorem dX9_image_13 : decode cX9_image 13 = .ok (.aload_n 0, 1) := by decide +kernel
theorem dX9_image_14 : decode cX9_image 14 = .ok (.getfield 23, 3) := by decide +kernel
theorem dX9_image_17 : decode cX9_image 17 = .ok (.iload_n 1, 1) := by decide +kernel
theorem dX9_image_18 : decode cX9_image 18 = .ok (.iaload, 1) := by decide +kernel
theorem dX9_image_19 : decode cX9_image 19 = .ok (.iastore, 1) := by decide +kernel
theorem dX9_image_20 : decode cX9_image 20 = .ok (.aload_n 0, 1) := by decide +kernel
theorem dX9_image_21 : decode cX9_image 21 = .ok (.getfield 62, 3) := by decide +kernel
theorem dX9_image_24 : decode cX9_image 24 = .ok (.bipush 8, 2) := by decide +kernel
theorem dX9_image_26 : decode cX9_image 26 = .ok (.iload_n 1, 1) := by decide +kernel
theorem dX9_image_27 : decode cX9_image 27 = .ok (.iadd, 1) := by decide +kernel
theorem dX9_image_28 : decode cX9_image 28 = .ok (.aload_n 0, 1) := by decide +kernel
theorem dX9_image_29 : decode cX9_image 29 = .ok (.getfield 26, 3) := by decide +kernel
theorem dX9_image_32 : decode cX9_image 32 = .ok (.iload_n 1, 1) := by decide +kernel
theorem dX9_image_33 : decode cX9_image 33 = .ok (.iaload, 1) := by decide +kernel
theorem dX9_image_34 : decode cX9_image 34 = .ok (.iastore, 1) := by decide +kernel
theorem dX9_image_35 : decode cX9_image 35 = .ok (.iinc 1 1, 3) := by decide +kernel
theorem dX9_image_38 : decode cX9_image 38 = .ok (.goto (-36), 3) := by decide +kernel
theorem dX9_image_41 : decode cX9_image 41 = .ok (.iconst 0, 1) := by decide +kernel
theorem dX9_image_42 : decode cX9_image 42 = .ok (.istore_n 1, 1) := by decide +kernel
theorem dX9_image_43 : decode cX9_image 43 = .ok (.iload_n 1, 1) := by decide +kernel
theorem dX9_image_44 : decode cX9_image 44 = .ok (.bipush 7, 2) := by decide +kernel
theorem dX9_image_46 : decode cX9_image 46 = .ok (.if_icmp .ge 51, 3) := by decide +kernel
theorem dX9_image_49 : decode cX9_image 49 = .ok (.aload_n 0, 1) := by decide +kernel
theorem dX9_image_50 : decode cX9_image 50 = .ok (.getfield 65, 3) := by decide +kernel
theorem dX9_image_53 : decode cX9_image 53 = .ok (.iload_n 1, 1) := by decide +kernel
theorem dX9_image_54 : decode cX9_image 54 = .ok (.aload_n 0, 1) := by decide +kernel
theorem dX9_image_55 : decode cX9_image 55 = .ok (.getfield 32, 3) := by decide +kernel
theorem dX9_image_58 : decode cX9_image 58 = .ok (.iload_n 1, 1) := by decide +kernel
theorem dX9_image_59 : decode cX9_image 59 = .ok (.iaload, 1) := by decide +kernel
theorem dX9_image_60 : decode cX9_image 60 = .ok (.iastore, 1) := by decide +kernel
theorem dX9_image_61 : decode cX9_image 61 = .ok (.aload_n 0, 1) := by decide +kernel
theorem dX9_image_62 : decode cX9_image 62 = .ok (.getfield 65, 3) := by decide +kernel
theorem dX9_image_65 : decode cX9_image 65 = .ok (.bipush 7, 2) := by decide +kernel
theorem dX9_image_67 : decode cX9_image 67 = .ok (.iload_n 1, 1) := by decide +kernel
theorem dX9_image_68 : decode cX9_image 68 = .ok (.iadd, 1) := by decide +kernel
theorem dX9_image_69 : decode cX9_image 69 = .ok (.aload_n 0, 1) := by decide +kernel
theorem dX9_image_70 : decode cX9_image 70 = .ok (.getfield 35, 3) := by decide +kernel
theorem dX9_image_73 : decode cX9_image 73 = .ok (.iload_n 1, 1) := by decide +kernel
theorem dX9_image_74 : decode cX9_image 74 = .ok (.iaload, 1) := by decide +kernel
theorem dX9_image_75 : decode cX9_image 75 = .ok (.iastore, 1) := by decide +kernel
theorem dX9_image_76 : decode cX9_image 76 = .ok (.aload_n 0, 1) := by decide +kernel
theorem dX9_image_77 : decode cX9_image 77 = .ok (.getfield 65, 3) := by decide +kernel
theorem dX9_image_80 : decode cX9_image 80 = .ok (.bipush 14, 2) := by decide +kernel
theorem dX9_image_82 : decode cX9_image 82 = .ok (.iload_n 1, 1) := by decide +kernel
theorem dX9_image_83 : decode cX9_image 83 = .ok (.iadd, 1) := by decide +kernel
theorem dX9_image_84 : decode cX9_image 84 = .ok (.aload_n 0, 1) := by decide +kernel
theorem dX9_image_85 : decode cX9_image 85 = .ok (.getfield 38, 3) := by decide +kernel
theorem dX9_image_88 : decode cX9_image 88 = .ok (.iload_n 1, 1) := by decide +kernel
theorem dX9_image_89 : decode cX9_image 89 = .ok (.iaload, 1) := by decide +kernel
theorem dX9_image_90 : decode cX9_image 90 = .ok (.iastore, 1) := by decide +kernel
theorem dX9_image_91 : decode cX9_image 91 = .ok (.iinc 1 1, 3) := by decide +kernel
theorem dX9_image_94 : decode cX9_image 94 = .ok (.goto (-51), 3) := by decide +kernel
theorem dX9_image_97 : decode cX9_image 97 = .ok (.aload_n 0, 1) := by decide +kernel
theorem dX9_image_98 : decode cX9_image 98 = .ok (.aload_n 0, 1) := by decide +kernel
theorem dX9_image_99 : decode cX9_image 99 = .ok (.getfield 98, 3) := by decide +kernel
theorem dX9_image_102 : decode cX9_image 102 = .ok (.putfield 68, 3) := by decide +kernel
theorem dX9_image_105 : decode cX9_image 105 = .ok (.aload_n 0, 1) := by decide +kernel
theorem dX9_image_106 : decode cX9_image 106 = .ok (.aload_n 0, 1) := by decide +kernel
theorem dX9_image_107 : decode cX9_image 107 = .ok (.getfield 91, 3) := by decide +kernel
theorem dX9_image_110 : decode cX9_image 110 = .ok (.putfield 371, 3) := by decide +kernel
theorem dX9_image_113 : decode cX9_image 113 = .ok (.aload_n 0, 1) := by decide +kernel
theorem dX9_image_114 : decode cX9_image 114 = .ok (.aload_n 0, 1) := by decide +kernel
theorem dX9_image_115 : decode cX9_image 115 = .ok (.getfield 127, 3) := by decide +kernel
theorem dX9_image_118 : decode cX9_image 118 = .ok (.putfield 374, 3) := by decide +kernel
theorem dX9_image_121 : decode cX9_image 121 = .ok (.aload_n 0, 1) := by decide +kernel
theorem dX9_image_122 : decode cX9_image 122 = .ok (.aload_n 0, 1) := by decide +kernel
theorem dX9_image_123 : decode cX9_image 123 = .ok (.getfield 41, 3) := by decide +kernel
theorem dX9_image_126 : decode cX9_image 126 = .ok (.putfield 377, 3) := by decide +kernel
theorem dX9_image_129 : decode cX9_image 129 = .ok (.aload_n 0, 1) := by decide +kernel
theorem dX9_image_130 : decode cX9_image 130 = .ok (.aload_n 0, 1) := by decide +kernel
theorem dX9_image_131 : decode cX9_image 131 = .ok (.getfield 249, 3) := by decide +kernel
theorem dX9_image_134 : decode cX9_image 134 = .ok (.putfield 380, 3) := by decide +kernel
theorem dX9_image_137 : decode cX9_image 137 = .ok (.aload_n 0, 1) := by decide +kernel
theorem dX9_image_138 : decode cX9_image 138 = .ok (.getfield 98, 3) := by decide +kernel
theorem dX9_image_141 : decode cX9_image 141 = .ok (.ireturn, 1) := by decide +kernel
theorem dX9_back_0 : decode cX9_back 0 = .ok (.aload_n 0, 1) := by decide +kernel
theorem dX9_back_1 : decode cX9_back 1 = .ok (.getfield 68, 3) := by decide +kernel
theorem dX9_back_4 : decode cX9_back 4 = .ok (.iconst (-1), 1) := by decide +kernel
theorem dX9_back_5 : decode cX9_back 5 = .ok (.if_icmp .ne 6, 3) := by decide +kernel
theorem dX9_back_8 : decode cX9_back 8 = .ok (.bipush (-3), 2) := by decide +kernel
theorem dX9_back_10 : decode cX9_back 10 = .ok (.ireturn, 1) := by decide +kernel
theorem dX9_back_11 : decode cX9_back 11 = .ok (.iconst 0, 1) := by decide +kernel
theorem dX9_back_12 : decode cX9_back 12 = .ok (.istore_n 1, 1) := by decide +kernel
theorem dX9_back_13 : decode cX9_back 13 = .ok (.iload_n 1, 1) := by decide +kernel
theorem dX9_back_14 : decode cX9_back 14 = .ok (.bipush 8, 2) := by decide +kernel
theorem dX9_back_16 : decode cX9_back 16 = .ok (.if_icmp .ge 36, 3) := by decide +kernel
theorem dX9_back_19 : decode cX9_back 19 = .ok (.aload_n 0, 1) := by decide +kernel
theorem dX9_back_20 : decode cX9_back 20 = .ok (.getfield 23, 3) := by decide +kernel
theorem dX9_back_23 : decode cX9_back 23 = .ok (.iload_n 1, 1) := by decide +kernel
theorem dX9_back_24 : decode cX9_back 24 = .ok (.aload_n 0, 1) := by decide +kernel
theorem dX9_back_25 : decode cX9_back 25 = .ok (.getfield 62, 3) := by decide +kernel
theorem dX9_back_28 : decode cX9_back 28 = .ok (.iload_n 1, 1) := by decide +kernel
theorem dX9_back_29 : decode cX9_back 29 = .ok (.iaload, 1) := by decide +kernel
theorem dX9_back_30 : decode cX9_back 30 = .ok (.iastore, 1) := by decide +kernel
theorem dX9_back_31 : decode cX9_back 31 = .ok (.aload_n 0, 1) := by decide +kernel
theorem dX9_back_32 : decode cX9_back 32 = .ok (.getfield 26, 3) := by decide +kernel
theorem dX9_back_35 : decode cX9_back 35 = .ok (.iload_n 1, 1) := by decide +kernel
theorem dX9_back_36 : decode cX9_back 36 = .ok (.aload_n 0, 1) := by decide +kernel
theorem dX9_back_37 : decode cX9_back 37 = .ok (.getfield 62, 3) := by decide +kernel
theorem dX9_back_40 : decode cX9_back 40 = .ok (.bipush 8, 2) := by decide +kernel
theorem dX9_back_42 : decode cX9_back 42 = .ok (.iload_n 1, 1) := by decide +kernel
theorem dX9_back_43 : decode cX9_back 43 = .ok (.iadd, 1) := by decide +kernel
theorem dX9_back_44 : decode cX9_back 44 = .ok (.iaload, 1) := by decide +kernel
theorem dX9_back_45 : decode cX9_back 45 = .ok (.iastore, 1) := by decide +kernel
theorem dX9_back_46 : decode cX9_back 46 = .ok (.iinc 1 1, 3) := by decide +kernel
theorem dX9_back_49 : decode cX9_back 49 = .ok (.goto (-36), 3) := by decide +kernel
theorem dX9_back_52 : decode cX9_back 52 = .ok (.iconst 0, 1) := by decide +kernel
theorem dX9_back_53 : decode cX9_back 53 = .ok (.istore_n 1, 1) := by decide +kernel
theorem dX9_back_54 : decode cX9_back 54 = .ok (.iload_n 1, 1) := by decide +kernel
theorem dX9_back_55 : decode cX9_back 55 = .ok (.bipush 7, 2) := by decide +kernel
theorem dX9_back_57 : decode cX9_back 57 = .ok (.if_icmp .ge 51, 3) := by decide +kernel
theorem dX9_back_60 : decode cX9_back 60 = .ok (.aload_n 0, 1) := by decide +kernel
theorem dX9_back_61 : decode cX9_back 61 = .ok (.getfield 32, 3) := by decide +kernel
theorem dX9_back_64 : decode cX9_back 64 = .ok (.iload_n 1, 1) := by decide +kernel
theorem dX9_back_65 : decode cX9_back 65 = .ok (.aload_n 0, 1) := by decide +kernel
theorem dX9_back_66 : decode cX9_back 66 = .ok (.getfield 65, 3) := by decide +kernel
theorem dX9_back_69 : decode cX9_back 69 = .ok (.iload_n 1, 1) := by decide +kernel
theorem dX9_back_70 : decode cX9_back 70 = .ok (.iaload, 1) := by decide +kernel
theorem dX9_back_71 : decode cX9_back 71 = .ok (.iastore, 1) := by decide +kernel
theorem dX9_back_72 : decode cX9_back 72 = .ok (.aload_n 0, 1) := by decide +kernel
theorem dX9_back_73 : decode cX9_back 73 = .ok (.getfield 35, 3) := by decide +kernel
theorem dX9_back_76 : decode cX9_back 76 = .ok (.iload_n 1, 1) := by decide +kernel
theorem dX9_back_77 : decode cX9_back 77 = .ok (.aload_n 0, 1) := by decide +kernel
theorem dX9_back_78 : decode cX9_back 78 = .ok (.getfield 65, 3) := by decide +kernel
theorem dX9_back_81 : decode cX9_back 81 = .ok (.bipush 7, 2) := by decide +kernel
theorem dX9_back_83 : decode cX9_back 83 = .ok (.iload_n 1, 1) := by decide +kernel
theorem dX9_back_84 : decode cX9_back 84 = .ok (.iadd, 1) := by decide +kernel
theorem dX9_back_85 : decode cX9_back 85 = .ok (.iaload, 1) := by decide +kernel
theorem dX9_back_86 : decode cX9_back 86 = .ok (.iastore, 1) := by decide +kernel
theorem dX9_back_87 : decode cX9_back 87 = .ok (.aload_n 0, 1) := by decide +kernel
theorem dX9_back_88 : decode cX9_back 88 = .ok (.getfield 38, 3) := by decide +kernel
theorem dX9_back_91 : decode cX9_back 91 = .ok (.iload_n 1, 1) := by decide +kernel
theorem dX9_back_92 : decode cX9_back 92 = .ok (.aload_n 0, 1) := by decide +kernel
theorem dX9_back_93 : decode cX9_back 93 = .ok (.getfield 65, 3) := by decide +kernel
theorem dX9_back_96 : decode cX9_back 96 = .ok (.bipush 14, 2) := by decide +kernel
theorem dX9_back_98 : decode cX9_back 98 = .ok (.iload_n 1, 1) := by decide +kernel
theorem dX9_back_99 : decode cX9_back 99 = .ok (.iadd, 1) := by decide +kernel
theorem dX9_back_100 : decode cX9_back 100 = .ok (.iaload, 1) := by decide +kernel
theorem dX9_back_101 : decode cX9_back 101 = .ok (.iastore, 1) := by decide +kernel
theorem dX9_back_102 : decode cX9_back 102 = .ok (.iinc 1 1, 3) := by decide +kernel
theorem dX9_back_105 : decode cX9_back 105 = .ok (.goto (-51), 3) := by decide +kernel
theorem dX9_back_108 : decode cX9_back 108 = .ok (.aload_n 0, 1) := by decide +kernel
theorem dX9_back_109 : decode cX9_back 109 = .ok (.aload_n 0, 1) := by decide +kernel
theorem dX9_back_110 : decode cX9_back 110 = .ok (.getfield 68, 3) := by decide +kernel
theorem dX9_back_113 : decode cX9_back 113 = .ok (.putfield 98, 3) := by decide +kernel
theorem dX9_back_116 : decode cX9_back 116 = .ok (.aload_n 0, 1) := by decide +kernel
theorem dX9_back_117 : decode cX9_back 117 = .ok (.aload_n 0, 1) := by decide +kernel
theorem dX9_back_118 : decode cX9_back 118 = .ok (.getfield 371, 3) := by decide +kernel
theorem dX9_back_121 : decode cX9_back 121 = .ok (.putfield 91, 3) := by decide +kernel
theorem dX9_back_124 : decode cX9_back 124 = .ok (.aload_n 0, 1) := by decide +kernel
theorem dX9_back_125 : decode cX9_back 125 = .ok (.aload_n 0, 1) := by decide +kernel
theorem dX9_back_126 : decode cX9_back 126 = .ok (.getfield 374, 3) := by decide +kernel
theorem dX9_back_129 : decode cX9_back 129 = .ok (.putfield 127, 3) := by decide +kernel
theorem dX9_back_132 : decode cX9_back 132 = .ok (.aload_n 0, 1) := by decide +kernel
theorem dX9_back_133 : decode cX9_back 133 = .ok (.aload_n 0, 1) := by decide +kernel
theorem dX9_back_134 : decode cX9_back 134 = .ok (.getfield 377, 3) := by decide +kernel
theorem dX9_back_137 : decode cX9_back 137 = .ok (.putfield 41, 3) := by decide +kernel
theorem dX9_back_140 : decode cX9_back 140 = .ok (.aload_n 0, 1) := by decide +kernel
theorem dX9_back_141 : decode cX9_back 141 = .ok (.aload_n 0, 1) := by decide +kernel
theorem dX9_back_142 : decode cX9_back 142 = .ok (.getfield 380, 3) := by decide +kernel
theorem dX9_back_145 : decode cX9_back 145 = .ok (.putfield 249, 3) := by decide +kernel
theorem dX9_back_148 : decode cX9_back 148 = .ok (.aload_n 0, 1) := by decide +kernel
theorem dX9_back_149 : decode cX9_back 149 = .ok (.getfield 98, 3) := by decide +kernel
theorem dX9_back_152 : decode cX9_back 152 = .ok (.ireturn, 1) := by decide +kernel
theorem dX9_count_0 : decode cX9_count 0 = .ok (.iload_n 1, 1) := by decide +kernel
theorem dX9_count_1 : decode cX9_count 1 = .ok (.i2l, 1) := by decide +kernel
theorem dX9_count_2 : decode cX9_count 2 = .ok (.lconst 0, 1) := by decide +kernel
theorem dX9_count_3 : decode cX9_count 3 = .ok (.ldc2_w 113, 3) := by decide +kernel
theorem dX9_count_6 : decode cX9_count 6 = .ok (.invokestatic 94, 3) := by decide +kernel
theorem dX9_count_9 : decode cX9_count 9 = .ok (.ifCond .ne 6, 3) := by decide +kernel
theorem dX9_count_12 : decode cX9_count 12 = .ok (.bipush (-2), 2) := by decide +kernel
theorem dX9_count_14 : decode cX9_count 14 = .ok (.ireturn, 1) := by decide +kernel
theorem dX9_count_15 : decode cX9_count 15 = .ok (.iload_n 1, 1) := by decide +kernel
theorem dX9_count_16 : decode cX9_count 16 = .ok (.iconst 4, 1) := by decide +kernel
theorem dX9_count_17 : decode cX9_count 17 = .ok (.if_icmp .ge 46, 3) := by decide +kernel
theorem dX9_count_20 : decode cX9_count 20 = .ok (.iload_n 1, 1) := by decide +kernel
theorem dX9_count_21 : decode cX9_count 21 = .ok (.ifCond .ne 10, 3) := by decide +kernel
theorem dX9_count_24 : decode cX9_count 24 = .ok (.aload_n 0, 1) := by decide +kernel
theorem dX9_count_25 : decode cX9_count 25 = .ok (.getfield 91, 3) := by decide +kernel
theorem dX9_count_28 : decode cX9_count 28 = .ok (.goto 34, 3) := by decide +kernel
theorem dX9_count_31 : decode cX9_count 31 = .ok (.iload_n 1, 1) := by decide +kernel
theorem dX9_count_32 : decode cX9_count 32 = .ok (.iconst 1, 1) := by decide +kernel
theorem dX9_count_33 : decode cX9_count 33 = .ok (.if_icmp .ne 10, 3) := by decide +kernel
theorem dX9_count_36 : decode cX9_count 36 = .ok (.aload_n 0, 1) := by decide +kernel
theorem dX9_count_37 : decode cX9_count 37 = .ok (.getfield 98, 3) := by decide +kernel
theorem dX9_count_40 : decode cX9_count 40 = .ok (.goto 22, 3) := by decide +kernel
theorem dX9_count_43 : decode cX9_count 43 = .ok (.iload_n 1, 1) := by decide +kernel
theorem dX9_count_44 : decode cX9_count 44 = .ok (.iconst 2, 1) := by decide +kernel
theorem dX9_count_45 : decode cX9_count 45 = .ok (.if_icmp .ne 13, 3) := by decide +kernel
theorem dX9_count_48 : decode cX9_count 48 = .ok (.aload_n 0, 1) := by decide +kernel
theorem dX9_count_49 : decode cX9_count 49 = .ok (.getfield 127, 3) := by decide +kernel
theorem dX9_count_52 : decode cX9_count 52 = .ok (.bipush 99, 2) := by decide +kernel
theorem dX9_count_54 : decode cX9_count 54 = .ok (.iadd, 1) := by decide +kernel
theorem dX9_count_55 : decode cX9_count 55 = .ok (.goto 7, 3) := by decide +kernel
theorem dX9_count_58 : decode cX9_count 58 = .ok (.aload_n 0, 1) := by decide +kernel
theorem dX9_count_59 : decode cX9_count 59 = .ok (.getfield 41, 3) := by decide +kernel
theorem dX9_count_62 : decode cX9_count 62 = .ok (.ireturn, 1) := by decide +kernel
theorem dX9_count_63 : decode cX9_count 63 = .ok (.iload_n 1, 1) := by decide +kernel
theorem dX9_count_64 : decode cX9_count 64 = .ok (.iconst 4, 1) := by decide +kernel
theorem dX9_count_65 : decode cX9_count 65 = .ok (.if_icmp .ne 10, 3) := by decide +kernel
theorem dX9_count_68 : decode cX9_count 68 = .ok (.aload_n 0, 1) := by decide +kernel
theorem dX9_count_69 : decode cX9_count 69 = .ok (.getfield 88, 3) := by decide +kernel
theorem dX9_count_72 : decode cX9_count 72 = .ok (.goto 19, 3) := by decide +kernel
theorem dX9_count_75 : decode cX9_count 75 = .ok (.iload_n 1, 1) := by decide +kernel
theorem dX9_count_76 : decode cX9_count 76 = .ok (.iconst 5, 1) := by decide +kernel
theorem dX9_count_77 : decode cX9_count 77 = .ok (.if_icmp .ne 10, 3) := by decide +kernel
theorem dX9_count_80 : decode cX9_count 80 = .ok (.aload_n 0, 1) := by decide +kernel
theorem dX9_count_81 : decode cX9_count 81 = .ok (.getfield 132, 3) := by decide +kernel
theorem dX9_count_84 : decode cX9_count 84 = .ok (.goto 7, 3) := by decide +kernel
theorem dX9_count_87 : decode cX9_count 87 = .ok (.aload_n 0, 1) := by decide +kernel
theorem dX9_count_88 : decode cX9_count 88 = .ok (.getfield 249, 3) := by decide +kernel
theorem dX9_count_91 : decode cX9_count 91 = .ok (.ireturn, 1) := by decide +kernel
theorem dX9_isSheet_0 : decode cX9_isSheet 0 = .ok (.iload_n 0, 1) := by decide +kernel
theorem dX9_isSheet_1 : decode cX9_isSheet 1 = .ok (.i2l, 1) := by decide +kernel
theorem dX9_isSheet_2 : decode cX9_isSheet 2 = .ok (.lconst 0, 1) := by decide +kernel
theorem dX9_isSheet_3 : decode cX9_isSheet 3 = .ok (.ldc2_w 340, 3) := by decide +kernel
theorem dX9_isSheet_6 : decode cX9_isSheet 6 = .ok (.invokestatic 94, 3) := by decide +kernel
theorem dX9_isSheet_9 : decode cX9_isSheet 9 = .ok (.ireturn, 1) := by decide +kernel
theorem dX9_sheet_0 : decode cX9_sheet 0 = .ok (.iload_n 1, 1) := by decide +kernel
theorem dX9_sheet_1 : decode cX9_sheet 1 = .ok (.invokestatic 354, 3) := by decide +kernel
theorem dX9_sheet_4 : decode cX9_sheet 4 = .ok (.ifCond .eq 27, 3) := by decide +kernel
theorem dX9_sheet_7 : decode cX9_sheet 7 = .ok (.iload_n 2, 1) := by decide +kernel
theorem dX9_sheet_8 : decode cX9_sheet 8 = .ok (.i2l, 1) := by decide +kernel
theorem dX9_sheet_9 : decode cX9_sheet 9 = .ok (.ldc2_w 383, 3) := by decide +kernel
theorem dX9_sheet_12 : decode cX9_sheet 12 = .ok (.ldc2_w 115, 3) := by decide +kernel
theorem dX9_sheet_15 : decode cX9_sheet 15 = .ok (.invokestatic 94, 3) := by decide +kernel
theorem dX9_sheet_18 : decode cX9_sheet 18 = .ok (.ifCond .eq 13, 3) := by decide +kernel
theorem dX9_sheet_21 : decode cX9_sheet 21 = .ok (.iload_n 2, 1) := by decide +kernel
theorem dX9_sheet_22 : decode cX9_sheet 22 = .ok (.ifCond .lt 12, 3) := by decide +kernel
theorem dX9_sheet_25 : decode cX9_sheet 25 = .ok (.iload_n 3, 1) := by decide +kernel
theorem dX9_sheet_26 : decode cX9_sheet 26 = .ok (.bipush 40, 2) := by decide +kernel
theorem dX9_sheet_28 : decode cX9_sheet 28 = .ok (.if_icmp .le 6, 3) := by decide +kernel
theorem dX9_sheet_31 : decode cX9_sheet 31 = .ok (.bipush (-2), 2) := by decide +kernel
theorem dX9_sheet_33 : decode cX9_sheet 33 = .ok (.ireturn, 1) := by decide +kernel
theorem dX9_sheet_34 : decode cX9_sheet 34 = .ok (.iload_n 2, 1) := by decide +kernel
theorem dX9_sheet_35 : decode cX9_sheet 35 = .ok (.ifCond .lt 10, 3) := by decide +kernel
theorem dX9_sheet_38 : decode cX9_sheet 38 = .ok (.iload_n 3, 1) := by decide +kernel
theorem dX9_sheet_39 : decode cX9_sheet 39 = .ok (.ifCond .ge 6, 3) := by decide +kernel
theorem dX9_sheet_42 : decode cX9_sheet 42 = .ok (.bipush (-14), 2) := by decide +kernel
theorem dX9_sheet_44 : decode cX9_sheet 44 = .ok (.ireturn, 1) := by decide +kernel
theorem dX9_sheet_45 : decode cX9_sheet 45 = .ok (.aload_n 0, 1) := by decide +kernel
theorem dX9_sheet_46 : decode cX9_sheet 46 = .ok (.getfield 71, 3) := by decide +kernel
theorem dX9_sheet_49 : decode cX9_sheet 49 = .ok (.iload_n 1, 1) := by decide +kernel
theorem dX9_sheet_50 : decode cX9_sheet 50 = .ok (.iload_n 2, 1) := by decide +kernel
theorem dX9_sheet_51 : decode cX9_sheet 51 = .ok (.ifCond .lt 7, 3) := by decide +kernel
theorem dX9_sheet_54 : decode cX9_sheet 54 = .ok (.iconst 1, 1) := by decide +kernel
theorem dX9_sheet_55 : decode cX9_sheet 55 = .ok (.goto 4, 3) := by decide +kernel
theorem dX9_sheet_58 : decode cX9_sheet 58 = .ok (.iconst 0, 1) := by decide +kernel
theorem dX9_sheet_59 : decode cX9_sheet 59 = .ok (.bastore, 1) := by decide +kernel
theorem dX9_sheet_60 : decode cX9_sheet 60 = .ok (.aload_n 0, 1) := by decide +kernel
theorem dX9_sheet_61 : decode cX9_sheet 61 = .ok (.getfield 75, 3) := by decide +kernel
theorem dX9_sheet_64 : decode cX9_sheet 64 = .ok (.iload_n 1, 1) := by decide +kernel
theorem dX9_sheet_65 : decode cX9_sheet 65 = .ok (.iload_n 2, 1) := by decide +kernel
theorem dX9_sheet_66 : decode cX9_sheet 66 = .ok (.iastore, 1) := by decide +kernel
theorem dX9_sheet_67 : decode cX9_sheet 67 = .ok (.aload_n 0, 1) := by decide +kernel
theorem dX9_sheet_68 : decode cX9_sheet 68 = .ok (.getfield 78, 3) := by decide +kernel
theorem dX9_sheet_71 : decode cX9_sheet 71 = .ok (.iload_n 1, 1) := by decide +kernel
theorem dX9_sheet_72 : decode cX9_sheet 72 = .ok (.iload_n 3, 1) := by decide +kernel
theorem dX9_sheet_73 : decode cX9_sheet 73 = .ok (.iastore, 1) := by decide +kernel
theorem dX9_sheet_74 : decode cX9_sheet 74 = .ok (.iconst 0, 1) := by decide +kernel
theorem dX9_sheet_75 : decode cX9_sheet 75 = .ok (.istore 4, 2) := by decide +kernel
theorem dX9_sheet_77 : decode cX9_sheet 77 = .ok (.iload 4, 2) := by decide +kernel
theorem dX9_sheet_79 : decode cX9_sheet 79 = .ok (.iload_n 3, 1) := by decide +kernel
theorem dX9_sheet_80 : decode cX9_sheet 80 = .ok (.if_icmp .ge 26, 3) := by decide +kernel
theorem dX9_sheet_83 : decode cX9_sheet 83 = .ok (.iload_n 2, 1) := by decide +kernel
theorem dX9_sheet_84 : decode cX9_sheet 84 = .ok (.ifCond .lt 22, 3) := by decide +kernel
theorem dX9_sheet_87 : decode cX9_sheet 87 = .ok (.aload_n 0, 1) := by decide +kernel
theorem dX9_sheet_88 : decode cX9_sheet 88 = .ok (.getfield 81, 3) := by decide +kernel
theorem dX9_sheet_91 : decode cX9_sheet 91 = .ok (.bipush 40, 2) := by decide +kernel
theorem dX9_sheet_93 : decode cX9_sheet 93 = .ok (.iload_n 1, 1) := by decide +kernel
theorem dX9_sheet_94 : decode cX9_sheet 94 = .ok (.imul, 1) := by decide +kernel
theorem dX9_sheet_95 : decode cX9_sheet 95 = .ok (.iload 4, 2) := by decide +kernel
theorem dX9_sheet_97 : decode cX9_sheet 97 = .ok (.iadd, 1) := by decide +kernel
theorem dX9_sheet_98 : decode cX9_sheet 98 = .ok (.iconst 0, 1) := by decide +kernel
theorem dX9_sheet_99 : decode cX9_sheet 99 = .ok (.iastore, 1) := by decide +kernel
theorem dX9_sheet_100 : decode cX9_sheet 100 = .ok (.iinc 4 1, 3) := by decide +kernel
theorem dX9_sheet_103 : decode cX9_sheet 103 = .ok (.goto (-26), 3) := by decide +kernel
theorem dX9_sheet_106 : decode cX9_sheet 106 = .ok (.iconst 1, 1) := by decide +kernel
theorem dX9_sheet_107 : decode cX9_sheet 107 = .ok (.ireturn, 1) := by decide +kernel
theorem dX9_cell_0 : decode cX9_cell 0 = .ok (.iload_n 1, 1) := by decide +kernel
theorem dX9_cell_1 : decode cX9_cell 1 = .ok (.invokestatic 354, 3) := by decide +kernel
theorem dX9_cell_4 : decode cX9_cell 4 = .ok (.ifCond .ne 6, 3) := by decide +kernel
theorem dX9_cell_7 : decode cX9_cell 7 = .ok (.bipush (-2), 2) := by decide +kernel
theorem dX9_cell_9 : decode cX9_cell 9 = .ok (.ireturn, 1) := by decide +kernel
theorem dX9_cell_10 : decode cX9_cell 10 = .ok (.aload_n 0, 1) := by decide +kernel
theorem dX9_cell_11 : decode cX9_cell 11 = .ok (.getfield 71, 3) := by decide +kernel
theorem dX9_cell_14 : decode cX9_cell 14 = .ok (.iload_n 1, 1) := by decide +kernel
theorem dX9_cell_15 : decode cX9_cell 15 = .ok (.baload, 1) := by decide +kernel
theorem dX9_cell_16 : decode cX9_cell 16 = .ok (.ifCond .ne 6, 3) := by decide +kernel
theorem dX9_cell_19 : decode cX9_cell 19 = .ok (.bipush (-11), 2) := by decide +kernel
theorem dX9_cell_21 : decode cX9_cell 21 = .ok (.ireturn, 1) := by decide +kernel
theorem dX9_cell_22 : decode cX9_cell 22 = .ok (.iload_n 2, 1) := by decide +kernel
theorem dX9_cell_23 : decode cX9_cell 23 = .ok (.i2l, 1) := by decide +kernel
theorem dX9_cell_24 : decode cX9_cell 24 = .ok (.lconst 0, 1) := by decide +kernel
theorem dX9_cell_25 : decode cX9_cell 25 = .ok (.aload_n 0, 1) := by decide +kernel
theorem dX9_cell_26 : decode cX9_cell 26 = .ok (.getfield 78, 3) := by decide +kernel
theorem dX9_cell_29 : decode cX9_cell 29 = .ok (.iload_n 1, 1) := by decide +kernel
theorem dX9_cell_30 : decode cX9_cell 30 = .ok (.iaload, 1) := by decide +kernel
theorem dX9_cell_31 : decode cX9_cell 31 = .ok (.iconst 1, 1) := by decide +kernel
theorem dX9_cell_32 : decode cX9_cell 32 = .ok (.isub, 1) := by decide +kernel
theorem dX9_cell_33 : decode cX9_cell 33 = .ok (.i2l, 1) := by decide +kernel
theorem dX9_cell_34 : decode cX9_cell 34 = .ok (.invokestatic 94, 3) := by decide +kernel
theorem dX9_cell_37 : decode cX9_cell 37 = .ok (.ifCond .ne 6, 3) := by decide +kernel
theorem dX9_cell_40 : decode cX9_cell 40 = .ok (.bipush (-12), 2) := by decide +kernel
theorem dX9_cell_42 : decode cX9_cell 42 = .ok (.ireturn, 1) := by decide +kernel
theorem dX9_cell_43 : decode cX9_cell 43 = .ok (.aload_n 0, 1) := by decide +kernel
theorem dX9_cell_44 : decode cX9_cell 44 = .ok (.getfield 81, 3) := by decide +kernel
theorem dX9_cell_47 : decode cX9_cell 47 = .ok (.bipush 40, 2) := by decide +kernel
theorem dX9_cell_49 : decode cX9_cell 49 = .ok (.iload_n 1, 1) := by decide +kernel
theorem dX9_cell_50 : decode cX9_cell 50 = .ok (.imul, 1) := by decide +kernel
theorem dX9_cell_51 : decode cX9_cell 51 = .ok (.iload_n 2, 1) := by decide +kernel
theorem dX9_cell_52 : decode cX9_cell 52 = .ok (.iadd, 1) := by decide +kernel
theorem dX9_cell_53 : decode cX9_cell 53 = .ok (.aload_n 0, 1) := by decide +kernel
theorem dX9_cell_54 : decode cX9_cell 54 = .ok (.getfield 75, 3) := by decide +kernel
theorem dX9_cell_57 : decode cX9_cell 57 = .ok (.iload_n 1, 1) := by decide +kernel
theorem dX9_cell_58 : decode cX9_cell 58 = .ok (.iaload, 1) := by decide +kernel
theorem dX9_cell_59 : decode cX9_cell 59 = .ok (.ifCond .ne 8, 3) := by decide +kernel
theorem dX9_cell_62 : decode cX9_cell 62 = .ok (.iload_n 3, 1) := by decide +kernel
theorem dX9_cell_63 : decode cX9_cell 63 = .ok (.i2b, 1) := by decide +kernel
theorem dX9_cell_64 : decode cX9_cell 64 = .ok (.goto 19, 3) := by decide +kernel
theorem dX9_cell_67 : decode cX9_cell 67 = .ok (.aload_n 0, 1) := by decide +kernel
theorem dX9_cell_68 : decode cX9_cell 68 = .ok (.getfield 75, 3) := by decide +kernel
theorem dX9_cell_71 : decode cX9_cell 71 = .ok (.iload_n 1, 1) := by decide +kernel
theorem dX9_cell_72 : decode cX9_cell 72 = .ok (.iaload, 1) := by decide +kernel
theorem dX9_cell_73 : decode cX9_cell 73 = .ok (.iconst 1, 1) := by decide +kernel
theorem dX9_cell_74 : decode cX9_cell 74 = .ok (.if_icmp .ne 8, 3) := by decide +kernel
theorem dX9_cell_77 : decode cX9_cell 77 = .ok (.iload_n 3, 1) := by decide +kernel
theorem dX9_cell_78 : decode cX9_cell 78 = .ok (.i2s, 1) := by decide +kernel
theorem dX9_cell_79 : decode cX9_cell 79 = .ok (.goto 4, 3) := by decide +kernel
theorem dX9_cell_82 : decode cX9_cell 82 = .ok (.iload_n 3, 1) := by decide +kernel
theorem dX9_cell_83 : decode cX9_cell 83 = .ok (.iastore, 1) := by decide +kernel
theorem dX9_cell_84 : decode cX9_cell 84 = .ok (.iconst 1, 1) := by decide +kernel
theorem dX9_cell_85 : decode cX9_cell 85 = .ok (.ireturn, 1) := by decide +kernel
theorem dX9_copy_0 : decode cX9_copy 0 = .ok (.iload_n 1, 1) := by decide +kernel
theorem dX9_copy_1 : decode cX9_copy 1 = .ok (.invokestatic 354, 3) := by decide +kernel
theorem dX9_copy_4 : decode cX9_copy 4 = .ok (.ifCond .eq 10, 3) := by decide +kernel
theorem dX9_copy_7 : decode cX9_copy 7 = .ok (.iload_n 3, 1) := by decide +kernel
theorem dX9_copy_8 : decode cX9_copy 8 = .ok (.invokestatic 354, 3) := by decide +kernel
theorem dX9_copy_11 : decode cX9_copy 11 = .ok (.ifCond .ne 6, 3) := by decide +kernel
theorem dX9_copy_14 : decode cX9_copy 14 = .ok (.bipush (-2), 2) := by decide +kernel
theorem dX9_copy_16 : decode cX9_copy 16 = .ok (.ireturn, 1) := by decide +kernel
theorem dX9_copy_17 : decode cX9_copy 17 = .ok (.aload_n 0, 1) := by decide +kernel
theorem dX9_copy_18 : decode cX9_copy 18 = .ok (.getfield 71, 3) := by decide +kernel
theorem dX9_copy_21 : decode cX9_copy 21 = .ok (.iload_n 1, 1) := by decide +kernel
theorem dX9_copy_22 : decode cX9_copy 22 = .ok (.baload, 1) := by decide +kernel
theorem dX9_copy_23 : decode cX9_copy 23 = .ok (.ifCond .eq 12, 3) := by decide +kernel
theorem dX9_copy_26 : decode cX9_copy 26 = .ok (.aload_n 0, 1) := by decide +kernel
theorem dX9_copy_27 : decode cX9_copy 27 = .ok (.getfield 71, 3) := by decide +kernel
theorem dX9_copy_30 : decode cX9_copy 30 = .ok (.iload_n 3, 1) := by decide +kernel
theorem dX9_copy_31 : decode cX9_copy 31 = .ok (.baload, 1) := by decide +kernel
theorem dX9_copy_32 : decode cX9_copy 32 = .ok (.ifCond .ne 6, 3) := by decide +kernel
theorem dX9_copy_35 : decode cX9_copy 35 = .ok (.bipush (-11), 2) := by decide +kernel
theorem dX9_copy_37 : decode cX9_copy 37 = .ok (.ireturn, 1) := by decide +kernel
theorem dX9_copy_38 : decode cX9_copy 38 = .ok (.aload_n 0, 1) := by decide +kernel
theorem dX9_copy_39 : decode cX9_copy 39 = .ok (.getfield 75, 3) := by decide +kernel
theorem dX9_copy_42 : decode cX9_copy 42 = .ok (.iload_n 1, 1) := by decide +kernel
theorem dX9_copy_43 : decode cX9_copy 43 = .ok (.iaload, 1) := by decide +kernel
theorem dX9_copy_44 : decode cX9_copy 44 = .ok (.aload_n 0, 1) := by decide +kernel
theorem dX9_copy_45 : decode cX9_copy 45 = .ok (.getfield 75, 3) := by decide +kernel
theorem dX9_copy_48 : decode cX9_copy 48 = .ok (.iload_n 3, 1) := by decide +kernel
theorem dX9_copy_49 : decode cX9_copy 49 = .ok (.iaload, 1) := by decide +kernel
theorem dX9_copy_50 : decode cX9_copy 50 = .ok (.if_icmp .eq 6, 3) := by decide +kernel
theorem dX9_copy_53 : decode cX9_copy 53 = .ok (.bipush (-13), 2) := by decide +kernel
theorem dX9_copy_55 : decode cX9_copy 55 = .ok (.ireturn, 1) := by decide +kernel
theorem dX9_copy_56 : decode cX9_copy 56 = .ok (.iload 5, 2) := by decide +kernel
theorem dX9_copy_58 : decode cX9_copy 58 = .ok (.ifCond .lt 39, 3) := by decide +kernel
theorem dX9_copy_61 : decode cX9_copy 61 = .ok (.iload_n 2, 1) := by decide +kernel
theorem dX9_copy_62 : decode cX9_copy 62 = .ok (.ifCond .lt 35, 3) := by decide +kernel
theorem dX9_copy_65 : decode cX9_copy 65 = .ok (.iload 4, 2) := by decide +kernel
theorem dX9_copy_67 : decode cX9_copy 67 = .ok (.ifCond .lt 30, 3) := by decide +kernel
theorem dX9_copy_70 : decode cX9_copy 70 = .ok (.iload_n 2, 1) := by decide +kernel
theorem dX9_copy_71 : decode cX9_copy 71 = .ok (.aload_n 0, 1) := by decide +kernel
theorem dX9_copy_72 : decode cX9_copy 72 = .ok (.getfield 78, 3) := by decide +kernel
theorem dX9_copy_75 : decode cX9_copy 75 = .ok (.iload_n 1, 1) := by decide +kernel
theorem dX9_copy_76 : decode cX9_copy 76 = .ok (.iaload, 1) := by decide +kernel
theorem dX9_copy_77 : decode cX9_copy 77 = .ok (.iload 5, 2) := by decide +kernel
theorem dX9_copy_79 : decode cX9_copy 79 = .ok (.isub, 1) := by decide +kernel
theorem dX9_copy_80 : decode cX9_copy 80 = .ok (.if_icmp .gt 17, 3) := by decide +kernel
theorem dX9_copy_83 : decode cX9_copy 83 = .ok (.iload 4, 2) := by decide +kernel
theorem dX9_copy_85 : decode cX9_copy 85 = .ok (.aload_n 0, 1) := by decide +kernel
theorem dX9_copy_86 : decode cX9_copy 86 = .ok (.getfield 78, 3) := by decide +kernel
theorem dX9_copy_89 : decode cX9_copy 89 = .ok (.iload_n 3, 1) := by decide +kernel
theorem dX9_copy_90 : decode cX9_copy 90 = .ok (.iaload, 1) := by decide +kernel
theorem dX9_copy_91 : decode cX9_copy 91 = .ok (.iload 5, 2) := by decide +kernel
theorem dX9_copy_93 : decode cX9_copy 93 = .ok (.isub, 1) := by decide +kernel
theorem dX9_copy_94 : decode cX9_copy 94 = .ok (.if_icmp .le 6, 3) := by decide +kernel
theorem dX9_copy_97 : decode cX9_copy 97 = .ok (.bipush (-12), 2) := by decide +kernel
theorem dX9_copy_99 : decode cX9_copy 99 = .ok (.ireturn, 1) := by decide +kernel
theorem dX9_copy_100 : decode cX9_copy 100 = .ok (.iload_n 1, 1) := by decide +kernel
theorem dX9_copy_101 : decode cX9_copy 101 = .ok (.iload_n 3, 1) := by decide +kernel
theorem dX9_copy_102 : decode cX9_copy 102 = .ok (.if_icmp .ne 13, 3) := by decide +kernel
theorem dX9_copy_105 : decode cX9_copy 105 = .ok (.iload_n 2, 1) := by decide +kernel
theorem dX9_copy_106 : decode cX9_copy 106 = .ok (.iload 4, 2) := by decide +kernel
theorem dX9_copy_108 : decode cX9_copy 108 = .ok (.if_icmp .ge 7, 3) := by decide +kernel
theorem dX9_copy_111 : decode cX9_copy 111 = .ok (.iconst 1, 1) := by decide +kernel
theorem dX9_copy_112 : decode cX9_copy 112 = .ok (.goto 4, 3) := by decide +kernel
theorem dX9_copy_115 : decode cX9_copy 115 = .ok (.iconst 0, 1) := by decide +kernel
theorem dX9_copy_116 : decode cX9_copy 116 = .ok (.istore 6, 2) := by decide +kernel
theorem dX9_copy_118 : decode cX9_copy 118 = .ok (.iconst 0, 1) := by decide +kernel
theorem dX9_copy_119 : decode cX9_copy 119 = .ok (.istore 7, 2) := by decide +kernel
theorem dX9_copy_121 : decode cX9_copy 121 = .ok (.iload 7, 2) := by decide +kernel
theorem dX9_copy_123 : decode cX9_copy 123 = .ok (.iload 5, 2) := by decide +kernel
theorem dX9_copy_125 : decode cX9_copy 125 = .ok (.if_icmp .ge 57, 3) := by decide +kernel
theorem dX9_copy_128 : decode cX9_copy 128 = .ok (.iload 6, 2) := by decide +kernel
theorem dX9_copy_130 : decode cX9_copy 130 = .ok (.ifCond .eq 13, 3) := by decide +kernel
theorem dX9_copy_133 : decode cX9_copy 133 = .ok (.iload 5, 2) := by decide +kernel
theorem dX9_copy_135 : decode cX9_copy 135 = .ok (.iconst 1, 1) := by decide +kernel
theorem dX9_copy_136 : decode cX9_copy 136 = .ok (.isub, 1) := by decide +kernel
theorem dX9_copy_137 : decode cX9_copy 137 = .ok (.iload 7, 2) := by decide +kernel
theorem dX9_copy_139 : decode cX9_copy 139 = .ok (.isub, 1) := by decide +kernel
theorem dX9_copy_140 : decode cX9_copy 140 = .ok (.goto 5, 3) := by decide +kernel
theorem dX9_copy_143 : decode cX9_copy 143 = .ok (.iload 7, 2) := by decide +kernel
theorem dX9_copy_145 : decode cX9_copy 145 = .ok (.istore 8, 2) := by decide +kernel
theorem dX9_copy_147 : decode cX9_copy 147 = .ok (.aload_n 0, 1) := by decide +kernel
theorem dX9_copy_148 : decode cX9_copy 148 = .ok (.getfield 81, 3) := by decide +kernel
theorem dX9_copy_151 : decode cX9_copy 151 = .ok (.bipush 40, 2) := by decide +kernel
theorem dX9_copy_153 : decode cX9_copy 153 = .ok (.iload_n 3, 1) := by decide +kernel
theorem dX9_copy_154 : decode cX9_copy 154 = .ok (.imul, 1) := by decide +kernel
theorem dX9_copy_155 : decode cX9_copy 155 = .ok (.iload 4, 2) := by decide +kernel
theorem dX9_copy_157 : decode cX9_copy 157 = .ok (.iadd, 1) := by decide +kernel
theorem dX9_copy_158 : decode cX9_copy 158 = .ok (.iload 8, 2) := by decide +kernel
theorem dX9_copy_160 : decode cX9_copy 160 = .ok (.iadd, 1) := by decide +kernel
theorem dX9_copy_161 : decode cX9_copy 161 = .ok (.aload_n 0, 1) := by decide +kernel
theorem dX9_copy_162 : decode cX9_copy 162 = .ok (.getfield 81, 3) := by decide +kernel
theorem dX9_copy_165 : decode cX9_copy 165 = .ok (.bipush 40, 2) := by decide +kernel
theorem dX9_copy_167 : decode cX9_copy 167 = .ok (.iload_n 1, 1) := by decide +kernel
theorem dX9_copy_168 : decode cX9_copy 168 = .ok (.imul, 1) := by decide +kernel
theorem dX9_copy_169 : decode cX9_copy 169 = .ok (.iload_n 2, 1) := by decide +kernel
theorem dX9_copy_170 : decode cX9_copy 170 = .ok (.iadd, 1) := by decide +kernel
theorem dX9_copy_171 : decode cX9_copy 171 = .ok (.iload 8, 2) := by decide +kernel
theorem dX9_copy_173 : decode cX9_copy 173 = .ok (.iadd, 1) := by decide +kernel
theorem dX9_copy_174 : decode cX9_copy 174 = .ok (.iaload, 1) := by decide +kernel
theorem dX9_copy_175 : decode cX9_copy 175 = .ok (.iastore, 1) := by decide +kernel
theorem dX9_copy_176 : decode cX9_copy 176 = .ok (.iinc 7 1, 3) := by decide +kernel
theorem dX9_copy_179 : decode cX9_copy 179 = .ok (.goto (-58), 3) := by decide +kernel
theorem dX9_copy_182 : decode cX9_copy 182 = .ok (.iload 5, 2) := by decide +kernel
theorem dX9_copy_184 : decode cX9_copy 184 = .ok (.ireturn, 1) := by decide +kernel
theorem dX9_slips_0 : decode cX9_slips 0 = .ok (.iload_n 1, 1) := by decide +kernel
theorem dX9_slips_1 : decode cX9_slips 1 = .ok (.invokestatic 354, 3) := by decide +kernel
theorem dX9_slips_4 : decode cX9_slips 4 = .ok (.ifCond .eq 28, 3) := by decide +kernel
theorem dX9_slips_7 : decode cX9_slips 7 = .ok (.iload_n 2, 1) := by decide +kernel
theorem dX9_slips_8 : decode cX9_slips 8 = .ok (.i2l, 1) := by decide +kernel
theorem dX9_slips_9 : decode cX9_slips 9 = .ok (.lconst 0, 1) := by decide +kernel
theorem dX9_slips_10 : decode cX9_slips 10 = .ok (.ldc2_w 115, 3) := by decide +kernel
theorem dX9_slips_13 : decode cX9_slips 13 = .ok (.invokestatic 94, 3) := by decide +kernel
theorem dX9_slips_16 : decode cX9_slips 16 = .ok (.ifCond .eq 16, 3) := by decide +kernel
theorem dX9_slips_19 : decode cX9_slips 19 = .ok (.iload 4, 2) := by decide +kernel
theorem dX9_slips_21 : decode cX9_slips 21 = .ok (.i2l, 1) := by decide +kernel
theorem dX9_slips_22 : decode cX9_slips 22 = .ok (.lconst 0, 1) := by decide +kernel
theorem dX9_slips_23 : decode cX9_slips 23 = .ok (.ldc2_w 103, 3) := by decide +kernel
theorem dX9_slips_26 : decode cX9_slips 26 = .ok (.invokestatic 94, 3) := by decide +kernel
theorem dX9_slips_29 : decode cX9_slips 29 = .ok (.ifCond .ne 6, 3) := by decide +kernel
theorem dX9_slips_32 : decode cX9_slips 32 = .ok (.bipush (-2), 2) := by decide +kernel
theorem dX9_slips_34 : decode cX9_slips 34 = .ok (.ireturn, 1) := by decide +kernel
theorem dX9_slips_35 : decode cX9_slips 35 = .ok (.aload_n 0, 1) := by decide +kernel
theorem dX9_slips_36 : decode cX9_slips 36 = .ok (.getfield 71, 3) := by decide +kernel
theorem dX9_slips_39 : decode cX9_slips 39 = .ok (.iload_n 1, 1) := by decide +kernel
theorem dX9_slips_40 : decode cX9_slips 40 = .ok (.baload, 1) := by decide +kernel
theorem dX9_slips_41 : decode cX9_slips 41 = .ok (.ifCond .eq 16, 3) := by decide +kernel
theorem dX9_slips_44 : decode cX9_slips 44 = .ok (.aload_n 0, 1) := by decide +kernel
theorem dX9_slips_45 : decode cX9_slips 45 = .ok (.getfield 75, 3) := by decide +kernel
theorem dX9_slips_48 : decode cX9_slips 48 = .ok (.iload_n 1, 1) := by decide +kernel
theorem dX9_slips_49 : decode cX9_slips 49 = .ok (.iaload, 1) := by decide +kernel
theorem dX9_slips_50 : decode cX9_slips 50 = .ok (.iload_n 2, 1) := by decide +kernel
theorem dX9_slips_51 : decode cX9_slips 51 = .ok (.if_icmp .eq 6, 3) := by decide +kernel
theorem dX9_slips_54 : decode cX9_slips 54 = .ok (.bipush (-13), 2) := by decide +kernel
theorem dX9_slips_56 : decode cX9_slips 56 = .ok (.ireturn, 1) := by decide +kernel
theorem dX9_slips_57 : decode cX9_slips 57 = .ok (.aload_n 0, 1) := by decide +kernel
theorem dX9_slips_58 : decode cX9_slips 58 = .ok (.getfield 71, 3) := by decide +kernel
theorem dX9_slips_61 : decode cX9_slips 61 = .ok (.iload_n 1, 1) := by decide +kernel
theorem dX9_slips_62 : decode cX9_slips 62 = .ok (.baload, 1) := by decide +kernel
theorem dX9_slips_63 : decode cX9_slips 63 = .ok (.ifCond .ne 6, 3) := by decide +kernel
theorem dX9_slips_66 : decode cX9_slips 66 = .ok (.bipush (-11), 2) := by decide +kernel
theorem dX9_slips_68 : decode cX9_slips 68 = .ok (.ireturn, 1) := by decide +kernel
theorem dX9_slips_69 : decode cX9_slips 69 = .ok (.iconst 0, 1) := by decide +kernel
theorem dX9_slips_70 : decode cX9_slips 70 = .ok (.istore 5, 2) := by decide +kernel
theorem dX9_slips_72 : decode cX9_slips 72 = .ok (.iconst 0, 1) := by decide +kernel
theorem dX9_slips_73 : decode cX9_slips 73 = .ok (.istore 6, 2) := by decide +kernel
theorem dX9_slips_75 : decode cX9_slips 75 = .ok (.iload 6, 2) := by decide +kernel
theorem dX9_slips_77 : decode cX9_slips 77 = .ok (.iload 4, 2) := by decide +kernel
theorem dX9_slips_79 : decode cX9_slips 79 = .ok (.if_icmp .ge 88, 3) := by decide +kernel
theorem dX9_slips_82 : decode cX9_slips 82 = .ok (.iload_n 3, 1) := by decide +kernel
theorem dX9_slips_83 : decode cX9_slips 83 = .ok (.ifCond .lt 20, 3) := by decide +kernel
theorem dX9_slips_86 : decode cX9_slips 86 = .ok (.iload_n 3, 1) := by decide +kernel
theorem dX9_slips_87 : decode cX9_slips 87 = .ok (.aload_n 0, 1) := by decide +kernel
theorem dX9_slips_88 : decode cX9_slips 88 = .ok (.getfield 78, 3) := by decide +kernel
theorem dX9_slips_91 : decode cX9_slips 91 = .ok (.iload_n 1, 1) := by decide +kernel
theorem dX9_slips_92 : decode cX9_slips 92 = .ok (.iaload, 1) := by decide +kernel
theorem dX9_slips_93 : decode cX9_slips 93 = .ok (.iconst 3, 1) := by decide +kernel
theorem dX9_slips_94 : decode cX9_slips 94 = .ok (.iload 6, 2) := by decide +kernel
theorem dX9_slips_96 : decode cX9_slips 96 = .ok (.imul, 1) := by decide +kernel
theorem dX9_slips_97 : decode cX9_slips 97 = .ok (.isub, 1) := by decide +kernel
theorem dX9_slips_98 : decode cX9_slips 98 = .ok (.iconst 3, 1) := by decide +kernel
theorem dX9_slips_99 : decode cX9_slips 99 = .ok (.isub, 1) := by decide +kernel
theorem dX9_slips_100 : decode cX9_slips 100 = .ok (.if_icmp .le 6, 3) := by decide +kernel
theorem dX9_slips_103 : decode cX9_slips 103 = .ok (.bipush (-12), 2) := by decide +kernel
theorem dX9_slips_105 : decode cX9_slips 105 = .ok (.ireturn, 1) := by decide +kernel
theorem dX9_slips_106 : decode cX9_slips 106 = .ok (.bipush 40, 2) := by decide +kernel
theorem dX9_slips_108 : decode cX9_slips 108 = .ok (.iload_n 1, 1) := by decide +kernel
theorem dX9_slips_109 : decode cX9_slips 109 = .ok (.imul, 1) := by decide +kernel
theorem dX9_slips_110 : decode cX9_slips 110 = .ok (.iload_n 3, 1) := by decide +kernel
theorem dX9_slips_111 : decode cX9_slips 111 = .ok (.iadd, 1) := by decide +kernel
theorem dX9_slips_112 : decode cX9_slips 112 = .ok (.iconst 3, 1) := by decide +kernel
theorem dX9_slips_113 : decode cX9_slips 113 = .ok (.iload 6, 2) := by decide +kernel
theorem dX9_slips_115 : decode cX9_slips 115 = .ok (.imul, 1) := by decide +kernel
theorem dX9_slips_116 : decode cX9_slips 116 = .ok (.iadd, 1) := by decide +kernel
theorem dX9_slips_117 : decode cX9_slips 117 = .ok (.istore 7, 2) := by decide +kernel
theorem dX9_slips_119 : decode cX9_slips 119 = .ok (.iload 5, 2) := by decide +kernel
theorem dX9_slips_121 : decode cX9_slips 121 = .ok (.aload_n 0, 1) := by decide +kernel
theorem dX9_slips_122 : decode cX9_slips 122 = .ok (.aload_n 0, 1) := by decide +kernel
theorem dX9_slips_123 : decode cX9_slips 123 = .ok (.getfield 81, 3) := by decide +kernel
theorem dX9_slips_126 : decode cX9_slips 126 = .ok (.iload 7, 2) := by decide +kernel
theorem dX9_slips_128 : decode cX9_slips 128 = .ok (.iaload, 1) := by decide +kernel
theorem dX9_slips_129 : decode cX9_slips 129 = .ok (.aload_n 0, 1) := by decide +kernel
theorem dX9_slips_130 : decode cX9_slips 130 = .ok (.getfield 81, 3) := by decide +kernel
theorem dX9_slips_133 : decode cX9_slips 133 = .ok (.iload 7, 2) := by decide +kernel
theorem dX9_slips_135 : decode cX9_slips 135 = .ok (.iconst 1, 1) := by decide +kernel
theorem dX9_slips_136 : decode cX9_slips 136 = .ok (.iadd, 1) := by decide +kernel
theorem dX9_slips_137 : decode cX9_slips 137 = .ok (.iaload, 1) := by decide +kernel
theorem dX9_slips_138 : decode cX9_slips 138 = .ok (.aload_n 0, 1) := by decide +kernel
theorem dX9_slips_139 : decode cX9_slips 139 = .ok (.getfield 81, 3) := by decide +kernel
theorem dX9_slips_142 : decode cX9_slips 142 = .ok (.iload 7, 2) := by decide +kernel
theorem dX9_slips_144 : decode cX9_slips 144 = .ok (.iconst 2, 1) := by decide +kernel
theorem dX9_slips_145 : decode cX9_slips 145 = .ok (.iadd, 1) := by decide +kernel
theorem dX9_slips_146 : decode cX9_slips 146 = .ok (.iaload, 1) := by decide +kernel
theorem dX9_slips_147 : decode cX9_slips 147 = .ok (.invokevirtual 385, 3) := by decide +kernel
theorem dX9_slips_150 : decode cX9_slips 150 = .ok (.ifCond .lt 7, 3) := by decide +kernel
theorem dX9_slips_153 : decode cX9_slips 153 = .ok (.iconst 1, 1) := by decide +kernel
theorem dX9_slips_154 : decode cX9_slips 154 = .ok (.goto 4, 3) := by decide +kernel
theorem dX9_slips_157 : decode cX9_slips 157 = .ok (.iconst 0, 1) := by decide +kernel
theorem dX9_slips_158 : decode cX9_slips 158 = .ok (.iadd, 1) := by decide +kernel
theorem dX9_slips_159 : decode cX9_slips 159 = .ok (.istore 5, 2) := by decide +kernel
theorem dX9_slips_161 : decode cX9_slips 161 = .ok (.iinc 6 1, 3) := by decide +kernel
theorem dX9_slips_164 : decode cX9_slips 164 = .ok (.goto (-89), 3) := by decide +kernel
theorem dX9_slips_167 : decode cX9_slips 167 = .ok (.iload 5, 2) := by decide +kernel
theorem dX9_slips_169 : decode cX9_slips 169 = .ok (.ireturn, 1) := by decide +kernel
theorem dX9_over_0 : decode cX9_over 0 = .ok (.iload_n 0, 1) := by decide +kernel
theorem dX9_over_1 : decode cX9_over 1 = .ok (.ifCond .ne 7, 3) := by decide +kernel
theorem dX9_over_4 : decode cX9_over 4 = .ok (.iconst (-1), 1) := by decide +kernel
theorem dX9_over_5 : decode cX9_over 5 = .ok (.goto 27, 3) := by decide +kernel
theorem dX9_over_8 : decode cX9_over 8 = .ok (.iload_n 0, 1) := by decide +kernel
theorem dX9_over_9 : decode cX9_over 9 = .ok (.iconst 3, 1) := by decide +kernel
theorem dX9_over_10 : decode cX9_over 10 = .ok (.if_icmp .ne 7, 3) := by decide +kernel
theorem dX9_over_13 : decode cX9_over 13 = .ok (.iconst 1, 1) := by decide +kernel
theorem dX9_over_14 : decode cX9_over 14 = .ok (.goto 18, 3) := by decide +kernel
theorem dX9_over_17 : decode cX9_over 17 = .ok (.iload_n 0, 1) := by decide +kernel
theorem dX9_over_18 : decode cX9_over 18 = .ok (.iconst 4, 1) := by decide +kernel
theorem dX9_over_19 : decode cX9_over 19 = .ok (.if_icmp .eq 8, 3) := by decide +kernel
theorem dX9_over_22 : decode cX9_over 22 = .ok (.iload_n 0, 1) := by decide +kernel
theorem dX9_over_23 : decode cX9_over 23 = .ok (.iconst 5, 1) := by decide +kernel
theorem dX9_over_24 : decode cX9_over 24 = .ok (.if_icmp .ne 7, 3) := by decide +kernel
theorem dX9_over_27 : decode cX9_over 27 = .ok (.iconst 2, 1) := by decide +kernel
theorem dX9_over_28 : decode cX9_over 28 = .ok (.goto 4, 3) := by decide +kernel
theorem dX9_over_31 : decode cX9_over 31 = .ok (.iconst 0, 1) := by decide +kernel
theorem dX9_over_32 : decode cX9_over 32 = .ok (.ireturn, 1) := by decide +kernel
theorem dX9_taken_0 : decode cX9_taken 0 = .ok (.iload_n 2, 1) := by decide +kernel
theorem dX9_taken_1 : decode cX9_taken 1 = .ok (.i2l, 1) := by decide +kernel
theorem dX9_taken_2 : decode cX9_taken 2 = .ok (.lconst 0, 1) := by decide +kernel
theorem dX9_taken_3 : decode cX9_taken 3 = .ok (.ldc2_w 105, 3) := by decide +kernel
theorem dX9_taken_6 : decode cX9_taken 6 = .ok (.invokestatic 94, 3) := by decide +kernel
theorem dX9_taken_9 : decode cX9_taken 9 = .ok (.ifCond .ne 6, 3) := by decide +kernel
theorem dX9_taken_12 : decode cX9_taken 12 = .ok (.bipush (-2), 2) := by decide +kernel
theorem dX9_taken_14 : decode cX9_taken 14 = .ok (.ireturn, 1) := by decide +kernel
theorem dX9_taken_15 : decode cX9_taken 15 = .ok (.aload_n 0, 1) := by decide +kernel
theorem dX9_taken_16 : decode cX9_taken 16 = .ok (.iload_n 1, 1) := by decide +kernel
theorem dX9_taken_17 : decode cX9_taken 17 = .ok (.invokevirtual 119, 3) := by decide +kernel
theorem dX9_taken_20 : decode cX9_taken 20 = .ok (.ifCond .ne 6, 3) := by decide +kernel
theorem dX9_taken_23 : decode cX9_taken 23 = .ok (.bipush (-11), 2) := by decide +kernel
theorem dX9_taken_25 : decode cX9_taken 25 = .ok (.ireturn, 1) := by decide +kernel
theorem dX9_taken_26 : decode cX9_taken 26 = .ok (.aload_n 0, 1) := by decide +kernel
theorem dX9_taken_27 : decode cX9_taken 27 = .ok (.getfield 29, 3) := by decide +kernel
theorem dX9_taken_30 : decode cX9_taken 30 = .ok (.iload_n 1, 1) := by decide +kernel
theorem dX9_taken_31 : decode cX9_taken 31 = .ok (.iaload, 1) := by decide +kernel
theorem dX9_taken_32 : decode cX9_taken 32 = .ok (.istore_n 3, 1) := by decide +kernel
theorem dX9_taken_33 : decode cX9_taken 33 = .ok (.iload_n 3, 1) := by decide +kernel
theorem dX9_taken_34 : decode cX9_taken 34 = .ok (.iconst (-1), 1) := by decide +kernel
theorem dX9_taken_35 : decode cX9_taken 35 = .ok (.if_icmp .eq 16, 3) := by decide +kernel
theorem dX9_taken_38 : decode cX9_taken 38 = .ok (.iload_n 3, 1) := by decide +kernel
theorem dX9_taken_39 : decode cX9_taken 39 = .ok (.iload_n 2, 1) := by decide +kernel
theorem dX9_taken_40 : decode cX9_taken 40 = .ok (.if_icmp .eq 11, 3) := by decide +kernel
theorem dX9_taken_43 : decode cX9_taken 43 = .ok (.iload_n 3, 1) := by decide +kernel
theorem dX9_taken_44 : decode cX9_taken 44 = .ok (.invokestatic 388, 3) := by decide +kernel
theorem dX9_taken_47 : decode cX9_taken 47 = .ok (.istore_n 3, 1) := by decide +kernel
theorem dX9_taken_48 : decode cX9_taken 48 = .ok (.goto (-15), 3) := by decide +kernel
theorem dX9_taken_51 : decode cX9_taken 51 = .ok (.iload_n 3, 1) := by decide +kernel
theorem dX9_taken_52 : decode cX9_taken 52 = .ok (.iload_n 2, 1) := by decide +kernel
theorem dX9_taken_53 : decode cX9_taken 53 = .ok (.if_icmp .ne 12, 3) := by decide +kernel
theorem dX9_taken_56 : decode cX9_taken 56 = .ok (.aload_n 0, 1) := by decide +kernel
theorem dX9_taken_57 : decode cX9_taken 57 = .ok (.getfield 32, 3) := by decide +kernel
theorem dX9_taken_60 : decode cX9_taken 60 = .ok (.iload_n 1, 1) := by decide +kernel
theorem dX9_taken_61 : decode cX9_taken 61 = .ok (.iaload, 1) := by decide +kernel
theorem dX9_taken_62 : decode cX9_taken 62 = .ok (.goto 5, 3) := by decide +kernel
theorem dX9_taken_65 : decode cX9_taken 65 = .ok (.bipush (-13), 2) := by decide +kernel
theorem dX9_taken_67 : decode cX9_taken 67 = .ok (.ireturn, 1) := by decide +kernel
