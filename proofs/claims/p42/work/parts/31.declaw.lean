theorem dL_at_0 : decode cL_at 0 = .ok (.iload_n 1, 1) := by decide +kernel
theorem dL_at_1 : decode cL_at 1 = .ok (.aload_n 0, 1) := by decide +kernel
theorem dL_at_2 : decode cL_at 2 = .ok (.arraylength, 1) := by decide +kernel
theorem dL_at_3 : decode cL_at 3 = .ok (.if_icmp .ge 9, 3) := by decide +kernel
theorem dL_at_6 : decode cL_at 6 = .ok (.aload_n 0, 1) := by decide +kernel
theorem dL_at_7 : decode cL_at 7 = .ok (.iload_n 1, 1) := by decide +kernel
theorem dL_at_8 : decode cL_at 8 = .ok (.iaload, 1) := by decide +kernel
theorem dL_at_9 : decode cL_at 9 = .ok (.goto 4, 3) := by decide +kernel
theorem dL_at_12 : decode cL_at 12 = .ok (.iconst 0, 1) := by decide +kernel
theorem dL_at_13 : decode cL_at 13 = .ok (.ireturn, 1) := by decide +kernel
theorem dL_put_0 : decode cL_put 0 = .ok (.iconst 0, 1) := by decide +kernel
theorem dL_put_1 : decode cL_put 1 = .ok (.istore_n 2, 1) := by decide +kernel
theorem dL_put_2 : decode cL_put 2 = .ok (.iload_n 2, 1) := by decide +kernel
theorem dL_put_3 : decode cL_put 3 = .ok (.aload_n 1, 1) := by decide +kernel
theorem dL_put_4 : decode cL_put 4 = .ok (.invokevirtual 7, 3) := by decide +kernel
theorem dL_put_7 : decode cL_put 7 = .ok (.if_icmp .ge 19, 3) := by decide +kernel
theorem dL_put_10 : decode cL_put 10 = .ok (.aload_n 0, 1) := by decide +kernel
theorem dL_put_11 : decode cL_put 11 = .ok (.aload_n 1, 1) := by decide +kernel
theorem dL_put_12 : decode cL_put 12 = .ok (.iload_n 2, 1) := by decide +kernel
theorem dL_put_13 : decode cL_put 13 = .ok (.invokevirtual 13, 3) := by decide +kernel
theorem dL_put_16 : decode cL_put 16 = .ok (.invokevirtual 17, 3) := by decide +kernel
theorem dL_put_19 : decode cL_put 19 = .ok (.pop, 1) := by decide +kernel
theorem dL_put_20 : decode cL_put 20 = .ok (.iinc 2 1, 3) := by decide +kernel
theorem dL_put_23 : decode cL_put 23 = .ok (.goto (-21), 3) := by decide +kernel
theorem dL_put_26 : decode cL_put 26 = .ok (.return_, 1) := by decide +kernel
theorem dL_build_0 : decode cL_build 0 = .ok (.new 18, 3) := by decide +kernel
theorem dL_build_3 : decode cL_build 3 = .ok (.dup, 1) := by decide +kernel
theorem dL_build_4 : decode cL_build 4 = .ok (.invokespecial 23, 3) := by decide +kernel
theorem dL_build_7 : decode cL_build 7 = .ok (.astore_n 1, 1) := by decide +kernel
theorem dL_build_8 : decode cL_build 8 = .ok (.aload_n 0, 1) := by decide +kernel
theorem dL_build_9 : decode cL_build 9 = .ok (.iconst 0, 1) := by decide +kernel
theorem dL_build_10 : decode cL_build 10 = .ok (.invokestatic 24, 3) := by decide +kernel
theorem dL_build_13 : decode cL_build 13 = .ok (.istore_n 2, 1) := by decide +kernel
theorem dL_build_14 : decode cL_build 14 = .ok (.aload_n 1, 1) := by decide +kernel
theorem dL_build_15 : decode cL_build 15 = .ok (.iconst 0, 1) := by decide +kernel
theorem dL_build_16 : decode cL_build 16 = .ok (.iconst 2, 1) := by decide +kernel
theorem dL_build_17 : decode cL_build 17 = .ok (.iload_n 2, 1) := by decide +kernel
theorem dL_build_18 : decode cL_build 18 = .ok (.iconst 3, 1) := by decide +kernel
theorem dL_build_19 : decode cL_build 19 = .ok (.iand, 1) := by decide +kernel
theorem dL_build_20 : decode cL_build 20 = .ok (.ifCond .ne 7, 3) := by decide +kernel
theorem dL_build_23 : decode cL_build 23 = .ok (.iconst 0, 1) := by decide +kernel
theorem dL_build_24 : decode cL_build 24 = .ok (.goto 4, 3) := by decide +kernel
theorem dL_build_27 : decode cL_build 27 = .ok (.iconst 1, 1) := by decide +kernel
theorem dL_build_28 : decode cL_build 28 = .ok (.iadd, 1) := by decide +kernel
theorem dL_build_29 : decode cL_build 29 = .ok (.iconst 2, 1) := by decide +kernel
theorem dL_build_30 : decode cL_build 30 = .ok (.iload_n 2, 1) := by decide +kernel
theorem dL_build_31 : decode cL_build 31 = .ok (.iconst 2, 1) := by decide +kernel
theorem dL_build_32 : decode cL_build 32 = .ok (.ishr, 1) := by decide +kernel
theorem dL_build_33 : decode cL_build 33 = .ok (.iconst 3, 1) := by decide +kernel
theorem dL_build_34 : decode cL_build 34 = .ok (.iand, 1) := by decide +kernel
theorem dL_build_35 : decode cL_build 35 = .ok (.ifCond .ne 7, 3) := by decide +kernel
theorem dL_build_38 : decode cL_build 38 = .ok (.iconst 0, 1) := by decide +kernel
theorem dL_build_39 : decode cL_build 39 = .ok (.goto 4, 3) := by decide +kernel
theorem dL_build_42 : decode cL_build 42 = .ok (.iconst 1, 1) := by decide +kernel
theorem dL_build_43 : decode cL_build 43 = .ok (.iadd, 1) := by decide +kernel
theorem dL_build_44 : decode cL_build 44 = .ok (.bipush 32, 2) := by decide +kernel
theorem dL_build_46 : decode cL_build 46 = .ok (.invokestatic 30, 3) := by decide +kernel
theorem dL_build_49 : decode cL_build 49 = .ok (.pop, 1) := by decide +kernel
theorem dL_build_50 : decode cL_build 50 = .ok (.aload_n 1, 1) := by decide +kernel
theorem dL_build_51 : decode cL_build 51 = .ok (.iconst 0, 1) := by decide +kernel
theorem dL_build_52 : decode cL_build 52 = .ok (.invokevirtual 34, 3) := by decide +kernel
theorem dL_build_55 : decode cL_build 55 = .ok (.istore_n 3, 1) := by decide +kernel
theorem dL_build_56 : decode cL_build 56 = .ok (.iconst 1, 1) := by decide +kernel
theorem dL_build_57 : decode cL_build 57 = .ok (.istore 4, 2) := by decide +kernel
theorem dL_build_59 : decode cL_build 59 = .ok (.iload 4, 2) := by decide +kernel
theorem dL_build_61 : decode cL_build 61 = .ok (.bipush 13, 2) := by decide +kernel
theorem dL_build_63 : decode cL_build 63 = .ok (.if_icmp .ge 322, 3) := by decide +kernel
theorem dL_build_66 : decode cL_build 66 = .ok (.aload_n 0, 1) := by decide +kernel
theorem dL_build_67 : decode cL_build 67 = .ok (.iload 4, 2) := by decide +kernel
theorem dL_build_69 : decode cL_build 69 = .ok (.invokestatic 24, 3) := by decide +kernel
theorem dL_build_72 : decode cL_build 72 = .ok (.istore 5, 2) := by decide +kernel
theorem dL_build_74 : decode cL_build 74 = .ok (.aload_n 1, 1) := by decide +kernel
theorem dL_build_75 : decode cL_build 75 = .ok (.iconst 2, 1) := by decide +kernel
theorem dL_build_76 : decode cL_build 76 = .ok (.invokevirtual 38, 3) := by decide +kernel
theorem dL_build_79 : decode cL_build 79 = .ok (.istore 6, 2) := by decide +kernel
theorem dL_build_81 : decode cL_build 81 = .ok (.aload_n 1, 1) := by decide +kernel
theorem dL_build_82 : decode cL_build 82 = .ok (.iconst 3, 1) := by decide +kernel
theorem dL_build_83 : decode cL_build 83 = .ok (.iload 5, 2) := by decide +kernel
theorem dL_build_85 : decode cL_build 85 = .ok (.bipush 15, 2) := by decide +kernel
theorem dL_build_87 : decode cL_build 87 = .ok (.iand, 1) := by decide +kernel
theorem dL_build_88 : decode cL_build 88 = .ok (.iload 6, 2) := by decide +kernel
theorem dL_build_90 : decode cL_build 90 = .ok (.irem, 1) := by decide +kernel
theorem dL_build_91 : decode cL_build 91 = .ok (.iconst 0, 1) := by decide +kernel
theorem dL_build_92 : decode cL_build 92 = .ok (.bipush 32, 2) := by decide +kernel
theorem dL_build_94 : decode cL_build 94 = .ok (.invokestatic 30, 3) := by decide +kernel
theorem dL_build_97 : decode cL_build 97 = .ok (.pop, 1) := by decide +kernel
theorem dL_build_98 : decode cL_build 98 = .ok (.iload 5, 2) := by decide +kernel
theorem dL_build_100 : decode cL_build 100 = .ok (.iconst 4, 1) := by decide +kernel
theorem dL_build_101 : decode cL_build 101 = .ok (.ishr, 1) := by decide +kernel
theorem dL_build_102 : decode cL_build 102 = .ok (.bipush 7, 2) := by decide +kernel
theorem dL_build_104 : decode cL_build 104 = .ok (.iand, 1) := by decide +kernel
theorem dL_build_105 : decode cL_build 105 = .ok (.ifCond .ne 35, 3) := by decide +kernel
theorem dL_build_108 : decode cL_build 108 = .ok (.aload_n 1, 1) := by decide +kernel
theorem dL_build_109 : decode cL_build 109 = .ok (.iconst 1, 1) := by decide +kernel
theorem dL_build_110 : decode cL_build 110 = .ok (.iload 5, 2) := by decide +kernel
theorem dL_build_112 : decode cL_build 112 = .ok (.bipush 7, 2) := by decide +kernel
theorem dL_build_114 : decode cL_build 114 = .ok (.ishr, 1) := by decide +kernel
theorem dL_build_115 : decode cL_build 115 = .ok (.bipush 15, 2) := by decide +kernel
theorem dL_build_117 : decode cL_build 117 = .ok (.iand, 1) := by decide +kernel
theorem dL_build_118 : decode cL_build 118 = .ok (.iload_n 3, 1) := by decide +kernel
theorem dL_build_119 : decode cL_build 119 = .ok (.irem, 1) := by decide +kernel
theorem dL_build_120 : decode cL_build 120 = .ok (.iconst 0, 1) := by decide +kernel
theorem dL_build_121 : decode cL_build 121 = .ok (.bipush 97, 2) := by decide +kernel
theorem dL_build_123 : decode cL_build 123 = .ok (.iload 5, 2) := by decide +kernel
theorem dL_build_125 : decode cL_build 125 = .ok (.bipush 11, 2) := by decide +kernel
theorem dL_build_127 : decode cL_build 127 = .ok (.ishr, 1) := by decide +kernel
theorem dL_build_128 : decode cL_build 128 = .ok (.bipush 15, 2) := by decide +kernel
theorem dL_build_130 : decode cL_build 130 = .ok (.iand, 1) := by decide +kernel
theorem dL_build_131 : decode cL_build 131 = .ok (.bipush 12, 2) := by decide +kernel
theorem dL_build_133 : decode cL_build 133 = .ok (.irem, 1) := by decide +kernel
theorem dL_build_134 : decode cL_build 134 = .ok (.iadd, 1) := by decide +kernel
theorem dL_build_135 : decode cL_build 135 = .ok (.i2c, 1) := by decide +kernel
theorem dL_build_136 : decode cL_build 136 = .ok (.invokestatic 30, 3) := by decide +kernel
theorem dL_build_139 : decode cL_build 139 = .ok (.pop, 1) := by decide +kernel
theorem dL_build_140 : decode cL_build 140 = .ok (.iload 5, 2) := by decide +kernel
theorem dL_build_142 : decode cL_build 142 = .ok (.iconst 4, 1) := by decide +kernel
theorem dL_build_143 : decode cL_build 143 = .ok (.ishr, 1) := by decide +kernel
theorem dL_build_144 : decode cL_build 144 = .ok (.bipush 7, 2) := by decide +kernel
theorem dL_build_146 : decode cL_build 146 = .ok (.iand, 1) := by decide +kernel
theorem dL_build_147 : decode cL_build 147 = .ok (.iconst 1, 1) := by decide +kernel
theorem dL_build_148 : decode cL_build 148 = .ok (.if_icmp .ne 50, 3) := by decide +kernel
theorem dL_build_151 : decode cL_build 151 = .ok (.aload_n 1, 1) := by decide +kernel
theorem dL_build_152 : decode cL_build 152 = .ok (.iconst 2, 1) := by decide +kernel
theorem dL_build_153 : decode cL_build 153 = .ok (.iload 5, 2) := by decide +kernel
theorem dL_build_155 : decode cL_build 155 = .ok (.bipush 7, 2) := by decide +kernel
theorem dL_build_157 : decode cL_build 157 = .ok (.ishr, 1) := by decide +kernel
theorem dL_build_158 : decode cL_build 158 = .ok (.bipush 15, 2) := by decide +kernel
theorem dL_build_160 : decode cL_build 160 = .ok (.iand, 1) := by decide +kernel
theorem dL_build_161 : decode cL_build 161 = .ok (.iload_n 3, 1) := by decide +kernel
theorem dL_build_162 : decode cL_build 162 = .ok (.irem, 1) := by decide +kernel
theorem dL_build_163 : decode cL_build 163 = .ok (.iconst 0, 1) := by decide +kernel
theorem dL_build_164 : decode cL_build 164 = .ok (.iload 5, 2) := by decide +kernel
theorem dL_build_166 : decode cL_build 166 = .ok (.bipush 11, 2) := by decide +kernel
theorem dL_build_168 : decode cL_build 168 = .ok (.ishr, 1) := by decide +kernel
theorem dL_build_169 : decode cL_build 169 = .ok (.iconst 3, 1) := by decide +kernel
theorem dL_build_170 : decode cL_build 170 = .ok (.iand, 1) := by decide +kernel
theorem dL_build_171 : decode cL_build 171 = .ok (.ifCond .ne 8, 3) := by decide +kernel
theorem dL_build_174 : decode cL_build 174 = .ok (.bipush 46, 2) := by decide +kernel
theorem dL_build_176 : decode cL_build 176 = .ok (.goto 18, 3) := by decide +kernel
theorem dL_build_179 : decode cL_build 179 = .ok (.bipush 97, 2) := by decide +kernel
theorem dL_build_181 : decode cL_build 181 = .ok (.iload 5, 2) := by decide +kernel
theorem dL_build_183 : decode cL_build 183 = .ok (.bipush 11, 2) := by decide +kernel
theorem dL_build_185 : decode cL_build 185 = .ok (.ishr, 1) := by decide +kernel
theorem dL_build_186 : decode cL_build 186 = .ok (.bipush 15, 2) := by decide +kernel
theorem dL_build_188 : decode cL_build 188 = .ok (.iand, 1) := by decide +kernel
theorem dL_build_189 : decode cL_build 189 = .ok (.bipush 12, 2) := by decide +kernel
theorem dL_build_191 : decode cL_build 191 = .ok (.irem, 1) := by decide +kernel
theorem dL_build_192 : decode cL_build 192 = .ok (.iadd, 1) := by decide +kernel
theorem dL_build_193 : decode cL_build 193 = .ok (.i2c, 1) := by decide +kernel
theorem dL_build_194 : decode cL_build 194 = .ok (.invokestatic 30, 3) := by decide +kernel
theorem dL_build_197 : decode cL_build 197 = .ok (.pop, 1) := by decide +kernel
theorem dL_build_198 : decode cL_build 198 = .ok (.iload 5, 2) := by decide +kernel
theorem dL_build_200 : decode cL_build 200 = .ok (.iconst 4, 1) := by decide +kernel
theorem dL_build_201 : decode cL_build 201 = .ok (.ishr, 1) := by decide +kernel
theorem dL_build_202 : decode cL_build 202 = .ok (.bipush 15, 2) := by decide +kernel
theorem dL_build_204 : decode cL_build 204 = .ok (.iand, 1) := by decide +kernel
theorem dL_build_205 : decode cL_build 205 = .ok (.iconst 2, 1) := by decide +kernel
theorem dL_build_206 : decode cL_build 206 = .ok (.if_icmp .ne 31, 3) := by decide +kernel
theorem dL_build_209 : decode cL_build 209 = .ok (.aload_n 1, 1) := by decide +kernel
theorem dL_build_210 : decode cL_build 210 = .ok (.iconst 4, 1) := by decide +kernel
theorem dL_build_211 : decode cL_build 211 = .ok (.iload 5, 2) := by decide +kernel
theorem dL_build_213 : decode cL_build 213 = .ok (.bipush 8, 2) := by decide +kernel
theorem dL_build_215 : decode cL_build 215 = .ok (.ishr, 1) := by decide +kernel
theorem dL_build_216 : decode cL_build 216 = .ok (.bipush 15, 2) := by decide +kernel
theorem dL_build_218 : decode cL_build 218 = .ok (.iand, 1) := by decide +kernel
theorem dL_build_219 : decode cL_build 219 = .ok (.iload_n 3, 1) := by decide +kernel
theorem dL_build_220 : decode cL_build 220 = .ok (.irem, 1) := by decide +kernel
theorem dL_build_221 : decode cL_build 221 = .ok (.iload 5, 2) := by decide +kernel
theorem dL_build_223 : decode cL_build 223 = .ok (.bipush 12, 2) := by decide +kernel
theorem dL_build_225 : decode cL_build 225 = .ok (.ishr, 1) := by decide +kernel
theorem dL_build_226 : decode cL_build 226 = .ok (.bipush 15, 2) := by decide +kernel
theorem dL_build_228 : decode cL_build 228 = .ok (.iand, 1) := by decide +kernel
theorem dL_build_229 : decode cL_build 229 = .ok (.iload_n 3, 1) := by decide +kernel
theorem dL_build_230 : decode cL_build 230 = .ok (.irem, 1) := by decide +kernel
theorem dL_build_231 : decode cL_build 231 = .ok (.bipush 32, 2) := by decide +kernel
theorem dL_build_233 : decode cL_build 233 = .ok (.invokestatic 30, 3) := by decide +kernel
theorem dL_build_236 : decode cL_build 236 = .ok (.pop, 1) := by decide +kernel
theorem dL_build_237 : decode cL_build 237 = .ok (.iload 5, 2) := by decide +kernel
theorem dL_build_239 : decode cL_build 239 = .ok (.iconst 4, 1) := by decide +kernel
theorem dL_build_240 : decode cL_build 240 = .ok (.ishr, 1) := by decide +kernel
theorem dL_build_241 : decode cL_build 241 = .ok (.bipush 15, 2) := by decide +kernel
theorem dL_build_243 : decode cL_build 243 = .ok (.iand, 1) := by decide +kernel
theorem dL_build_244 : decode cL_build 244 = .ok (.iconst 3, 1) := by decide +kernel
theorem dL_build_245 : decode cL_build 245 = .ok (.if_icmp .ne 25, 3) := by decide +kernel
theorem dL_build_248 : decode cL_build 248 = .ok (.aload_n 1, 1) := by decide +kernel
theorem dL_build_249 : decode cL_build 249 = .ok (.iconst 5, 1) := by decide +kernel
theorem dL_build_250 : decode cL_build 250 = .ok (.iload 5, 2) := by decide +kernel
theorem dL_build_252 : decode cL_build 252 = .ok (.bipush 8, 2) := by decide +kernel
theorem dL_build_254 : decode cL_build 254 = .ok (.ishr, 1) := by decide +kernel
theorem dL_build_255 : decode cL_build 255 = .ok (.bipush 7, 2) := by decide +kernel
theorem dL_build_257 : decode cL_build 257 = .ok (.iand, 1) := by decide +kernel
theorem dL_build_258 : decode cL_build 258 = .ok (.iload 6, 2) := by decide +kernel
theorem dL_build_260 : decode cL_build 260 = .ok (.iconst 2, 1) := by decide +kernel
theorem dL_build_261 : decode cL_build 261 = .ok (.idiv, 1) := by decide +kernel
theorem dL_build_262 : decode cL_build 262 = .ok (.irem, 1) := by decide +kernel
theorem dL_build_263 : decode cL_build 263 = .ok (.iconst 0, 1) := by decide +kernel
theorem dL_build_264 : decode cL_build 264 = .ok (.bipush 32, 2) := by decide +kernel
theorem dL_build_266 : decode cL_build 266 = .ok (.invokestatic 30, 3) := by decide +kernel
theorem dL_build_269 : decode cL_build 269 = .ok (.pop, 1) := by decide +kernel
theorem dL_build_270 : decode cL_build 270 = .ok (.iload 5, 2) := by decide +kernel
theorem dL_build_272 : decode cL_build 272 = .ok (.iconst 4, 1) := by decide +kernel
theorem dL_build_273 : decode cL_build 273 = .ok (.ishr, 1) := by decide +kernel
theorem dL_build_274 : decode cL_build 274 = .ok (.bipush 15, 2) := by decide +kernel
theorem dL_build_276 : decode cL_build 276 = .ok (.iand, 1) := by decide +kernel
theorem dL_build_277 : decode cL_build 277 = .ok (.bipush 11, 2) := by decide +kernel
theorem dL_build_279 : decode cL_build 279 = .ok (.if_icmp .ne 30, 3) := by decide +kernel
theorem dL_build_282 : decode cL_build 282 = .ok (.aload_n 1, 1) := by decide +kernel
theorem dL_build_283 : decode cL_build 283 = .ok (.bipush 6, 2) := by decide +kernel
theorem dL_build_285 : decode cL_build 285 = .ok (.iload 5, 2) := by decide +kernel
theorem dL_build_287 : decode cL_build 287 = .ok (.bipush 8, 2) := by decide +kernel
theorem dL_build_289 : decode cL_build 289 = .ok (.ishr, 1) := by decide +kernel
theorem dL_build_290 : decode cL_build 290 = .ok (.sipush 511, 3) := by decide +kernel
theorem dL_build_293 : decode cL_build 293 = .ok (.iand, 1) := by decide +kernel
theorem dL_build_294 : decode cL_build 294 = .ok (.iconst 1, 1) := by decide +kernel
theorem dL_build_295 : decode cL_build 295 = .ok (.iload 5, 2) := by decide +kernel
theorem dL_build_297 : decode cL_build 297 = .ok (.bipush 17, 2) := by decide +kernel
theorem dL_build_299 : decode cL_build 299 = .ok (.ishr, 1) := by decide +kernel
theorem dL_build_300 : decode cL_build 300 = .ok (.iconst 3, 1) := by decide +kernel
theorem dL_build_301 : decode cL_build 301 = .ok (.iand, 1) := by decide +kernel
theorem dL_build_302 : decode cL_build 302 = .ok (.iadd, 1) := by decide +kernel
theorem dL_build_303 : decode cL_build 303 = .ok (.bipush 32, 2) := by decide +kernel
theorem dL_build_305 : decode cL_build 305 = .ok (.invokestatic 30, 3) := by decide +kernel
theorem dL_build_308 : decode cL_build 308 = .ok (.pop, 1) := by decide +kernel
theorem dL_build_309 : decode cL_build 309 = .ok (.iload 5, 2) := by decide +kernel
theorem dL_build_311 : decode cL_build 311 = .ok (.bipush 20, 2) := by decide +kernel
theorem dL_build_313 : decode cL_build 313 = .ok (.ishr, 1) := by decide +kernel
theorem dL_build_314 : decode cL_build 314 = .ok (.iconst 3, 1) := by decide +kernel
theorem dL_build_315 : decode cL_build 315 = .ok (.iand, 1) := by decide +kernel
theorem dL_build_316 : decode cL_build 316 = .ok (.ifCond .ne 33, 3) := by decide +kernel
theorem dL_build_319 : decode cL_build 319 = .ok (.iconst 0, 1) := by decide +kernel
theorem dL_build_320 : decode cL_build 320 = .ok (.istore 7, 2) := by decide +kernel
theorem dL_build_322 : decode cL_build 322 = .ok (.iload 7, 2) := by decide +kernel
theorem dL_build_324 : decode cL_build 324 = .ok (.iload_n 3, 1) := by decide +kernel
theorem dL_build_325 : decode cL_build 325 = .ok (.if_icmp .ge 24, 3) := by decide +kernel
theorem dL_build_328 : decode cL_build 328 = .ok (.aload_n 1, 1) := by decide +kernel
theorem dL_build_329 : decode cL_build 329 = .ok (.iconst 2, 1) := by decide +kernel
theorem dL_build_330 : decode cL_build 330 = .ok (.iload 7, 2) := by decide +kernel
theorem dL_build_332 : decode cL_build 332 = .ok (.iconst 0, 1) := by decide +kernel
theorem dL_build_333 : decode cL_build 333 = .ok (.aload_n 1, 1) := by decide +kernel
theorem dL_build_334 : decode cL_build 334 = .ok (.iload 7, 2) := by decide +kernel
theorem dL_build_336 : decode cL_build 336 = .ok (.invokevirtual 41, 3) := by decide +kernel
theorem dL_build_339 : decode cL_build 339 = .ok (.invokestatic 30, 3) := by decide +kernel
theorem dL_build_342 : decode cL_build 342 = .ok (.pop, 1) := by decide +kernel
theorem dL_build_343 : decode cL_build 343 = .ok (.iinc 7 1, 3) := by decide +kernel
theorem dL_build_346 : decode cL_build 346 = .ok (.goto (-24), 3) := by decide +kernel
theorem dL_build_349 : decode cL_build 349 = .ok (.iload 5, 2) := by decide +kernel
theorem dL_build_351 : decode cL_build 351 = .ok (.bipush 22, 2) := by decide +kernel
theorem dL_build_353 : decode cL_build 353 = .ok (.ishr, 1) := by decide +kernel
theorem dL_build_354 : decode cL_build 354 = .ok (.iconst 3, 1) := by decide +kernel
theorem dL_build_355 : decode cL_build 355 = .ok (.iand, 1) := by decide +kernel
theorem dL_build_356 : decode cL_build 356 = .ok (.ifCond .ne 23, 3) := by decide +kernel
theorem dL_build_359 : decode cL_build 359 = .ok (.aload_n 1, 1) := by decide +kernel
theorem dL_build_360 : decode cL_build 360 = .ok (.iconst 3, 1) := by decide +kernel
theorem dL_build_361 : decode cL_build 361 = .ok (.iload 5, 2) := by decide +kernel
theorem dL_build_363 : decode cL_build 363 = .ok (.bipush 24, 2) := by decide +kernel
theorem dL_build_365 : decode cL_build 365 = .ok (.ishr, 1) := by decide +kernel
theorem dL_build_366 : decode cL_build 366 = .ok (.bipush 15, 2) := by decide +kernel
theorem dL_build_368 : decode cL_build 368 = .ok (.iand, 1) := by decide +kernel
theorem dL_build_369 : decode cL_build 369 = .ok (.iload 6, 2) := by decide +kernel
theorem dL_build_371 : decode cL_build 371 = .ok (.irem, 1) := by decide +kernel
theorem dL_build_372 : decode cL_build 372 = .ok (.iconst 0, 1) := by decide +kernel
theorem dL_build_373 : decode cL_build 373 = .ok (.bipush 32, 2) := by decide +kernel
theorem dL_build_375 : decode cL_build 375 = .ok (.invokestatic 30, 3) := by decide +kernel
theorem dL_build_378 : decode cL_build 378 = .ok (.pop, 1) := by decide +kernel
theorem dL_build_379 : decode cL_build 379 = .ok (.iinc 4 1, 3) := by decide +kernel
theorem dL_build_382 : decode cL_build 382 = .ok (.goto (-323), 3) := by decide +kernel
theorem dL_build_385 : decode cL_build 385 = .ok (.aload_n 1, 1) := by decide +kernel
theorem dL_build_386 : decode cL_build 386 = .ok (.areturn, 1) := by decide +kernel
theorem dL_act_0 : decode cL_act 0 = .ok (.iload_n 1, 1) := by decide +kernel
theorem dL_act_1 : decode cL_act 1 = .ok (.tableswitch 100 0 6 #[43, 50, 58, 66, 72, 79, 93], 43) := by decide +kernel
theorem dL_act_44 : decode cL_act 44 = .ok (.aload_n 0, 1) := by decide +kernel
theorem dL_act_45 : decode cL_act 45 = .ok (.iload_n 2, 1) := by decide +kernel
theorem dL_act_46 : decode cL_act 46 = .ok (.iload_n 3, 1) := by decide +kernel
theorem dL_act_47 : decode cL_act 47 = .ok (.invokevirtual 44, 3) := by decide +kernel
theorem dL_act_50 : decode cL_act 50 = .ok (.ireturn, 1) := by decide +kernel
theorem dL_act_51 : decode cL_act 51 = .ok (.aload_n 0, 1) := by decide +kernel
theorem dL_act_52 : decode cL_act 52 = .ok (.iload_n 2, 1) := by decide +kernel
theorem dL_act_53 : decode cL_act 53 = .ok (.iload 4, 2) := by decide +kernel
theorem dL_act_55 : decode cL_act 55 = .ok (.invokevirtual 48, 3) := by decide +kernel
theorem dL_act_58 : decode cL_act 58 = .ok (.ireturn, 1) := by decide +kernel
theorem dL_act_59 : decode cL_act 59 = .ok (.aload_n 0, 1) := by decide +kernel
theorem dL_act_60 : decode cL_act 60 = .ok (.iload_n 2, 1) := by decide +kernel
theorem dL_act_61 : decode cL_act 61 = .ok (.iload 4, 2) := by decide +kernel
theorem dL_act_63 : decode cL_act 63 = .ok (.invokevirtual 52, 3) := by decide +kernel
theorem dL_act_66 : decode cL_act 66 = .ok (.ireturn, 1) := by decide +kernel
theorem dL_act_67 : decode cL_act 67 = .ok (.aload_n 0, 1) := by decide +kernel
theorem dL_act_68 : decode cL_act 68 = .ok (.iload_n 2, 1) := by decide +kernel
theorem dL_act_69 : decode cL_act 69 = .ok (.invokevirtual 55, 3) := by decide +kernel
theorem dL_act_72 : decode cL_act 72 = .ok (.ireturn, 1) := by decide +kernel
theorem dL_act_73 : decode cL_act 73 = .ok (.aload_n 0, 1) := by decide +kernel
theorem dL_act_74 : decode cL_act 74 = .ok (.iload_n 2, 1) := by decide +kernel
theorem dL_act_75 : decode cL_act 75 = .ok (.iload_n 3, 1) := by decide +kernel
theorem dL_act_76 : decode cL_act 76 = .ok (.invokevirtual 58, 3) := by decide +kernel
theorem dL_act_79 : decode cL_act 79 = .ok (.ireturn, 1) := by decide +kernel
theorem dL_act_80 : decode cL_act 80 = .ok (.aload_n 0, 1) := by decide +kernel
theorem dL_act_81 : decode cL_act 81 = .ok (.iload_n 2, 1) := by decide +kernel
theorem dL_act_82 : decode cL_act 82 = .ok (.invokevirtual 61, 3) := by decide +kernel
theorem dL_act_85 : decode cL_act 85 = .ok (.ifCond .eq 7, 3) := by decide +kernel
theorem dL_act_88 : decode cL_act 88 = .ok (.iconst 1, 1) := by decide +kernel
theorem dL_act_89 : decode cL_act 89 = .ok (.goto 4, 3) := by decide +kernel
theorem dL_act_92 : decode cL_act 92 = .ok (.iconst 0, 1) := by decide +kernel
theorem dL_act_93 : decode cL_act 93 = .ok (.ireturn, 1) := by decide +kernel
theorem dL_act_94 : decode cL_act 94 = .ok (.aload_n 0, 1) := by decide +kernel
theorem dL_act_95 : decode cL_act 95 = .ok (.iload_n 2, 1) := by decide +kernel
theorem dL_act_96 : decode cL_act 96 = .ok (.iload_n 3, 1) := by decide +kernel
theorem dL_act_97 : decode cL_act 97 = .ok (.invokevirtual 65, 3) := by decide +kernel
theorem dL_act_100 : decode cL_act 100 = .ok (.ireturn, 1) := by decide +kernel
theorem dL_act_101 : decode cL_act 101 = .ok (.aload_n 0, 1) := by decide +kernel
theorem dL_act_102 : decode cL_act 102 = .ok (.invokevirtual 68, 3) := by decide +kernel
theorem dL_act_105 : decode cL_act 105 = .ok (.ireturn, 1) := by decide +kernel
theorem dL_act_106 : decode cL_act 106 = .ok (.astore 5, 2) := by decide +kernel
theorem dL_act_108 : decode cL_act 108 = .ok (.bipush (-2), 2) := by decide +kernel
theorem dL_act_110 : decode cL_act 110 = .ok (.ireturn, 1) := by decide +kernel
theorem dL_act_111 : decode cL_act 111 = .ok (.astore 5, 2) := by decide +kernel
theorem dL_act_113 : decode cL_act 113 = .ok (.bipush (-3), 2) := by decide +kernel
theorem dL_act_115 : decode cL_act 115 = .ok (.ireturn, 1) := by decide +kernel
theorem dL_act_116 : decode cL_act 116 = .ok (.astore 5, 2) := by decide +kernel
theorem dL_act_118 : decode cL_act 118 = .ok (.bipush (-3), 2) := by decide +kernel
theorem dL_act_120 : decode cL_act 120 = .ok (.ireturn, 1) := by decide +kernel
theorem dL_act_121 : decode cL_act 121 = .ok (.astore 5, 2) := by decide +kernel
theorem dL_act_123 : decode cL_act 123 = .ok (.bipush (-3), 2) := by decide +kernel
theorem dL_act_125 : decode cL_act 125 = .ok (.ireturn, 1) := by decide +kernel
theorem dL_state_0 : decode cL_state 0 = .ok (.iconst 0, 1) := by decide +kernel
theorem dL_state_1 : decode cL_state 1 = .ok (.istore_n 1, 1) := by decide +kernel
theorem dL_state_2 : decode cL_state 2 = .ok (.iconst 0, 1) := by decide +kernel
theorem dL_state_3 : decode cL_state 3 = .ok (.istore_n 2, 1) := by decide +kernel
theorem dL_state_4 : decode cL_state 4 = .ok (.iload_n 2, 1) := by decide +kernel
theorem dL_state_5 : decode cL_state 5 = .ok (.bipush 8, 2) := by decide +kernel
theorem dL_state_7 : decode cL_state 7 = .ok (.if_icmp .ge 20, 3) := by decide +kernel
theorem dL_state_10 : decode cL_state 10 = .ok (.bipush 31, 2) := by decide +kernel
theorem dL_state_12 : decode cL_state 12 = .ok (.iload_n 1, 1) := by decide +kernel
theorem dL_state_13 : decode cL_state 13 = .ok (.imul, 1) := by decide +kernel
theorem dL_state_14 : decode cL_state 14 = .ok (.aload_n 0, 1) := by decide +kernel
theorem dL_state_15 : decode cL_state 15 = .ok (.iload_n 2, 1) := by decide +kernel
theorem dL_state_16 : decode cL_state 16 = .ok (.invokevirtual 34, 3) := by decide +kernel
theorem dL_state_19 : decode cL_state 19 = .ok (.iadd, 1) := by decide +kernel
theorem dL_state_20 : decode cL_state 20 = .ok (.istore_n 1, 1) := by decide +kernel
theorem dL_state_21 : decode cL_state 21 = .ok (.iinc 2 1, 3) := by decide +kernel
theorem dL_state_24 : decode cL_state 24 = .ok (.goto (-20), 3) := by decide +kernel
theorem dL_state_27 : decode cL_state 27 = .ok (.iconst 0, 1) := by decide +kernel
theorem dL_state_28 : decode cL_state 28 = .ok (.istore_n 2, 1) := by decide +kernel
theorem dL_state_29 : decode cL_state 29 = .ok (.iload_n 2, 1) := by decide +kernel
theorem dL_state_30 : decode cL_state 30 = .ok (.iconst 2, 1) := by decide +kernel
theorem dL_state_31 : decode cL_state 31 = .ok (.if_icmp .ge 20, 3) := by decide +kernel
theorem dL_state_34 : decode cL_state 34 = .ok (.bipush 31, 2) := by decide +kernel
theorem dL_state_36 : decode cL_state 36 = .ok (.iload_n 1, 1) := by decide +kernel
theorem dL_state_37 : decode cL_state 37 = .ok (.imul, 1) := by decide +kernel
theorem dL_state_38 : decode cL_state 38 = .ok (.aload_n 0, 1) := by decide +kernel
theorem dL_state_39 : decode cL_state 39 = .ok (.iload_n 2, 1) := by decide +kernel
theorem dL_state_40 : decode cL_state 40 = .ok (.invokevirtual 38, 3) := by decide +kernel
theorem dL_state_43 : decode cL_state 43 = .ok (.iadd, 1) := by decide +kernel
theorem dL_state_44 : decode cL_state 44 = .ok (.istore_n 1, 1) := by decide +kernel
theorem dL_state_45 : decode cL_state 45 = .ok (.iinc 2 1, 3) := by decide +kernel
theorem dL_state_48 : decode cL_state 48 = .ok (.goto (-19), 3) := by decide +kernel
theorem dL_state_51 : decode cL_state 51 = .ok (.iconst 0, 1) := by decide +kernel
theorem dL_state_52 : decode cL_state 52 = .ok (.istore_n 2, 1) := by decide +kernel
theorem dL_state_53 : decode cL_state 53 = .ok (.iload_n 2, 1) := by decide +kernel
theorem dL_state_54 : decode cL_state 54 = .ok (.aload_n 0, 1) := by decide +kernel
theorem dL_state_55 : decode cL_state 55 = .ok (.iconst 0, 1) := by decide +kernel
theorem dL_state_56 : decode cL_state 56 = .ok (.invokevirtual 34, 3) := by decide +kernel
theorem dL_state_59 : decode cL_state 59 = .ok (.if_icmp .ge 29, 3) := by decide +kernel
theorem dL_state_62 : decode cL_state 62 = .ok (.bipush 31, 2) := by decide +kernel
theorem dL_state_64 : decode cL_state 64 = .ok (.bipush 31, 2) := by decide +kernel
theorem dL_state_66 : decode cL_state 66 = .ok (.iload_n 1, 1) := by decide +kernel
theorem dL_state_67 : decode cL_state 67 = .ok (.imul, 1) := by decide +kernel
theorem dL_state_68 : decode cL_state 68 = .ok (.aload_n 0, 1) := by decide +kernel
theorem dL_state_69 : decode cL_state 69 = .ok (.iload_n 2, 1) := by decide +kernel
theorem dL_state_70 : decode cL_state 70 = .ok (.invokevirtual 41, 3) := by decide +kernel
theorem dL_state_73 : decode cL_state 73 = .ok (.iadd, 1) := by decide +kernel
theorem dL_state_74 : decode cL_state 74 = .ok (.imul, 1) := by decide +kernel
theorem dL_state_75 : decode cL_state 75 = .ok (.aload_n 0, 1) := by decide +kernel
theorem dL_state_76 : decode cL_state 76 = .ok (.iload_n 2, 1) := by decide +kernel
theorem dL_state_77 : decode cL_state 77 = .ok (.invokevirtual 79, 3) := by decide +kernel
theorem dL_state_80 : decode cL_state 80 = .ok (.iadd, 1) := by decide +kernel
theorem dL_state_81 : decode cL_state 81 = .ok (.istore_n 1, 1) := by decide +kernel
theorem dL_state_82 : decode cL_state 82 = .ok (.iinc 2 1, 3) := by decide +kernel
theorem dL_state_85 : decode cL_state 85 = .ok (.goto (-32), 3) := by decide +kernel
theorem dL_state_88 : decode cL_state 88 = .ok (.iconst 0, 1) := by decide +kernel
theorem dL_state_89 : decode cL_state 89 = .ok (.istore_n 2, 1) := by decide +kernel
theorem dL_state_90 : decode cL_state 90 = .ok (.iload_n 2, 1) := by decide +kernel
theorem dL_state_91 : decode cL_state 91 = .ok (.aload_n 0, 1) := by decide +kernel
theorem dL_state_92 : decode cL_state 92 = .ok (.iconst 2, 1) := by decide +kernel
theorem dL_state_93 : decode cL_state 93 = .ok (.invokevirtual 38, 3) := by decide +kernel
theorem dL_state_96 : decode cL_state 96 = .ok (.iconst 2, 1) := by decide +kernel
theorem dL_state_97 : decode cL_state 97 = .ok (.idiv, 1) := by decide +kernel
theorem dL_state_98 : decode cL_state 98 = .ok (.if_icmp .ge 28, 3) := by decide +kernel
theorem dL_state_101 : decode cL_state 101 = .ok (.bipush 31, 2) := by decide +kernel
theorem dL_state_103 : decode cL_state 103 = .ok (.iload_n 1, 1) := by decide +kernel
theorem dL_state_104 : decode cL_state 104 = .ok (.imul, 1) := by decide +kernel
theorem dL_state_105 : decode cL_state 105 = .ok (.aload_n 0, 1) := by decide +kernel
theorem dL_state_106 : decode cL_state 106 = .ok (.iload_n 2, 1) := by decide +kernel
theorem dL_state_107 : decode cL_state 107 = .ok (.invokevirtual 82, 3) := by decide +kernel
theorem dL_state_110 : decode cL_state 110 = .ok (.ifCond .eq 7, 3) := by decide +kernel
theorem dL_state_113 : decode cL_state 113 = .ok (.iconst 1, 1) := by decide +kernel
theorem dL_state_114 : decode cL_state 114 = .ok (.goto 4, 3) := by decide +kernel
theorem dL_state_117 : decode cL_state 117 = .ok (.iconst 0, 1) := by decide +kernel
theorem dL_state_118 : decode cL_state 118 = .ok (.iadd, 1) := by decide +kernel
theorem dL_state_119 : decode cL_state 119 = .ok (.istore_n 1, 1) := by decide +kernel
theorem dL_state_120 : decode cL_state 120 = .ok (.iinc 2 1, 3) := by decide +kernel
theorem dL_state_123 : decode cL_state 123 = .ok (.goto (-33), 3) := by decide +kernel
theorem dL_state_126 : decode cL_state 126 = .ok (.iload_n 1, 1) := by decide +kernel
theorem dL_state_127 : decode cL_state 127 = .ok (.ireturn, 1) := by decide +kernel
theorem dL_isLine_0 : decode cL_isLine 0 = .ok (.iload_n 1, 1) := by decide +kernel
theorem dL_isLine_1 : decode cL_isLine 1 = .ok (.aload_n 2, 1) := by decide +kernel
theorem dL_isLine_2 : decode cL_isLine 2 = .ok (.invokevirtual 7, 3) := by decide +kernel
theorem dL_isLine_5 : decode cL_isLine 5 = .ok (.if_icmp .eq 5, 3) := by decide +kernel
theorem dL_isLine_8 : decode cL_isLine 8 = .ok (.iconst 0, 1) := by decide +kernel
theorem dL_isLine_9 : decode cL_isLine 9 = .ok (.ireturn, 1) := by decide +kernel
theorem dL_isLine_10 : decode cL_isLine 10 = .ok (.iconst 0, 1) := by decide +kernel
theorem dL_isLine_11 : decode cL_isLine 11 = .ok (.istore_n 3, 1) := by decide +kernel
theorem dL_isLine_12 : decode cL_isLine 12 = .ok (.iload_n 3, 1) := by decide +kernel
theorem dL_isLine_13 : decode cL_isLine 13 = .ok (.iload_n 1, 1) := by decide +kernel
theorem dL_isLine_14 : decode cL_isLine 14 = .ok (.if_icmp .ge 24, 3) := by decide +kernel
theorem dL_isLine_17 : decode cL_isLine 17 = .ok (.aload_n 0, 1) := by decide +kernel
theorem dL_isLine_18 : decode cL_isLine 18 = .ok (.iload_n 3, 1) := by decide +kernel
theorem dL_isLine_19 : decode cL_isLine 19 = .ok (.invokevirtual 276, 3) := by decide +kernel
theorem dL_isLine_22 : decode cL_isLine 22 = .ok (.aload_n 2, 1) := by decide +kernel
theorem dL_isLine_23 : decode cL_isLine 23 = .ok (.iload_n 3, 1) := by decide +kernel
theorem dL_isLine_24 : decode cL_isLine 24 = .ok (.invokevirtual 13, 3) := by decide +kernel
theorem dL_isLine_27 : decode cL_isLine 27 = .ok (.if_icmp .eq 5, 3) := by decide +kernel
theorem dL_isLine_30 : decode cL_isLine 30 = .ok (.iconst 0, 1) := by decide +kernel
theorem dL_isLine_31 : decode cL_isLine 31 = .ok (.ireturn, 1) := by decide +kernel
theorem dL_isLine_32 : decode cL_isLine 32 = .ok (.iinc 3 1, 3) := by decide +kernel
theorem dL_isLine_35 : decode cL_isLine 35 = .ok (.goto (-23), 3) := by decide +kernel
theorem dL_isLine_38 : decode cL_isLine 38 = .ok (.iconst 1, 1) := by decide +kernel
theorem dL_isLine_39 : decode cL_isLine 39 = .ok (.ireturn, 1) := by decide +kernel
theorem dL_runs_0 : decode cL_runs 0 = .ok (.aload_n 0, 1) := by decide +kernel
theorem dL_runs_1 : decode cL_runs 1 = .ok (.invokevirtual 162, 3) := by decide +kernel
theorem dL_runs_4 : decode cL_runs 4 = .ok (.ireturn, 1) := by decide +kernel
theorem dL_runs_5 : decode cL_runs 5 = .ok (.astore_n 1, 1) := by decide +kernel
theorem dL_runs_6 : decode cL_runs 6 = .ok (.iconst (-1), 1) := by decide +kernel
theorem dL_runs_7 : decode cL_runs 7 = .ok (.ireturn, 1) := by decide +kernel
theorem dL_runs_8 : decode cL_runs 8 = .ok (.astore_n 1, 1) := by decide +kernel
theorem dL_runs_9 : decode cL_runs 9 = .ok (.bipush (-2), 2) := by decide +kernel
theorem dL_runs_11 : decode cL_runs 11 = .ok (.ireturn, 1) := by decide +kernel
theorem dL_faults_0 : decode cL_faults 0 = .ok (.aload_n 0, 1) := by decide +kernel
theorem dL_faults_1 : decode cL_faults 1 = .ok (.aload_n 1, 1) := by decide +kernel
theorem dL_faults_2 : decode cL_faults 2 = .ok (.invokestatic 159, 3) := by decide +kernel
theorem dL_faults_5 : decode cL_faults 5 = .ok (.aload_n 0, 1) := by decide +kernel
theorem dL_faults_6 : decode cL_faults 6 = .ok (.invokestatic 173, 3) := by decide +kernel
theorem dL_faults_9 : decode cL_faults 9 = .ok (.iconst (-1), 1) := by decide +kernel
theorem dL_faults_10 : decode cL_faults 10 = .ok (.if_icmp .ne 15, 3) := by decide +kernel
theorem dL_faults_13 : decode cL_faults 13 = .ok (.aload_n 0, 1) := by decide +kernel
theorem dL_faults_14 : decode cL_faults 14 = .ok (.invokevirtual 165, 3) := by decide +kernel
theorem dL_faults_17 : decode cL_faults 17 = .ok (.iload_n 2, 1) := by decide +kernel
theorem dL_faults_18 : decode cL_faults 18 = .ok (.if_icmp .ne 7, 3) := by decide +kernel
theorem dL_faults_21 : decode cL_faults 21 = .ok (.iconst 1, 1) := by decide +kernel
theorem dL_faults_22 : decode cL_faults 22 = .ok (.goto 4, 3) := by decide +kernel
theorem dL_faults_25 : decode cL_faults 25 = .ok (.iconst 0, 1) := by decide +kernel
theorem dL_faults_26 : decode cL_faults 26 = .ok (.ireturn, 1) := by decide +kernel
