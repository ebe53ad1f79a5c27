theorem d_X6_init_0 : decode b_X6_init 0 = .ok (.aload_n 0, 1) := by decide +kernel
theorem d_X6_init_1 : decode b_X6_init 1 = .ok (.invokespecial 1, 3) := by decide +kernel
theorem d_X6_init_4 : decode b_X6_init 4 = .ok (.aload_n 0, 1) := by decide +kernel
theorem d_X6_init_5 : decode b_X6_init 5 = .ok (.sipush 2048, 3) := by decide +kernel
theorem d_X6_init_8 : decode b_X6_init 8 = .ok (.newarray .int, 2) := by decide +kernel
theorem d_X6_init_10 : decode b_X6_init 10 = .ok (.putfield 7, 3) := by decide +kernel
theorem d_X6_init_13 : decode b_X6_init 13 = .ok (.aload_n 0, 1) := by decide +kernel
theorem d_X6_init_14 : decode b_X6_init 14 = .ok (.iconst 2, 1) := by decide +kernel
theorem d_X6_init_15 : decode b_X6_init 15 = .ok (.newarray .boolean, 2) := by decide +kernel
theorem d_X6_init_17 : decode b_X6_init 17 = .ok (.putfield 13, 3) := by decide +kernel
theorem d_X6_init_20 : decode b_X6_init 20 = .ok (.aload_n 0, 1) := by decide +kernel
theorem d_X6_init_21 : decode b_X6_init 21 = .ok (.iconst 2, 1) := by decide +kernel
theorem d_X6_init_22 : decode b_X6_init 22 = .ok (.newarray .boolean, 2) := by decide +kernel
theorem d_X6_init_24 : decode b_X6_init 24 = .ok (.putfield 17, 3) := by decide +kernel
theorem d_X6_init_27 : decode b_X6_init 27 = .ok (.aload_n 0, 1) := by decide +kernel
theorem d_X6_init_28 : decode b_X6_init 28 = .ok (.bipush 64, 2) := by decide +kernel
theorem d_X6_init_30 : decode b_X6_init 30 = .ok (.newarray .int, 2) := by decide +kernel
theorem d_X6_init_32 : decode b_X6_init 32 = .ok (.putfield 20, 3) := by decide +kernel
theorem d_X6_init_35 : decode b_X6_init 35 = .ok (.aload_n 0, 1) := by decide +kernel
theorem d_X6_init_36 : decode b_X6_init 36 = .ok (.bipush 64, 2) := by decide +kernel
theorem d_X6_init_38 : decode b_X6_init 38 = .ok (.newarray .int, 2) := by decide +kernel
theorem d_X6_init_40 : decode b_X6_init 40 = .ok (.putfield 23, 3) := by decide +kernel
theorem d_X6_init_43 : decode b_X6_init 43 = .ok (.aload_n 0, 1) := by decide +kernel
theorem d_X6_init_44 : decode b_X6_init 44 = .ok (.sipush 600, 3) := by decide +kernel
theorem d_X6_init_47 : decode b_X6_init 47 = .ok (.newarray .int, 2) := by decide +kernel
theorem d_X6_init_49 : decode b_X6_init 49 = .ok (.putfield 26, 3) := by decide +kernel
theorem d_X6_init_52 : decode b_X6_init 52 = .ok (.aload_n 0, 1) := by decide +kernel
theorem d_X6_init_53 : decode b_X6_init 53 = .ok (.iconst 2, 1) := by decide +kernel
theorem d_X6_init_54 : decode b_X6_init 54 = .ok (.newarray .int, 2) := by decide +kernel
theorem d_X6_init_56 : decode b_X6_init 56 = .ok (.putfield 29, 3) := by decide +kernel
theorem d_X6_init_59 : decode b_X6_init 59 = .ok (.aload_n 0, 1) := by decide +kernel
theorem d_X6_init_60 : decode b_X6_init 60 = .ok (.bipush 40, 2) := by decide +kernel
theorem d_X6_init_62 : decode b_X6_init 62 = .ok (.newarray .int, 2) := by decide +kernel
theorem d_X6_init_64 : decode b_X6_init 64 = .ok (.putfield 32, 3) := by decide +kernel
theorem d_X6_init_67 : decode b_X6_init 67 = .ok (.aload_n 0, 1) := by decide +kernel
theorem d_X6_init_68 : decode b_X6_init 68 = .ok (.iconst 2, 1) := by decide +kernel
theorem d_X6_init_69 : decode b_X6_init 69 = .ok (.newarray .int, 2) := by decide +kernel
theorem d_X6_init_71 : decode b_X6_init 71 = .ok (.putfield 35, 3) := by decide +kernel
theorem d_X6_init_74 : decode b_X6_init 74 = .ok (.aload_n 0, 1) := by decide +kernel
theorem d_X6_init_75 : decode b_X6_init 75 = .ok (.iconst 2, 1) := by decide +kernel
theorem d_X6_init_76 : decode b_X6_init 76 = .ok (.newarray .boolean, 2) := by decide +kernel
theorem d_X6_init_78 : decode b_X6_init 78 = .ok (.putfield 38, 3) := by decide +kernel
theorem d_X6_init_81 : decode b_X6_init 81 = .ok (.aload_n 0, 1) := by decide +kernel
theorem d_X6_init_82 : decode b_X6_init 82 = .ok (.iconst 2, 1) := by decide +kernel
theorem d_X6_init_83 : decode b_X6_init 83 = .ok (.newarray .int, 2) := by decide +kernel
theorem d_X6_init_85 : decode b_X6_init 85 = .ok (.putfield 41, 3) := by decide +kernel
theorem d_X6_init_88 : decode b_X6_init 88 = .ok (.aload_n 0, 1) := by decide +kernel
theorem d_X6_init_89 : decode b_X6_init 89 = .ok (.iconst 2, 1) := by decide +kernel
theorem d_X6_init_90 : decode b_X6_init 90 = .ok (.newarray .boolean, 2) := by decide +kernel
theorem d_X6_init_92 : decode b_X6_init 92 = .ok (.putfield 44, 3) := by decide +kernel
theorem d_X6_init_95 : decode b_X6_init 95 = .ok (.aload_n 0, 1) := by decide +kernel
theorem d_X6_init_96 : decode b_X6_init 96 = .ok (.iconst 2, 1) := by decide +kernel
theorem d_X6_init_97 : decode b_X6_init 97 = .ok (.newarray .int, 2) := by decide +kernel
theorem d_X6_init_99 : decode b_X6_init 99 = .ok (.putfield 47, 3) := by decide +kernel
theorem d_X6_init_102 : decode b_X6_init 102 = .ok (.aload_n 0, 1) := by decide +kernel
theorem d_X6_init_103 : decode b_X6_init 103 = .ok (.sipush 8192, 3) := by decide +kernel
theorem d_X6_init_106 : decode b_X6_init 106 = .ok (.newarray .int, 2) := by decide +kernel
theorem d_X6_init_108 : decode b_X6_init 108 = .ok (.putfield 50, 3) := by decide +kernel
theorem d_X6_init_111 : decode b_X6_init 111 = .ok (.aload_n 0, 1) := by decide +kernel
theorem d_X6_init_112 : decode b_X6_init 112 = .ok (.iconst 4, 1) := by decide +kernel
theorem d_X6_init_113 : decode b_X6_init 113 = .ok (.newarray .int, 2) := by decide +kernel
theorem d_X6_init_115 : decode b_X6_init 115 = .ok (.putfield 53, 3) := by decide +kernel
theorem d_X6_init_118 : decode b_X6_init 118 = .ok (.aload_n 0, 1) := by decide +kernel
theorem d_X6_init_119 : decode b_X6_init 119 = .ok (.iconst 4, 1) := by decide +kernel
theorem d_X6_init_120 : decode b_X6_init 120 = .ok (.newarray .int, 2) := by decide +kernel
theorem d_X6_init_122 : decode b_X6_init 122 = .ok (.putfield 56, 3) := by decide +kernel
theorem d_X6_init_125 : decode b_X6_init 125 = .ok (.aload_n 0, 1) := by decide +kernel
theorem d_X6_init_126 : decode b_X6_init 126 = .ok (.sipush 8192, 3) := by decide +kernel
theorem d_X6_init_129 : decode b_X6_init 129 = .ok (.newarray .int, 2) := by decide +kernel
theorem d_X6_init_131 : decode b_X6_init 131 = .ok (.putfield 59, 3) := by decide +kernel
theorem d_X6_init_134 : decode b_X6_init 134 = .ok (.aload_n 0, 1) := by decide +kernel
theorem d_X6_init_135 : decode b_X6_init 135 = .ok (.iconst 4, 1) := by decide +kernel
theorem d_X6_init_136 : decode b_X6_init 136 = .ok (.newarray .int, 2) := by decide +kernel
theorem d_X6_init_138 : decode b_X6_init 138 = .ok (.putfield 62, 3) := by decide +kernel
theorem d_X6_init_141 : decode b_X6_init 141 = .ok (.aload_n 0, 1) := by decide +kernel
theorem d_X6_init_142 : decode b_X6_init 142 = .ok (.sipush 600, 3) := by decide +kernel
theorem d_X6_init_145 : decode b_X6_init 145 = .ok (.newarray .int, 2) := by decide +kernel
theorem d_X6_init_147 : decode b_X6_init 147 = .ok (.putfield 65, 3) := by decide +kernel
theorem d_X6_init_150 : decode b_X6_init 150 = .ok (.aload_n 0, 1) := by decide +kernel
theorem d_X6_init_151 : decode b_X6_init 151 = .ok (.iconst 2, 1) := by decide +kernel
theorem d_X6_init_152 : decode b_X6_init 152 = .ok (.newarray .int, 2) := by decide +kernel
theorem d_X6_init_154 : decode b_X6_init 154 = .ok (.putfield 68, 3) := by decide +kernel
theorem d_X6_init_157 : decode b_X6_init 157 = .ok (.aload_n 0, 1) := by decide +kernel
theorem d_X6_init_158 : decode b_X6_init 158 = .ok (.sipush 4096, 3) := by decide +kernel
theorem d_X6_init_161 : decode b_X6_init 161 = .ok (.newarray .int, 2) := by decide +kernel
theorem d_X6_init_163 : decode b_X6_init 163 = .ok (.putfield 71, 3) := by decide +kernel
theorem d_X6_init_166 : decode b_X6_init 166 = .ok (.aload_n 0, 1) := by decide +kernel
theorem d_X6_init_167 : decode b_X6_init 167 = .ok (.iconst 2, 1) := by decide +kernel
theorem d_X6_init_168 : decode b_X6_init 168 = .ok (.newarray .int, 2) := by decide +kernel
theorem d_X6_init_170 : decode b_X6_init 170 = .ok (.putfield 74, 3) := by decide +kernel
theorem d_X6_init_173 : decode b_X6_init 173 = .ok (.aload_n 0, 1) := by decide +kernel
theorem d_X6_init_174 : decode b_X6_init 174 = .ok (.sipush 384, 3) := by decide +kernel
theorem d_X6_init_177 : decode b_X6_init 177 = .ok (.newarray .int, 2) := by decide +kernel
theorem d_X6_init_179 : decode b_X6_init 179 = .ok (.putfield 77, 3) := by decide +kernel
theorem d_X6_init_182 : decode b_X6_init 182 = .ok (.aload_n 0, 1) := by decide +kernel
theorem d_X6_init_183 : decode b_X6_init 183 = .ok (.iconst 2, 1) := by decide +kernel
theorem d_X6_init_184 : decode b_X6_init 184 = .ok (.newarray .int, 2) := by decide +kernel
theorem d_X6_init_186 : decode b_X6_init 186 = .ok (.putfield 80, 3) := by decide +kernel
theorem d_X6_init_189 : decode b_X6_init 189 = .ok (.aload_n 0, 1) := by decide +kernel
theorem d_X6_init_190 : decode b_X6_init 190 = .ok (.bipush 64, 2) := by decide +kernel
theorem d_X6_init_192 : decode b_X6_init 192 = .ok (.newarray .int, 2) := by decide +kernel
theorem d_X6_init_194 : decode b_X6_init 194 = .ok (.putfield 83, 3) := by decide +kernel
theorem d_X6_init_197 : decode b_X6_init 197 = .ok (.aload_n 0, 1) := by decide +kernel
theorem d_X6_init_198 : decode b_X6_init 198 = .ok (.bipush 8, 2) := by decide +kernel
theorem d_X6_init_200 : decode b_X6_init 200 = .ok (.newarray .int, 2) := by decide +kernel
theorem d_X6_init_202 : decode b_X6_init 202 = .ok (.putfield 86, 3) := by decide +kernel
theorem d_X6_init_205 : decode b_X6_init 205 = .ok (.aload_n 0, 1) := by decide +kernel
theorem d_X6_init_206 : decode b_X6_init 206 = .ok (.bipush 64, 2) := by decide +kernel
theorem d_X6_init_208 : decode b_X6_init 208 = .ok (.newarray .int, 2) := by decide +kernel
theorem d_X6_init_210 : decode b_X6_init 210 = .ok (.putfield 89, 3) := by decide +kernel
theorem d_X6_init_213 : decode b_X6_init 213 = .ok (.aload_n 0, 1) := by decide +kernel
theorem d_X6_init_214 : decode b_X6_init 214 = .ok (.bipush 8, 2) := by decide +kernel
theorem d_X6_init_216 : decode b_X6_init 216 = .ok (.newarray .long, 2) := by decide +kernel
theorem d_X6_init_218 : decode b_X6_init 218 = .ok (.putfield 92, 3) := by decide +kernel
theorem d_X6_init_221 : decode b_X6_init 221 = .ok (.aload_n 0, 1) := by decide +kernel
theorem d_X6_init_222 : decode b_X6_init 222 = .ok (.bipush 8, 2) := by decide +kernel
theorem d_X6_init_224 : decode b_X6_init 224 = .ok (.newarray .int, 2) := by decide +kernel
theorem d_X6_init_226 : decode b_X6_init 226 = .ok (.putfield 96, 3) := by decide +kernel
theorem d_X6_init_229 : decode b_X6_init 229 = .ok (.aload_n 0, 1) := by decide +kernel
theorem d_X6_init_230 : decode b_X6_init 230 = .ok (.bipush 64, 2) := by decide +kernel
theorem d_X6_init_232 : decode b_X6_init 232 = .ok (.newarray .int, 2) := by decide +kernel
theorem d_X6_init_234 : decode b_X6_init 234 = .ok (.putfield 99, 3) := by decide +kernel
theorem d_X6_init_237 : decode b_X6_init 237 = .ok (.aload_n 0, 1) := by decide +kernel
theorem d_X6_init_238 : decode b_X6_init 238 = .ok (.sipush 4096, 3) := by decide +kernel
theorem d_X6_init_241 : decode b_X6_init 241 = .ok (.newarray .int, 2) := by decide +kernel
theorem d_X6_init_243 : decode b_X6_init 243 = .ok (.putfield 102, 3) := by decide +kernel
theorem d_X6_init_246 : decode b_X6_init 246 = .ok (.aload_n 0, 1) := by decide +kernel
theorem d_X6_init_247 : decode b_X6_init 247 = .ok (.bipush 32, 2) := by decide +kernel
theorem d_X6_init_249 : decode b_X6_init 249 = .ok (.newarray .int, 2) := by decide +kernel
theorem d_X6_init_251 : decode b_X6_init 251 = .ok (.putfield 105, 3) := by decide +kernel
theorem d_X6_init_254 : decode b_X6_init 254 = .ok (.aload_n 0, 1) := by decide +kernel
theorem d_X6_init_255 : decode b_X6_init 255 = .ok (.bipush 32, 2) := by decide +kernel
theorem d_X6_init_257 : decode b_X6_init 257 = .ok (.newarray .int, 2) := by decide +kernel
theorem d_X6_init_259 : decode b_X6_init 259 = .ok (.putfield 108, 3) := by decide +kernel
theorem d_X6_init_262 : decode b_X6_init 262 = .ok (.aload_n 0, 1) := by decide +kernel
theorem d_X6_init_263 : decode b_X6_init 263 = .ok (.bipush 32, 2) := by decide +kernel
theorem d_X6_init_265 : decode b_X6_init 265 = .ok (.newarray .int, 2) := by decide +kernel
theorem d_X6_init_267 : decode b_X6_init 267 = .ok (.putfield 111, 3) := by decide +kernel
theorem d_X6_init_270 : decode b_X6_init 270 = .ok (.aload_n 0, 1) := by decide +kernel
theorem d_X6_init_271 : decode b_X6_init 271 = .ok (.bipush 32, 2) := by decide +kernel
theorem d_X6_init_273 : decode b_X6_init 273 = .ok (.newarray .int, 2) := by decide +kernel
theorem d_X6_init_275 : decode b_X6_init 275 = .ok (.putfield 114, 3) := by decide +kernel
theorem d_X6_init_278 : decode b_X6_init 278 = .ok (.iconst 2, 1) := by decide +kernel
theorem d_X6_init_279 : decode b_X6_init 279 = .ok (.istore_n 1, 1) := by decide +kernel
theorem d_X6_init_280 : decode b_X6_init 280 = .ok (.iconst 0, 1) := by decide +kernel
theorem d_X6_init_281 : decode b_X6_init 281 = .ok (.istore_n 2, 1) := by decide +kernel
theorem d_X6_init_282 : decode b_X6_init 282 = .ok (.iload_n 2, 1) := by decide +kernel
theorem d_X6_init_283 : decode b_X6_init 283 = .ok (.bipush 64, 2) := by decide +kernel
theorem d_X6_init_285 : decode b_X6_init 285 = .ok (.if_icmp .ge 55, 3) := by decide +kernel
theorem d_X6_init_288 : decode b_X6_init 288 = .ok (.iload_n 1, 1) := by decide +kernel
theorem d_X6_init_289 : decode b_X6_init 289 = .ok (.invokestatic 117, 3) := by decide +kernel
theorem d_X6_init_292 : decode b_X6_init 292 = .ok (.ifCond .ne 9, 3) := by decide +kernel
theorem d_X6_init_295 : decode b_X6_init 295 = .ok (.iinc 1 1, 3) := by decide +kernel
theorem d_X6_init_298 : decode b_X6_init 298 = .ok (.goto (-10), 3) := by decide +kernel
theorem d_X6_init_301 : decode b_X6_init 301 = .ok (.aload_n 0, 1) := by decide +kernel
theorem d_X6_init_302 : decode b_X6_init 302 = .ok (.getfield 89, 3) := by decide +kernel
theorem d_X6_init_305 : decode b_X6_init 305 = .ok (.iload_n 2, 1) := by decide +kernel
theorem d_X6_init_306 : decode b_X6_init 306 = .ok (.aload_n 0, 1) := by decide +kernel
theorem d_X6_init_307 : decode b_X6_init 307 = .ok (.iload_n 1, 1) := by decide +kernel
theorem d_X6_init_308 : decode b_X6_init 308 = .ok (.iconst 3, 1) := by decide +kernel
theorem d_X6_init_309 : decode b_X6_init 309 = .ok (.invokevirtual 121, 3) := by decide +kernel
theorem d_X6_init_312 : decode b_X6_init 312 = .ok (.iastore, 1) := by decide +kernel
theorem d_X6_init_313 : decode b_X6_init 313 = .ok (.iload_n 2, 1) := by decide +kernel
theorem d_X6_init_314 : decode b_X6_init 314 = .ok (.bipush 8, 2) := by decide +kernel
theorem d_X6_init_316 : decode b_X6_init 316 = .ok (.if_icmp .ge 15, 3) := by decide +kernel
theorem d_X6_init_319 : decode b_X6_init 319 = .ok (.aload_n 0, 1) := by decide +kernel
theorem d_X6_init_320 : decode b_X6_init 320 = .ok (.getfield 86, 3) := by decide +kernel
theorem d_X6_init_323 : decode b_X6_init 323 = .ok (.iload_n 2, 1) := by decide +kernel
theorem d_X6_init_324 : decode b_X6_init 324 = .ok (.aload_n 0, 1) := by decide +kernel
theorem d_X6_init_325 : decode b_X6_init 325 = .ok (.iload_n 1, 1) := by decide +kernel
theorem d_X6_init_326 : decode b_X6_init 326 = .ok (.iconst 2, 1) := by decide +kernel
theorem d_X6_init_327 : decode b_X6_init 327 = .ok (.invokevirtual 121, 3) := by decide +kernel
theorem d_X6_init_330 : decode b_X6_init 330 = .ok (.iastore, 1) := by decide +kernel
theorem d_X6_init_331 : decode b_X6_init 331 = .ok (.iinc 1 1, 3) := by decide +kernel
theorem d_X6_init_334 : decode b_X6_init 334 = .ok (.iinc 2 1, 3) := by decide +kernel
theorem d_X6_init_337 : decode b_X6_init 337 = .ok (.goto (-55), 3) := by decide +kernel
theorem d_X6_init_340 : decode b_X6_init 340 = .ok (.aload_n 0, 1) := by decide +kernel
theorem d_X6_init_341 : decode b_X6_init 341 = .ok (.getfield 68, 3) := by decide +kernel
theorem d_X6_init_344 : decode b_X6_init 344 = .ok (.iconst 0, 1) := by decide +kernel
theorem d_X6_init_345 : decode b_X6_init 345 = .ok (.iconst (-1), 1) := by decide +kernel
theorem d_X6_init_346 : decode b_X6_init 346 = .ok (.iastore, 1) := by decide +kernel
theorem d_X6_init_347 : decode b_X6_init 347 = .ok (.aload_n 0, 1) := by decide +kernel
theorem d_X6_init_348 : decode b_X6_init 348 = .ok (.getfield 68, 3) := by decide +kernel
theorem d_X6_init_351 : decode b_X6_init 351 = .ok (.iconst 1, 1) := by decide +kernel
theorem d_X6_init_352 : decode b_X6_init 352 = .ok (.iconst (-1), 1) := by decide +kernel
theorem d_X6_init_353 : decode b_X6_init 353 = .ok (.iastore, 1) := by decide +kernel
theorem d_X6_init_354 : decode b_X6_init 354 = .ok (.return_, 1) := by decide +kernel
theorem d_X6_thrown_0 : decode b_X6_thrown 0 = .ok (.aload_n 0, 1) := by decide +kernel
theorem d_X6_thrown_1 : decode b_X6_thrown 1 = .ok (.getfield 125, 3) := by decide +kernel
theorem d_X6_thrown_4 : decode b_X6_thrown 4 = .ok (.ireturn, 1) := by decide +kernel
theorem d_X6_fails_0 : decode b_X6_fails 0 = .ok (.aload_n 0, 1) := by decide +kernel
theorem d_X6_fails_1 : decode b_X6_fails 1 = .ok (.iload_n 1, 1) := by decide +kernel
theorem d_X6_fails_2 : decode b_X6_fails 2 = .ok (.ifCond .eq 7, 3) := by decide +kernel
theorem d_X6_fails_5 : decode b_X6_fails 5 = .ok (.iload_n 2, 1) := by decide +kernel
theorem d_X6_fails_6 : decode b_X6_fails 6 = .ok (.goto 4, 3) := by decide +kernel
theorem d_X6_fails_9 : decode b_X6_fails 9 = .ok (.iconst 0, 1) := by decide +kernel
theorem d_X6_fails_10 : decode b_X6_fails 10 = .ok (.putfield 125, 3) := by decide +kernel
theorem d_X6_fails_13 : decode b_X6_fails 13 = .ok (.iload_n 1, 1) := by decide +kernel
theorem d_X6_fails_14 : decode b_X6_fails 14 = .ok (.ireturn, 1) := by decide +kernel
theorem d_X6_out_0 : decode b_X6_out 0 = .ok (.iload_n 0, 1) := by decide +kernel
theorem d_X6_out_1 : decode b_X6_out 1 = .ok (.ifCond .lt 8, 3) := by decide +kernel
theorem d_X6_out_4 : decode b_X6_out 4 = .ok (.iload_n 0, 1) := by decide +kernel
theorem d_X6_out_5 : decode b_X6_out 5 = .ok (.iload_n 1, 1) := by decide +kernel
theorem d_X6_out_6 : decode b_X6_out 6 = .ok (.if_icmp .lt 7, 3) := by decide +kernel
theorem d_X6_out_9 : decode b_X6_out 9 = .ok (.iconst 1, 1) := by decide +kernel
theorem d_X6_out_10 : decode b_X6_out 10 = .ok (.goto 4, 3) := by decide +kernel
theorem d_X6_out_13 : decode b_X6_out 13 = .ok (.iconst 0, 1) := by decide +kernel
theorem d_X6_out_14 : decode b_X6_out 14 = .ok (.ireturn, 1) := by decide +kernel
theorem d_X6_isPrime_0 : decode b_X6_isPrime 0 = .ok (.iconst 2, 1) := by decide +kernel
theorem d_X6_isPrime_1 : decode b_X6_isPrime 1 = .ok (.istore_n 1, 1) := by decide +kernel
theorem d_X6_isPrime_2 : decode b_X6_isPrime 2 = .ok (.iload_n 1, 1) := by decide +kernel
theorem d_X6_isPrime_3 : decode b_X6_isPrime 3 = .ok (.iload_n 1, 1) := by decide +kernel
theorem d_X6_isPrime_4 : decode b_X6_isPrime 4 = .ok (.imul, 1) := by decide +kernel
theorem d_X6_isPrime_5 : decode b_X6_isPrime 5 = .ok (.iload_n 0, 1) := by decide +kernel
theorem d_X6_isPrime_6 : decode b_X6_isPrime 6 = .ok (.if_icmp .gt 17, 3) := by decide +kernel
theorem d_X6_isPrime_9 : decode b_X6_isPrime 9 = .ok (.iload_n 0, 1) := by decide +kernel
theorem d_X6_isPrime_10 : decode b_X6_isPrime 10 = .ok (.iload_n 1, 1) := by decide +kernel
theorem d_X6_isPrime_11 : decode b_X6_isPrime 11 = .ok (.irem, 1) := by decide +kernel
theorem d_X6_isPrime_12 : decode b_X6_isPrime 12 = .ok (.ifCond .ne 5, 3) := by decide +kernel
theorem d_X6_isPrime_15 : decode b_X6_isPrime 15 = .ok (.iconst 0, 1) := by decide +kernel
theorem d_X6_isPrime_16 : decode b_X6_isPrime 16 = .ok (.ireturn, 1) := by decide +kernel
theorem d_X6_isPrime_17 : decode b_X6_isPrime 17 = .ok (.iinc 1 1, 3) := by decide +kernel
theorem d_X6_isPrime_20 : decode b_X6_isPrime 20 = .ok (.goto (-18), 3) := by decide +kernel
theorem d_X6_isPrime_23 : decode b_X6_isPrime 23 = .ok (.iconst 1, 1) := by decide +kernel
theorem d_X6_isPrime_24 : decode b_X6_isPrime 24 = .ok (.ireturn, 1) := by decide +kernel
theorem d_X6_isAtMost_0 : decode b_X6_isAtMost 0 = .ok (.iconst 0, 1) := by decide +kernel
theorem d_X6_isAtMost_1 : decode b_X6_isAtMost 1 = .ok (.istore 5, 2) := by decide +kernel
theorem d_X6_isAtMost_3 : decode b_X6_isAtMost 3 = .ok (.iload 5, 2) := by decide +kernel
theorem d_X6_isAtMost_5 : decode b_X6_isAtMost 5 = .ok (.bipush 8, 2) := by decide +kernel
theorem d_X6_isAtMost_7 : decode b_X6_isAtMost 7 = .ok (.if_icmp .ge 17, 3) := by decide +kernel
theorem d_X6_isAtMost_10 : decode b_X6_isAtMost 10 = .ok (.aload_n 0, 1) := by decide +kernel
theorem d_X6_isAtMost_11 : decode b_X6_isAtMost 11 = .ok (.getfield 92, 3) := by decide +kernel
theorem d_X6_isAtMost_14 : decode b_X6_isAtMost 14 = .ok (.iload 5, 2) := by decide +kernel
theorem d_X6_isAtMost_16 : decode b_X6_isAtMost 16 = .ok (.lconst 0, 1) := by decide +kernel
theorem d_X6_isAtMost_17 : decode b_X6_isAtMost 17 = .ok (.lastore, 1) := by decide +kernel
theorem d_X6_isAtMost_18 : decode b_X6_isAtMost 18 = .ok (.iinc 5 1, 3) := by decide +kernel
theorem d_X6_isAtMost_21 : decode b_X6_isAtMost 21 = .ok (.goto (-18), 3) := by decide +kernel
theorem d_X6_isAtMost_24 : decode b_X6_isAtMost 24 = .ok (.aload_n 0, 1) := by decide +kernel
theorem d_X6_isAtMost_25 : decode b_X6_isAtMost 25 = .ok (.getfield 92, 3) := by decide +kernel
theorem d_X6_isAtMost_28 : decode b_X6_isAtMost 28 = .ok (.iconst 0, 1) := by decide +kernel
theorem d_X6_isAtMost_29 : decode b_X6_isAtMost 29 = .ok (.lconst 1, 1) := by decide +kernel
theorem d_X6_isAtMost_30 : decode b_X6_isAtMost 30 = .ok (.lastore, 1) := by decide +kernel
theorem d_X6_isAtMost_31 : decode b_X6_isAtMost 31 = .ok (.iconst 0, 1) := by decide +kernel
theorem d_X6_isAtMost_32 : decode b_X6_isAtMost 32 = .ok (.istore 5, 2) := by decide +kernel
theorem d_X6_isAtMost_34 : decode b_X6_isAtMost 34 = .ok (.iload 5, 2) := by decide +kernel
theorem d_X6_isAtMost_36 : decode b_X6_isAtMost 36 = .ok (.iload_n 3, 1) := by decide +kernel
theorem d_X6_isAtMost_37 : decode b_X6_isAtMost 37 = .ok (.if_icmp .ge 94, 3) := by decide +kernel
theorem d_X6_isAtMost_40 : decode b_X6_isAtMost 40 = .ok (.lload_n 1, 1) := by decide +kernel
theorem d_X6_isAtMost_41 : decode b_X6_isAtMost 41 = .ok (.ldc2_w 129, 3) := by decide +kernel
theorem d_X6_isAtMost_44 : decode b_X6_isAtMost 44 = .ok (.land, 1) := by decide +kernel
theorem d_X6_isAtMost_45 : decode b_X6_isAtMost 45 = .ok (.lstore 6, 2) := by decide +kernel
theorem d_X6_isAtMost_47 : decode b_X6_isAtMost 47 = .ok (.lload_n 1, 1) := by decide +kernel
theorem d_X6_isAtMost_48 : decode b_X6_isAtMost 48 = .ok (.bipush 20, 2) := by decide +kernel
theorem d_X6_isAtMost_50 : decode b_X6_isAtMost 50 = .ok (.lshr, 1) := by decide +kernel
theorem d_X6_isAtMost_51 : decode b_X6_isAtMost 51 = .ok (.lstore 8, 2) := by decide +kernel
theorem d_X6_isAtMost_53 : decode b_X6_isAtMost 53 = .ok (.lconst 0, 1) := by decide +kernel
theorem d_X6_isAtMost_54 : decode b_X6_isAtMost 54 = .ok (.lstore 10, 2) := by decide +kernel
theorem d_X6_isAtMost_56 : decode b_X6_isAtMost 56 = .ok (.lconst 0, 1) := by decide +kernel
theorem d_X6_isAtMost_57 : decode b_X6_isAtMost 57 = .ok (.lstore 12, 2) := by decide +kernel
theorem d_X6_isAtMost_59 : decode b_X6_isAtMost 59 = .ok (.iconst 0, 1) := by decide +kernel
theorem d_X6_isAtMost_60 : decode b_X6_isAtMost 60 = .ok (.istore 14, 2) := by decide +kernel
theorem d_X6_isAtMost_62 : decode b_X6_isAtMost 62 = .ok (.iload 14, 2) := by decide +kernel
theorem d_X6_isAtMost_64 : decode b_X6_isAtMost 64 = .ok (.bipush 8, 2) := by decide +kernel
theorem d_X6_isAtMost_66 : decode b_X6_isAtMost 66 = .ok (.if_icmp .ge 59, 3) := by decide +kernel
theorem d_X6_isAtMost_69 : decode b_X6_isAtMost 69 = .ok (.aload_n 0, 1) := by decide +kernel
theorem d_X6_isAtMost_70 : decode b_X6_isAtMost 70 = .ok (.getfield 92, 3) := by decide +kernel
theorem d_X6_isAtMost_73 : decode b_X6_isAtMost 73 = .ok (.iload 14, 2) := by decide +kernel
theorem d_X6_isAtMost_75 : decode b_X6_isAtMost 75 = .ok (.laload, 1) := by decide +kernel
theorem d_X6_isAtMost_76 : decode b_X6_isAtMost 76 = .ok (.lload 6, 2) := by decide +kernel
theorem d_X6_isAtMost_78 : decode b_X6_isAtMost 78 = .ok (.lmul, 1) := by decide +kernel
theorem d_X6_isAtMost_79 : decode b_X6_isAtMost 79 = .ok (.lload 10, 2) := by decide +kernel
theorem d_X6_isAtMost_81 : decode b_X6_isAtMost 81 = .ok (.lload 8, 2) := by decide +kernel
theorem d_X6_isAtMost_83 : decode b_X6_isAtMost 83 = .ok (.lmul, 1) := by decide +kernel
theorem d_X6_isAtMost_84 : decode b_X6_isAtMost 84 = .ok (.ladd, 1) := by decide +kernel
theorem d_X6_isAtMost_85 : decode b_X6_isAtMost 85 = .ok (.lload 12, 2) := by decide +kernel
theorem d_X6_isAtMost_87 : decode b_X6_isAtMost 87 = .ok (.ladd, 1) := by decide +kernel
theorem d_X6_isAtMost_88 : decode b_X6_isAtMost 88 = .ok (.lstore 15, 2) := by decide +kernel
theorem d_X6_isAtMost_90 : decode b_X6_isAtMost 90 = .ok (.aload_n 0, 1) := by decide +kernel
theorem d_X6_isAtMost_91 : decode b_X6_isAtMost 91 = .ok (.getfield 92, 3) := by decide +kernel
theorem d_X6_isAtMost_94 : decode b_X6_isAtMost 94 = .ok (.iload 14, 2) := by decide +kernel
theorem d_X6_isAtMost_96 : decode b_X6_isAtMost 96 = .ok (.laload, 1) := by decide +kernel
theorem d_X6_isAtMost_97 : decode b_X6_isAtMost 97 = .ok (.lstore 10, 2) := by decide +kernel
theorem d_X6_isAtMost_99 : decode b_X6_isAtMost 99 = .ok (.aload_n 0, 1) := by decide +kernel
theorem d_X6_isAtMost_100 : decode b_X6_isAtMost 100 = .ok (.getfield 92, 3) := by decide +kernel
theorem d_X6_isAtMost_103 : decode b_X6_isAtMost 103 = .ok (.iload 14, 2) := by decide +kernel
theorem d_X6_isAtMost_105 : decode b_X6_isAtMost 105 = .ok (.lload 15, 2) := by decide +kernel
theorem d_X6_isAtMost_107 : decode b_X6_isAtMost 107 = .ok (.ldc2_w 129, 3) := by decide +kernel
theorem d_X6_isAtMost_110 : decode b_X6_isAtMost 110 = .ok (.land, 1) := by decide +kernel
theorem d_X6_isAtMost_111 : decode b_X6_isAtMost 111 = .ok (.lastore, 1) := by decide +kernel
theorem d_X6_isAtMost_112 : decode b_X6_isAtMost 112 = .ok (.lload 15, 2) := by decide +kernel
theorem d_X6_isAtMost_114 : decode b_X6_isAtMost 114 = .ok (.bipush 20, 2) := by decide +kernel
theorem d_X6_isAtMost_116 : decode b_X6_isAtMost 116 = .ok (.lshr, 1) := by decide +kernel
theorem d_X6_isAtMost_117 : decode b_X6_isAtMost 117 = .ok (.lstore 12, 2) := by decide +kernel
theorem d_X6_isAtMost_119 : decode b_X6_isAtMost 119 = .ok (.iinc 14 1, 3) := by decide +kernel
theorem d_X6_isAtMost_122 : decode b_X6_isAtMost 122 = .ok (.goto (-60), 3) := by decide +kernel
theorem d_X6_isAtMost_125 : decode b_X6_isAtMost 125 = .ok (.iinc 5 1, 3) := by decide +kernel
theorem d_X6_isAtMost_128 : decode b_X6_isAtMost 128 = .ok (.goto (-94), 3) := by decide +kernel
theorem d_X6_isAtMost_131 : decode b_X6_isAtMost 131 = .ok (.iload_n 3, 1) := by decide +kernel
theorem d_X6_isAtMost_132 : decode b_X6_isAtMost 132 = .ok (.iconst 2, 1) := by decide +kernel
theorem d_X6_isAtMost_133 : decode b_X6_isAtMost 133 = .ok (.if_icmp .ne 7, 3) := by decide +kernel
theorem d_X6_isAtMost_136 : decode b_X6_isAtMost 136 = .ok (.iconst 3, 1) := by decide +kernel
theorem d_X6_isAtMost_137 : decode b_X6_isAtMost 137 = .ok (.goto 4, 3) := by decide +kernel
theorem d_X6_isAtMost_140 : decode b_X6_isAtMost 140 = .ok (.iconst 4, 1) := by decide +kernel
theorem d_X6_isAtMost_141 : decode b_X6_isAtMost 141 = .ok (.istore 5, 2) := by decide +kernel
theorem d_X6_isAtMost_143 : decode b_X6_isAtMost 143 = .ok (.iload 4, 2) := by decide +kernel
theorem d_X6_isAtMost_145 : decode b_X6_isAtMost 145 = .ok (.i2l, 1) := by decide +kernel
theorem d_X6_isAtMost_146 : decode b_X6_isAtMost 146 = .ok (.iload_n 3, 1) := by decide +kernel
theorem d_X6_isAtMost_147 : decode b_X6_isAtMost 147 = .ok (.iconst 2, 1) := by decide +kernel
theorem d_X6_isAtMost_148 : decode b_X6_isAtMost 148 = .ok (.if_icmp .ne 7, 3) := by decide +kernel
theorem d_X6_isAtMost_151 : decode b_X6_isAtMost 151 = .ok (.iconst 4, 1) := by decide +kernel
theorem d_X6_isAtMost_152 : decode b_X6_isAtMost 152 = .ok (.goto 5, 3) := by decide +kernel
theorem d_X6_isAtMost_155 : decode b_X6_isAtMost 155 = .ok (.bipush 16, 2) := by decide +kernel
theorem d_X6_isAtMost_157 : decode b_X6_isAtMost 157 = .ok (.lshl, 1) := by decide +kernel
theorem d_X6_isAtMost_158 : decode b_X6_isAtMost 158 = .ok (.lstore 6, 2) := by decide +kernel
theorem d_X6_isAtMost_160 : decode b_X6_isAtMost 160 = .ok (.aload_n 0, 1) := by decide +kernel
theorem d_X6_isAtMost_161 : decode b_X6_isAtMost 161 = .ok (.getfield 92, 3) := by decide +kernel
theorem d_X6_isAtMost_164 : decode b_X6_isAtMost 164 = .ok (.iload 5, 2) := by decide +kernel
theorem d_X6_isAtMost_166 : decode b_X6_isAtMost 166 = .ok (.laload, 1) := by decide +kernel
theorem d_X6_isAtMost_167 : decode b_X6_isAtMost 167 = .ok (.aload_n 0, 1) := by decide +kernel
theorem d_X6_isAtMost_168 : decode b_X6_isAtMost 168 = .ok (.getfield 92, 3) := by decide +kernel
theorem d_X6_isAtMost_171 : decode b_X6_isAtMost 171 = .ok (.iload 5, 2) := by decide +kernel
theorem d_X6_isAtMost_173 : decode b_X6_isAtMost 173 = .ok (.iconst 1, 1) := by decide +kernel
theorem d_X6_isAtMost_174 : decode b_X6_isAtMost 174 = .ok (.iadd, 1) := by decide +kernel
theorem d_X6_isAtMost_175 : decode b_X6_isAtMost 175 = .ok (.laload, 1) := by decide +kernel
theorem d_X6_isAtMost_176 : decode b_X6_isAtMost 176 = .ok (.bipush 20, 2) := by decide +kernel
theorem d_X6_isAtMost_178 : decode b_X6_isAtMost 178 = .ok (.lshl, 1) := by decide +kernel
theorem d_X6_isAtMost_179 : decode b_X6_isAtMost 179 = .ok (.lor, 1) := by decide +kernel
theorem d_X6_isAtMost_180 : decode b_X6_isAtMost 180 = .ok (.aload_n 0, 1) := by decide +kernel
theorem d_X6_isAtMost_181 : decode b_X6_isAtMost 181 = .ok (.getfield 92, 3) := by decide +kernel
theorem d_X6_isAtMost_184 : decode b_X6_isAtMost 184 = .ok (.iload 5, 2) := by decide +kernel
theorem d_X6_isAtMost_186 : decode b_X6_isAtMost 186 = .ok (.iconst 2, 1) := by decide +kernel
theorem d_X6_isAtMost_187 : decode b_X6_isAtMost 187 = .ok (.iadd, 1) := by decide +kernel
theorem d_X6_isAtMost_188 : decode b_X6_isAtMost 188 = .ok (.laload, 1) := by decide +kernel
theorem d_X6_isAtMost_189 : decode b_X6_isAtMost 189 = .ok (.bipush 40, 2) := by decide +kernel
theorem d_X6_isAtMost_191 : decode b_X6_isAtMost 191 = .ok (.lshl, 1) := by decide +kernel
theorem d_X6_isAtMost_192 : decode b_X6_isAtMost 192 = .ok (.lor, 1) := by decide +kernel
theorem d_X6_isAtMost_193 : decode b_X6_isAtMost 193 = .ok (.lstore 8, 2) := by decide +kernel
theorem d_X6_isAtMost_195 : decode b_X6_isAtMost 195 = .ok (.lload 8, 2) := by decide +kernel
theorem d_X6_isAtMost_197 : decode b_X6_isAtMost 197 = .ok (.lload 6, 2) := by decide +kernel
theorem d_X6_isAtMost_199 : decode b_X6_isAtMost 199 = .ok (.lcmp, 1) := by decide +kernel
theorem d_X6_isAtMost_200 : decode b_X6_isAtMost 200 = .ok (.ifCond .eq 17, 3) := by decide +kernel
theorem d_X6_isAtMost_203 : decode b_X6_isAtMost 203 = .ok (.lload 8, 2) := by decide +kernel
theorem d_X6_isAtMost_205 : decode b_X6_isAtMost 205 = .ok (.lload 6, 2) := by decide +kernel
theorem d_X6_isAtMost_207 : decode b_X6_isAtMost 207 = .ok (.lcmp, 1) := by decide +kernel
theorem d_X6_isAtMost_208 : decode b_X6_isAtMost 208 = .ok (.ifCond .ge 7, 3) := by decide +kernel
theorem d_X6_isAtMost_211 : decode b_X6_isAtMost 211 = .ok (.iconst 1, 1) := by decide +kernel
theorem d_X6_isAtMost_212 : decode b_X6_isAtMost 212 = .ok (.goto 4, 3) := by decide +kernel
theorem d_X6_isAtMost_215 : decode b_X6_isAtMost 215 = .ok (.iconst 0, 1) := by decide +kernel
theorem d_X6_isAtMost_216 : decode b_X6_isAtMost 216 = .ok (.ireturn, 1) := by decide +kernel
theorem d_X6_isAtMost_217 : decode b_X6_isAtMost 217 = .ok (.iconst 1, 1) := by decide +kernel
theorem d_X6_isAtMost_218 : decode b_X6_isAtMost 218 = .ok (.istore 10, 2) := by decide +kernel
theorem d_X6_isAtMost_220 : decode b_X6_isAtMost 220 = .ok (.iconst 0, 1) := by decide +kernel
theorem d_X6_isAtMost_221 : decode b_X6_isAtMost 221 = .ok (.istore 11, 2) := by decide +kernel
theorem d_X6_isAtMost_223 : decode b_X6_isAtMost 223 = .ok (.iload 11, 2) := by decide +kernel
theorem d_X6_isAtMost_225 : decode b_X6_isAtMost 225 = .ok (.iload 5, 2) := by decide +kernel
theorem d_X6_isAtMost_227 : decode b_X6_isAtMost 227 = .ok (.if_icmp .ge 33, 3) := by decide +kernel
theorem d_X6_isAtMost_230 : decode b_X6_isAtMost 230 = .ok (.iload 10, 2) := by decide +kernel
theorem d_X6_isAtMost_232 : decode b_X6_isAtMost 232 = .ok (.ifCond .eq 19, 3) := by decide +kernel
theorem d_X6_isAtMost_235 : decode b_X6_isAtMost 235 = .ok (.aload_n 0, 1) := by decide +kernel
theorem d_X6_isAtMost_236 : decode b_X6_isAtMost 236 = .ok (.getfield 92, 3) := by decide +kernel
theorem d_X6_isAtMost_239 : decode b_X6_isAtMost 239 = .ok (.iload 11, 2) := by decide +kernel
theorem d_X6_isAtMost_241 : decode b_X6_isAtMost 241 = .ok (.laload, 1) := by decide +kernel
theorem d_X6_isAtMost_242 : decode b_X6_isAtMost 242 = .ok (.lconst 0, 1) := by decide +kernel
theorem d_X6_isAtMost_243 : decode b_X6_isAtMost 243 = .ok (.lcmp, 1) := by decide +kernel
theorem d_X6_isAtMost_244 : decode b_X6_isAtMost 244 = .ok (.ifCond .ne 7, 3) := by decide +kernel
theorem d_X6_isAtMost_247 : decode b_X6_isAtMost 247 = .ok (.iconst 1, 1) := by decide +kernel
theorem d_X6_isAtMost_248 : decode b_X6_isAtMost 248 = .ok (.goto 4, 3) := by decide +kernel
theorem d_X6_isAtMost_251 : decode b_X6_isAtMost 251 = .ok (.iconst 0, 1) := by decide +kernel
theorem d_X6_isAtMost_252 : decode b_X6_isAtMost 252 = .ok (.istore 10, 2) := by decide +kernel
theorem d_X6_isAtMost_254 : decode b_X6_isAtMost 254 = .ok (.iinc 11 1, 3) := by decide +kernel
theorem d_X6_isAtMost_257 : decode b_X6_isAtMost 257 = .ok (.goto (-34), 3) := by decide +kernel
theorem d_X6_isAtMost_260 : decode b_X6_isAtMost 260 = .ok (.iload 10, 2) := by decide +kernel
theorem d_X6_isAtMost_262 : decode b_X6_isAtMost 262 = .ok (.ireturn, 1) := by decide +kernel
theorem d_X6_root_0 : decode b_X6_root 0 = .ok (.lconst 0, 1) := by decide +kernel
theorem d_X6_root_1 : decode b_X6_root 1 = .ok (.lstore_n 3, 1) := by decide +kernel
theorem d_X6_root_2 : decode b_X6_root 2 = .ok (.bipush 35, 2) := by decide +kernel
theorem d_X6_root_4 : decode b_X6_root 4 = .ok (.istore 5, 2) := by decide +kernel
theorem d_X6_root_6 : decode b_X6_root 6 = .ok (.iload 5, 2) := by decide +kernel
theorem d_X6_root_8 : decode b_X6_root 8 = .ok (.ifCond .lt 31, 3) := by decide +kernel
theorem d_X6_root_11 : decode b_X6_root 11 = .ok (.aload_n 0, 1) := by decide +kernel
theorem d_X6_root_12 : decode b_X6_root 12 = .ok (.lload_n 3, 1) := by decide +kernel
theorem d_X6_root_13 : decode b_X6_root 13 = .ok (.lconst 1, 1) := by decide +kernel
theorem d_X6_root_14 : decode b_X6_root 14 = .ok (.iload 5, 2) := by decide +kernel
theorem d_X6_root_16 : decode b_X6_root 16 = .ok (.lshl, 1) := by decide +kernel
theorem d_X6_root_17 : decode b_X6_root 17 = .ok (.lor, 1) := by decide +kernel
theorem d_X6_root_18 : decode b_X6_root 18 = .ok (.iload_n 2, 1) := by decide +kernel
theorem d_X6_root_19 : decode b_X6_root 19 = .ok (.iload_n 1, 1) := by decide +kernel
theorem d_X6_root_20 : decode b_X6_root 20 = .ok (.invokevirtual 131, 3) := by decide +kernel
theorem d_X6_root_23 : decode b_X6_root 23 = .ok (.ifCond .eq 10, 3) := by decide +kernel
theorem d_X6_root_26 : decode b_X6_root 26 = .ok (.lload_n 3, 1) := by decide +kernel
theorem d_X6_root_27 : decode b_X6_root 27 = .ok (.lconst 1, 1) := by decide +kernel
theorem d_X6_root_28 : decode b_X6_root 28 = .ok (.iload 5, 2) := by decide +kernel
theorem d_X6_root_30 : decode b_X6_root 30 = .ok (.lshl, 1) := by decide +kernel
theorem d_X6_root_31 : decode b_X6_root 31 = .ok (.lor, 1) := by decide +kernel
theorem d_X6_root_32 : decode b_X6_root 32 = .ok (.lstore_n 3, 1) := by decide +kernel
theorem d_X6_root_33 : decode b_X6_root 33 = .ok (.iinc 5 (-1), 3) := by decide +kernel
theorem d_X6_root_36 : decode b_X6_root 36 = .ok (.goto (-30), 3) := by decide +kernel
theorem d_X6_root_39 : decode b_X6_root 39 = .ok (.lload_n 3, 1) := by decide +kernel
theorem d_X6_root_40 : decode b_X6_root 40 = .ok (.l2i, 1) := by decide +kernel
theorem d_X6_root_41 : decode b_X6_root 41 = .ok (.ireturn, 1) := by decide +kernel
theorem d_X6_turned_0 : decode b_X6_turned 0 = .ok (.iload_n 0, 1) := by decide +kernel
theorem d_X6_turned_1 : decode b_X6_turned 1 = .ok (.iload_n 1, 1) := by decide +kernel
theorem d_X6_turned_2 : decode b_X6_turned 2 = .ok (.iushr, 1) := by decide +kernel
theorem d_X6_turned_3 : decode b_X6_turned 3 = .ok (.iload_n 0, 1) := by decide +kernel
theorem d_X6_turned_4 : decode b_X6_turned 4 = .ok (.bipush 32, 2) := by decide +kernel
theorem d_X6_turned_6 : decode b_X6_turned 6 = .ok (.iload_n 1, 1) := by decide +kernel
theorem d_X6_turned_7 : decode b_X6_turned 7 = .ok (.isub, 1) := by decide +kernel
theorem d_X6_turned_8 : decode b_X6_turned 8 = .ok (.ishl, 1) := by decide +kernel
theorem d_X6_turned_9 : decode b_X6_turned 9 = .ok (.ior, 1) := by decide +kernel
theorem d_X6_turned_10 : decode b_X6_turned 10 = .ok (.ireturn, 1) := by decide +kernel
theorem d_X6_put_0 : decode b_X6_put 0 = .ok (.aload_n 0, 1) := by decide +kernel
theorem d_X6_put_1 : decode b_X6_put 1 = .ok (.getfield 102, 3) := by decide +kernel
theorem d_X6_put_4 : decode b_X6_put 4 = .ok (.aload_n 0, 1) := by decide +kernel
theorem d_X6_put_5 : decode b_X6_put 5 = .ok (.getfield 135, 3) := by decide +kernel
theorem d_X6_put_8 : decode b_X6_put 8 = .ok (.iload_n 1, 1) := by decide +kernel
theorem d_X6_put_9 : decode b_X6_put 9 = .ok (.sipush 255, 3) := by decide +kernel
theorem d_X6_put_12 : decode b_X6_put 12 = .ok (.iand, 1) := by decide +kernel
theorem d_X6_put_13 : decode b_X6_put 13 = .ok (.iastore, 1) := by decide +kernel
theorem d_X6_put_14 : decode b_X6_put 14 = .ok (.aload_n 0, 1) := by decide +kernel
theorem d_X6_put_15 : decode b_X6_put 15 = .ok (.dup, 1) := by decide +kernel
theorem d_X6_put_16 : decode b_X6_put 16 = .ok (.getfield 135, 3) := by decide +kernel
theorem d_X6_put_19 : decode b_X6_put 19 = .ok (.iconst 1, 1) := by decide +kernel
theorem d_X6_put_20 : decode b_X6_put 20 = .ok (.iadd, 1) := by decide +kernel
theorem d_X6_put_21 : decode b_X6_put 21 = .ok (.putfield 135, 3) := by decide +kernel
theorem d_X6_put_24 : decode b_X6_put 24 = .ok (.return_, 1) := by decide +kernel
theorem d_X6_block_0 : decode b_X6_block 0 = .ok (.iconst 0, 1) := by decide +kernel
theorem d_X6_block_1 : decode b_X6_block 1 = .ok (.istore_n 2, 1) := by decide +kernel
theorem d_X6_block_2 : decode b_X6_block 2 = .ok (.iload_n 2, 1) := by decide +kernel
theorem d_X6_block_3 : decode b_X6_block 3 = .ok (.bipush 16, 2) := by decide +kernel
theorem d_X6_block_5 : decode b_X6_block 5 = .ok (.if_icmp .ge 63, 3) := by decide +kernel
theorem d_X6_block_8 : decode b_X6_block 8 = .ok (.iload_n 1, 1) := by decide +kernel
theorem d_X6_block_9 : decode b_X6_block 9 = .ok (.iconst 4, 1) := by decide +kernel
theorem d_X6_block_10 : decode b_X6_block 10 = .ok (.iload_n 2, 1) := by decide +kernel
theorem d_X6_block_11 : decode b_X6_block 11 = .ok (.imul, 1) := by decide +kernel
theorem d_X6_block_12 : decode b_X6_block 12 = .ok (.iadd, 1) := by decide +kernel
theorem d_X6_block_13 : decode b_X6_block 13 = .ok (.istore_n 3, 1) := by decide +kernel
theorem d_X6_block_14 : decode b_X6_block 14 = .ok (.aload_n 0, 1) := by decide +kernel
theorem d_X6_block_15 : decode b_X6_block 15 = .ok (.getfield 99, 3) := by decide +kernel
theorem d_X6_block_18 : decode b_X6_block 18 = .ok (.iload_n 2, 1) := by decide +kernel
theorem d_X6_block_19 : decode b_X6_block 19 = .ok (.aload_n 0, 1) := by decide +kernel
theorem d_X6_block_20 : decode b_X6_block 20 = .ok (.getfield 102, 3) := by decide +kernel
theorem d_X6_block_23 : decode b_X6_block 23 = .ok (.iload_n 3, 1) := by decide +kernel
theorem d_X6_block_24 : decode b_X6_block 24 = .ok (.iaload, 1) := by decide +kernel
theorem d_X6_block_25 : decode b_X6_block 25 = .ok (.bipush 24, 2) := by decide +kernel
theorem d_X6_block_27 : decode b_X6_block 27 = .ok (.ishl, 1) := by decide +kernel
theorem d_X6_block_28 : decode b_X6_block 28 = .ok (.aload_n 0, 1) := by decide +kernel
theorem d_X6_block_29 : decode b_X6_block 29 = .ok (.getfield 102, 3) := by decide +kernel
theorem d_X6_block_32 : decode b_X6_block 32 = .ok (.iload_n 3, 1) := by decide +kernel
theorem d_X6_block_33 : decode b_X6_block 33 = .ok (.iconst 1, 1) := by decide +kernel
theorem d_X6_block_34 : decode b_X6_block 34 = .ok (.iadd, 1) := by decide +kernel
theorem d_X6_block_35 : decode b_X6_block 35 = .ok (.iaload, 1) := by decide +kernel
theorem d_X6_block_36 : decode b_X6_block 36 = .ok (.bipush 16, 2) := by decide +kernel
theorem d_X6_block_38 : decode b_X6_block 38 = .ok (.ishl, 1) := by decide +kernel
theorem d_X6_block_39 : decode b_X6_block 39 = .ok (.ior, 1) := by decide +kernel
theorem d_X6_block_40 : decode b_X6_block 40 = .ok (.aload_n 0, 1) := by decide +kernel
theorem d_X6_block_41 : decode b_X6_block 41 = .ok (.getfield 102, 3) := by decide +kernel
theorem d_X6_block_44 : decode b_X6_block 44 = .ok (.iload_n 3, 1) := by decide +kernel
theorem d_X6_block_45 : decode b_X6_block 45 = .ok (.iconst 2, 1) := by decide +kernel
theorem d_X6_block_46 : decode b_X6_block 46 = .ok (.iadd, 1) := by decide +kernel
theorem d_X6_block_47 : decode b_X6_block 47 = .ok (.iaload, 1) := by decide +kernel
theorem d_X6_block_48 : decode b_X6_block 48 = .ok (.bipush 8, 2) := by decide +kernel
theorem d_X6_block_50 : decode b_X6_block 50 = .ok (.ishl, 1) := by decide +kernel
theorem d_X6_block_51 : decode b_X6_block 51 = .ok (.ior, 1) := by decide +kernel
theorem d_X6_block_52 : decode b_X6_block 52 = .ok (.aload_n 0, 1) := by decide +kernel
theorem d_X6_block_53 : decode b_X6_block 53 = .ok (.getfield 102, 3) := by decide +kernel
theorem d_X6_block_56 : decode b_X6_block 56 = .ok (.iload_n 3, 1) := by decide +kernel
theorem d_X6_block_57 : decode b_X6_block 57 = .ok (.iconst 3, 1) := by decide +kernel
theorem d_X6_block_58 : decode b_X6_block 58 = .ok (.iadd, 1) := by decide +kernel
theorem d_X6_block_59 : decode b_X6_block 59 = .ok (.iaload, 1) := by decide +kernel
theorem d_X6_block_60 : decode b_X6_block 60 = .ok (.ior, 1) := by decide +kernel
theorem d_X6_block_61 : decode b_X6_block 61 = .ok (.iastore, 1) := by decide +kernel
theorem d_X6_block_62 : decode b_X6_block 62 = .ok (.iinc 2 1, 3) := by decide +kernel
theorem d_X6_block_65 : decode b_X6_block 65 = .ok (.goto (-63), 3) := by decide +kernel
theorem d_X6_block_68 : decode b_X6_block 68 = .ok (.bipush 16, 2) := by decide +kernel
theorem d_X6_block_70 : decode b_X6_block 70 = .ok (.istore_n 2, 1) := by decide +kernel
theorem d_X6_block_71 : decode b_X6_block 71 = .ok (.iload_n 2, 1) := by decide +kernel
theorem d_X6_block_72 : decode b_X6_block 72 = .ok (.bipush 64, 2) := by decide +kernel
theorem d_X6_block_74 : decode b_X6_block 74 = .ok (.if_icmp .ge 94, 3) := by decide +kernel
theorem d_X6_block_77 : decode b_X6_block 77 = .ok (.aload_n 0, 1) := by decide +kernel
theorem d_X6_block_78 : decode b_X6_block 78 = .ok (.getfield 99, 3) := by decide +kernel
theorem d_X6_block_81 : decode b_X6_block 81 = .ok (.iload_n 2, 1) := by decide +kernel
theorem d_X6_block_82 : decode b_X6_block 82 = .ok (.bipush 15, 2) := by decide +kernel
theorem d_X6_block_84 : decode b_X6_block 84 = .ok (.isub, 1) := by decide +kernel
theorem d_X6_block_85 : decode b_X6_block 85 = .ok (.iaload, 1) := by decide +kernel
theorem d_X6_block_86 : decode b_X6_block 86 = .ok (.istore_n 3, 1) := by decide +kernel
theorem d_X6_block_87 : decode b_X6_block 87 = .ok (.aload_n 0, 1) := by decide +kernel
theorem d_X6_block_88 : decode b_X6_block 88 = .ok (.getfield 99, 3) := by decide +kernel
theorem d_X6_block_91 : decode b_X6_block 91 = .ok (.iload_n 2, 1) := by decide +kernel
theorem d_X6_block_92 : decode b_X6_block 92 = .ok (.iconst 2, 1) := by decide +kernel
theorem d_X6_block_93 : decode b_X6_block 93 = .ok (.isub, 1) := by decide +kernel
theorem d_X6_block_94 : decode b_X6_block 94 = .ok (.iaload, 1) := by decide +kernel
theorem d_X6_block_95 : decode b_X6_block 95 = .ok (.istore 4, 2) := by decide +kernel
theorem d_X6_block_97 : decode b_X6_block 97 = .ok (.aload_n 0, 1) := by decide +kernel
theorem d_X6_block_98 : decode b_X6_block 98 = .ok (.getfield 99, 3) := by decide +kernel
theorem d_X6_block_101 : decode b_X6_block 101 = .ok (.iload_n 2, 1) := by decide +kernel
theorem d_X6_block_102 : decode b_X6_block 102 = .ok (.aload_n 0, 1) := by decide +kernel
theorem d_X6_block_103 : decode b_X6_block 103 = .ok (.getfield 99, 3) := by decide +kernel
theorem d_X6_block_106 : decode b_X6_block 106 = .ok (.iload_n 2, 1) := by decide +kernel
theorem d_X6_block_107 : decode b_X6_block 107 = .ok (.bipush 16, 2) := by decide +kernel
theorem d_X6_block_109 : decode b_X6_block 109 = .ok (.isub, 1) := by decide +kernel
theorem d_X6_block_110 : decode b_X6_block 110 = .ok (.iaload, 1) := by decide +kernel
theorem d_X6_block_111 : decode b_X6_block 111 = .ok (.iload_n 3, 1) := by decide +kernel
theorem d_X6_block_112 : decode b_X6_block 112 = .ok (.bipush 7, 2) := by decide +kernel
theorem d_X6_block_114 : decode b_X6_block 114 = .ok (.invokestatic 138, 3) := by decide +kernel
theorem d_X6_block_117 : decode b_X6_block 117 = .ok (.iload_n 3, 1) := by decide +kernel
theorem d_X6_block_118 : decode b_X6_block 118 = .ok (.bipush 18, 2) := by decide +kernel
theorem d_X6_block_120 : decode b_X6_block 120 = .ok (.invokestatic 138, 3) := by decide +kernel
theorem d_X6_block_123 : decode b_X6_block 123 = .ok (.ixor, 1) := by decide +kernel
theorem d_X6_block_124 : decode b_X6_block 124 = .ok (.iload_n 3, 1) := by decide +kernel
theorem d_X6_block_125 : decode b_X6_block 125 = .ok (.iconst 3, 1) := by decide +kernel
theorem d_X6_block_126 : decode b_X6_block 126 = .ok (.iushr, 1) := by decide +kernel
theorem d_X6_block_127 : decode b_X6_block 127 = .ok (.ixor, 1) := by decide +kernel
theorem d_X6_block_128 : decode b_X6_block 128 = .ok (.iadd, 1) := by decide +kernel
theorem d_X6_block_129 : decode b_X6_block 129 = .ok (.aload_n 0, 1) := by decide +kernel
theorem d_X6_block_130 : decode b_X6_block 130 = .ok (.getfield 99, 3) := by decide +kernel
theorem d_X6_block_133 : decode b_X6_block 133 = .ok (.iload_n 2, 1) := by decide +kernel
theorem d_X6_block_134 : decode b_X6_block 134 = .ok (.bipush 7, 2) := by decide +kernel
theorem d_X6_block_136 : decode b_X6_block 136 = .ok (.isub, 1) := by decide +kernel
theorem d_X6_block_137 : decode b_X6_block 137 = .ok (.iaload, 1) := by decide +kernel
theorem d_X6_block_138 : decode b_X6_block 138 = .ok (.iadd, 1) := by decide +kernel
theorem d_X6_block_139 : decode b_X6_block 139 = .ok (.iload 4, 2) := by decide +kernel
theorem d_X6_block_141 : decode b_X6_block 141 = .ok (.bipush 17, 2) := by decide +kernel
theorem d_X6_block_143 : decode b_X6_block 143 = .ok (.invokestatic 138, 3) := by decide +kernel
theorem d_X6_block_146 : decode b_X6_block 146 = .ok (.iload 4, 2) := by decide +kernel
theorem d_X6_block_148 : decode b_X6_block 148 = .ok (.bipush 19, 2) := by decide +kernel
theorem d_X6_block_150 : decode b_X6_block 150 = .ok (.invokestatic 138, 3) := by decide +kernel
theorem d_X6_block_153 : decode b_X6_block 153 = .ok (.ixor, 1) := by decide +kernel
theorem d_X6_block_154 : decode b_X6_block 154 = .ok (.iload 4, 2) := by decide +kernel
theorem d_X6_block_156 : decode b_X6_block 156 = .ok (.bipush 10, 2) := by decide +kernel
theorem d_X6_block_158 : decode b_X6_block 158 = .ok (.iushr, 1) := by decide +kernel
theorem d_X6_block_159 : decode b_X6_block 159 = .ok (.ixor, 1) := by decide +kernel
theorem d_X6_block_160 : decode b_X6_block 160 = .ok (.iadd, 1) := by decide +kernel
theorem d_X6_block_161 : decode b_X6_block 161 = .ok (.iastore, 1) := by decide +kernel
theorem d_X6_block_162 : decode b_X6_block 162 = .ok (.iinc 2 1, 3) := by decide +kernel
theorem d_X6_block_165 : decode b_X6_block 165 = .ok (.goto (-94), 3) := by decide +kernel
theorem d_X6_block_168 : decode b_X6_block 168 = .ok (.aload_n 0, 1) := by decide +kernel
theorem d_X6_block_169 : decode b_X6_block 169 = .ok (.getfield 96, 3) := by decide +kernel
theorem d_X6_block_172 : decode b_X6_block 172 = .ok (.astore_n 2, 1) := by decide +kernel
theorem d_X6_block_173 : decode b_X6_block 173 = .ok (.aload_n 2, 1) := by decide +kernel
theorem d_X6_block_174 : decode b_X6_block 174 = .ok (.iconst 0, 1) := by decide +kernel
theorem d_X6_block_175 : decode b_X6_block 175 = .ok (.iaload, 1) := by decide +kernel
theorem d_X6_block_176 : decode b_X6_block 176 = .ok (.istore_n 3, 1) := by decide +kernel
theorem d_X6_block_177 : decode b_X6_block 177 = .ok (.aload_n 2, 1) := by decide +kernel
theorem d_X6_block_178 : decode b_X6_block 178 = .ok (.iconst 1, 1) := by decide +kernel
theorem d_X6_block_179 : decode b_X6_block 179 = .ok (.iaload, 1) := by decide +kernel
theorem d_X6_block_180 : decode b_X6_block 180 = .ok (.istore 4, 2) := by decide +kernel
theorem d_X6_block_182 : decode b_X6_block 182 = .ok (.aload_n 2, 1) := by decide +kernel
theorem d_X6_block_183 : decode b_X6_block 183 = .ok (.iconst 2, 1) := by decide +kernel
theorem d_X6_block_184 : decode b_X6_block 184 = .ok (.iaload, 1) := by decide +kernel
theorem d_X6_block_185 : decode b_X6_block 185 = .ok (.istore 5, 2) := by decide +kernel
theorem d_X6_block_187 : decode b_X6_block 187 = .ok (.aload_n 2, 1) := by decide +kernel
theorem d_X6_block_188 : decode b_X6_block 188 = .ok (.iconst 3, 1) := by decide +kernel
theorem d_X6_block_189 : decode b_X6_block 189 = .ok (.iaload, 1) := by decide +kernel
theorem d_X6_block_190 : decode b_X6_block 190 = .ok (.istore 6, 2) := by decide +kernel
theorem d_X6_block_192 : decode b_X6_block 192 = .ok (.aload_n 2, 1) := by decide +kernel
theorem d_X6_block_193 : decode b_X6_block 193 = .ok (.iconst 4, 1) := by decide +kernel
theorem d_X6_block_194 : decode b_X6_block 194 = .ok (.iaload, 1) := by decide +kernel
theorem d_X6_block_195 : decode b_X6_block 195 = .ok (.istore 7, 2) := by decide +kernel
theorem d_X6_block_197 : decode b_X6_block 197 = .ok (.aload_n 2, 1) := by decide +kernel
theorem d_X6_block_198 : decode b_X6_block 198 = .ok (.iconst 5, 1) := by decide +kernel
theorem d_X6_block_199 : decode b_X6_block 199 = .ok (.iaload, 1) := by decide +kernel
theorem d_X6_block_200 : decode b_X6_block 200 = .ok (.istore 8, 2) := by decide +kernel
theorem d_X6_block_202 : decode b_X6_block 202 = .ok (.aload_n 2, 1) := by decide +kernel
theorem d_X6_block_203 : decode b_X6_block 203 = .ok (.bipush 6, 2) := by decide +kernel
theorem d_X6_block_205 : decode b_X6_block 205 = .ok (.iaload, 1) := by decide +kernel
theorem d_X6_block_206 : decode b_X6_block 206 = .ok (.istore 9, 2) := by decide +kernel
theorem d_X6_block_208 : decode b_X6_block 208 = .ok (.aload_n 2, 1) := by decide +kernel
theorem d_X6_block_209 : decode b_X6_block 209 = .ok (.bipush 7, 2) := by decide +kernel
theorem d_X6_block_211 : decode b_X6_block 211 = .ok (.iaload, 1) := by decide +kernel
theorem d_X6_block_212 : decode b_X6_block 212 = .ok (.istore 10, 2) := by decide +kernel
theorem d_X6_block_214 : decode b_X6_block 214 = .ok (.iconst 0, 1) := by decide +kernel
theorem d_X6_block_215 : decode b_X6_block 215 = .ok (.istore 11, 2) := by decide +kernel
theorem d_X6_block_217 : decode b_X6_block 217 = .ok (.iload 11, 2) := by decide +kernel
theorem d_X6_block_219 : decode b_X6_block 219 = .ok (.bipush 64, 2) := by decide +kernel
theorem d_X6_block_221 : decode b_X6_block 221 = .ok (.if_icmp .ge 221, 3) := by decide +kernel
theorem d_X6_block_224 : decode b_X6_block 224 = .ok (.aload_n 2, 1) := by decide +kernel
theorem d_X6_block_225 : decode b_X6_block 225 = .ok (.bipush 68, 2) := by decide +kernel
theorem d_X6_block_227 : decode b_X6_block 227 = .ok (.iload 11, 2) := by decide +kernel
theorem d_X6_block_229 : decode b_X6_block 229 = .ok (.isub, 1) := by decide +kernel
theorem d_X6_block_230 : decode b_X6_block 230 = .ok (.bipush 8, 2) := by decide +kernel
theorem d_X6_block_232 : decode b_X6_block 232 = .ok (.irem, 1) := by decide +kernel
theorem d_X6_block_233 : decode b_X6_block 233 = .ok (.iaload, 1) := by decide +kernel
theorem d_X6_block_234 : decode b_X6_block 234 = .ok (.istore 12, 2) := by decide +kernel
theorem d_X6_block_236 : decode b_X6_block 236 = .ok (.aload_n 2, 1) := by decide +kernel
theorem d_X6_block_237 : decode b_X6_block 237 = .ok (.bipush 69, 2) := by decide +kernel
theorem d_X6_block_239 : decode b_X6_block 239 = .ok (.iload 11, 2) := by decide +kernel
theorem d_X6_block_241 : decode b_X6_block 241 = .ok (.isub, 1) := by decide +kernel
theorem d_X6_block_242 : decode b_X6_block 242 = .ok (.bipush 8, 2) := by decide +kernel
theorem d_X6_block_244 : decode b_X6_block 244 = .ok (.irem, 1) := by decide +kernel
theorem d_X6_block_245 : decode b_X6_block 245 = .ok (.iaload, 1) := by decide +kernel
theorem d_X6_block_246 : decode b_X6_block 246 = .ok (.istore 13, 2) := by decide +kernel
theorem d_X6_block_248 : decode b_X6_block 248 = .ok (.aload_n 2, 1) := by decide +kernel
theorem d_X6_block_249 : decode b_X6_block 249 = .ok (.bipush 70, 2) := by decide +kernel
theorem d_X6_block_251 : decode b_X6_block 251 = .ok (.iload 11, 2) := by decide +kernel
theorem d_X6_block_253 : decode b_X6_block 253 = .ok (.isub, 1) := by decide +kernel
theorem d_X6_block_254 : decode b_X6_block 254 = .ok (.bipush 8, 2) := by decide +kernel
theorem d_X6_block_256 : decode b_X6_block 256 = .ok (.irem, 1) := by decide +kernel
theorem d_X6_block_257 : decode b_X6_block 257 = .ok (.iaload, 1) := by decide +kernel
theorem d_X6_block_258 : decode b_X6_block 258 = .ok (.istore 14, 2) := by decide +kernel
theorem d_X6_block_260 : decode b_X6_block 260 = .ok (.aload_n 2, 1) := by decide +kernel
theorem d_X6_block_261 : decode b_X6_block 261 = .ok (.bipush 64, 2) := by decide +kernel
theorem d_X6_block_263 : decode b_X6_block 263 = .ok (.iload 11, 2) := by decide +kernel
theorem d_X6_block_265 : decode b_X6_block 265 = .ok (.isub, 1) := by decide +kernel
theorem d_X6_block_266 : decode b_X6_block 266 = .ok (.bipush 8, 2) := by decide +kernel
theorem d_X6_block_268 : decode b_X6_block 268 = .ok (.irem, 1) := by decide +kernel
theorem d_X6_block_269 : decode b_X6_block 269 = .ok (.iaload, 1) := by decide +kernel
theorem d_X6_block_270 : decode b_X6_block 270 = .ok (.istore 15, 2) := by decide +kernel
theorem d_X6_block_272 : decode b_X6_block 272 = .ok (.aload_n 2, 1) := by decide +kernel
theorem d_X6_block_273 : decode b_X6_block 273 = .ok (.bipush 65, 2) := by decide +kernel
theorem d_X6_block_275 : decode b_X6_block 275 = .ok (.iload 11, 2) := by decide +kernel
theorem d_X6_block_277 : decode b_X6_block 277 = .ok (.isub, 1) := by decide +kernel
theorem d_X6_block_278 : decode b_X6_block 278 = .ok (.bipush 8, 2) := by decide +kernel
theorem d_X6_block_280 : decode b_X6_block 280 = .ok (.irem, 1) := by decide +kernel
theorem d_X6_block_281 : decode b_X6_block 281 = .ok (.iaload, 1) := by decide +kernel
theorem d_X6_block_282 : decode b_X6_block 282 = .ok (.istore 16, 2) := by decide +kernel
theorem d_X6_block_284 : decode b_X6_block 284 = .ok (.aload_n 2, 1) := by decide +kernel
theorem d_X6_block_285 : decode b_X6_block 285 = .ok (.bipush 66, 2) := by decide +kernel
theorem d_X6_block_287 : decode b_X6_block 287 = .ok (.iload 11, 2) := by decide +kernel
theorem d_X6_block_289 : decode b_X6_block 289 = .ok (.isub, 1) := by decide +kernel
theorem d_X6_block_290 : decode b_X6_block 290 = .ok (.bipush 8, 2) := by decide +kernel
theorem d_X6_block_292 : decode b_X6_block 292 = .ok (.irem, 1) := by decide +kernel
theorem d_X6_block_293 : decode b_X6_block 293 = .ok (.iaload, 1) := by decide +kernel
theorem d_X6_block_294 : decode b_X6_block 294 = .ok (.istore 17, 2) := by decide +kernel
theorem d_X6_block_296 : decode b_X6_block 296 = .ok (.bipush 71, 2) := by decide +kernel
theorem d_X6_block_298 : decode b_X6_block 298 = .ok (.iload 11, 2) := by decide +kernel
theorem d_X6_block_300 : decode b_X6_block 300 = .ok (.isub, 1) := by decide +kernel
theorem d_X6_block_301 : decode b_X6_block 301 = .ok (.bipush 8, 2) := by decide +kernel
theorem d_X6_block_303 : decode b_X6_block 303 = .ok (.irem, 1) := by decide +kernel
theorem d_X6_block_304 : decode b_X6_block 304 = .ok (.istore 18, 2) := by decide +kernel
theorem d_X6_block_306 : decode b_X6_block 306 = .ok (.bipush 67, 2) := by decide +kernel
theorem d_X6_block_308 : decode b_X6_block 308 = .ok (.iload 11, 2) := by decide +kernel
theorem d_X6_block_310 : decode b_X6_block 310 = .ok (.isub, 1) := by decide +kernel
theorem d_X6_block_311 : decode b_X6_block 311 = .ok (.bipush 8, 2) := by decide +kernel
theorem d_X6_block_313 : decode b_X6_block 313 = .ok (.irem, 1) := by decide +kernel
theorem d_X6_block_314 : decode b_X6_block 314 = .ok (.istore 19, 2) := by decide +kernel
theorem d_X6_block_316 : decode b_X6_block 316 = .ok (.aload_n 2, 1) := by decide +kernel
theorem d_X6_block_317 : decode b_X6_block 317 = .ok (.iload 18, 2) := by decide +kernel
theorem d_X6_block_319 : decode b_X6_block 319 = .ok (.iaload, 1) := by decide +kernel
theorem d_X6_block_320 : decode b_X6_block 320 = .ok (.iload 12, 2) := by decide +kernel
theorem d_X6_block_322 : decode b_X6_block 322 = .ok (.bipush 6, 2) := by decide +kernel
theorem d_X6_block_324 : decode b_X6_block 324 = .ok (.invokestatic 138, 3) := by decide +kernel
theorem d_X6_block_327 : decode b_X6_block 327 = .ok (.iload 12, 2) := by decide +kernel
theorem d_X6_block_329 : decode b_X6_block 329 = .ok (.bipush 11, 2) := by decide +kernel
theorem d_X6_block_331 : decode b_X6_block 331 = .ok (.invokestatic 138, 3) := by decide +kernel
theorem d_X6_block_334 : decode b_X6_block 334 = .ok (.ixor, 1) := by decide +kernel
theorem d_X6_block_335 : decode b_X6_block 335 = .ok (.iload 12, 2) := by decide +kernel
theorem d_X6_block_337 : decode b_X6_block 337 = .ok (.bipush 25, 2) := by decide +kernel
theorem d_X6_block_339 : decode b_X6_block 339 = .ok (.invokestatic 138, 3) := by decide +kernel
theorem d_X6_block_342 : decode b_X6_block 342 = .ok (.ixor, 1) := by decide +kernel
theorem d_X6_block_343 : decode b_X6_block 343 = .ok (.iadd, 1) := by decide +kernel
theorem d_X6_block_344 : decode b_X6_block 344 = .ok (.iload 12, 2) := by decide +kernel
theorem d_X6_block_346 : decode b_X6_block 346 = .ok (.iload 13, 2) := by decide +kernel
theorem d_X6_block_348 : decode b_X6_block 348 = .ok (.iand, 1) := by decide +kernel
theorem d_X6_block_349 : decode b_X6_block 349 = .ok (.iload 12, 2) := by decide +kernel
theorem d_X6_block_351 : decode b_X6_block 351 = .ok (.iconst (-1), 1) := by decide +kernel
theorem d_X6_block_352 : decode b_X6_block 352 = .ok (.ixor, 1) := by decide +kernel
theorem d_X6_block_353 : decode b_X6_block 353 = .ok (.iload 14, 2) := by decide +kernel
theorem d_X6_block_355 : decode b_X6_block 355 = .ok (.iand, 1) := by decide +kernel
theorem d_X6_block_356 : decode b_X6_block 356 = .ok (.ior, 1) := by decide +kernel
theorem d_X6_block_357 : decode b_X6_block 357 = .ok (.iadd, 1) := by decide +kernel
theorem d_X6_block_358 : decode b_X6_block 358 = .ok (.aload_n 0, 1) := by decide +kernel
theorem d_X6_block_359 : decode b_X6_block 359 = .ok (.getfield 89, 3) := by decide +kernel
theorem d_X6_block_362 : decode b_X6_block 362 = .ok (.iload 11, 2) := by decide +kernel
theorem d_X6_block_364 : decode b_X6_block 364 = .ok (.iaload, 1) := by decide +kernel
theorem d_X6_block_365 : decode b_X6_block 365 = .ok (.iadd, 1) := by decide +kernel
theorem d_X6_block_366 : decode b_X6_block 366 = .ok (.aload_n 0, 1) := by decide +kernel
theorem d_X6_block_367 : decode b_X6_block 367 = .ok (.getfield 99, 3) := by decide +kernel
theorem d_X6_block_370 : decode b_X6_block 370 = .ok (.iload 11, 2) := by decide +kernel
theorem d_X6_block_372 : decode b_X6_block 372 = .ok (.iaload, 1) := by decide +kernel
theorem d_X6_block_373 : decode b_X6_block 373 = .ok (.iadd, 1) := by decide +kernel
theorem d_X6_block_374 : decode b_X6_block 374 = .ok (.istore 20, 2) := by decide +kernel
theorem d_X6_block_376 : decode b_X6_block 376 = .ok (.iload 15, 2) := by decide +kernel
theorem d_X6_block_378 : decode b_X6_block 378 = .ok (.iconst 2, 1) := by decide +kernel
theorem d_X6_block_379 : decode b_X6_block 379 = .ok (.invokestatic 138, 3) := by decide +kernel
theorem d_X6_block_382 : decode b_X6_block 382 = .ok (.iload 15, 2) := by decide +kernel
theorem d_X6_block_384 : decode b_X6_block 384 = .ok (.bipush 13, 2) := by decide +kernel
theorem d_X6_block_386 : decode b_X6_block 386 = .ok (.invokestatic 138, 3) := by decide +kernel
theorem d_X6_block_389 : decode b_X6_block 389 = .ok (.ixor, 1) := by decide +kernel
theorem d_X6_block_390 : decode b_X6_block 390 = .ok (.iload 15, 2) := by decide +kernel
theorem d_X6_block_392 : decode b_X6_block 392 = .ok (.bipush 22, 2) := by decide +kernel
theorem d_X6_block_394 : decode b_X6_block 394 = .ok (.invokestatic 138, 3) := by decide +kernel
theorem d_X6_block_397 : decode b_X6_block 397 = .ok (.ixor, 1) := by decide +kernel
theorem d_X6_block_398 : decode b_X6_block 398 = .ok (.iload 15, 2) := by decide +kernel
theorem d_X6_block_400 : decode b_X6_block 400 = .ok (.iload 16, 2) := by decide +kernel
theorem d_X6_block_402 : decode b_X6_block 402 = .ok (.iand, 1) := by decide +kernel
theorem d_X6_block_403 : decode b_X6_block 403 = .ok (.iload 15, 2) := by decide +kernel
theorem d_X6_block_405 : decode b_X6_block 405 = .ok (.iload 17, 2) := by decide +kernel
theorem d_X6_block_407 : decode b_X6_block 407 = .ok (.iand, 1) := by decide +kernel
theorem d_X6_block_408 : decode b_X6_block 408 = .ok (.ixor, 1) := by decide +kernel
theorem d_X6_block_409 : decode b_X6_block 409 = .ok (.iload 16, 2) := by decide +kernel
theorem d_X6_block_411 : decode b_X6_block 411 = .ok (.iload 17, 2) := by decide +kernel
theorem d_X6_block_413 : decode b_X6_block 413 = .ok (.iand, 1) := by decide +kernel
theorem d_X6_block_414 : decode b_X6_block 414 = .ok (.ixor, 1) := by decide +kernel
theorem d_X6_block_415 : decode b_X6_block 415 = .ok (.iadd, 1) := by decide +kernel
theorem d_X6_block_416 : decode b_X6_block 416 = .ok (.istore 21, 2) := by decide +kernel
theorem d_X6_block_418 : decode b_X6_block 418 = .ok (.aload_n 2, 1) := by decide +kernel
theorem d_X6_block_419 : decode b_X6_block 419 = .ok (.iload 19, 2) := by decide +kernel
theorem d_X6_block_421 : decode b_X6_block 421 = .ok (.dup2, 1) := by decide +kernel
theorem d_X6_block_422 : decode b_X6_block 422 = .ok (.iaload, 1) := by decide +kernel
theorem d_X6_block_423 : decode b_X6_block 423 = .ok (.iload 20, 2) := by decide +kernel
theorem d_X6_block_425 : decode b_X6_block 425 = .ok (.iadd, 1) := by decide +kernel
theorem d_X6_block_426 : decode b_X6_block 426 = .ok (.iastore, 1) := by decide +kernel
theorem d_X6_block_427 : decode b_X6_block 427 = .ok (.aload_n 2, 1) := by decide +kernel
theorem d_X6_block_428 : decode b_X6_block 428 = .ok (.iload 18, 2) := by decide +kernel
theorem d_X6_block_430 : decode b_X6_block 430 = .ok (.iload 20, 2) := by decide +kernel
theorem d_X6_block_432 : decode b_X6_block 432 = .ok (.iload 21, 2) := by decide +kernel
theorem d_X6_block_434 : decode b_X6_block 434 = .ok (.iadd, 1) := by decide +kernel
theorem d_X6_block_435 : decode b_X6_block 435 = .ok (.iastore, 1) := by decide +kernel
theorem d_X6_block_436 : decode b_X6_block 436 = .ok (.iinc 11 1, 3) := by decide +kernel
theorem d_X6_block_439 : decode b_X6_block 439 = .ok (.goto (-222), 3) := by decide +kernel
theorem d_X6_block_442 : decode b_X6_block 442 = .ok (.aload_n 2, 1) := by decide +kernel
theorem d_X6_block_443 : decode b_X6_block 443 = .ok (.iconst 0, 1) := by decide +kernel
theorem d_X6_block_444 : decode b_X6_block 444 = .ok (.dup2, 1) := by decide +kernel
theorem d_X6_block_445 : decode b_X6_block 445 = .ok (.iaload, 1) := by decide +kernel
theorem d_X6_block_446 : decode b_X6_block 446 = .ok (.iload_n 3, 1) := by decide +kernel
theorem d_X6_block_447 : decode b_X6_block 447 = .ok (.iadd, 1) := by decide +kernel
theorem d_X6_block_448 : decode b_X6_block 448 = .ok (.iastore, 1) := by decide +kernel
theorem d_X6_block_449 : decode b_X6_block 449 = .ok (.aload_n 2, 1) := by decide +kernel
theorem d_X6_block_450 : decode b_X6_block 450 = .ok (.iconst 1, 1) := by decide +kernel
theorem d_X6_block_451 : decode b_X6_block 451 = .ok (.dup2, 1) := by decide +kernel
theorem d_X6_block_452 : decode b_X6_block 452 = .ok (.iaload, 1) := by decide +kernel
theorem d_X6_block_453 : decode b_X6_block 453 = .ok (.iload 4, 2) := by decide +kernel
theorem d_X6_block_455 : decode b_X6_block 455 = .ok (.iadd, 1) := by decide +kernel
theorem d_X6_block_456 : decode b_X6_block 456 = .ok (.iastore, 1) := by decide +kernel
theorem d_X6_block_457 : decode b_X6_block 457 = .ok (.aload_n 2, 1) := by decide +kernel
theorem d_X6_block_458 : decode b_X6_block 458 = .ok (.iconst 2, 1) := by decide +kernel
theorem d_X6_block_459 : decode b_X6_block 459 = .ok (.dup2, 1) := by decide +kernel
theorem d_X6_block_460 : decode b_X6_block 460 = .ok (.iaload, 1) := by decide +kernel
theorem d_X6_block_461 : decode b_X6_block 461 = .ok (.iload 5, 2) := by decide +kernel
theorem d_X6_block_463 : decode b_X6_block 463 = .ok (.iadd, 1) := by decide +kernel
theorem d_X6_block_464 : decode b_X6_block 464 = .ok (.iastore, 1) := by decide +kernel
theorem d_X6_block_465 : decode b_X6_block 465 = .ok (.aload_n 2, 1) := by decide +kernel
theorem d_X6_block_466 : decode b_X6_block 466 = .ok (.iconst 3, 1) := by decide +kernel
theorem d_X6_block_467 : decode b_X6_block 467 = .ok (.dup2, 1) := by decide +kernel
theorem d_X6_block_468 : decode b_X6_block 468 = .ok (.iaload, 1) := by decide +kernel
theorem d_X6_block_469 : decode b_X6_block 469 = .ok (.iload 6, 2) := by decide +kernel
theorem d_X6_block_471 : decode b_X6_block 471 = .ok (.iadd, 1) := by decide +kernel
theorem d_X6_block_472 : decode b_X6_block 472 = .ok (.iastore, 1) := by decide +kernel
theorem d_X6_block_473 : decode b_X6_block 473 = .ok (.aload_n 2, 1) := by decide +kernel
theorem d_X6_block_474 : decode b_X6_block 474 = .ok (.iconst 4, 1) := by decide +kernel
theorem d_X6_block_475 : decode b_X6_block 475 = .ok (.dup2, 1) := by decide +kernel
theorem d_X6_block_476 : decode b_X6_block 476 = .ok (.iaload, 1) := by decide +kernel
theorem d_X6_block_477 : decode b_X6_block 477 = .ok (.iload 7, 2) := by decide +kernel
theorem d_X6_block_479 : decode b_X6_block 479 = .ok (.iadd, 1) := by decide +kernel
theorem d_X6_block_480 : decode b_X6_block 480 = .ok (.iastore, 1) := by decide +kernel
theorem d_X6_block_481 : decode b_X6_block 481 = .ok (.aload_n 2, 1) := by decide +kernel
theorem d_X6_block_482 : decode b_X6_block 482 = .ok (.iconst 5, 1) := by decide +kernel
theorem d_X6_block_483 : decode b_X6_block 483 = .ok (.dup2, 1) := by decide +kernel
theorem d_X6_block_484 : decode b_X6_block 484 = .ok (.iaload, 1) := by decide +kernel
theorem d_X6_block_485 : decode b_X6_block 485 = .ok (.iload 8, 2) := by decide +kernel
theorem d_X6_block_487 : decode b_X6_block 487 = .ok (.iadd, 1) := by decide +kernel
theorem d_X6_block_488 : decode b_X6_block 488 = .ok (.iastore, 1) := by decide +kernel
theorem d_X6_block_489 : decode b_X6_block 489 = .ok (.aload_n 2, 1) := by decide +kernel
theorem d_X6_block_490 : decode b_X6_block 490 = .ok (.bipush 6, 2) := by decide +kernel
theorem d_X6_block_492 : decode b_X6_block 492 = .ok (.dup2, 1) := by decide +kernel
theorem d_X6_block_493 : decode b_X6_block 493 = .ok (.iaload, 1) := by decide +kernel
theorem d_X6_block_494 : decode b_X6_block 494 = .ok (.iload 9, 2) := by decide +kernel
theorem d_X6_block_496 : decode b_X6_block 496 = .ok (.iadd, 1) := by decide +kernel
theorem d_X6_block_497 : decode b_X6_block 497 = .ok (.iastore, 1) := by decide +kernel
theorem d_X6_block_498 : decode b_X6_block 498 = .ok (.aload_n 2, 1) := by decide +kernel
theorem d_X6_block_499 : decode b_X6_block 499 = .ok (.bipush 7, 2) := by decide +kernel
theorem d_X6_block_501 : decode b_X6_block 501 = .ok (.dup2, 1) := by decide +kernel
theorem d_X6_block_502 : decode b_X6_block 502 = .ok (.iaload, 1) := by decide +kernel
theorem d_X6_block_503 : decode b_X6_block 503 = .ok (.iload 10, 2) := by decide +kernel
theorem d_X6_block_505 : decode b_X6_block 505 = .ok (.iadd, 1) := by decide +kernel
theorem d_X6_block_506 : decode b_X6_block 506 = .ok (.iastore, 1) := by decide +kernel
theorem d_X6_block_507 : decode b_X6_block 507 = .ok (.return_, 1) := by decide +kernel
theorem d_X6_digest_0 : decode b_X6_digest 0 = .ok (.ldc2_w 141, 3) := by decide +kernel
theorem d_X6_digest_3 : decode b_X6_digest 3 = .ok (.aload_n 0, 1) := by decide +kernel
theorem d_X6_digest_4 : decode b_X6_digest 4 = .ok (.getfield 135, 3) := by decide +kernel
theorem d_X6_digest_7 : decode b_X6_digest 7 = .ok (.i2l, 1) := by decide +kernel
theorem d_X6_digest_8 : decode b_X6_digest 8 = .ok (.lmul, 1) := by decide +kernel
theorem d_X6_digest_9 : decode b_X6_digest 9 = .ok (.lstore_n 2, 1) := by decide +kernel
theorem d_X6_digest_10 : decode b_X6_digest 10 = .ok (.aload_n 0, 1) := by decide +kernel
theorem d_X6_digest_11 : decode b_X6_digest 11 = .ok (.sipush 128, 3) := by decide +kernel
theorem d_X6_digest_14 : decode b_X6_digest 14 = .ok (.invokevirtual 143, 3) := by decide +kernel
theorem d_X6_digest_17 : decode b_X6_digest 17 = .ok (.aload_n 0, 1) := by decide +kernel
theorem d_X6_digest_18 : decode b_X6_digest 18 = .ok (.getfield 135, 3) := by decide +kernel
theorem d_X6_digest_21 : decode b_X6_digest 21 = .ok (.bipush 64, 2) := by decide +kernel
theorem d_X6_digest_23 : decode b_X6_digest 23 = .ok (.irem, 1) := by decide +kernel
theorem d_X6_digest_24 : decode b_X6_digest 24 = .ok (.bipush 56, 2) := by decide +kernel
theorem d_X6_digest_26 : decode b_X6_digest 26 = .ok (.if_icmp .eq 11, 3) := by decide +kernel
theorem d_X6_digest_29 : decode b_X6_digest 29 = .ok (.aload_n 0, 1) := by decide +kernel
theorem d_X6_digest_30 : decode b_X6_digest 30 = .ok (.iconst 0, 1) := by decide +kernel
theorem d_X6_digest_31 : decode b_X6_digest 31 = .ok (.invokevirtual 143, 3) := by decide +kernel
theorem d_X6_digest_34 : decode b_X6_digest 34 = .ok (.goto (-17), 3) := by decide +kernel
theorem d_X6_digest_37 : decode b_X6_digest 37 = .ok (.bipush 7, 2) := by decide +kernel
theorem d_X6_digest_39 : decode b_X6_digest 39 = .ok (.istore 4, 2) := by decide +kernel
theorem d_X6_digest_41 : decode b_X6_digest 41 = .ok (.iload 4, 2) := by decide +kernel
theorem d_X6_digest_43 : decode b_X6_digest 43 = .ok (.ifCond .lt 21, 3) := by decide +kernel
theorem d_X6_digest_46 : decode b_X6_digest 46 = .ok (.aload_n 0, 1) := by decide +kernel
theorem d_X6_digest_47 : decode b_X6_digest 47 = .ok (.lload_n 2, 1) := by decide +kernel
theorem d_X6_digest_48 : decode b_X6_digest 48 = .ok (.bipush 8, 2) := by decide +kernel
theorem d_X6_digest_50 : decode b_X6_digest 50 = .ok (.iload 4, 2) := by decide +kernel
theorem d_X6_digest_52 : decode b_X6_digest 52 = .ok (.imul, 1) := by decide +kernel
theorem d_X6_digest_53 : decode b_X6_digest 53 = .ok (.lshr, 1) := by decide +kernel
theorem d_X6_digest_54 : decode b_X6_digest 54 = .ok (.l2i, 1) := by decide +kernel
theorem d_X6_digest_55 : decode b_X6_digest 55 = .ok (.invokevirtual 143, 3) := by decide +kernel
theorem d_X6_digest_58 : decode b_X6_digest 58 = .ok (.iinc 4 (-1), 3) := by decide +kernel
theorem d_X6_digest_61 : decode b_X6_digest 61 = .ok (.goto (-20), 3) := by decide +kernel
theorem d_X6_digest_64 : decode b_X6_digest 64 = .ok (.iconst 0, 1) := by decide +kernel
theorem d_X6_digest_65 : decode b_X6_digest 65 = .ok (.istore 4, 2) := by decide +kernel
theorem d_X6_digest_67 : decode b_X6_digest 67 = .ok (.iload 4, 2) := by decide +kernel
theorem d_X6_digest_69 : decode b_X6_digest 69 = .ok (.bipush 8, 2) := by decide +kernel
theorem d_X6_digest_71 : decode b_X6_digest 71 = .ok (.if_icmp .ge 23, 3) := by decide +kernel
theorem d_X6_digest_74 : decode b_X6_digest 74 = .ok (.aload_n 0, 1) := by decide +kernel
theorem d_X6_digest_75 : decode b_X6_digest 75 = .ok (.getfield 96, 3) := by decide +kernel
theorem d_X6_digest_78 : decode b_X6_digest 78 = .ok (.iload 4, 2) := by decide +kernel
theorem d_X6_digest_80 : decode b_X6_digest 80 = .ok (.aload_n 0, 1) := by decide +kernel
theorem d_X6_digest_81 : decode b_X6_digest 81 = .ok (.getfield 86, 3) := by decide +kernel
theorem d_X6_digest_84 : decode b_X6_digest 84 = .ok (.iload 4, 2) := by decide +kernel
theorem d_X6_digest_86 : decode b_X6_digest 86 = .ok (.iaload, 1) := by decide +kernel
theorem d_X6_digest_87 : decode b_X6_digest 87 = .ok (.iastore, 1) := by decide +kernel
theorem d_X6_digest_88 : decode b_X6_digest 88 = .ok (.iinc 4 1, 3) := by decide +kernel
theorem d_X6_digest_91 : decode b_X6_digest 91 = .ok (.goto (-24), 3) := by decide +kernel
theorem d_X6_digest_94 : decode b_X6_digest 94 = .ok (.iconst 0, 1) := by decide +kernel
theorem d_X6_digest_95 : decode b_X6_digest 95 = .ok (.istore 4, 2) := by decide +kernel
theorem d_X6_digest_97 : decode b_X6_digest 97 = .ok (.iload 4, 2) := by decide +kernel
theorem d_X6_digest_99 : decode b_X6_digest 99 = .ok (.aload_n 0, 1) := by decide +kernel
theorem d_X6_digest_100 : decode b_X6_digest 100 = .ok (.getfield 135, 3) := by decide +kernel
theorem d_X6_digest_103 : decode b_X6_digest 103 = .ok (.if_icmp .ge 15, 3) := by decide +kernel
theorem d_X6_digest_106 : decode b_X6_digest 106 = .ok (.aload_n 0, 1) := by decide +kernel
theorem d_X6_digest_107 : decode b_X6_digest 107 = .ok (.iload 4, 2) := by decide +kernel
theorem d_X6_digest_109 : decode b_X6_digest 109 = .ok (.invokevirtual 147, 3) := by decide +kernel
theorem d_X6_digest_112 : decode b_X6_digest 112 = .ok (.iinc 4 64, 3) := by decide +kernel
theorem d_X6_digest_115 : decode b_X6_digest 115 = .ok (.goto (-18), 3) := by decide +kernel
theorem d_X6_digest_118 : decode b_X6_digest 118 = .ok (.iconst 0, 1) := by decide +kernel
theorem d_X6_digest_119 : decode b_X6_digest 119 = .ok (.istore 4, 2) := by decide +kernel
theorem d_X6_digest_121 : decode b_X6_digest 121 = .ok (.iload 4, 2) := by decide +kernel
theorem d_X6_digest_123 : decode b_X6_digest 123 = .ok (.bipush 32, 2) := by decide +kernel
theorem d_X6_digest_125 : decode b_X6_digest 125 = .ok (.if_icmp .ge 37, 3) := by decide +kernel
theorem d_X6_digest_128 : decode b_X6_digest 128 = .ok (.aload_n 1, 1) := by decide +kernel
theorem d_X6_digest_129 : decode b_X6_digest 129 = .ok (.iload 4, 2) := by decide +kernel
theorem d_X6_digest_131 : decode b_X6_digest 131 = .ok (.aload_n 0, 1) := by decide +kernel
theorem d_X6_digest_132 : decode b_X6_digest 132 = .ok (.getfield 96, 3) := by decide +kernel
theorem d_X6_digest_135 : decode b_X6_digest 135 = .ok (.iload 4, 2) := by decide +kernel
theorem d_X6_digest_137 : decode b_X6_digest 137 = .ok (.iconst 4, 1) := by decide +kernel
theorem d_X6_digest_138 : decode b_X6_digest 138 = .ok (.idiv, 1) := by decide +kernel
theorem d_X6_digest_139 : decode b_X6_digest 139 = .ok (.iaload, 1) := by decide +kernel
theorem d_X6_digest_140 : decode b_X6_digest 140 = .ok (.bipush 24, 2) := by decide +kernel
theorem d_X6_digest_142 : decode b_X6_digest 142 = .ok (.bipush 8, 2) := by decide +kernel
theorem d_X6_digest_144 : decode b_X6_digest 144 = .ok (.iload 4, 2) := by decide +kernel
theorem d_X6_digest_146 : decode b_X6_digest 146 = .ok (.iconst 4, 1) := by decide +kernel
theorem d_X6_digest_147 : decode b_X6_digest 147 = .ok (.irem, 1) := by decide +kernel
theorem d_X6_digest_148 : decode b_X6_digest 148 = .ok (.imul, 1) := by decide +kernel
theorem d_X6_digest_149 : decode b_X6_digest 149 = .ok (.isub, 1) := by decide +kernel
theorem d_X6_digest_150 : decode b_X6_digest 150 = .ok (.ishr, 1) := by decide +kernel
theorem d_X6_digest_151 : decode b_X6_digest 151 = .ok (.sipush 255, 3) := by decide +kernel
theorem d_X6_digest_154 : decode b_X6_digest 154 = .ok (.iand, 1) := by decide +kernel
theorem d_X6_digest_155 : decode b_X6_digest 155 = .ok (.iastore, 1) := by decide +kernel
theorem d_X6_digest_156 : decode b_X6_digest 156 = .ok (.iinc 4 1, 3) := by decide +kernel
theorem d_X6_digest_159 : decode b_X6_digest 159 = .ok (.goto (-38), 3) := by decide +kernel
theorem d_X6_digest_162 : decode b_X6_digest 162 = .ok (.return_, 1) := by decide +kernel
theorem d_X6_beginMac_0 : decode b_X6_beginMac 0 = .ok (.aload_n 0, 1) := by decide +kernel
theorem d_X6_beginMac_1 : decode b_X6_beginMac 1 = .ok (.iconst 0, 1) := by decide +kernel
theorem d_X6_beginMac_2 : decode b_X6_beginMac 2 = .ok (.putfield 135, 3) := by decide +kernel
theorem d_X6_beginMac_5 : decode b_X6_beginMac 5 = .ok (.iconst 0, 1) := by decide +kernel
theorem d_X6_beginMac_6 : decode b_X6_beginMac 6 = .ok (.istore 5, 2) := by decide +kernel
theorem d_X6_beginMac_8 : decode b_X6_beginMac 8 = .ok (.iload 5, 2) := by decide +kernel
theorem d_X6_beginMac_10 : decode b_X6_beginMac 10 = .ok (.bipush 64, 2) := by decide +kernel
theorem d_X6_beginMac_12 : decode b_X6_beginMac 12 = .ok (.if_icmp .ge 32, 3) := by decide +kernel
theorem d_X6_beginMac_15 : decode b_X6_beginMac 15 = .ok (.aload_n 0, 1) := by decide +kernel
theorem d_X6_beginMac_16 : decode b_X6_beginMac 16 = .ok (.iload 5, 2) := by decide +kernel
theorem d_X6_beginMac_18 : decode b_X6_beginMac 18 = .ok (.iload_n 3, 1) := by decide +kernel
theorem d_X6_beginMac_19 : decode b_X6_beginMac 19 = .ok (.if_icmp .ge 12, 3) := by decide +kernel
theorem d_X6_beginMac_22 : decode b_X6_beginMac 22 = .ok (.aload_n 1, 1) := by decide +kernel
theorem d_X6_beginMac_23 : decode b_X6_beginMac 23 = .ok (.iload_n 2, 1) := by decide +kernel
theorem d_X6_beginMac_24 : decode b_X6_beginMac 24 = .ok (.iload 5, 2) := by decide +kernel
theorem d_X6_beginMac_26 : decode b_X6_beginMac 26 = .ok (.iadd, 1) := by decide +kernel
theorem d_X6_beginMac_27 : decode b_X6_beginMac 27 = .ok (.iaload, 1) := by decide +kernel
theorem d_X6_beginMac_28 : decode b_X6_beginMac 28 = .ok (.goto 4, 3) := by decide +kernel
theorem d_X6_beginMac_31 : decode b_X6_beginMac 31 = .ok (.iconst 0, 1) := by decide +kernel
theorem d_X6_beginMac_32 : decode b_X6_beginMac 32 = .ok (.iload 4, 2) := by decide +kernel
theorem d_X6_beginMac_34 : decode b_X6_beginMac 34 = .ok (.ixor, 1) := by decide +kernel
theorem d_X6_beginMac_35 : decode b_X6_beginMac 35 = .ok (.invokevirtual 143, 3) := by decide +kernel
theorem d_X6_beginMac_38 : decode b_X6_beginMac 38 = .ok (.iinc 5 1, 3) := by decide +kernel
theorem d_X6_beginMac_41 : decode b_X6_beginMac 41 = .ok (.goto (-33), 3) := by decide +kernel
theorem d_X6_beginMac_44 : decode b_X6_beginMac 44 = .ok (.return_, 1) := by decide +kernel
theorem d_X6_endMac_0 : decode b_X6_endMac 0 = .ok (.aload_n 0, 1) := by decide +kernel
theorem d_X6_endMac_1 : decode b_X6_endMac 1 = .ok (.aload_n 0, 1) := by decide +kernel
theorem d_X6_endMac_2 : decode b_X6_endMac 2 = .ok (.getfield 108, 3) := by decide +kernel
theorem d_X6_endMac_5 : decode b_X6_endMac 5 = .ok (.invokevirtual 150, 3) := by decide +kernel
theorem d_X6_endMac_8 : decode b_X6_endMac 8 = .ok (.aload_n 0, 1) := by decide +kernel
theorem d_X6_endMac_9 : decode b_X6_endMac 9 = .ok (.aload_n 1, 1) := by decide +kernel
theorem d_X6_endMac_10 : decode b_X6_endMac 10 = .ok (.iload_n 2, 1) := by decide +kernel
theorem d_X6_endMac_11 : decode b_X6_endMac 11 = .ok (.iload_n 3, 1) := by decide +kernel
theorem d_X6_endMac_12 : decode b_X6_endMac 12 = .ok (.bipush 92, 2) := by decide +kernel
theorem d_X6_endMac_14 : decode b_X6_endMac 14 = .ok (.invokevirtual 153, 3) := by decide +kernel
theorem d_X6_endMac_17 : decode b_X6_endMac 17 = .ok (.iconst 0, 1) := by decide +kernel
theorem d_X6_endMac_18 : decode b_X6_endMac 18 = .ok (.istore 5, 2) := by decide +kernel
theorem d_X6_endMac_20 : decode b_X6_endMac 20 = .ok (.iload 5, 2) := by decide +kernel
theorem d_X6_endMac_22 : decode b_X6_endMac 22 = .ok (.bipush 32, 2) := by decide +kernel
theorem d_X6_endMac_24 : decode b_X6_endMac 24 = .ok (.if_icmp .ge 20, 3) := by decide +kernel
theorem d_X6_endMac_27 : decode b_X6_endMac 27 = .ok (.aload_n 0, 1) := by decide +kernel
theorem d_X6_endMac_28 : decode b_X6_endMac 28 = .ok (.aload_n 0, 1) := by decide +kernel
theorem d_X6_endMac_29 : decode b_X6_endMac 29 = .ok (.getfield 108, 3) := by decide +kernel
theorem d_X6_endMac_32 : decode b_X6_endMac 32 = .ok (.iload 5, 2) := by decide +kernel
theorem d_X6_endMac_34 : decode b_X6_endMac 34 = .ok (.iaload, 1) := by decide +kernel
theorem d_X6_endMac_35 : decode b_X6_endMac 35 = .ok (.invokevirtual 143, 3) := by decide +kernel
theorem d_X6_endMac_38 : decode b_X6_endMac 38 = .ok (.iinc 5 1, 3) := by decide +kernel
theorem d_X6_endMac_41 : decode b_X6_endMac 41 = .ok (.goto (-21), 3) := by decide +kernel
theorem d_X6_endMac_44 : decode b_X6_endMac 44 = .ok (.aload_n 0, 1) := by decide +kernel
theorem d_X6_endMac_45 : decode b_X6_endMac 45 = .ok (.aload 4, 2) := by decide +kernel
theorem d_X6_endMac_47 : decode b_X6_endMac 47 = .ok (.invokevirtual 150, 3) := by decide +kernel
theorem d_X6_endMac_50 : decode b_X6_endMac 50 = .ok (.return_, 1) := by decide +kernel
theorem d_X6_putText_0 : decode b_X6_putText 0 = .ok (.aload_n 0, 1) := by decide +kernel
theorem d_X6_putText_1 : decode b_X6_putText 1 = .ok (.bipush 118, 2) := by decide +kernel
theorem d_X6_putText_3 : decode b_X6_putText 3 = .ok (.invokevirtual 143, 3) := by decide +kernel
theorem d_X6_putText_6 : decode b_X6_putText 6 = .ok (.aload_n 0, 1) := by decide +kernel
theorem d_X6_putText_7 : decode b_X6_putText 7 = .ok (.bipush 49, 2) := by decide +kernel
theorem d_X6_putText_9 : decode b_X6_putText 9 = .ok (.invokevirtual 143, 3) := by decide +kernel
theorem d_X6_putText_12 : decode b_X6_putText 12 = .ok (.aload_n 0, 1) := by decide +kernel
theorem d_X6_putText_13 : decode b_X6_putText 13 = .ok (.bipush 32, 2) := by decide +kernel
theorem d_X6_putText_15 : decode b_X6_putText 15 = .ok (.invokevirtual 143, 3) := by decide +kernel
theorem d_X6_putText_18 : decode b_X6_putText 18 = .ok (.iload_n 1, 1) := by decide +kernel
theorem d_X6_putText_19 : decode b_X6_putText 19 = .ok (.iconst 4, 1) := by decide +kernel
theorem d_X6_putText_20 : decode b_X6_putText 20 = .ok (.if_icmp .eq 8, 3) := by decide +kernel
theorem d_X6_putText_23 : decode b_X6_putText 23 = .ok (.iload_n 1, 1) := by decide +kernel
theorem d_X6_putText_24 : decode b_X6_putText 24 = .ok (.iconst 5, 1) := by decide +kernel
theorem d_X6_putText_25 : decode b_X6_putText 25 = .ok (.if_icmp .ne 17, 3) := by decide +kernel
theorem d_X6_putText_28 : decode b_X6_putText 28 = .ok (.aload_n 0, 1) := by decide +kernel
theorem d_X6_putText_29 : decode b_X6_putText 29 = .ok (.bipush 102, 2) := by decide +kernel
theorem d_X6_putText_31 : decode b_X6_putText 31 = .ok (.bipush 105, 2) := by decide +kernel
theorem d_X6_putText_33 : decode b_X6_putText 33 = .ok (.bipush 114, 2) := by decide +kernel
theorem d_X6_putText_35 : decode b_X6_putText 35 = .ok (.bipush 115, 2) := by decide +kernel
theorem d_X6_putText_37 : decode b_X6_putText 37 = .ok (.bipush 116, 2) := by decide +kernel
theorem d_X6_putText_39 : decode b_X6_putText 39 = .ok (.invokevirtual 157, 3) := by decide +kernel
theorem d_X6_putText_42 : decode b_X6_putText 42 = .ok (.iload_n 1, 1) := by decide +kernel
theorem d_X6_putText_43 : decode b_X6_putText 43 = .ok (.bipush 6, 2) := by decide +kernel
theorem d_X6_putText_45 : decode b_X6_putText 45 = .ok (.if_icmp .eq 9, 3) := by decide +kernel
theorem d_X6_putText_48 : decode b_X6_putText 48 = .ok (.iload_n 1, 1) := by decide +kernel
theorem d_X6_putText_49 : decode b_X6_putText 49 = .ok (.bipush 7, 2) := by decide +kernel
theorem d_X6_putText_51 : decode b_X6_putText 51 = .ok (.if_icmp .ne 17, 3) := by decide +kernel
theorem d_X6_putText_54 : decode b_X6_putText 54 = .ok (.aload_n 0, 1) := by decide +kernel
theorem d_X6_putText_55 : decode b_X6_putText 55 = .ok (.bipush 103, 2) := by decide +kernel
theorem d_X6_putText_57 : decode b_X6_putText 57 = .ok (.bipush 114, 2) := by decide +kernel
theorem d_X6_putText_59 : decode b_X6_putText 59 = .ok (.bipush 101, 2) := by decide +kernel
theorem d_X6_putText_61 : decode b_X6_putText 61 = .ok (.bipush 101, 2) := by decide +kernel
theorem d_X6_putText_63 : decode b_X6_putText 63 = .ok (.bipush 116, 2) := by decide +kernel
theorem d_X6_putText_65 : decode b_X6_putText 65 = .ok (.invokevirtual 157, 3) := by decide +kernel
theorem d_X6_putText_68 : decode b_X6_putText 68 = .ok (.iload_n 1, 1) := by decide +kernel
theorem d_X6_putText_69 : decode b_X6_putText 69 = .ok (.bipush 8, 2) := by decide +kernel
theorem d_X6_putText_71 : decode b_X6_putText 71 = .ok (.if_icmp .eq 9, 3) := by decide +kernel
theorem d_X6_putText_74 : decode b_X6_putText 74 = .ok (.iload_n 1, 1) := by decide +kernel
theorem d_X6_putText_75 : decode b_X6_putText 75 = .ok (.bipush 9, 2) := by decide +kernel
theorem d_X6_putText_77 : decode b_X6_putText 77 = .ok (.if_icmp .ne 16, 3) := by decide +kernel
theorem d_X6_putText_80 : decode b_X6_putText 80 = .ok (.aload_n 0, 1) := by decide +kernel
theorem d_X6_putText_81 : decode b_X6_putText 81 = .ok (.bipush 116, 2) := by decide +kernel
theorem d_X6_putText_83 : decode b_X6_putText 83 = .ok (.bipush 97, 2) := by decide +kernel
theorem d_X6_putText_85 : decode b_X6_putText 85 = .ok (.bipush 108, 2) := by decide +kernel
theorem d_X6_putText_87 : decode b_X6_putText 87 = .ok (.bipush 107, 2) := by decide +kernel
theorem d_X6_putText_89 : decode b_X6_putText 89 = .ok (.iconst 0, 1) := by decide +kernel
theorem d_X6_putText_90 : decode b_X6_putText 90 = .ok (.invokevirtual 157, 3) := by decide +kernel
theorem d_X6_putText_93 : decode b_X6_putText 93 = .ok (.iload_n 1, 1) := by decide +kernel
theorem d_X6_putText_94 : decode b_X6_putText 94 = .ok (.bipush 10, 2) := by decide +kernel
theorem d_X6_putText_96 : decode b_X6_putText 96 = .ok (.if_icmp .ne 16, 3) := by decide +kernel
theorem d_X6_putText_99 : decode b_X6_putText 99 = .ok (.aload_n 0, 1) := by decide +kernel
theorem d_X6_putText_100 : decode b_X6_putText 100 = .ok (.bipush 100, 2) := by decide +kernel
theorem d_X6_putText_102 : decode b_X6_putText 102 = .ok (.bipush 111, 2) := by decide +kernel
theorem d_X6_putText_104 : decode b_X6_putText 104 = .ok (.bipush 110, 2) := by decide +kernel
theorem d_X6_putText_106 : decode b_X6_putText 106 = .ok (.bipush 101, 2) := by decide +kernel
theorem d_X6_putText_108 : decode b_X6_putText 108 = .ok (.iconst 0, 1) := by decide +kernel
theorem d_X6_putText_109 : decode b_X6_putText 109 = .ok (.invokevirtual 157, 3) := by decide +kernel
theorem d_X6_putText_112 : decode b_X6_putText 112 = .ok (.iload_n 1, 1) := by decide +kernel
theorem d_X6_putText_113 : decode b_X6_putText 113 = .ok (.bipush 10, 2) := by decide +kernel
theorem d_X6_putText_115 : decode b_X6_putText 115 = .ok (.if_icmp .ne 4, 3) := by decide +kernel
theorem d_X6_putText_118 : decode b_X6_putText 118 = .ok (.return_, 1) := by decide +kernel
theorem d_X6_putText_119 : decode b_X6_putText 119 = .ok (.aload_n 0, 1) := by decide +kernel
theorem d_X6_putText_120 : decode b_X6_putText 120 = .ok (.bipush 32, 2) := by decide +kernel
theorem d_X6_putText_122 : decode b_X6_putText 122 = .ok (.invokevirtual 143, 3) := by decide +kernel
theorem d_X6_putText_125 : decode b_X6_putText 125 = .ok (.aload_n 0, 1) := by decide +kernel
theorem d_X6_putText_126 : decode b_X6_putText 126 = .ok (.iload_n 1, 1) := by decide +kernel
theorem d_X6_putText_127 : decode b_X6_putText 127 = .ok (.iconst 2, 1) := by decide +kernel
theorem d_X6_putText_128 : decode b_X6_putText 128 = .ok (.irem, 1) := by decide +kernel
theorem d_X6_putText_129 : decode b_X6_putText 129 = .ok (.ifCond .ne 8, 3) := by decide +kernel
theorem d_X6_putText_132 : decode b_X6_putText 132 = .ok (.bipush 97, 2) := by decide +kernel
theorem d_X6_putText_134 : decode b_X6_putText 134 = .ok (.goto 5, 3) := by decide +kernel
theorem d_X6_putText_137 : decode b_X6_putText 137 = .ok (.bipush 98, 2) := by decide +kernel
theorem d_X6_putText_139 : decode b_X6_putText 139 = .ok (.invokevirtual 143, 3) := by decide +kernel
theorem d_X6_putText_142 : decode b_X6_putText 142 = .ok (.return_, 1) := by decide +kernel
theorem d_X6_putWord_0 : decode b_X6_putWord 0 = .ok (.aload_n 0, 1) := by decide +kernel
theorem d_X6_putWord_1 : decode b_X6_putWord 1 = .ok (.iload_n 1, 1) := by decide +kernel
theorem d_X6_putWord_2 : decode b_X6_putWord 2 = .ok (.invokevirtual 143, 3) := by decide +kernel
theorem d_X6_putWord_5 : decode b_X6_putWord 5 = .ok (.aload_n 0, 1) := by decide +kernel
theorem d_X6_putWord_6 : decode b_X6_putWord 6 = .ok (.iload_n 2, 1) := by decide +kernel
theorem d_X6_putWord_7 : decode b_X6_putWord 7 = .ok (.invokevirtual 143, 3) := by decide +kernel
theorem d_X6_putWord_10 : decode b_X6_putWord 10 = .ok (.aload_n 0, 1) := by decide +kernel
theorem d_X6_putWord_11 : decode b_X6_putWord 11 = .ok (.iload_n 3, 1) := by decide +kernel
theorem d_X6_putWord_12 : decode b_X6_putWord 12 = .ok (.invokevirtual 143, 3) := by decide +kernel
theorem d_X6_putWord_15 : decode b_X6_putWord 15 = .ok (.aload_n 0, 1) := by decide +kernel
theorem d_X6_putWord_16 : decode b_X6_putWord 16 = .ok (.iload 4, 2) := by decide +kernel
theorem d_X6_putWord_18 : decode b_X6_putWord 18 = .ok (.invokevirtual 143, 3) := by decide +kernel
theorem d_X6_putWord_21 : decode b_X6_putWord 21 = .ok (.iload 5, 2) := by decide +kernel
theorem d_X6_putWord_23 : decode b_X6_putWord 23 = .ok (.ifCond .le 9, 3) := by decide +kernel
theorem d_X6_putWord_26 : decode b_X6_putWord 26 = .ok (.aload_n 0, 1) := by decide +kernel
theorem d_X6_putWord_27 : decode b_X6_putWord 27 = .ok (.iload 5, 2) := by decide +kernel
theorem d_X6_putWord_29 : decode b_X6_putWord 29 = .ok (.invokevirtual 143, 3) := by decide +kernel
theorem d_X6_putWord_32 : decode b_X6_putWord 32 = .ok (.return_, 1) := by decide +kernel
theorem d_X6_label_0 : decode b_X6_label 0 = .ok (.aload_n 0, 1) := by decide +kernel
theorem d_X6_label_1 : decode b_X6_label 1 = .ok (.aload_n 1, 1) := by decide +kernel
theorem d_X6_label_2 : decode b_X6_label 2 = .ok (.iload_n 2, 1) := by decide +kernel
theorem d_X6_label_3 : decode b_X6_label 3 = .ok (.bipush 32, 2) := by decide +kernel
theorem d_X6_label_5 : decode b_X6_label 5 = .ok (.bipush 54, 2) := by decide +kernel
theorem d_X6_label_7 : decode b_X6_label 7 = .ok (.invokevirtual 153, 3) := by decide +kernel
theorem d_X6_label_10 : decode b_X6_label 10 = .ok (.aload_n 0, 1) := by decide +kernel
theorem d_X6_label_11 : decode b_X6_label 11 = .ok (.iconst 0, 1) := by decide +kernel
theorem d_X6_label_12 : decode b_X6_label 12 = .ok (.invokevirtual 143, 3) := by decide +kernel
theorem d_X6_label_15 : decode b_X6_label 15 = .ok (.aload_n 0, 1) := by decide +kernel
theorem d_X6_label_16 : decode b_X6_label 16 = .ok (.bipush 32, 2) := by decide +kernel
theorem d_X6_label_18 : decode b_X6_label 18 = .ok (.invokevirtual 143, 3) := by decide +kernel
theorem d_X6_label_21 : decode b_X6_label 21 = .ok (.aload_n 0, 1) := by decide +kernel
theorem d_X6_label_22 : decode b_X6_label 22 = .ok (.iload_n 3, 1) := by decide +kernel
theorem d_X6_label_23 : decode b_X6_label 23 = .ok (.bipush 10, 2) := by decide +kernel
theorem d_X6_label_25 : decode b_X6_label 25 = .ok (.if_icmp .ne 8, 3) := by decide +kernel
theorem d_X6_label_28 : decode b_X6_label 28 = .ok (.bipush 7, 2) := by decide +kernel
theorem d_X6_label_30 : decode b_X6_label 30 = .ok (.goto 16, 3) := by decide +kernel
theorem d_X6_label_33 : decode b_X6_label 33 = .ok (.iload_n 3, 1) := by decide +kernel
theorem d_X6_label_34 : decode b_X6_label 34 = .ok (.bipush 8, 2) := by decide +kernel
theorem d_X6_label_36 : decode b_X6_label 36 = .ok (.if_icmp .ge 8, 3) := by decide +kernel
theorem d_X6_label_39 : decode b_X6_label 39 = .ok (.bipush 10, 2) := by decide +kernel
theorem d_X6_label_41 : decode b_X6_label 41 = .ok (.goto 5, 3) := by decide +kernel
theorem d_X6_label_44 : decode b_X6_label 44 = .ok (.bipush 9, 2) := by decide +kernel
theorem d_X6_label_46 : decode b_X6_label 46 = .ok (.invokevirtual 143, 3) := by decide +kernel
theorem d_X6_label_49 : decode b_X6_label 49 = .ok (.aload_n 0, 1) := by decide +kernel
theorem d_X6_label_50 : decode b_X6_label 50 = .ok (.iload_n 3, 1) := by decide +kernel
theorem d_X6_label_51 : decode b_X6_label 51 = .ok (.invokevirtual 161, 3) := by decide +kernel
theorem d_X6_label_54 : decode b_X6_label 54 = .ok (.aload_n 0, 1) := by decide +kernel
theorem d_X6_label_55 : decode b_X6_label 55 = .ok (.iload 4, 2) := by decide +kernel
theorem d_X6_label_57 : decode b_X6_label 57 = .ok (.ifCond .eq 8, 3) := by decide +kernel
theorem d_X6_label_60 : decode b_X6_label 60 = .ok (.bipush 32, 2) := by decide +kernel
theorem d_X6_label_62 : decode b_X6_label 62 = .ok (.goto 4, 3) := by decide +kernel
theorem d_X6_label_65 : decode b_X6_label 65 = .ok (.iconst 0, 1) := by decide +kernel
theorem d_X6_label_66 : decode b_X6_label 66 = .ok (.invokevirtual 143, 3) := by decide +kernel
theorem d_X6_label_69 : decode b_X6_label 69 = .ok (.iconst 0, 1) := by decide +kernel
theorem d_X6_label_70 : decode b_X6_label 70 = .ok (.istore 6, 2) := by decide +kernel
theorem d_X6_label_72 : decode b_X6_label 72 = .ok (.iload 6, 2) := by decide +kernel
theorem d_X6_label_74 : decode b_X6_label 74 = .ok (.bipush 32, 2) := by decide +kernel
theorem d_X6_label_76 : decode b_X6_label 76 = .ok (.if_icmp .ge 25, 3) := by decide +kernel
theorem d_X6_label_79 : decode b_X6_label 79 = .ok (.iload 4, 2) := by decide +kernel
theorem d_X6_label_81 : decode b_X6_label 81 = .ok (.ifCond .eq 20, 3) := by decide +kernel
theorem d_X6_label_84 : decode b_X6_label 84 = .ok (.aload_n 0, 1) := by decide +kernel
theorem d_X6_label_85 : decode b_X6_label 85 = .ok (.aload_n 0, 1) := by decide +kernel
theorem d_X6_label_86 : decode b_X6_label 86 = .ok (.getfield 105, 3) := by decide +kernel
theorem d_X6_label_89 : decode b_X6_label 89 = .ok (.iload 6, 2) := by decide +kernel
theorem d_X6_label_91 : decode b_X6_label 91 = .ok (.iaload, 1) := by decide +kernel
theorem d_X6_label_92 : decode b_X6_label 92 = .ok (.invokevirtual 143, 3) := by decide +kernel
theorem d_X6_label_95 : decode b_X6_label 95 = .ok (.iinc 6 1, 3) := by decide +kernel
theorem d_X6_label_98 : decode b_X6_label 98 = .ok (.goto (-26), 3) := by decide +kernel
theorem d_X6_label_101 : decode b_X6_label 101 = .ok (.aload_n 0, 1) := by decide +kernel
theorem d_X6_label_102 : decode b_X6_label 102 = .ok (.iconst 1, 1) := by decide +kernel
theorem d_X6_label_103 : decode b_X6_label 103 = .ok (.invokevirtual 143, 3) := by decide +kernel
theorem d_X6_label_106 : decode b_X6_label 106 = .ok (.aload_n 0, 1) := by decide +kernel
theorem d_X6_label_107 : decode b_X6_label 107 = .ok (.aload_n 1, 1) := by decide +kernel
theorem d_X6_label_108 : decode b_X6_label 108 = .ok (.iload_n 2, 1) := by decide +kernel
theorem d_X6_label_109 : decode b_X6_label 109 = .ok (.bipush 32, 2) := by decide +kernel
theorem d_X6_label_111 : decode b_X6_label 111 = .ok (.aload 5, 2) := by decide +kernel
theorem d_X6_label_113 : decode b_X6_label 113 = .ok (.invokevirtual 164, 3) := by decide +kernel
theorem d_X6_label_116 : decode b_X6_label 116 = .ok (.return_, 1) := by decide +kernel
theorem d_X6_keepSecret_0 : decode b_X6_keepSecret 0 = .ok (.iconst 0, 1) := by decide +kernel
theorem d_X6_keepSecret_1 : decode b_X6_keepSecret 1 = .ok (.istore 5, 2) := by decide +kernel
theorem d_X6_keepSecret_3 : decode b_X6_keepSecret 3 = .ok (.iload 5, 2) := by decide +kernel
theorem d_X6_keepSecret_5 : decode b_X6_keepSecret 5 = .ok (.bipush 32, 2) := by decide +kernel
theorem d_X6_keepSecret_7 : decode b_X6_keepSecret 7 = .ok (.if_icmp .ge 35, 3) := by decide +kernel
theorem d_X6_keepSecret_10 : decode b_X6_keepSecret 10 = .ok (.aload_n 0, 1) := by decide +kernel
theorem d_X6_keepSecret_11 : decode b_X6_keepSecret 11 = .ok (.getfield 77, 3) := by decide +kernel
theorem d_X6_keepSecret_14 : decode b_X6_keepSecret 14 = .ok (.bipush 32, 2) := by decide +kernel
theorem d_X6_keepSecret_16 : decode b_X6_keepSecret 16 = .ok (.bipush 6, 2) := by decide +kernel
theorem d_X6_keepSecret_18 : decode b_X6_keepSecret 18 = .ok (.iload_n 1, 1) := by decide +kernel
theorem d_X6_keepSecret_19 : decode b_X6_keepSecret 19 = .ok (.imul, 1) := by decide +kernel
theorem d_X6_keepSecret_20 : decode b_X6_keepSecret 20 = .ok (.iconst 2, 1) := by decide +kernel
theorem d_X6_keepSecret_21 : decode b_X6_keepSecret 21 = .ok (.iload_n 2, 1) := by decide +kernel
theorem d_X6_keepSecret_22 : decode b_X6_keepSecret 22 = .ok (.imul, 1) := by decide +kernel
theorem d_X6_keepSecret_23 : decode b_X6_keepSecret 23 = .ok (.iadd, 1) := by decide +kernel
theorem d_X6_keepSecret_24 : decode b_X6_keepSecret 24 = .ok (.iload_n 3, 1) := by decide +kernel
theorem d_X6_keepSecret_25 : decode b_X6_keepSecret 25 = .ok (.iadd, 1) := by decide +kernel
theorem d_X6_keepSecret_26 : decode b_X6_keepSecret 26 = .ok (.imul, 1) := by decide +kernel
theorem d_X6_keepSecret_27 : decode b_X6_keepSecret 27 = .ok (.iload 5, 2) := by decide +kernel
theorem d_X6_keepSecret_29 : decode b_X6_keepSecret 29 = .ok (.iadd, 1) := by decide +kernel
theorem d_X6_keepSecret_30 : decode b_X6_keepSecret 30 = .ok (.aload 4, 2) := by decide +kernel
theorem d_X6_keepSecret_32 : decode b_X6_keepSecret 32 = .ok (.iload 5, 2) := by decide +kernel
theorem d_X6_keepSecret_34 : decode b_X6_keepSecret 34 = .ok (.iaload, 1) := by decide +kernel
theorem d_X6_keepSecret_35 : decode b_X6_keepSecret 35 = .ok (.iastore, 1) := by decide +kernel
theorem d_X6_keepSecret_36 : decode b_X6_keepSecret 36 = .ok (.iinc 5 1, 3) := by decide +kernel
theorem d_X6_keepSecret_39 : decode b_X6_keepSecret 39 = .ok (.goto (-36), 3) := by decide +kernel
theorem d_X6_keepSecret_42 : decode b_X6_keepSecret 42 = .ok (.return_, 1) := by decide +kernel
theorem d_X6_digestTalk_0 : decode b_X6_digestTalk 0 = .ok (.aload_n 0, 1) := by decide +kernel
theorem d_X6_digestTalk_1 : decode b_X6_digestTalk 1 = .ok (.iconst 0, 1) := by decide +kernel
theorem d_X6_digestTalk_2 : decode b_X6_digestTalk 2 = .ok (.putfield 135, 3) := by decide +kernel
theorem d_X6_digestTalk_5 : decode b_X6_digestTalk 5 = .ok (.iconst 0, 1) := by decide +kernel
theorem d_X6_digestTalk_6 : decode b_X6_digestTalk 6 = .ok (.istore_n 3, 1) := by decide +kernel
theorem d_X6_digestTalk_7 : decode b_X6_digestTalk 7 = .ok (.iload_n 3, 1) := by decide +kernel
theorem d_X6_digestTalk_8 : decode b_X6_digestTalk 8 = .ok (.iload_n 2, 1) := by decide +kernel
theorem d_X6_digestTalk_9 : decode b_X6_digestTalk 9 = .ok (.if_icmp .ge 25, 3) := by decide +kernel
theorem d_X6_digestTalk_12 : decode b_X6_digestTalk 12 = .ok (.aload_n 0, 1) := by decide +kernel
theorem d_X6_digestTalk_13 : decode b_X6_digestTalk 13 = .ok (.aload_n 0, 1) := by decide +kernel
theorem d_X6_digestTalk_14 : decode b_X6_digestTalk 14 = .ok (.getfield 71, 3) := by decide +kernel
theorem d_X6_digestTalk_17 : decode b_X6_digestTalk 17 = .ok (.sipush 2048, 3) := by decide +kernel
theorem d_X6_digestTalk_20 : decode b_X6_digestTalk 20 = .ok (.iload_n 1, 1) := by decide +kernel
theorem d_X6_digestTalk_21 : decode b_X6_digestTalk 21 = .ok (.imul, 1) := by decide +kernel
theorem d_X6_digestTalk_22 : decode b_X6_digestTalk 22 = .ok (.iload_n 3, 1) := by decide +kernel
theorem d_X6_digestTalk_23 : decode b_X6_digestTalk 23 = .ok (.iadd, 1) := by decide +kernel
theorem d_X6_digestTalk_24 : decode b_X6_digestTalk 24 = .ok (.iaload, 1) := by decide +kernel
theorem d_X6_digestTalk_25 : decode b_X6_digestTalk 25 = .ok (.invokevirtual 143, 3) := by decide +kernel
theorem d_X6_digestTalk_28 : decode b_X6_digestTalk 28 = .ok (.iinc 3 1, 3) := by decide +kernel
theorem d_X6_digestTalk_31 : decode b_X6_digestTalk 31 = .ok (.goto (-24), 3) := by decide +kernel
theorem d_X6_digestTalk_34 : decode b_X6_digestTalk 34 = .ok (.aload_n 0, 1) := by decide +kernel
theorem d_X6_digestTalk_35 : decode b_X6_digestTalk 35 = .ok (.aload_n 0, 1) := by decide +kernel
theorem d_X6_digestTalk_36 : decode b_X6_digestTalk 36 = .ok (.getfield 105, 3) := by decide +kernel
theorem d_X6_digestTalk_39 : decode b_X6_digestTalk 39 = .ok (.invokevirtual 150, 3) := by decide +kernel
theorem d_X6_digestTalk_42 : decode b_X6_digestTalk 42 = .ok (.return_, 1) := by decide +kernel
theorem d_X6_first_0 : decode b_X6_first 0 = .ok (.iconst 0, 1) := by decide +kernel
theorem d_X6_first_1 : decode b_X6_first 1 = .ok (.istore_n 2, 1) := by decide +kernel
theorem d_X6_first_2 : decode b_X6_first 2 = .ok (.iload_n 2, 1) := by decide +kernel
theorem d_X6_first_3 : decode b_X6_first 3 = .ok (.bipush 20, 2) := by decide +kernel
theorem d_X6_first_5 : decode b_X6_first 5 = .ok (.if_icmp .ge 18, 3) := by decide +kernel
theorem d_X6_first_8 : decode b_X6_first 8 = .ok (.aload_n 0, 1) := by decide +kernel
theorem d_X6_first_9 : decode b_X6_first 9 = .ok (.getfield 111, 3) := by decide +kernel
theorem d_X6_first_12 : decode b_X6_first 12 = .ok (.iload_n 2, 1) := by decide +kernel
theorem d_X6_first_13 : decode b_X6_first 13 = .ok (.iload_n 2, 1) := by decide +kernel
theorem d_X6_first_14 : decode b_X6_first 14 = .ok (.iconst 1, 1) := by decide +kernel
theorem d_X6_first_15 : decode b_X6_first 15 = .ok (.iadd, 1) := by decide +kernel
theorem d_X6_first_16 : decode b_X6_first 16 = .ok (.iastore, 1) := by decide +kernel
theorem d_X6_first_17 : decode b_X6_first 17 = .ok (.iinc 2 1, 3) := by decide +kernel
theorem d_X6_first_20 : decode b_X6_first 20 = .ok (.goto (-18), 3) := by decide +kernel
theorem d_X6_first_23 : decode b_X6_first 23 = .ok (.aload_n 0, 1) := by decide +kernel
theorem d_X6_first_24 : decode b_X6_first 24 = .ok (.aload_n 0, 1) := by decide +kernel
theorem d_X6_first_25 : decode b_X6_first 25 = .ok (.getfield 111, 3) := by decide +kernel
theorem d_X6_first_28 : decode b_X6_first 28 = .ok (.iconst 0, 1) := by decide +kernel
theorem d_X6_first_29 : decode b_X6_first 29 = .ok (.bipush 20, 2) := by decide +kernel
theorem d_X6_first_31 : decode b_X6_first 31 = .ok (.bipush 54, 2) := by decide +kernel
theorem d_X6_first_33 : decode b_X6_first 33 = .ok (.invokevirtual 153, 3) := by decide +kernel
theorem d_X6_first_36 : decode b_X6_first 36 = .ok (.iconst 0, 1) := by decide +kernel
theorem d_X6_first_37 : decode b_X6_first 37 = .ok (.istore_n 2, 1) := by decide +kernel
theorem d_X6_first_38 : decode b_X6_first 38 = .ok (.iload_n 2, 1) := by decide +kernel
theorem d_X6_first_39 : decode b_X6_first 39 = .ok (.aload_n 0, 1) := by decide +kernel
theorem d_X6_first_40 : decode b_X6_first 40 = .ok (.getfield 35, 3) := by decide +kernel
theorem d_X6_first_43 : decode b_X6_first 43 = .ok (.iload_n 1, 1) := by decide +kernel
theorem d_X6_first_44 : decode b_X6_first 44 = .ok (.iaload, 1) := by decide +kernel
theorem d_X6_first_45 : decode b_X6_first 45 = .ok (.if_icmp .ge 24, 3) := by decide +kernel
theorem d_X6_first_48 : decode b_X6_first 48 = .ok (.aload_n 0, 1) := by decide +kernel
theorem d_X6_first_49 : decode b_X6_first 49 = .ok (.aload_n 0, 1) := by decide +kernel
theorem d_X6_first_50 : decode b_X6_first 50 = .ok (.getfield 32, 3) := by decide +kernel
theorem d_X6_first_53 : decode b_X6_first 53 = .ok (.bipush 20, 2) := by decide +kernel
theorem d_X6_first_55 : decode b_X6_first 55 = .ok (.iload_n 1, 1) := by decide +kernel
theorem d_X6_first_56 : decode b_X6_first 56 = .ok (.imul, 1) := by decide +kernel
theorem d_X6_first_57 : decode b_X6_first 57 = .ok (.iload_n 2, 1) := by decide +kernel
theorem d_X6_first_58 : decode b_X6_first 58 = .ok (.iadd, 1) := by decide +kernel
theorem d_X6_first_59 : decode b_X6_first 59 = .ok (.iaload, 1) := by decide +kernel
theorem d_X6_first_60 : decode b_X6_first 60 = .ok (.invokevirtual 143, 3) := by decide +kernel
theorem d_X6_first_63 : decode b_X6_first 63 = .ok (.iinc 2 1, 3) := by decide +kernel
theorem d_X6_first_66 : decode b_X6_first 66 = .ok (.goto (-28), 3) := by decide +kernel
theorem d_X6_first_69 : decode b_X6_first 69 = .ok (.aload_n 0, 1) := by decide +kernel
theorem d_X6_first_70 : decode b_X6_first 70 = .ok (.aload_n 0, 1) := by decide +kernel
theorem d_X6_first_71 : decode b_X6_first 71 = .ok (.getfield 111, 3) := by decide +kernel
theorem d_X6_first_74 : decode b_X6_first 74 = .ok (.iconst 0, 1) := by decide +kernel
theorem d_X6_first_75 : decode b_X6_first 75 = .ok (.bipush 20, 2) := by decide +kernel
theorem d_X6_first_77 : decode b_X6_first 77 = .ok (.aload_n 0, 1) := by decide +kernel
theorem d_X6_first_78 : decode b_X6_first 78 = .ok (.getfield 114, 3) := by decide +kernel
theorem d_X6_first_81 : decode b_X6_first 81 = .ok (.invokevirtual 164, 3) := by decide +kernel
theorem d_X6_first_84 : decode b_X6_first 84 = .ok (.iconst 0, 1) := by decide +kernel
theorem d_X6_first_85 : decode b_X6_first 85 = .ok (.istore_n 2, 1) := by decide +kernel
theorem d_X6_first_86 : decode b_X6_first 86 = .ok (.iload_n 2, 1) := by decide +kernel
theorem d_X6_first_87 : decode b_X6_first 87 = .ok (.iconst 2, 1) := by decide +kernel
theorem d_X6_first_88 : decode b_X6_first 88 = .ok (.if_icmp .ge 37, 3) := by decide +kernel
theorem d_X6_first_91 : decode b_X6_first 91 = .ok (.aload_n 0, 1) := by decide +kernel
theorem d_X6_first_92 : decode b_X6_first 92 = .ok (.aload_n 0, 1) := by decide +kernel
theorem d_X6_first_93 : decode b_X6_first 93 = .ok (.getfield 114, 3) := by decide +kernel
theorem d_X6_first_96 : decode b_X6_first 96 = .ok (.iconst 0, 1) := by decide +kernel
theorem d_X6_first_97 : decode b_X6_first 97 = .ok (.iconst 4, 1) := by decide +kernel
theorem d_X6_first_98 : decode b_X6_first 98 = .ok (.iload_n 2, 1) := by decide +kernel
theorem d_X6_first_99 : decode b_X6_first 99 = .ok (.iadd, 1) := by decide +kernel
theorem d_X6_first_100 : decode b_X6_first 100 = .ok (.iconst 0, 1) := by decide +kernel
theorem d_X6_first_101 : decode b_X6_first 101 = .ok (.aload_n 0, 1) := by decide +kernel
theorem d_X6_first_102 : decode b_X6_first 102 = .ok (.getfield 111, 3) := by decide +kernel
theorem d_X6_first_105 : decode b_X6_first 105 = .ok (.invokevirtual 168, 3) := by decide +kernel
theorem d_X6_first_108 : decode b_X6_first 108 = .ok (.aload_n 0, 1) := by decide +kernel
theorem d_X6_first_109 : decode b_X6_first 109 = .ok (.iload_n 1, 1) := by decide +kernel
theorem d_X6_first_110 : decode b_X6_first 110 = .ok (.iconst 0, 1) := by decide +kernel
theorem d_X6_first_111 : decode b_X6_first 111 = .ok (.iload_n 2, 1) := by decide +kernel
theorem d_X6_first_112 : decode b_X6_first 112 = .ok (.aload_n 0, 1) := by decide +kernel
theorem d_X6_first_113 : decode b_X6_first 113 = .ok (.getfield 111, 3) := by decide +kernel
theorem d_X6_first_116 : decode b_X6_first 116 = .ok (.invokevirtual 172, 3) := by decide +kernel
theorem d_X6_first_119 : decode b_X6_first 119 = .ok (.iinc 2 1, 3) := by decide +kernel
theorem d_X6_first_122 : decode b_X6_first 122 = .ok (.goto (-36), 3) := by decide +kernel
theorem d_X6_first_125 : decode b_X6_first 125 = .ok (.return_, 1) := by decide +kernel
theorem d_X6_greets_0 : decode b_X6_greets 0 = .ok (.aload_n 0, 1) := by decide +kernel
theorem d_X6_greets_1 : decode b_X6_greets 1 = .ok (.iload_n 1, 1) := by decide +kernel
theorem d_X6_greets_2 : decode b_X6_greets 2 = .ok (.aload_n 0, 1) := by decide +kernel
theorem d_X6_greets_3 : decode b_X6_greets 3 = .ok (.getfield 74, 3) := by decide +kernel
theorem d_X6_greets_6 : decode b_X6_greets 6 = .ok (.iload_n 1, 1) := by decide +kernel
theorem d_X6_greets_7 : decode b_X6_greets 7 = .ok (.iaload, 1) := by decide +kernel
theorem d_X6_greets_8 : decode b_X6_greets 8 = .ok (.invokevirtual 176, 3) := by decide +kernel
theorem d_X6_greets_11 : decode b_X6_greets 11 = .ok (.aload_n 0, 1) := by decide +kernel
theorem d_X6_greets_12 : decode b_X6_greets 12 = .ok (.aload_n 0, 1) := by decide +kernel
theorem d_X6_greets_13 : decode b_X6_greets 13 = .ok (.getfield 20, 3) := by decide +kernel
theorem d_X6_greets_16 : decode b_X6_greets 16 = .ok (.bipush 32, 2) := by decide +kernel
theorem d_X6_greets_18 : decode b_X6_greets 18 = .ok (.iload_n 1, 1) := by decide +kernel
theorem d_X6_greets_19 : decode b_X6_greets 19 = .ok (.imul, 1) := by decide +kernel
theorem d_X6_greets_20 : decode b_X6_greets 20 = .ok (.bipush 32, 2) := by decide +kernel
theorem d_X6_greets_22 : decode b_X6_greets 22 = .ok (.bipush 54, 2) := by decide +kernel
theorem d_X6_greets_24 : decode b_X6_greets 24 = .ok (.invokevirtual 153, 3) := by decide +kernel
theorem d_X6_greets_27 : decode b_X6_greets 27 = .ok (.iconst 0, 1) := by decide +kernel
theorem d_X6_greets_28 : decode b_X6_greets 28 = .ok (.istore_n 2, 1) := by decide +kernel
theorem d_X6_greets_29 : decode b_X6_greets 29 = .ok (.iload_n 2, 1) := by decide +kernel
theorem d_X6_greets_30 : decode b_X6_greets 30 = .ok (.bipush 32, 2) := by decide +kernel
theorem d_X6_greets_32 : decode b_X6_greets 32 = .ok (.if_icmp .ge 19, 3) := by decide +kernel
theorem d_X6_greets_35 : decode b_X6_greets 35 = .ok (.aload_n 0, 1) := by decide +kernel
theorem d_X6_greets_36 : decode b_X6_greets 36 = .ok (.aload_n 0, 1) := by decide +kernel
theorem d_X6_greets_37 : decode b_X6_greets 37 = .ok (.getfield 105, 3) := by decide +kernel
theorem d_X6_greets_40 : decode b_X6_greets 40 = .ok (.iload_n 2, 1) := by decide +kernel
theorem d_X6_greets_41 : decode b_X6_greets 41 = .ok (.iaload, 1) := by decide +kernel
theorem d_X6_greets_42 : decode b_X6_greets 42 = .ok (.invokevirtual 143, 3) := by decide +kernel
theorem d_X6_greets_45 : decode b_X6_greets 45 = .ok (.iinc 2 1, 3) := by decide +kernel
theorem d_X6_greets_48 : decode b_X6_greets 48 = .ok (.goto (-19), 3) := by decide +kernel
theorem d_X6_greets_51 : decode b_X6_greets 51 = .ok (.aload_n 0, 1) := by decide +kernel
theorem d_X6_greets_52 : decode b_X6_greets 52 = .ok (.aload_n 0, 1) := by decide +kernel
theorem d_X6_greets_53 : decode b_X6_greets 53 = .ok (.getfield 20, 3) := by decide +kernel
theorem d_X6_greets_56 : decode b_X6_greets 56 = .ok (.bipush 32, 2) := by decide +kernel
theorem d_X6_greets_58 : decode b_X6_greets 58 = .ok (.iload_n 1, 1) := by decide +kernel
theorem d_X6_greets_59 : decode b_X6_greets 59 = .ok (.imul, 1) := by decide +kernel
theorem d_X6_greets_60 : decode b_X6_greets 60 = .ok (.bipush 32, 2) := by decide +kernel
theorem d_X6_greets_62 : decode b_X6_greets 62 = .ok (.aload_n 0, 1) := by decide +kernel
theorem d_X6_greets_63 : decode b_X6_greets 63 = .ok (.getfield 114, 3) := by decide +kernel
theorem d_X6_greets_66 : decode b_X6_greets 66 = .ok (.invokevirtual 164, 3) := by decide +kernel
theorem d_X6_greets_69 : decode b_X6_greets 69 = .ok (.iconst 0, 1) := by decide +kernel
theorem d_X6_greets_70 : decode b_X6_greets 70 = .ok (.istore_n 2, 1) := by decide +kernel
theorem d_X6_greets_71 : decode b_X6_greets 71 = .ok (.iload_n 2, 1) := by decide +kernel
theorem d_X6_greets_72 : decode b_X6_greets 72 = .ok (.bipush 32, 2) := by decide +kernel
theorem d_X6_greets_74 : decode b_X6_greets 74 = .ok (.if_icmp .ge 26, 3) := by decide +kernel
theorem d_X6_greets_77 : decode b_X6_greets 77 = .ok (.aload_n 0, 1) := by decide +kernel
theorem d_X6_greets_78 : decode b_X6_greets 78 = .ok (.getfield 83, 3) := by decide +kernel
theorem d_X6_greets_81 : decode b_X6_greets 81 = .ok (.bipush 32, 2) := by decide +kernel
theorem d_X6_greets_83 : decode b_X6_greets 83 = .ok (.iload_n 1, 1) := by decide +kernel
theorem d_X6_greets_84 : decode b_X6_greets 84 = .ok (.imul, 1) := by decide +kernel
theorem d_X6_greets_85 : decode b_X6_greets 85 = .ok (.iload_n 2, 1) := by decide +kernel
theorem d_X6_greets_86 : decode b_X6_greets 86 = .ok (.iadd, 1) := by decide +kernel
theorem d_X6_greets_87 : decode b_X6_greets 87 = .ok (.aload_n 0, 1) := by decide +kernel
theorem d_X6_greets_88 : decode b_X6_greets 88 = .ok (.getfield 114, 3) := by decide +kernel
theorem d_X6_greets_91 : decode b_X6_greets 91 = .ok (.iload_n 2, 1) := by decide +kernel
theorem d_X6_greets_92 : decode b_X6_greets 92 = .ok (.iaload, 1) := by decide +kernel
theorem d_X6_greets_93 : decode b_X6_greets 93 = .ok (.iastore, 1) := by decide +kernel
theorem d_X6_greets_94 : decode b_X6_greets 94 = .ok (.iinc 2 1, 3) := by decide +kernel
theorem d_X6_greets_97 : decode b_X6_greets 97 = .ok (.goto (-26), 3) := by decide +kernel
theorem d_X6_greets_100 : decode b_X6_greets 100 = .ok (.iconst 0, 1) := by decide +kernel
theorem d_X6_greets_101 : decode b_X6_greets 101 = .ok (.istore_n 2, 1) := by decide +kernel
theorem d_X6_greets_102 : decode b_X6_greets 102 = .ok (.iload_n 2, 1) := by decide +kernel
theorem d_X6_greets_103 : decode b_X6_greets 103 = .ok (.iconst 2, 1) := by decide +kernel
theorem d_X6_greets_104 : decode b_X6_greets 104 = .ok (.if_icmp .ge 38, 3) := by decide +kernel
theorem d_X6_greets_107 : decode b_X6_greets 107 = .ok (.aload_n 0, 1) := by decide +kernel
theorem d_X6_greets_108 : decode b_X6_greets 108 = .ok (.aload_n 0, 1) := by decide +kernel
theorem d_X6_greets_109 : decode b_X6_greets 109 = .ok (.getfield 114, 3) := by decide +kernel
theorem d_X6_greets_112 : decode b_X6_greets 112 = .ok (.iconst 0, 1) := by decide +kernel
theorem d_X6_greets_113 : decode b_X6_greets 113 = .ok (.bipush 6, 2) := by decide +kernel
theorem d_X6_greets_115 : decode b_X6_greets 115 = .ok (.iload_n 2, 1) := by decide +kernel
theorem d_X6_greets_116 : decode b_X6_greets 116 = .ok (.iadd, 1) := by decide +kernel
theorem d_X6_greets_117 : decode b_X6_greets 117 = .ok (.iconst 1, 1) := by decide +kernel
theorem d_X6_greets_118 : decode b_X6_greets 118 = .ok (.aload_n 0, 1) := by decide +kernel
theorem d_X6_greets_119 : decode b_X6_greets 119 = .ok (.getfield 111, 3) := by decide +kernel
theorem d_X6_greets_122 : decode b_X6_greets 122 = .ok (.invokevirtual 168, 3) := by decide +kernel
theorem d_X6_greets_125 : decode b_X6_greets 125 = .ok (.aload_n 0, 1) := by decide +kernel
theorem d_X6_greets_126 : decode b_X6_greets 126 = .ok (.iload_n 1, 1) := by decide +kernel
theorem d_X6_greets_127 : decode b_X6_greets 127 = .ok (.iconst 1, 1) := by decide +kernel
theorem d_X6_greets_128 : decode b_X6_greets 128 = .ok (.iload_n 2, 1) := by decide +kernel
theorem d_X6_greets_129 : decode b_X6_greets 129 = .ok (.aload_n 0, 1) := by decide +kernel
theorem d_X6_greets_130 : decode b_X6_greets 130 = .ok (.getfield 111, 3) := by decide +kernel
theorem d_X6_greets_133 : decode b_X6_greets 133 = .ok (.invokevirtual 172, 3) := by decide +kernel
theorem d_X6_greets_136 : decode b_X6_greets 136 = .ok (.iinc 2 1, 3) := by decide +kernel
theorem d_X6_greets_139 : decode b_X6_greets 139 = .ok (.goto (-37), 3) := by decide +kernel
theorem d_X6_greets_142 : decode b_X6_greets 142 = .ok (.aload_n 0, 1) := by decide +kernel
theorem d_X6_greets_143 : decode b_X6_greets 143 = .ok (.getfield 80, 3) := by decide +kernel
theorem d_X6_greets_146 : decode b_X6_greets 146 = .ok (.iload_n 1, 1) := by decide +kernel
theorem d_X6_greets_147 : decode b_X6_greets 147 = .ok (.iconst 1, 1) := by decide +kernel
theorem d_X6_greets_148 : decode b_X6_greets 148 = .ok (.iastore, 1) := by decide +kernel
theorem d_X6_greets_149 : decode b_X6_greets 149 = .ok (.return_, 1) := by decide +kernel
theorem d_X6_talks_0 : decode b_X6_talks 0 = .ok (.aload_n 0, 1) := by decide +kernel
theorem d_X6_talks_1 : decode b_X6_talks 1 = .ok (.iload_n 1, 1) := by decide +kernel
theorem d_X6_talks_2 : decode b_X6_talks 2 = .ok (.aload_n 0, 1) := by decide +kernel
theorem d_X6_talks_3 : decode b_X6_talks 3 = .ok (.getfield 74, 3) := by decide +kernel
theorem d_X6_talks_6 : decode b_X6_talks 6 = .ok (.iload_n 1, 1) := by decide +kernel
theorem d_X6_talks_7 : decode b_X6_talks 7 = .ok (.iaload, 1) := by decide +kernel
theorem d_X6_talks_8 : decode b_X6_talks 8 = .ok (.invokevirtual 176, 3) := by decide +kernel
theorem d_X6_talks_11 : decode b_X6_talks 11 = .ok (.aload_n 0, 1) := by decide +kernel
theorem d_X6_talks_12 : decode b_X6_talks 12 = .ok (.aload_n 0, 1) := by decide +kernel
theorem d_X6_talks_13 : decode b_X6_talks 13 = .ok (.getfield 83, 3) := by decide +kernel
theorem d_X6_talks_16 : decode b_X6_talks 16 = .ok (.bipush 32, 2) := by decide +kernel
theorem d_X6_talks_18 : decode b_X6_talks 18 = .ok (.iload_n 1, 1) := by decide +kernel
theorem d_X6_talks_19 : decode b_X6_talks 19 = .ok (.imul, 1) := by decide +kernel
theorem d_X6_talks_20 : decode b_X6_talks 20 = .ok (.bipush 32, 2) := by decide +kernel
theorem d_X6_talks_22 : decode b_X6_talks 22 = .ok (.bipush 54, 2) := by decide +kernel
theorem d_X6_talks_24 : decode b_X6_talks 24 = .ok (.invokevirtual 153, 3) := by decide +kernel
theorem d_X6_talks_27 : decode b_X6_talks 27 = .ok (.iconst 0, 1) := by decide +kernel
theorem d_X6_talks_28 : decode b_X6_talks 28 = .ok (.istore_n 2, 1) := by decide +kernel
theorem d_X6_talks_29 : decode b_X6_talks 29 = .ok (.iload_n 2, 1) := by decide +kernel
theorem d_X6_talks_30 : decode b_X6_talks 30 = .ok (.bipush 32, 2) := by decide +kernel
theorem d_X6_talks_32 : decode b_X6_talks 32 = .ok (.if_icmp .ge 19, 3) := by decide +kernel
theorem d_X6_talks_35 : decode b_X6_talks 35 = .ok (.aload_n 0, 1) := by decide +kernel
theorem d_X6_talks_36 : decode b_X6_talks 36 = .ok (.aload_n 0, 1) := by decide +kernel
theorem d_X6_talks_37 : decode b_X6_talks 37 = .ok (.getfield 105, 3) := by decide +kernel
theorem d_X6_talks_40 : decode b_X6_talks 40 = .ok (.iload_n 2, 1) := by decide +kernel
theorem d_X6_talks_41 : decode b_X6_talks 41 = .ok (.iaload, 1) := by decide +kernel
theorem d_X6_talks_42 : decode b_X6_talks 42 = .ok (.invokevirtual 143, 3) := by decide +kernel
theorem d_X6_talks_45 : decode b_X6_talks 45 = .ok (.iinc 2 1, 3) := by decide +kernel
theorem d_X6_talks_48 : decode b_X6_talks 48 = .ok (.goto (-19), 3) := by decide +kernel
theorem d_X6_talks_51 : decode b_X6_talks 51 = .ok (.aload_n 0, 1) := by decide +kernel
theorem d_X6_talks_52 : decode b_X6_talks 52 = .ok (.aload_n 0, 1) := by decide +kernel
theorem d_X6_talks_53 : decode b_X6_talks 53 = .ok (.getfield 83, 3) := by decide +kernel
theorem d_X6_talks_56 : decode b_X6_talks 56 = .ok (.bipush 32, 2) := by decide +kernel
theorem d_X6_talks_58 : decode b_X6_talks 58 = .ok (.iload_n 1, 1) := by decide +kernel
theorem d_X6_talks_59 : decode b_X6_talks 59 = .ok (.imul, 1) := by decide +kernel
theorem d_X6_talks_60 : decode b_X6_talks 60 = .ok (.bipush 32, 2) := by decide +kernel
theorem d_X6_talks_62 : decode b_X6_talks 62 = .ok (.aload_n 0, 1) := by decide +kernel
theorem d_X6_talks_63 : decode b_X6_talks 63 = .ok (.getfield 114, 3) := by decide +kernel
theorem d_X6_talks_66 : decode b_X6_talks 66 = .ok (.invokevirtual 164, 3) := by decide +kernel
theorem d_X6_talks_69 : decode b_X6_talks 69 = .ok (.iconst 0, 1) := by decide +kernel
theorem d_X6_talks_70 : decode b_X6_talks 70 = .ok (.istore_n 2, 1) := by decide +kernel
theorem d_X6_talks_71 : decode b_X6_talks 71 = .ok (.iload_n 2, 1) := by decide +kernel
theorem d_X6_talks_72 : decode b_X6_talks 72 = .ok (.iconst 2, 1) := by decide +kernel
theorem d_X6_talks_73 : decode b_X6_talks 73 = .ok (.if_icmp .ge 38, 3) := by decide +kernel
theorem d_X6_talks_76 : decode b_X6_talks 76 = .ok (.aload_n 0, 1) := by decide +kernel
theorem d_X6_talks_77 : decode b_X6_talks 77 = .ok (.aload_n 0, 1) := by decide +kernel
theorem d_X6_talks_78 : decode b_X6_talks 78 = .ok (.getfield 114, 3) := by decide +kernel
theorem d_X6_talks_81 : decode b_X6_talks 81 = .ok (.iconst 0, 1) := by decide +kernel
theorem d_X6_talks_82 : decode b_X6_talks 82 = .ok (.bipush 8, 2) := by decide +kernel
theorem d_X6_talks_84 : decode b_X6_talks 84 = .ok (.iload_n 2, 1) := by decide +kernel
theorem d_X6_talks_85 : decode b_X6_talks 85 = .ok (.iadd, 1) := by decide +kernel
theorem d_X6_talks_86 : decode b_X6_talks 86 = .ok (.iconst 1, 1) := by decide +kernel
theorem d_X6_talks_87 : decode b_X6_talks 87 = .ok (.aload_n 0, 1) := by decide +kernel
theorem d_X6_talks_88 : decode b_X6_talks 88 = .ok (.getfield 111, 3) := by decide +kernel
theorem d_X6_talks_91 : decode b_X6_talks 91 = .ok (.invokevirtual 168, 3) := by decide +kernel
theorem d_X6_talks_94 : decode b_X6_talks 94 = .ok (.aload_n 0, 1) := by decide +kernel
theorem d_X6_talks_95 : decode b_X6_talks 95 = .ok (.iload_n 1, 1) := by decide +kernel
theorem d_X6_talks_96 : decode b_X6_talks 96 = .ok (.iconst 2, 1) := by decide +kernel
theorem d_X6_talks_97 : decode b_X6_talks 97 = .ok (.iload_n 2, 1) := by decide +kernel
theorem d_X6_talks_98 : decode b_X6_talks 98 = .ok (.aload_n 0, 1) := by decide +kernel
theorem d_X6_talks_99 : decode b_X6_talks 99 = .ok (.getfield 111, 3) := by decide +kernel
theorem d_X6_talks_102 : decode b_X6_talks 102 = .ok (.invokevirtual 172, 3) := by decide +kernel
theorem d_X6_talks_105 : decode b_X6_talks 105 = .ok (.iinc 2 1, 3) := by decide +kernel
theorem d_X6_talks_108 : decode b_X6_talks 108 = .ok (.goto (-37), 3) := by decide +kernel
theorem d_X6_talks_111 : decode b_X6_talks 111 = .ok (.aload_n 0, 1) := by decide +kernel
theorem d_X6_talks_112 : decode b_X6_talks 112 = .ok (.getfield 80, 3) := by decide +kernel
theorem d_X6_talks_115 : decode b_X6_talks 115 = .ok (.iload_n 1, 1) := by decide +kernel
theorem d_X6_talks_116 : decode b_X6_talks 116 = .ok (.iconst 2, 1) := by decide +kernel
theorem d_X6_talks_117 : decode b_X6_talks 117 = .ok (.iastore, 1) := by decide +kernel
theorem d_X6_talks_118 : decode b_X6_talks 118 = .ok (.return_, 1) := by decide +kernel
theorem d_X6_prove_0 : decode b_X6_prove 0 = .ok (.aload_n 0, 1) := by decide +kernel
theorem d_X6_prove_1 : decode b_X6_prove 1 = .ok (.aload_n 0, 1) := by decide +kernel
theorem d_X6_prove_2 : decode b_X6_prove 2 = .ok (.getfield 77, 3) := by decide +kernel
theorem d_X6_prove_5 : decode b_X6_prove 5 = .ok (.bipush 32, 2) := by decide +kernel
theorem d_X6_prove_7 : decode b_X6_prove 7 = .ok (.bipush 6, 2) := by decide +kernel
theorem d_X6_prove_9 : decode b_X6_prove 9 = .ok (.iload_n 1, 1) := by decide +kernel
theorem d_X6_prove_10 : decode b_X6_prove 10 = .ok (.imul, 1) := by decide +kernel
theorem d_X6_prove_11 : decode b_X6_prove 11 = .ok (.iconst 2, 1) := by decide +kernel
theorem d_X6_prove_12 : decode b_X6_prove 12 = .ok (.iadd, 1) := by decide +kernel
theorem d_X6_prove_13 : decode b_X6_prove 13 = .ok (.iload_n 2, 1) := by decide +kernel
theorem d_X6_prove_14 : decode b_X6_prove 14 = .ok (.iadd, 1) := by decide +kernel
theorem d_X6_prove_15 : decode b_X6_prove 15 = .ok (.imul, 1) := by decide +kernel
theorem d_X6_prove_16 : decode b_X6_prove 16 = .ok (.bipush 10, 2) := by decide +kernel
theorem d_X6_prove_18 : decode b_X6_prove 18 = .ok (.iconst 0, 1) := by decide +kernel
theorem d_X6_prove_19 : decode b_X6_prove 19 = .ok (.aload_n 0, 1) := by decide +kernel
theorem d_X6_prove_20 : decode b_X6_prove 20 = .ok (.getfield 114, 3) := by decide +kernel
theorem d_X6_prove_23 : decode b_X6_prove 23 = .ok (.invokevirtual 168, 3) := by decide +kernel
theorem d_X6_prove_26 : decode b_X6_prove 26 = .ok (.aload_n 0, 1) := by decide +kernel
theorem d_X6_prove_27 : decode b_X6_prove 27 = .ok (.iload_n 1, 1) := by decide +kernel
theorem d_X6_prove_28 : decode b_X6_prove 28 = .ok (.aload_n 0, 1) := by decide +kernel
theorem d_X6_prove_29 : decode b_X6_prove 29 = .ok (.getfield 74, 3) := by decide +kernel
theorem d_X6_prove_32 : decode b_X6_prove 32 = .ok (.iload_n 1, 1) := by decide +kernel
theorem d_X6_prove_33 : decode b_X6_prove 33 = .ok (.iaload, 1) := by decide +kernel
theorem d_X6_prove_34 : decode b_X6_prove 34 = .ok (.invokevirtual 176, 3) := by decide +kernel
theorem d_X6_prove_37 : decode b_X6_prove 37 = .ok (.aload_n 0, 1) := by decide +kernel
theorem d_X6_prove_38 : decode b_X6_prove 38 = .ok (.aload_n 0, 1) := by decide +kernel
theorem d_X6_prove_39 : decode b_X6_prove 39 = .ok (.getfield 114, 3) := by decide +kernel
theorem d_X6_prove_42 : decode b_X6_prove 42 = .ok (.iconst 0, 1) := by decide +kernel
theorem d_X6_prove_43 : decode b_X6_prove 43 = .ok (.bipush 32, 2) := by decide +kernel
theorem d_X6_prove_45 : decode b_X6_prove 45 = .ok (.bipush 54, 2) := by decide +kernel
theorem d_X6_prove_47 : decode b_X6_prove 47 = .ok (.invokevirtual 153, 3) := by decide +kernel
theorem d_X6_prove_50 : decode b_X6_prove 50 = .ok (.iconst 0, 1) := by decide +kernel
theorem d_X6_prove_51 : decode b_X6_prove 51 = .ok (.istore_n 3, 1) := by decide +kernel
theorem d_X6_prove_52 : decode b_X6_prove 52 = .ok (.iload_n 3, 1) := by decide +kernel
theorem d_X6_prove_53 : decode b_X6_prove 53 = .ok (.bipush 32, 2) := by decide +kernel
theorem d_X6_prove_55 : decode b_X6_prove 55 = .ok (.if_icmp .ge 19, 3) := by decide +kernel
theorem d_X6_prove_58 : decode b_X6_prove 58 = .ok (.aload_n 0, 1) := by decide +kernel
theorem d_X6_prove_59 : decode b_X6_prove 59 = .ok (.aload_n 0, 1) := by decide +kernel
theorem d_X6_prove_60 : decode b_X6_prove 60 = .ok (.getfield 105, 3) := by decide +kernel
theorem d_X6_prove_63 : decode b_X6_prove 63 = .ok (.iload_n 3, 1) := by decide +kernel
theorem d_X6_prove_64 : decode b_X6_prove 64 = .ok (.iaload, 1) := by decide +kernel
theorem d_X6_prove_65 : decode b_X6_prove 65 = .ok (.invokevirtual 143, 3) := by decide +kernel
theorem d_X6_prove_68 : decode b_X6_prove 68 = .ok (.iinc 3 1, 3) := by decide +kernel
theorem d_X6_prove_71 : decode b_X6_prove 71 = .ok (.goto (-19), 3) := by decide +kernel
theorem d_X6_prove_74 : decode b_X6_prove 74 = .ok (.aload_n 0, 1) := by decide +kernel
theorem d_X6_prove_75 : decode b_X6_prove 75 = .ok (.aload_n 0, 1) := by decide +kernel
theorem d_X6_prove_76 : decode b_X6_prove 76 = .ok (.getfield 114, 3) := by decide +kernel
theorem d_X6_prove_79 : decode b_X6_prove 79 = .ok (.iconst 0, 1) := by decide +kernel
theorem d_X6_prove_80 : decode b_X6_prove 80 = .ok (.bipush 32, 2) := by decide +kernel
theorem d_X6_prove_82 : decode b_X6_prove 82 = .ok (.aload_n 0, 1) := by decide +kernel
theorem d_X6_prove_83 : decode b_X6_prove 83 = .ok (.getfield 111, 3) := by decide +kernel
theorem d_X6_prove_86 : decode b_X6_prove 86 = .ok (.invokevirtual 164, 3) := by decide +kernel
theorem d_X6_prove_89 : decode b_X6_prove 89 = .ok (.return_, 1) := by decide +kernel
theorem d_X6_feed_0 : decode b_X6_feed 0 = .ok (.aload_n 0, 1) := by decide +kernel
theorem d_X6_feed_1 : decode b_X6_feed 1 = .ok (.iload_n 1, 1) := by decide +kernel
