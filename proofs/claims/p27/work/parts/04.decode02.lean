theorem dX12_next_156 : decode cX12_next 156 = .ok (.ldc2_w 95, 3) := by decide +kernel
theorem dX12_next_159 : decode cX12_next 159 = .ok (.aload_n 0, 1) := by decide +kernel
theorem dX12_next_160 : decode cX12_next 160 = .ok (.getfield 84, 3) := by decide +kernel
theorem dX12_next_163 : decode cX12_next 163 = .ok (.lmul, 1) := by decide +kernel
theorem dX12_next_164 : decode cX12_next 164 = .ok (.aload_n 0, 1) := by decide +kernel
theorem dX12_next_165 : decode cX12_next 165 = .ok (.getfield 26, 3) := by decide +kernel
theorem dX12_next_168 : decode cX12_next 168 = .ok (.aload_n 0, 1) := by decide +kernel
theorem dX12_next_169 : decode cX12_next 169 = .ok (.getfield 75, 3) := by decide +kernel
theorem dX12_next_172 : decode cX12_next 172 = .ok (.iaload, 1) := by decide +kernel
theorem dX12_next_173 : decode cX12_next 173 = .ok (.i2l, 1) := by decide +kernel
theorem dX12_next_174 : decode cX12_next 174 = .ok (.ladd, 1) := by decide +kernel
theorem dX12_next_175 : decode cX12_next 175 = .ok (.ldc2_w 97, 3) := by decide +kernel
theorem dX12_next_178 : decode cX12_next 178 = .ok (.lsub, 1) := by decide +kernel
theorem dX12_next_179 : decode cX12_next 179 = .ok (.goto 6, 3) := by decide +kernel
theorem dX12_next_182 : decode cX12_next 182 = .ok (.ldc2_w 99, 3) := by decide +kernel
theorem dX12_next_185 : decode cX12_next 185 = .ok (.putfield 84, 3) := by decide +kernel
theorem dX12_next_188 : decode cX12_next 188 = .ok (.aload_n 0, 1) := by decide +kernel
theorem dX12_next_189 : decode cX12_next 189 = .ok (.iconst 0, 1) := by decide +kernel
theorem dX12_next_190 : decode cX12_next 190 = .ok (.putfield 81, 3) := by decide +kernel
theorem dX12_next_193 : decode cX12_next 193 = .ok (.aload_n 0, 1) := by decide +kernel
theorem dX12_next_194 : decode cX12_next 194 = .ok (.dup, 1) := by decide +kernel
theorem dX12_next_195 : decode cX12_next 195 = .ok (.getfield 75, 3) := by decide +kernel
theorem dX12_next_198 : decode cX12_next 198 = .ok (.iconst 1, 1) := by decide +kernel
theorem dX12_next_199 : decode cX12_next 199 = .ok (.iadd, 1) := by decide +kernel
theorem dX12_next_200 : decode cX12_next 200 = .ok (.putfield 75, 3) := by decide +kernel
theorem dX12_next_203 : decode cX12_next 203 = .ok (.goto (-95), 3) := by decide +kernel
theorem dX12_next_206 : decode cX12_next 206 = .ok (.aload_n 0, 1) := by decide +kernel
theorem dX12_next_207 : decode cX12_next 207 = .ok (.getfield 81, 3) := by decide +kernel
theorem dX12_next_210 : decode cX12_next 210 = .ok (.ifCond .eq 112, 3) := by decide +kernel
theorem dX12_next_213 : decode cX12_next 213 = .ok (.aload_n 0, 1) := by decide +kernel
theorem dX12_next_214 : decode cX12_next 214 = .ok (.getfield 75, 3) := by decide +kernel
theorem dX12_next_217 : decode cX12_next 217 = .ok (.aload_n 0, 1) := by decide +kernel
theorem dX12_next_218 : decode cX12_next 218 = .ok (.getfield 69, 3) := by decide +kernel
theorem dX12_next_221 : decode cX12_next 221 = .ok (.if_icmp .ge 101, 3) := by decide +kernel
theorem dX12_next_224 : decode cX12_next 224 = .ok (.aload_n 0, 1) := by decide +kernel
theorem dX12_next_225 : decode cX12_next 225 = .ok (.getfield 26, 3) := by decide +kernel
theorem dX12_next_228 : decode cX12_next 228 = .ok (.aload_n 0, 1) := by decide +kernel
theorem dX12_next_229 : decode cX12_next 229 = .ok (.getfield 75, 3) := by decide +kernel
theorem dX12_next_232 : decode cX12_next 232 = .ok (.iaload, 1) := by decide +kernel
theorem dX12_next_233 : decode cX12_next 233 = .ok (.i2l, 1) := by decide +kernel
theorem dX12_next_234 : decode cX12_next 234 = .ok (.ldc2_w 101, 3) := by decide +kernel
theorem dX12_next_237 : decode cX12_next 237 = .ok (.ldc2_w 103, 3) := by decide +kernel
theorem dX12_next_240 : decode cX12_next 240 = .ok (.invokestatic 40, 3) := by decide +kernel
theorem dX12_next_243 : decode cX12_next 243 = .ok (.ifCond .eq 79, 3) := by decide +kernel
theorem dX12_next_246 : decode cX12_next 246 = .ok (.aload_n 0, 1) := by decide +kernel
theorem dX12_next_247 : decode cX12_next 247 = .ok (.aload_n 0, 1) := by decide +kernel
theorem dX12_next_248 : decode cX12_next 248 = .ok (.getfield 75, 3) := by decide +kernel
theorem dX12_next_251 : decode cX12_next 251 = .ok (.aload_n 0, 1) := by decide +kernel
theorem dX12_next_252 : decode cX12_next 252 = .ok (.getfield 78, 3) := by decide +kernel
theorem dX12_next_255 : decode cX12_next 255 = .ok (.isub, 1) := by decide +kernel
theorem dX12_next_256 : decode cX12_next 256 = .ok (.iconst 3, 1) := by decide +kernel
theorem dX12_next_257 : decode cX12_next 257 = .ok (.if_icmp .ge 26, 3) := by decide +kernel
theorem dX12_next_260 : decode cX12_next 260 = .ok (.bipush 10, 2) := by decide +kernel
theorem dX12_next_262 : decode cX12_next 262 = .ok (.aload_n 0, 1) := by decide +kernel
theorem dX12_next_263 : decode cX12_next 263 = .ok (.getfield 88, 3) := by decide +kernel
theorem dX12_next_266 : decode cX12_next 266 = .ok (.imul, 1) := by decide +kernel
theorem dX12_next_267 : decode cX12_next 267 = .ok (.aload_n 0, 1) := by decide +kernel
theorem dX12_next_268 : decode cX12_next 268 = .ok (.getfield 26, 3) := by decide +kernel
theorem dX12_next_271 : decode cX12_next 271 = .ok (.aload_n 0, 1) := by decide +kernel
theorem dX12_next_272 : decode cX12_next 272 = .ok (.getfield 75, 3) := by decide +kernel
theorem dX12_next_275 : decode cX12_next 275 = .ok (.iaload, 1) := by decide +kernel
theorem dX12_next_276 : decode cX12_next 276 = .ok (.iadd, 1) := by decide +kernel
theorem dX12_next_277 : decode cX12_next 277 = .ok (.bipush 48, 2) := by decide +kernel
theorem dX12_next_279 : decode cX12_next 279 = .ok (.isub, 1) := by decide +kernel
theorem dX12_next_280 : decode cX12_next 280 = .ok (.goto 4, 3) := by decide +kernel
theorem dX12_next_283 : decode cX12_next 283 = .ok (.iconst 0, 1) := by decide +kernel
theorem dX12_next_284 : decode cX12_next 284 = .ok (.putfield 88, 3) := by decide +kernel
theorem dX12_next_287 : decode cX12_next 287 = .ok (.aload_n 0, 1) := by decide +kernel
theorem dX12_next_288 : decode cX12_next 288 = .ok (.aload_n 0, 1) := by decide +kernel
theorem dX12_next_289 : decode cX12_next 289 = .ok (.getfield 75, 3) := by decide +kernel
theorem dX12_next_292 : decode cX12_next 292 = .ok (.aload_n 0, 1) := by decide +kernel
theorem dX12_next_293 : decode cX12_next 293 = .ok (.getfield 78, 3) := by decide +kernel
theorem dX12_next_296 : decode cX12_next 296 = .ok (.isub, 1) := by decide +kernel
theorem dX12_next_297 : decode cX12_next 297 = .ok (.iconst 3, 1) := by decide +kernel
theorem dX12_next_298 : decode cX12_next 298 = .ok (.if_icmp .ge 7, 3) := by decide +kernel
theorem dX12_next_301 : decode cX12_next 301 = .ok (.iconst 1, 1) := by decide +kernel
theorem dX12_next_302 : decode cX12_next 302 = .ok (.goto 4, 3) := by decide +kernel
theorem dX12_next_305 : decode cX12_next 305 = .ok (.iconst 3, 1) := by decide +kernel
theorem dX12_next_306 : decode cX12_next 306 = .ok (.putfield 81, 3) := by decide +kernel
theorem dX12_next_309 : decode cX12_next 309 = .ok (.aload_n 0, 1) := by decide +kernel
theorem dX12_next_310 : decode cX12_next 310 = .ok (.dup, 1) := by decide +kernel
theorem dX12_next_311 : decode cX12_next 311 = .ok (.getfield 75, 3) := by decide +kernel
theorem dX12_next_314 : decode cX12_next 314 = .ok (.iconst 1, 1) := by decide +kernel
theorem dX12_next_315 : decode cX12_next 315 = .ok (.iadd, 1) := by decide +kernel
theorem dX12_next_316 : decode cX12_next 316 = .ok (.putfield 75, 3) := by decide +kernel
theorem dX12_next_319 : decode cX12_next 319 = .ok (.goto (-113), 3) := by decide +kernel
theorem dX12_next_322 : decode cX12_next 322 = .ok (.aload_n 0, 1) := by decide +kernel
theorem dX12_next_323 : decode cX12_next 323 = .ok (.dup, 1) := by decide +kernel
theorem dX12_next_324 : decode cX12_next 324 = .ok (.getfield 75, 3) := by decide +kernel
theorem dX12_next_327 : decode cX12_next 327 = .ok (.aload_n 0, 1) := by decide +kernel
theorem dX12_next_328 : decode cX12_next 328 = .ok (.getfield 81, 3) := by decide +kernel
theorem dX12_next_331 : decode cX12_next 331 = .ok (.iconst 2, 1) := by decide +kernel
theorem dX12_next_332 : decode cX12_next 332 = .ok (.if_icmp .ne 7, 3) := by decide +kernel
theorem dX12_next_335 : decode cX12_next 335 = .ok (.iconst 1, 1) := by decide +kernel
theorem dX12_next_336 : decode cX12_next 336 = .ok (.goto 4, 3) := by decide +kernel
theorem dX12_next_339 : decode cX12_next 339 = .ok (.iconst 0, 1) := by decide +kernel
theorem dX12_next_340 : decode cX12_next 340 = .ok (.iadd, 1) := by decide +kernel
theorem dX12_next_341 : decode cX12_next 341 = .ok (.putfield 75, 3) := by decide +kernel
theorem dX12_next_344 : decode cX12_next 344 = .ok (.return_, 1) := by decide +kernel
theorem dX12_fails_0 : decode cX12_fails 0 = .ok (.aload_n 0, 1) := by decide +kernel
theorem dX12_fails_1 : decode cX12_fails 1 = .ok (.iload_n 1, 1) := by decide +kernel
theorem dX12_fails_2 : decode cX12_fails 2 = .ok (.putfield 105, 3) := by decide +kernel
theorem dX12_fails_5 : decode cX12_fails 5 = .ok (.iconst (-1), 1) := by decide +kernel
theorem dX12_fails_6 : decode cX12_fails 6 = .ok (.ireturn, 1) := by decide +kernel
theorem dX12_takeNumber_0 : decode cX12_takeNumber 0 = .ok (.aload_n 0, 1) := by decide +kernel
theorem dX12_takeNumber_1 : decode cX12_takeNumber 1 = .ok (.getfield 81, 3) := by decide +kernel
theorem dX12_takeNumber_4 : decode cX12_takeNumber 4 = .ok (.iconst 1, 1) := by decide +kernel
theorem dX12_takeNumber_5 : decode cX12_takeNumber 5 = .ok (.if_icmp .eq 9, 3) := by decide +kernel
theorem dX12_takeNumber_8 : decode cX12_takeNumber 8 = .ok (.aload_n 0, 1) := by decide +kernel
theorem dX12_takeNumber_9 : decode cX12_takeNumber 9 = .ok (.iconst 1, 1) := by decide +kernel
theorem dX12_takeNumber_10 : decode cX12_takeNumber 10 = .ok (.invokevirtual 108, 3) := by decide +kernel
theorem dX12_takeNumber_13 : decode cX12_takeNumber 13 = .ok (.ireturn, 1) := by decide +kernel
theorem dX12_takeNumber_14 : decode cX12_takeNumber 14 = .ok (.aload_n 0, 1) := by decide +kernel
theorem dX12_takeNumber_15 : decode cX12_takeNumber 15 = .ok (.getfield 88, 3) := by decide +kernel
theorem dX12_takeNumber_18 : decode cX12_takeNumber 18 = .ok (.i2l, 1) := by decide +kernel
theorem dX12_takeNumber_19 : decode cX12_takeNumber 19 = .ok (.iload_n 1, 1) := by decide +kernel
theorem dX12_takeNumber_20 : decode cX12_takeNumber 20 = .ok (.i2l, 1) := by decide +kernel
theorem dX12_takeNumber_21 : decode cX12_takeNumber 21 = .ok (.iload_n 2, 1) := by decide +kernel
theorem dX12_takeNumber_22 : decode cX12_takeNumber 22 = .ok (.i2l, 1) := by decide +kernel
theorem dX12_takeNumber_23 : decode cX12_takeNumber 23 = .ok (.invokestatic 40, 3) := by decide +kernel
theorem dX12_takeNumber_26 : decode cX12_takeNumber 26 = .ok (.ifCond .ne 17, 3) := by decide +kernel
theorem dX12_takeNumber_29 : decode cX12_takeNumber 29 = .ok (.aload_n 0, 1) := by decide +kernel
theorem dX12_takeNumber_30 : decode cX12_takeNumber 30 = .ok (.getfield 88, 3) := by decide +kernel
theorem dX12_takeNumber_33 : decode cX12_takeNumber 33 = .ok (.iload_n 3, 1) := by decide +kernel
theorem dX12_takeNumber_34 : decode cX12_takeNumber 34 = .ok (.if_icmp .eq 9, 3) := by decide +kernel
theorem dX12_takeNumber_37 : decode cX12_takeNumber 37 = .ok (.aload_n 0, 1) := by decide +kernel
theorem dX12_takeNumber_38 : decode cX12_takeNumber 38 = .ok (.iconst 2, 1) := by decide +kernel
theorem dX12_takeNumber_39 : decode cX12_takeNumber 39 = .ok (.invokevirtual 108, 3) := by decide +kernel
theorem dX12_takeNumber_42 : decode cX12_takeNumber 42 = .ok (.ireturn, 1) := by decide +kernel
theorem dX12_takeNumber_43 : decode cX12_takeNumber 43 = .ok (.aload_n 0, 1) := by decide +kernel
theorem dX12_takeNumber_44 : decode cX12_takeNumber 44 = .ok (.getfield 88, 3) := by decide +kernel
theorem dX12_takeNumber_47 : decode cX12_takeNumber 47 = .ok (.istore 4, 2) := by decide +kernel
theorem dX12_takeNumber_49 : decode cX12_takeNumber 49 = .ok (.aload_n 0, 1) := by decide +kernel
theorem dX12_takeNumber_50 : decode cX12_takeNumber 50 = .ok (.invokevirtual 111, 3) := by decide +kernel
theorem dX12_takeNumber_53 : decode cX12_takeNumber 53 = .ok (.iload 4, 2) := by decide +kernel
theorem dX12_takeNumber_55 : decode cX12_takeNumber 55 = .ok (.ireturn, 1) := by decide +kernel
theorem dX12_takeSign_0 : decode cX12_takeSign 0 = .ok (.aload_n 0, 1) := by decide +kernel
theorem dX12_takeSign_1 : decode cX12_takeSign 1 = .ok (.getfield 105, 3) := by decide +kernel
theorem dX12_takeSign_4 : decode cX12_takeSign 4 = .ok (.ifCond .ne 19, 3) := by decide +kernel
theorem dX12_takeSign_7 : decode cX12_takeSign 7 = .ok (.aload_n 0, 1) := by decide +kernel
theorem dX12_takeSign_8 : decode cX12_takeSign 8 = .ok (.getfield 81, 3) := by decide +kernel
theorem dX12_takeSign_11 : decode cX12_takeSign 11 = .ok (.iconst 2, 1) := by decide +kernel
theorem dX12_takeSign_12 : decode cX12_takeSign 12 = .ok (.if_icmp .eq 11, 3) := by decide +kernel
theorem dX12_takeSign_15 : decode cX12_takeSign 15 = .ok (.aload_n 0, 1) := by decide +kernel
theorem dX12_takeSign_16 : decode cX12_takeSign 16 = .ok (.iconst 1, 1) := by decide +kernel
theorem dX12_takeSign_17 : decode cX12_takeSign 17 = .ok (.putfield 105, 3) := by decide +kernel
theorem dX12_takeSign_20 : decode cX12_takeSign 20 = .ok (.goto 14, 3) := by decide +kernel
theorem dX12_takeSign_23 : decode cX12_takeSign 23 = .ok (.aload_n 0, 1) := by decide +kernel
theorem dX12_takeSign_24 : decode cX12_takeSign 24 = .ok (.getfield 105, 3) := by decide +kernel
theorem dX12_takeSign_27 : decode cX12_takeSign 27 = .ok (.ifCond .ne 7, 3) := by decide +kernel
theorem dX12_takeSign_30 : decode cX12_takeSign 30 = .ok (.aload_n 0, 1) := by decide +kernel
theorem dX12_takeSign_31 : decode cX12_takeSign 31 = .ok (.invokevirtual 111, 3) := by decide +kernel
theorem dX12_takeSign_34 : decode cX12_takeSign 34 = .ok (.return_, 1) := by decide +kernel
theorem dX12_takeLaw_0 : decode cX12_takeLaw 0 = .ok (.aload_n 0, 1) := by decide +kernel
theorem dX12_takeLaw_1 : decode cX12_takeLaw 1 = .ok (.getfield 81, 3) := by decide +kernel
theorem dX12_takeLaw_4 : decode cX12_takeLaw 4 = .ok (.ifCond .ne 14, 3) := by decide +kernel
theorem dX12_takeLaw_7 : decode cX12_takeLaw 7 = .ok (.aload_n 0, 1) := by decide +kernel
theorem dX12_takeLaw_8 : decode cX12_takeLaw 8 = .ok (.getfield 84, 3) := by decide +kernel
theorem dX12_takeLaw_11 : decode cX12_takeLaw 11 = .ok (.ldc2_w 114, 3) := by decide +kernel
theorem dX12_takeLaw_14 : decode cX12_takeLaw 14 = .ok (.lcmp, 1) := by decide +kernel
theorem dX12_takeLaw_15 : decode cX12_takeLaw 15 = .ok (.ifCond .eq 9, 3) := by decide +kernel
theorem dX12_takeLaw_18 : decode cX12_takeLaw 18 = .ok (.aload_n 0, 1) := by decide +kernel
theorem dX12_takeLaw_19 : decode cX12_takeLaw 19 = .ok (.iconst 1, 1) := by decide +kernel
theorem dX12_takeLaw_20 : decode cX12_takeLaw 20 = .ok (.putfield 105, 3) := by decide +kernel
theorem dX12_takeLaw_23 : decode cX12_takeLaw 23 = .ok (.return_, 1) := by decide +kernel
theorem dX12_takeLaw_24 : decode cX12_takeLaw 24 = .ok (.aload_n 0, 1) := by decide +kernel
theorem dX12_takeLaw_25 : decode cX12_takeLaw 25 = .ok (.invokevirtual 111, 3) := by decide +kernel
theorem dX12_takeLaw_28 : decode cX12_takeLaw 28 = .ok (.aload_n 0, 1) := by decide +kernel
theorem dX12_takeLaw_29 : decode cX12_takeLaw 29 = .ok (.getfield 7, 3) := by decide +kernel
theorem dX12_takeLaw_32 : decode cX12_takeLaw 32 = .ok (.sipush 150, 3) := by decide +kernel
theorem dX12_takeLaw_35 : decode cX12_takeLaw 35 = .ok (.aload_n 0, 1) := by decide +kernel
theorem dX12_takeLaw_36 : decode cX12_takeLaw 36 = .ok (.iconst 4, 1) := by decide +kernel
theorem dX12_takeLaw_37 : decode cX12_takeLaw 37 = .ok (.bipush 32, 2) := by decide +kernel
theorem dX12_takeLaw_39 : decode cX12_takeLaw 39 = .ok (.iconst 4, 1) := by decide +kernel
theorem dX12_takeLaw_40 : decode cX12_takeLaw 40 = .ok (.invokevirtual 116, 3) := by decide +kernel
theorem dX12_takeLaw_43 : decode cX12_takeLaw 43 = .ok (.iastore, 1) := by decide +kernel
theorem dX12_takeLaw_44 : decode cX12_takeLaw 44 = .ok (.aload_n 0, 1) := by decide +kernel
theorem dX12_takeLaw_45 : decode cX12_takeLaw 45 = .ok (.getfield 7, 3) := by decide +kernel
theorem dX12_takeLaw_48 : decode cX12_takeLaw 48 = .ok (.sipush 151, 3) := by decide +kernel
theorem dX12_takeLaw_51 : decode cX12_takeLaw 51 = .ok (.aload_n 0, 1) := by decide +kernel
theorem dX12_takeLaw_52 : decode cX12_takeLaw 52 = .ok (.getfield 105, 3) := by decide +kernel
theorem dX12_takeLaw_55 : decode cX12_takeLaw 55 = .ok (.ifCond .ne 14, 3) := by decide +kernel
theorem dX12_takeLaw_58 : decode cX12_takeLaw 58 = .ok (.aload_n 0, 1) := by decide +kernel
theorem dX12_takeLaw_59 : decode cX12_takeLaw 59 = .ok (.iconst 1, 1) := by decide +kernel
theorem dX12_takeLaw_60 : decode cX12_takeLaw 60 = .ok (.bipush 99, 2) := by decide +kernel
theorem dX12_takeLaw_62 : decode cX12_takeLaw 62 = .ok (.iconst 1, 1) := by decide +kernel
theorem dX12_takeLaw_63 : decode cX12_takeLaw 63 = .ok (.invokevirtual 116, 3) := by decide +kernel
theorem dX12_takeLaw_66 : decode cX12_takeLaw 66 = .ok (.goto 4, 3) := by decide +kernel
theorem dX12_takeLaw_69 : decode cX12_takeLaw 69 = .ok (.iconst 0, 1) := by decide +kernel
theorem dX12_takeLaw_70 : decode cX12_takeLaw 70 = .ok (.iastore, 1) := by decide +kernel
theorem dX12_takeLaw_71 : decode cX12_takeLaw 71 = .ok (.aload_n 0, 1) := by decide +kernel
theorem dX12_takeLaw_72 : decode cX12_takeLaw 72 = .ok (.invokevirtual 120, 3) := by decide +kernel
theorem dX12_takeLaw_75 : decode cX12_takeLaw 75 = .ok (.return_, 1) := by decide +kernel
theorem dX12_takePerson_0 : decode cX12_takePerson 0 = .ok (.aload_n 0, 1) := by decide +kernel
theorem dX12_takePerson_1 : decode cX12_takePerson 1 = .ok (.getfield 7, 3) := by decide +kernel
theorem dX12_takePerson_4 : decode cX12_takePerson 4 = .ok (.sipush 152, 3) := by decide +kernel
theorem dX12_takePerson_7 : decode cX12_takePerson 7 = .ok (.iaload, 1) := by decide +kernel
theorem dX12_takePerson_8 : decode cX12_takePerson 8 = .ok (.istore_n 1, 1) := by decide +kernel
theorem dX12_takePerson_9 : decode cX12_takePerson 9 = .ok (.iload_n 1, 1) := by decide +kernel
theorem dX12_takePerson_10 : decode cX12_takePerson 10 = .ok (.bipush 7, 2) := by decide +kernel
theorem dX12_takePerson_12 : decode cX12_takePerson 12 = .ok (.if_icmp .ne 9, 3) := by decide +kernel
theorem dX12_takePerson_15 : decode cX12_takePerson 15 = .ok (.aload_n 0, 1) := by decide +kernel
theorem dX12_takePerson_16 : decode cX12_takePerson 16 = .ok (.iconst 3, 1) := by decide +kernel
theorem dX12_takePerson_17 : decode cX12_takePerson 17 = .ok (.putfield 105, 3) := by decide +kernel
theorem dX12_takePerson_20 : decode cX12_takePerson 20 = .ok (.return_, 1) := by decide +kernel
theorem dX12_takePerson_21 : decode cX12_takePerson 21 = .ok (.aload_n 0, 1) := by decide +kernel
theorem dX12_takePerson_22 : decode cX12_takePerson 22 = .ok (.invokevirtual 111, 3) := by decide +kernel
theorem dX12_takePerson_25 : decode cX12_takePerson 25 = .ok (.aload_n 0, 1) := by decide +kernel
theorem dX12_takePerson_26 : decode cX12_takePerson 26 = .ok (.getfield 81, 3) := by decide +kernel
theorem dX12_takePerson_29 : decode cX12_takePerson 29 = .ok (.ifCond .ne 13, 3) := by decide +kernel
theorem dX12_takePerson_32 : decode cX12_takePerson 32 = .ok (.aload_n 0, 1) := by decide +kernel
theorem dX12_takePerson_33 : decode cX12_takePerson 33 = .ok (.getfield 84, 3) := by decide +kernel
theorem dX12_takePerson_36 : decode cX12_takePerson 36 = .ok (.invokestatic 123, 3) := by decide +kernel
theorem dX12_takePerson_39 : decode cX12_takePerson 39 = .ok (.goto 4, 3) := by decide +kernel
theorem dX12_takePerson_42 : decode cX12_takePerson 42 = .ok (.iconst (-1), 1) := by decide +kernel
theorem dX12_takePerson_43 : decode cX12_takePerson 43 = .ok (.istore_n 2, 1) := by decide +kernel
theorem dX12_takePerson_44 : decode cX12_takePerson 44 = .ok (.iload_n 2, 1) := by decide +kernel
theorem dX12_takePerson_45 : decode cX12_takePerson 45 = .ok (.ifCond .ge 9, 3) := by decide +kernel
theorem dX12_takePerson_48 : decode cX12_takePerson 48 = .ok (.aload_n 0, 1) := by decide +kernel
theorem dX12_takePerson_49 : decode cX12_takePerson 49 = .ok (.iconst 1, 1) := by decide +kernel
theorem dX12_takePerson_50 : decode cX12_takePerson 50 = .ok (.putfield 105, 3) := by decide +kernel
theorem dX12_takePerson_53 : decode cX12_takePerson 53 = .ok (.return_, 1) := by decide +kernel
theorem dX12_takePerson_54 : decode cX12_takePerson 54 = .ok (.aload_n 0, 1) := by decide +kernel
theorem dX12_takePerson_55 : decode cX12_takePerson 55 = .ok (.invokevirtual 111, 3) := by decide +kernel
theorem dX12_takePerson_58 : decode cX12_takePerson 58 = .ok (.aload_n 0, 1) := by decide +kernel
theorem dX12_takePerson_59 : decode cX12_takePerson 59 = .ok (.getfield 7, 3) := by decide +kernel
theorem dX12_takePerson_62 : decode cX12_takePerson 62 = .ok (.sipush 153, 3) := by decide +kernel
theorem dX12_takePerson_65 : decode cX12_takePerson 65 = .ok (.iload_n 1, 1) := by decide +kernel
theorem dX12_takePerson_66 : decode cX12_takePerson 66 = .ok (.iadd, 1) := by decide +kernel
theorem dX12_takePerson_67 : decode cX12_takePerson 67 = .ok (.iload_n 2, 1) := by decide +kernel
theorem dX12_takePerson_68 : decode cX12_takePerson 68 = .ok (.iastore, 1) := by decide +kernel
theorem dX12_takePerson_69 : decode cX12_takePerson 69 = .ok (.aload_n 0, 1) := by decide +kernel
theorem dX12_takePerson_70 : decode cX12_takePerson 70 = .ok (.getfield 7, 3) := by decide +kernel
theorem dX12_takePerson_73 : decode cX12_takePerson 73 = .ok (.sipush 160, 3) := by decide +kernel
theorem dX12_takePerson_76 : decode cX12_takePerson 76 = .ok (.iload_n 1, 1) := by decide +kernel
theorem dX12_takePerson_77 : decode cX12_takePerson 77 = .ok (.iadd, 1) := by decide +kernel
theorem dX12_takePerson_78 : decode cX12_takePerson 78 = .ok (.aload_n 0, 1) := by decide +kernel
theorem dX12_takePerson_79 : decode cX12_takePerson 79 = .ok (.iconst 1, 1) := by decide +kernel
theorem dX12_takePerson_80 : decode cX12_takePerson 80 = .ok (.bipush 20, 2) := by decide +kernel
theorem dX12_takePerson_82 : decode cX12_takePerson 82 = .ok (.iconst 1, 1) := by decide +kernel
theorem dX12_takePerson_83 : decode cX12_takePerson 83 = .ok (.invokevirtual 116, 3) := by decide +kernel
theorem dX12_takePerson_86 : decode cX12_takePerson 86 = .ok (.iastore, 1) := by decide +kernel
theorem dX12_takePerson_87 : decode cX12_takePerson 87 = .ok (.aload_n 0, 1) := by decide +kernel
theorem dX12_takePerson_88 : decode cX12_takePerson 88 = .ok (.getfield 7, 3) := by decide +kernel
theorem dX12_takePerson_91 : decode cX12_takePerson 91 = .ok (.sipush 167, 3) := by decide +kernel
theorem dX12_takePerson_94 : decode cX12_takePerson 94 = .ok (.iload_n 1, 1) := by decide +kernel
theorem dX12_takePerson_95 : decode cX12_takePerson 95 = .ok (.iadd, 1) := by decide +kernel
theorem dX12_takePerson_96 : decode cX12_takePerson 96 = .ok (.aload_n 0, 1) := by decide +kernel
theorem dX12_takePerson_97 : decode cX12_takePerson 97 = .ok (.getfield 105, 3) := by decide +kernel
theorem dX12_takePerson_100 : decode cX12_takePerson 100 = .ok (.ifCond .ne 13, 3) := by decide +kernel
theorem dX12_takePerson_103 : decode cX12_takePerson 103 = .ok (.aload_n 0, 1) := by decide +kernel
theorem dX12_takePerson_104 : decode cX12_takePerson 104 = .ok (.iconst 1, 1) := by decide +kernel
theorem dX12_takePerson_105 : decode cX12_takePerson 105 = .ok (.iconst 4, 1) := by decide +kernel
theorem dX12_takePerson_106 : decode cX12_takePerson 106 = .ok (.iconst 1, 1) := by decide +kernel
theorem dX12_takePerson_107 : decode cX12_takePerson 107 = .ok (.invokevirtual 116, 3) := by decide +kernel
theorem dX12_takePerson_110 : decode cX12_takePerson 110 = .ok (.goto 4, 3) := by decide +kernel
theorem dX12_takePerson_113 : decode cX12_takePerson 113 = .ok (.iconst 0, 1) := by decide +kernel
theorem dX12_takePerson_114 : decode cX12_takePerson 114 = .ok (.iastore, 1) := by decide +kernel
theorem dX12_takePerson_115 : decode cX12_takePerson 115 = .ok (.aload_n 0, 1) := by decide +kernel
theorem dX12_takePerson_116 : decode cX12_takePerson 116 = .ok (.getfield 105, 3) := by decide +kernel
theorem dX12_takePerson_119 : decode cX12_takePerson 119 = .ok (.ifCond .ne 23, 3) := by decide +kernel
theorem dX12_takePerson_122 : decode cX12_takePerson 122 = .ok (.aload_n 0, 1) := by decide +kernel
theorem dX12_takePerson_123 : decode cX12_takePerson 123 = .ok (.iconst 0, 1) := by decide +kernel
theorem dX12_takePerson_124 : decode cX12_takePerson 124 = .ok (.aload_n 0, 1) := by decide +kernel
theorem dX12_takePerson_125 : decode cX12_takePerson 125 = .ok (.getfield 7, 3) := by decide +kernel
theorem dX12_takePerson_128 : decode cX12_takePerson 128 = .ok (.sipush 150, 3) := by decide +kernel
theorem dX12_takePerson_131 : decode cX12_takePerson 131 = .ok (.iaload, 1) := by decide +kernel
theorem dX12_takePerson_132 : decode cX12_takePerson 132 = .ok (.iconst 1, 1) := by decide +kernel
theorem dX12_takePerson_133 : decode cX12_takePerson 133 = .ok (.isub, 1) := by decide +kernel
theorem dX12_takePerson_134 : decode cX12_takePerson 134 = .ok (.bipush 99, 2) := by decide +kernel
theorem dX12_takePerson_136 : decode cX12_takePerson 136 = .ok (.invokevirtual 116, 3) := by decide +kernel
theorem dX12_takePerson_139 : decode cX12_takePerson 139 = .ok (.goto 4, 3) := by decide +kernel
theorem dX12_takePerson_142 : decode cX12_takePerson 142 = .ok (.iconst 0, 1) := by decide +kernel
theorem dX12_takePerson_143 : decode cX12_takePerson 143 = .ok (.istore_n 3, 1) := by decide +kernel
theorem dX12_takePerson_144 : decode cX12_takePerson 144 = .ok (.aload_n 0, 1) := by decide +kernel
theorem dX12_takePerson_145 : decode cX12_takePerson 145 = .ok (.getfield 7, 3) := by decide +kernel
theorem dX12_takePerson_148 : decode cX12_takePerson 148 = .ok (.sipush 174, 3) := by decide +kernel
theorem dX12_takePerson_151 : decode cX12_takePerson 151 = .ok (.iload_n 1, 1) := by decide +kernel
theorem dX12_takePerson_152 : decode cX12_takePerson 152 = .ok (.iadd, 1) := by decide +kernel
theorem dX12_takePerson_153 : decode cX12_takePerson 153 = .ok (.iload_n 3, 1) := by decide +kernel
theorem dX12_takePerson_154 : decode cX12_takePerson 154 = .ok (.bipush 99, 2) := by decide +kernel
theorem dX12_takePerson_156 : decode cX12_takePerson 156 = .ok (.if_icmp .ne 7, 3) := by decide +kernel
theorem dX12_takePerson_159 : decode cX12_takePerson 159 = .ok (.iconst (-1), 1) := by decide +kernel
theorem dX12_takePerson_160 : decode cX12_takePerson 160 = .ok (.goto 4, 3) := by decide +kernel
theorem dX12_takePerson_163 : decode cX12_takePerson 163 = .ok (.iload_n 3, 1) := by decide +kernel
theorem dX12_takePerson_164 : decode cX12_takePerson 164 = .ok (.iastore, 1) := by decide +kernel
theorem dX12_takePerson_165 : decode cX12_takePerson 165 = .ok (.aload_n 0, 1) := by decide +kernel
theorem dX12_takePerson_166 : decode cX12_takePerson 166 = .ok (.getfield 7, 3) := by decide +kernel
theorem dX12_takePerson_169 : decode cX12_takePerson 169 = .ok (.sipush 181, 3) := by decide +kernel
theorem dX12_takePerson_172 : decode cX12_takePerson 172 = .ok (.iload_n 1, 1) := by decide +kernel
theorem dX12_takePerson_173 : decode cX12_takePerson 173 = .ok (.iadd, 1) := by decide +kernel
theorem dX12_takePerson_174 : decode cX12_takePerson 174 = .ok (.iconst 0, 1) := by decide +kernel
theorem dX12_takePerson_175 : decode cX12_takePerson 175 = .ok (.iastore, 1) := by decide +kernel
theorem dX12_takePerson_176 : decode cX12_takePerson 176 = .ok (.aload_n 0, 1) := by decide +kernel
theorem dX12_takePerson_177 : decode cX12_takePerson 177 = .ok (.getfield 7, 3) := by decide +kernel
theorem dX12_takePerson_180 : decode cX12_takePerson 180 = .ok (.sipush 152, 3) := by decide +kernel
theorem dX12_takePerson_183 : decode cX12_takePerson 183 = .ok (.dup2, 1) := by decide +kernel
theorem dX12_takePerson_184 : decode cX12_takePerson 184 = .ok (.iaload, 1) := by decide +kernel
theorem dX12_takePerson_185 : decode cX12_takePerson 185 = .ok (.iconst 1, 1) := by decide +kernel
theorem dX12_takePerson_186 : decode cX12_takePerson 186 = .ok (.iadd, 1) := by decide +kernel
theorem dX12_takePerson_187 : decode cX12_takePerson 187 = .ok (.iastore, 1) := by decide +kernel
theorem dX12_takePerson_188 : decode cX12_takePerson 188 = .ok (.aload_n 0, 1) := by decide +kernel
theorem dX12_takePerson_189 : decode cX12_takePerson 189 = .ok (.invokevirtual 120, 3) := by decide +kernel
theorem dX12_takePerson_192 : decode cX12_takePerson 192 = .ok (.return_, 1) := by decide +kernel
theorem dX12_takeStone_0 : decode cX12_takeStone 0 = .ok (.aload_n 0, 1) := by decide +kernel
theorem dX12_takeStone_1 : decode cX12_takeStone 1 = .ok (.getfield 7, 3) := by decide +kernel
theorem dX12_takeStone_4 : decode cX12_takeStone 4 = .ok (.sipush 188, 3) := by decide +kernel
theorem dX12_takeStone_7 : decode cX12_takeStone 7 = .ok (.iaload, 1) := by decide +kernel
theorem dX12_takeStone_8 : decode cX12_takeStone 8 = .ok (.istore_n 1, 1) := by decide +kernel
theorem dX12_takeStone_9 : decode cX12_takeStone 9 = .ok (.iload_n 1, 1) := by decide +kernel
theorem dX12_takeStone_10 : decode cX12_takeStone 10 = .ok (.iconst 4, 1) := by decide +kernel
theorem dX12_takeStone_11 : decode cX12_takeStone 11 = .ok (.if_icmp .ne 9, 3) := by decide +kernel
theorem dX12_takeStone_14 : decode cX12_takeStone 14 = .ok (.aload_n 0, 1) := by decide +kernel
theorem dX12_takeStone_15 : decode cX12_takeStone 15 = .ok (.iconst 3, 1) := by decide +kernel
theorem dX12_takeStone_16 : decode cX12_takeStone 16 = .ok (.putfield 105, 3) := by decide +kernel
theorem dX12_takeStone_19 : decode cX12_takeStone 19 = .ok (.return_, 1) := by decide +kernel
theorem dX12_takeStone_20 : decode cX12_takeStone 20 = .ok (.aload_n 0, 1) := by decide +kernel
theorem dX12_takeStone_21 : decode cX12_takeStone 21 = .ok (.invokevirtual 111, 3) := by decide +kernel
theorem dX12_takeStone_24 : decode cX12_takeStone 24 = .ok (.aload_n 0, 1) := by decide +kernel
theorem dX12_takeStone_25 : decode cX12_takeStone 25 = .ok (.getfield 7, 3) := by decide +kernel
theorem dX12_takeStone_28 : decode cX12_takeStone 28 = .ok (.sipush 189, 3) := by decide +kernel
theorem dX12_takeStone_31 : decode cX12_takeStone 31 = .ok (.iload_n 1, 1) := by decide +kernel
theorem dX12_takeStone_32 : decode cX12_takeStone 32 = .ok (.iadd, 1) := by decide +kernel
theorem dX12_takeStone_33 : decode cX12_takeStone 33 = .ok (.aload_n 0, 1) := by decide +kernel
theorem dX12_takeStone_34 : decode cX12_takeStone 34 = .ok (.iconst 1, 1) := by decide +kernel
theorem dX12_takeStone_35 : decode cX12_takeStone 35 = .ok (.bipush 20, 2) := by decide +kernel
theorem dX12_takeStone_37 : decode cX12_takeStone 37 = .ok (.iconst 1, 1) := by decide +kernel
theorem dX12_takeStone_38 : decode cX12_takeStone 38 = .ok (.invokevirtual 116, 3) := by decide +kernel
theorem dX12_takeStone_41 : decode cX12_takeStone 41 = .ok (.iastore, 1) := by decide +kernel
theorem dX12_takeStone_42 : decode cX12_takeStone 42 = .ok (.aload_n 0, 1) := by decide +kernel
theorem dX12_takeStone_43 : decode cX12_takeStone 43 = .ok (.getfield 7, 3) := by decide +kernel
theorem dX12_takeStone_46 : decode cX12_takeStone 46 = .ok (.sipush 193, 3) := by decide +kernel
theorem dX12_takeStone_49 : decode cX12_takeStone 49 = .ok (.iload_n 1, 1) := by decide +kernel
theorem dX12_takeStone_50 : decode cX12_takeStone 50 = .ok (.iadd, 1) := by decide +kernel
theorem dX12_takeStone_51 : decode cX12_takeStone 51 = .ok (.aload_n 0, 1) := by decide +kernel
theorem dX12_takeStone_52 : decode cX12_takeStone 52 = .ok (.getfield 105, 3) := by decide +kernel
theorem dX12_takeStone_55 : decode cX12_takeStone 55 = .ok (.ifCond .ne 13, 3) := by decide +kernel
theorem dX12_takeStone_58 : decode cX12_takeStone 58 = .ok (.aload_n 0, 1) := by decide +kernel
theorem dX12_takeStone_59 : decode cX12_takeStone 59 = .ok (.iconst 0, 1) := by decide +kernel
theorem dX12_takeStone_60 : decode cX12_takeStone 60 = .ok (.iconst 3, 1) := by decide +kernel
theorem dX12_takeStone_61 : decode cX12_takeStone 61 = .ok (.iconst 0, 1) := by decide +kernel
theorem dX12_takeStone_62 : decode cX12_takeStone 62 = .ok (.invokevirtual 116, 3) := by decide +kernel
theorem dX12_takeStone_65 : decode cX12_takeStone 65 = .ok (.goto 4, 3) := by decide +kernel
theorem dX12_takeStone_68 : decode cX12_takeStone 68 = .ok (.iconst 0, 1) := by decide +kernel
theorem dX12_takeStone_69 : decode cX12_takeStone 69 = .ok (.iastore, 1) := by decide +kernel
theorem dX12_takeStone_70 : decode cX12_takeStone 70 = .ok (.aload_n 0, 1) := by decide +kernel
theorem dX12_takeStone_71 : decode cX12_takeStone 71 = .ok (.getfield 7, 3) := by decide +kernel
theorem dX12_takeStone_74 : decode cX12_takeStone 74 = .ok (.sipush 188, 3) := by decide +kernel
theorem dX12_takeStone_77 : decode cX12_takeStone 77 = .ok (.dup2, 1) := by decide +kernel
theorem dX12_takeStone_78 : decode cX12_takeStone 78 = .ok (.iaload, 1) := by decide +kernel
theorem dX12_takeStone_79 : decode cX12_takeStone 79 = .ok (.iconst 1, 1) := by decide +kernel
theorem dX12_takeStone_80 : decode cX12_takeStone 80 = .ok (.iadd, 1) := by decide +kernel
theorem dX12_takeStone_81 : decode cX12_takeStone 81 = .ok (.iastore, 1) := by decide +kernel
theorem dX12_takeStone_82 : decode cX12_takeStone 82 = .ok (.aload_n 0, 1) := by decide +kernel
theorem dX12_takeStone_83 : decode cX12_takeStone 83 = .ok (.invokevirtual 120, 3) := by decide +kernel
theorem dX12_takeStone_86 : decode cX12_takeStone 86 = .ok (.return_, 1) := by decide +kernel
theorem dX12_sortOf_0 : decode cX12_sortOf 0 = .ok (.lload_n 0, 1) := by decide +kernel
theorem dX12_sortOf_1 : decode cX12_sortOf 1 = .ok (.ldc2_w 127, 3) := by decide +kernel
theorem dX12_sortOf_4 : decode cX12_sortOf 4 = .ok (.lcmp, 1) := by decide +kernel
theorem dX12_sortOf_5 : decode cX12_sortOf 5 = .ok (.ifCond .ne 7, 3) := by decide +kernel
theorem dX12_sortOf_8 : decode cX12_sortOf 8 = .ok (.iconst 1, 1) := by decide +kernel
theorem dX12_sortOf_9 : decode cX12_sortOf 9 = .ok (.goto 52, 3) := by decide +kernel
theorem dX12_sortOf_12 : decode cX12_sortOf 12 = .ok (.lload_n 0, 1) := by decide +kernel
theorem dX12_sortOf_13 : decode cX12_sortOf 13 = .ok (.ldc2_w 129, 3) := by decide +kernel
theorem dX12_sortOf_16 : decode cX12_sortOf 16 = .ok (.lcmp, 1) := by decide +kernel
theorem dX12_sortOf_17 : decode cX12_sortOf 17 = .ok (.ifCond .ne 7, 3) := by decide +kernel
theorem dX12_sortOf_20 : decode cX12_sortOf 20 = .ok (.iconst 4, 1) := by decide +kernel
theorem dX12_sortOf_21 : decode cX12_sortOf 21 = .ok (.goto 40, 3) := by decide +kernel
theorem dX12_sortOf_24 : decode cX12_sortOf 24 = .ok (.lload_n 0, 1) := by decide +kernel
theorem dX12_sortOf_25 : decode cX12_sortOf 25 = .ok (.ldc2_w 131, 3) := by decide +kernel
theorem dX12_sortOf_28 : decode cX12_sortOf 28 = .ok (.lcmp, 1) := by decide +kernel
theorem dX12_sortOf_29 : decode cX12_sortOf 29 = .ok (.ifCond .ne 7, 3) := by decide +kernel
theorem dX12_sortOf_32 : decode cX12_sortOf 32 = .ok (.iconst 2, 1) := by decide +kernel
theorem dX12_sortOf_33 : decode cX12_sortOf 33 = .ok (.goto 28, 3) := by decide +kernel
theorem dX12_sortOf_36 : decode cX12_sortOf 36 = .ok (.lload_n 0, 1) := by decide +kernel
theorem dX12_sortOf_37 : decode cX12_sortOf 37 = .ok (.ldc2_w 133, 3) := by decide +kernel
theorem dX12_sortOf_40 : decode cX12_sortOf 40 = .ok (.lcmp, 1) := by decide +kernel
theorem dX12_sortOf_41 : decode cX12_sortOf 41 = .ok (.ifCond .ne 7, 3) := by decide +kernel
theorem dX12_sortOf_44 : decode cX12_sortOf 44 = .ok (.iconst 5, 1) := by decide +kernel
theorem dX12_sortOf_45 : decode cX12_sortOf 45 = .ok (.goto 16, 3) := by decide +kernel
theorem dX12_sortOf_48 : decode cX12_sortOf 48 = .ok (.lload_n 0, 1) := by decide +kernel
theorem dX12_sortOf_49 : decode cX12_sortOf 49 = .ok (.ldc2_w 135, 3) := by decide +kernel
theorem dX12_sortOf_52 : decode cX12_sortOf 52 = .ok (.lcmp, 1) := by decide +kernel
theorem dX12_sortOf_53 : decode cX12_sortOf 53 = .ok (.ifCond .ne 7, 3) := by decide +kernel
theorem dX12_sortOf_56 : decode cX12_sortOf 56 = .ok (.iconst 3, 1) := by decide +kernel
theorem dX12_sortOf_57 : decode cX12_sortOf 57 = .ok (.goto 4, 3) := by decide +kernel
theorem dX12_sortOf_60 : decode cX12_sortOf 60 = .ok (.iconst (-1), 1) := by decide +kernel
theorem dX12_sortOf_61 : decode cX12_sortOf 61 = .ok (.ireturn, 1) := by decide +kernel
theorem dX12_tower_0 : decode cX12_tower 0 = .ok (.iconst 0, 1) := by decide +kernel
theorem dX12_tower_1 : decode cX12_tower 1 = .ok (.istore_n 1, 1) := by decide +kernel
theorem dX12_tower_2 : decode cX12_tower 2 = .ok (.iload_n 1, 1) := by decide +kernel
theorem dX12_tower_3 : decode cX12_tower 3 = .ok (.bipush 50, 2) := by decide +kernel
theorem dX12_tower_5 : decode cX12_tower 5 = .ok (.if_icmp .ge 20, 3) := by decide +kernel
theorem dX12_tower_8 : decode cX12_tower 8 = .ok (.aload_n 0, 1) := by decide +kernel
theorem dX12_tower_9 : decode cX12_tower 9 = .ok (.getfield 7, 3) := by decide +kernel
theorem dX12_tower_12 : decode cX12_tower 12 = .ok (.sipush 150, 3) := by decide +kernel
theorem dX12_tower_15 : decode cX12_tower 15 = .ok (.iload_n 1, 1) := by decide +kernel
theorem dX12_tower_16 : decode cX12_tower 16 = .ok (.iadd, 1) := by decide +kernel
theorem dX12_tower_17 : decode cX12_tower 17 = .ok (.iconst 0, 1) := by decide +kernel
theorem dX12_tower_18 : decode cX12_tower 18 = .ok (.iastore, 1) := by decide +kernel
theorem dX12_tower_19 : decode cX12_tower 19 = .ok (.iinc 1 1, 3) := by decide +kernel
theorem dX12_tower_22 : decode cX12_tower 22 = .ok (.goto (-20), 3) := by decide +kernel
theorem dX12_tower_25 : decode cX12_tower 25 = .ok (.aload_n 0, 1) := by decide +kernel
theorem dX12_tower_26 : decode cX12_tower 26 = .ok (.iconst 0, 1) := by decide +kernel
theorem dX12_tower_27 : decode cX12_tower 27 = .ok (.putfield 75, 3) := by decide +kernel
theorem dX12_tower_30 : decode cX12_tower 30 = .ok (.aload_n 0, 1) := by decide +kernel
theorem dX12_tower_31 : decode cX12_tower 31 = .ok (.iconst 0, 1) := by decide +kernel
theorem dX12_tower_32 : decode cX12_tower 32 = .ok (.putfield 105, 3) := by decide +kernel
theorem dX12_tower_35 : decode cX12_tower 35 = .ok (.aload_n 0, 1) := by decide +kernel
theorem dX12_tower_36 : decode cX12_tower 36 = .ok (.invokevirtual 111, 3) := by decide +kernel
theorem dX12_tower_39 : decode cX12_tower 39 = .ok (.aload_n 0, 1) := by decide +kernel
theorem dX12_tower_40 : decode cX12_tower 40 = .ok (.invokevirtual 137, 3) := by decide +kernel
theorem dX12_tower_43 : decode cX12_tower 43 = .ok (.aload_n 0, 1) := by decide +kernel
theorem dX12_tower_44 : decode cX12_tower 44 = .ok (.getfield 105, 3) := by decide +kernel
theorem dX12_tower_47 : decode cX12_tower 47 = .ok (.ifCond .ne 28, 3) := by decide +kernel
theorem dX12_tower_50 : decode cX12_tower 50 = .ok (.aload_n 0, 1) := by decide +kernel
theorem dX12_tower_51 : decode cX12_tower 51 = .ok (.getfield 81, 3) := by decide +kernel
theorem dX12_tower_54 : decode cX12_tower 54 = .ok (.ifCond .ne 21, 3) := by decide +kernel
theorem dX12_tower_57 : decode cX12_tower 57 = .ok (.aload_n 0, 1) := by decide +kernel
theorem dX12_tower_58 : decode cX12_tower 58 = .ok (.getfield 84, 3) := by decide +kernel
theorem dX12_tower_61 : decode cX12_tower 61 = .ok (.ldc2_w 140, 3) := by decide +kernel
theorem dX12_tower_64 : decode cX12_tower 64 = .ok (.lcmp, 1) := by decide +kernel
theorem dX12_tower_65 : decode cX12_tower 65 = .ok (.ifCond .ne 10, 3) := by decide +kernel
theorem dX12_tower_68 : decode cX12_tower 68 = .ok (.aload_n 0, 1) := by decide +kernel
theorem dX12_tower_69 : decode cX12_tower 69 = .ok (.invokevirtual 142, 3) := by decide +kernel
theorem dX12_tower_72 : decode cX12_tower 72 = .ok (.goto (-29), 3) := by decide +kernel
theorem dX12_tower_75 : decode cX12_tower 75 = .ok (.aload_n 0, 1) := by decide +kernel
theorem dX12_tower_76 : decode cX12_tower 76 = .ok (.getfield 105, 3) := by decide +kernel
theorem dX12_tower_79 : decode cX12_tower 79 = .ok (.ifCond .ne 28, 3) := by decide +kernel
theorem dX12_tower_82 : decode cX12_tower 82 = .ok (.aload_n 0, 1) := by decide +kernel
theorem dX12_tower_83 : decode cX12_tower 83 = .ok (.getfield 81, 3) := by decide +kernel
theorem dX12_tower_86 : decode cX12_tower 86 = .ok (.ifCond .ne 21, 3) := by decide +kernel
theorem dX12_tower_89 : decode cX12_tower 89 = .ok (.aload_n 0, 1) := by decide +kernel
theorem dX12_tower_90 : decode cX12_tower 90 = .ok (.getfield 84, 3) := by decide +kernel
theorem dX12_tower_93 : decode cX12_tower 93 = .ok (.ldc2_w 145, 3) := by decide +kernel
theorem dX12_tower_96 : decode cX12_tower 96 = .ok (.lcmp, 1) := by decide +kernel
theorem dX12_tower_97 : decode cX12_tower 97 = .ok (.ifCond .ne 10, 3) := by decide +kernel
theorem dX12_tower_100 : decode cX12_tower 100 = .ok (.aload_n 0, 1) := by decide +kernel
theorem dX12_tower_101 : decode cX12_tower 101 = .ok (.invokevirtual 147, 3) := by decide +kernel
theorem dX12_tower_104 : decode cX12_tower 104 = .ok (.goto (-29), 3) := by decide +kernel
theorem dX12_tower_107 : decode cX12_tower 107 = .ok (.aload_n 0, 1) := by decide +kernel
theorem dX12_tower_108 : decode cX12_tower 108 = .ok (.aload_n 0, 1) := by decide +kernel
theorem dX12_tower_109 : decode cX12_tower 109 = .ok (.getfield 105, 3) := by decide +kernel
theorem dX12_tower_112 : decode cX12_tower 112 = .ok (.ifCond .ne 15, 3) := by decide +kernel
theorem dX12_tower_115 : decode cX12_tower 115 = .ok (.aload_n 0, 1) := by decide +kernel
theorem dX12_tower_116 : decode cX12_tower 116 = .ok (.getfield 81, 3) := by decide +kernel
theorem dX12_tower_119 : decode cX12_tower 119 = .ok (.iconst 4, 1) := by decide +kernel
theorem dX12_tower_120 : decode cX12_tower 120 = .ok (.if_icmp .eq 7, 3) := by decide +kernel
theorem dX12_tower_123 : decode cX12_tower 123 = .ok (.iconst 1, 1) := by decide +kernel
theorem dX12_tower_124 : decode cX12_tower 124 = .ok (.goto 7, 3) := by decide +kernel
theorem dX12_tower_127 : decode cX12_tower 127 = .ok (.aload_n 0, 1) := by decide +kernel
theorem dX12_tower_128 : decode cX12_tower 128 = .ok (.getfield 105, 3) := by decide +kernel
theorem dX12_tower_131 : decode cX12_tower 131 = .ok (.putfield 105, 3) := by decide +kernel
theorem dX12_tower_134 : decode cX12_tower 134 = .ok (.aload_n 0, 1) := by decide +kernel
theorem dX12_tower_135 : decode cX12_tower 135 = .ok (.iconst 0, 1) := by decide +kernel
theorem dX12_tower_136 : decode cX12_tower 136 = .ok (.putfield 69, 3) := by decide +kernel
theorem dX12_tower_139 : decode cX12_tower 139 = .ok (.aload_n 0, 1) := by decide +kernel
theorem dX12_tower_140 : decode cX12_tower 140 = .ok (.getfield 105, 3) := by decide +kernel
theorem dX12_tower_143 : decode cX12_tower 143 = .ok (.ifCond .eq 19, 3) := by decide +kernel
theorem dX12_tower_146 : decode cX12_tower 146 = .ok (.aload_n 0, 1) := by decide +kernel
theorem dX12_tower_147 : decode cX12_tower 147 = .ok (.aload_n 0, 1) := by decide +kernel
theorem dX12_tower_148 : decode cX12_tower 148 = .ok (.getfield 105, 3) := by decide +kernel
theorem dX12_tower_151 : decode cX12_tower 151 = .ok (.putfield 150, 3) := by decide +kernel
theorem dX12_tower_154 : decode cX12_tower 154 = .ok (.ldc 153, 2) := by decide +kernel
theorem dX12_tower_156 : decode cX12_tower 156 = .ok (.aload_n 0, 1) := by decide +kernel
theorem dX12_tower_157 : decode cX12_tower 157 = .ok (.getfield 78, 3) := by decide +kernel
theorem dX12_tower_160 : decode cX12_tower 160 = .ok (.isub, 1) := by decide +kernel
theorem dX12_tower_161 : decode cX12_tower 161 = .ok (.ireturn, 1) := by decide +kernel
theorem dX12_tower_162 : decode cX12_tower 162 = .ok (.aload_n 0, 1) := by decide +kernel
theorem dX12_tower_163 : decode cX12_tower 163 = .ok (.sipush 150, 3) := by decide +kernel
theorem dX12_tower_166 : decode cX12_tower 166 = .ok (.iconst 0, 1) := by decide +kernel
theorem dX12_tower_167 : decode cX12_tower 167 = .ok (.invokevirtual 154, 3) := by decide +kernel
theorem dX12_tower_170 : decode cX12_tower 170 = .ok (.aload_n 0, 1) := by decide +kernel
theorem dX12_tower_171 : decode cX12_tower 171 = .ok (.iconst 0, 1) := by decide +kernel
theorem dX12_tower_172 : decode cX12_tower 172 = .ok (.putfield 158, 3) := by decide +kernel
theorem dX12_tower_175 : decode cX12_tower 175 = .ok (.aload_n 0, 1) := by decide +kernel
theorem dX12_tower_176 : decode cX12_tower 176 = .ok (.getfield 7, 3) := by decide +kernel
theorem dX12_tower_179 : decode cX12_tower 179 = .ok (.iconst 2, 1) := by decide +kernel
theorem dX12_tower_180 : decode cX12_tower 180 = .ok (.iaload, 1) := by decide +kernel
theorem dX12_tower_181 : decode cX12_tower 181 = .ok (.ireturn, 1) := by decide +kernel
theorem dX12_fault_0 : decode cX12_fault 0 = .ok (.aload_n 0, 1) := by decide +kernel
theorem dX12_fault_1 : decode cX12_fault 1 = .ok (.getfield 150, 3) := by decide +kernel
theorem dX12_fault_4 : decode cX12_fault 4 = .ok (.ireturn, 1) := by decide +kernel
theorem dX12_isTower_0 : decode cX12_isTower 0 = .ok (.aload_n 0, 1) := by decide +kernel
theorem dX12_isTower_1 : decode cX12_isTower 1 = .ok (.getfield 7, 3) := by decide +kernel
theorem dX12_isTower_4 : decode cX12_isTower 4 = .ok (.iconst 0, 1) := by decide +kernel
theorem dX12_isTower_5 : decode cX12_isTower 5 = .ok (.iaload, 1) := by decide +kernel
theorem dX12_isTower_6 : decode cX12_isTower 6 = .ok (.ifCond .le 7, 3) := by decide +kernel
theorem dX12_isTower_9 : decode cX12_isTower 9 = .ok (.iconst 1, 1) := by decide +kernel
theorem dX12_isTower_10 : decode cX12_isTower 10 = .ok (.goto 4, 3) := by decide +kernel
theorem dX12_isTower_13 : decode cX12_isTower 13 = .ok (.iconst 0, 1) := by decide +kernel
theorem dX12_isTower_14 : decode cX12_isTower 14 = .ok (.ireturn, 1) := by decide +kernel
theorem dX12_isOne_0 : decode cX12_isOne 0 = .ok (.iload_n 1, 1) := by decide +kernel
theorem dX12_isOne_1 : decode cX12_isOne 1 = .ok (.i2l, 1) := by decide +kernel
theorem dX12_isOne_2 : decode cX12_isOne 2 = .ok (.lconst 0, 1) := by decide +kernel
theorem dX12_isOne_3 : decode cX12_isOne 3 = .ok (.aload_n 0, 1) := by decide +kernel
theorem dX12_isOne_4 : decode cX12_isOne 4 = .ok (.getfield 7, 3) := by decide +kernel
theorem dX12_isOne_7 : decode cX12_isOne 7 = .ok (.iconst 2, 1) := by decide +kernel
theorem dX12_isOne_8 : decode cX12_isOne 8 = .ok (.iaload, 1) := by decide +kernel
theorem dX12_isOne_9 : decode cX12_isOne 9 = .ok (.iconst 1, 1) := by decide +kernel
theorem dX12_isOne_10 : decode cX12_isOne 10 = .ok (.isub, 1) := by decide +kernel
theorem dX12_isOne_11 : decode cX12_isOne 11 = .ok (.i2l, 1) := by decide +kernel
theorem dX12_isOne_12 : decode cX12_isOne 12 = .ok (.invokestatic 40, 3) := by decide +kernel
theorem dX12_isOne_15 : decode cX12_isOne 15 = .ok (.ireturn, 1) := by decide +kernel
theorem dX12_burdenOf_0 : decode cX12_burdenOf 0 = .ok (.aload_n 0, 1) := by decide +kernel
theorem dX12_burdenOf_1 : decode cX12_burdenOf 1 = .ok (.getfield 7, 3) := by decide +kernel
theorem dX12_burdenOf_4 : decode cX12_burdenOf 4 = .ok (.bipush 10, 2) := by decide +kernel
theorem dX12_burdenOf_6 : decode cX12_burdenOf 6 = .ok (.iload_n 1, 1) := by decide +kernel
theorem dX12_burdenOf_7 : decode cX12_burdenOf 7 = .ok (.iadd, 1) := by decide +kernel
theorem dX12_burdenOf_8 : decode cX12_burdenOf 8 = .ok (.iaload, 1) := by decide +kernel
theorem dX12_burdenOf_9 : decode cX12_burdenOf 9 = .ok (.istore_n 2, 1) := by decide +kernel
theorem dX12_burdenOf_10 : decode cX12_burdenOf 10 = .ok (.aload_n 0, 1) := by decide +kernel
theorem dX12_burdenOf_11 : decode cX12_burdenOf 11 = .ok (.getfield 7, 3) := by decide +kernel
theorem dX12_burdenOf_14 : decode cX12_burdenOf 14 = .ok (.iconst 3, 1) := by decide +kernel
theorem dX12_burdenOf_15 : decode cX12_burdenOf 15 = .ok (.iload_n 1, 1) := by decide +kernel
theorem dX12_burdenOf_16 : decode cX12_burdenOf 16 = .ok (.iadd, 1) := by decide +kernel
theorem dX12_burdenOf_17 : decode cX12_burdenOf 17 = .ok (.iaload, 1) := by decide +kernel
theorem dX12_burdenOf_18 : decode cX12_burdenOf 18 = .ok (.tableswitch 42 2 5 #[30, 38, 42, 34], 30) := by decide +kernel
theorem dX12_burdenOf_48 : decode cX12_burdenOf 48 = .ok (.iconst 2, 1) := by decide +kernel
theorem dX12_burdenOf_49 : decode cX12_burdenOf 49 = .ok (.iload_n 2, 1) := by decide +kernel
theorem dX12_burdenOf_50 : decode cX12_burdenOf 50 = .ok (.imul, 1) := by decide +kernel
theorem dX12_burdenOf_51 : decode cX12_burdenOf 51 = .ok (.ireturn, 1) := by decide +kernel
theorem dX12_burdenOf_52 : decode cX12_burdenOf 52 = .ok (.iload_n 2, 1) := by decide +kernel
theorem dX12_burdenOf_53 : decode cX12_burdenOf 53 = .ok (.iconst 5, 1) := by decide +kernel
theorem dX12_burdenOf_54 : decode cX12_burdenOf 54 = .ok (.iadd, 1) := by decide +kernel
theorem dX12_burdenOf_55 : decode cX12_burdenOf 55 = .ok (.ireturn, 1) := by decide +kernel
theorem dX12_burdenOf_56 : decode cX12_burdenOf 56 = .ok (.iload_n 2, 1) := by decide +kernel
theorem dX12_burdenOf_57 : decode cX12_burdenOf 57 = .ok (.iconst 2, 1) := by decide +kernel
theorem dX12_burdenOf_58 : decode cX12_burdenOf 58 = .ok (.idiv, 1) := by decide +kernel
theorem dX12_burdenOf_59 : decode cX12_burdenOf 59 = .ok (.ireturn, 1) := by decide +kernel
theorem dX12_burdenOf_60 : decode cX12_burdenOf 60 = .ok (.iload_n 2, 1) := by decide +kernel
theorem dX12_burdenOf_61 : decode cX12_burdenOf 61 = .ok (.ireturn, 1) := by decide +kernel
theorem dX12_sideOf_0 : decode cX12_sideOf 0 = .ok (.iload_n 1, 1) := by decide +kernel
theorem dX12_sideOf_1 : decode cX12_sideOf 1 = .ok (.ifCond .lt 15, 3) := by decide +kernel
theorem dX12_sideOf_4 : decode cX12_sideOf 4 = .ok (.iload_n 1, 1) := by decide +kernel
theorem dX12_sideOf_5 : decode cX12_sideOf 5 = .ok (.aload_n 0, 1) := by decide +kernel
theorem dX12_sideOf_6 : decode cX12_sideOf 6 = .ok (.getfield 7, 3) := by decide +kernel
theorem dX12_sideOf_9 : decode cX12_sideOf 9 = .ok (.iconst 0, 1) := by decide +kernel
theorem dX12_sideOf_10 : decode cX12_sideOf 10 = .ok (.iaload, 1) := by decide +kernel
theorem dX12_sideOf_11 : decode cX12_sideOf 11 = .ok (.iconst 1, 1) := by decide +kernel
theorem dX12_sideOf_12 : decode cX12_sideOf 12 = .ok (.isub, 1) := by decide +kernel
theorem dX12_sideOf_13 : decode cX12_sideOf 13 = .ok (.if_icmp .ne 7, 3) := by decide +kernel
theorem dX12_sideOf_16 : decode cX12_sideOf 16 = .ok (.iconst (-1), 1) := by decide +kernel
theorem dX12_sideOf_17 : decode cX12_sideOf 17 = .ok (.goto 6, 3) := by decide +kernel
theorem dX12_sideOf_20 : decode cX12_sideOf 20 = .ok (.iload_n 1, 1) := by decide +kernel
theorem dX12_sideOf_21 : decode cX12_sideOf 21 = .ok (.iconst 4, 1) := by decide +kernel
theorem dX12_sideOf_22 : decode cX12_sideOf 22 = .ok (.irem, 1) := by decide +kernel
theorem dX12_sideOf_23 : decode cX12_sideOf 23 = .ok (.ireturn, 1) := by decide +kernel
theorem dX12_pull_0 : decode cX12_pull 0 = .ok (.iload_n 0, 1) := by decide +kernel
theorem dX12_pull_1 : decode cX12_pull 1 = .ok (.ifCond .lt 18, 3) := by decide +kernel
theorem dX12_pull_4 : decode cX12_pull 4 = .ok (.iload_n 0, 1) := by decide +kernel
theorem dX12_pull_5 : decode cX12_pull 5 = .ok (.iconst 2, 1) := by decide +kernel
theorem dX12_pull_6 : decode cX12_pull 6 = .ok (.irem, 1) := by decide +kernel
theorem dX12_pull_7 : decode cX12_pull 7 = .ok (.ifCond .ne 7, 3) := by decide +kernel
theorem dX12_pull_10 : decode cX12_pull 10 = .ok (.iconst 1, 1) := by decide +kernel
theorem dX12_pull_11 : decode cX12_pull 11 = .ok (.goto 4, 3) := by decide +kernel
theorem dX12_pull_14 : decode cX12_pull 14 = .ok (.iconst 0, 1) := by decide +kernel
theorem dX12_pull_15 : decode cX12_pull 15 = .ok (.iload_n 1, 1) := by decide +kernel
theorem dX12_pull_16 : decode cX12_pull 16 = .ok (.if_icmp .eq 7, 3) := by decide +kernel
theorem dX12_pull_19 : decode cX12_pull 19 = .ok (.iconst 0, 1) := by decide +kernel
theorem dX12_pull_20 : decode cX12_pull 20 = .ok (.goto 13, 3) := by decide +kernel
theorem dX12_pull_23 : decode cX12_pull 23 = .ok (.iload_n 0, 1) := by decide +kernel
theorem dX12_pull_24 : decode cX12_pull 24 = .ok (.iconst 2, 1) := by decide +kernel
theorem dX12_pull_25 : decode cX12_pull 25 = .ok (.if_icmp .ge 7, 3) := by decide +kernel
theorem dX12_pull_28 : decode cX12_pull 28 = .ok (.iconst 1, 1) := by decide +kernel
theorem dX12_pull_29 : decode cX12_pull 29 = .ok (.goto 4, 3) := by decide +kernel
theorem dX12_pull_32 : decode cX12_pull 32 = .ok (.iconst (-1), 1) := by decide +kernel
theorem dX12_pull_33 : decode cX12_pull 33 = .ok (.ireturn, 1) := by decide +kernel
theorem dX12_leanOf_0 : decode cX12_leanOf 0 = .ok (.aload_n 0, 1) := by decide +kernel
theorem dX12_leanOf_1 : decode cX12_leanOf 1 = .ok (.getfield 7, 3) := by decide +kernel
theorem dX12_leanOf_4 : decode cX12_leanOf 4 = .ok (.iload_n 1, 1) := by decide +kernel
theorem dX12_leanOf_5 : decode cX12_leanOf 5 = .ok (.iload_n 2, 1) := by decide +kernel
theorem dX12_leanOf_6 : decode cX12_leanOf 6 = .ok (.ifCond .eq 8, 3) := by decide +kernel
theorem dX12_leanOf_9 : decode cX12_leanOf 9 = .ok (.bipush 48, 2) := by decide +kernel
theorem dX12_leanOf_11 : decode cX12_leanOf 11 = .ok (.goto 5, 3) := by decide +kernel
theorem dX12_leanOf_14 : decode cX12_leanOf 14 = .ok (.bipush 49, 2) := by decide +kernel
theorem dX12_leanOf_16 : decode cX12_leanOf 16 = .ok (.iadd, 1) := by decide +kernel
theorem dX12_leanOf_17 : decode cX12_leanOf 17 = .ok (.iaload, 1) := by decide +kernel
theorem dX12_leanOf_18 : decode cX12_leanOf 18 = .ok (.istore_n 3, 1) := by decide +kernel
theorem dX12_leanOf_19 : decode cX12_leanOf 19 = .ok (.iconst 0, 1) := by decide +kernel
theorem dX12_leanOf_20 : decode cX12_leanOf 20 = .ok (.istore 4, 2) := by decide +kernel
theorem dX12_leanOf_22 : decode cX12_leanOf 22 = .ok (.iload 4, 2) := by decide +kernel
theorem dX12_leanOf_24 : decode cX12_leanOf 24 = .ok (.aload_n 0, 1) := by decide +kernel
theorem dX12_leanOf_25 : decode cX12_leanOf 25 = .ok (.getfield 7, 3) := by decide +kernel
theorem dX12_leanOf_28 : decode cX12_leanOf 28 = .ok (.iconst 2, 1) := by decide +kernel
theorem dX12_leanOf_29 : decode cX12_leanOf 29 = .ok (.iaload, 1) := by decide +kernel
theorem dX12_leanOf_30 : decode cX12_leanOf 30 = .ok (.if_icmp .ge 39, 3) := by decide +kernel
theorem dX12_leanOf_33 : decode cX12_leanOf 33 = .ok (.iload_n 3, 1) := by decide +kernel
theorem dX12_leanOf_34 : decode cX12_leanOf 34 = .ok (.aload_n 0, 1) := by decide +kernel
theorem dX12_leanOf_35 : decode cX12_leanOf 35 = .ok (.iload 4, 2) := by decide +kernel
theorem dX12_leanOf_37 : decode cX12_leanOf 37 = .ok (.invokevirtual 161, 3) := by decide +kernel
theorem dX12_leanOf_40 : decode cX12_leanOf 40 = .ok (.aload_n 0, 1) := by decide +kernel
theorem dX12_leanOf_41 : decode cX12_leanOf 41 = .ok (.aload_n 0, 1) := by decide +kernel
theorem dX12_leanOf_42 : decode cX12_leanOf 42 = .ok (.getfield 7, 3) := by decide +kernel
theorem dX12_leanOf_45 : decode cX12_leanOf 45 = .ok (.iload_n 1, 1) := by decide +kernel
theorem dX12_leanOf_46 : decode cX12_leanOf 46 = .ok (.bipush 24, 2) := by decide +kernel
theorem dX12_leanOf_48 : decode cX12_leanOf 48 = .ok (.iadd, 1) := by decide +kernel
theorem dX12_leanOf_49 : decode cX12_leanOf 49 = .ok (.iload 4, 2) := by decide +kernel
theorem dX12_leanOf_51 : decode cX12_leanOf 51 = .ok (.iadd, 1) := by decide +kernel
theorem dX12_leanOf_52 : decode cX12_leanOf 52 = .ok (.iaload, 1) := by decide +kernel
theorem dX12_leanOf_53 : decode cX12_leanOf 53 = .ok (.invokevirtual 164, 3) := by decide +kernel
theorem dX12_leanOf_56 : decode cX12_leanOf 56 = .ok (.iload_n 2, 1) := by decide +kernel
theorem dX12_leanOf_57 : decode cX12_leanOf 57 = .ok (.invokestatic 167, 3) := by decide +kernel
theorem dX12_leanOf_60 : decode cX12_leanOf 60 = .ok (.imul, 1) := by decide +kernel
theorem dX12_leanOf_61 : decode cX12_leanOf 61 = .ok (.iadd, 1) := by decide +kernel
theorem dX12_leanOf_62 : decode cX12_leanOf 62 = .ok (.istore_n 3, 1) := by decide +kernel
theorem dX12_leanOf_63 : decode cX12_leanOf 63 = .ok (.iinc 4 1, 3) := by decide +kernel
theorem dX12_leanOf_66 : decode cX12_leanOf 66 = .ok (.goto (-44), 3) := by decide +kernel
theorem dX12_leanOf_69 : decode cX12_leanOf 69 = .ok (.iconst 0, 1) := by decide +kernel
theorem dX12_leanOf_70 : decode cX12_leanOf 70 = .ok (.istore 4, 2) := by decide +kernel
theorem dX12_leanOf_72 : decode cX12_leanOf 72 = .ok (.iload 4, 2) := by decide +kernel
theorem dX12_leanOf_74 : decode cX12_leanOf 74 = .ok (.aload_n 0, 1) := by decide +kernel
theorem dX12_leanOf_75 : decode cX12_leanOf 75 = .ok (.getfield 7, 3) := by decide +kernel
theorem dX12_leanOf_78 : decode cX12_leanOf 78 = .ok (.bipush 38, 2) := by decide +kernel
theorem dX12_leanOf_80 : decode cX12_leanOf 80 = .ok (.iaload, 1) := by decide +kernel
theorem dX12_leanOf_81 : decode cX12_leanOf 81 = .ok (.if_icmp .ge 39, 3) := by decide +kernel
theorem dX12_leanOf_84 : decode cX12_leanOf 84 = .ok (.iload_n 3, 1) := by decide +kernel
theorem dX12_leanOf_85 : decode cX12_leanOf 85 = .ok (.aload_n 0, 1) := by decide +kernel
theorem dX12_leanOf_86 : decode cX12_leanOf 86 = .ok (.getfield 7, 3) := by decide +kernel
theorem dX12_leanOf_89 : decode cX12_leanOf 89 = .ok (.bipush 39, 2) := by decide +kernel
theorem dX12_leanOf_91 : decode cX12_leanOf 91 = .ok (.iload 4, 2) := by decide +kernel
theorem dX12_leanOf_93 : decode cX12_leanOf 93 = .ok (.iadd, 1) := by decide +kernel
theorem dX12_leanOf_94 : decode cX12_leanOf 94 = .ok (.iaload, 1) := by decide +kernel
theorem dX12_leanOf_95 : decode cX12_leanOf 95 = .ok (.aload_n 0, 1) := by decide +kernel
theorem dX12_leanOf_96 : decode cX12_leanOf 96 = .ok (.getfield 7, 3) := by decide +kernel
theorem dX12_leanOf_99 : decode cX12_leanOf 99 = .ok (.iload_n 1, 1) := by decide +kernel
theorem dX12_leanOf_100 : decode cX12_leanOf 100 = .ok (.bipush 43, 2) := by decide +kernel
theorem dX12_leanOf_102 : decode cX12_leanOf 102 = .ok (.iadd, 1) := by decide +kernel
theorem dX12_leanOf_103 : decode cX12_leanOf 103 = .ok (.iload 4, 2) := by decide +kernel
theorem dX12_leanOf_105 : decode cX12_leanOf 105 = .ok (.iadd, 1) := by decide +kernel
theorem dX12_leanOf_106 : decode cX12_leanOf 106 = .ok (.iaload, 1) := by decide +kernel
theorem dX12_leanOf_107 : decode cX12_leanOf 107 = .ok (.iload_n 2, 1) := by decide +kernel
theorem dX12_leanOf_108 : decode cX12_leanOf 108 = .ok (.invokestatic 167, 3) := by decide +kernel
theorem dX12_leanOf_111 : decode cX12_leanOf 111 = .ok (.imul, 1) := by decide +kernel
theorem dX12_leanOf_112 : decode cX12_leanOf 112 = .ok (.iadd, 1) := by decide +kernel
theorem dX12_leanOf_113 : decode cX12_leanOf 113 = .ok (.istore_n 3, 1) := by decide +kernel
theorem dX12_leanOf_114 : decode cX12_leanOf 114 = .ok (.iinc 4 1, 3) := by decide +kernel
theorem dX12_leanOf_117 : decode cX12_leanOf 117 = .ok (.goto (-45), 3) := by decide +kernel
theorem dX12_leanOf_120 : decode cX12_leanOf 120 = .ok (.iload_n 3, 1) := by decide +kernel
theorem dX12_leanOf_121 : decode cX12_leanOf 121 = .ok (.ireturn, 1) := by decide +kernel
theorem dX12_worstOf_0 : decode cX12_worstOf 0 = .ok (.aload_n 0, 1) := by decide +kernel
theorem dX12_worstOf_1 : decode cX12_worstOf 1 = .ok (.iload_n 1, 1) := by decide +kernel
theorem dX12_worstOf_2 : decode cX12_worstOf 2 = .ok (.iconst 1, 1) := by decide +kernel
theorem dX12_worstOf_3 : decode cX12_worstOf 3 = .ok (.invokevirtual 171, 3) := by decide +kernel
theorem dX12_worstOf_6 : decode cX12_worstOf 6 = .ok (.invokestatic 174, 3) := by decide +kernel
theorem dX12_worstOf_9 : decode cX12_worstOf 9 = .ok (.aload_n 0, 1) := by decide +kernel
theorem dX12_worstOf_10 : decode cX12_worstOf 10 = .ok (.iload_n 1, 1) := by decide +kernel
theorem dX12_worstOf_11 : decode cX12_worstOf 11 = .ok (.iconst 0, 1) := by decide +kernel
theorem dX12_worstOf_12 : decode cX12_worstOf 12 = .ok (.invokevirtual 171, 3) := by decide +kernel
theorem dX12_worstOf_15 : decode cX12_worstOf 15 = .ok (.invokestatic 174, 3) := by decide +kernel
theorem dX12_worstOf_18 : decode cX12_worstOf 18 = .ok (.invokestatic 177, 3) := by decide +kernel
theorem dX12_worstOf_21 : decode cX12_worstOf 21 = .ok (.ireturn, 1) := by decide +kernel
theorem dX12_half_0 : decode cX12_half 0 = .ok (.aload_n 0, 1) := by decide +kernel
theorem dX12_half_1 : decode cX12_half 1 = .ok (.getfield 7, 3) := by decide +kernel
theorem dX12_half_4 : decode cX12_half 4 = .ok (.iload_n 1, 1) := by decide +kernel
theorem dX12_half_5 : decode cX12_half 5 = .ok (.bipush 47, 2) := by decide +kernel
theorem dX12_half_7 : decode cX12_half 7 = .ok (.iadd, 1) := by decide +kernel
theorem dX12_half_8 : decode cX12_half 8 = .ok (.dup2, 1) := by decide +kernel
theorem dX12_half_9 : decode cX12_half 9 = .ok (.iaload, 1) := by decide +kernel
theorem dX12_half_10 : decode cX12_half 10 = .ok (.iconst 1, 1) := by decide +kernel
theorem dX12_half_11 : decode cX12_half 11 = .ok (.iadd, 1) := by decide +kernel
theorem dX12_half_12 : decode cX12_half 12 = .ok (.iastore, 1) := by decide +kernel
theorem dX12_half_13 : decode cX12_half 13 = .ok (.iconst 0, 1) := by decide +kernel
theorem dX12_half_14 : decode cX12_half 14 = .ok (.istore_n 2, 1) := by decide +kernel
theorem dX12_half_15 : decode cX12_half 15 = .ok (.iload_n 2, 1) := by decide +kernel
theorem dX12_half_16 : decode cX12_half 16 = .ok (.aload_n 0, 1) := by decide +kernel
theorem dX12_half_17 : decode cX12_half 17 = .ok (.getfield 7, 3) := by decide +kernel
theorem dX12_half_20 : decode cX12_half 20 = .ok (.iconst 2, 1) := by decide +kernel
theorem dX12_half_21 : decode cX12_half 21 = .ok (.iaload, 1) := by decide +kernel
theorem dX12_half_22 : decode cX12_half 22 = .ok (.if_icmp .ge 169, 3) := by decide +kernel
theorem dX12_half_25 : decode cX12_half 25 = .ok (.aload_n 0, 1) := by decide +kernel
theorem dX12_half_26 : decode cX12_half 26 = .ok (.getfield 7, 3) := by decide +kernel
theorem dX12_half_29 : decode cX12_half 29 = .ok (.iload_n 1, 1) := by decide +kernel
theorem dX12_half_30 : decode cX12_half 30 = .ok (.bipush 31, 2) := by decide +kernel
theorem dX12_half_32 : decode cX12_half 32 = .ok (.iadd, 1) := by decide +kernel
theorem dX12_half_33 : decode cX12_half 33 = .ok (.iload_n 2, 1) := by decide +kernel
theorem dX12_half_34 : decode cX12_half 34 = .ok (.iadd, 1) := by decide +kernel
theorem dX12_half_35 : decode cX12_half 35 = .ok (.iaload, 1) := by decide +kernel
theorem dX12_half_36 : decode cX12_half 36 = .ok (.istore_n 3, 1) := by decide +kernel
theorem dX12_half_37 : decode cX12_half 37 = .ok (.iload_n 3, 1) := by decide +kernel
theorem dX12_half_38 : decode cX12_half 38 = .ok (.ifCond .eq 147, 3) := by decide +kernel
theorem dX12_half_41 : decode cX12_half 41 = .ok (.aload_n 0, 1) := by decide +kernel
theorem dX12_half_42 : decode cX12_half 42 = .ok (.getfield 7, 3) := by decide +kernel
theorem dX12_half_45 : decode cX12_half 45 = .ok (.iload_n 1, 1) := by decide +kernel
theorem dX12_half_46 : decode cX12_half 46 = .ok (.bipush 47, 2) := by decide +kernel
theorem dX12_half_48 : decode cX12_half 48 = .ok (.iadd, 1) := by decide +kernel
theorem dX12_half_49 : decode cX12_half 49 = .ok (.iaload, 1) := by decide +kernel
theorem dX12_half_50 : decode cX12_half 50 = .ok (.aload_n 0, 1) := by decide +kernel
theorem dX12_half_51 : decode cX12_half 51 = .ok (.getfield 7, 3) := by decide +kernel
theorem dX12_half_54 : decode cX12_half 54 = .ok (.bipush 17, 2) := by decide +kernel
theorem dX12_half_56 : decode cX12_half 56 = .ok (.iload_n 2, 1) := by decide +kernel
theorem dX12_half_57 : decode cX12_half 57 = .ok (.iadd, 1) := by decide +kernel
theorem dX12_half_58 : decode cX12_half 58 = .ok (.iaload, 1) := by decide +kernel
theorem dX12_half_59 : decode cX12_half 59 = .ok (.irem, 1) := by decide +kernel
theorem dX12_half_60 : decode cX12_half 60 = .ok (.ifCond .eq 6, 3) := by decide +kernel
theorem dX12_half_63 : decode cX12_half 63 = .ok (.goto 122, 3) := by decide +kernel
theorem dX12_half_66 : decode cX12_half 66 = .ok (.aload_n 0, 1) := by decide +kernel
theorem dX12_half_67 : decode cX12_half 67 = .ok (.getfield 7, 3) := by decide +kernel
theorem dX12_half_70 : decode cX12_half 70 = .ok (.iload_n 1, 1) := by decide +kernel
theorem dX12_half_71 : decode cX12_half 71 = .ok (.bipush 24, 2) := by decide +kernel
theorem dX12_half_73 : decode cX12_half 73 = .ok (.iadd, 1) := by decide +kernel
theorem dX12_half_74 : decode cX12_half 74 = .ok (.iload_n 2, 1) := by decide +kernel
theorem dX12_half_75 : decode cX12_half 75 = .ok (.iadd, 1) := by decide +kernel
theorem dX12_half_76 : decode cX12_half 76 = .ok (.iaload, 1) := by decide +kernel
theorem dX12_half_77 : decode cX12_half 77 = .ok (.iload_n 3, 1) := by decide +kernel
theorem dX12_half_78 : decode cX12_half 78 = .ok (.aload_n 0, 1) := by decide +kernel
theorem dX12_half_79 : decode cX12_half 79 = .ok (.getfield 7, 3) := by decide +kernel
theorem dX12_half_82 : decode cX12_half 82 = .ok (.iconst 3, 1) := by decide +kernel
theorem dX12_half_83 : decode cX12_half 83 = .ok (.iload_n 2, 1) := by decide +kernel
theorem dX12_half_84 : decode cX12_half 84 = .ok (.iadd, 1) := by decide +kernel
theorem dX12_half_85 : decode cX12_half 85 = .ok (.iaload, 1) := by decide +kernel
theorem dX12_half_86 : decode cX12_half 86 = .ok (.iconst 4, 1) := by decide +kernel
theorem dX12_half_87 : decode cX12_half 87 = .ok (.if_icmp .ne 7, 3) := by decide +kernel
theorem dX12_half_90 : decode cX12_half 90 = .ok (.iconst 2, 1) := by decide +kernel
theorem dX12_half_91 : decode cX12_half 91 = .ok (.goto 4, 3) := by decide +kernel
theorem dX12_half_94 : decode cX12_half 94 = .ok (.iconst 1, 1) := by decide +kernel
theorem dX12_half_95 : decode cX12_half 95 = .ok (.imul, 1) := by decide +kernel
theorem dX12_half_96 : decode cX12_half 96 = .ok (.iadd, 1) := by decide +kernel
theorem dX12_half_97 : decode cX12_half 97 = .ok (.istore 4, 2) := by decide +kernel
theorem dX12_half_99 : decode cX12_half 99 = .ok (.iload 4, 2) := by decide +kernel
theorem dX12_half_101 : decode cX12_half 101 = .ok (.iconst (-1), 1) := by decide +kernel
theorem dX12_half_102 : decode cX12_half 102 = .ok (.if_icmp .ge 7, 3) := by decide +kernel
theorem dX12_half_105 : decode cX12_half 105 = .ok (.iconst (-1), 1) := by decide +kernel
theorem dX12_half_106 : decode cX12_half 106 = .ok (.goto 27, 3) := by decide +kernel
theorem dX12_half_109 : decode cX12_half 109 = .ok (.iload 4, 2) := by decide +kernel
theorem dX12_half_111 : decode cX12_half 111 = .ok (.aload_n 0, 1) := by decide +kernel
theorem dX12_half_112 : decode cX12_half 112 = .ok (.getfield 7, 3) := by decide +kernel
theorem dX12_half_115 : decode cX12_half 115 = .ok (.iconst 0, 1) := by decide +kernel
theorem dX12_half_116 : decode cX12_half 116 = .ok (.iaload, 1) := by decide +kernel
theorem dX12_half_117 : decode cX12_half 117 = .ok (.if_icmp .lt 14, 3) := by decide +kernel
theorem dX12_half_120 : decode cX12_half 120 = .ok (.aload_n 0, 1) := by decide +kernel
theorem dX12_half_121 : decode cX12_half 121 = .ok (.getfield 7, 3) := by decide +kernel
theorem dX12_half_124 : decode cX12_half 124 = .ok (.iconst 0, 1) := by decide +kernel
theorem dX12_half_125 : decode cX12_half 125 = .ok (.iaload, 1) := by decide +kernel
theorem dX12_half_126 : decode cX12_half 126 = .ok (.iconst 1, 1) := by decide +kernel
theorem dX12_half_127 : decode cX12_half 127 = .ok (.isub, 1) := by decide +kernel
theorem dX12_half_128 : decode cX12_half 128 = .ok (.goto 5, 3) := by decide +kernel
theorem dX12_half_131 : decode cX12_half 131 = .ok (.iload 4, 2) := by decide +kernel
theorem dX12_half_133 : decode cX12_half 133 = .ok (.istore 4, 2) := by decide +kernel
theorem dX12_half_135 : decode cX12_half 135 = .ok (.aload_n 0, 1) := by decide +kernel
theorem dX12_half_136 : decode cX12_half 136 = .ok (.getfield 7, 3) := by decide +kernel
theorem dX12_half_139 : decode cX12_half 139 = .ok (.iload_n 1, 1) := by decide +kernel
theorem dX12_half_140 : decode cX12_half 140 = .ok (.bipush 24, 2) := by decide +kernel
theorem dX12_half_142 : decode cX12_half 142 = .ok (.iadd, 1) := by decide +kernel
theorem dX12_half_143 : decode cX12_half 143 = .ok (.iload_n 2, 1) := by decide +kernel
theorem dX12_half_144 : decode cX12_half 144 = .ok (.iadd, 1) := by decide +kernel
theorem dX12_half_145 : decode cX12_half 145 = .ok (.iload 4, 2) := by decide +kernel
theorem dX12_half_147 : decode cX12_half 147 = .ok (.iastore, 1) := by decide +kernel
theorem dX12_half_148 : decode cX12_half 148 = .ok (.aload_n 0, 1) := by decide +kernel
theorem dX12_half_149 : decode cX12_half 149 = .ok (.getfield 7, 3) := by decide +kernel
theorem dX12_half_152 : decode cX12_half 152 = .ok (.iload_n 1, 1) := by decide +kernel
theorem dX12_half_153 : decode cX12_half 153 = .ok (.bipush 31, 2) := by decide +kernel
theorem dX12_half_155 : decode cX12_half 155 = .ok (.iadd, 1) := by decide +kernel
theorem dX12_half_156 : decode cX12_half 156 = .ok (.iload_n 2, 1) := by decide +kernel
theorem dX12_half_157 : decode cX12_half 157 = .ok (.iadd, 1) := by decide +kernel
theorem dX12_half_158 : decode cX12_half 158 = .ok (.iload 4, 2) := by decide +kernel
theorem dX12_half_160 : decode cX12_half 160 = .ok (.iload_n 3, 1) := by decide +kernel
theorem dX12_half_161 : decode cX12_half 161 = .ok (.ifCond .le 14, 3) := by decide +kernel
theorem dX12_half_164 : decode cX12_half 164 = .ok (.aload_n 0, 1) := by decide +kernel
theorem dX12_half_165 : decode cX12_half 165 = .ok (.getfield 7, 3) := by decide +kernel
theorem dX12_half_168 : decode cX12_half 168 = .ok (.iconst 0, 1) := by decide +kernel
theorem dX12_half_169 : decode cX12_half 169 = .ok (.iaload, 1) := by decide +kernel
theorem dX12_half_170 : decode cX12_half 170 = .ok (.iconst 1, 1) := by decide +kernel
theorem dX12_half_171 : decode cX12_half 171 = .ok (.isub, 1) := by decide +kernel
theorem dX12_half_172 : decode cX12_half 172 = .ok (.goto 4, 3) := by decide +kernel
theorem dX12_half_175 : decode cX12_half 175 = .ok (.iconst (-1), 1) := by decide +kernel
theorem dX12_half_176 : decode cX12_half 176 = .ok (.if_icmp .ne 7, 3) := by decide +kernel
theorem dX12_half_179 : decode cX12_half 179 = .ok (.iconst 0, 1) := by decide +kernel
theorem dX12_half_180 : decode cX12_half 180 = .ok (.goto 4, 3) := by decide +kernel
theorem dX12_half_183 : decode cX12_half 183 = .ok (.iload_n 3, 1) := by decide +kernel
theorem dX12_half_184 : decode cX12_half 184 = .ok (.iastore, 1) := by decide +kernel
theorem dX12_half_185 : decode cX12_half 185 = .ok (.iinc 2 1, 3) := by decide +kernel
theorem dX12_half_188 : decode cX12_half 188 = .ok (.goto (-173), 3) := by decide +kernel
theorem dX12_half_191 : decode cX12_half 191 = .ok (.return_, 1) := by decide +kernel
theorem dX12_minds_0 : decode cX12_minds 0 = .ok (.aload_n 0, 1) := by decide +kernel
theorem dX12_minds_1 : decode cX12_minds 1 = .ok (.getfield 158, 3) := by decide +kernel
theorem dX12_minds_4 : decode cX12_minds 4 = .ok (.bipush 24, 2) := by decide +kernel
theorem dX12_minds_6 : decode cX12_minds 6 = .ok (.if_icmp .ne 49, 3) := by decide +kernel
theorem dX12_minds_9 : decode cX12_minds 9 = .ok (.iconst 1, 1) := by decide +kernel
theorem dX12_minds_10 : decode cX12_minds 10 = .ok (.istore_n 1, 1) := by decide +kernel
theorem dX12_minds_11 : decode cX12_minds 11 = .ok (.iload_n 1, 1) := by decide +kernel
theorem dX12_minds_12 : decode cX12_minds 12 = .ok (.bipush 24, 2) := by decide +kernel
theorem dX12_minds_14 : decode cX12_minds 14 = .ok (.if_icmp .ge 31, 3) := by decide +kernel
theorem dX12_minds_17 : decode cX12_minds 17 = .ok (.aload_n 0, 1) := by decide +kernel
theorem dX12_minds_18 : decode cX12_minds 18 = .ok (.sipush 250, 3) := by decide +kernel
theorem dX12_minds_21 : decode cX12_minds 21 = .ok (.bipush 50, 2) := by decide +kernel
theorem dX12_minds_23 : decode cX12_minds 23 = .ok (.iload_n 1, 1) := by decide +kernel
theorem dX12_minds_24 : decode cX12_minds 24 = .ok (.imul, 1) := by decide +kernel
theorem dX12_minds_25 : decode cX12_minds 25 = .ok (.iadd, 1) := by decide +kernel
theorem dX12_minds_26 : decode cX12_minds 26 = .ok (.sipush 250, 3) := by decide +kernel
theorem dX12_minds_29 : decode cX12_minds 29 = .ok (.bipush 50, 2) := by decide +kernel
theorem dX12_minds_31 : decode cX12_minds 31 = .ok (.iload_n 1, 1) := by decide +kernel
theorem dX12_minds_32 : decode cX12_minds 32 = .ok (.iconst 1, 1) := by decide +kernel
theorem dX12_minds_33 : decode cX12_minds 33 = .ok (.isub, 1) := by decide +kernel
theorem dX12_minds_34 : decode cX12_minds 34 = .ok (.imul, 1) := by decide +kernel
theorem dX12_minds_35 : decode cX12_minds 35 = .ok (.iadd, 1) := by decide +kernel
theorem dX12_minds_36 : decode cX12_minds 36 = .ok (.invokevirtual 154, 3) := by decide +kernel
theorem dX12_minds_39 : decode cX12_minds 39 = .ok (.iinc 1 1, 3) := by decide +kernel
theorem dX12_minds_42 : decode cX12_minds 42 = .ok (.goto (-31), 3) := by decide +kernel
theorem dX12_minds_45 : decode cX12_minds 45 = .ok (.aload_n 0, 1) := by decide +kernel
theorem dX12_minds_46 : decode cX12_minds 46 = .ok (.dup, 1) := by decide +kernel
theorem dX12_minds_47 : decode cX12_minds 47 = .ok (.getfield 158, 3) := by decide +kernel
theorem dX12_minds_50 : decode cX12_minds 50 = .ok (.iconst 1, 1) := by decide +kernel
theorem dX12_minds_51 : decode cX12_minds 51 = .ok (.isub, 1) := by decide +kernel
theorem dX12_minds_52 : decode cX12_minds 52 = .ok (.putfield 158, 3) := by decide +kernel
theorem dX12_minds_55 : decode cX12_minds 55 = .ok (.aload_n 0, 1) := by decide +kernel
theorem dX12_minds_56 : decode cX12_minds 56 = .ok (.iconst 0, 1) := by decide +kernel
theorem dX12_minds_57 : decode cX12_minds 57 = .ok (.sipush 250, 3) := by decide +kernel
theorem dX12_minds_60 : decode cX12_minds 60 = .ok (.bipush 50, 2) := by decide +kernel
theorem dX12_minds_62 : decode cX12_minds 62 = .ok (.aload_n 0, 1) := by decide +kernel
theorem dX12_minds_63 : decode cX12_minds 63 = .ok (.getfield 158, 3) := by decide +kernel
theorem dX12_minds_66 : decode cX12_minds 66 = .ok (.imul, 1) := by decide +kernel
theorem dX12_minds_67 : decode cX12_minds 67 = .ok (.iadd, 1) := by decide +kernel
theorem dX12_minds_68 : decode cX12_minds 68 = .ok (.invokevirtual 154, 3) := by decide +kernel
theorem dX12_minds_71 : decode cX12_minds 71 = .ok (.aload_n 0, 1) := by decide +kernel
theorem dX12_minds_72 : decode cX12_minds 72 = .ok (.dup, 1) := by decide +kernel
theorem dX12_minds_73 : decode cX12_minds 73 = .ok (.getfield 158, 3) := by decide +kernel
theorem dX12_minds_76 : decode cX12_minds 76 = .ok (.iconst 1, 1) := by decide +kernel
theorem dX12_minds_77 : decode cX12_minds 77 = .ok (.iadd, 1) := by decide +kernel
theorem dX12_minds_78 : decode cX12_minds 78 = .ok (.putfield 158, 3) := by decide +kernel
theorem dX12_minds_81 : decode cX12_minds 81 = .ok (.return_, 1) := by decide +kernel
theorem dX12_go_0 : decode cX12_go 0 = .ok (.aload_n 0, 1) := by decide +kernel
theorem dX12_go_1 : decode cX12_go 1 = .ok (.iload_n 1, 1) := by decide +kernel
theorem dX12_go_2 : decode cX12_go 2 = .ok (.invokevirtual 180, 3) := by decide +kernel
theorem dX12_go_5 : decode cX12_go 5 = .ok (.ifCond .eq 15, 3) := by decide +kernel
theorem dX12_go_8 : decode cX12_go 8 = .ok (.iload_n 2, 1) := by decide +kernel
theorem dX12_go_9 : decode cX12_go 9 = .ok (.i2l, 1) := by decide +kernel
theorem dX12_go_10 : decode cX12_go 10 = .ok (.ldc2_w 99, 3) := by decide +kernel
theorem dX12_go_13 : decode cX12_go 13 = .ok (.lconst 1, 1) := by decide +kernel
theorem dX12_go_14 : decode cX12_go 14 = .ok (.invokestatic 40, 3) := by decide +kernel
theorem dX12_go_17 : decode cX12_go 17 = .ok (.ifCond .ne 6, 3) := by decide +kernel
theorem dX12_go_20 : decode cX12_go 20 = .ok (.ldc 55, 2) := by decide +kernel
theorem dX12_go_22 : decode cX12_go 22 = .ok (.ireturn, 1) := by decide +kernel
theorem dX12_go_23 : decode cX12_go 23 = .ok (.aload_n 0, 1) := by decide +kernel
theorem dX12_go_24 : decode cX12_go 24 = .ok (.getfield 7, 3) := by decide +kernel
theorem dX12_go_27 : decode cX12_go 27 = .ok (.bipush 31, 2) := by decide +kernel
theorem dX12_go_29 : decode cX12_go 29 = .ok (.iload_n 1, 1) := by decide +kernel
theorem dX12_go_30 : decode cX12_go 30 = .ok (.iadd, 1) := by decide +kernel
theorem dX12_go_31 : decode cX12_go 31 = .ok (.iaload, 1) := by decide +kernel
theorem dX12_go_32 : decode cX12_go 32 = .ok (.istore_n 3, 1) := by decide +kernel
theorem dX12_go_33 : decode cX12_go 33 = .ok (.aload_n 0, 1) := by decide +kernel
theorem dX12_go_34 : decode cX12_go 34 = .ok (.invokevirtual 183, 3) := by decide +kernel
theorem dX12_go_37 : decode cX12_go 37 = .ok (.aload_n 0, 1) := by decide +kernel
theorem dX12_go_38 : decode cX12_go 38 = .ok (.getfield 7, 3) := by decide +kernel
theorem dX12_go_41 : decode cX12_go 41 = .ok (.bipush 31, 2) := by decide +kernel
theorem dX12_go_43 : decode cX12_go 43 = .ok (.iload_n 1, 1) := by decide +kernel
theorem dX12_go_44 : decode cX12_go 44 = .ok (.iadd, 1) := by decide +kernel
theorem dX12_go_45 : decode cX12_go 45 = .ok (.iload_n 2, 1) := by decide +kernel
theorem dX12_go_46 : decode cX12_go 46 = .ok (.iastore, 1) := by decide +kernel
theorem dX12_go_47 : decode cX12_go 47 = .ok (.iload_n 3, 1) := by decide +kernel
theorem dX12_go_48 : decode cX12_go 48 = .ok (.ireturn, 1) := by decide +kernel
theorem dX12_hang_0 : decode cX12_hang 0 = .ok (.iload_n 1, 1) := by decide +kernel
theorem dX12_hang_1 : decode cX12_hang 1 = .ok (.i2l, 1) := by decide +kernel
theorem dX12_hang_2 : decode cX12_hang 2 = .ok (.lconst 0, 1) := by decide +kernel
theorem dX12_hang_3 : decode cX12_hang 3 = .ok (.aload_n 0, 1) := by decide +kernel
theorem dX12_hang_4 : decode cX12_hang 4 = .ok (.getfield 7, 3) := by decide +kernel
theorem dX12_hang_7 : decode cX12_hang 7 = .ok (.bipush 38, 2) := by decide +kernel
theorem dX12_hang_9 : decode cX12_hang 9 = .ok (.iaload, 1) := by decide +kernel
theorem dX12_hang_10 : decode cX12_hang 10 = .ok (.iconst 1, 1) := by decide +kernel
theorem dX12_hang_11 : decode cX12_hang 11 = .ok (.isub, 1) := by decide +kernel
theorem dX12_hang_12 : decode cX12_hang 12 = .ok (.i2l, 1) := by decide +kernel
theorem dX12_hang_13 : decode cX12_hang 13 = .ok (.invokestatic 40, 3) := by decide +kernel
theorem dX12_hang_16 : decode cX12_hang 16 = .ok (.ifCond .eq 15, 3) := by decide +kernel
theorem dX12_hang_19 : decode cX12_hang 19 = .ok (.iload_n 2, 1) := by decide +kernel
theorem dX12_hang_20 : decode cX12_hang 20 = .ok (.i2l, 1) := by decide +kernel
theorem dX12_hang_21 : decode cX12_hang 21 = .ok (.lconst 0, 1) := by decide +kernel
theorem dX12_hang_22 : decode cX12_hang 22 = .ok (.ldc2_w 186, 3) := by decide +kernel
theorem dX12_hang_25 : decode cX12_hang 25 = .ok (.invokestatic 40, 3) := by decide +kernel
theorem dX12_hang_28 : decode cX12_hang 28 = .ok (.ifCond .ne 6, 3) := by decide +kernel
theorem dX12_hang_31 : decode cX12_hang 31 = .ok (.ldc 55, 2) := by decide +kernel
theorem dX12_hang_33 : decode cX12_hang 33 = .ok (.ireturn, 1) := by decide +kernel
theorem dX12_hang_34 : decode cX12_hang 34 = .ok (.aload_n 0, 1) := by decide +kernel
theorem dX12_hang_35 : decode cX12_hang 35 = .ok (.getfield 7, 3) := by decide +kernel
theorem dX12_hang_38 : decode cX12_hang 38 = .ok (.bipush 43, 2) := by decide +kernel
theorem dX12_hang_40 : decode cX12_hang 40 = .ok (.iload_n 1, 1) := by decide +kernel
theorem dX12_hang_41 : decode cX12_hang 41 = .ok (.iadd, 1) := by decide +kernel
theorem dX12_hang_42 : decode cX12_hang 42 = .ok (.iaload, 1) := by decide +kernel
theorem dX12_hang_43 : decode cX12_hang 43 = .ok (.istore_n 3, 1) := by decide +kernel
theorem dX12_hang_44 : decode cX12_hang 44 = .ok (.aload_n 0, 1) := by decide +kernel
theorem dX12_hang_45 : decode cX12_hang 45 = .ok (.invokevirtual 183, 3) := by decide +kernel
theorem dX12_hang_48 : decode cX12_hang 48 = .ok (.aload_n 0, 1) := by decide +kernel
theorem dX12_hang_49 : decode cX12_hang 49 = .ok (.getfield 7, 3) := by decide +kernel
theorem dX12_hang_52 : decode cX12_hang 52 = .ok (.bipush 43, 2) := by decide +kernel
theorem dX12_hang_54 : decode cX12_hang 54 = .ok (.iload_n 1, 1) := by decide +kernel
theorem dX12_hang_55 : decode cX12_hang 55 = .ok (.iadd, 1) := by decide +kernel
theorem dX12_hang_56 : decode cX12_hang 56 = .ok (.iload_n 2, 1) := by decide +kernel
theorem dX12_hang_57 : decode cX12_hang 57 = .ok (.iastore, 1) := by decide +kernel
theorem dX12_hang_58 : decode cX12_hang 58 = .ok (.iload_n 3, 1) := by decide +kernel
theorem dX12_hang_59 : decode cX12_hang 59 = .ok (.ireturn, 1) := by decide +kernel
theorem dX12_halves_0 : decode cX12_halves 0 = .ok (.aload_n 0, 1) := by decide +kernel
theorem dX12_halves_1 : decode cX12_halves 1 = .ok (.invokevirtual 188, 3) := by decide +kernel
theorem dX12_halves_4 : decode cX12_halves 4 = .ok (.ifCond .ne 6, 3) := by decide +kernel
theorem dX12_halves_7 : decode cX12_halves 7 = .ok (.ldc 192, 2) := by decide +kernel
theorem dX12_halves_9 : decode cX12_halves 9 = .ok (.ireturn, 1) := by decide +kernel
theorem dX12_halves_10 : decode cX12_halves 10 = .ok (.iload_n 1, 1) := by decide +kernel
theorem dX12_halves_11 : decode cX12_halves 11 = .ok (.i2l, 1) := by decide +kernel
theorem dX12_halves_12 : decode cX12_halves 12 = .ok (.lconst 1, 1) := by decide +kernel
theorem dX12_halves_13 : decode cX12_halves 13 = .ok (.ldc2_w 193, 3) := by decide +kernel
theorem dX12_halves_16 : decode cX12_halves 16 = .ok (.invokestatic 40, 3) := by decide +kernel
theorem dX12_halves_19 : decode cX12_halves 19 = .ok (.ifCond .ne 6, 3) := by decide +kernel
theorem dX12_halves_22 : decode cX12_halves 22 = .ok (.ldc 55, 2) := by decide +kernel
theorem dX12_halves_24 : decode cX12_halves 24 = .ok (.ireturn, 1) := by decide +kernel
theorem dX12_halves_25 : decode cX12_halves 25 = .ok (.aload_n 0, 1) := by decide +kernel
theorem dX12_halves_26 : decode cX12_halves 26 = .ok (.getfield 7, 3) := by decide +kernel
theorem dX12_halves_29 : decode cX12_halves 29 = .ok (.bipush 47, 2) := by decide +kernel
theorem dX12_halves_31 : decode cX12_halves 31 = .ok (.iaload, 1) := by decide +kernel
theorem dX12_halves_32 : decode cX12_halves 32 = .ok (.iload_n 1, 1) := by decide +kernel
theorem dX12_halves_33 : decode cX12_halves 33 = .ok (.iadd, 1) := by decide +kernel
theorem dX12_halves_34 : decode cX12_halves 34 = .ok (.sipush 9999, 3) := by decide +kernel
theorem dX12_halves_37 : decode cX12_halves 37 = .ok (.if_icmp .le 6, 3) := by decide +kernel
theorem dX12_halves_40 : decode cX12_halves 40 = .ok (.ldc 72, 2) := by decide +kernel
theorem dX12_halves_42 : decode cX12_halves 42 = .ok (.ireturn, 1) := by decide +kernel
theorem dX12_halves_43 : decode cX12_halves 43 = .ok (.aload_n 0, 1) := by decide +kernel
theorem dX12_halves_44 : decode cX12_halves 44 = .ok (.invokevirtual 183, 3) := by decide +kernel
theorem dX12_halves_47 : decode cX12_halves 47 = .ok (.ldc 195, 2) := by decide +kernel
theorem dX12_halves_49 : decode cX12_halves 49 = .ok (.istore_n 2, 1) := by decide +kernel
theorem dX12_halves_50 : decode cX12_halves 50 = .ok (.iconst 1, 1) := by decide +kernel
theorem dX12_halves_51 : decode cX12_halves 51 = .ok (.istore_n 3, 1) := by decide +kernel
theorem dX12_halves_52 : decode cX12_halves 52 = .ok (.iload_n 3, 1) := by decide +kernel
theorem dX12_halves_53 : decode cX12_halves 53 = .ok (.iload_n 1, 1) := by decide +kernel
theorem dX12_halves_54 : decode cX12_halves 54 = .ok (.if_icmp .gt 40, 3) := by decide +kernel
theorem dX12_halves_57 : decode cX12_halves 57 = .ok (.aload_n 0, 1) := by decide +kernel
theorem dX12_halves_58 : decode cX12_halves 58 = .ok (.iconst 0, 1) := by decide +kernel
theorem dX12_halves_59 : decode cX12_halves 59 = .ok (.invokevirtual 196, 3) := by decide +kernel
theorem dX12_halves_62 : decode cX12_halves 62 = .ok (.iload_n 2, 1) := by decide +kernel
theorem dX12_halves_63 : decode cX12_halves 63 = .ok (.ldc 195, 2) := by decide +kernel
theorem dX12_halves_65 : decode cX12_halves 65 = .ok (.if_icmp .ne 21, 3) := by decide +kernel
theorem dX12_halves_68 : decode cX12_halves 68 = .ok (.aload_n 0, 1) := by decide +kernel
theorem dX12_halves_69 : decode cX12_halves 69 = .ok (.iconst 0, 1) := by decide +kernel
theorem dX12_halves_70 : decode cX12_halves 70 = .ok (.invokevirtual 200, 3) := by decide +kernel
theorem dX12_halves_73 : decode cX12_halves 73 = .ok (.aload_n 0, 1) := by decide +kernel
theorem dX12_halves_74 : decode cX12_halves 74 = .ok (.getfield 7, 3) := by decide +kernel
theorem dX12_halves_77 : decode cX12_halves 77 = .ok (.iconst 1, 1) := by decide +kernel
theorem dX12_halves_78 : decode cX12_halves 78 = .ok (.iaload, 1) := by decide +kernel
theorem dX12_halves_79 : decode cX12_halves 79 = .ok (.if_icmp .le 7, 3) := by decide +kernel
theorem dX12_halves_82 : decode cX12_halves 82 = .ok (.iload_n 3, 1) := by decide +kernel
theorem dX12_halves_83 : decode cX12_halves 83 = .ok (.goto 4, 3) := by decide +kernel
theorem dX12_halves_86 : decode cX12_halves 86 = .ok (.iload_n 2, 1) := by decide +kernel
theorem dX12_halves_87 : decode cX12_halves 87 = .ok (.istore_n 2, 1) := by decide +kernel
theorem dX12_halves_88 : decode cX12_halves 88 = .ok (.iinc 3 1, 3) := by decide +kernel
theorem dX12_halves_91 : decode cX12_halves 91 = .ok (.goto (-39), 3) := by decide +kernel
theorem dX12_halves_94 : decode cX12_halves 94 = .ok (.iload_n 2, 1) := by decide +kernel
theorem dX12_halves_95 : decode cX12_halves 95 = .ok (.ireturn, 1) := by decide +kernel
theorem dX12_creep_0 : decode cX12_creep 0 = .ok (.aload_n 0, 1) := by decide +kernel
theorem dX12_creep_1 : decode cX12_creep 1 = .ok (.iload_n 1, 1) := by decide +kernel
theorem dX12_creep_2 : decode cX12_creep 2 = .ok (.iconst 1, 1) := by decide +kernel
theorem dX12_creep_3 : decode cX12_creep 3 = .ok (.invokevirtual 171, 3) := by decide +kernel
theorem dX12_creep_6 : decode cX12_creep 6 = .ok (.bipush 10, 2) := by decide +kernel
theorem dX12_creep_8 : decode cX12_creep 8 = .ok (.idiv, 1) := by decide +kernel
theorem dX12_creep_9 : decode cX12_creep 9 = .ok (.istore_n 2, 1) := by decide +kernel
theorem dX12_creep_10 : decode cX12_creep 10 = .ok (.aload_n 0, 1) := by decide +kernel
theorem dX12_creep_11 : decode cX12_creep 11 = .ok (.iload_n 1, 1) := by decide +kernel
theorem dX12_creep_12 : decode cX12_creep 12 = .ok (.iconst 0, 1) := by decide +kernel
theorem dX12_creep_13 : decode cX12_creep 13 = .ok (.invokevirtual 171, 3) := by decide +kernel
theorem dX12_creep_16 : decode cX12_creep 16 = .ok (.bipush 10, 2) := by decide +kernel
theorem dX12_creep_18 : decode cX12_creep 18 = .ok (.idiv, 1) := by decide +kernel
theorem dX12_creep_19 : decode cX12_creep 19 = .ok (.istore_n 3, 1) := by decide +kernel
theorem dX12_creep_20 : decode cX12_creep 20 = .ok (.aload_n 0, 1) := by decide +kernel
theorem dX12_creep_21 : decode cX12_creep 21 = .ok (.getfield 7, 3) := by decide +kernel
theorem dX12_creep_24 : decode cX12_creep 24 = .ok (.iload_n 1, 1) := by decide +kernel
theorem dX12_creep_25 : decode cX12_creep 25 = .ok (.bipush 48, 2) := by decide +kernel
theorem dX12_creep_27 : decode cX12_creep 27 = .ok (.iadd, 1) := by decide +kernel
theorem dX12_creep_28 : decode cX12_creep 28 = .ok (.dup2, 1) := by decide +kernel
theorem dX12_creep_29 : decode cX12_creep 29 = .ok (.iaload, 1) := by decide +kernel
theorem dX12_creep_30 : decode cX12_creep 30 = .ok (.iload_n 2, 1) := by decide +kernel
theorem dX12_creep_31 : decode cX12_creep 31 = .ok (.iadd, 1) := by decide +kernel
theorem dX12_creep_32 : decode cX12_creep 32 = .ok (.iastore, 1) := by decide +kernel
theorem dX12_creep_33 : decode cX12_creep 33 = .ok (.aload_n 0, 1) := by decide +kernel
theorem dX12_creep_34 : decode cX12_creep 34 = .ok (.getfield 7, 3) := by decide +kernel
theorem dX12_creep_37 : decode cX12_creep 37 = .ok (.iload_n 1, 1) := by decide +kernel
theorem dX12_creep_38 : decode cX12_creep 38 = .ok (.bipush 49, 2) := by decide +kernel
theorem dX12_creep_40 : decode cX12_creep 40 = .ok (.iadd, 1) := by decide +kernel
theorem dX12_creep_41 : decode cX12_creep 41 = .ok (.dup2, 1) := by decide +kernel
theorem dX12_creep_42 : decode cX12_creep 42 = .ok (.iaload, 1) := by decide +kernel
theorem dX12_creep_43 : decode cX12_creep 43 = .ok (.iload_n 3, 1) := by decide +kernel
theorem dX12_creep_44 : decode cX12_creep 44 = .ok (.iadd, 1) := by decide +kernel
theorem dX12_creep_45 : decode cX12_creep 45 = .ok (.iastore, 1) := by decide +kernel
theorem dX12_creep_46 : decode cX12_creep 46 = .ok (.return_, 1) := by decide +kernel
theorem dX12_year_0 : decode cX12_year 0 = .ok (.aload_n 0, 1) := by decide +kernel
theorem dX12_year_1 : decode cX12_year 1 = .ok (.invokevirtual 188, 3) := by decide +kernel
theorem dX12_year_4 : decode cX12_year 4 = .ok (.ifCond .ne 6, 3) := by decide +kernel
theorem dX12_year_7 : decode cX12_year 7 = .ok (.ldc 192, 2) := by decide +kernel
theorem dX12_year_9 : decode cX12_year 9 = .ok (.ireturn, 1) := by decide +kernel
theorem dX12_year_10 : decode cX12_year 10 = .ok (.aload_n 0, 1) := by decide +kernel
theorem dX12_year_11 : decode cX12_year 11 = .ok (.getfield 7, 3) := by decide +kernel
theorem dX12_year_14 : decode cX12_year 14 = .ok (.bipush 48, 2) := by decide +kernel
theorem dX12_year_16 : decode cX12_year 16 = .ok (.iaload, 1) := by decide +kernel
theorem dX12_year_17 : decode cX12_year 17 = .ok (.invokestatic 174, 3) := by decide +kernel
theorem dX12_year_20 : decode cX12_year 20 = .ok (.sipush 9999, 3) := by decide +kernel
theorem dX12_year_23 : decode cX12_year 23 = .ok (.if_icmp .gt 19, 3) := by decide +kernel
theorem dX12_year_26 : decode cX12_year 26 = .ok (.aload_n 0, 1) := by decide +kernel
theorem dX12_year_27 : decode cX12_year 27 = .ok (.getfield 7, 3) := by decide +kernel
theorem dX12_year_30 : decode cX12_year 30 = .ok (.bipush 49, 2) := by decide +kernel
theorem dX12_year_32 : decode cX12_year 32 = .ok (.iaload, 1) := by decide +kernel
theorem dX12_year_33 : decode cX12_year 33 = .ok (.invokestatic 174, 3) := by decide +kernel
theorem dX12_year_36 : decode cX12_year 36 = .ok (.sipush 9999, 3) := by decide +kernel
theorem dX12_year_39 : decode cX12_year 39 = .ok (.if_icmp .le 6, 3) := by decide +kernel
theorem dX12_year_42 : decode cX12_year 42 = .ok (.ldc 72, 2) := by decide +kernel
theorem dX12_year_44 : decode cX12_year 44 = .ok (.ireturn, 1) := by decide +kernel
theorem dX12_year_45 : decode cX12_year 45 = .ok (.aload_n 0, 1) := by decide +kernel
theorem dX12_year_46 : decode cX12_year 46 = .ok (.invokevirtual 183, 3) := by decide +kernel
theorem dX12_year_49 : decode cX12_year 49 = .ok (.aload_n 0, 1) := by decide +kernel
theorem dX12_year_50 : decode cX12_year 50 = .ok (.iconst 0, 1) := by decide +kernel
theorem dX12_year_51 : decode cX12_year 51 = .ok (.invokevirtual 203, 3) := by decide +kernel
theorem dX12_year_54 : decode cX12_year 54 = .ok (.iconst 1, 1) := by decide +kernel
theorem dX12_year_55 : decode cX12_year 55 = .ok (.ireturn, 1) := by decide +kernel
theorem dX12_undo_0 : decode cX12_undo 0 = .ok (.aload_n 0, 1) := by decide +kernel
theorem dX12_undo_1 : decode cX12_undo 1 = .ok (.getfield 158, 3) := by decide +kernel
theorem dX12_undo_4 : decode cX12_undo 4 = .ok (.ifCond .ne 6, 3) := by decide +kernel
theorem dX12_undo_7 : decode cX12_undo 7 = .ok (.ldc 192, 2) := by decide +kernel
theorem dX12_undo_9 : decode cX12_undo 9 = .ok (.ireturn, 1) := by decide +kernel
theorem dX12_undo_10 : decode cX12_undo 10 = .ok (.aload_n 0, 1) := by decide +kernel
theorem dX12_undo_11 : decode cX12_undo 11 = .ok (.dup, 1) := by decide +kernel
theorem dX12_undo_12 : decode cX12_undo 12 = .ok (.getfield 158, 3) := by decide +kernel
theorem dX12_undo_15 : decode cX12_undo 15 = .ok (.iconst 1, 1) := by decide +kernel
theorem dX12_undo_16 : decode cX12_undo 16 = .ok (.isub, 1) := by decide +kernel
theorem dX12_undo_17 : decode cX12_undo 17 = .ok (.putfield 158, 3) := by decide +kernel
theorem dX12_undo_20 : decode cX12_undo 20 = .ok (.aload_n 0, 1) := by decide +kernel
theorem dX12_undo_21 : decode cX12_undo 21 = .ok (.sipush 250, 3) := by decide +kernel
theorem dX12_undo_24 : decode cX12_undo 24 = .ok (.bipush 50, 2) := by decide +kernel
theorem dX12_undo_26 : decode cX12_undo 26 = .ok (.aload_n 0, 1) := by decide +kernel
theorem dX12_undo_27 : decode cX12_undo 27 = .ok (.getfield 158, 3) := by decide +kernel
theorem dX12_undo_30 : decode cX12_undo 30 = .ok (.imul, 1) := by decide +kernel
theorem dX12_undo_31 : decode cX12_undo 31 = .ok (.iadd, 1) := by decide +kernel
theorem dX12_undo_32 : decode cX12_undo 32 = .ok (.iconst 0, 1) := by decide +kernel
theorem dX12_undo_33 : decode cX12_undo 33 = .ok (.invokevirtual 154, 3) := by decide +kernel
theorem dX12_undo_36 : decode cX12_undo 36 = .ok (.aload_n 0, 1) := by decide +kernel
theorem dX12_undo_37 : decode cX12_undo 37 = .ok (.getfield 158, 3) := by decide +kernel
theorem dX12_undo_40 : decode cX12_undo 40 = .ok (.ireturn, 1) := by decide +kernel
theorem dX12_person_0 : decode cX12_person 0 = .ok (.aload_n 0, 1) := by decide +kernel
theorem dX12_person_1 : decode cX12_person 1 = .ok (.iload_n 1, 1) := by decide +kernel
theorem dX12_person_2 : decode cX12_person 2 = .ok (.invokevirtual 180, 3) := by decide +kernel
theorem dX12_person_5 : decode cX12_person 5 = .ok (.ifCond .eq 15, 3) := by decide +kernel
theorem dX12_person_8 : decode cX12_person 8 = .ok (.iload_n 2, 1) := by decide +kernel
theorem dX12_person_9 : decode cX12_person 9 = .ok (.i2l, 1) := by decide +kernel
theorem dX12_person_10 : decode cX12_person 10 = .ok (.lconst 0, 1) := by decide +kernel
theorem dX12_person_11 : decode cX12_person 11 = .ok (.ldc2_w 206, 3) := by decide +kernel
theorem dX12_person_14 : decode cX12_person 14 = .ok (.invokestatic 40, 3) := by decide +kernel
theorem dX12_person_17 : decode cX12_person 17 = .ok (.ifCond .ne 6, 3) := by decide +kernel
theorem dX12_person_20 : decode cX12_person 20 = .ok (.ldc 55, 2) := by decide +kernel
theorem dX12_person_22 : decode cX12_person 22 = .ok (.ireturn, 1) := by decide +kernel
theorem dX12_person_23 : decode cX12_person 23 = .ok (.aload_n 0, 1) := by decide +kernel
theorem dX12_person_24 : decode cX12_person 24 = .ok (.aload_n 0, 1) := by decide +kernel
theorem dX12_person_25 : decode cX12_person 25 = .ok (.getfield 7, 3) := by decide +kernel
theorem dX12_person_28 : decode cX12_person 28 = .ok (.bipush 24, 2) := by decide +kernel
theorem dX12_person_30 : decode cX12_person 30 = .ok (.iload_n 1, 1) := by decide +kernel
theorem dX12_person_31 : decode cX12_person 31 = .ok (.iadd, 1) := by decide +kernel
theorem dX12_person_32 : decode cX12_person 32 = .ok (.iaload, 1) := by decide +kernel
theorem dX12_person_33 : decode cX12_person 33 = .ok (.invokevirtual 164, 3) := by decide +kernel
theorem dX12_person_36 : decode cX12_person 36 = .ok (.istore_n 3, 1) := by decide +kernel
theorem dX12_person_37 : decode cX12_person 37 = .ok (.iload_n 2, 1) := by decide +kernel
theorem dX12_person_38 : decode cX12_person 38 = .ok (.ifCond .ne 15, 3) := by decide +kernel
theorem dX12_person_41 : decode cX12_person 41 = .ok (.aload_n 0, 1) := by decide +kernel
theorem dX12_person_42 : decode cX12_person 42 = .ok (.getfield 7, 3) := by decide +kernel
theorem dX12_person_45 : decode cX12_person 45 = .ok (.bipush 24, 2) := by decide +kernel
theorem dX12_person_47 : decode cX12_person 47 = .ok (.iload_n 1, 1) := by decide +kernel
theorem dX12_person_48 : decode cX12_person 48 = .ok (.iadd, 1) := by decide +kernel
theorem dX12_person_49 : decode cX12_person 49 = .ok (.iaload, 1) := by decide +kernel
theorem dX12_person_50 : decode cX12_person 50 = .ok (.goto 60, 3) := by decide +kernel
theorem dX12_person_53 : decode cX12_person 53 = .ok (.iload_n 2, 1) := by decide +kernel
theorem dX12_person_54 : decode cX12_person 54 = .ok (.iconst 1, 1) := by decide +kernel
theorem dX12_person_55 : decode cX12_person 55 = .ok (.if_icmp .ne 15, 3) := by decide +kernel
theorem dX12_person_58 : decode cX12_person 58 = .ok (.aload_n 0, 1) := by decide +kernel
theorem dX12_person_59 : decode cX12_person 59 = .ok (.getfield 7, 3) := by decide +kernel
theorem dX12_person_62 : decode cX12_person 62 = .ok (.bipush 31, 2) := by decide +kernel
theorem dX12_person_64 : decode cX12_person 64 = .ok (.iload_n 1, 1) := by decide +kernel
theorem dX12_person_65 : decode cX12_person 65 = .ok (.iadd, 1) := by decide +kernel
theorem dX12_person_66 : decode cX12_person 66 = .ok (.iaload, 1) := by decide +kernel
theorem dX12_person_67 : decode cX12_person 67 = .ok (.goto 43, 3) := by decide +kernel
theorem dX12_person_70 : decode cX12_person 70 = .ok (.iload_n 2, 1) := by decide +kernel
theorem dX12_person_71 : decode cX12_person 71 = .ok (.iconst 2, 1) := by decide +kernel
theorem dX12_person_72 : decode cX12_person 72 = .ok (.if_icmp .ne 11, 3) := by decide +kernel
theorem dX12_person_75 : decode cX12_person 75 = .ok (.aload_n 0, 1) := by decide +kernel
theorem dX12_person_76 : decode cX12_person 76 = .ok (.iload_n 1, 1) := by decide +kernel
theorem dX12_person_77 : decode cX12_person 77 = .ok (.invokevirtual 161, 3) := by decide +kernel
theorem dX12_person_80 : decode cX12_person 80 = .ok (.goto 30, 3) := by decide +kernel
theorem dX12_person_83 : decode cX12_person 83 = .ok (.iload_n 2, 1) := by decide +kernel
theorem dX12_person_84 : decode cX12_person 84 = .ok (.iconst 3, 1) := by decide +kernel
theorem dX12_person_85 : decode cX12_person 85 = .ok (.if_icmp .ne 15, 3) := by decide +kernel
theorem dX12_person_88 : decode cX12_person 88 = .ok (.aload_n 0, 1) := by decide +kernel
theorem dX12_person_89 : decode cX12_person 89 = .ok (.getfield 7, 3) := by decide +kernel
theorem dX12_person_92 : decode cX12_person 92 = .ok (.bipush 17, 2) := by decide +kernel
theorem dX12_person_94 : decode cX12_person 94 = .ok (.iload_n 1, 1) := by decide +kernel
theorem dX12_person_95 : decode cX12_person 95 = .ok (.iadd, 1) := by decide +kernel
theorem dX12_person_96 : decode cX12_person 96 = .ok (.iaload, 1) := by decide +kernel
theorem dX12_person_97 : decode cX12_person 97 = .ok (.goto 13, 3) := by decide +kernel
theorem dX12_person_100 : decode cX12_person 100 = .ok (.iload_n 3, 1) := by decide +kernel
theorem dX12_person_101 : decode cX12_person 101 = .ok (.ifCond .ge 8, 3) := by decide +kernel
theorem dX12_person_104 : decode cX12_person 104 = .ok (.ldc 195, 2) := by decide +kernel
theorem dX12_person_106 : decode cX12_person 106 = .ok (.goto 4, 3) := by decide +kernel
theorem dX12_person_109 : decode cX12_person 109 = .ok (.iload_n 3, 1) := by decide +kernel
theorem dX12_person_110 : decode cX12_person 110 = .ok (.ireturn, 1) := by decide +kernel
theorem dX12_lean_0 : decode cX12_lean 0 = .ok (.aload_n 0, 1) := by decide +kernel
theorem dX12_lean_1 : decode cX12_lean 1 = .ok (.invokevirtual 188, 3) := by decide +kernel
theorem dX12_lean_4 : decode cX12_lean 4 = .ok (.ifCond .ne 6, 3) := by decide +kernel
theorem dX12_lean_7 : decode cX12_lean 7 = .ok (.ldc 192, 2) := by decide +kernel
theorem dX12_lean_9 : decode cX12_lean 9 = .ok (.ireturn, 1) := by decide +kernel
theorem dX12_lean_10 : decode cX12_lean 10 = .ok (.iload_n 1, 1) := by decide +kernel
theorem dX12_lean_11 : decode cX12_lean 11 = .ok (.tableswitch 83 0 4 #[33, 40, 47, 67, 75], 33) := by decide +kernel
theorem dX12_lean_44 : decode cX12_lean 44 = .ok (.aload_n 0, 1) := by decide +kernel
theorem dX12_lean_45 : decode cX12_lean 45 = .ok (.iconst 0, 1) := by decide +kernel
theorem dX12_lean_46 : decode cX12_lean 46 = .ok (.iconst 1, 1) := by decide +kernel
theorem dX12_lean_47 : decode cX12_lean 47 = .ok (.invokevirtual 171, 3) := by decide +kernel
theorem dX12_lean_50 : decode cX12_lean 50 = .ok (.ireturn, 1) := by decide +kernel
theorem dX12_lean_51 : decode cX12_lean 51 = .ok (.aload_n 0, 1) := by decide +kernel
theorem dX12_lean_52 : decode cX12_lean 52 = .ok (.iconst 0, 1) := by decide +kernel
theorem dX12_lean_53 : decode cX12_lean 53 = .ok (.iconst 0, 1) := by decide +kernel
theorem dX12_lean_54 : decode cX12_lean 54 = .ok (.invokevirtual 171, 3) := by decide +kernel
theorem dX12_lean_57 : decode cX12_lean 57 = .ok (.ireturn, 1) := by decide +kernel
theorem dX12_lean_58 : decode cX12_lean 58 = .ok (.aload_n 0, 1) := by decide +kernel
theorem dX12_lean_59 : decode cX12_lean 59 = .ok (.iconst 0, 1) := by decide +kernel
theorem dX12_lean_60 : decode cX12_lean 60 = .ok (.invokevirtual 200, 3) := by decide +kernel
theorem dX12_lean_63 : decode cX12_lean 63 = .ok (.aload_n 0, 1) := by decide +kernel
theorem dX12_lean_64 : decode cX12_lean 64 = .ok (.getfield 7, 3) := by decide +kernel
theorem dX12_lean_67 : decode cX12_lean 67 = .ok (.iconst 1, 1) := by decide +kernel
theorem dX12_lean_68 : decode cX12_lean 68 = .ok (.iaload, 1) := by decide +kernel
theorem dX12_lean_69 : decode cX12_lean 69 = .ok (.if_icmp .le 7, 3) := by decide +kernel
theorem dX12_lean_72 : decode cX12_lean 72 = .ok (.iconst 1, 1) := by decide +kernel
theorem dX12_lean_73 : decode cX12_lean 73 = .ok (.goto 4, 3) := by decide +kernel
theorem dX12_lean_76 : decode cX12_lean 76 = .ok (.iconst 0, 1) := by decide +kernel
theorem dX12_lean_77 : decode cX12_lean 77 = .ok (.ireturn, 1) := by decide +kernel
theorem dX12_lean_78 : decode cX12_lean 78 = .ok (.aload_n 0, 1) := by decide +kernel
theorem dX12_lean_79 : decode cX12_lean 79 = .ok (.getfield 7, 3) := by decide +kernel
theorem dX12_lean_82 : decode cX12_lean 82 = .ok (.bipush 48, 2) := by decide +kernel
theorem dX12_lean_84 : decode cX12_lean 84 = .ok (.iaload, 1) := by decide +kernel
theorem dX12_lean_85 : decode cX12_lean 85 = .ok (.ireturn, 1) := by decide +kernel
theorem dX12_lean_86 : decode cX12_lean 86 = .ok (.aload_n 0, 1) := by decide +kernel
theorem dX12_lean_87 : decode cX12_lean 87 = .ok (.getfield 7, 3) := by decide +kernel
theorem dX12_lean_90 : decode cX12_lean 90 = .ok (.bipush 49, 2) := by decide +kernel
theorem dX12_lean_92 : decode cX12_lean 92 = .ok (.iaload, 1) := by decide +kernel
theorem dX12_lean_93 : decode cX12_lean 93 = .ok (.ireturn, 1) := by decide +kernel
theorem dX12_lean_94 : decode cX12_lean 94 = .ok (.ldc 55, 2) := by decide +kernel
theorem dX12_lean_96 : decode cX12_lean 96 = .ok (.ireturn, 1) := by decide +kernel
theorem dX12_foretell_0 : decode cX12_foretell 0 = .ok (.iconst 0, 1) := by decide +kernel
theorem dX12_foretell_1 : decode cX12_foretell 1 = .ok (.istore_n 3, 1) := by decide +kernel
theorem dX12_foretell_2 : decode cX12_foretell 2 = .ok (.aload_n 0, 1) := by decide +kernel
theorem dX12_foretell_3 : decode cX12_foretell 3 = .ok (.ldc 195, 2) := by decide +kernel
theorem dX12_foretell_5 : decode cX12_foretell 5 = .ok (.putfield 208, 3) := by decide +kernel
theorem dX12_foretell_8 : decode cX12_foretell 8 = .ok (.iconst 0, 1) := by decide +kernel
theorem dX12_foretell_9 : decode cX12_foretell 9 = .ok (.istore 4, 2) := by decide +kernel
theorem dX12_foretell_11 : decode cX12_foretell 11 = .ok (.iload 4, 2) := by decide +kernel
theorem dX12_foretell_13 : decode cX12_foretell 13 = .ok (.bipush 64, 2) := by decide +kernel
theorem dX12_foretell_15 : decode cX12_foretell 15 = .ok (.if_icmp .gt 91, 3) := by decide +kernel
theorem dX12_foretell_18 : decode cX12_foretell 18 = .ok (.iload 4, 2) := by decide +kernel
theorem dX12_foretell_20 : decode cX12_foretell 20 = .ok (.ifCond .le 10, 3) := by decide +kernel
theorem dX12_foretell_23 : decode cX12_foretell 23 = .ok (.aload_n 0, 1) := by decide +kernel
theorem dX12_foretell_24 : decode cX12_foretell 24 = .ok (.sipush 200, 3) := by decide +kernel
theorem dX12_foretell_27 : decode cX12_foretell 27 = .ok (.invokevirtual 196, 3) := by decide +kernel
theorem dX12_foretell_30 : decode cX12_foretell 30 = .ok (.aload_n 0, 1) := by decide +kernel
theorem dX12_foretell_31 : decode cX12_foretell 31 = .ok (.sipush 200, 3) := by decide +kernel
theorem dX12_foretell_34 : decode cX12_foretell 34 = .ok (.invokevirtual 200, 3) := by decide +kernel
theorem dX12_foretell_37 : decode cX12_foretell 37 = .ok (.istore 5, 2) := by decide +kernel
theorem dX12_foretell_39 : decode cX12_foretell 39 = .ok (.aload_n 0, 1) := by decide +kernel
theorem dX12_foretell_40 : decode cX12_foretell 40 = .ok (.aload_n 0, 1) := by decide +kernel
theorem dX12_foretell_41 : decode cX12_foretell 41 = .ok (.getfield 208, 3) := by decide +kernel
theorem dX12_foretell_44 : decode cX12_foretell 44 = .ok (.ldc 195, 2) := by decide +kernel
theorem dX12_foretell_46 : decode cX12_foretell 46 = .ok (.if_icmp .ne 19, 3) := by decide +kernel
theorem dX12_foretell_49 : decode cX12_foretell 49 = .ok (.iload 5, 2) := by decide +kernel
theorem dX12_foretell_51 : decode cX12_foretell 51 = .ok (.aload_n 0, 1) := by decide +kernel
theorem dX12_foretell_52 : decode cX12_foretell 52 = .ok (.getfield 7, 3) := by decide +kernel
theorem dX12_foretell_55 : decode cX12_foretell 55 = .ok (.iconst 1, 1) := by decide +kernel
theorem dX12_foretell_56 : decode cX12_foretell 56 = .ok (.iaload, 1) := by decide +kernel
theorem dX12_foretell_57 : decode cX12_foretell 57 = .ok (.if_icmp .le 8, 3) := by decide +kernel
theorem dX12_foretell_60 : decode cX12_foretell 60 = .ok (.iload 4, 2) := by decide +kernel
theorem dX12_foretell_62 : decode cX12_foretell 62 = .ok (.goto 7, 3) := by decide +kernel
theorem dX12_foretell_65 : decode cX12_foretell 65 = .ok (.aload_n 0, 1) := by decide +kernel
theorem dX12_foretell_66 : decode cX12_foretell 66 = .ok (.getfield 208, 3) := by decide +kernel
theorem dX12_foretell_69 : decode cX12_foretell 69 = .ok (.putfield 208, 3) := by decide +kernel
theorem dX12_foretell_72 : decode cX12_foretell 72 = .ok (.iload_n 3, 1) := by decide +kernel
theorem dX12_foretell_73 : decode cX12_foretell 73 = .ok (.iload 5, 2) := by decide +kernel
theorem dX12_foretell_75 : decode cX12_foretell 75 = .ok (.invokestatic 177, 3) := by decide +kernel
theorem dX12_foretell_78 : decode cX12_foretell 78 = .ok (.istore_n 3, 1) := by decide +kernel
theorem dX12_foretell_79 : decode cX12_foretell 79 = .ok (.iload 4, 2) := by decide +kernel
theorem dX12_foretell_81 : decode cX12_foretell 81 = .ok (.iload_n 2, 1) := by decide +kernel
theorem dX12_foretell_82 : decode cX12_foretell 82 = .ok (.if_icmp .ne 18, 3) := by decide +kernel
theorem dX12_foretell_85 : decode cX12_foretell 85 = .ok (.iload_n 1, 1) := by decide +kernel
theorem dX12_foretell_86 : decode cX12_foretell 86 = .ok (.ifCond .lt 14, 3) := by decide +kernel
theorem dX12_foretell_89 : decode cX12_foretell 89 = .ok (.aload_n 0, 1) := by decide +kernel
theorem dX12_foretell_90 : decode cX12_foretell 90 = .ok (.getfield 7, 3) := by decide +kernel
theorem dX12_foretell_93 : decode cX12_foretell 93 = .ok (.sipush 231, 3) := by decide +kernel
theorem dX12_foretell_96 : decode cX12_foretell 96 = .ok (.iload_n 1, 1) := by decide +kernel
theorem dX12_foretell_97 : decode cX12_foretell 97 = .ok (.iadd, 1) := by decide +kernel
theorem dX12_foretell_98 : decode cX12_foretell 98 = .ok (.iconst 1, 1) := by decide +kernel
theorem dX12_foretell_99 : decode cX12_foretell 99 = .ok (.iastore, 1) := by decide +kernel
theorem dX12_foretell_100 : decode cX12_foretell 100 = .ok (.iinc 4 1, 3) := by decide +kernel
theorem dX12_foretell_103 : decode cX12_foretell 103 = .ok (.goto (-92), 3) := by decide +kernel
theorem dX12_foretell_106 : decode cX12_foretell 106 = .ok (.iload_n 3, 1) := by decide +kernel
theorem dX12_foretell_107 : decode cX12_foretell 107 = .ok (.ireturn, 1) := by decide +kernel
theorem dX12_foretellNow_0 : decode cX12_foretellNow 0 = .ok (.aload_n 0, 1) := by decide +kernel
theorem dX12_foretellNow_1 : decode cX12_foretellNow 1 = .ok (.iconst 0, 1) := by decide +kernel
theorem dX12_foretellNow_2 : decode cX12_foretellNow 2 = .ok (.sipush 200, 3) := by decide +kernel
theorem dX12_foretellNow_5 : decode cX12_foretellNow 5 = .ok (.invokevirtual 154, 3) := by decide +kernel
theorem dX12_foretellNow_8 : decode cX12_foretellNow 8 = .ok (.aload_n 0, 1) := by decide +kernel
theorem dX12_foretellNow_9 : decode cX12_foretellNow 9 = .ok (.iconst (-1), 1) := by decide +kernel
theorem dX12_foretellNow_10 : decode cX12_foretellNow 10 = .ok (.iconst 0, 1) := by decide +kernel
theorem dX12_foretellNow_11 : decode cX12_foretellNow 11 = .ok (.invokevirtual 211, 3) := by decide +kernel
theorem dX12_foretellNow_14 : decode cX12_foretellNow 14 = .ok (.ireturn, 1) := by decide +kernel
theorem dX12_worst_0 : decode cX12_worst 0 = .ok (.aload_n 0, 1) := by decide +kernel
theorem dX12_worst_1 : decode cX12_worst 1 = .ok (.invokevirtual 188, 3) := by decide +kernel
theorem dX12_worst_4 : decode cX12_worst 4 = .ok (.ifCond .ne 6, 3) := by decide +kernel
theorem dX12_worst_7 : decode cX12_worst 7 = .ok (.ldc 192, 2) := by decide +kernel
theorem dX12_worst_9 : decode cX12_worst 9 = .ok (.ireturn, 1) := by decide +kernel
theorem dX12_worst_10 : decode cX12_worst 10 = .ok (.iload_n 1, 1) := by decide +kernel
theorem dX12_worst_11 : decode cX12_worst 11 = .ok (.i2l, 1) := by decide +kernel
theorem dX12_worst_12 : decode cX12_worst 12 = .ok (.lconst 0, 1) := by decide +kernel
theorem dX12_worst_13 : decode cX12_worst 13 = .ok (.lconst 1, 1) := by decide +kernel
theorem dX12_worst_14 : decode cX12_worst 14 = .ok (.invokestatic 40, 3) := by decide +kernel
theorem dX12_worst_17 : decode cX12_worst 17 = .ok (.ifCond .ne 6, 3) := by decide +kernel
theorem dX12_worst_20 : decode cX12_worst 20 = .ok (.ldc 55, 2) := by decide +kernel
theorem dX12_worst_22 : decode cX12_worst 22 = .ok (.ireturn, 1) := by decide +kernel
theorem dX12_worst_23 : decode cX12_worst 23 = .ok (.aload_n 0, 1) := by decide +kernel
theorem dX12_worst_24 : decode cX12_worst 24 = .ok (.invokevirtual 214, 3) := by decide +kernel
theorem dX12_worst_27 : decode cX12_worst 27 = .ok (.istore_n 2, 1) := by decide +kernel
theorem dX12_worst_28 : decode cX12_worst 28 = .ok (.iload_n 1, 1) := by decide +kernel
theorem dX12_worst_29 : decode cX12_worst 29 = .ok (.ifCond .ne 7, 3) := by decide +kernel
theorem dX12_worst_32 : decode cX12_worst 32 = .ok (.iload_n 2, 1) := by decide +kernel
theorem dX12_worst_33 : decode cX12_worst 33 = .ok (.goto 7, 3) := by decide +kernel
theorem dX12_worst_36 : decode cX12_worst 36 = .ok (.aload_n 0, 1) := by decide +kernel
theorem dX12_worst_37 : decode cX12_worst 37 = .ok (.getfield 208, 3) := by decide +kernel
theorem dX12_worst_40 : decode cX12_worst 40 = .ok (.ireturn, 1) := by decide +kernel
theorem dX12_most_0 : decode cX12_most 0 = .ok (.aload_n 0, 1) := by decide +kernel
theorem dX12_most_1 : decode cX12_most 1 = .ok (.invokevirtual 188, 3) := by decide +kernel
theorem dX12_most_4 : decode cX12_most 4 = .ok (.ifCond .ne 6, 3) := by decide +kernel
theorem dX12_most_7 : decode cX12_most 7 = .ok (.ldc 192, 2) := by decide +kernel
theorem dX12_most_9 : decode cX12_most 9 = .ok (.ireturn, 1) := by decide +kernel
theorem dX12_most_10 : decode cX12_most 10 = .ok (.iconst 0, 1) := by decide +kernel
theorem dX12_most_11 : decode cX12_most 11 = .ok (.istore_n 1, 1) := by decide +kernel
theorem dX12_most_12 : decode cX12_most 12 = .ok (.iconst 0, 1) := by decide +kernel
theorem dX12_most_13 : decode cX12_most 13 = .ok (.istore_n 2, 1) := by decide +kernel
theorem dX12_most_14 : decode cX12_most 14 = .ok (.iload_n 2, 1) := by decide +kernel
theorem dX12_most_15 : decode cX12_most 15 = .ok (.aload_n 0, 1) := by decide +kernel
theorem dX12_most_16 : decode cX12_most 16 = .ok (.getfield 7, 3) := by decide +kernel
theorem dX12_most_19 : decode cX12_most 19 = .ok (.iconst 2, 1) := by decide +kernel
theorem dX12_most_20 : decode cX12_most 20 = .ok (.iaload, 1) := by decide +kernel
theorem dX12_most_21 : decode cX12_most 21 = .ok (.if_icmp .ge 31, 3) := by decide +kernel
theorem dX12_most_24 : decode cX12_most 24 = .ok (.iload_n 1, 1) := by decide +kernel
theorem dX12_most_25 : decode cX12_most 25 = .ok (.aload_n 0, 1) := by decide +kernel
theorem dX12_most_26 : decode cX12_most 26 = .ok (.getfield 7, 3) := by decide +kernel
theorem dX12_most_29 : decode cX12_most 29 = .ok (.bipush 24, 2) := by decide +kernel
theorem dX12_most_31 : decode cX12_most 31 = .ok (.iload_n 2, 1) := by decide +kernel
theorem dX12_most_32 : decode cX12_most 32 = .ok (.iadd, 1) := by decide +kernel
theorem dX12_most_33 : decode cX12_most 33 = .ok (.iaload, 1) := by decide +kernel
theorem dX12_most_34 : decode cX12_most 34 = .ok (.ifCond .ge 9, 3) := by decide +kernel
theorem dX12_most_37 : decode cX12_most 37 = .ok (.iconst 1, 1) := by decide +kernel
theorem dX12_most_38 : decode cX12_most 38 = .ok (.iload_n 2, 1) := by decide +kernel
theorem dX12_most_39 : decode cX12_most 39 = .ok (.ishl, 1) := by decide +kernel
theorem dX12_most_40 : decode cX12_most 40 = .ok (.goto 4, 3) := by decide +kernel
theorem dX12_most_43 : decode cX12_most 43 = .ok (.iconst 0, 1) := by decide +kernel
theorem dX12_most_44 : decode cX12_most 44 = .ok (.ior, 1) := by decide +kernel
theorem dX12_most_45 : decode cX12_most 45 = .ok (.istore_n 1, 1) := by decide +kernel
theorem dX12_most_46 : decode cX12_most 46 = .ok (.iinc 2 1, 3) := by decide +kernel
theorem dX12_most_49 : decode cX12_most 49 = .ok (.goto (-35), 3) := by decide +kernel
theorem dX12_most_52 : decode cX12_most 52 = .ok (.ldc 195, 2) := by decide +kernel
theorem dX12_most_54 : decode cX12_most 54 = .ok (.istore_n 2, 1) := by decide +kernel
theorem dX12_most_55 : decode cX12_most 55 = .ok (.iconst 0, 1) := by decide +kernel
theorem dX12_most_56 : decode cX12_most 56 = .ok (.istore_n 3, 1) := by decide +kernel
theorem dX12_most_57 : decode cX12_most 57 = .ok (.iload_n 3, 1) := by decide +kernel
theorem dX12_most_58 : decode cX12_most 58 = .ok (.iload_n 1, 1) := by decide +kernel
theorem dX12_most_59 : decode cX12_most 59 = .ok (.if_icmp .gt 119, 3) := by decide +kernel
theorem dX12_most_62 : decode cX12_most 62 = .ok (.iload_n 3, 1) := by decide +kernel
theorem dX12_most_63 : decode cX12_most 63 = .ok (.iload_n 1, 1) := by decide +kernel
theorem dX12_most_64 : decode cX12_most 64 = .ok (.iconst (-1), 1) := by decide +kernel
theorem dX12_most_65 : decode cX12_most 65 = .ok (.ixor, 1) := by decide +kernel
theorem dX12_most_66 : decode cX12_most 66 = .ok (.iand, 1) := by decide +kernel
theorem dX12_most_67 : decode cX12_most 67 = .ok (.ifCond .ne 105, 3) := by decide +kernel
theorem dX12_most_70 : decode cX12_most 70 = .ok (.iload_n 2, 1) := by decide +kernel
theorem dX12_most_71 : decode cX12_most 71 = .ok (.ldc 195, 2) := by decide +kernel
theorem dX12_most_73 : decode cX12_most 73 = .ok (.if_icmp .eq 14, 3) := by decide +kernel
theorem dX12_most_76 : decode cX12_most 76 = .ok (.iload_n 3, 1) := by decide +kernel
theorem dX12_most_77 : decode cX12_most 77 = .ok (.invokestatic 218, 3) := by decide +kernel
theorem dX12_most_80 : decode cX12_most 80 = .ok (.iload_n 2, 1) := by decide +kernel
theorem dX12_most_81 : decode cX12_most 81 = .ok (.invokestatic 218, 3) := by decide +kernel
theorem dX12_most_84 : decode cX12_most 84 = .ok (.if_icmp .le 88, 3) := by decide +kernel
theorem dX12_most_87 : decode cX12_most 87 = .ok (.aload_n 0, 1) := by decide +kernel
theorem dX12_most_88 : decode cX12_most 88 = .ok (.iconst 0, 1) := by decide +kernel
theorem dX12_most_89 : decode cX12_most 89 = .ok (.sipush 200, 3) := by decide +kernel
theorem dX12_most_92 : decode cX12_most 92 = .ok (.invokevirtual 154, 3) := by decide +kernel
theorem dX12_most_95 : decode cX12_most 95 = .ok (.iconst 0, 1) := by decide +kernel
theorem dX12_most_96 : decode cX12_most 96 = .ok (.istore 4, 2) := by decide +kernel
theorem dX12_most_98 : decode cX12_most 98 = .ok (.iload 4, 2) := by decide +kernel
theorem dX12_most_100 : decode cX12_most 100 = .ok (.aload_n 0, 1) := by decide +kernel
theorem dX12_most_101 : decode cX12_most 101 = .ok (.getfield 7, 3) := by decide +kernel
theorem dX12_most_104 : decode cX12_most 104 = .ok (.iconst 2, 1) := by decide +kernel
theorem dX12_most_105 : decode cX12_most 105 = .ok (.iaload, 1) := by decide +kernel
theorem dX12_most_106 : decode cX12_most 106 = .ok (.if_icmp .ge 44, 3) := by decide +kernel
theorem dX12_most_109 : decode cX12_most 109 = .ok (.aload_n 0, 1) := by decide +kernel
theorem dX12_most_110 : decode cX12_most 110 = .ok (.getfield 7, 3) := by decide +kernel
theorem dX12_most_113 : decode cX12_most 113 = .ok (.sipush 231, 3) := by decide +kernel
theorem dX12_most_116 : decode cX12_most 116 = .ok (.iload 4, 2) := by decide +kernel
theorem dX12_most_118 : decode cX12_most 118 = .ok (.iadd, 1) := by decide +kernel
theorem dX12_most_119 : decode cX12_most 119 = .ok (.iload_n 3, 1) := by decide +kernel
theorem dX12_most_120 : decode cX12_most 120 = .ok (.iload 4, 2) := by decide +kernel
theorem dX12_most_122 : decode cX12_most 122 = .ok (.invokestatic 221, 3) := by decide +kernel
theorem dX12_most_125 : decode cX12_most 125 = .ok (.ifCond .eq 7, 3) := by decide +kernel
theorem dX12_most_128 : decode cX12_most 128 = .ok (.iconst 1, 1) := by decide +kernel
theorem dX12_most_129 : decode cX12_most 129 = .ok (.goto 14, 3) := by decide +kernel
theorem dX12_most_132 : decode cX12_most 132 = .ok (.aload_n 0, 1) := by decide +kernel
theorem dX12_most_133 : decode cX12_most 133 = .ok (.getfield 7, 3) := by decide +kernel
theorem dX12_most_136 : decode cX12_most 136 = .ok (.sipush 231, 3) := by decide +kernel
theorem dX12_most_139 : decode cX12_most 139 = .ok (.iload 4, 2) := by decide +kernel
theorem dX12_most_141 : decode cX12_most 141 = .ok (.iadd, 1) := by decide +kernel
theorem dX12_most_142 : decode cX12_most 142 = .ok (.iaload, 1) := by decide +kernel
theorem dX12_most_143 : decode cX12_most 143 = .ok (.iastore, 1) := by decide +kernel
theorem dX12_most_144 : decode cX12_most 144 = .ok (.iinc 4 1, 3) := by decide +kernel
theorem dX12_most_147 : decode cX12_most 147 = .ok (.goto (-49), 3) := by decide +kernel
theorem dX12_most_150 : decode cX12_most 150 = .ok (.aload_n 0, 1) := by decide +kernel
theorem dX12_most_151 : decode cX12_most 151 = .ok (.iconst (-1), 1) := by decide +kernel
theorem dX12_most_152 : decode cX12_most 152 = .ok (.iconst 0, 1) := by decide +kernel
theorem dX12_most_153 : decode cX12_most 153 = .ok (.invokevirtual 211, 3) := by decide +kernel
theorem dX12_most_156 : decode cX12_most 156 = .ok (.pop, 1) := by decide +kernel
theorem dX12_most_157 : decode cX12_most 157 = .ok (.aload_n 0, 1) := by decide +kernel
theorem dX12_most_158 : decode cX12_most 158 = .ok (.getfield 208, 3) := by decide +kernel
theorem dX12_most_161 : decode cX12_most 161 = .ok (.ldc 195, 2) := by decide +kernel
theorem dX12_most_163 : decode cX12_most 163 = .ok (.if_icmp .ne 7, 3) := by decide +kernel
theorem dX12_most_166 : decode cX12_most 166 = .ok (.iload_n 3, 1) := by decide +kernel
theorem dX12_most_167 : decode cX12_most 167 = .ok (.goto 4, 3) := by decide +kernel
theorem dX12_most_170 : decode cX12_most 170 = .ok (.iload_n 2, 1) := by decide +kernel
theorem dX12_most_171 : decode cX12_most 171 = .ok (.istore_n 2, 1) := by decide +kernel
theorem dX12_most_172 : decode cX12_most 172 = .ok (.iinc 3 1, 3) := by decide +kernel
theorem dX12_most_175 : decode cX12_most 175 = .ok (.goto (-118), 3) := by decide +kernel
theorem dX12_most_178 : decode cX12_most 178 = .ok (.iload_n 2, 1) := by decide +kernel
theorem dX12_most_179 : decode cX12_most 179 = .ok (.ireturn, 1) := by decide +kernel
theorem dX12_two_0 : decode cX12_two 0 = .ok (.aload_n 0, 1) := by decide +kernel
theorem dX12_two_1 : decode cX12_two 1 = .ok (.iload_n 1, 1) := by decide +kernel
theorem dX12_two_2 : decode cX12_two 2 = .ok (.invokevirtual 180, 3) := by decide +kernel
theorem dX12_two_5 : decode cX12_two 5 = .ok (.ifCond .eq 50, 3) := by decide +kernel
theorem dX12_two_8 : decode cX12_two 8 = .ok (.aload_n 0, 1) := by decide +kernel
theorem dX12_two_9 : decode cX12_two 9 = .ok (.iload_n 2, 1) := by decide +kernel
theorem dX12_two_10 : decode cX12_two 10 = .ok (.invokevirtual 180, 3) := by decide +kernel
theorem dX12_two_13 : decode cX12_two 13 = .ok (.ifCond .eq 42, 3) := by decide +kernel
theorem dX12_two_16 : decode cX12_two 16 = .ok (.iload_n 1, 1) := by decide +kernel
theorem dX12_two_17 : decode cX12_two 17 = .ok (.iload_n 2, 1) := by decide +kernel
theorem dX12_two_18 : decode cX12_two 18 = .ok (.if_icmp .eq 37, 3) := by decide +kernel
theorem dX12_two_21 : decode cX12_two 21 = .ok (.aload_n 0, 1) := by decide +kernel
theorem dX12_two_22 : decode cX12_two 22 = .ok (.getfield 7, 3) := by decide +kernel
theorem dX12_two_25 : decode cX12_two 25 = .ok (.bipush 24, 2) := by decide +kernel
theorem dX12_two_27 : decode cX12_two 27 = .ok (.iload_n 1, 1) := by decide +kernel
theorem dX12_two_28 : decode cX12_two 28 = .ok (.iadd, 1) := by decide +kernel
theorem dX12_two_29 : decode cX12_two 29 = .ok (.iaload, 1) := by decide +kernel
theorem dX12_two_30 : decode cX12_two 30 = .ok (.ifCond .ge 25, 3) := by decide +kernel
theorem dX12_two_33 : decode cX12_two 33 = .ok (.aload_n 0, 1) := by decide +kernel
theorem dX12_two_34 : decode cX12_two 34 = .ok (.getfield 7, 3) := by decide +kernel
theorem dX12_two_37 : decode cX12_two 37 = .ok (.bipush 24, 2) := by decide +kernel
theorem dX12_two_39 : decode cX12_two 39 = .ok (.iload_n 2, 1) := by decide +kernel
theorem dX12_two_40 : decode cX12_two 40 = .ok (.iadd, 1) := by decide +kernel
theorem dX12_two_41 : decode cX12_two 41 = .ok (.iaload, 1) := by decide +kernel
theorem dX12_two_42 : decode cX12_two 42 = .ok (.ifCond .ge 13, 3) := by decide +kernel
theorem dX12_two_45 : decode cX12_two 45 = .ok (.iload_n 3, 1) := by decide +kernel
theorem dX12_two_46 : decode cX12_two 46 = .ok (.i2l, 1) := by decide +kernel
theorem dX12_two_47 : decode cX12_two 47 = .ok (.lconst 0, 1) := by decide +kernel
theorem dX12_two_48 : decode cX12_two 48 = .ok (.lconst 1, 1) := by decide +kernel
theorem dX12_two_49 : decode cX12_two 49 = .ok (.invokestatic 40, 3) := by decide +kernel
theorem dX12_two_52 : decode cX12_two 52 = .ok (.ifCond .ne 6, 3) := by decide +kernel
theorem dX12_two_55 : decode cX12_two 55 = .ok (.ldc 55, 2) := by decide +kernel
theorem dX12_two_57 : decode cX12_two 57 = .ok (.ireturn, 1) := by decide +kernel
theorem dX12_two_58 : decode cX12_two 58 = .ok (.iconst 0, 1) := by decide +kernel
theorem dX12_two_59 : decode cX12_two 59 = .ok (.istore 4, 2) := by decide +kernel
theorem dX12_two_61 : decode cX12_two 61 = .ok (.iconst 0, 1) := by decide +kernel
theorem dX12_two_62 : decode cX12_two 62 = .ok (.istore 5, 2) := by decide +kernel
theorem dX12_two_64 : decode cX12_two 64 = .ok (.iconst 0, 1) := by decide +kernel
theorem dX12_two_65 : decode cX12_two 65 = .ok (.istore 6, 2) := by decide +kernel
theorem dX12_two_67 : decode cX12_two 67 = .ok (.iload 6, 2) := by decide +kernel
theorem dX12_two_69 : decode cX12_two 69 = .ok (.bipush 10, 2) := by decide +kernel
theorem dX12_two_71 : decode cX12_two 71 = .ok (.if_icmp .ge 90, 3) := by decide +kernel
theorem dX12_two_74 : decode cX12_two 74 = .ok (.aload_n 0, 1) := by decide +kernel
theorem dX12_two_75 : decode cX12_two 75 = .ok (.iconst 0, 1) := by decide +kernel
theorem dX12_two_76 : decode cX12_two 76 = .ok (.sipush 200, 3) := by decide +kernel
theorem dX12_two_79 : decode cX12_two 79 = .ok (.invokevirtual 154, 3) := by decide +kernel
theorem dX12_two_82 : decode cX12_two 82 = .ok (.aload_n 0, 1) := by decide +kernel
theorem dX12_two_83 : decode cX12_two 83 = .ok (.getfield 7, 3) := by decide +kernel
theorem dX12_two_86 : decode cX12_two 86 = .ok (.sipush 231, 3) := by decide +kernel
theorem dX12_two_89 : decode cX12_two 89 = .ok (.iload_n 1, 1) := by decide +kernel
theorem dX12_two_90 : decode cX12_two 90 = .ok (.iadd, 1) := by decide +kernel
theorem dX12_two_91 : decode cX12_two 91 = .ok (.iconst 1, 1) := by decide +kernel
theorem dX12_two_92 : decode cX12_two 92 = .ok (.iastore, 1) := by decide +kernel
theorem dX12_two_93 : decode cX12_two 93 = .ok (.aload_n 0, 1) := by decide +kernel
theorem dX12_two_94 : decode cX12_two 94 = .ok (.getfield 7, 3) := by decide +kernel
theorem dX12_two_97 : decode cX12_two 97 = .ok (.sipush 231, 3) := by decide +kernel
theorem dX12_two_100 : decode cX12_two 100 = .ok (.iload_n 2, 1) := by decide +kernel
theorem dX12_two_101 : decode cX12_two 101 = .ok (.iadd, 1) := by decide +kernel
theorem dX12_two_102 : decode cX12_two 102 = .ok (.iconst 0, 1) := by decide +kernel
theorem dX12_two_103 : decode cX12_two 103 = .ok (.iastore, 1) := by decide +kernel
theorem dX12_two_104 : decode cX12_two 104 = .ok (.aload_n 0, 1) := by decide +kernel
theorem dX12_two_105 : decode cX12_two 105 = .ok (.iload_n 2, 1) := by decide +kernel
theorem dX12_two_106 : decode cX12_two 106 = .ok (.iload 6, 2) := by decide +kernel
theorem dX12_two_108 : decode cX12_two 108 = .ok (.invokevirtual 211, 3) := by decide +kernel
theorem dX12_two_111 : decode cX12_two 111 = .ok (.istore 7, 2) := by decide +kernel
theorem dX12_two_113 : decode cX12_two 113 = .ok (.iload 6, 2) := by decide +kernel
theorem dX12_two_115 : decode cX12_two 115 = .ok (.ifCond .eq 10, 3) := by decide +kernel
theorem dX12_two_118 : decode cX12_two 118 = .ok (.iload 7, 2) := by decide +kernel
theorem dX12_two_120 : decode cX12_two 120 = .ok (.iload 5, 2) := by decide +kernel
theorem dX12_two_122 : decode cX12_two 122 = .ok (.if_icmp .ge 8, 3) := by decide +kernel
theorem dX12_two_125 : decode cX12_two 125 = .ok (.iload 6, 2) := by decide +kernel
theorem dX12_two_127 : decode cX12_two 127 = .ok (.goto 5, 3) := by decide +kernel
theorem dX12_two_130 : decode cX12_two 130 = .ok (.iload 4, 2) := by decide +kernel
theorem dX12_two_132 : decode cX12_two 132 = .ok (.istore 4, 2) := by decide +kernel
theorem dX12_two_134 : decode cX12_two 134 = .ok (.iload 6, 2) := by decide +kernel
theorem dX12_two_136 : decode cX12_two 136 = .ok (.ifCond .eq 10, 3) := by decide +kernel
theorem dX12_two_139 : decode cX12_two 139 = .ok (.iload 7, 2) := by decide +kernel
theorem dX12_two_141 : decode cX12_two 141 = .ok (.iload 5, 2) := by decide +kernel
theorem dX12_two_143 : decode cX12_two 143 = .ok (.if_icmp .ge 8, 3) := by decide +kernel
theorem dX12_two_146 : decode cX12_two 146 = .ok (.iload 7, 2) := by decide +kernel
theorem dX12_two_148 : decode cX12_two 148 = .ok (.goto 5, 3) := by decide +kernel
theorem dX12_two_151 : decode cX12_two 151 = .ok (.iload 5, 2) := by decide +kernel
theorem dX12_two_153 : decode cX12_two 153 = .ok (.istore 5, 2) := by decide +kernel
theorem dX12_two_155 : decode cX12_two 155 = .ok (.iinc 6 1, 3) := by decide +kernel
theorem dX12_two_158 : decode cX12_two 158 = .ok (.goto (-91), 3) := by decide +kernel
theorem dX12_two_161 : decode cX12_two 161 = .ok (.iload_n 3, 1) := by decide +kernel
theorem dX12_two_162 : decode cX12_two 162 = .ok (.ifCond .ne 8, 3) := by decide +kernel
theorem dX12_two_165 : decode cX12_two 165 = .ok (.iload 4, 2) := by decide +kernel
theorem dX12_two_167 : decode cX12_two 167 = .ok (.goto 5, 3) := by decide +kernel
theorem dX12_two_170 : decode cX12_two 170 = .ok (.iload 5, 2) := by decide +kernel
theorem dX12_two_172 : decode cX12_two 172 = .ok (.ireturn, 1) := by decide +kernel
theorem dX12_stones_0 : decode cX12_stones 0 = .ok (.aload_n 0, 1) := by decide +kernel
theorem dX12_stones_1 : decode cX12_stones 1 = .ok (.invokevirtual 188, 3) := by decide +kernel
theorem dX12_stones_4 : decode cX12_stones 4 = .ok (.ifCond .ne 6, 3) := by decide +kernel
theorem dX12_stones_7 : decode cX12_stones 7 = .ok (.ldc 192, 2) := by decide +kernel
theorem dX12_stones_9 : decode cX12_stones 9 = .ok (.ireturn, 1) := by decide +kernel
theorem dX12_stones_10 : decode cX12_stones 10 = .ok (.aload_n 0, 1) := by decide +kernel
theorem dX12_stones_11 : decode cX12_stones 11 = .ok (.getfield 7, 3) := by decide +kernel
theorem dX12_stones_14 : decode cX12_stones 14 = .ok (.bipush 38, 2) := by decide +kernel
theorem dX12_stones_16 : decode cX12_stones 16 = .ok (.iaload, 1) := by decide +kernel
theorem dX12_stones_17 : decode cX12_stones 17 = .ok (.istore_n 2, 1) := by decide +kernel
theorem dX12_stones_18 : decode cX12_stones 18 = .ok (.iload_n 1, 1) := by decide +kernel
theorem dX12_stones_19 : decode cX12_stones 19 = .ok (.i2l, 1) := by decide +kernel
theorem dX12_stones_20 : decode cX12_stones 20 = .ok (.ldc2_w 99, 3) := by decide +kernel
theorem dX12_stones_23 : decode cX12_stones 23 = .ok (.iload_n 2, 1) := by decide +kernel
theorem dX12_stones_24 : decode cX12_stones 24 = .ok (.iconst 1, 1) := by decide +kernel
theorem dX12_stones_25 : decode cX12_stones 25 = .ok (.isub, 1) := by decide +kernel
theorem dX12_stones_26 : decode cX12_stones 26 = .ok (.i2l, 1) := by decide +kernel
theorem dX12_stones_27 : decode cX12_stones 27 = .ok (.invokestatic 40, 3) := by decide +kernel
theorem dX12_stones_30 : decode cX12_stones 30 = .ok (.ifCond .ne 6, 3) := by decide +kernel
theorem dX12_stones_33 : decode cX12_stones 33 = .ok (.ldc 55, 2) := by decide +kernel
theorem dX12_stones_35 : decode cX12_stones 35 = .ok (.ireturn, 1) := by decide +kernel
theorem dX12_stones_36 : decode cX12_stones 36 = .ok (.iconst 0, 1) := by decide +kernel
theorem dX12_stones_37 : decode cX12_stones 37 = .ok (.istore_n 3, 1) := by decide +kernel
theorem dX12_stones_38 : decode cX12_stones 38 = .ok (.iconst 0, 1) := by decide +kernel
theorem dX12_stones_39 : decode cX12_stones 39 = .ok (.istore 4, 2) := by decide +kernel
theorem dX12_stones_41 : decode cX12_stones 41 = .ok (.iconst 0, 1) := by decide +kernel
theorem dX12_stones_42 : decode cX12_stones 42 = .ok (.istore 5, 2) := by decide +kernel
theorem dX12_stones_44 : decode cX12_stones 44 = .ok (.iload 5, 2) := by decide +kernel
theorem dX12_stones_46 : decode cX12_stones 46 = .ok (.iconst 1, 1) := by decide +kernel
theorem dX12_stones_47 : decode cX12_stones 47 = .ok (.iconst 2, 1) := by decide +kernel
theorem dX12_stones_48 : decode cX12_stones 48 = .ok (.iload_n 2, 1) := by decide +kernel
theorem dX12_stones_49 : decode cX12_stones 49 = .ok (.imul, 1) := by decide +kernel
theorem dX12_stones_50 : decode cX12_stones 50 = .ok (.ishl, 1) := by decide +kernel
theorem dX12_stones_51 : decode cX12_stones 51 = .ok (.if_icmp .ge 104, 3) := by decide +kernel
theorem dX12_stones_54 : decode cX12_stones 54 = .ok (.aload_n 0, 1) := by decide +kernel
theorem dX12_stones_55 : decode cX12_stones 55 = .ok (.iconst 0, 1) := by decide +kernel
theorem dX12_stones_56 : decode cX12_stones 56 = .ok (.sipush 200, 3) := by decide +kernel
theorem dX12_stones_59 : decode cX12_stones 59 = .ok (.invokevirtual 154, 3) := by decide +kernel
theorem dX12_stones_62 : decode cX12_stones 62 = .ok (.iconst 0, 1) := by decide +kernel
theorem dX12_stones_63 : decode cX12_stones 63 = .ok (.istore 6, 2) := by decide +kernel
theorem dX12_stones_65 : decode cX12_stones 65 = .ok (.iload 6, 2) := by decide +kernel
theorem dX12_stones_67 : decode cX12_stones 67 = .ok (.iload_n 2, 1) := by decide +kernel
theorem dX12_stones_68 : decode cX12_stones 68 = .ok (.if_icmp .ge 33, 3) := by decide +kernel
theorem dX12_stones_71 : decode cX12_stones 71 = .ok (.aload_n 0, 1) := by decide +kernel
theorem dX12_stones_72 : decode cX12_stones 72 = .ok (.getfield 7, 3) := by decide +kernel
theorem dX12_stones_75 : decode cX12_stones 75 = .ok (.sipush 243, 3) := by decide +kernel
theorem dX12_stones_78 : decode cX12_stones 78 = .ok (.iload 6, 2) := by decide +kernel
theorem dX12_stones_80 : decode cX12_stones 80 = .ok (.iadd, 1) := by decide +kernel
theorem dX12_stones_81 : decode cX12_stones 81 = .ok (.iload 5, 2) := by decide +kernel
theorem dX12_stones_83 : decode cX12_stones 83 = .ok (.iconst 2, 1) := by decide +kernel
theorem dX12_stones_84 : decode cX12_stones 84 = .ok (.iload_n 2, 1) := by decide +kernel
theorem dX12_stones_85 : decode cX12_stones 85 = .ok (.iconst 1, 1) := by decide +kernel
theorem dX12_stones_86 : decode cX12_stones 86 = .ok (.isub, 1) := by decide +kernel
theorem dX12_stones_87 : decode cX12_stones 87 = .ok (.iload 6, 2) := by decide +kernel
theorem dX12_stones_89 : decode cX12_stones 89 = .ok (.isub, 1) := by decide +kernel
theorem dX12_stones_90 : decode cX12_stones 90 = .ok (.imul, 1) := by decide +kernel
theorem dX12_stones_91 : decode cX12_stones 91 = .ok (.ishr, 1) := by decide +kernel
theorem dX12_stones_92 : decode cX12_stones 92 = .ok (.iconst 3, 1) := by decide +kernel
theorem dX12_stones_93 : decode cX12_stones 93 = .ok (.iand, 1) := by decide +kernel
theorem dX12_stones_94 : decode cX12_stones 94 = .ok (.iastore, 1) := by decide +kernel
theorem dX12_stones_95 : decode cX12_stones 95 = .ok (.iinc 6 1, 3) := by decide +kernel
theorem dX12_stones_98 : decode cX12_stones 98 = .ok (.goto (-33), 3) := by decide +kernel
theorem dX12_stones_101 : decode cX12_stones 101 = .ok (.aload_n 0, 1) := by decide +kernel
theorem dX12_stones_102 : decode cX12_stones 102 = .ok (.iconst (-1), 1) := by decide +kernel
theorem dX12_stones_103 : decode cX12_stones 103 = .ok (.iconst 0, 1) := by decide +kernel
theorem dX12_stones_104 : decode cX12_stones 104 = .ok (.invokevirtual 211, 3) := by decide +kernel
theorem dX12_stones_107 : decode cX12_stones 107 = .ok (.istore 6, 2) := by decide +kernel
theorem dX12_stones_109 : decode cX12_stones 109 = .ok (.iload 5, 2) := by decide +kernel
theorem dX12_stones_111 : decode cX12_stones 111 = .ok (.ifCond .eq 10, 3) := by decide +kernel
theorem dX12_stones_114 : decode cX12_stones 114 = .ok (.iload 6, 2) := by decide +kernel
theorem dX12_stones_116 : decode cX12_stones 116 = .ok (.iload 4, 2) := by decide +kernel
theorem dX12_stones_118 : decode cX12_stones 118 = .ok (.if_icmp .ge 8, 3) := by decide +kernel
theorem dX12_stones_121 : decode cX12_stones 121 = .ok (.iload 5, 2) := by decide +kernel
theorem dX12_stones_123 : decode cX12_stones 123 = .ok (.goto 4, 3) := by decide +kernel
theorem dX12_stones_126 : decode cX12_stones 126 = .ok (.iload_n 3, 1) := by decide +kernel
theorem dX12_stones_127 : decode cX12_stones 127 = .ok (.istore_n 3, 1) := by decide +kernel
theorem dX12_stones_128 : decode cX12_stones 128 = .ok (.iload 5, 2) := by decide +kernel
theorem dX12_stones_130 : decode cX12_stones 130 = .ok (.ifCond .eq 10, 3) := by decide +kernel
theorem dX12_stones_133 : decode cX12_stones 133 = .ok (.iload 6, 2) := by decide +kernel
theorem dX12_stones_135 : decode cX12_stones 135 = .ok (.iload 4, 2) := by decide +kernel
theorem dX12_stones_137 : decode cX12_stones 137 = .ok (.if_icmp .ge 8, 3) := by decide +kernel
theorem dX12_stones_140 : decode cX12_stones 140 = .ok (.iload 6, 2) := by decide +kernel
theorem dX12_stones_142 : decode cX12_stones 142 = .ok (.goto 5, 3) := by decide +kernel
theorem dX12_stones_145 : decode cX12_stones 145 = .ok (.iload 4, 2) := by decide +kernel
theorem dX12_stones_147 : decode cX12_stones 147 = .ok (.istore 4, 2) := by decide +kernel
theorem dX12_stones_149 : decode cX12_stones 149 = .ok (.iinc 5 1, 3) := by decide +kernel
theorem dX12_stones_152 : decode cX12_stones 152 = .ok (.goto (-108), 3) := by decide +kernel
theorem dX12_stones_155 : decode cX12_stones 155 = .ok (.iload_n 1, 1) := by decide +kernel
theorem dX12_stones_156 : decode cX12_stones 156 = .ok (.ifCond .ge 8, 3) := by decide +kernel
theorem dX12_stones_159 : decode cX12_stones 159 = .ok (.iload 4, 2) := by decide +kernel
theorem dX12_stones_161 : decode cX12_stones 161 = .ok (.goto 14, 3) := by decide +kernel
theorem dX12_stones_164 : decode cX12_stones 164 = .ok (.iload_n 3, 1) := by decide +kernel
theorem dX12_stones_165 : decode cX12_stones 165 = .ok (.iconst 2, 1) := by decide +kernel
theorem dX12_stones_166 : decode cX12_stones 166 = .ok (.iload_n 2, 1) := by decide +kernel
theorem dX12_stones_167 : decode cX12_stones 167 = .ok (.iconst 1, 1) := by decide +kernel
theorem dX12_stones_168 : decode cX12_stones 168 = .ok (.isub, 1) := by decide +kernel
theorem dX12_stones_169 : decode cX12_stones 169 = .ok (.iload_n 1, 1) := by decide +kernel
theorem dX12_stones_170 : decode cX12_stones 170 = .ok (.isub, 1) := by decide +kernel
theorem dX12_stones_171 : decode cX12_stones 171 = .ok (.imul, 1) := by decide +kernel
theorem dX12_stones_172 : decode cX12_stones 172 = .ok (.ishr, 1) := by decide +kernel
theorem dX12_stones_173 : decode cX12_stones 173 = .ok (.iconst 3, 1) := by decide +kernel
theorem dX12_stones_174 : decode cX12_stones 174 = .ok (.iand, 1) := by decide +kernel
theorem dX12_stones_175 : decode cX12_stones 175 = .ok (.ireturn, 1) := by decide +kernel
theorem dX12_marks_0 : decode cX12_marks 0 = .ok (.aload_n 0, 1) := by decide +kernel
theorem dX12_marks_1 : decode cX12_marks 1 = .ok (.invokevirtual 188, 3) := by decide +kernel
theorem dX12_marks_4 : decode cX12_marks 4 = .ok (.ifCond .ne 6, 3) := by decide +kernel
theorem dX12_marks_7 : decode cX12_marks 7 = .ok (.ldc 192, 2) := by decide +kernel
theorem dX12_marks_9 : decode cX12_marks 9 = .ok (.ireturn, 1) := by decide +kernel
theorem dX12_marks_10 : decode cX12_marks 10 = .ok (.iload_n 1, 1) := by decide +kernel
theorem dX12_marks_11 : decode cX12_marks 11 = .ok (.invokestatic 49, 3) := by decide +kernel
theorem dX12_marks_14 : decode cX12_marks 14 = .ok (.ifCond .eq 37, 3) := by decide +kernel
theorem dX12_marks_17 : decode cX12_marks 17 = .ok (.iload_n 2, 1) := by decide +kernel
theorem dX12_marks_18 : decode cX12_marks 18 = .ok (.i2l, 1) := by decide +kernel
theorem dX12_marks_19 : decode cX12_marks 19 = .ok (.ldc2_w 225, 3) := by decide +kernel
theorem dX12_marks_22 : decode cX12_marks 22 = .ok (.ldc2_w 227, 3) := by decide +kernel
theorem dX12_marks_25 : decode cX12_marks 25 = .ok (.invokestatic 40, 3) := by decide +kernel
theorem dX12_marks_28 : decode cX12_marks 28 = .ok (.ifCond .eq 23, 3) := by decide +kernel
theorem dX12_marks_31 : decode cX12_marks 31 = .ok (.iload_n 3, 1) := by decide +kernel
theorem dX12_marks_32 : decode cX12_marks 32 = .ok (.i2l, 1) := by decide +kernel
theorem dX12_marks_33 : decode cX12_marks 33 = .ok (.ldc2_w 225, 3) := by decide +kernel
theorem dX12_marks_36 : decode cX12_marks 36 = .ok (.ldc2_w 227, 3) := by decide +kernel
theorem dX12_marks_39 : decode cX12_marks 39 = .ok (.invokestatic 40, 3) := by decide +kernel
theorem dX12_marks_42 : decode cX12_marks 42 = .ok (.ifCond .eq 9, 3) := by decide +kernel
theorem dX12_marks_45 : decode cX12_marks 45 = .ok (.iload 4, 2) := by decide +kernel
theorem dX12_marks_47 : decode cX12_marks 47 = .ok (.iconst (-1), 1) := by decide +kernel
theorem dX12_marks_48 : decode cX12_marks 48 = .ok (.if_icmp .ge 6, 3) := by decide +kernel
theorem dX12_marks_51 : decode cX12_marks 51 = .ok (.ldc 55, 2) := by decide +kernel
theorem dX12_marks_53 : decode cX12_marks 53 = .ok (.ireturn, 1) := by decide +kernel
theorem dX12_marks_54 : decode cX12_marks 54 = .ok (.aload_n 0, 1) := by decide +kernel
theorem dX12_marks_55 : decode cX12_marks 55 = .ok (.getfield 20, 3) := by decide +kernel
theorem dX12_marks_58 : decode cX12_marks 58 = .ok (.iload_n 1, 1) := by decide +kernel
theorem dX12_marks_59 : decode cX12_marks 59 = .ok (.iaload, 1) := by decide +kernel
theorem dX12_marks_60 : decode cX12_marks 60 = .ok (.ifCond .ge 9, 3) := by decide +kernel
theorem dX12_marks_63 : decode cX12_marks 63 = .ok (.aload_n 0, 1) := by decide +kernel
theorem dX12_marks_64 : decode cX12_marks 64 = .ok (.iconst 1, 1) := by decide +kernel
theorem dX12_marks_65 : decode cX12_marks 65 = .ok (.invokevirtual 56, 3) := by decide +kernel
theorem dX12_marks_68 : decode cX12_marks 68 = .ok (.ireturn, 1) := by decide +kernel
theorem dX12_marks_69 : decode cX12_marks 69 = .ok (.aload_n 0, 1) := by decide +kernel
theorem dX12_marks_70 : decode cX12_marks 70 = .ok (.getfield 23, 3) := by decide +kernel
theorem dX12_marks_73 : decode cX12_marks 73 = .ok (.iload_n 1, 1) := by decide +kernel
theorem dX12_marks_74 : decode cX12_marks 74 = .ok (.iaload, 1) := by decide +kernel
theorem dX12_marks_75 : decode cX12_marks 75 = .ok (.aload_n 0, 1) := by decide +kernel
theorem dX12_marks_76 : decode cX12_marks 76 = .ok (.getfield 7, 3) := by decide +kernel
theorem dX12_marks_79 : decode cX12_marks 79 = .ok (.iconst 2, 1) := by decide +kernel
theorem dX12_marks_80 : decode cX12_marks 80 = .ok (.iaload, 1) := by decide +kernel
theorem dX12_marks_81 : decode cX12_marks 81 = .ok (.if_icmp .ge 9, 3) := by decide +kernel
theorem dX12_marks_84 : decode cX12_marks 84 = .ok (.aload_n 0, 1) := by decide +kernel
theorem dX12_marks_85 : decode cX12_marks 85 = .ok (.iconst 2, 1) := by decide +kernel
theorem dX12_marks_86 : decode cX12_marks 86 = .ok (.invokevirtual 56, 3) := by decide +kernel
theorem dX12_marks_89 : decode cX12_marks 89 = .ok (.ireturn, 1) := by decide +kernel
theorem dX12_marks_90 : decode cX12_marks 90 = .ok (.iconst 0, 1) := by decide +kernel
theorem dX12_marks_91 : decode cX12_marks 91 = .ok (.istore 5, 2) := by decide +kernel
theorem dX12_marks_93 : decode cX12_marks 93 = .ok (.iload 5, 2) := by decide +kernel
theorem dX12_marks_95 : decode cX12_marks 95 = .ok (.aload_n 0, 1) := by decide +kernel
theorem dX12_marks_96 : decode cX12_marks 96 = .ok (.getfield 7, 3) := by decide +kernel
theorem dX12_marks_99 : decode cX12_marks 99 = .ok (.iconst 2, 1) := by decide +kernel
theorem dX12_marks_100 : decode cX12_marks 100 = .ok (.iaload, 1) := by decide +kernel
theorem dX12_marks_101 : decode cX12_marks 101 = .ok (.if_icmp .ge 43, 3) := by decide +kernel
theorem dX12_marks_104 : decode cX12_marks 104 = .ok (.aload_n 0, 1) := by decide +kernel
theorem dX12_marks_105 : decode cX12_marks 105 = .ok (.getfield 17, 3) := by decide +kernel
theorem dX12_marks_108 : decode cX12_marks 108 = .ok (.bipush 40, 2) := by decide +kernel
theorem dX12_marks_110 : decode cX12_marks 110 = .ok (.iload_n 1, 1) := by decide +kernel
theorem dX12_marks_111 : decode cX12_marks 111 = .ok (.imul, 1) := by decide +kernel
theorem dX12_marks_112 : decode cX12_marks 112 = .ok (.iload 5, 2) := by decide +kernel
theorem dX12_marks_114 : decode cX12_marks 114 = .ok (.iadd, 1) := by decide +kernel
theorem dX12_marks_115 : decode cX12_marks 115 = .ok (.iaload, 1) := by decide +kernel
theorem dX12_marks_116 : decode cX12_marks 116 = .ok (.i2l, 1) := by decide +kernel
theorem dX12_marks_117 : decode cX12_marks 117 = .ok (.ldc2_w 99, 3) := by decide +kernel
theorem dX12_marks_120 : decode cX12_marks 120 = .ok (.aload_n 0, 1) := by decide +kernel
theorem dX12_marks_121 : decode cX12_marks 121 = .ok (.getfield 7, 3) := by decide +kernel
theorem dX12_marks_124 : decode cX12_marks 124 = .ok (.iconst 0, 1) := by decide +kernel
theorem dX12_marks_125 : decode cX12_marks 125 = .ok (.iaload, 1) := by decide +kernel
theorem dX12_marks_126 : decode cX12_marks 126 = .ok (.iconst 1, 1) := by decide +kernel
theorem dX12_marks_127 : decode cX12_marks 127 = .ok (.isub, 1) := by decide +kernel
theorem dX12_marks_128 : decode cX12_marks 128 = .ok (.i2l, 1) := by decide +kernel
theorem dX12_marks_129 : decode cX12_marks 129 = .ok (.invokestatic 40, 3) := by decide +kernel
theorem dX12_marks_132 : decode cX12_marks 132 = .ok (.ifCond .ne 6, 3) := by decide +kernel
theorem dX12_marks_135 : decode cX12_marks 135 = .ok (.ldc 55, 2) := by decide +kernel
theorem dX12_marks_137 : decode cX12_marks 137 = .ok (.ireturn, 1) := by decide +kernel
theorem dX12_marks_138 : decode cX12_marks 138 = .ok (.iinc 5 1, 3) := by decide +kernel
theorem dX12_marks_141 : decode cX12_marks 141 = .ok (.goto (-48), 3) := by decide +kernel
theorem dX12_marks_144 : decode cX12_marks 144 = .ok (.aload_n 0, 1) := by decide +kernel
theorem dX12_marks_145 : decode cX12_marks 145 = .ok (.iconst 0, 1) := by decide +kernel
theorem dX12_marks_146 : decode cX12_marks 146 = .ok (.sipush 200, 3) := by decide +kernel
theorem dX12_marks_149 : decode cX12_marks 149 = .ok (.invokevirtual 154, 3) := by decide +kernel
theorem dX12_marks_152 : decode cX12_marks 152 = .ok (.iconst 0, 1) := by decide +kernel
theorem dX12_marks_153 : decode cX12_marks 153 = .ok (.istore 5, 2) := by decide +kernel
theorem dX12_marks_155 : decode cX12_marks 155 = .ok (.iconst 0, 1) := by decide +kernel
theorem dX12_marks_156 : decode cX12_marks 156 = .ok (.istore 6, 2) := by decide +kernel
theorem dX12_marks_158 : decode cX12_marks 158 = .ok (.iload 6, 2) := by decide +kernel
theorem dX12_marks_160 : decode cX12_marks 160 = .ok (.iconst 1, 1) := by decide +kernel
theorem dX12_marks_161 : decode cX12_marks 161 = .ok (.aload_n 0, 1) := by decide +kernel
theorem dX12_marks_162 : decode cX12_marks 162 = .ok (.getfield 7, 3) := by decide +kernel
theorem dX12_marks_165 : decode cX12_marks 165 = .ok (.iconst 2, 1) := by decide +kernel
theorem dX12_marks_166 : decode cX12_marks 166 = .ok (.iaload, 1) := by decide +kernel
theorem dX12_marks_167 : decode cX12_marks 167 = .ok (.ishl, 1) := by decide +kernel
theorem dX12_marks_168 : decode cX12_marks 168 = .ok (.if_icmp .ge 107, 3) := by decide +kernel
theorem dX12_marks_171 : decode cX12_marks 171 = .ok (.iconst 0, 1) := by decide +kernel
theorem dX12_marks_172 : decode cX12_marks 172 = .ok (.istore 7, 2) := by decide +kernel
theorem dX12_marks_174 : decode cX12_marks 174 = .ok (.iload 7, 2) := by decide +kernel
theorem dX12_marks_176 : decode cX12_marks 176 = .ok (.aload_n 0, 1) := by decide +kernel
theorem dX12_marks_177 : decode cX12_marks 177 = .ok (.getfield 7, 3) := by decide +kernel
theorem dX12_marks_180 : decode cX12_marks 180 = .ok (.iconst 2, 1) := by decide +kernel
theorem dX12_marks_181 : decode cX12_marks 181 = .ok (.iaload, 1) := by decide +kernel
theorem dX12_marks_182 : decode cX12_marks 182 = .ok (.if_icmp .ge 46, 3) := by decide +kernel
theorem dX12_marks_185 : decode cX12_marks 185 = .ok (.aload_n 0, 1) := by decide +kernel
theorem dX12_marks_186 : decode cX12_marks 186 = .ok (.getfield 7, 3) := by decide +kernel
theorem dX12_marks_189 : decode cX12_marks 189 = .ok (.sipush 224, 3) := by decide +kernel
theorem dX12_marks_192 : decode cX12_marks 192 = .ok (.iload 7, 2) := by decide +kernel
theorem dX12_marks_194 : decode cX12_marks 194 = .ok (.iadd, 1) := by decide +kernel
theorem dX12_marks_195 : decode cX12_marks 195 = .ok (.iload 6, 2) := by decide +kernel
theorem dX12_marks_197 : decode cX12_marks 197 = .ok (.iload 7, 2) := by decide +kernel
theorem dX12_marks_199 : decode cX12_marks 199 = .ok (.invokestatic 221, 3) := by decide +kernel
theorem dX12_marks_202 : decode cX12_marks 202 = .ok (.ifCond .eq 18, 3) := by decide +kernel
theorem dX12_marks_205 : decode cX12_marks 205 = .ok (.aload_n 0, 1) := by decide +kernel
theorem dX12_marks_206 : decode cX12_marks 206 = .ok (.getfield 17, 3) := by decide +kernel
theorem dX12_marks_209 : decode cX12_marks 209 = .ok (.bipush 40, 2) := by decide +kernel
theorem dX12_marks_211 : decode cX12_marks 211 = .ok (.iload_n 1, 1) := by decide +kernel
theorem dX12_marks_212 : decode cX12_marks 212 = .ok (.imul, 1) := by decide +kernel
theorem dX12_marks_213 : decode cX12_marks 213 = .ok (.iload 7, 2) := by decide +kernel
theorem dX12_marks_215 : decode cX12_marks 215 = .ok (.iadd, 1) := by decide +kernel
theorem dX12_marks_216 : decode cX12_marks 216 = .ok (.iaload, 1) := by decide +kernel
theorem dX12_marks_217 : decode cX12_marks 217 = .ok (.goto 4, 3) := by decide +kernel
theorem dX12_marks_220 : decode cX12_marks 220 = .ok (.iconst (-1), 1) := by decide +kernel
theorem dX12_marks_221 : decode cX12_marks 221 = .ok (.iastore, 1) := by decide +kernel
theorem dX12_marks_222 : decode cX12_marks 222 = .ok (.iinc 7 1, 3) := by decide +kernel
theorem dX12_marks_225 : decode cX12_marks 225 = .ok (.goto (-51), 3) := by decide +kernel
theorem dX12_marks_228 : decode cX12_marks 228 = .ok (.aload_n 0, 1) := by decide +kernel
theorem dX12_marks_229 : decode cX12_marks 229 = .ok (.sipush 200, 3) := by decide +kernel
theorem dX12_marks_232 : decode cX12_marks 232 = .ok (.iconst 1, 1) := by decide +kernel
theorem dX12_marks_233 : decode cX12_marks 233 = .ok (.invokevirtual 171, 3) := by decide +kernel
theorem dX12_marks_236 : decode cX12_marks 236 = .ok (.iload_n 2, 1) := by decide +kernel
theorem dX12_marks_237 : decode cX12_marks 237 = .ok (.if_icmp .ne 32, 3) := by decide +kernel
theorem dX12_marks_240 : decode cX12_marks 240 = .ok (.aload_n 0, 1) := by decide +kernel
theorem dX12_marks_241 : decode cX12_marks 241 = .ok (.sipush 200, 3) := by decide +kernel
theorem dX12_marks_244 : decode cX12_marks 244 = .ok (.iconst 0, 1) := by decide +kernel
theorem dX12_marks_245 : decode cX12_marks 245 = .ok (.invokevirtual 171, 3) := by decide +kernel
theorem dX12_marks_248 : decode cX12_marks 248 = .ok (.iload_n 3, 1) := by decide +kernel
theorem dX12_marks_249 : decode cX12_marks 249 = .ok (.if_icmp .ne 20, 3) := by decide +kernel
theorem dX12_marks_252 : decode cX12_marks 252 = .ok (.iload 5, 2) := by decide +kernel
theorem dX12_marks_254 : decode cX12_marks 254 = .ok (.iload 4, 2) := by decide +kernel
theorem dX12_marks_256 : decode cX12_marks 256 = .ok (.if_icmp .ne 10, 3) := by decide +kernel
theorem dX12_marks_259 : decode cX12_marks 259 = .ok (.aload_n 0, 1) := by decide +kernel
theorem dX12_marks_260 : decode cX12_marks 260 = .ok (.iload 6, 2) := by decide +kernel
theorem dX12_marks_262 : decode cX12_marks 262 = .ok (.invokevirtual 60, 3) := by decide +kernel
theorem dX12_marks_265 : decode cX12_marks 265 = .ok (.ireturn, 1) := by decide +kernel
theorem dX12_marks_266 : decode cX12_marks 266 = .ok (.iinc 5 1, 3) := by decide +kernel
theorem dX12_marks_269 : decode cX12_marks 269 = .ok (.iinc 6 1, 3) := by decide +kernel
theorem dX12_marks_272 : decode cX12_marks 272 = .ok (.goto (-114), 3) := by decide +kernel
theorem dX12_marks_275 : decode cX12_marks 275 = .ok (.aload_n 0, 1) := by decide +kernel
theorem dX12_marks_276 : decode cX12_marks 276 = .ok (.iload 4, 2) := by decide +kernel
theorem dX12_marks_278 : decode cX12_marks 278 = .ok (.ifCond .ge 8, 3) := by decide +kernel
theorem dX12_marks_281 : decode cX12_marks 281 = .ok (.iload 5, 2) := by decide +kernel
theorem dX12_marks_283 : decode cX12_marks 283 = .ok (.goto 5, 3) := by decide +kernel
theorem dX12_marks_286 : decode cX12_marks 286 = .ok (.ldc 195, 2) := by decide +kernel
theorem dX12_marks_288 : decode cX12_marks 288 = .ok (.invokevirtual 60, 3) := by decide +kernel
theorem dX12_marks_291 : decode cX12_marks 291 = .ok (.ireturn, 1) := by decide +kernel
theorem dX12_isSafe_0 : decode cX12_isSafe 0 = .ok (.iconst 0, 1) := by decide +kernel
theorem dX12_isSafe_1 : decode cX12_isSafe 1 = .ok (.istore_n 2, 1) := by decide +kernel
theorem dX12_isSafe_2 : decode cX12_isSafe 2 = .ok (.iload_n 2, 1) := by decide +kernel
theorem dX12_isSafe_3 : decode cX12_isSafe 3 = .ok (.aload_n 0, 1) := by decide +kernel
theorem dX12_isSafe_4 : decode cX12_isSafe 4 = .ok (.getfield 7, 3) := by decide +kernel
theorem dX12_isSafe_7 : decode cX12_isSafe 7 = .ok (.iconst 2, 1) := by decide +kernel
theorem dX12_isSafe_8 : decode cX12_isSafe 8 = .ok (.iaload, 1) := by decide +kernel
theorem dX12_isSafe_9 : decode cX12_isSafe 9 = .ok (.if_icmp .ge 40, 3) := by decide +kernel
theorem dX12_isSafe_12 : decode cX12_isSafe 12 = .ok (.aload_n 0, 1) := by decide +kernel
theorem dX12_isSafe_13 : decode cX12_isSafe 13 = .ok (.getfield 7, 3) := by decide +kernel
theorem dX12_isSafe_16 : decode cX12_isSafe 16 = .ok (.sipush 224, 3) := by decide +kernel
theorem dX12_isSafe_19 : decode cX12_isSafe 19 = .ok (.iload_n 2, 1) := by decide +kernel
theorem dX12_isSafe_20 : decode cX12_isSafe 20 = .ok (.iadd, 1) := by decide +kernel
theorem dX12_isSafe_21 : decode cX12_isSafe 21 = .ok (.iload_n 1, 1) := by decide +kernel
theorem dX12_isSafe_22 : decode cX12_isSafe 22 = .ok (.iload_n 2, 1) := by decide +kernel
theorem dX12_isSafe_23 : decode cX12_isSafe 23 = .ok (.invokestatic 221, 3) := by decide +kernel
theorem dX12_isSafe_26 : decode cX12_isSafe 26 = .ok (.ifCond .eq 7, 3) := by decide +kernel
theorem dX12_isSafe_29 : decode cX12_isSafe 29 = .ok (.iconst (-1), 1) := by decide +kernel
theorem dX12_isSafe_30 : decode cX12_isSafe 30 = .ok (.goto 12, 3) := by decide +kernel
theorem dX12_isSafe_33 : decode cX12_isSafe 33 = .ok (.aload_n 0, 1) := by decide +kernel
theorem dX12_isSafe_34 : decode cX12_isSafe 34 = .ok (.getfield 7, 3) := by decide +kernel
theorem dX12_isSafe_37 : decode cX12_isSafe 37 = .ok (.bipush 24, 2) := by decide +kernel
theorem dX12_isSafe_39 : decode cX12_isSafe 39 = .ok (.iload_n 2, 1) := by decide +kernel
theorem dX12_isSafe_40 : decode cX12_isSafe 40 = .ok (.iadd, 1) := by decide +kernel
theorem dX12_isSafe_41 : decode cX12_isSafe 41 = .ok (.iaload, 1) := by decide +kernel
theorem dX12_isSafe_42 : decode cX12_isSafe 42 = .ok (.iastore, 1) := by decide +kernel
theorem dX12_isSafe_43 : decode cX12_isSafe 43 = .ok (.iinc 2 1, 3) := by decide +kernel
theorem dX12_isSafe_46 : decode cX12_isSafe 46 = .ok (.goto (-44), 3) := by decide +kernel
theorem dX12_isSafe_49 : decode cX12_isSafe 49 = .ok (.aload_n 0, 1) := by decide +kernel
theorem dX12_isSafe_50 : decode cX12_isSafe 50 = .ok (.sipush 200, 3) := by decide +kernel
theorem dX12_isSafe_53 : decode cX12_isSafe 53 = .ok (.invokevirtual 200, 3) := by decide +kernel
theorem dX12_isSafe_56 : decode cX12_isSafe 56 = .ok (.aload_n 0, 1) := by decide +kernel
theorem dX12_isSafe_57 : decode cX12_isSafe 57 = .ok (.getfield 7, 3) := by decide +kernel
theorem dX12_isSafe_60 : decode cX12_isSafe 60 = .ok (.iconst 1, 1) := by decide +kernel
theorem dX12_isSafe_61 : decode cX12_isSafe 61 = .ok (.iaload, 1) := by decide +kernel
theorem dX12_isSafe_62 : decode cX12_isSafe 62 = .ok (.if_icmp .gt 7, 3) := by decide +kernel
theorem dX12_isSafe_65 : decode cX12_isSafe 65 = .ok (.iconst 1, 1) := by decide +kernel
theorem dX12_isSafe_66 : decode cX12_isSafe 66 = .ok (.goto 4, 3) := by decide +kernel
theorem dX12_isSafe_69 : decode cX12_isSafe 69 = .ok (.iconst 0, 1) := by decide +kernel
theorem dX12_isSafe_70 : decode cX12_isSafe 70 = .ok (.ireturn, 1) := by decide +kernel
theorem dX12_rescue_0 : decode cX12_rescue 0 = .ok (.aload_n 0, 1) := by decide +kernel
theorem dX12_rescue_1 : decode cX12_rescue 1 = .ok (.invokevirtual 188, 3) := by decide +kernel
theorem dX12_rescue_4 : decode cX12_rescue 4 = .ok (.ifCond .ne 6, 3) := by decide +kernel
theorem dX12_rescue_7 : decode cX12_rescue 7 = .ok (.ldc 192, 2) := by decide +kernel
theorem dX12_rescue_9 : decode cX12_rescue 9 = .ok (.ireturn, 1) := by decide +kernel
theorem dX12_rescue_10 : decode cX12_rescue 10 = .ok (.iload_n 1, 1) := by decide +kernel
theorem dX12_rescue_11 : decode cX12_rescue 11 = .ok (.ifCond .ge 6, 3) := by decide +kernel
theorem dX12_rescue_14 : decode cX12_rescue 14 = .ok (.ldc 55, 2) := by decide +kernel
theorem dX12_rescue_16 : decode cX12_rescue 16 = .ok (.ireturn, 1) := by decide +kernel
theorem dX12_rescue_17 : decode cX12_rescue 17 = .ok (.iconst 0, 1) := by decide +kernel
theorem dX12_rescue_18 : decode cX12_rescue 18 = .ok (.istore_n 2, 1) := by decide +kernel
theorem dX12_rescue_19 : decode cX12_rescue 19 = .ok (.iconst 0, 1) := by decide +kernel
theorem dX12_rescue_20 : decode cX12_rescue 20 = .ok (.istore_n 3, 1) := by decide +kernel
theorem dX12_rescue_21 : decode cX12_rescue 21 = .ok (.iload_n 3, 1) := by decide +kernel
theorem dX12_rescue_22 : decode cX12_rescue 22 = .ok (.aload_n 0, 1) := by decide +kernel
theorem dX12_rescue_23 : decode cX12_rescue 23 = .ok (.getfield 7, 3) := by decide +kernel
theorem dX12_rescue_26 : decode cX12_rescue 26 = .ok (.iconst 2, 1) := by decide +kernel
theorem dX12_rescue_27 : decode cX12_rescue 27 = .ok (.iaload, 1) := by decide +kernel
theorem dX12_rescue_28 : decode cX12_rescue 28 = .ok (.if_icmp .ge 31, 3) := by decide +kernel
theorem dX12_rescue_31 : decode cX12_rescue 31 = .ok (.iload_n 2, 1) := by decide +kernel
theorem dX12_rescue_32 : decode cX12_rescue 32 = .ok (.aload_n 0, 1) := by decide +kernel
theorem dX12_rescue_33 : decode cX12_rescue 33 = .ok (.getfield 7, 3) := by decide +kernel
theorem dX12_rescue_36 : decode cX12_rescue 36 = .ok (.bipush 24, 2) := by decide +kernel
theorem dX12_rescue_38 : decode cX12_rescue 38 = .ok (.iload_n 3, 1) := by decide +kernel
theorem dX12_rescue_39 : decode cX12_rescue 39 = .ok (.iadd, 1) := by decide +kernel
theorem dX12_rescue_40 : decode cX12_rescue 40 = .ok (.iaload, 1) := by decide +kernel
theorem dX12_rescue_41 : decode cX12_rescue 41 = .ok (.ifCond .ge 9, 3) := by decide +kernel
theorem dX12_rescue_44 : decode cX12_rescue 44 = .ok (.iconst 1, 1) := by decide +kernel
theorem dX12_rescue_45 : decode cX12_rescue 45 = .ok (.iload_n 3, 1) := by decide +kernel
theorem dX12_rescue_46 : decode cX12_rescue 46 = .ok (.ishl, 1) := by decide +kernel
theorem dX12_rescue_47 : decode cX12_rescue 47 = .ok (.goto 4, 3) := by decide +kernel
theorem dX12_rescue_50 : decode cX12_rescue 50 = .ok (.iconst 0, 1) := by decide +kernel
theorem dX12_rescue_51 : decode cX12_rescue 51 = .ok (.ior, 1) := by decide +kernel
theorem dX12_rescue_52 : decode cX12_rescue 52 = .ok (.istore_n 2, 1) := by decide +kernel
theorem dX12_rescue_53 : decode cX12_rescue 53 = .ok (.iinc 3 1, 3) := by decide +kernel
theorem dX12_rescue_56 : decode cX12_rescue 56 = .ok (.goto (-35), 3) := by decide +kernel
theorem dX12_rescue_59 : decode cX12_rescue 59 = .ok (.aload_n 0, 1) := by decide +kernel
theorem dX12_rescue_60 : decode cX12_rescue 60 = .ok (.iconst 0, 1) := by decide +kernel
theorem dX12_rescue_61 : decode cX12_rescue 61 = .ok (.sipush 200, 3) := by decide +kernel
theorem dX12_rescue_64 : decode cX12_rescue 64 = .ok (.invokevirtual 154, 3) := by decide +kernel
theorem dX12_rescue_67 : decode cX12_rescue 67 = .ok (.iconst 1, 1) := by decide +kernel
theorem dX12_rescue_68 : decode cX12_rescue 68 = .ok (.aload_n 0, 1) := by decide +kernel
theorem dX12_rescue_69 : decode cX12_rescue 69 = .ok (.getfield 7, 3) := by decide +kernel
theorem dX12_rescue_72 : decode cX12_rescue 72 = .ok (.iconst 2, 1) := by decide +kernel
theorem dX12_rescue_73 : decode cX12_rescue 73 = .ok (.iaload, 1) := by decide +kernel
theorem dX12_rescue_74 : decode cX12_rescue 74 = .ok (.ishl, 1) := by decide +kernel
theorem dX12_rescue_75 : decode cX12_rescue 75 = .ok (.iconst 1, 1) := by decide +kernel
theorem dX12_rescue_76 : decode cX12_rescue 76 = .ok (.isub, 1) := by decide +kernel
theorem dX12_rescue_77 : decode cX12_rescue 77 = .ok (.istore_n 3, 1) := by decide +kernel
theorem dX12_rescue_78 : decode cX12_rescue 78 = .ok (.iload_n 3, 1) := by decide +kernel
theorem dX12_rescue_79 : decode cX12_rescue 79 = .ok (.istore 4, 2) := by decide +kernel
theorem dX12_rescue_81 : decode cX12_rescue 81 = .ok (.iload 4, 2) := by decide +kernel
theorem dX12_rescue_83 : decode cX12_rescue 83 = .ok (.ifCond .lt 105, 3) := by decide +kernel
theorem dX12_rescue_86 : decode cX12_rescue 86 = .ok (.iload 4, 2) := by decide +kernel
theorem dX12_rescue_88 : decode cX12_rescue 88 = .ok (.iload_n 3, 1) := by decide +kernel
theorem dX12_rescue_89 : decode cX12_rescue 89 = .ok (.if_icmp .ne 7, 3) := by decide +kernel
theorem dX12_rescue_92 : decode cX12_rescue 92 = .ok (.iconst 1, 1) := by decide +kernel
theorem dX12_rescue_93 : decode cX12_rescue 93 = .ok (.goto 4, 3) := by decide +kernel
theorem dX12_rescue_96 : decode cX12_rescue 96 = .ok (.iconst 0, 1) := by decide +kernel
theorem dX12_rescue_97 : decode cX12_rescue 97 = .ok (.istore 5, 2) := by decide +kernel
theorem dX12_rescue_99 : decode cX12_rescue 99 = .ok (.iconst 0, 1) := by decide +kernel
theorem dX12_rescue_100 : decode cX12_rescue 100 = .ok (.istore 6, 2) := by decide +kernel
theorem dX12_rescue_102 : decode cX12_rescue 102 = .ok (.iload 6, 2) := by decide +kernel
theorem dX12_rescue_104 : decode cX12_rescue 104 = .ok (.aload_n 0, 1) := by decide +kernel
theorem dX12_rescue_105 : decode cX12_rescue 105 = .ok (.getfield 7, 3) := by decide +kernel
theorem dX12_rescue_108 : decode cX12_rescue 108 = .ok (.iconst 2, 1) := by decide +kernel
theorem dX12_rescue_109 : decode cX12_rescue 109 = .ok (.iaload, 1) := by decide +kernel
theorem dX12_rescue_110 : decode cX12_rescue 110 = .ok (.if_icmp .ge 46, 3) := by decide +kernel
theorem dX12_rescue_113 : decode cX12_rescue 113 = .ok (.iload 5, 2) := by decide +kernel
theorem dX12_rescue_115 : decode cX12_rescue 115 = .ok (.ifCond .ne 28, 3) := by decide +kernel
theorem dX12_rescue_118 : decode cX12_rescue 118 = .ok (.iload 4, 2) := by decide +kernel
theorem dX12_rescue_120 : decode cX12_rescue 120 = .ok (.iload 6, 2) := by decide +kernel
theorem dX12_rescue_122 : decode cX12_rescue 122 = .ok (.invokestatic 221, 3) := by decide +kernel
theorem dX12_rescue_125 : decode cX12_rescue 125 = .ok (.ifCond .ne 22, 3) := by decide +kernel
theorem dX12_rescue_128 : decode cX12_rescue 128 = .ok (.aload_n 0, 1) := by decide +kernel
theorem dX12_rescue_129 : decode cX12_rescue 129 = .ok (.getfield 32, 3) := by decide +kernel
theorem dX12_rescue_132 : decode cX12_rescue 132 = .ok (.iload 4, 2) := by decide +kernel
theorem dX12_rescue_134 : decode cX12_rescue 134 = .ok (.iconst 1, 1) := by decide +kernel
theorem dX12_rescue_135 : decode cX12_rescue 135 = .ok (.iload 6, 2) := by decide +kernel
theorem dX12_rescue_137 : decode cX12_rescue 137 = .ok (.ishl, 1) := by decide +kernel
theorem dX12_rescue_138 : decode cX12_rescue 138 = .ok (.ior, 1) := by decide +kernel
theorem dX12_rescue_139 : decode cX12_rescue 139 = .ok (.baload, 1) := by decide +kernel
theorem dX12_rescue_140 : decode cX12_rescue 140 = .ok (.ifCond .eq 7, 3) := by decide +kernel
theorem dX12_rescue_143 : decode cX12_rescue 143 = .ok (.iconst 1, 1) := by decide +kernel
theorem dX12_rescue_144 : decode cX12_rescue 144 = .ok (.goto 4, 3) := by decide +kernel
theorem dX12_rescue_147 : decode cX12_rescue 147 = .ok (.iconst 0, 1) := by decide +kernel
theorem dX12_rescue_148 : decode cX12_rescue 148 = .ok (.istore 5, 2) := by decide +kernel
theorem dX12_rescue_150 : decode cX12_rescue 150 = .ok (.iinc 6 1, 3) := by decide +kernel
theorem dX12_rescue_153 : decode cX12_rescue 153 = .ok (.goto (-51), 3) := by decide +kernel
theorem dX12_rescue_156 : decode cX12_rescue 156 = .ok (.aload_n 0, 1) := by decide +kernel
