theorem dX11_go_230 : decode cX11_go 230 = .ok (.goto 4, 3) := by decide +kernel
theorem dX11_go_233 : decode cX11_go 233 = .ok (.iconst 0, 1) := by decide +kernel
theorem dX11_go_234 : decode cX11_go 234 = .ok (.istore_n 3, 1) := by decide +kernel
theorem dX11_go_235 : decode cX11_go 235 = .ok (.aload_n 0, 1) := by decide +kernel
theorem dX11_go_236 : decode cX11_go 236 = .ok (.getfield 21, 3) := by decide +kernel
theorem dX11_go_239 : decode cX11_go 239 = .ok (.aload_n 0, 1) := by decide +kernel
theorem dX11_go_240 : decode cX11_go 240 = .ok (.getfield 24, 3) := by decide +kernel
theorem dX11_go_243 : decode cX11_go 243 = .ok (.isub, 1) := by decide +kernel
theorem dX11_go_244 : decode cX11_go 244 = .ok (.bipush 9, 2) := by decide +kernel
theorem dX11_go_246 : decode cX11_go 246 = .ok (.if_icmp .ge 23, 3) := by decide +kernel
theorem dX11_go_249 : decode cX11_go 249 = .ok (.aload_n 0, 1) := by decide +kernel
theorem dX11_go_250 : decode cX11_go 250 = .ok (.ldc2_w 48, 3) := by decide +kernel
theorem dX11_go_253 : decode cX11_go 253 = .ok (.aload_n 0, 1) := by decide +kernel
theorem dX11_go_254 : decode cX11_go 254 = .ok (.getfield 37, 3) := by decide +kernel
theorem dX11_go_257 : decode cX11_go 257 = .ok (.lmul, 1) := by decide +kernel
theorem dX11_go_258 : decode cX11_go 258 = .ok (.iload 4, 2) := by decide +kernel
theorem dX11_go_260 : decode cX11_go 260 = .ok (.i2l, 1) := by decide +kernel
theorem dX11_go_261 : decode cX11_go 261 = .ok (.ladd, 1) := by decide +kernel
theorem dX11_go_262 : decode cX11_go 262 = .ok (.ldc2_w 50, 3) := by decide +kernel
theorem dX11_go_265 : decode cX11_go 265 = .ok (.lsub, 1) := by decide +kernel
theorem dX11_go_266 : decode cX11_go 266 = .ok (.putfield 37, 3) := by decide +kernel
theorem dX11_go_269 : decode cX11_go 269 = .ok (.aload_n 0, 1) := by decide +kernel
theorem dX11_go_270 : decode cX11_go 270 = .ok (.getfield 21, 3) := by decide +kernel
theorem dX11_go_273 : decode cX11_go 273 = .ok (.aload_n 0, 1) := by decide +kernel
theorem dX11_go_274 : decode cX11_go 274 = .ok (.getfield 24, 3) := by decide +kernel
theorem dX11_go_277 : decode cX11_go 277 = .ok (.isub, 1) := by decide +kernel
theorem dX11_go_278 : decode cX11_go 278 = .ok (.iconst 5, 1) := by decide +kernel
theorem dX11_go_279 : decode cX11_go 279 = .ok (.if_icmp .ge 20, 3) := by decide +kernel
theorem dX11_go_282 : decode cX11_go 282 = .ok (.aload_n 0, 1) := by decide +kernel
theorem dX11_go_283 : decode cX11_go 283 = .ok (.bipush 10, 2) := by decide +kernel
theorem dX11_go_285 : decode cX11_go 285 = .ok (.aload_n 0, 1) := by decide +kernel
theorem dX11_go_286 : decode cX11_go 286 = .ok (.getfield 41, 3) := by decide +kernel
theorem dX11_go_289 : decode cX11_go 289 = .ok (.imul, 1) := by decide +kernel
theorem dX11_go_290 : decode cX11_go 290 = .ok (.iload 4, 2) := by decide +kernel
theorem dX11_go_292 : decode cX11_go 292 = .ok (.iadd, 1) := by decide +kernel
theorem dX11_go_293 : decode cX11_go 293 = .ok (.bipush 48, 2) := by decide +kernel
theorem dX11_go_295 : decode cX11_go 295 = .ok (.isub, 1) := by decide +kernel
theorem dX11_go_296 : decode cX11_go 296 = .ok (.putfield 41, 3) := by decide +kernel
theorem dX11_go_299 : decode cX11_go 299 = .ok (.aload_n 0, 1) := by decide +kernel
theorem dX11_go_300 : decode cX11_go 300 = .ok (.dup, 1) := by decide +kernel
theorem dX11_go_301 : decode cX11_go 301 = .ok (.getfield 21, 3) := by decide +kernel
theorem dX11_go_304 : decode cX11_go 304 = .ok (.iconst 1, 1) := by decide +kernel
theorem dX11_go_305 : decode cX11_go 305 = .ok (.iadd, 1) := by decide +kernel
theorem dX11_go_306 : decode cX11_go 306 = .ok (.putfield 21, 3) := by decide +kernel
theorem dX11_go_309 : decode cX11_go 309 = .ok (.goto (-132), 3) := by decide +kernel
theorem dX11_go_312 : decode cX11_go 312 = .ok (.aload_n 0, 1) := by decide +kernel
theorem dX11_go_313 : decode cX11_go 313 = .ok (.iload_n 3, 1) := by decide +kernel
theorem dX11_go_314 : decode cX11_go 314 = .ok (.ifCond .eq 20, 3) := by decide +kernel
theorem dX11_go_317 : decode cX11_go 317 = .ok (.iload_n 2, 1) := by decide +kernel
theorem dX11_go_318 : decode cX11_go 318 = .ok (.ifCond .ne 20, 3) := by decide +kernel
theorem dX11_go_321 : decode cX11_go 321 = .ok (.aload_n 0, 1) := by decide +kernel
theorem dX11_go_322 : decode cX11_go 322 = .ok (.getfield 21, 3) := by decide +kernel
theorem dX11_go_325 : decode cX11_go 325 = .ok (.aload_n 0, 1) := by decide +kernel
theorem dX11_go_326 : decode cX11_go 326 = .ok (.getfield 24, 3) := by decide +kernel
theorem dX11_go_329 : decode cX11_go 329 = .ok (.isub, 1) := by decide +kernel
theorem dX11_go_330 : decode cX11_go 330 = .ok (.iconst 5, 1) := by decide +kernel
theorem dX11_go_331 : decode cX11_go 331 = .ok (.if_icmp .le 7, 3) := by decide +kernel
theorem dX11_go_334 : decode cX11_go 334 = .ok (.iconst 1, 1) := by decide +kernel
theorem dX11_go_335 : decode cX11_go 335 = .ok (.goto 12, 3) := by decide +kernel
theorem dX11_go_338 : decode cX11_go 338 = .ok (.iload_n 2, 1) := by decide +kernel
theorem dX11_go_339 : decode cX11_go 339 = .ok (.ifCond .eq 7, 3) := by decide +kernel
theorem dX11_go_342 : decode cX11_go 342 = .ok (.iconst 2, 1) := by decide +kernel
theorem dX11_go_343 : decode cX11_go 343 = .ok (.goto 4, 3) := by decide +kernel
theorem dX11_go_346 : decode cX11_go 346 = .ok (.iconst 3, 1) := by decide +kernel
theorem dX11_go_347 : decode cX11_go 347 = .ok (.putfield 27, 3) := by decide +kernel
theorem dX11_go_350 : decode cX11_go 350 = .ok (.return_, 1) := by decide +kernel
theorem dX11_two_0 : decode cX11_two 0 = .ok (.ldc2_w 48, 3) := by decide +kernel
theorem dX11_two_3 : decode cX11_two 3 = .ok (.iload_n 0, 1) := by decide +kernel
theorem dX11_two_4 : decode cX11_two 4 = .ok (.i2l, 1) := by decide +kernel
theorem dX11_two_5 : decode cX11_two 5 = .ok (.ldc2_w 50, 3) := by decide +kernel
theorem dX11_two_8 : decode cX11_two 8 = .ok (.lsub, 1) := by decide +kernel
theorem dX11_two_9 : decode cX11_two 9 = .ok (.lmul, 1) := by decide +kernel
theorem dX11_two_10 : decode cX11_two 10 = .ok (.iload_n 1, 1) := by decide +kernel
theorem dX11_two_11 : decode cX11_two 11 = .ok (.i2l, 1) := by decide +kernel
theorem dX11_two_12 : decode cX11_two 12 = .ok (.ladd, 1) := by decide +kernel
theorem dX11_two_13 : decode cX11_two 13 = .ok (.ldc2_w 50, 3) := by decide +kernel
theorem dX11_two_16 : decode cX11_two 16 = .ok (.lsub, 1) := by decide +kernel
theorem dX11_two_17 : decode cX11_two 17 = .ok (.lreturn, 1) := by decide +kernel
set_option maxRecDepth 20000 in
theorem ggX11_four_X11_two : GoodIn wsX11_four wsX11_two := goodIn_r _ [5, 6, 7] (by decide +kernel) (by decide +kernel)
set_option maxRecDepth 20000 in
theorem gX11_four_X11_two : GoodIn wsX11_four (va_wsS RX11 54 yX11_two wsX11_two) := goodIn_app (goodIn_of _ (by decide +kernel)) ggX11_four_X11_two
theorem dX11_four_0 : decode cX11_four 0 = .ok (.ldc2_w 52, 3) := by decide +kernel
theorem dX11_four_3 : decode cX11_four 3 = .ok (.iload_n 0, 1) := by decide +kernel
theorem dX11_four_4 : decode cX11_four 4 = .ok (.iload_n 1, 1) := by decide +kernel
theorem dX11_four_5 : decode cX11_four 5 = .ok (.invokestatic 54, 3) := by decide +kernel
theorem dX11_four_8 : decode cX11_four 8 = .ok (.lmul, 1) := by decide +kernel
theorem dX11_four_9 : decode cX11_four 9 = .ok (.iload_n 2, 1) := by decide +kernel
theorem dX11_four_10 : decode cX11_four 10 = .ok (.iload_n 3, 1) := by decide +kernel
theorem dX11_four_11 : decode cX11_four 11 = .ok (.invokestatic 54, 3) := by decide +kernel
theorem dX11_four_14 : decode cX11_four 14 = .ok (.ladd, 1) := by decide +kernel
theorem dX11_four_15 : decode cX11_four 15 = .ok (.lreturn, 1) := by decide +kernel
set_option maxRecDepth 20000 in
theorem ggX11_five_X11_four : GoodIn wsX11_five wsX11_four := goodIn_r _ [6, 7, 8, 9, 5, 10, 1, 2] (by decide +kernel) (by decide +kernel)
set_option maxRecDepth 20000 in
theorem gX11_five_X11_four : GoodIn wsX11_five (va_wsS RX11 58 yX11_four wsX11_four) := goodIn_app (goodIn_of _ (by decide +kernel)) ggX11_five_X11_four
theorem dX11_five_0 : decode cX11_five 0 = .ok (.ldc2_w 48, 3) := by decide +kernel
theorem dX11_five_3 : decode cX11_five 3 = .ok (.iload_n 0, 1) := by decide +kernel
theorem dX11_five_4 : decode cX11_five 4 = .ok (.iload_n 1, 1) := by decide +kernel
theorem dX11_five_5 : decode cX11_five 5 = .ok (.iload_n 2, 1) := by decide +kernel
theorem dX11_five_6 : decode cX11_five 6 = .ok (.iload_n 3, 1) := by decide +kernel
theorem dX11_five_7 : decode cX11_five 7 = .ok (.invokestatic 58, 3) := by decide +kernel
theorem dX11_five_10 : decode cX11_five 10 = .ok (.lmul, 1) := by decide +kernel
theorem dX11_five_11 : decode cX11_five 11 = .ok (.iload 4, 2) := by decide +kernel
theorem dX11_five_13 : decode cX11_five 13 = .ok (.i2l, 1) := by decide +kernel
theorem dX11_five_14 : decode cX11_five 14 = .ok (.ladd, 1) := by decide +kernel
theorem dX11_five_15 : decode cX11_five 15 = .ok (.ldc2_w 50, 3) := by decide +kernel
theorem dX11_five_18 : decode cX11_five 18 = .ok (.lsub, 1) := by decide +kernel
theorem dX11_five_19 : decode cX11_five 19 = .ok (.lreturn, 1) := by decide +kernel
set_option maxRecDepth 20000 in
theorem ggX11_six_X11_four : GoodIn wsX11_six wsX11_four := goodIn_r _ [5, 1, 6, 7, 4, 8, 9, 10] (by decide +kernel) (by decide +kernel)
set_option maxRecDepth 20000 in
theorem gX11_six_X11_four : GoodIn wsX11_six (va_wsS RX11 58 yX11_four wsX11_four) := goodIn_app (goodIn_of _ (by decide +kernel)) ggX11_six_X11_four
set_option maxRecDepth 20000 in
theorem ggX11_six_X11_two : GoodIn wsX11_six wsX11_two := goodIn_r _ [8, 9, 10] (by decide +kernel) (by decide +kernel)
set_option maxRecDepth 20000 in
theorem gX11_six_X11_two : GoodIn wsX11_six (va_wsS RX11 54 yX11_two wsX11_two) := goodIn_app (goodIn_of _ (by decide +kernel)) ggX11_six_X11_two
theorem dX11_six_0 : decode cX11_six 0 = .ok (.ldc2_w 52, 3) := by decide +kernel
theorem dX11_six_3 : decode cX11_six 3 = .ok (.iload_n 0, 1) := by decide +kernel
theorem dX11_six_4 : decode cX11_six 4 = .ok (.iload_n 1, 1) := by decide +kernel
theorem dX11_six_5 : decode cX11_six 5 = .ok (.iload_n 2, 1) := by decide +kernel
theorem dX11_six_6 : decode cX11_six 6 = .ok (.iload_n 3, 1) := by decide +kernel
theorem dX11_six_7 : decode cX11_six 7 = .ok (.invokestatic 58, 3) := by decide +kernel
theorem dX11_six_10 : decode cX11_six 10 = .ok (.lmul, 1) := by decide +kernel
theorem dX11_six_11 : decode cX11_six 11 = .ok (.iload 4, 2) := by decide +kernel
theorem dX11_six_13 : decode cX11_six 13 = .ok (.iload 5, 2) := by decide +kernel
theorem dX11_six_15 : decode cX11_six 15 = .ok (.invokestatic 54, 3) := by decide +kernel
theorem dX11_six_18 : decode cX11_six 18 = .ok (.ladd, 1) := by decide +kernel
theorem dX11_six_19 : decode cX11_six 19 = .ok (.lreturn, 1) := by decide +kernel
theorem dX11_isWord_0 : decode cX11_isWord 0 = .ok (.aload_n 0, 1) := by decide +kernel
theorem dX11_isWord_1 : decode cX11_isWord 1 = .ok (.getfield 27, 3) := by decide +kernel
theorem dX11_isWord_4 : decode cX11_isWord 4 = .ok (.iconst 2, 1) := by decide +kernel
theorem dX11_isWord_5 : decode cX11_isWord 5 = .ok (.if_icmp .ne 16, 3) := by decide +kernel
theorem dX11_isWord_8 : decode cX11_isWord 8 = .ok (.aload_n 0, 1) := by decide +kernel
theorem dX11_isWord_9 : decode cX11_isWord 9 = .ok (.getfield 37, 3) := by decide +kernel
theorem dX11_isWord_12 : decode cX11_isWord 12 = .ok (.lload_n 1, 1) := by decide +kernel
theorem dX11_isWord_13 : decode cX11_isWord 13 = .ok (.lcmp, 1) := by decide +kernel
theorem dX11_isWord_14 : decode cX11_isWord 14 = .ok (.ifCond .ne 7, 3) := by decide +kernel
theorem dX11_isWord_17 : decode cX11_isWord 17 = .ok (.iconst 1, 1) := by decide +kernel
theorem dX11_isWord_18 : decode cX11_isWord 18 = .ok (.goto 4, 3) := by decide +kernel
theorem dX11_isWord_21 : decode cX11_isWord 21 = .ok (.iconst 0, 1) := by decide +kernel
theorem dX11_isWord_22 : decode cX11_isWord 22 = .ok (.ireturn, 1) := by decide +kernel
set_option maxRecDepth 20000 in
theorem ggX11_isIndexWord_X11_five : GoodIn wsX11_isIndexWord wsX11_five := goodIn_r _ [4, 5, 6, 7, 8, 3, 9, 10, 11, 12, 13] (by decide +kernel) (by decide +kernel)
set_option maxRecDepth 20000 in
theorem gX11_isIndexWord_X11_five : GoodIn wsX11_isIndexWord (va_wsS RX11 62 yX11_five wsX11_five) := goodIn_app (goodIn_of _ (by decide +kernel)) ggX11_isIndexWord_X11_five
set_option maxRecDepth 20000 in
theorem ggX11_isIndexWord_X11_isWord : GoodIn wsX11_isIndexWord wsX11_isWord := goodIn_r _ [17, 18, 19, 20, 21, 22, 23, 24, 25, 26, 27, 28, 29, 30, 31, 32, 33, 34, 35, 36, 37, 38, 39, 40, 41] (by decide +kernel) (by decide +kernel)
set_option maxRecDepth 20000 in
theorem gX11_isIndexWord_X11_isWord : GoodIn wsX11_isIndexWord (wsV RX11 66 RX11 yX11_isWord wsX11_isWord) := goodIn_app (goodIn_of _ (by decide +kernel)) ggX11_isIndexWord_X11_isWord
theorem dX11_isIndexWord_0 : decode cX11_isIndexWord 0 = .ok (.aload_n 0, 1) := by decide +kernel
theorem dX11_isIndexWord_1 : decode cX11_isIndexWord 1 = .ok (.bipush 105, 2) := by decide +kernel
theorem dX11_isIndexWord_3 : decode cX11_isIndexWord 3 = .ok (.bipush 110, 2) := by decide +kernel
theorem dX11_isIndexWord_5 : decode cX11_isIndexWord 5 = .ok (.bipush 100, 2) := by decide +kernel
theorem dX11_isIndexWord_7 : decode cX11_isIndexWord 7 = .ok (.bipush 101, 2) := by decide +kernel
theorem dX11_isIndexWord_9 : decode cX11_isIndexWord 9 = .ok (.bipush 120, 2) := by decide +kernel
theorem dX11_isIndexWord_11 : decode cX11_isIndexWord 11 = .ok (.invokestatic 62, 3) := by decide +kernel
theorem dX11_isIndexWord_14 : decode cX11_isIndexWord 14 = .ok (.invokevirtual 66, 3) := by decide +kernel
theorem dX11_isIndexWord_17 : decode cX11_isIndexWord 17 = .ok (.ireturn, 1) := by decide +kernel
theorem dX11_bad_0 : decode cX11_bad 0 = .ok (.aload_n 0, 1) := by decide +kernel
theorem dX11_bad_1 : decode cX11_bad 1 = .ok (.aload_n 0, 1) := by decide +kernel
theorem dX11_bad_2 : decode cX11_bad 2 = .ok (.getfield 27, 3) := by decide +kernel
theorem dX11_bad_5 : decode cX11_bad 5 = .ok (.iconst 1, 1) := by decide +kernel
theorem dX11_bad_6 : decode cX11_bad 6 = .ok (.if_icmp .ne 7, 3) := by decide +kernel
theorem dX11_bad_9 : decode cX11_bad 9 = .ok (.iconst 1, 1) := by decide +kernel
theorem dX11_bad_10 : decode cX11_bad 10 = .ok (.goto 4, 3) := by decide +kernel
theorem dX11_bad_13 : decode cX11_bad 13 = .ok (.iload_n 1, 1) := by decide +kernel
theorem dX11_bad_14 : decode cX11_bad 14 = .ok (.putfield 70, 3) := by decide +kernel
theorem dX11_bad_17 : decode cX11_bad 17 = .ok (.aload_n 0, 1) := by decide +kernel
theorem dX11_bad_18 : decode cX11_bad 18 = .ok (.aload_n 0, 1) := by decide +kernel
theorem dX11_bad_19 : decode cX11_bad 19 = .ok (.getfield 24, 3) := by decide +kernel
theorem dX11_bad_22 : decode cX11_bad 22 = .ok (.putfield 73, 3) := by decide +kernel
theorem dX11_bad_25 : decode cX11_bad 25 = .ok (.iconst 0, 1) := by decide +kernel
theorem dX11_bad_26 : decode cX11_bad 26 = .ok (.ireturn, 1) := by decide +kernel
theorem dX11_init_0 : decode cX11_init 0 = .ok (.aload_n 0, 1) := by decide +kernel
theorem dX11_init_1 : decode cX11_init 1 = .ok (.invokespecial 76, 3) := by decide +kernel
theorem dX11_init_4 : decode cX11_init 4 = .ok (.aload_n 0, 1) := by decide +kernel
theorem dX11_init_5 : decode cX11_init 5 = .ok (.sipush 640, 3) := by decide +kernel
theorem dX11_init_8 : decode cX11_init 8 = .ok (.newarray .int, 2) := by decide +kernel
theorem dX11_init_10 : decode cX11_init 10 = .ok (.putfield 7, 3) := by decide +kernel
theorem dX11_init_13 : decode cX11_init 13 = .ok (.aload_n 0, 1) := by decide +kernel
theorem dX11_init_14 : decode cX11_init 14 = .ok (.sipush 3483, 3) := by decide +kernel
theorem dX11_init_17 : decode cX11_init 17 = .ok (.newarray .int, 2) := by decide +kernel
theorem dX11_init_19 : decode cX11_init 19 = .ok (.putfield 82, 3) := by decide +kernel
theorem dX11_init_22 : decode cX11_init 22 = .ok (.aload_n 0, 1) := by decide +kernel
theorem dX11_init_23 : decode cX11_init 23 = .ok (.sipush 3483, 3) := by decide +kernel
theorem dX11_init_26 : decode cX11_init 26 = .ok (.newarray .int, 2) := by decide +kernel
theorem dX11_init_28 : decode cX11_init 28 = .ok (.putfield 85, 3) := by decide +kernel
theorem dX11_init_31 : decode cX11_init 31 = .ok (.aload_n 0, 1) := by decide +kernel
theorem dX11_init_32 : decode cX11_init 32 = .ok (.ldc 88, 2) := by decide +kernel
theorem dX11_init_34 : decode cX11_init 34 = .ok (.newarray .int, 2) := by decide +kernel
theorem dX11_init_36 : decode cX11_init 36 = .ok (.putfield 89, 3) := by decide +kernel
theorem dX11_init_39 : decode cX11_init 39 = .ok (.aload_n 0, 1) := by decide +kernel
theorem dX11_init_40 : decode cX11_init 40 = .ok (.bipush 120, 2) := by decide +kernel
theorem dX11_init_42 : decode cX11_init 42 = .ok (.newarray .long, 2) := by decide +kernel
theorem dX11_init_44 : decode cX11_init 44 = .ok (.putfield 92, 3) := by decide +kernel
theorem dX11_init_47 : decode cX11_init 47 = .ok (.aload_n 0, 1) := by decide +kernel
theorem dX11_init_48 : decode cX11_init 48 = .ok (.bipush 120, 2) := by decide +kernel
theorem dX11_init_50 : decode cX11_init 50 = .ok (.newarray .long, 2) := by decide +kernel
theorem dX11_init_52 : decode cX11_init 52 = .ok (.putfield 96, 3) := by decide +kernel
theorem dX11_init_55 : decode cX11_init 55 = .ok (.aload_n 0, 1) := by decide +kernel
theorem dX11_init_56 : decode cX11_init 56 = .ok (.bipush 120, 2) := by decide +kernel
theorem dX11_init_58 : decode cX11_init 58 = .ok (.newarray .long, 2) := by decide +kernel
theorem dX11_init_60 : decode cX11_init 60 = .ok (.putfield 99, 3) := by decide +kernel
theorem dX11_init_63 : decode cX11_init 63 = .ok (.aload_n 0, 1) := by decide +kernel
theorem dX11_init_64 : decode cX11_init 64 = .ok (.bipush 120, 2) := by decide +kernel
theorem dX11_init_66 : decode cX11_init 66 = .ok (.newarray .long, 2) := by decide +kernel
theorem dX11_init_68 : decode cX11_init 68 = .ok (.putfield 102, 3) := by decide +kernel
theorem dX11_init_71 : decode cX11_init 71 = .ok (.aload_n 0, 1) := by decide +kernel
theorem dX11_init_72 : decode cX11_init 72 = .ok (.bipush 120, 2) := by decide +kernel
theorem dX11_init_74 : decode cX11_init 74 = .ok (.newarray .int, 2) := by decide +kernel
theorem dX11_init_76 : decode cX11_init 76 = .ok (.putfield 105, 3) := by decide +kernel
theorem dX11_init_79 : decode cX11_init 79 = .ok (.aload_n 0, 1) := by decide +kernel
theorem dX11_init_80 : decode cX11_init 80 = .ok (.bipush 120, 2) := by decide +kernel
theorem dX11_init_82 : decode cX11_init 82 = .ok (.newarray .long, 2) := by decide +kernel
theorem dX11_init_84 : decode cX11_init 84 = .ok (.putfield 108, 3) := by decide +kernel
theorem dX11_init_87 : decode cX11_init 87 = .ok (.return_, 1) := by decide +kernel
set_option maxRecDepth 20000 in
theorem ggX11_told_X11_bad : GoodIn wsX11_told wsX11_bad := goodIn_r _ [8, 1, 9, 10, 11, 35, 36, 37, 38, 39, 40, 41, 42, 43, 44, 45, 46, 47, 48, 49, 50, 51, 52, 53, 54, 55, 56] (by decide +kernel) (by decide +kernel)
set_option maxRecDepth 20000 in
theorem gX11_told_X11_bad : GoodIn wsX11_told (wsV RX11 111 RX11 yX11_bad wsX11_bad) := goodIn_app (goodIn_of _ (by decide +kernel)) ggX11_told_X11_bad
set_option maxRecDepth 20000 in
theorem ggX11_told_X11_isIn : GoodIn wsX11_told wsX11_isIn := goodIn_r _ [14] (by decide +kernel) (by decide +kernel)
set_option maxRecDepth 20000 in
theorem gX11_told_X11_isIn : GoodIn wsX11_told (va_wsS RX11 114 yX11_isIn wsX11_isIn) := goodIn_app (goodIn_of _ (by decide +kernel)) ggX11_told_X11_isIn
set_option maxRecDepth 20000 in
theorem ggX11_told_X11_go : GoodIn wsX11_told wsX11_go := goodIn_r _ [18, 19, 20, 21, 10, 1, 22, 2, 23, 24, 25, 26, 7, 27, 28, 29, 30, 31, 32, 33, 34, 35, 36, 37, 38, 39, 40, 41, 42, 43, 44, 45, 46, 47, 48, 49, 50, 51, 52, 53, 54, 55, 56] (by decide +kernel) (by decide +kernel)
set_option maxRecDepth 20000 in
theorem gX11_told_X11_go : GoodIn wsX11_told (wsV RX11 118 RX11 yX11_go wsX11_go) := goodIn_app (goodIn_of _ (by decide +kernel)) ggX11_told_X11_go
theorem dX11_told_0 : decode cX11_told 0 = .ok (.aload_n 0, 1) := by decide +kernel
theorem dX11_told_1 : decode cX11_told 1 = .ok (.getfield 27, 3) := by decide +kernel
theorem dX11_told_4 : decode cX11_told 4 = .ok (.iconst 3, 1) := by decide +kernel
theorem dX11_told_5 : decode cX11_told 5 = .ok (.if_icmp .eq 9, 3) := by decide +kernel
theorem dX11_told_8 : decode cX11_told 8 = .ok (.aload_n 0, 1) := by decide +kernel
theorem dX11_told_9 : decode cX11_told 9 = .ok (.iconst 1, 1) := by decide +kernel
theorem dX11_told_10 : decode cX11_told 10 = .ok (.invokevirtual 111, 3) := by decide +kernel
theorem dX11_told_13 : decode cX11_told 13 = .ok (.ireturn, 1) := by decide +kernel
theorem dX11_told_14 : decode cX11_told 14 = .ok (.aload_n 0, 1) := by decide +kernel
theorem dX11_told_15 : decode cX11_told 15 = .ok (.getfield 41, 3) := by decide +kernel
theorem dX11_told_18 : decode cX11_told 18 = .ok (.iload_n 2, 1) := by decide +kernel
theorem dX11_told_19 : decode cX11_told 19 = .ok (.iload_n 3, 1) := by decide +kernel
theorem dX11_told_20 : decode cX11_told 20 = .ok (.invokestatic 114, 3) := by decide +kernel
theorem dX11_told_23 : decode cX11_told 23 = .ok (.ifCond .ne 9, 3) := by decide +kernel
theorem dX11_told_26 : decode cX11_told 26 = .ok (.aload_n 0, 1) := by decide +kernel
theorem dX11_told_27 : decode cX11_told 27 = .ok (.iconst 2, 1) := by decide +kernel
theorem dX11_told_28 : decode cX11_told 28 = .ok (.invokevirtual 111, 3) := by decide +kernel
theorem dX11_told_31 : decode cX11_told 31 = .ok (.ireturn, 1) := by decide +kernel
theorem dX11_told_32 : decode cX11_told 32 = .ok (.aload_n 0, 1) := by decide +kernel
theorem dX11_told_33 : decode cX11_told 33 = .ok (.getfield 85, 3) := by decide +kernel
theorem dX11_told_36 : decode cX11_told 36 = .ok (.iload_n 1, 1) := by decide +kernel
theorem dX11_told_37 : decode cX11_told 37 = .ok (.aload_n 0, 1) := by decide +kernel
theorem dX11_told_38 : decode cX11_told 38 = .ok (.getfield 41, 3) := by decide +kernel
theorem dX11_told_41 : decode cX11_told 41 = .ok (.iastore, 1) := by decide +kernel
theorem dX11_told_42 : decode cX11_told 42 = .ok (.aload_n 0, 1) := by decide +kernel
theorem dX11_told_43 : decode cX11_told 43 = .ok (.invokevirtual 118, 3) := by decide +kernel
theorem dX11_told_46 : decode cX11_told 46 = .ok (.iconst 1, 1) := by decide +kernel
theorem dX11_told_47 : decode cX11_told 47 = .ok (.ireturn, 1) := by decide +kernel
set_option maxRecDepth 20000 in
theorem ggX11_readEnd_X11_bad : GoodIn wsX11_readEnd wsX11_bad := goodIn_r _ [6, 1, 7, 8, 9, 31, 32, 33, 34, 35, 36, 37, 38, 39, 40, 41, 42, 43, 44, 45, 46, 47, 48, 49, 50, 51, 52] (by decide +kernel) (by decide +kernel)
set_option maxRecDepth 20000 in
theorem gX11_readEnd_X11_bad : GoodIn wsX11_readEnd (wsV RX11 111 RX11 yX11_bad wsX11_bad) := goodIn_app (goodIn_of _ (by decide +kernel)) ggX11_readEnd_X11_bad
set_option maxRecDepth 20000 in
theorem ggX11_readEnd_X11_go : GoodIn wsX11_readEnd wsX11_go := goodIn_r _ [13, 14, 15, 16, 8, 1, 17, 18, 19, 20, 21, 22, 5, 23, 24, 25, 26, 27, 28, 29, 30, 31, 32, 33, 34, 35, 36, 37, 38, 39, 40, 41, 42, 43, 44, 45, 46, 47, 48, 49, 50, 51, 52] (by decide +kernel) (by decide +kernel)
set_option maxRecDepth 20000 in
theorem gX11_readEnd_X11_go : GoodIn wsX11_readEnd (wsV RX11 118 RX11 yX11_go wsX11_go) := goodIn_app (goodIn_of _ (by decide +kernel)) ggX11_readEnd_X11_go
theorem dX11_readEnd_0 : decode cX11_readEnd 0 = .ok (.aload_n 0, 1) := by decide +kernel
theorem dX11_readEnd_1 : decode cX11_readEnd 1 = .ok (.getfield 27, 3) := by decide +kernel
theorem dX11_readEnd_4 : decode cX11_readEnd 4 = .ok (.iconst 4, 1) := by decide +kernel
theorem dX11_readEnd_5 : decode cX11_readEnd 5 = .ok (.if_icmp .eq 9, 3) := by decide +kernel
theorem dX11_readEnd_8 : decode cX11_readEnd 8 = .ok (.aload_n 0, 1) := by decide +kernel
theorem dX11_readEnd_9 : decode cX11_readEnd 9 = .ok (.iconst 1, 1) := by decide +kernel
theorem dX11_readEnd_10 : decode cX11_readEnd 10 = .ok (.invokevirtual 111, 3) := by decide +kernel
theorem dX11_readEnd_13 : decode cX11_readEnd 13 = .ok (.ireturn, 1) := by decide +kernel
theorem dX11_readEnd_14 : decode cX11_readEnd 14 = .ok (.aload_n 0, 1) := by decide +kernel
theorem dX11_readEnd_15 : decode cX11_readEnd 15 = .ok (.invokevirtual 118, 3) := by decide +kernel
theorem dX11_readEnd_18 : decode cX11_readEnd 18 = .ok (.iconst 1, 1) := by decide +kernel
theorem dX11_readEnd_19 : decode cX11_readEnd 19 = .ok (.ireturn, 1) := by decide +kernel
set_option maxRecDepth 20000 in
theorem ggX11_readIndex_X11_bad : GoodIn wsX11_readIndex wsX11_bad := goodIn_r _ [9, 2, 10, 11, 12, 44, 45, 46, 47, 48, 49, 50, 51, 52, 53, 54, 55, 56, 57, 58, 59, 60, 61, 62, 63, 64, 65] (by decide +kernel) (by decide +kernel)
set_option maxRecDepth 20000 in
theorem gX11_readIndex_X11_bad : GoodIn wsX11_readIndex (wsV RX11 111 RX11 yX11_bad wsX11_bad) := goodIn_app (goodIn_of _ (by decide +kernel)) ggX11_readIndex_X11_bad
set_option maxRecDepth 20000 in
theorem ggX11_readIndex_X11_go : GoodIn wsX11_readIndex wsX11_go := goodIn_r _ [16, 17, 18, 19, 11, 2, 20, 3, 21, 22, 23, 24, 8, 25, 26, 27, 28, 29, 30, 31, 32, 44, 45, 46, 47, 48, 49, 50, 51, 52, 53, 54, 55, 56, 57, 58, 59, 60, 61, 62, 63, 64, 65] (by decide +kernel) (by decide +kernel)
set_option maxRecDepth 20000 in
theorem gX11_readIndex_X11_go : GoodIn wsX11_readIndex (wsV RX11 118 RX11 yX11_go wsX11_go) := goodIn_app (goodIn_of _ (by decide +kernel)) ggX11_readIndex_X11_go
set_option maxRecDepth 20000 in
theorem ggX11_readIndex_X11_told : GoodIn wsX11_readIndex wsX11_told := goodIn_r _ [36, 2, 3, 4, 5, 6, 7, 8, 9, 10, 11, 12, 37, 38, 39, 13, 14, 15, 16, 17, 18, 19, 20, 21, 22, 23, 24, 25, 26, 27, 28, 29, 30, 31, 32, 44, 45, 46, 47, 48, 49, 50, 51, 52, 53, 54, 55, 56, 57, 58, 59, 60, 61, 62, 63, 64, 65] (by decide +kernel) (by decide +kernel)
set_option maxRecDepth 20000 in
theorem gX11_readIndex_X11_told : GoodIn wsX11_readIndex (wsV RX11 124 RX11 yX11_told wsX11_told) := goodIn_app (goodIn_of _ (by decide +kernel)) ggX11_readIndex_X11_told
set_option maxRecDepth 20000 in
theorem ggX11_readIndex_X11_readEnd : GoodIn wsX11_readIndex wsX11_readEnd := goodIn_r _ [43, 2, 5, 6, 7, 8, 9, 10, 11, 12, 13, 14, 15, 16, 17, 18, 19, 20, 3, 21, 22, 23, 24, 25, 26, 27, 28, 29, 30, 31, 32, 44, 45, 46, 47, 48, 49, 50, 51, 52, 53, 54, 55, 56, 57, 58, 59, 60, 61, 62, 63, 64, 65] (by decide +kernel) (by decide +kernel)
set_option maxRecDepth 20000 in
theorem gX11_readIndex_X11_readEnd : GoodIn wsX11_readIndex (wsV RX11 127 RX11 yX11_readEnd wsX11_readEnd) := goodIn_app (goodIn_of _ (by decide +kernel)) ggX11_readIndex_X11_readEnd
theorem dX11_readIndex_0 : decode cX11_readIndex 0 = .ok (.aload_n 0, 1) := by decide +kernel
theorem dX11_readIndex_1 : decode cX11_readIndex 1 = .ok (.getfield 121, 3) := by decide +kernel
theorem dX11_readIndex_4 : decode cX11_readIndex 4 = .ok (.bipush 20, 2) := by decide +kernel
theorem dX11_readIndex_6 : decode cX11_readIndex 6 = .ok (.if_icmp .ne 9, 3) := by decide +kernel
theorem dX11_readIndex_9 : decode cX11_readIndex 9 = .ok (.aload_n 0, 1) := by decide +kernel
theorem dX11_readIndex_10 : decode cX11_readIndex 10 = .ok (.iconst 3, 1) := by decide +kernel
theorem dX11_readIndex_11 : decode cX11_readIndex 11 = .ok (.invokevirtual 111, 3) := by decide +kernel
theorem dX11_readIndex_14 : decode cX11_readIndex 14 = .ok (.ireturn, 1) := by decide +kernel
theorem dX11_readIndex_15 : decode cX11_readIndex 15 = .ok (.aload_n 0, 1) := by decide +kernel
theorem dX11_readIndex_16 : decode cX11_readIndex 16 = .ok (.invokevirtual 118, 3) := by decide +kernel
theorem dX11_readIndex_19 : decode cX11_readIndex 19 = .ok (.aload_n 0, 1) := by decide +kernel
theorem dX11_readIndex_20 : decode cX11_readIndex 20 = .ok (.getfield 27, 3) := by decide +kernel
theorem dX11_readIndex_23 : decode cX11_readIndex 23 = .ok (.iconst 3, 1) := by decide +kernel
theorem dX11_readIndex_24 : decode cX11_readIndex 24 = .ok (.if_icmp .eq 9, 3) := by decide +kernel
theorem dX11_readIndex_27 : decode cX11_readIndex 27 = .ok (.aload_n 0, 1) := by decide +kernel
theorem dX11_readIndex_28 : decode cX11_readIndex 28 = .ok (.iconst 1, 1) := by decide +kernel
theorem dX11_readIndex_29 : decode cX11_readIndex 29 = .ok (.invokevirtual 111, 3) := by decide +kernel
theorem dX11_readIndex_32 : decode cX11_readIndex 32 = .ok (.ireturn, 1) := by decide +kernel
theorem dX11_readIndex_33 : decode cX11_readIndex 33 = .ok (.aload_n 0, 1) := by decide +kernel
theorem dX11_readIndex_34 : decode cX11_readIndex 34 = .ok (.getfield 41, 3) := by decide +kernel
theorem dX11_readIndex_37 : decode cX11_readIndex 37 = .ok (.sipush 240, 3) := by decide +kernel
theorem dX11_readIndex_40 : decode cX11_readIndex 40 = .ok (.if_icmp .ge 17, 3) := by decide +kernel
theorem dX11_readIndex_43 : decode cX11_readIndex 43 = .ok (.aload_n 0, 1) := by decide +kernel
theorem dX11_readIndex_44 : decode cX11_readIndex 44 = .ok (.getfield 85, 3) := by decide +kernel
theorem dX11_readIndex_47 : decode cX11_readIndex 47 = .ok (.iconst 3, 1) := by decide +kernel
theorem dX11_readIndex_48 : decode cX11_readIndex 48 = .ok (.aload_n 0, 1) := by decide +kernel
theorem dX11_readIndex_49 : decode cX11_readIndex 49 = .ok (.getfield 41, 3) := by decide +kernel
theorem dX11_readIndex_52 : decode cX11_readIndex 52 = .ok (.iadd, 1) := by decide +kernel
theorem dX11_readIndex_53 : decode cX11_readIndex 53 = .ok (.iaload, 1) := by decide +kernel
theorem dX11_readIndex_54 : decode cX11_readIndex 54 = .ok (.ifCond .le 9, 3) := by decide +kernel
theorem dX11_readIndex_57 : decode cX11_readIndex 57 = .ok (.aload_n 0, 1) := by decide +kernel
theorem dX11_readIndex_58 : decode cX11_readIndex 58 = .ok (.iconst 2, 1) := by decide +kernel
theorem dX11_readIndex_59 : decode cX11_readIndex 59 = .ok (.invokevirtual 111, 3) := by decide +kernel
theorem dX11_readIndex_62 : decode cX11_readIndex 62 = .ok (.ireturn, 1) := by decide +kernel
theorem dX11_readIndex_63 : decode cX11_readIndex 63 = .ok (.aload_n 0, 1) := by decide +kernel
theorem dX11_readIndex_64 : decode cX11_readIndex 64 = .ok (.getfield 41, 3) := by decide +kernel
theorem dX11_readIndex_67 : decode cX11_readIndex 67 = .ok (.istore_n 1, 1) := by decide +kernel
theorem dX11_readIndex_68 : decode cX11_readIndex 68 = .ok (.aload_n 0, 1) := by decide +kernel
theorem dX11_readIndex_69 : decode cX11_readIndex 69 = .ok (.invokevirtual 118, 3) := by decide +kernel
theorem dX11_readIndex_72 : decode cX11_readIndex 72 = .ok (.aload_n 0, 1) := by decide +kernel
theorem dX11_readIndex_73 : decode cX11_readIndex 73 = .ok (.iconst 3, 1) := by decide +kernel
theorem dX11_readIndex_74 : decode cX11_readIndex 74 = .ok (.iload_n 1, 1) := by decide +kernel
theorem dX11_readIndex_75 : decode cX11_readIndex 75 = .ok (.iadd, 1) := by decide +kernel
theorem dX11_readIndex_76 : decode cX11_readIndex 76 = .ok (.iconst 1, 1) := by decide +kernel
theorem dX11_readIndex_77 : decode cX11_readIndex 77 = .ok (.sipush 9999, 3) := by decide +kernel
theorem dX11_readIndex_80 : decode cX11_readIndex 80 = .ok (.invokevirtual 124, 3) := by decide +kernel
theorem dX11_readIndex_83 : decode cX11_readIndex 83 = .ok (.ifCond .eq 19, 3) := by decide +kernel
theorem dX11_readIndex_86 : decode cX11_readIndex 86 = .ok (.aload_n 0, 1) := by decide +kernel
theorem dX11_readIndex_87 : decode cX11_readIndex 87 = .ok (.sipush 243, 3) := by decide +kernel
theorem dX11_readIndex_90 : decode cX11_readIndex 90 = .ok (.iload_n 1, 1) := by decide +kernel
theorem dX11_readIndex_91 : decode cX11_readIndex 91 = .ok (.iadd, 1) := by decide +kernel
theorem dX11_readIndex_92 : decode cX11_readIndex 92 = .ok (.iconst 0, 1) := by decide +kernel
theorem dX11_readIndex_93 : decode cX11_readIndex 93 = .ok (.sipush 239, 3) := by decide +kernel
theorem dX11_readIndex_96 : decode cX11_readIndex 96 = .ok (.invokevirtual 124, 3) := by decide +kernel
theorem dX11_readIndex_99 : decode cX11_readIndex 99 = .ok (.ifCond .ne 5, 3) := by decide +kernel
theorem dX11_readIndex_102 : decode cX11_readIndex 102 = .ok (.iconst 0, 1) := by decide +kernel
theorem dX11_readIndex_103 : decode cX11_readIndex 103 = .ok (.ireturn, 1) := by decide +kernel
theorem dX11_readIndex_104 : decode cX11_readIndex 104 = .ok (.aload_n 0, 1) := by decide +kernel
theorem dX11_readIndex_105 : decode cX11_readIndex 105 = .ok (.dup, 1) := by decide +kernel
theorem dX11_readIndex_106 : decode cX11_readIndex 106 = .ok (.getfield 121, 3) := by decide +kernel
theorem dX11_readIndex_109 : decode cX11_readIndex 109 = .ok (.iconst 1, 1) := by decide +kernel
theorem dX11_readIndex_110 : decode cX11_readIndex 110 = .ok (.iadd, 1) := by decide +kernel
theorem dX11_readIndex_111 : decode cX11_readIndex 111 = .ok (.putfield 121, 3) := by decide +kernel
theorem dX11_readIndex_114 : decode cX11_readIndex 114 = .ok (.aload_n 0, 1) := by decide +kernel
theorem dX11_readIndex_115 : decode cX11_readIndex 115 = .ok (.invokevirtual 127, 3) := by decide +kernel
theorem dX11_readIndex_118 : decode cX11_readIndex 118 = .ok (.ireturn, 1) := by decide +kernel
set_option maxRecDepth 20000 in
theorem ggX11_readLease_X11_bad : GoodIn wsX11_readLease wsX11_bad := goodIn_r _ [7, 8, 9, 10, 11, 44, 45, 46, 47, 48, 49, 50, 51, 52, 53, 54, 55, 56, 57, 58, 59, 60, 61, 62, 63, 64, 65] (by decide +kernel) (by decide +kernel)
set_option maxRecDepth 20000 in
theorem gX11_readLease_X11_bad : GoodIn wsX11_readLease (wsV RX11 111 RX11 yX11_bad wsX11_bad) := goodIn_app (goodIn_of _ (by decide +kernel)) ggX11_readLease_X11_bad
set_option maxRecDepth 20000 in
theorem ggX11_readLease_X11_go : GoodIn wsX11_readLease wsX11_go := goodIn_r _ [15, 16, 17, 18, 10, 8, 19, 20, 21, 22, 23, 24, 6, 25, 26, 27, 28, 29, 30, 31, 32, 44, 45, 46, 47, 48, 49, 50, 51, 52, 53, 54, 55, 56, 57, 58, 59, 60, 61, 62, 63, 64, 65] (by decide +kernel) (by decide +kernel)
set_option maxRecDepth 20000 in
theorem gX11_readLease_X11_go : GoodIn wsX11_readLease (wsV RX11 118 RX11 yX11_go wsX11_go) := goodIn_app (goodIn_of _ (by decide +kernel)) ggX11_readLease_X11_go
set_option maxRecDepth 20000 in
theorem ggX11_readLease_X11_told : GoodIn wsX11_readLease wsX11_told := goodIn_r _ [36, 8, 20, 1, 3, 4, 5, 6, 7, 9, 10, 11, 37, 38, 39, 12, 13, 14, 15, 16, 17, 18, 19, 21, 22, 23, 24, 25, 26, 27, 28, 29, 30, 31, 32, 44, 45, 46, 47, 48, 49, 50, 51, 52, 53, 54, 55, 56, 57, 58, 59, 60, 61, 62, 63, 64, 65] (by decide +kernel) (by decide +kernel)
set_option maxRecDepth 20000 in
theorem gX11_readLease_X11_told : GoodIn wsX11_readLease (wsV RX11 124 RX11 yX11_told wsX11_told) := goodIn_app (goodIn_of _ (by decide +kernel)) ggX11_readLease_X11_told
set_option maxRecDepth 20000 in
theorem ggX11_readLease_X11_readEnd : GoodIn wsX11_readLease wsX11_readEnd := goodIn_r _ [43, 8, 3, 4, 5, 6, 7, 9, 10, 11, 12, 13, 14, 15, 16, 17, 18, 19, 20, 21, 22, 23, 24, 25, 26, 27, 28, 29, 30, 31, 32, 44, 45, 46, 47, 48, 49, 50, 51, 52, 53, 54, 55, 56, 57, 58, 59, 60, 61, 62, 63, 64, 65] (by decide +kernel) (by decide +kernel)
set_option maxRecDepth 20000 in
theorem gX11_readLease_X11_readEnd : GoodIn wsX11_readLease (wsV RX11 127 RX11 yX11_readEnd wsX11_readEnd) := goodIn_app (goodIn_of _ (by decide +kernel)) ggX11_readLease_X11_readEnd
theorem dX11_readLease_0 : decode cX11_readLease 0 = .ok (.aload_n 0, 1) := by decide +kernel
theorem dX11_readLease_1 : decode cX11_readLease 1 = .ok (.getfield 85, 3) := by decide +kernel
theorem dX11_readLease_4 : decode cX11_readLease 4 = .ok (.iconst 2, 1) := by decide +kernel
theorem dX11_readLease_5 : decode cX11_readLease 5 = .ok (.iaload, 1) := by decide +kernel
theorem dX11_readLease_6 : decode cX11_readLease 6 = .ok (.bipush 6, 2) := by decide +kernel
theorem dX11_readLease_8 : decode cX11_readLease 8 = .ok (.if_icmp .ne 9, 3) := by decide +kernel
theorem dX11_readLease_11 : decode cX11_readLease 11 = .ok (.aload_n 0, 1) := by decide +kernel
theorem dX11_readLease_12 : decode cX11_readLease 12 = .ok (.iconst 3, 1) := by decide +kernel
theorem dX11_readLease_13 : decode cX11_readLease 13 = .ok (.invokevirtual 111, 3) := by decide +kernel
theorem dX11_readLease_16 : decode cX11_readLease 16 = .ok (.ireturn, 1) := by decide +kernel
theorem dX11_readLease_17 : decode cX11_readLease 17 = .ok (.aload_n 0, 1) := by decide +kernel
theorem dX11_readLease_18 : decode cX11_readLease 18 = .ok (.invokevirtual 118, 3) := by decide +kernel
theorem dX11_readLease_21 : decode cX11_readLease 21 = .ok (.sipush 483, 3) := by decide +kernel
theorem dX11_readLease_24 : decode cX11_readLease 24 = .ok (.sipush 500, 3) := by decide +kernel
theorem dX11_readLease_27 : decode cX11_readLease 27 = .ok (.aload_n 0, 1) := by decide +kernel
theorem dX11_readLease_28 : decode cX11_readLease 28 = .ok (.getfield 85, 3) := by decide +kernel
theorem dX11_readLease_31 : decode cX11_readLease 31 = .ok (.iconst 2, 1) := by decide +kernel
theorem dX11_readLease_32 : decode cX11_readLease 32 = .ok (.iaload, 1) := by decide +kernel
theorem dX11_readLease_33 : decode cX11_readLease 33 = .ok (.imul, 1) := by decide +kernel
theorem dX11_readLease_34 : decode cX11_readLease 34 = .ok (.iadd, 1) := by decide +kernel
theorem dX11_readLease_35 : decode cX11_readLease 35 = .ok (.istore_n 1, 1) := by decide +kernel
theorem dX11_readLease_36 : decode cX11_readLease 36 = .ok (.aload_n 0, 1) := by decide +kernel
theorem dX11_readLease_37 : decode cX11_readLease 37 = .ok (.iload_n 1, 1) := by decide +kernel
theorem dX11_readLease_38 : decode cX11_readLease 38 = .ok (.iconst 0, 1) := by decide +kernel
theorem dX11_readLease_39 : decode cX11_readLease 39 = .ok (.iadd, 1) := by decide +kernel
theorem dX11_readLease_40 : decode cX11_readLease 40 = .ok (.iconst 0, 1) := by decide +kernel
theorem dX11_readLease_41 : decode cX11_readLease 41 = .ok (.bipush 119, 2) := by decide +kernel
theorem dX11_readLease_43 : decode cX11_readLease 43 = .ok (.invokevirtual 124, 3) := by decide +kernel
theorem dX11_readLease_46 : decode cX11_readLease 46 = .ok (.ifCond .eq 61, 3) := by decide +kernel
theorem dX11_readLease_49 : decode cX11_readLease 49 = .ok (.aload_n 0, 1) := by decide +kernel
theorem dX11_readLease_50 : decode cX11_readLease 50 = .ok (.iload_n 1, 1) := by decide +kernel
theorem dX11_readLease_51 : decode cX11_readLease 51 = .ok (.iconst 1, 1) := by decide +kernel
theorem dX11_readLease_52 : decode cX11_readLease 52 = .ok (.iadd, 1) := by decide +kernel
theorem dX11_readLease_53 : decode cX11_readLease 53 = .ok (.iconst 1, 1) := by decide +kernel
theorem dX11_readLease_54 : decode cX11_readLease 54 = .ok (.bipush 120, 2) := by decide +kernel
theorem dX11_readLease_56 : decode cX11_readLease 56 = .ok (.invokevirtual 124, 3) := by decide +kernel
theorem dX11_readLease_59 : decode cX11_readLease 59 = .ok (.ifCond .eq 48, 3) := by decide +kernel
theorem dX11_readLease_62 : decode cX11_readLease 62 = .ok (.aload_n 0, 1) := by decide +kernel
theorem dX11_readLease_63 : decode cX11_readLease 63 = .ok (.iload_n 1, 1) := by decide +kernel
theorem dX11_readLease_64 : decode cX11_readLease 64 = .ok (.iconst 2, 1) := by decide +kernel
theorem dX11_readLease_65 : decode cX11_readLease 65 = .ok (.iadd, 1) := by decide +kernel
theorem dX11_readLease_66 : decode cX11_readLease 66 = .ok (.iconst 1, 1) := by decide +kernel
theorem dX11_readLease_67 : decode cX11_readLease 67 = .ok (.ldc 131, 2) := by decide +kernel
theorem dX11_readLease_69 : decode cX11_readLease 69 = .ok (.invokevirtual 124, 3) := by decide +kernel
theorem dX11_readLease_72 : decode cX11_readLease 72 = .ok (.ifCond .eq 35, 3) := by decide +kernel
theorem dX11_readLease_75 : decode cX11_readLease 75 = .ok (.aload_n 0, 1) := by decide +kernel
theorem dX11_readLease_76 : decode cX11_readLease 76 = .ok (.iload_n 1, 1) := by decide +kernel
theorem dX11_readLease_77 : decode cX11_readLease 77 = .ok (.iconst 3, 1) := by decide +kernel
theorem dX11_readLease_78 : decode cX11_readLease 78 = .ok (.iadd, 1) := by decide +kernel
theorem dX11_readLease_79 : decode cX11_readLease 79 = .ok (.iconst 1, 1) := by decide +kernel
theorem dX11_readLease_80 : decode cX11_readLease 80 = .ok (.bipush 60, 2) := by decide +kernel
theorem dX11_readLease_82 : decode cX11_readLease 82 = .ok (.invokevirtual 124, 3) := by decide +kernel
theorem dX11_readLease_85 : decode cX11_readLease 85 = .ok (.ifCond .eq 22, 3) := by decide +kernel
theorem dX11_readLease_88 : decode cX11_readLease 88 = .ok (.aload_n 0, 1) := by decide +kernel
theorem dX11_readLease_89 : decode cX11_readLease 89 = .ok (.iload_n 1, 1) := by decide +kernel
theorem dX11_readLease_90 : decode cX11_readLease 90 = .ok (.iconst 4, 1) := by decide +kernel
theorem dX11_readLease_91 : decode cX11_readLease 91 = .ok (.iadd, 1) := by decide +kernel
theorem dX11_readLease_92 : decode cX11_readLease 92 = .ok (.iconst 0, 1) := by decide +kernel
theorem dX11_readLease_93 : decode cX11_readLease 93 = .ok (.aload_n 0, 1) := by decide +kernel
theorem dX11_readLease_94 : decode cX11_readLease 94 = .ok (.getfield 85, 3) := by decide +kernel
theorem dX11_readLease_97 : decode cX11_readLease 97 = .ok (.iload_n 1, 1) := by decide +kernel
theorem dX11_readLease_98 : decode cX11_readLease 98 = .ok (.iconst 1, 1) := by decide +kernel
theorem dX11_readLease_99 : decode cX11_readLease 99 = .ok (.iadd, 1) := by decide +kernel
theorem dX11_readLease_100 : decode cX11_readLease 100 = .ok (.iaload, 1) := by decide +kernel
theorem dX11_readLease_101 : decode cX11_readLease 101 = .ok (.invokevirtual 124, 3) := by decide +kernel
theorem dX11_readLease_104 : decode cX11_readLease 104 = .ok (.ifCond .ne 5, 3) := by decide +kernel
theorem dX11_readLease_107 : decode cX11_readLease 107 = .ok (.iconst 0, 1) := by decide +kernel
theorem dX11_readLease_108 : decode cX11_readLease 108 = .ok (.ireturn, 1) := by decide +kernel
theorem dX11_readLease_109 : decode cX11_readLease 109 = .ok (.aload_n 0, 1) := by decide +kernel
theorem dX11_readLease_110 : decode cX11_readLease 110 = .ok (.getfield 85, 3) := by decide +kernel
theorem dX11_readLease_113 : decode cX11_readLease 113 = .ok (.iconst 2, 1) := by decide +kernel
theorem dX11_readLease_114 : decode cX11_readLease 114 = .ok (.dup2, 1) := by decide +kernel
theorem dX11_readLease_115 : decode cX11_readLease 115 = .ok (.iaload, 1) := by decide +kernel
theorem dX11_readLease_116 : decode cX11_readLease 116 = .ok (.iconst 1, 1) := by decide +kernel
theorem dX11_readLease_117 : decode cX11_readLease 117 = .ok (.iadd, 1) := by decide +kernel
theorem dX11_readLease_118 : decode cX11_readLease 118 = .ok (.iastore, 1) := by decide +kernel
theorem dX11_readLease_119 : decode cX11_readLease 119 = .ok (.aload_n 0, 1) := by decide +kernel
theorem dX11_readLease_120 : decode cX11_readLease 120 = .ok (.invokevirtual 127, 3) := by decide +kernel
theorem dX11_readLease_123 : decode cX11_readLease 123 = .ok (.ireturn, 1) := by decide +kernel
set_option maxRecDepth 20000 in
theorem ggX11_partHere_X11_two : GoodIn wsX11_partHere wsX11_two := goodIn_r _ [6, 1, 7] (by decide +kernel) (by decide +kernel)
set_option maxRecDepth 20000 in
theorem gX11_partHere_X11_two : GoodIn wsX11_partHere (va_wsS RX11 54 yX11_two wsX11_two) := goodIn_app (goodIn_of _ (by decide +kernel)) ggX11_partHere_X11_two
set_option maxRecDepth 20000 in
theorem ggX11_partHere_X11_isWord : GoodIn wsX11_partHere wsX11_isWord := goodIn_r _ [11, 12, 13, 24, 25, 26, 27, 28, 29, 30, 31, 32, 33, 34, 35, 36, 37, 38, 39, 40, 41, 42, 43, 44, 45] (by decide +kernel) (by decide +kernel)
set_option maxRecDepth 20000 in
theorem gX11_partHere_X11_isWord : GoodIn wsX11_partHere (wsV RX11 66 RX11 yX11_isWord wsX11_isWord) := goodIn_app (goodIn_of _ (by decide +kernel)) ggX11_partHere_X11_isWord
set_option maxRecDepth 20000 in
theorem ggX11_partHere_X11_six : GoodIn wsX11_partHere wsX11_six := goodIn_r _ [16, 17, 18, 19, 5, 20, 3, 4, 6, 1, 7] (by decide +kernel) (by decide +kernel)
set_option maxRecDepth 20000 in
theorem gX11_partHere_X11_six : GoodIn wsX11_partHere (va_wsS RX11 132 yX11_six wsX11_six) := goodIn_app (goodIn_of _ (by decide +kernel)) ggX11_partHere_X11_six
set_option maxRecDepth 20000 in
theorem ggX11_partHere_X11_five : GoodIn wsX11_partHere wsX11_five := goodIn_r _ [23, 1, 7, 18, 19, 5, 20, 17, 3, 4, 6] (by decide +kernel) (by decide +kernel)
set_option maxRecDepth 20000 in
theorem gX11_partHere_X11_five : GoodIn wsX11_partHere (va_wsS RX11 62 yX11_five wsX11_five) := goodIn_app (goodIn_of _ (by decide +kernel)) ggX11_partHere_X11_five
theorem dX11_partHere_0 : decode cX11_partHere 0 = .ok (.aload_n 0, 1) := by decide +kernel
theorem dX11_partHere_1 : decode cX11_partHere 1 = .ok (.bipush 98, 2) := by decide +kernel
theorem dX11_partHere_3 : decode cX11_partHere 3 = .ok (.bipush 121, 2) := by decide +kernel
theorem dX11_partHere_5 : decode cX11_partHere 5 = .ok (.invokestatic 54, 3) := by decide +kernel
theorem dX11_partHere_8 : decode cX11_partHere 8 = .ok (.invokevirtual 66, 3) := by decide +kernel
theorem dX11_partHere_11 : decode cX11_partHere 11 = .ok (.ifCond .eq 5, 3) := by decide +kernel
theorem dX11_partHere_14 : decode cX11_partHere 14 = .ok (.iconst 1, 1) := by decide +kernel
theorem dX11_partHere_15 : decode cX11_partHere 15 = .ok (.ireturn, 1) := by decide +kernel
theorem dX11_partHere_16 : decode cX11_partHere 16 = .ok (.aload_n 0, 1) := by decide +kernel
theorem dX11_partHere_17 : decode cX11_partHere 17 = .ok (.bipush 99, 2) := by decide +kernel
theorem dX11_partHere_19 : decode cX11_partHere 19 = .ok (.bipush 111, 2) := by decide +kernel
theorem dX11_partHere_21 : decode cX11_partHere 21 = .ok (.bipush 108, 2) := by decide +kernel
theorem dX11_partHere_23 : decode cX11_partHere 23 = .ok (.bipush 108, 2) := by decide +kernel
theorem dX11_partHere_25 : decode cX11_partHere 25 = .ok (.bipush 97, 2) := by decide +kernel
theorem dX11_partHere_27 : decode cX11_partHere 27 = .ok (.bipush 114, 2) := by decide +kernel
theorem dX11_partHere_29 : decode cX11_partHere 29 = .ok (.invokestatic 132, 3) := by decide +kernel
theorem dX11_partHere_32 : decode cX11_partHere 32 = .ok (.invokevirtual 66, 3) := by decide +kernel
theorem dX11_partHere_35 : decode cX11_partHere 35 = .ok (.ifCond .eq 5, 3) := by decide +kernel
theorem dX11_partHere_38 : decode cX11_partHere 38 = .ok (.iconst 2, 1) := by decide +kernel
theorem dX11_partHere_39 : decode cX11_partHere 39 = .ok (.ireturn, 1) := by decide +kernel
theorem dX11_partHere_40 : decode cX11_partHere 40 = .ok (.aload_n 0, 1) := by decide +kernel
theorem dX11_partHere_41 : decode cX11_partHere 41 = .ok (.ldc2_w 48, 3) := by decide +kernel
theorem dX11_partHere_44 : decode cX11_partHere 44 = .ok (.bipush 111, 2) := by decide +kernel
theorem dX11_partHere_46 : decode cX11_partHere 46 = .ok (.bipush 118, 2) := by decide +kernel
theorem dX11_partHere_48 : decode cX11_partHere 48 = .ok (.bipush 101, 2) := by decide +kernel
theorem dX11_partHere_50 : decode cX11_partHere 50 = .ok (.bipush 114, 2) := by decide +kernel
theorem dX11_partHere_52 : decode cX11_partHere 52 = .ok (.bipush 97, 2) := by decide +kernel
theorem dX11_partHere_54 : decode cX11_partHere 54 = .ok (.bipush 108, 2) := by decide +kernel
theorem dX11_partHere_56 : decode cX11_partHere 56 = .ok (.invokestatic 132, 3) := by decide +kernel
theorem dX11_partHere_59 : decode cX11_partHere 59 = .ok (.lmul, 1) := by decide +kernel
theorem dX11_partHere_60 : decode cX11_partHere 60 = .ok (.ldc2_w 136, 3) := by decide +kernel
theorem dX11_partHere_63 : decode cX11_partHere 63 = .ok (.ladd, 1) := by decide +kernel
theorem dX11_partHere_64 : decode cX11_partHere 64 = .ok (.invokevirtual 66, 3) := by decide +kernel
theorem dX11_partHere_67 : decode cX11_partHere 67 = .ok (.ifCond .eq 5, 3) := by decide +kernel
theorem dX11_partHere_70 : decode cX11_partHere 70 = .ok (.iconst 4, 1) := by decide +kernel
theorem dX11_partHere_71 : decode cX11_partHere 71 = .ok (.ireturn, 1) := by decide +kernel
theorem dX11_partHere_72 : decode cX11_partHere 72 = .ok (.aload_n 0, 1) := by decide +kernel
theorem dX11_partHere_73 : decode cX11_partHere 73 = .ok (.bipush 117, 2) := by decide +kernel
theorem dX11_partHere_75 : decode cX11_partHere 75 = .ok (.bipush 112, 2) := by decide +kernel
theorem dX11_partHere_77 : decode cX11_partHere 77 = .ok (.bipush 119, 2) := by decide +kernel
theorem dX11_partHere_79 : decode cX11_partHere 79 = .ok (.bipush 97, 2) := by decide +kernel
theorem dX11_partHere_81 : decode cX11_partHere 81 = .ok (.bipush 114, 2) := by decide +kernel
theorem dX11_partHere_83 : decode cX11_partHere 83 = .ok (.bipush 100, 2) := by decide +kernel
theorem dX11_partHere_85 : decode cX11_partHere 85 = .ok (.invokestatic 132, 3) := by decide +kernel
theorem dX11_partHere_88 : decode cX11_partHere 88 = .ok (.invokevirtual 66, 3) := by decide +kernel
theorem dX11_partHere_91 : decode cX11_partHere 91 = .ok (.ifCond .eq 6, 3) := by decide +kernel
theorem dX11_partHere_94 : decode cX11_partHere 94 = .ok (.bipush 8, 2) := by decide +kernel
theorem dX11_partHere_96 : decode cX11_partHere 96 = .ok (.ireturn, 1) := by decide +kernel
theorem dX11_partHere_97 : decode cX11_partHere 97 = .ok (.aload_n 0, 1) := by decide +kernel
theorem dX11_partHere_98 : decode cX11_partHere 98 = .ok (.bipush 98, 2) := by decide +kernel
theorem dX11_partHere_100 : decode cX11_partHere 100 = .ok (.bipush 114, 2) := by decide +kernel
theorem dX11_partHere_102 : decode cX11_partHere 102 = .ok (.bipush 101, 2) := by decide +kernel
theorem dX11_partHere_104 : decode cX11_partHere 104 = .ok (.bipush 97, 2) := by decide +kernel
theorem dX11_partHere_106 : decode cX11_partHere 106 = .ok (.bipush 107, 2) := by decide +kernel
theorem dX11_partHere_108 : decode cX11_partHere 108 = .ok (.invokestatic 62, 3) := by decide +kernel
theorem dX11_partHere_111 : decode cX11_partHere 111 = .ok (.invokevirtual 66, 3) := by decide +kernel
theorem dX11_partHere_114 : decode cX11_partHere 114 = .ok (.ifCond .eq 8, 3) := by decide +kernel
theorem dX11_partHere_117 : decode cX11_partHere 117 = .ok (.bipush 16, 2) := by decide +kernel
theorem dX11_partHere_119 : decode cX11_partHere 119 = .ok (.goto 4, 3) := by decide +kernel
theorem dX11_partHere_122 : decode cX11_partHere 122 = .ok (.iconst 0, 1) := by decide +kernel
theorem dX11_partHere_123 : decode cX11_partHere 123 = .ok (.ireturn, 1) := by decide +kernel
set_option maxRecDepth 20000 in
theorem ggX11_readBy_X11_isIndexWord : GoodIn wsX11_readBy wsX11_isIndexWord := goodIn_r _ [7, 8, 9, 6, 10, 11, 12, 13, 14, 15, 1, 16, 17, 18, 19, 20, 21, 22, 23, 24, 60, 61, 62, 63, 64, 65, 66, 67, 68, 69, 70, 71, 72, 73, 74, 75, 76, 77, 78, 79, 80, 81] (by decide +kernel) (by decide +kernel)
set_option maxRecDepth 20000 in
theorem gX11_readBy_X11_isIndexWord : GoodIn wsX11_readBy (wsV RX11 138 RX11 yX11_isIndexWord wsX11_isIndexWord) := goodIn_app (goodIn_of _ (by decide +kernel)) ggX11_readBy_X11_isIndexWord
set_option maxRecDepth 20000 in
theorem ggX11_readBy_X11_six : GoodIn wsX11_readBy wsX11_six := goodIn_r _ [27, 1, 13, 14, 6, 15, 16, 17, 18, 11, 12] (by decide +kernel) (by decide +kernel)
set_option maxRecDepth 20000 in
theorem gX11_readBy_X11_six : GoodIn wsX11_readBy (va_wsS RX11 132 yX11_six wsX11_six) := goodIn_app (goodIn_of _ (by decide +kernel)) ggX11_readBy_X11_six
set_option maxRecDepth 20000 in
theorem ggX11_readBy_X11_isWord : GoodIn wsX11_readBy wsX11_isWord := goodIn_r _ [22, 23, 24, 60, 61, 62, 63, 64, 65, 66, 67, 68, 69, 70, 71, 72, 73, 74, 75, 76, 77, 78, 79, 80, 81] (by decide +kernel) (by decide +kernel)
set_option maxRecDepth 20000 in
theorem gX11_readBy_X11_isWord : GoodIn wsX11_readBy (wsV RX11 66 RX11 yX11_isWord wsX11_isWord) := goodIn_app (goodIn_of _ (by decide +kernel)) ggX11_readBy_X11_isWord
set_option maxRecDepth 20000 in
theorem ggX11_readBy_X11_two : GoodIn wsX11_readBy wsX11_two := goodIn_r _ [18, 11, 12] (by decide +kernel) (by decide +kernel)
set_option maxRecDepth 20000 in
theorem gX11_readBy_X11_two : GoodIn wsX11_readBy (va_wsS RX11 54 yX11_two wsX11_two) := goodIn_app (goodIn_of _ (by decide +kernel)) ggX11_readBy_X11_two
set_option maxRecDepth 20000 in
theorem ggX11_readBy_X11_four : GoodIn wsX11_readBy wsX11_four := goodIn_r _ [15, 1, 16, 17, 6, 18, 11, 12] (by decide +kernel) (by decide +kernel)
set_option maxRecDepth 20000 in
theorem gX11_readBy_X11_four : GoodIn wsX11_readBy (va_wsS RX11 58 yX11_four wsX11_four) := goodIn_app (goodIn_of _ (by decide +kernel)) ggX11_readBy_X11_four
set_option maxRecDepth 20000 in
theorem ggX11_readBy_X11_bad : GoodIn wsX11_readBy wsX11_bad := goodIn_r _ [31, 23, 32, 33, 34, 60, 61, 62, 63, 64, 65, 66, 67, 68, 69, 70, 71, 72, 73, 74, 75, 76, 77, 78, 79, 80, 81] (by decide +kernel) (by decide +kernel)
set_option maxRecDepth 20000 in
theorem gX11_readBy_X11_bad : GoodIn wsX11_readBy (wsV RX11 111 RX11 yX11_bad wsX11_bad) := goodIn_app (goodIn_of _ (by decide +kernel)) ggX11_readBy_X11_bad
set_option maxRecDepth 20000 in
theorem ggX11_readBy_X11_go : GoodIn wsX11_readBy wsX11_go := goodIn_r _ [38, 39, 40, 41, 33, 23, 24, 42, 11, 12, 43, 44, 6, 45, 46, 47, 48, 49, 50, 51, 52, 60, 61, 62, 63, 64, 65, 66, 67, 68, 69, 70, 71, 72, 73, 74, 75, 76, 77, 78, 79, 80, 81] (by decide +kernel) (by decide +kernel)
set_option maxRecDepth 20000 in
theorem gX11_readBy_X11_go : GoodIn wsX11_readBy (wsV RX11 118 RX11 yX11_go wsX11_go) := goodIn_app (goodIn_of _ (by decide +kernel)) ggX11_readBy_X11_go
set_option maxRecDepth 20000 in
theorem ggX11_readBy_X11_told : GoodIn wsX11_readBy wsX11_told := goodIn_r _ [56, 23, 42, 2, 28, 29, 30, 6, 31, 32, 33, 34, 57, 58, 59, 35, 36, 37, 38, 39, 40, 41, 24, 11, 12, 43, 44, 45, 46, 47, 48, 49, 50, 51, 52, 60, 61, 62, 63, 64, 65, 66, 67, 68, 69, 70, 71, 72, 73, 74, 75, 76, 77, 78, 79, 80, 81] (by decide +kernel) (by decide +kernel)
set_option maxRecDepth 20000 in
theorem gX11_readBy_X11_told : GoodIn wsX11_readBy (wsV RX11 124 RX11 yX11_told wsX11_told) := goodIn_app (goodIn_of _ (by decide +kernel)) ggX11_readBy_X11_told
theorem dX11_readBy_0 : decode cX11_readBy 0 = .ok (.aload_n 0, 1) := by decide +kernel
theorem dX11_readBy_1 : decode cX11_readBy 1 = .ok (.invokevirtual 138, 3) := by decide +kernel
theorem dX11_readBy_4 : decode cX11_readBy 4 = .ok (.ifCond .eq 7, 3) := by decide +kernel
theorem dX11_readBy_7 : decode cX11_readBy 7 = .ok (.iconst 1, 1) := by decide +kernel
theorem dX11_readBy_8 : decode cX11_readBy 8 = .ok (.goto 90, 3) := by decide +kernel
theorem dX11_readBy_11 : decode cX11_readBy 11 = .ok (.aload_n 0, 1) := by decide +kernel
theorem dX11_readBy_12 : decode cX11_readBy 12 = .ok (.bipush 109, 2) := by decide +kernel
theorem dX11_readBy_14 : decode cX11_readBy 14 = .ok (.bipush 97, 2) := by decide +kernel
theorem dX11_readBy_16 : decode cX11_readBy 16 = .ok (.bipush 114, 2) := by decide +kernel
theorem dX11_readBy_18 : decode cX11_readBy 18 = .ok (.bipush 107, 2) := by decide +kernel
theorem dX11_readBy_20 : decode cX11_readBy 20 = .ok (.bipush 101, 2) := by decide +kernel
theorem dX11_readBy_22 : decode cX11_readBy 22 = .ok (.bipush 116, 2) := by decide +kernel
theorem dX11_readBy_24 : decode cX11_readBy 24 = .ok (.invokestatic 132, 3) := by decide +kernel
theorem dX11_readBy_27 : decode cX11_readBy 27 = .ok (.invokevirtual 66, 3) := by decide +kernel
theorem dX11_readBy_30 : decode cX11_readBy 30 = .ok (.ifCond .eq 7, 3) := by decide +kernel
theorem dX11_readBy_33 : decode cX11_readBy 33 = .ok (.iconst 2, 1) := by decide +kernel
theorem dX11_readBy_34 : decode cX11_readBy 34 = .ok (.goto 64, 3) := by decide +kernel
theorem dX11_readBy_37 : decode cX11_readBy 37 = .ok (.aload_n 0, 1) := by decide +kernel
theorem dX11_readBy_38 : decode cX11_readBy 38 = .ok (.ldc2_w 52, 3) := by decide +kernel
theorem dX11_readBy_41 : decode cX11_readBy 41 = .ok (.bipush 116, 2) := by decide +kernel
theorem dX11_readBy_43 : decode cX11_readBy 43 = .ok (.bipush 117, 2) := by decide +kernel
theorem dX11_readBy_45 : decode cX11_readBy 45 = .ok (.bipush 114, 2) := by decide +kernel
theorem dX11_readBy_47 : decode cX11_readBy 47 = .ok (.bipush 110, 2) := by decide +kernel
theorem dX11_readBy_49 : decode cX11_readBy 49 = .ok (.bipush 111, 2) := by decide +kernel
theorem dX11_readBy_51 : decode cX11_readBy 51 = .ok (.bipush 118, 2) := by decide +kernel
theorem dX11_readBy_53 : decode cX11_readBy 53 = .ok (.invokestatic 132, 3) := by decide +kernel
theorem dX11_readBy_56 : decode cX11_readBy 56 = .ok (.lmul, 1) := by decide +kernel
theorem dX11_readBy_57 : decode cX11_readBy 57 = .ok (.bipush 101, 2) := by decide +kernel
theorem dX11_readBy_59 : decode cX11_readBy 59 = .ok (.bipush 114, 2) := by decide +kernel
theorem dX11_readBy_61 : decode cX11_readBy 61 = .ok (.invokestatic 54, 3) := by decide +kernel
theorem dX11_readBy_64 : decode cX11_readBy 64 = .ok (.ladd, 1) := by decide +kernel
theorem dX11_readBy_65 : decode cX11_readBy 65 = .ok (.invokevirtual 66, 3) := by decide +kernel
theorem dX11_readBy_68 : decode cX11_readBy 68 = .ok (.ifCond .eq 7, 3) := by decide +kernel
theorem dX11_readBy_71 : decode cX11_readBy 71 = .ok (.iconst 3, 1) := by decide +kernel
theorem dX11_readBy_72 : decode cX11_readBy 72 = .ok (.goto 26, 3) := by decide +kernel
theorem dX11_readBy_75 : decode cX11_readBy 75 = .ok (.aload_n 0, 1) := by decide +kernel
theorem dX11_readBy_76 : decode cX11_readBy 76 = .ok (.bipush 115, 2) := by decide +kernel
theorem dX11_readBy_78 : decode cX11_readBy 78 = .ok (.bipush 116, 2) := by decide +kernel
theorem dX11_readBy_80 : decode cX11_readBy 80 = .ok (.bipush 101, 2) := by decide +kernel
theorem dX11_readBy_82 : decode cX11_readBy 82 = .ok (.bipush 112, 2) := by decide +kernel
theorem dX11_readBy_84 : decode cX11_readBy 84 = .ok (.invokestatic 58, 3) := by decide +kernel
theorem dX11_readBy_87 : decode cX11_readBy 87 = .ok (.invokevirtual 66, 3) := by decide +kernel
theorem dX11_readBy_90 : decode cX11_readBy 90 = .ok (.ifCond .eq 7, 3) := by decide +kernel
theorem dX11_readBy_93 : decode cX11_readBy 93 = .ok (.iconst 4, 1) := by decide +kernel
theorem dX11_readBy_94 : decode cX11_readBy 94 = .ok (.goto 4, 3) := by decide +kernel
theorem dX11_readBy_97 : decode cX11_readBy 97 = .ok (.iconst 0, 1) := by decide +kernel
theorem dX11_readBy_98 : decode cX11_readBy 98 = .ok (.istore_n 2, 1) := by decide +kernel
theorem dX11_readBy_99 : decode cX11_readBy 99 = .ok (.iload_n 2, 1) := by decide +kernel
theorem dX11_readBy_100 : decode cX11_readBy 100 = .ok (.ifCond .ne 9, 3) := by decide +kernel
theorem dX11_readBy_103 : decode cX11_readBy 103 = .ok (.aload_n 0, 1) := by decide +kernel
theorem dX11_readBy_104 : decode cX11_readBy 104 = .ok (.iconst 1, 1) := by decide +kernel
theorem dX11_readBy_105 : decode cX11_readBy 105 = .ok (.invokevirtual 111, 3) := by decide +kernel
theorem dX11_readBy_108 : decode cX11_readBy 108 = .ok (.ireturn, 1) := by decide +kernel
theorem dX11_readBy_109 : decode cX11_readBy 109 = .ok (.aload_n 0, 1) := by decide +kernel
theorem dX11_readBy_110 : decode cX11_readBy 110 = .ok (.getfield 85, 3) := by decide +kernel
theorem dX11_readBy_113 : decode cX11_readBy 113 = .ok (.iload_n 1, 1) := by decide +kernel
theorem dX11_readBy_114 : decode cX11_readBy 114 = .ok (.iconst 5, 1) := by decide +kernel
theorem dX11_readBy_115 : decode cX11_readBy 115 = .ok (.iadd, 1) := by decide +kernel
theorem dX11_readBy_116 : decode cX11_readBy 116 = .ok (.iload_n 2, 1) := by decide +kernel
theorem dX11_readBy_117 : decode cX11_readBy 117 = .ok (.iastore, 1) := by decide +kernel
theorem dX11_readBy_118 : decode cX11_readBy 118 = .ok (.aload_n 0, 1) := by decide +kernel
theorem dX11_readBy_119 : decode cX11_readBy 119 = .ok (.invokevirtual 118, 3) := by decide +kernel
theorem dX11_readBy_122 : decode cX11_readBy 122 = .ok (.iload_n 2, 1) := by decide +kernel
theorem dX11_readBy_123 : decode cX11_readBy 123 = .ok (.iconst 2, 1) := by decide +kernel
theorem dX11_readBy_124 : decode cX11_readBy 124 = .ok (.if_icmp .eq 28, 3) := by decide +kernel
theorem dX11_readBy_127 : decode cX11_readBy 127 = .ok (.aload_n 0, 1) := by decide +kernel
theorem dX11_readBy_128 : decode cX11_readBy 128 = .ok (.iload_n 1, 1) := by decide +kernel
theorem dX11_readBy_129 : decode cX11_readBy 129 = .ok (.bipush 6, 2) := by decide +kernel
theorem dX11_readBy_131 : decode cX11_readBy 131 = .ok (.iadd, 1) := by decide +kernel
theorem dX11_readBy_132 : decode cX11_readBy 132 = .ok (.iconst 0, 1) := by decide +kernel
theorem dX11_readBy_133 : decode cX11_readBy 133 = .ok (.iload_n 2, 1) := by decide +kernel
theorem dX11_readBy_134 : decode cX11_readBy 134 = .ok (.iconst 1, 1) := by decide +kernel
theorem dX11_readBy_135 : decode cX11_readBy 135 = .ok (.if_icmp .ne 8, 3) := by decide +kernel
theorem dX11_readBy_138 : decode cX11_readBy 138 = .ok (.bipush 12, 2) := by decide +kernel
theorem dX11_readBy_140 : decode cX11_readBy 140 = .ok (.goto 6, 3) := by decide +kernel
theorem dX11_readBy_143 : decode cX11_readBy 143 = .ok (.sipush 999, 3) := by decide +kernel
theorem dX11_readBy_146 : decode cX11_readBy 146 = .ok (.invokevirtual 124, 3) := by decide +kernel
theorem dX11_readBy_149 : decode cX11_readBy 149 = .ok (.ifCond .eq 7, 3) := by decide +kernel
theorem dX11_readBy_152 : decode cX11_readBy 152 = .ok (.iconst 1, 1) := by decide +kernel
theorem dX11_readBy_153 : decode cX11_readBy 153 = .ok (.goto 4, 3) := by decide +kernel
theorem dX11_readBy_156 : decode cX11_readBy 156 = .ok (.iconst 0, 1) := by decide +kernel
theorem dX11_readBy_157 : decode cX11_readBy 157 = .ok (.ireturn, 1) := by decide +kernel
set_option maxRecDepth 20000 in
theorem ggX11_readPart_X11_partHere : GoodIn wsX11_readPart wsX11_partHere := goodIn_r _ [6, 7, 8, 9, 10, 5, 11, 12, 13, 14, 15, 16, 17, 18, 19, 20, 21, 22, 23, 24, 25, 26, 27, 28, 73, 74, 75, 76, 77, 78, 79, 80, 81, 82, 83, 84, 85, 86, 87, 88, 89, 90, 91, 92, 93, 94] (by decide +kernel) (by decide +kernel)
set_option maxRecDepth 20000 in
theorem gX11_readPart_X11_partHere : GoodIn wsX11_readPart (wsV RX11 141 RX11 yX11_partHere wsX11_partHere) := goodIn_app (goodIn_of _ (by decide +kernel)) ggX11_readPart_X11_partHere
set_option maxRecDepth 20000 in
theorem ggX11_readPart_X11_bad : GoodIn wsX11_readPart wsX11_bad := goodIn_r _ [32, 17, 33, 34, 35, 73, 74, 75, 76, 77, 78, 79, 80, 81, 82, 83, 84, 85, 86, 87, 88, 89, 90, 91, 92, 93, 94] (by decide +kernel) (by decide +kernel)
set_option maxRecDepth 20000 in
theorem gX11_readPart_X11_bad : GoodIn wsX11_readPart (wsV RX11 111 RX11 yX11_bad wsX11_bad) := goodIn_app (goodIn_of _ (by decide +kernel)) ggX11_readPart_X11_bad
set_option maxRecDepth 20000 in
theorem ggX11_readPart_X11_go : GoodIn wsX11_readPart wsX11_go := goodIn_r _ [39, 40, 41, 42, 34, 17, 18, 43, 7, 12, 44, 45, 5, 46, 47, 48, 49, 50, 51, 52, 53, 73, 74, 75, 76, 77, 78, 79, 80, 81, 82, 83, 84, 85, 86, 87, 88, 89, 90, 91, 92, 93, 94] (by decide +kernel) (by decide +kernel)
set_option maxRecDepth 20000 in
theorem gX11_readPart_X11_go : GoodIn wsX11_readPart (wsV RX11 118 RX11 yX11_go wsX11_go) := goodIn_app (goodIn_of _ (by decide +kernel)) ggX11_readPart_X11_go
set_option maxRecDepth 20000 in
theorem ggX11_readPart_X11_readBy : GoodIn wsX11_readPart wsX11_readBy := goodIn_r _ [57, 22, 1, 58, 59, 60, 5, 61, 26, 27, 28, 7, 12, 23, 24, 25, 9, 10, 11, 13, 14, 15, 16, 17, 18, 19, 20, 21, 29, 30, 31, 32, 33, 34, 35, 36, 37, 38, 39, 40, 41, 42, 43, 44, 45, 46, 47, 48, 49, 50, 51, 52, 53, 62, 63, 64, 65, 66, 67, 68, 73, 74, 75, 76, 77, 78, 79, 80, 81, 82, 83, 84, 85, 86, 87, 88, 89, 90, 91, 92, 93, 94] (by decide +kernel) (by decide +kernel)
set_option maxRecDepth 20000 in
theorem gX11_readPart_X11_readBy : GoodIn wsX11_readPart (wsV RX11 145 RX11 yX11_readBy wsX11_readBy) := goodIn_app (goodIn_of _ (by decide +kernel)) ggX11_readPart_X11_readBy
set_option maxRecDepth 20000 in
theorem ggX11_readPart_X11_told : GoodIn wsX11_readPart wsX11_told := goodIn_r _ [65, 17, 43, 1, 29, 30, 31, 5, 32, 33, 34, 35, 66, 67, 68, 36, 37, 38, 39, 40, 41, 42, 18, 7, 12, 44, 45, 46, 47, 48, 49, 50, 51, 52, 53, 73, 74, 75, 76, 77, 78, 79, 80, 81, 82, 83, 84, 85, 86, 87, 88, 89, 90, 91, 92, 93, 94] (by decide +kernel) (by decide +kernel)
set_option maxRecDepth 20000 in
theorem gX11_readPart_X11_told : GoodIn wsX11_readPart (wsV RX11 124 RX11 yX11_told wsX11_told) := goodIn_app (goodIn_of _ (by decide +kernel)) ggX11_readPart_X11_told
set_option maxRecDepth 20000 in
theorem ggX11_readPart_X11_readEnd : GoodIn wsX11_readPart wsX11_readEnd := goodIn_r _ [72, 17, 29, 30, 31, 5, 32, 33, 34, 35, 36, 37, 38, 39, 40, 41, 42, 18, 43, 7, 12, 44, 45, 46, 47, 48, 49, 50, 51, 52, 53, 73, 74, 75, 76, 77, 78, 79, 80, 81, 82, 83, 84, 85, 86, 87, 88, 89, 90, 91, 92, 93, 94] (by decide +kernel) (by decide +kernel)
set_option maxRecDepth 20000 in
theorem gX11_readPart_X11_readEnd : GoodIn wsX11_readPart (wsV RX11 127 RX11 yX11_readEnd wsX11_readEnd) := goodIn_app (goodIn_of _ (by decide +kernel)) ggX11_readPart_X11_readEnd
theorem dX11_readPart_0 : decode cX11_readPart 0 = .ok (.sipush 483, 3) := by decide +kernel
theorem dX11_readPart_3 : decode cX11_readPart 3 = .ok (.sipush 500, 3) := by decide +kernel
theorem dX11_readPart_6 : decode cX11_readPart 6 = .ok (.aload_n 0, 1) := by decide +kernel
theorem dX11_readPart_7 : decode cX11_readPart 7 = .ok (.getfield 85, 3) := by decide +kernel
theorem dX11_readPart_10 : decode cX11_readPart 10 = .ok (.iconst 2, 1) := by decide +kernel
theorem dX11_readPart_11 : decode cX11_readPart 11 = .ok (.iaload, 1) := by decide +kernel
theorem dX11_readPart_12 : decode cX11_readPart 12 = .ok (.iconst 1, 1) := by decide +kernel
theorem dX11_readPart_13 : decode cX11_readPart 13 = .ok (.isub, 1) := by decide +kernel
theorem dX11_readPart_14 : decode cX11_readPart 14 = .ok (.imul, 1) := by decide +kernel
theorem dX11_readPart_15 : decode cX11_readPart 15 = .ok (.iadd, 1) := by decide +kernel
theorem dX11_readPart_16 : decode cX11_readPart 16 = .ok (.istore_n 1, 1) := by decide +kernel
theorem dX11_readPart_17 : decode cX11_readPart 17 = .ok (.aload_n 0, 1) := by decide +kernel
theorem dX11_readPart_18 : decode cX11_readPart 18 = .ok (.invokevirtual 141, 3) := by decide +kernel
theorem dX11_readPart_21 : decode cX11_readPart 21 = .ok (.istore_n 2, 1) := by decide +kernel
theorem dX11_readPart_22 : decode cX11_readPart 22 = .ok (.aload_n 0, 1) := by decide +kernel
theorem dX11_readPart_23 : decode cX11_readPart 23 = .ok (.getfield 85, 3) := by decide +kernel
theorem dX11_readPart_26 : decode cX11_readPart 26 = .ok (.iload_n 1, 1) := by decide +kernel
theorem dX11_readPart_27 : decode cX11_readPart 27 = .ok (.bipush 7, 2) := by decide +kernel
theorem dX11_readPart_29 : decode cX11_readPart 29 = .ok (.iadd, 1) := by decide +kernel
theorem dX11_readPart_30 : decode cX11_readPart 30 = .ok (.iaload, 1) := by decide +kernel
theorem dX11_readPart_31 : decode cX11_readPart 31 = .ok (.iload_n 2, 1) := by decide +kernel
theorem dX11_readPart_32 : decode cX11_readPart 32 = .ok (.iand, 1) := by decide +kernel
theorem dX11_readPart_33 : decode cX11_readPart 33 = .ok (.ifCond .eq 9, 3) := by decide +kernel
theorem dX11_readPart_36 : decode cX11_readPart 36 = .ok (.aload_n 0, 1) := by decide +kernel
theorem dX11_readPart_37 : decode cX11_readPart 37 = .ok (.iconst 4, 1) := by decide +kernel
theorem dX11_readPart_38 : decode cX11_readPart 38 = .ok (.invokevirtual 111, 3) := by decide +kernel
theorem dX11_readPart_41 : decode cX11_readPart 41 = .ok (.ireturn, 1) := by decide +kernel
theorem dX11_readPart_42 : decode cX11_readPart 42 = .ok (.aload_n 0, 1) := by decide +kernel
theorem dX11_readPart_43 : decode cX11_readPart 43 = .ok (.getfield 85, 3) := by decide +kernel
theorem dX11_readPart_46 : decode cX11_readPart 46 = .ok (.iload_n 1, 1) := by decide +kernel
theorem dX11_readPart_47 : decode cX11_readPart 47 = .ok (.bipush 7, 2) := by decide +kernel
theorem dX11_readPart_49 : decode cX11_readPart 49 = .ok (.iadd, 1) := by decide +kernel
theorem dX11_readPart_50 : decode cX11_readPart 50 = .ok (.dup2, 1) := by decide +kernel
theorem dX11_readPart_51 : decode cX11_readPart 51 = .ok (.iaload, 1) := by decide +kernel
theorem dX11_readPart_52 : decode cX11_readPart 52 = .ok (.iload_n 2, 1) := by decide +kernel
theorem dX11_readPart_53 : decode cX11_readPart 53 = .ok (.ior, 1) := by decide +kernel
theorem dX11_readPart_54 : decode cX11_readPart 54 = .ok (.iastore, 1) := by decide +kernel
theorem dX11_readPart_55 : decode cX11_readPart 55 = .ok (.aload_n 0, 1) := by decide +kernel
theorem dX11_readPart_56 : decode cX11_readPart 56 = .ok (.invokevirtual 118, 3) := by decide +kernel
theorem dX11_readPart_59 : decode cX11_readPart 59 = .ok (.iload_n 2, 1) := by decide +kernel
theorem dX11_readPart_60 : decode cX11_readPart 60 = .ok (.iconst 1, 1) := by decide +kernel
theorem dX11_readPart_61 : decode cX11_readPart 61 = .ok (.if_icmp .ne 13, 3) := by decide +kernel
theorem dX11_readPart_64 : decode cX11_readPart 64 = .ok (.aload_n 0, 1) := by decide +kernel
theorem dX11_readPart_65 : decode cX11_readPart 65 = .ok (.iload_n 1, 1) := by decide +kernel
theorem dX11_readPart_66 : decode cX11_readPart 66 = .ok (.invokevirtual 145, 3) := by decide +kernel
theorem dX11_readPart_69 : decode cX11_readPart 69 = .ok (.ifCond .ne 5, 3) := by decide +kernel
theorem dX11_readPart_72 : decode cX11_readPart 72 = .ok (.iconst 0, 1) := by decide +kernel
theorem dX11_readPart_73 : decode cX11_readPart 73 = .ok (.ireturn, 1) := by decide +kernel
theorem dX11_readPart_74 : decode cX11_readPart 74 = .ok (.iload_n 2, 1) := by decide +kernel
theorem dX11_readPart_75 : decode cX11_readPart 75 = .ok (.iconst 2, 1) := by decide +kernel
theorem dX11_readPart_76 : decode cX11_readPart 76 = .ok (.if_icmp .ne 35, 3) := by decide +kernel
theorem dX11_readPart_79 : decode cX11_readPart 79 = .ok (.aload_n 0, 1) := by decide +kernel
theorem dX11_readPart_80 : decode cX11_readPart 80 = .ok (.iload_n 1, 1) := by decide +kernel
theorem dX11_readPart_81 : decode cX11_readPart 81 = .ok (.bipush 8, 2) := by decide +kernel
theorem dX11_readPart_83 : decode cX11_readPart 83 = .ok (.iadd, 1) := by decide +kernel
theorem dX11_readPart_84 : decode cX11_readPart 84 = .ok (.iconst 0, 1) := by decide +kernel
theorem dX11_readPart_85 : decode cX11_readPart 85 = .ok (.sipush 999, 3) := by decide +kernel
theorem dX11_readPart_88 : decode cX11_readPart 88 = .ok (.invokevirtual 124, 3) := by decide +kernel
theorem dX11_readPart_91 : decode cX11_readPart 91 = .ok (.ifCond .eq 18, 3) := by decide +kernel
theorem dX11_readPart_94 : decode cX11_readPart 94 = .ok (.aload_n 0, 1) := by decide +kernel
theorem dX11_readPart_95 : decode cX11_readPart 95 = .ok (.iload_n 1, 1) := by decide +kernel
theorem dX11_readPart_96 : decode cX11_readPart 96 = .ok (.bipush 9, 2) := by decide +kernel
theorem dX11_readPart_98 : decode cX11_readPart 98 = .ok (.iadd, 1) := by decide +kernel
theorem dX11_readPart_99 : decode cX11_readPart 99 = .ok (.iconst 0, 1) := by decide +kernel
theorem dX11_readPart_100 : decode cX11_readPart 100 = .ok (.sipush 999, 3) := by decide +kernel
theorem dX11_readPart_103 : decode cX11_readPart 103 = .ok (.invokevirtual 124, 3) := by decide +kernel
theorem dX11_readPart_106 : decode cX11_readPart 106 = .ok (.ifCond .ne 5, 3) := by decide +kernel
theorem dX11_readPart_109 : decode cX11_readPart 109 = .ok (.iconst 0, 1) := by decide +kernel
theorem dX11_readPart_110 : decode cX11_readPart 110 = .ok (.ireturn, 1) := by decide +kernel
theorem dX11_readPart_111 : decode cX11_readPart 111 = .ok (.iload_n 2, 1) := by decide +kernel
theorem dX11_readPart_112 : decode cX11_readPart 112 = .ok (.iconst 4, 1) := by decide +kernel
theorem dX11_readPart_113 : decode cX11_readPart 113 = .ok (.if_icmp .ne 35, 3) := by decide +kernel
theorem dX11_readPart_116 : decode cX11_readPart 116 = .ok (.aload_n 0, 1) := by decide +kernel
theorem dX11_readPart_117 : decode cX11_readPart 117 = .ok (.iload_n 1, 1) := by decide +kernel
theorem dX11_readPart_118 : decode cX11_readPart 118 = .ok (.bipush 10, 2) := by decide +kernel
theorem dX11_readPart_120 : decode cX11_readPart 120 = .ok (.iadd, 1) := by decide +kernel
theorem dX11_readPart_121 : decode cX11_readPart 121 = .ok (.iconst 0, 1) := by decide +kernel
theorem dX11_readPart_122 : decode cX11_readPart 122 = .ok (.sipush 999, 3) := by decide +kernel
theorem dX11_readPart_125 : decode cX11_readPart 125 = .ok (.invokevirtual 124, 3) := by decide +kernel
theorem dX11_readPart_128 : decode cX11_readPart 128 = .ok (.ifCond .eq 18, 3) := by decide +kernel
theorem dX11_readPart_131 : decode cX11_readPart 131 = .ok (.aload_n 0, 1) := by decide +kernel
theorem dX11_readPart_132 : decode cX11_readPart 132 = .ok (.iload_n 1, 1) := by decide +kernel
theorem dX11_readPart_133 : decode cX11_readPart 133 = .ok (.bipush 11, 2) := by decide +kernel
theorem dX11_readPart_135 : decode cX11_readPart 135 = .ok (.iadd, 1) := by decide +kernel
theorem dX11_readPart_136 : decode cX11_readPart 136 = .ok (.iconst 0, 1) := by decide +kernel
theorem dX11_readPart_137 : decode cX11_readPart 137 = .ok (.sipush 999, 3) := by decide +kernel
theorem dX11_readPart_140 : decode cX11_readPart 140 = .ok (.invokevirtual 124, 3) := by decide +kernel
theorem dX11_readPart_143 : decode cX11_readPart 143 = .ok (.ifCond .ne 5, 3) := by decide +kernel
theorem dX11_readPart_146 : decode cX11_readPart 146 = .ok (.iconst 0, 1) := by decide +kernel
theorem dX11_readPart_147 : decode cX11_readPart 147 = .ok (.ireturn, 1) := by decide +kernel
theorem dX11_readPart_148 : decode cX11_readPart 148 = .ok (.iload_n 2, 1) := by decide +kernel
theorem dX11_readPart_149 : decode cX11_readPart 149 = .ok (.bipush 16, 2) := by decide +kernel
theorem dX11_readPart_151 : decode cX11_readPart 151 = .ok (.if_icmp .ne 45, 3) := by decide +kernel
theorem dX11_readPart_154 : decode cX11_readPart 154 = .ok (.aload_n 0, 1) := by decide +kernel
theorem dX11_readPart_155 : decode cX11_readPart 155 = .ok (.iload_n 1, 1) := by decide +kernel
theorem dX11_readPart_156 : decode cX11_readPart 156 = .ok (.bipush 12, 2) := by decide +kernel
theorem dX11_readPart_158 : decode cX11_readPart 158 = .ok (.iadd, 1) := by decide +kernel
theorem dX11_readPart_159 : decode cX11_readPart 159 = .ok (.aload_n 0, 1) := by decide +kernel
theorem dX11_readPart_160 : decode cX11_readPart 160 = .ok (.getfield 85, 3) := by decide +kernel
theorem dX11_readPart_163 : decode cX11_readPart 163 = .ok (.iload_n 1, 1) := by decide +kernel
theorem dX11_readPart_164 : decode cX11_readPart 164 = .ok (.iconst 0, 1) := by decide +kernel
theorem dX11_readPart_165 : decode cX11_readPart 165 = .ok (.iadd, 1) := by decide +kernel
theorem dX11_readPart_166 : decode cX11_readPart 166 = .ok (.iaload, 1) := by decide +kernel
theorem dX11_readPart_167 : decode cX11_readPart 167 = .ok (.iconst 1, 1) := by decide +kernel
theorem dX11_readPart_168 : decode cX11_readPart 168 = .ok (.iadd, 1) := by decide +kernel
theorem dX11_readPart_169 : decode cX11_readPart 169 = .ok (.aload_n 0, 1) := by decide +kernel
theorem dX11_readPart_170 : decode cX11_readPart 170 = .ok (.getfield 85, 3) := by decide +kernel
theorem dX11_readPart_173 : decode cX11_readPart 173 = .ok (.iload_n 1, 1) := by decide +kernel
theorem dX11_readPart_174 : decode cX11_readPart 174 = .ok (.iconst 0, 1) := by decide +kernel
theorem dX11_readPart_175 : decode cX11_readPart 175 = .ok (.iadd, 1) := by decide +kernel
theorem dX11_readPart_176 : decode cX11_readPart 176 = .ok (.iaload, 1) := by decide +kernel
theorem dX11_readPart_177 : decode cX11_readPart 177 = .ok (.aload_n 0, 1) := by decide +kernel
theorem dX11_readPart_178 : decode cX11_readPart 178 = .ok (.getfield 85, 3) := by decide +kernel
theorem dX11_readPart_181 : decode cX11_readPart 181 = .ok (.iload_n 1, 1) := by decide +kernel
theorem dX11_readPart_182 : decode cX11_readPart 182 = .ok (.iconst 1, 1) := by decide +kernel
theorem dX11_readPart_183 : decode cX11_readPart 183 = .ok (.iadd, 1) := by decide +kernel
theorem dX11_readPart_184 : decode cX11_readPart 184 = .ok (.iaload, 1) := by decide +kernel
theorem dX11_readPart_185 : decode cX11_readPart 185 = .ok (.iadd, 1) := by decide +kernel
theorem dX11_readPart_186 : decode cX11_readPart 186 = .ok (.iconst 1, 1) := by decide +kernel
theorem dX11_readPart_187 : decode cX11_readPart 187 = .ok (.isub, 1) := by decide +kernel
theorem dX11_readPart_188 : decode cX11_readPart 188 = .ok (.invokevirtual 124, 3) := by decide +kernel
theorem dX11_readPart_191 : decode cX11_readPart 191 = .ok (.ifCond .ne 5, 3) := by decide +kernel
theorem dX11_readPart_194 : decode cX11_readPart 194 = .ok (.iconst 0, 1) := by decide +kernel
theorem dX11_readPart_195 : decode cX11_readPart 195 = .ok (.ireturn, 1) := by decide +kernel
theorem dX11_readPart_196 : decode cX11_readPart 196 = .ok (.aload_n 0, 1) := by decide +kernel
theorem dX11_readPart_197 : decode cX11_readPart 197 = .ok (.invokevirtual 127, 3) := by decide +kernel
theorem dX11_readPart_200 : decode cX11_readPart 200 = .ok (.ireturn, 1) := by decide +kernel
set_option maxRecDepth 20000 in
theorem ggX11_readWhole_X11_four : GoodIn wsX11_readWhole wsX11_four := goodIn_r _ [5, 6, 7, 8, 4, 9, 10, 11] (by decide +kernel) (by decide +kernel)
set_option maxRecDepth 20000 in
theorem gX11_readWhole_X11_four : GoodIn wsX11_readWhole (va_wsS RX11 58 yX11_four wsX11_four) := goodIn_app (goodIn_of _ (by decide +kernel)) ggX11_readWhole_X11_four
set_option maxRecDepth 20000 in
theorem ggX11_readWhole_X11_isWord : GoodIn wsX11_readWhole wsX11_isWord := goodIn_r _ [15, 1, 16, 87, 88, 89, 90, 91, 92, 93, 94, 95, 96, 97, 98, 99, 100, 101, 102, 103, 104, 105, 106, 107, 108] (by decide +kernel) (by decide +kernel)
set_option maxRecDepth 20000 in
theorem gX11_readWhole_X11_isWord : GoodIn wsX11_readWhole (wsV RX11 66 RX11 yX11_isWord wsX11_isWord) := goodIn_app (goodIn_of _ (by decide +kernel)) ggX11_readWhole_X11_isWord
set_option maxRecDepth 20000 in
theorem ggX11_readWhole_X11_bad : GoodIn wsX11_readWhole wsX11_bad := goodIn_r _ [20, 1, 21, 22, 23, 87, 88, 89, 90, 91, 92, 93, 94, 95, 96, 97, 98, 99, 100, 101, 102, 103, 104, 105, 106, 107, 108] (by decide +kernel) (by decide +kernel)
set_option maxRecDepth 20000 in
theorem gX11_readWhole_X11_bad : GoodIn wsX11_readWhole (wsV RX11 111 RX11 yX11_bad wsX11_bad) := goodIn_app (goodIn_of _ (by decide +kernel)) ggX11_readWhole_X11_bad
set_option maxRecDepth 20000 in
theorem ggX11_readWhole_X11_go : GoodIn wsX11_readWhole wsX11_go := goodIn_r _ [27, 28, 29, 30, 22, 1, 16, 31, 10, 11, 32, 33, 4, 34, 35, 36, 37, 38, 39, 40, 41, 87, 88, 89, 90, 91, 92, 93, 94, 95, 96, 97, 98, 99, 100, 101, 102, 103, 104, 105, 106, 107, 108] (by decide +kernel) (by decide +kernel)
set_option maxRecDepth 20000 in
theorem gX11_readWhole_X11_go : GoodIn wsX11_readWhole (wsV RX11 118 RX11 yX11_go wsX11_go) := goodIn_app (goodIn_of _ (by decide +kernel)) ggX11_readWhole_X11_go
set_option maxRecDepth 20000 in
theorem ggX11_readWhole_X11_told : GoodIn wsX11_readWhole wsX11_told := goodIn_r _ [45, 1, 31, 46, 17, 18, 19, 4, 20, 21, 22, 23, 47, 48, 49, 24, 25, 26, 27, 28, 29, 30, 16, 10, 11, 32, 33, 34, 35, 36, 37, 38, 39, 40, 41, 87, 88, 89, 90, 91, 92, 93, 94, 95, 96, 97, 98, 99, 100, 101, 102, 103, 104, 105, 106, 107, 108] (by decide +kernel) (by decide +kernel)
set_option maxRecDepth 20000 in
theorem gX11_readWhole_X11_told : GoodIn wsX11_readWhole (wsV RX11 124 RX11 yX11_told wsX11_told) := goodIn_app (goodIn_of _ (by decide +kernel)) ggX11_readWhole_X11_told
set_option maxRecDepth 20000 in
theorem ggX11_readWhole_X11_readEnd : GoodIn wsX11_readWhole wsX11_readEnd := goodIn_r _ [53, 1, 17, 18, 19, 4, 20, 21, 22, 23, 24, 25, 26, 27, 28, 29, 30, 16, 31, 10, 11, 32, 33, 34, 35, 36, 37, 38, 39, 40, 41, 87, 88, 89, 90, 91, 92, 93, 94, 95, 96, 97, 98, 99, 100, 101, 102, 103, 104, 105, 106, 107, 108] (by decide +kernel) (by decide +kernel)
set_option maxRecDepth 20000 in
theorem gX11_readWhole_X11_readEnd : GoodIn wsX11_readWhole (wsV RX11 127 RX11 yX11_readEnd wsX11_readEnd) := goodIn_app (goodIn_of _ (by decide +kernel)) ggX11_readWhole_X11_readEnd
set_option maxRecDepth 20000 in
theorem ggX11_readWhole_X11_isIndexWord : GoodIn wsX11_readWhole wsX11_isIndexWord := goodIn_r _ [57, 58, 59, 4, 60, 10, 11, 2, 3, 5, 6, 7, 8, 9, 12, 13, 14, 15, 1, 16, 87, 88, 89, 90, 91, 92, 93, 94, 95, 96, 97, 98, 99, 100, 101, 102, 103, 104, 105, 106, 107, 108] (by decide +kernel) (by decide +kernel)
set_option maxRecDepth 20000 in
theorem gX11_readWhole_X11_isIndexWord : GoodIn wsX11_readWhole (wsV RX11 138 RX11 yX11_isIndexWord wsX11_isIndexWord) := goodIn_app (goodIn_of _ (by decide +kernel)) ggX11_readWhole_X11_isIndexWord
set_option maxRecDepth 20000 in
theorem ggX11_readWhole_X11_readIndex : GoodIn wsX11_readWhole wsX11_readIndex := goodIn_r _ [64, 65, 1, 31, 46, 17, 18, 19, 4, 20, 21, 22, 23, 24, 25, 26, 27, 28, 29, 30, 16, 10, 11, 32, 33, 34, 35, 36, 37, 38, 39, 40, 41, 42, 43, 44, 45, 47, 48, 49, 50, 51, 52, 53, 87, 88, 89, 90, 91, 92, 93, 94, 95, 96, 97, 98, 99, 100, 101, 102, 103, 104, 105, 106, 107, 108] (by decide +kernel) (by decide +kernel)
set_option maxRecDepth 20000 in
theorem gX11_readWhole_X11_readIndex : GoodIn wsX11_readWhole (wsV RX11 148 RX11 yX11_readIndex wsX11_readIndex) := goodIn_app (goodIn_of _ (by decide +kernel)) ggX11_readWhole_X11_readIndex
set_option maxRecDepth 20000 in
theorem ggX11_readWhole_X11_five : GoodIn wsX11_readWhole wsX11_five := goodIn_r _ [60, 10, 11, 2, 3, 4, 5, 6, 7, 8, 9] (by decide +kernel) (by decide +kernel)
set_option maxRecDepth 20000 in
theorem gX11_readWhole_X11_five : GoodIn wsX11_readWhole (va_wsS RX11 62 yX11_five wsX11_five) := goodIn_app (goodIn_of _ (by decide +kernel)) ggX11_readWhole_X11_five
set_option maxRecDepth 20000 in
theorem ggX11_readWhole_X11_readLease : GoodIn wsX11_readWhole wsX11_readLease := goodIn_r _ [69, 46, 70, 17, 18, 19, 4, 20, 1, 21, 22, 23, 24, 25, 26, 27, 28, 29, 30, 16, 31, 10, 11, 32, 33, 34, 35, 36, 37, 38, 39, 40, 41, 42, 43, 44, 45, 47, 48, 49, 50, 51, 52, 53, 87, 88, 89, 90, 91, 92, 93, 94, 95, 96, 97, 98, 99, 100, 101, 102, 103, 104, 105, 106, 107, 108] (by decide +kernel) (by decide +kernel)
set_option maxRecDepth 20000 in
theorem gX11_readWhole_X11_readLease : GoodIn wsX11_readWhole (wsV RX11 151 RX11 yX11_readLease wsX11_readLease) := goodIn_app (goodIn_of _ (by decide +kernel)) ggX11_readWhole_X11_readLease
set_option maxRecDepth 20000 in
theorem ggX11_readWhole_X11_partHere : GoodIn wsX11_readWhole wsX11_partHere := goodIn_r _ [74, 10, 75, 7, 8, 4, 9, 11, 12, 13, 14, 15, 1, 16, 76, 77, 78, 6, 2, 3, 5, 58, 59, 60, 87, 88, 89, 90, 91, 92, 93, 94, 95, 96, 97, 98, 99, 100, 101, 102, 103, 104, 105, 106, 107, 108] (by decide +kernel) (by decide +kernel)
set_option maxRecDepth 20000 in
theorem gX11_readWhole_X11_partHere : GoodIn wsX11_readWhole (wsV RX11 141 RX11 yX11_partHere wsX11_partHere) := goodIn_app (goodIn_of _ (by decide +kernel)) ggX11_readWhole_X11_partHere
set_option maxRecDepth 20000 in
theorem ggX11_readWhole_X11_readPart : GoodIn wsX11_readWhole wsX11_readPart := goodIn_r _ [82, 46, 71, 72, 73, 4, 74, 10, 75, 7, 8, 9, 11, 12, 13, 14, 15, 1, 16, 76, 77, 78, 6, 2, 3, 5, 58, 59, 60, 17, 18, 19, 20, 21, 22, 23, 24, 25, 26, 27, 28, 29, 30, 31, 32, 33, 34, 35, 36, 37, 38, 39, 40, 41, 83, 84, 85, 86, 54, 55, 56, 57, 42, 43, 44, 45, 47, 48, 49, 50, 51, 52, 53, 87, 88, 89, 90, 91, 92, 93, 94, 95, 96, 97, 98, 99, 100, 101, 102, 103, 104, 105, 106, 107, 108] (by decide +kernel) (by decide +kernel)
set_option maxRecDepth 20000 in
theorem gX11_readWhole_X11_readPart : GoodIn wsX11_readWhole (wsV RX11 154 RX11 yX11_readPart wsX11_readPart) := goodIn_app (goodIn_of _ (by decide +kernel)) ggX11_readWhole_X11_readPart
theorem dX11_readWhole_0 : decode cX11_readWhole 0 = .ok (.aload_n 0, 1) := by decide +kernel
theorem dX11_readWhole_1 : decode cX11_readWhole 1 = .ok (.bipush 114, 2) := by decide +kernel
theorem dX11_readWhole_3 : decode cX11_readWhole 3 = .ok (.bipush 97, 2) := by decide +kernel
theorem dX11_readWhole_5 : decode cX11_readWhole 5 = .ok (.bipush 116, 2) := by decide +kernel
theorem dX11_readWhole_7 : decode cX11_readWhole 7 = .ok (.bipush 101, 2) := by decide +kernel
theorem dX11_readWhole_9 : decode cX11_readWhole 9 = .ok (.invokestatic 58, 3) := by decide +kernel
theorem dX11_readWhole_12 : decode cX11_readWhole 12 = .ok (.invokevirtual 66, 3) := by decide +kernel
theorem dX11_readWhole_15 : decode cX11_readWhole 15 = .ok (.ifCond .ne 9, 3) := by decide +kernel
theorem dX11_readWhole_18 : decode cX11_readWhole 18 = .ok (.aload_n 0, 1) := by decide +kernel
theorem dX11_readWhole_19 : decode cX11_readWhole 19 = .ok (.iconst 1, 1) := by decide +kernel
theorem dX11_readWhole_20 : decode cX11_readWhole 20 = .ok (.invokevirtual 111, 3) := by decide +kernel
theorem dX11_readWhole_23 : decode cX11_readWhole 23 = .ok (.ireturn, 1) := by decide +kernel
theorem dX11_readWhole_24 : decode cX11_readWhole 24 = .ok (.aload_n 0, 1) := by decide +kernel
theorem dX11_readWhole_25 : decode cX11_readWhole 25 = .ok (.invokevirtual 118, 3) := by decide +kernel
theorem dX11_readWhole_28 : decode cX11_readWhole 28 = .ok (.aload_n 0, 1) := by decide +kernel
theorem dX11_readWhole_29 : decode cX11_readWhole 29 = .ok (.iconst 1, 1) := by decide +kernel
theorem dX11_readWhole_30 : decode cX11_readWhole 30 = .ok (.iconst 0, 1) := by decide +kernel
theorem dX11_readWhole_31 : decode cX11_readWhole 31 = .ok (.sipush 500, 3) := by decide +kernel
theorem dX11_readWhole_34 : decode cX11_readWhole 34 = .ok (.invokevirtual 124, 3) := by decide +kernel
theorem dX11_readWhole_37 : decode cX11_readWhole 37 = .ok (.ifCond .eq 10, 3) := by decide +kernel
theorem dX11_readWhole_40 : decode cX11_readWhole 40 = .ok (.aload_n 0, 1) := by decide +kernel
theorem dX11_readWhole_41 : decode cX11_readWhole 41 = .ok (.invokevirtual 127, 3) := by decide +kernel
theorem dX11_readWhole_44 : decode cX11_readWhole 44 = .ok (.ifCond .ne 5, 3) := by decide +kernel
theorem dX11_readWhole_47 : decode cX11_readWhole 47 = .ok (.iconst 0, 1) := by decide +kernel
theorem dX11_readWhole_48 : decode cX11_readWhole 48 = .ok (.ireturn, 1) := by decide +kernel
theorem dX11_readWhole_49 : decode cX11_readWhole 49 = .ok (.aload_n 0, 1) := by decide +kernel
theorem dX11_readWhole_50 : decode cX11_readWhole 50 = .ok (.invokevirtual 138, 3) := by decide +kernel
theorem dX11_readWhole_53 : decode cX11_readWhole 53 = .ok (.ifCond .eq 12, 3) := by decide +kernel
theorem dX11_readWhole_56 : decode cX11_readWhole 56 = .ok (.aload_n 0, 1) := by decide +kernel
theorem dX11_readWhole_57 : decode cX11_readWhole 57 = .ok (.invokevirtual 148, 3) := by decide +kernel
theorem dX11_readWhole_60 : decode cX11_readWhole 60 = .ok (.ifCond .ne (-11), 3) := by decide +kernel
theorem dX11_readWhole_63 : decode cX11_readWhole 63 = .ok (.iconst 0, 1) := by decide +kernel
theorem dX11_readWhole_64 : decode cX11_readWhole 64 = .ok (.ireturn, 1) := by decide +kernel
theorem dX11_readWhole_65 : decode cX11_readWhole 65 = .ok (.aload_n 0, 1) := by decide +kernel
theorem dX11_readWhole_66 : decode cX11_readWhole 66 = .ok (.bipush 108, 2) := by decide +kernel
theorem dX11_readWhole_68 : decode cX11_readWhole 68 = .ok (.bipush 101, 2) := by decide +kernel
theorem dX11_readWhole_70 : decode cX11_readWhole 70 = .ok (.bipush 97, 2) := by decide +kernel
theorem dX11_readWhole_72 : decode cX11_readWhole 72 = .ok (.bipush 115, 2) := by decide +kernel
theorem dX11_readWhole_74 : decode cX11_readWhole 74 = .ok (.bipush 101, 2) := by decide +kernel
theorem dX11_readWhole_76 : decode cX11_readWhole 76 = .ok (.invokestatic 62, 3) := by decide +kernel
theorem dX11_readWhole_79 : decode cX11_readWhole 79 = .ok (.invokevirtual 66, 3) := by decide +kernel
theorem dX11_readWhole_82 : decode cX11_readWhole 82 = .ok (.ifCond .eq 28, 3) := by decide +kernel
theorem dX11_readWhole_85 : decode cX11_readWhole 85 = .ok (.aload_n 0, 1) := by decide +kernel
theorem dX11_readWhole_86 : decode cX11_readWhole 86 = .ok (.invokevirtual 151, 3) := by decide +kernel
theorem dX11_readWhole_89 : decode cX11_readWhole 89 = .ok (.ifCond .ne 5, 3) := by decide +kernel
theorem dX11_readWhole_92 : decode cX11_readWhole 92 = .ok (.iconst 0, 1) := by decide +kernel
theorem dX11_readWhole_93 : decode cX11_readWhole 93 = .ok (.ireturn, 1) := by decide +kernel
theorem dX11_readWhole_94 : decode cX11_readWhole 94 = .ok (.aload_n 0, 1) := by decide +kernel
theorem dX11_readWhole_95 : decode cX11_readWhole 95 = .ok (.invokevirtual 141, 3) := by decide +kernel
theorem dX11_readWhole_98 : decode cX11_readWhole 98 = .ok (.ifCond .le (-33), 3) := by decide +kernel
theorem dX11_readWhole_101 : decode cX11_readWhole 101 = .ok (.aload_n 0, 1) := by decide +kernel
theorem dX11_readWhole_102 : decode cX11_readWhole 102 = .ok (.invokevirtual 154, 3) := by decide +kernel
theorem dX11_readWhole_105 : decode cX11_readWhole 105 = .ok (.ifCond .ne (-11), 3) := by decide +kernel
theorem dX11_readWhole_108 : decode cX11_readWhole 108 = .ok (.iconst 0, 1) := by decide +kernel
theorem dX11_readWhole_109 : decode cX11_readWhole 109 = .ok (.ireturn, 1) := by decide +kernel
theorem dX11_readWhole_110 : decode cX11_readWhole 110 = .ok (.aload_n 0, 1) := by decide +kernel
theorem dX11_readWhole_111 : decode cX11_readWhole 111 = .ok (.getfield 27, 3) := by decide +kernel
theorem dX11_readWhole_114 : decode cX11_readWhole 114 = .ok (.ifCond .eq 11, 3) := by decide +kernel
theorem dX11_readWhole_117 : decode cX11_readWhole 117 = .ok (.aload_n 0, 1) := by decide +kernel
theorem dX11_readWhole_118 : decode cX11_readWhole 118 = .ok (.iconst 1, 1) := by decide +kernel
theorem dX11_readWhole_119 : decode cX11_readWhole 119 = .ok (.invokevirtual 111, 3) := by decide +kernel
theorem dX11_readWhole_122 : decode cX11_readWhole 122 = .ok (.ifCond .eq 7, 3) := by decide +kernel
theorem dX11_readWhole_125 : decode cX11_readWhole 125 = .ok (.iconst 1, 1) := by decide +kernel
theorem dX11_readWhole_126 : decode cX11_readWhole 126 = .ok (.goto 4, 3) := by decide +kernel
theorem dX11_readWhole_129 : decode cX11_readWhole 129 = .ok (.iconst 0, 1) := by decide +kernel
theorem dX11_readWhole_130 : decode cX11_readWhole 130 = .ok (.ireturn, 1) := by decide +kernel
set_option maxRecDepth 20000 in
theorem ggX11_text_X11_go : GoodIn wsX11_text wsX11_go := goodIn_r _ [15, 5, 3, 16, 17, 18, 19, 20, 21, 22, 23, 24, 14, 25, 26, 27, 28, 29, 30, 31, 32, 95, 96, 97, 98, 99, 100, 101, 102, 103, 104, 105, 106, 107, 108, 109, 110, 111, 112, 113, 114, 115, 116] (by decide +kernel) (by decide +kernel)
set_option maxRecDepth 20000 in
theorem gX11_text_X11_go : GoodIn wsX11_text (wsV RX11 118 RX11 yX11_go wsX11_go) := goodIn_app (goodIn_of _ (by decide +kernel)) ggX11_text_X11_go
set_option maxRecDepth 20000 in
theorem ggX11_text_X11_readWhole : GoodIn wsX11_text wsX11_readWhole := goodIn_r _ [36, 18, 37, 38, 14, 39, 40, 41, 42, 43, 21, 22, 44, 45, 46, 47, 19, 48, 49, 50, 51, 4, 17, 8, 11, 12, 13, 15, 5, 3, 16, 20, 23, 24, 25, 26, 27, 28, 29, 30, 31, 32, 52, 53, 54, 55, 7, 56, 57, 58, 59, 60, 61, 62, 63, 64, 65, 66, 67, 68, 69, 70, 71, 72, 73, 6, 74, 75, 76, 77, 78, 79, 80, 81, 82, 83, 84, 85, 86, 87, 88, 89, 90, 91, 92, 93, 94, 95, 96, 97, 98, 99, 100, 101, 102, 103, 104, 105, 106, 107, 108, 109, 110, 111, 112, 113, 114, 115, 116] (by decide +kernel) (by decide +kernel)
set_option maxRecDepth 20000 in
theorem gX11_text_X11_readWhole : GoodIn wsX11_text (wsV RX11 157 RX11 yX11_readWhole wsX11_readWhole) := goodIn_app (goodIn_of _ (by decide +kernel)) ggX11_text_X11_readWhole
theorem dX11_text_0 : decode cX11_text 0 = .ok (.aload_n 0, 1) := by decide +kernel
theorem dX11_text_1 : decode cX11_text 1 = .ok (.iconst 0, 1) := by decide +kernel
theorem dX11_text_2 : decode cX11_text 2 = .ok (.putfield 1, 3) := by decide +kernel
theorem dX11_text_5 : decode cX11_text 5 = .ok (.aload_n 0, 1) := by decide +kernel
theorem dX11_text_6 : decode cX11_text 6 = .ok (.aload_n 0, 1) := by decide +kernel
theorem dX11_text_7 : decode cX11_text 7 = .ok (.getfield 11, 3) := by decide +kernel
theorem dX11_text_10 : decode cX11_text 10 = .ok (.putfield 18, 3) := by decide +kernel
theorem dX11_text_13 : decode cX11_text 13 = .ok (.aload_n 0, 1) := by decide +kernel
theorem dX11_text_14 : decode cX11_text 14 = .ok (.iconst 0, 1) := by decide +kernel
theorem dX11_text_15 : decode cX11_text 15 = .ok (.putfield 11, 3) := by decide +kernel
theorem dX11_text_18 : decode cX11_text 18 = .ok (.aload_n 0, 1) := by decide +kernel
theorem dX11_text_19 : decode cX11_text 19 = .ok (.iconst 0, 1) := by decide +kernel
theorem dX11_text_20 : decode cX11_text 20 = .ok (.putfield 70, 3) := by decide +kernel
theorem dX11_text_23 : decode cX11_text 23 = .ok (.aload_n 0, 1) := by decide +kernel
theorem dX11_text_24 : decode cX11_text 24 = .ok (.iconst 0, 1) := by decide +kernel
theorem dX11_text_25 : decode cX11_text 25 = .ok (.putfield 21, 3) := by decide +kernel
theorem dX11_text_28 : decode cX11_text 28 = .ok (.aload_n 0, 1) := by decide +kernel
theorem dX11_text_29 : decode cX11_text 29 = .ok (.iconst 0, 1) := by decide +kernel
theorem dX11_text_30 : decode cX11_text 30 = .ok (.putfield 121, 3) := by decide +kernel
theorem dX11_text_33 : decode cX11_text 33 = .ok (.iconst 0, 1) := by decide +kernel
theorem dX11_text_34 : decode cX11_text 34 = .ok (.istore_n 1, 1) := by decide +kernel
theorem dX11_text_35 : decode cX11_text 35 = .ok (.iload_n 1, 1) := by decide +kernel
theorem dX11_text_36 : decode cX11_text 36 = .ok (.sipush 3483, 3) := by decide +kernel
theorem dX11_text_39 : decode cX11_text 39 = .ok (.if_icmp .ge 16, 3) := by decide +kernel
theorem dX11_text_42 : decode cX11_text 42 = .ok (.aload_n 0, 1) := by decide +kernel
theorem dX11_text_43 : decode cX11_text 43 = .ok (.getfield 85, 3) := by decide +kernel
theorem dX11_text_46 : decode cX11_text 46 = .ok (.iload_n 1, 1) := by decide +kernel
theorem dX11_text_47 : decode cX11_text 47 = .ok (.iconst 0, 1) := by decide +kernel
theorem dX11_text_48 : decode cX11_text 48 = .ok (.iastore, 1) := by decide +kernel
theorem dX11_text_49 : decode cX11_text 49 = .ok (.iinc 1 1, 3) := by decide +kernel
theorem dX11_text_52 : decode cX11_text 52 = .ok (.goto (-17), 3) := by decide +kernel
theorem dX11_text_55 : decode cX11_text 55 = .ok (.aload_n 0, 1) := by decide +kernel
theorem dX11_text_56 : decode cX11_text 56 = .ok (.invokevirtual 118, 3) := by decide +kernel
theorem dX11_text_59 : decode cX11_text 59 = .ok (.aload_n 0, 1) := by decide +kernel
theorem dX11_text_60 : decode cX11_text 60 = .ok (.invokevirtual 157, 3) := by decide +kernel
theorem dX11_text_63 : decode cX11_text 63 = .ok (.ifCond .ne 10, 3) := by decide +kernel
theorem dX11_text_66 : decode cX11_text 66 = .ok (.iconst (-1), 1) := by decide +kernel
theorem dX11_text_67 : decode cX11_text 67 = .ok (.aload_n 0, 1) := by decide +kernel
theorem dX11_text_68 : decode cX11_text 68 = .ok (.getfield 73, 3) := by decide +kernel
theorem dX11_text_71 : decode cX11_text 71 = .ok (.isub, 1) := by decide +kernel
theorem dX11_text_72 : decode cX11_text 72 = .ok (.ireturn, 1) := by decide +kernel
theorem dX11_text_73 : decode cX11_text 73 = .ok (.iconst 0, 1) := by decide +kernel
theorem dX11_text_74 : decode cX11_text 74 = .ok (.istore_n 1, 1) := by decide +kernel
theorem dX11_text_75 : decode cX11_text 75 = .ok (.iload_n 1, 1) := by decide +kernel
theorem dX11_text_76 : decode cX11_text 76 = .ok (.sipush 3483, 3) := by decide +kernel
theorem dX11_text_79 : decode cX11_text 79 = .ok (.if_icmp .ge 21, 3) := by decide +kernel
theorem dX11_text_82 : decode cX11_text 82 = .ok (.aload_n 0, 1) := by decide +kernel
theorem dX11_text_83 : decode cX11_text 83 = .ok (.getfield 82, 3) := by decide +kernel
theorem dX11_text_86 : decode cX11_text 86 = .ok (.iload_n 1, 1) := by decide +kernel
theorem dX11_text_87 : decode cX11_text 87 = .ok (.aload_n 0, 1) := by decide +kernel
theorem dX11_text_88 : decode cX11_text 88 = .ok (.getfield 85, 3) := by decide +kernel
theorem dX11_text_91 : decode cX11_text 91 = .ok (.iload_n 1, 1) := by decide +kernel
theorem dX11_text_92 : decode cX11_text 92 = .ok (.iaload, 1) := by decide +kernel
theorem dX11_text_93 : decode cX11_text 93 = .ok (.iastore, 1) := by decide +kernel
theorem dX11_text_94 : decode cX11_text 94 = .ok (.iinc 1 1, 3) := by decide +kernel
theorem dX11_text_97 : decode cX11_text 97 = .ok (.goto (-22), 3) := by decide +kernel
theorem dX11_text_100 : decode cX11_text 100 = .ok (.aload_n 0, 1) := by decide +kernel
theorem dX11_text_101 : decode cX11_text 101 = .ok (.iconst 0, 1) := by decide +kernel
theorem dX11_text_102 : decode cX11_text 102 = .ok (.putfield 160, 3) := by decide +kernel
theorem dX11_text_105 : decode cX11_text 105 = .ok (.aload_n 0, 1) := by decide +kernel
theorem dX11_text_106 : decode cX11_text 106 = .ok (.getfield 82, 3) := by decide +kernel
theorem dX11_text_109 : decode cX11_text 109 = .ok (.iconst 2, 1) := by decide +kernel
theorem dX11_text_110 : decode cX11_text 110 = .ok (.iaload, 1) := by decide +kernel
theorem dX11_text_111 : decode cX11_text 111 = .ok (.ireturn, 1) := by decide +kernel
theorem dX11_fault_0 : decode cX11_fault 0 = .ok (.aload_n 0, 1) := by decide +kernel
theorem dX11_fault_1 : decode cX11_fault 1 = .ok (.iconst 0, 1) := by decide +kernel
theorem dX11_fault_2 : decode cX11_fault 2 = .ok (.putfield 1, 3) := by decide +kernel
theorem dX11_fault_5 : decode cX11_fault 5 = .ok (.aload_n 0, 1) := by decide +kernel
theorem dX11_fault_6 : decode cX11_fault 6 = .ok (.getfield 70, 3) := by decide +kernel
theorem dX11_fault_9 : decode cX11_fault 9 = .ok (.ireturn, 1) := by decide +kernel
set_option maxRecDepth 20000 in
theorem ggX11_isLease_X11_isIn : GoodIn wsX11_isLease wsX11_isIn := goodIn_r _ [5] (by decide +kernel) (by decide +kernel)
set_option maxRecDepth 20000 in
theorem gX11_isLease_X11_isIn : GoodIn wsX11_isLease (va_wsS RX11 114 yX11_isIn wsX11_isIn) := goodIn_app (goodIn_of _ (by decide +kernel)) ggX11_isLease_X11_isIn
theorem dX11_isLease_0 : decode cX11_isLease 0 = .ok (.iload_n 1, 1) := by decide +kernel
theorem dX11_isLease_1 : decode cX11_isLease 1 = .ok (.iconst 0, 1) := by decide +kernel
theorem dX11_isLease_2 : decode cX11_isLease 2 = .ok (.aload_n 0, 1) := by decide +kernel
theorem dX11_isLease_3 : decode cX11_isLease 3 = .ok (.getfield 82, 3) := by decide +kernel
theorem dX11_isLease_6 : decode cX11_isLease 6 = .ok (.iconst 2, 1) := by decide +kernel
theorem dX11_isLease_7 : decode cX11_isLease 7 = .ok (.iaload, 1) := by decide +kernel
theorem dX11_isLease_8 : decode cX11_isLease 8 = .ok (.iconst 1, 1) := by decide +kernel
theorem dX11_isLease_9 : decode cX11_isLease 9 = .ok (.isub, 1) := by decide +kernel
theorem dX11_isLease_10 : decode cX11_isLease 10 = .ok (.invokestatic 114, 3) := by decide +kernel
theorem dX11_isLease_13 : decode cX11_isLease 13 = .ok (.ireturn, 1) := by decide +kernel
set_option maxRecDepth 20000 in
theorem ggX11_isMonth_X11_isIn : GoodIn wsX11_isMonth wsX11_isIn := goodIn_r _ [4] (by decide +kernel) (by decide +kernel)
set_option maxRecDepth 20000 in
theorem gX11_isMonth_X11_isIn : GoodIn wsX11_isMonth (va_wsS RX11 114 yX11_isIn wsX11_isIn) := goodIn_app (goodIn_of _ (by decide +kernel)) ggX11_isMonth_X11_isIn
theorem dX11_isMonth_0 : decode cX11_isMonth 0 = .ok (.iload_n 0, 1) := by decide +kernel
theorem dX11_isMonth_1 : decode cX11_isMonth 1 = .ok (.iconst 0, 1) := by decide +kernel
theorem dX11_isMonth_2 : decode cX11_isMonth 2 = .ok (.sipush 239, 3) := by decide +kernel
theorem dX11_isMonth_5 : decode cX11_isMonth 5 = .ok (.invokestatic 114, 3) := by decide +kernel
theorem dX11_isMonth_8 : decode cX11_isMonth 8 = .ok (.ireturn, 1) := by decide +kernel
theorem dX11_its_0 : decode cX11_its 0 = .ok (.aload_n 0, 1) := by decide +kernel
theorem dX11_its_1 : decode cX11_its 1 = .ok (.getfield 82, 3) := by decide +kernel
theorem dX11_its_4 : decode cX11_its 4 = .ok (.sipush 483, 3) := by decide +kernel
theorem dX11_its_7 : decode cX11_its 7 = .ok (.sipush 500, 3) := by decide +kernel
theorem dX11_its_10 : decode cX11_its 10 = .ok (.iload_n 1, 1) := by decide +kernel
theorem dX11_its_11 : decode cX11_its 11 = .ok (.imul, 1) := by decide +kernel
theorem dX11_its_12 : decode cX11_its 12 = .ok (.iadd, 1) := by decide +kernel
theorem dX11_its_13 : decode cX11_its 13 = .ok (.iload_n 2, 1) := by decide +kernel
theorem dX11_its_14 : decode cX11_its 14 = .ok (.iadd, 1) := by decide +kernel
theorem dX11_its_15 : decode cX11_its 15 = .ok (.iaload, 1) := by decide +kernel
theorem dX11_its_16 : decode cX11_its 16 = .ok (.ireturn, 1) := by decide +kernel
set_option maxRecDepth 20000 in
theorem ggX11_hasPart_X11_its : GoodIn wsX11_hasPart wsX11_its := goodIn_r _ [5, 6, 7, 8, 9, 10, 11, 12, 13, 14, 15, 16, 17, 18, 19, 20, 21, 22, 23, 24, 25, 26, 27, 28] (by decide +kernel) (by decide +kernel)
set_option maxRecDepth 20000 in
theorem gX11_hasPart_X11_its : GoodIn wsX11_hasPart (wsV RX11 163 RX11 yX11_its wsX11_its) := goodIn_app (goodIn_of _ (by decide +kernel)) ggX11_hasPart_X11_its
theorem dX11_hasPart_0 : decode cX11_hasPart 0 = .ok (.aload_n 0, 1) := by decide +kernel
theorem dX11_hasPart_1 : decode cX11_hasPart 1 = .ok (.iload_n 1, 1) := by decide +kernel
theorem dX11_hasPart_2 : decode cX11_hasPart 2 = .ok (.bipush 7, 2) := by decide +kernel
theorem dX11_hasPart_4 : decode cX11_hasPart 4 = .ok (.invokevirtual 163, 3) := by decide +kernel
theorem dX11_hasPart_7 : decode cX11_hasPart 7 = .ok (.iload_n 2, 1) := by decide +kernel
theorem dX11_hasPart_8 : decode cX11_hasPart 8 = .ok (.iand, 1) := by decide +kernel
theorem dX11_hasPart_9 : decode cX11_hasPart 9 = .ok (.ifCond .eq 7, 3) := by decide +kernel
theorem dX11_hasPart_12 : decode cX11_hasPart 12 = .ok (.iconst 1, 1) := by decide +kernel
theorem dX11_hasPart_13 : decode cX11_hasPart 13 = .ok (.goto 4, 3) := by decide +kernel
theorem dX11_hasPart_16 : decode cX11_hasPart 16 = .ok (.iconst 0, 1) := by decide +kernel
theorem dX11_hasPart_17 : decode cX11_hasPart 17 = .ok (.ireturn, 1) := by decide +kernel
set_option maxRecDepth 20000 in
theorem ggX11_endAsTold_X11_its : GoodIn wsX11_endAsTold wsX11_its := goodIn_r _ [5, 6, 7, 8, 9, 10, 11, 12, 13, 14, 15, 16, 17, 18, 19, 20, 21, 22, 23, 24, 25, 26, 27, 28] (by decide +kernel) (by decide +kernel)
set_option maxRecDepth 20000 in
theorem gX11_endAsTold_X11_its : GoodIn wsX11_endAsTold (wsV RX11 163 RX11 yX11_its wsX11_its) := goodIn_app (goodIn_of _ (by decide +kernel)) ggX11_endAsTold_X11_its
theorem dX11_endAsTold_0 : decode cX11_endAsTold 0 = .ok (.aload_n 0, 1) := by decide +kernel
theorem dX11_endAsTold_1 : decode cX11_endAsTold 1 = .ok (.iload_n 1, 1) := by decide +kernel
theorem dX11_endAsTold_2 : decode cX11_endAsTold 2 = .ok (.iconst 0, 1) := by decide +kernel
theorem dX11_endAsTold_3 : decode cX11_endAsTold 3 = .ok (.invokevirtual 163, 3) := by decide +kernel
theorem dX11_endAsTold_6 : decode cX11_endAsTold 6 = .ok (.aload_n 0, 1) := by decide +kernel
theorem dX11_endAsTold_7 : decode cX11_endAsTold 7 = .ok (.iload_n 1, 1) := by decide +kernel
theorem dX11_endAsTold_8 : decode cX11_endAsTold 8 = .ok (.iconst 1, 1) := by decide +kernel
theorem dX11_endAsTold_9 : decode cX11_endAsTold 9 = .ok (.invokevirtual 163, 3) := by decide +kernel
theorem dX11_endAsTold_12 : decode cX11_endAsTold 12 = .ok (.iadd, 1) := by decide +kernel
theorem dX11_endAsTold_13 : decode cX11_endAsTold 13 = .ok (.ireturn, 1) := by decide +kernel
set_option maxRecDepth 20000 in
theorem ggX11_endOf_X11_its : GoodIn wsX11_endOf wsX11_its := goodIn_r _ [5, 6, 11, 12, 13, 14, 15, 16, 17, 18, 19, 20, 21, 22, 23, 24, 25, 26, 27, 28, 29, 30, 31, 32] (by decide +kernel) (by decide +kernel)
set_option maxRecDepth 20000 in
theorem gX11_endOf_X11_its : GoodIn wsX11_endOf (wsV RX11 163 RX11 yX11_its wsX11_its) := goodIn_app (goodIn_of _ (by decide +kernel)) ggX11_endOf_X11_its
set_option maxRecDepth 20000 in
theorem ggX11_endOf_X11_endAsTold : GoodIn wsX11_endOf wsX11_endAsTold := goodIn_r _ [10, 1, 2, 3, 4, 5, 6, 11, 12, 13, 14, 15, 16, 17, 18, 19, 20, 21, 22, 23, 24, 25, 26, 27, 28, 29, 30, 31, 32] (by decide +kernel) (by decide +kernel)
set_option maxRecDepth 20000 in
theorem gX11_endOf_X11_endAsTold : GoodIn wsX11_endOf (wsV RX11 167 RX11 yX11_endAsTold wsX11_endAsTold) := goodIn_app (goodIn_of _ (by decide +kernel)) ggX11_endOf_X11_endAsTold
theorem dX11_endOf_0 : decode cX11_endOf 0 = .ok (.aload_n 0, 1) := by decide +kernel
theorem dX11_endOf_1 : decode cX11_endOf 1 = .ok (.iload_n 1, 1) := by decide +kernel
theorem dX11_endOf_2 : decode cX11_endOf 2 = .ok (.bipush 13, 2) := by decide +kernel
theorem dX11_endOf_4 : decode cX11_endOf 4 = .ok (.invokevirtual 163, 3) := by decide +kernel
theorem dX11_endOf_7 : decode cX11_endOf 7 = .ok (.ifCond .le 26, 3) := by decide +kernel
theorem dX11_endOf_10 : decode cX11_endOf 10 = .ok (.aload_n 0, 1) := by decide +kernel
theorem dX11_endOf_11 : decode cX11_endOf 11 = .ok (.iload_n 1, 1) := by decide +kernel
theorem dX11_endOf_12 : decode cX11_endOf 12 = .ok (.bipush 13, 2) := by decide +kernel
theorem dX11_endOf_14 : decode cX11_endOf 14 = .ok (.invokevirtual 163, 3) := by decide +kernel
theorem dX11_endOf_17 : decode cX11_endOf 17 = .ok (.iconst 1, 1) := by decide +kernel
theorem dX11_endOf_18 : decode cX11_endOf 18 = .ok (.isub, 1) := by decide +kernel
theorem dX11_endOf_19 : decode cX11_endOf 19 = .ok (.iload_n 2, 1) := by decide +kernel
theorem dX11_endOf_20 : decode cX11_endOf 20 = .ok (.if_icmp .gt 13, 3) := by decide +kernel
theorem dX11_endOf_23 : decode cX11_endOf 23 = .ok (.aload_n 0, 1) := by decide +kernel
theorem dX11_endOf_24 : decode cX11_endOf 24 = .ok (.iload_n 1, 1) := by decide +kernel
theorem dX11_endOf_25 : decode cX11_endOf 25 = .ok (.bipush 12, 2) := by decide +kernel
theorem dX11_endOf_27 : decode cX11_endOf 27 = .ok (.invokevirtual 163, 3) := by decide +kernel
theorem dX11_endOf_30 : decode cX11_endOf 30 = .ok (.goto 8, 3) := by decide +kernel
theorem dX11_endOf_33 : decode cX11_endOf 33 = .ok (.aload_n 0, 1) := by decide +kernel
theorem dX11_endOf_34 : decode cX11_endOf 34 = .ok (.iload_n 1, 1) := by decide +kernel
theorem dX11_endOf_35 : decode cX11_endOf 35 = .ok (.invokevirtual 167, 3) := by decide +kernel
theorem dX11_endOf_38 : decode cX11_endOf 38 = .ok (.ireturn, 1) := by decide +kernel
set_option maxRecDepth 20000 in
theorem ggX11_reviewsOf_X11_its : GoodIn wsX11_reviewsOf wsX11_its := goodIn_r _ [5, 6, 7, 8, 9, 10, 11, 12, 13, 14, 15, 16, 17, 18, 19, 20, 21, 22, 23, 24, 25, 26, 27, 28] (by decide +kernel) (by decide +kernel)
set_option maxRecDepth 20000 in
theorem gX11_reviewsOf_X11_its : GoodIn wsX11_reviewsOf (wsV RX11 163 RX11 yX11_its wsX11_its) := goodIn_app (goodIn_of _ (by decide +kernel)) ggX11_reviewsOf_X11_its
theorem dX11_reviewsOf_0 : decode cX11_reviewsOf 0 = .ok (.aload_n 0, 1) := by decide +kernel
theorem dX11_reviewsOf_1 : decode cX11_reviewsOf 1 = .ok (.iload_n 1, 1) := by decide +kernel
theorem dX11_reviewsOf_2 : decode cX11_reviewsOf 2 = .ok (.iconst 5, 1) := by decide +kernel
theorem dX11_reviewsOf_3 : decode cX11_reviewsOf 3 = .ok (.invokevirtual 163, 3) := by decide +kernel
theorem dX11_reviewsOf_6 : decode cX11_reviewsOf 6 = .ok (.ifCond .ne 7, 3) := by decide +kernel
theorem dX11_reviewsOf_9 : decode cX11_reviewsOf 9 = .ok (.iconst 0, 1) := by decide +kernel
theorem dX11_reviewsOf_10 : decode cX11_reviewsOf 10 = .ok (.goto 18, 3) := by decide +kernel
theorem dX11_reviewsOf_13 : decode cX11_reviewsOf 13 = .ok (.aload_n 0, 1) := by decide +kernel
theorem dX11_reviewsOf_14 : decode cX11_reviewsOf 14 = .ok (.iload_n 1, 1) := by decide +kernel
theorem dX11_reviewsOf_15 : decode cX11_reviewsOf 15 = .ok (.iconst 1, 1) := by decide +kernel
theorem dX11_reviewsOf_16 : decode cX11_reviewsOf 16 = .ok (.invokevirtual 163, 3) := by decide +kernel
theorem dX11_reviewsOf_19 : decode cX11_reviewsOf 19 = .ok (.iconst 1, 1) := by decide +kernel
theorem dX11_reviewsOf_20 : decode cX11_reviewsOf 20 = .ok (.isub, 1) := by decide +kernel
theorem dX11_reviewsOf_21 : decode cX11_reviewsOf 21 = .ok (.aload_n 0, 1) := by decide +kernel
theorem dX11_reviewsOf_22 : decode cX11_reviewsOf 22 = .ok (.iload_n 1, 1) := by decide +kernel
theorem dX11_reviewsOf_23 : decode cX11_reviewsOf 23 = .ok (.iconst 3, 1) := by decide +kernel
theorem dX11_reviewsOf_24 : decode cX11_reviewsOf 24 = .ok (.invokevirtual 163, 3) := by decide +kernel
theorem dX11_reviewsOf_27 : decode cX11_reviewsOf 27 = .ok (.idiv, 1) := by decide +kernel
theorem dX11_reviewsOf_28 : decode cX11_reviewsOf 28 = .ok (.ireturn, 1) := by decide +kernel
set_option maxRecDepth 20000 in
theorem ggX11_monthOf_X11_its : GoodIn wsX11_monthOf wsX11_its := goodIn_r _ [5, 6, 7, 8, 9, 10, 11, 12, 13, 14, 15, 16, 17, 18, 19, 20, 21, 22, 23, 24, 25, 26, 27, 28] (by decide +kernel) (by decide +kernel)
set_option maxRecDepth 20000 in
theorem gX11_monthOf_X11_its : GoodIn wsX11_monthOf (wsV RX11 163 RX11 yX11_its wsX11_its) := goodIn_app (goodIn_of _ (by decide +kernel)) ggX11_monthOf_X11_its
theorem dX11_monthOf_0 : decode cX11_monthOf 0 = .ok (.aload_n 0, 1) := by decide +kernel
theorem dX11_monthOf_1 : decode cX11_monthOf 1 = .ok (.iload_n 1, 1) := by decide +kernel
theorem dX11_monthOf_2 : decode cX11_monthOf 2 = .ok (.iconst 0, 1) := by decide +kernel
theorem dX11_monthOf_3 : decode cX11_monthOf 3 = .ok (.invokevirtual 163, 3) := by decide +kernel
theorem dX11_monthOf_6 : decode cX11_monthOf 6 = .ok (.iload_n 2, 1) := by decide +kernel
theorem dX11_monthOf_7 : decode cX11_monthOf 7 = .ok (.aload_n 0, 1) := by decide +kernel
theorem dX11_monthOf_8 : decode cX11_monthOf 8 = .ok (.iload_n 1, 1) := by decide +kernel
theorem dX11_monthOf_9 : decode cX11_monthOf 9 = .ok (.iconst 3, 1) := by decide +kernel
theorem dX11_monthOf_10 : decode cX11_monthOf 10 = .ok (.invokevirtual 163, 3) := by decide +kernel
theorem dX11_monthOf_13 : decode cX11_monthOf 13 = .ok (.imul, 1) := by decide +kernel
theorem dX11_monthOf_14 : decode cX11_monthOf 14 = .ok (.iadd, 1) := by decide +kernel
theorem dX11_monthOf_15 : decode cX11_monthOf 15 = .ok (.ireturn, 1) := by decide +kernel
set_option maxRecDepth 20000 in
theorem ggX11_isValue_X11_isMonth : GoodIn wsX11_isValue wsX11_isMonth := goodIn_r _ [5, 6, 7, 4, 8] (by decide +kernel) (by decide +kernel)
set_option maxRecDepth 20000 in
theorem gX11_isValue_X11_isMonth : GoodIn wsX11_isValue (va_wsS RX11 170 yX11_isMonth wsX11_isMonth) := goodIn_app (goodIn_of _ (by decide +kernel)) ggX11_isValue_X11_isMonth
theorem dX11_isValue_0 : decode cX11_isValue 0 = .ok (.iload_n 1, 1) := by decide +kernel
theorem dX11_isValue_1 : decode cX11_isValue 1 = .ok (.invokestatic 170, 3) := by decide +kernel
theorem dX11_isValue_4 : decode cX11_isValue 4 = .ok (.ifCond .eq 32, 3) := by decide +kernel
theorem dX11_isValue_7 : decode cX11_isValue 7 = .ok (.aload_n 0, 1) := by decide +kernel
theorem dX11_isValue_8 : decode cX11_isValue 8 = .ok (.getfield 82, 3) := by decide +kernel
theorem dX11_isValue_11 : decode cX11_isValue 11 = .ok (.iconst 3, 1) := by decide +kernel
theorem dX11_isValue_12 : decode cX11_isValue 12 = .ok (.iload_n 1, 1) := by decide +kernel
theorem dX11_isValue_13 : decode cX11_isValue 13 = .ok (.iadd, 1) := by decide +kernel
theorem dX11_isValue_14 : decode cX11_isValue 14 = .ok (.iaload, 1) := by decide +kernel
theorem dX11_isValue_15 : decode cX11_isValue 15 = .ok (.ifCond .le 21, 3) := by decide +kernel
theorem dX11_isValue_18 : decode cX11_isValue 18 = .ok (.aload_n 0, 1) := by decide +kernel
theorem dX11_isValue_19 : decode cX11_isValue 19 = .ok (.getfield 82, 3) := by decide +kernel
theorem dX11_isValue_22 : decode cX11_isValue 22 = .ok (.sipush 243, 3) := by decide +kernel
theorem dX11_isValue_25 : decode cX11_isValue 25 = .ok (.iload_n 1, 1) := by decide +kernel
theorem dX11_isValue_26 : decode cX11_isValue 26 = .ok (.iadd, 1) := by decide +kernel
theorem dX11_isValue_27 : decode cX11_isValue 27 = .ok (.iaload, 1) := by decide +kernel
theorem dX11_isValue_28 : decode cX11_isValue 28 = .ok (.iload_n 2, 1) := by decide +kernel
theorem dX11_isValue_29 : decode cX11_isValue 29 = .ok (.if_icmp .gt 7, 3) := by decide +kernel
theorem dX11_isValue_32 : decode cX11_isValue 32 = .ok (.iconst 1, 1) := by decide +kernel
theorem dX11_isValue_33 : decode cX11_isValue 33 = .ok (.goto 4, 3) := by decide +kernel
theorem dX11_isValue_36 : decode cX11_isValue 36 = .ok (.iconst 0, 1) := by decide +kernel
theorem dX11_isValue_37 : decode cX11_isValue 37 = .ok (.ireturn, 1) := by decide +kernel
set_option maxRecDepth 20000 in
theorem ggX11_indexOf_X11_isValue : GoodIn wsX11_indexOf wsX11_isValue := goodIn_r _ [6, 1, 7, 8, 5, 9, 10, 11, 12, 13, 14, 15, 16, 17, 18, 19, 20, 21, 22, 23, 24, 25, 26, 27, 28, 29, 30, 31, 32, 33, 34] (by decide +kernel) (by decide +kernel)
set_option maxRecDepth 20000 in
theorem gX11_indexOf_X11_isValue : GoodIn wsX11_indexOf (wsV RX11 173 RX11 yX11_isValue wsX11_isValue) := goodIn_app (goodIn_of _ (by decide +kernel)) ggX11_indexOf_X11_isValue
theorem dX11_indexOf_0 : decode cX11_indexOf 0 = .ok (.aload_n 0, 1) := by decide +kernel
theorem dX11_indexOf_1 : decode cX11_indexOf 1 = .ok (.iload_n 1, 1) := by decide +kernel
theorem dX11_indexOf_2 : decode cX11_indexOf 2 = .ok (.iload_n 2, 1) := by decide +kernel
theorem dX11_indexOf_3 : decode cX11_indexOf 3 = .ok (.invokevirtual 173, 3) := by decide +kernel
theorem dX11_indexOf_6 : decode cX11_indexOf 6 = .ok (.ifCond .eq 12, 3) := by decide +kernel
theorem dX11_indexOf_9 : decode cX11_indexOf 9 = .ok (.aload_n 0, 1) := by decide +kernel
theorem dX11_indexOf_10 : decode cX11_indexOf 10 = .ok (.getfield 82, 3) := by decide +kernel
theorem dX11_indexOf_13 : decode cX11_indexOf 13 = .ok (.iconst 3, 1) := by decide +kernel
theorem dX11_indexOf_14 : decode cX11_indexOf 14 = .ok (.iload_n 1, 1) := by decide +kernel
theorem dX11_indexOf_15 : decode cX11_indexOf 15 = .ok (.iadd, 1) := by decide +kernel
theorem dX11_indexOf_16 : decode cX11_indexOf 16 = .ok (.iaload, 1) := by decide +kernel
theorem dX11_indexOf_17 : decode cX11_indexOf 17 = .ok (.ireturn, 1) := by decide +kernel
theorem dX11_indexOf_18 : decode cX11_indexOf 18 = .ok (.iload_n 1, 1) := by decide +kernel
theorem dX11_indexOf_19 : decode cX11_indexOf 19 = .ok (.sipush 240, 3) := by decide +kernel
theorem dX11_indexOf_22 : decode cX11_indexOf 22 = .ok (.if_icmp .ge 7, 3) := by decide +kernel
theorem dX11_indexOf_25 : decode cX11_indexOf 25 = .ok (.iload_n 1, 1) := by decide +kernel
theorem dX11_indexOf_26 : decode cX11_indexOf 26 = .ok (.goto 6, 3) := by decide +kernel
theorem dX11_indexOf_29 : decode cX11_indexOf 29 = .ok (.sipush 240, 3) := by decide +kernel
theorem dX11_indexOf_32 : decode cX11_indexOf 32 = .ok (.istore_n 3, 1) := by decide +kernel
theorem dX11_indexOf_33 : decode cX11_indexOf 33 = .ok (.iload_n 3, 1) := by decide +kernel
theorem dX11_indexOf_34 : decode cX11_indexOf 34 = .ok (.ifCond .lt 18, 3) := by decide +kernel
theorem dX11_indexOf_37 : decode cX11_indexOf 37 = .ok (.aload_n 0, 1) := by decide +kernel
theorem dX11_indexOf_38 : decode cX11_indexOf 38 = .ok (.iload_n 3, 1) := by decide +kernel
theorem dX11_indexOf_39 : decode cX11_indexOf 39 = .ok (.iload_n 2, 1) := by decide +kernel
theorem dX11_indexOf_40 : decode cX11_indexOf 40 = .ok (.invokevirtual 173, 3) := by decide +kernel
theorem dX11_indexOf_43 : decode cX11_indexOf 43 = .ok (.ifCond .ne 9, 3) := by decide +kernel
theorem dX11_indexOf_46 : decode cX11_indexOf 46 = .ok (.iinc 3 (-1), 3) := by decide +kernel
theorem dX11_indexOf_49 : decode cX11_indexOf 49 = .ok (.goto (-16), 3) := by decide +kernel
theorem dX11_indexOf_52 : decode cX11_indexOf 52 = .ok (.iload_n 1, 1) := by decide +kernel
theorem dX11_indexOf_53 : decode cX11_indexOf 53 = .ok (.ifCond .le 7, 3) := by decide +kernel
theorem dX11_indexOf_56 : decode cX11_indexOf 56 = .ok (.iload_n 1, 1) := by decide +kernel
theorem dX11_indexOf_57 : decode cX11_indexOf 57 = .ok (.goto 4, 3) := by decide +kernel
theorem dX11_indexOf_60 : decode cX11_indexOf 60 = .ok (.iconst 0, 1) := by decide +kernel
theorem dX11_indexOf_61 : decode cX11_indexOf 61 = .ok (.istore 4, 2) := by decide +kernel
theorem dX11_indexOf_63 : decode cX11_indexOf 63 = .ok (.iload 4, 2) := by decide +kernel
theorem dX11_indexOf_65 : decode cX11_indexOf 65 = .ok (.sipush 240, 3) := by decide +kernel
theorem dX11_indexOf_68 : decode cX11_indexOf 68 = .ok (.if_icmp .ge 19, 3) := by decide +kernel
theorem dX11_indexOf_71 : decode cX11_indexOf 71 = .ok (.aload_n 0, 1) := by decide +kernel
theorem dX11_indexOf_72 : decode cX11_indexOf 72 = .ok (.iload 4, 2) := by decide +kernel
theorem dX11_indexOf_74 : decode cX11_indexOf 74 = .ok (.iload_n 2, 1) := by decide +kernel
theorem dX11_indexOf_75 : decode cX11_indexOf 75 = .ok (.invokevirtual 173, 3) := by decide +kernel
theorem dX11_indexOf_78 : decode cX11_indexOf 78 = .ok (.ifCond .ne 9, 3) := by decide +kernel
theorem dX11_indexOf_81 : decode cX11_indexOf 81 = .ok (.iinc 4 1, 3) := by decide +kernel
theorem dX11_indexOf_84 : decode cX11_indexOf 84 = .ok (.goto (-21), 3) := by decide +kernel
theorem dX11_indexOf_87 : decode cX11_indexOf 87 = .ok (.iload_n 3, 1) := by decide +kernel
theorem dX11_indexOf_88 : decode cX11_indexOf 88 = .ok (.ifCond .lt 11, 3) := by decide +kernel
theorem dX11_indexOf_91 : decode cX11_indexOf 91 = .ok (.iload 4, 2) := by decide +kernel
theorem dX11_indexOf_93 : decode cX11_indexOf 93 = .ok (.sipush 240, 3) := by decide +kernel
theorem dX11_indexOf_96 : decode cX11_indexOf 96 = .ok (.if_icmp .lt 5, 3) := by decide +kernel
theorem dX11_indexOf_99 : decode cX11_indexOf 99 = .ok (.iconst (-1), 1) := by decide +kernel
theorem dX11_indexOf_100 : decode cX11_indexOf 100 = .ok (.ireturn, 1) := by decide +kernel
theorem dX11_indexOf_101 : decode cX11_indexOf 101 = .ok (.aload_n 0, 1) := by decide +kernel
theorem dX11_indexOf_102 : decode cX11_indexOf 102 = .ok (.getfield 82, 3) := by decide +kernel
theorem dX11_indexOf_105 : decode cX11_indexOf 105 = .ok (.iconst 3, 1) := by decide +kernel
theorem dX11_indexOf_106 : decode cX11_indexOf 106 = .ok (.iload_n 3, 1) := by decide +kernel
theorem dX11_indexOf_107 : decode cX11_indexOf 107 = .ok (.iadd, 1) := by decide +kernel
theorem dX11_indexOf_108 : decode cX11_indexOf 108 = .ok (.iaload, 1) := by decide +kernel
theorem dX11_indexOf_109 : decode cX11_indexOf 109 = .ok (.istore 5, 2) := by decide +kernel
theorem dX11_indexOf_111 : decode cX11_indexOf 111 = .ok (.iload 5, 2) := by decide +kernel
theorem dX11_indexOf_113 : decode cX11_indexOf 113 = .ok (.aload_n 0, 1) := by decide +kernel
theorem dX11_indexOf_114 : decode cX11_indexOf 114 = .ok (.getfield 82, 3) := by decide +kernel
theorem dX11_indexOf_117 : decode cX11_indexOf 117 = .ok (.iconst 3, 1) := by decide +kernel
theorem dX11_indexOf_118 : decode cX11_indexOf 118 = .ok (.iload 4, 2) := by decide +kernel
theorem dX11_indexOf_120 : decode cX11_indexOf 120 = .ok (.iadd, 1) := by decide +kernel
theorem dX11_indexOf_121 : decode cX11_indexOf 121 = .ok (.iaload, 1) := by decide +kernel
theorem dX11_indexOf_122 : decode cX11_indexOf 122 = .ok (.iload 5, 2) := by decide +kernel
theorem dX11_indexOf_124 : decode cX11_indexOf 124 = .ok (.isub, 1) := by decide +kernel
theorem dX11_indexOf_125 : decode cX11_indexOf 125 = .ok (.iload_n 1, 1) := by decide +kernel
theorem dX11_indexOf_126 : decode cX11_indexOf 126 = .ok (.iload_n 3, 1) := by decide +kernel
theorem dX11_indexOf_127 : decode cX11_indexOf 127 = .ok (.isub, 1) := by decide +kernel
theorem dX11_indexOf_128 : decode cX11_indexOf 128 = .ok (.imul, 1) := by decide +kernel
theorem dX11_indexOf_129 : decode cX11_indexOf 129 = .ok (.iload 4, 2) := by decide +kernel
theorem dX11_indexOf_131 : decode cX11_indexOf 131 = .ok (.iload_n 3, 1) := by decide +kernel
theorem dX11_indexOf_132 : decode cX11_indexOf 132 = .ok (.isub, 1) := by decide +kernel
theorem dX11_indexOf_133 : decode cX11_indexOf 133 = .ok (.idiv, 1) := by decide +kernel
theorem dX11_indexOf_134 : decode cX11_indexOf 134 = .ok (.iadd, 1) := by decide +kernel
theorem dX11_indexOf_135 : decode cX11_indexOf 135 = .ok (.ireturn, 1) := by decide +kernel
theorem dX11_valueMany_0 : decode cX11_valueMany 0 = .ok (.iconst 0, 1) := by decide +kernel
theorem dX11_valueMany_1 : decode cX11_valueMany 1 = .ok (.istore_n 1, 1) := by decide +kernel
theorem dX11_valueMany_2 : decode cX11_valueMany 2 = .ok (.iconst 0, 1) := by decide +kernel
theorem dX11_valueMany_3 : decode cX11_valueMany 3 = .ok (.istore_n 2, 1) := by decide +kernel
theorem dX11_valueMany_4 : decode cX11_valueMany 4 = .ok (.iload_n 2, 1) := by decide +kernel
theorem dX11_valueMany_5 : decode cX11_valueMany 5 = .ok (.sipush 240, 3) := by decide +kernel
theorem dX11_valueMany_8 : decode cX11_valueMany 8 = .ok (.if_icmp .ge 23, 3) := by decide +kernel
theorem dX11_valueMany_11 : decode cX11_valueMany 11 = .ok (.aload_n 0, 1) := by decide +kernel
theorem dX11_valueMany_12 : decode cX11_valueMany 12 = .ok (.getfield 82, 3) := by decide +kernel
theorem dX11_valueMany_15 : decode cX11_valueMany 15 = .ok (.iconst 3, 1) := by decide +kernel
theorem dX11_valueMany_16 : decode cX11_valueMany 16 = .ok (.iload_n 2, 1) := by decide +kernel
theorem dX11_valueMany_17 : decode cX11_valueMany 17 = .ok (.iadd, 1) := by decide +kernel
theorem dX11_valueMany_18 : decode cX11_valueMany 18 = .ok (.iaload, 1) := by decide +kernel
theorem dX11_valueMany_19 : decode cX11_valueMany 19 = .ok (.ifCond .le 6, 3) := by decide +kernel
theorem dX11_valueMany_22 : decode cX11_valueMany 22 = .ok (.iinc 1 1, 3) := by decide +kernel
theorem dX11_valueMany_25 : decode cX11_valueMany 25 = .ok (.iinc 2 1, 3) := by decide +kernel
theorem dX11_valueMany_28 : decode cX11_valueMany 28 = .ok (.goto (-24), 3) := by decide +kernel
theorem dX11_valueMany_31 : decode cX11_valueMany 31 = .ok (.iload_n 1, 1) := by decide +kernel
theorem dX11_valueMany_32 : decode cX11_valueMany 32 = .ok (.ireturn, 1) := by decide +kernel
set_option maxRecDepth 20000 in
theorem ggX11_byIndex_X11_its : GoodIn wsX11_byIndex wsX11_its := goodIn_r _ [6, 7, 22, 23, 24, 25, 26, 27, 28, 29, 30, 31, 32, 33, 34, 35, 36, 37, 38, 39, 40, 41, 42, 43] (by decide +kernel) (by decide +kernel)
set_option maxRecDepth 20000 in
theorem gX11_byIndex_X11_its : GoodIn wsX11_byIndex (wsV RX11 163 RX11 yX11_its wsX11_its) := goodIn_app (goodIn_of _ (by decide +kernel)) ggX11_byIndex_X11_its
set_option maxRecDepth 20000 in
theorem ggX11_byIndex_X11_indexOf : GoodIn wsX11_byIndex wsX11_indexOf := goodIn_r _ [11, 7, 12, 13, 14, 5, 15, 16, 17, 18, 19, 20, 21, 22, 23, 24, 25, 26, 27, 28, 29, 30, 31, 32, 33, 34, 35, 36, 37, 38, 39, 40, 41, 42, 43] (by decide +kernel) (by decide +kernel)
set_option maxRecDepth 20000 in
theorem gX11_byIndex_X11_indexOf : GoodIn wsX11_byIndex (wsV RX11 177 RX11 yX11_indexOf wsX11_indexOf) := goodIn_app (goodIn_of _ (by decide +kernel)) ggX11_byIndex_X11_indexOf
theorem dX11_byIndex_0 : decode cX11_byIndex 0 = .ok (.aload_n 0, 1) := by decide +kernel
theorem dX11_byIndex_1 : decode cX11_byIndex 1 = .ok (.aload_n 0, 1) := by decide +kernel
theorem dX11_byIndex_2 : decode cX11_byIndex 2 = .ok (.iload_n 1, 1) := by decide +kernel
theorem dX11_byIndex_3 : decode cX11_byIndex 3 = .ok (.iconst 0, 1) := by decide +kernel
theorem dX11_byIndex_4 : decode cX11_byIndex 4 = .ok (.invokevirtual 163, 3) := by decide +kernel
theorem dX11_byIndex_7 : decode cX11_byIndex 7 = .ok (.aload_n 0, 1) := by decide +kernel
theorem dX11_byIndex_8 : decode cX11_byIndex 8 = .ok (.iload_n 1, 1) := by decide +kernel
theorem dX11_byIndex_9 : decode cX11_byIndex 9 = .ok (.bipush 6, 2) := by decide +kernel
theorem dX11_byIndex_11 : decode cX11_byIndex 11 = .ok (.invokevirtual 163, 3) := by decide +kernel
theorem dX11_byIndex_14 : decode cX11_byIndex 14 = .ok (.isub, 1) := by decide +kernel
theorem dX11_byIndex_15 : decode cX11_byIndex 15 = .ok (.iload_n 3, 1) := by decide +kernel
theorem dX11_byIndex_16 : decode cX11_byIndex 16 = .ok (.invokevirtual 177, 3) := by decide +kernel
theorem dX11_byIndex_19 : decode cX11_byIndex 19 = .ok (.istore 4, 2) := by decide +kernel
theorem dX11_byIndex_21 : decode cX11_byIndex 21 = .ok (.aload_n 0, 1) := by decide +kernel
theorem dX11_byIndex_22 : decode cX11_byIndex 22 = .ok (.iload_n 2, 1) := by decide +kernel
theorem dX11_byIndex_23 : decode cX11_byIndex 23 = .ok (.aload_n 0, 1) := by decide +kernel
theorem dX11_byIndex_24 : decode cX11_byIndex 24 = .ok (.iload_n 1, 1) := by decide +kernel
theorem dX11_byIndex_25 : decode cX11_byIndex 25 = .ok (.bipush 6, 2) := by decide +kernel
theorem dX11_byIndex_27 : decode cX11_byIndex 27 = .ok (.invokevirtual 163, 3) := by decide +kernel
theorem dX11_byIndex_30 : decode cX11_byIndex 30 = .ok (.isub, 1) := by decide +kernel
theorem dX11_byIndex_31 : decode cX11_byIndex 31 = .ok (.iload_n 3, 1) := by decide +kernel
theorem dX11_byIndex_32 : decode cX11_byIndex 32 = .ok (.invokevirtual 177, 3) := by decide +kernel
theorem dX11_byIndex_35 : decode cX11_byIndex 35 = .ok (.istore 5, 2) := by decide +kernel
theorem dX11_byIndex_37 : decode cX11_byIndex 37 = .ok (.iload 4, 2) := by decide +kernel
theorem dX11_byIndex_39 : decode cX11_byIndex 39 = .ok (.iconst (-1), 1) := by decide +kernel
theorem dX11_byIndex_40 : decode cX11_byIndex 40 = .ok (.if_icmp .eq 9, 3) := by decide +kernel
theorem dX11_byIndex_43 : decode cX11_byIndex 43 = .ok (.iload 5, 2) := by decide +kernel
theorem dX11_byIndex_45 : decode cX11_byIndex 45 = .ok (.iconst (-1), 1) := by decide +kernel
theorem dX11_byIndex_46 : decode cX11_byIndex 46 = .ok (.if_icmp .ne 9, 3) := by decide +kernel
theorem dX11_byIndex_49 : decode cX11_byIndex 49 = .ok (.ldc2_w 180, 3) := by decide +kernel
theorem dX11_byIndex_52 : decode cX11_byIndex 52 = .ok (.goto 18, 3) := by decide +kernel
theorem dX11_byIndex_55 : decode cX11_byIndex 55 = .ok (.aload_n 0, 1) := by decide +kernel
theorem dX11_byIndex_56 : decode cX11_byIndex 56 = .ok (.iload_n 1, 1) := by decide +kernel
theorem dX11_byIndex_57 : decode cX11_byIndex 57 = .ok (.iconst 2, 1) := by decide +kernel
theorem dX11_byIndex_58 : decode cX11_byIndex 58 = .ok (.invokevirtual 163, 3) := by decide +kernel
theorem dX11_byIndex_61 : decode cX11_byIndex 61 = .ok (.i2l, 1) := by decide +kernel
theorem dX11_byIndex_62 : decode cX11_byIndex 62 = .ok (.iload 5, 2) := by decide +kernel
theorem dX11_byIndex_64 : decode cX11_byIndex 64 = .ok (.i2l, 1) := by decide +kernel
theorem dX11_byIndex_65 : decode cX11_byIndex 65 = .ok (.lmul, 1) := by decide +kernel
theorem dX11_byIndex_66 : decode cX11_byIndex 66 = .ok (.iload 4, 2) := by decide +kernel
theorem dX11_byIndex_68 : decode cX11_byIndex 68 = .ok (.i2l, 1) := by decide +kernel
theorem dX11_byIndex_69 : decode cX11_byIndex 69 = .ok (.ldiv, 1) := by decide +kernel
theorem dX11_byIndex_70 : decode cX11_byIndex 70 = .ok (.lreturn, 1) := by decide +kernel
set_option maxRecDepth 20000 in
theorem ggX11_byTurnover_X11_its : GoodIn wsX11_byTurnover wsX11_its := goodIn_r _ [7, 8, 9, 10, 11, 12, 13, 14, 15, 16, 17, 18, 19, 20, 21, 22, 23, 24, 25, 26, 27, 28, 29, 30] (by decide +kernel) (by decide +kernel)
set_option maxRecDepth 20000 in
theorem gX11_byTurnover_X11_its : GoodIn wsX11_byTurnover (wsV RX11 163 RX11 yX11_its wsX11_its) := goodIn_app (goodIn_of _ (by decide +kernel)) ggX11_byTurnover_X11_its
theorem dX11_byTurnover_0 : decode cX11_byTurnover 0 = .ok (.lconst 0, 1) := by decide +kernel
theorem dX11_byTurnover_1 : decode cX11_byTurnover 1 = .ok (.lstore 4, 2) := by decide +kernel
theorem dX11_byTurnover_3 : decode cX11_byTurnover 3 = .ok (.iload_n 2, 1) := by decide +kernel
theorem dX11_byTurnover_4 : decode cX11_byTurnover 4 = .ok (.aload_n 0, 1) := by decide +kernel
theorem dX11_byTurnover_5 : decode cX11_byTurnover 5 = .ok (.iload_n 1, 1) := by decide +kernel
theorem dX11_byTurnover_6 : decode cX11_byTurnover 6 = .ok (.iconst 3, 1) := by decide +kernel
theorem dX11_byTurnover_7 : decode cX11_byTurnover 7 = .ok (.invokevirtual 163, 3) := by decide +kernel
theorem dX11_byTurnover_10 : decode cX11_byTurnover 10 = .ok (.isub, 1) := by decide +kernel
theorem dX11_byTurnover_11 : decode cX11_byTurnover 11 = .ok (.istore 6, 2) := by decide +kernel
theorem dX11_byTurnover_13 : decode cX11_byTurnover 13 = .ok (.iload 6, 2) := by decide +kernel
theorem dX11_byTurnover_15 : decode cX11_byTurnover 15 = .ok (.iload_n 2, 1) := by decide +kernel
theorem dX11_byTurnover_16 : decode cX11_byTurnover 16 = .ok (.if_icmp .ge 72, 3) := by decide +kernel
theorem dX11_byTurnover_19 : decode cX11_byTurnover 19 = .ok (.iload 6, 2) := by decide +kernel
theorem dX11_byTurnover_21 : decode cX11_byTurnover 21 = .ok (.aload_n 0, 1) := by decide +kernel
theorem dX11_byTurnover_22 : decode cX11_byTurnover 22 = .ok (.iload_n 1, 1) := by decide +kernel
theorem dX11_byTurnover_23 : decode cX11_byTurnover 23 = .ok (.iconst 0, 1) := by decide +kernel
theorem dX11_byTurnover_24 : decode cX11_byTurnover 24 = .ok (.invokevirtual 163, 3) := by decide +kernel
theorem dX11_byTurnover_27 : decode cX11_byTurnover 27 = .ok (.isub, 1) := by decide +kernel
theorem dX11_byTurnover_28 : decode cX11_byTurnover 28 = .ok (.istore 7, 2) := by decide +kernel
theorem dX11_byTurnover_30 : decode cX11_byTurnover 30 = .ok (.aload_n 0, 1) := by decide +kernel
theorem dX11_byTurnover_31 : decode cX11_byTurnover 31 = .ok (.iload_n 1, 1) := by decide +kernel
theorem dX11_byTurnover_32 : decode cX11_byTurnover 32 = .ok (.sipush 260, 3) := by decide +kernel
theorem dX11_byTurnover_35 : decode cX11_byTurnover 35 = .ok (.iload 7, 2) := by decide +kernel
theorem dX11_byTurnover_37 : decode cX11_byTurnover 37 = .ok (.iadd, 1) := by decide +kernel
theorem dX11_byTurnover_38 : decode cX11_byTurnover 38 = .ok (.invokevirtual 163, 3) := by decide +kernel
theorem dX11_byTurnover_41 : decode cX11_byTurnover 41 = .ok (.ifCond .eq 18, 3) := by decide +kernel
theorem dX11_byTurnover_44 : decode cX11_byTurnover 44 = .ok (.aload_n 0, 1) := by decide +kernel
theorem dX11_byTurnover_45 : decode cX11_byTurnover 45 = .ok (.iload_n 1, 1) := by decide +kernel
theorem dX11_byTurnover_46 : decode cX11_byTurnover 46 = .ok (.sipush 380, 3) := by decide +kernel
theorem dX11_byTurnover_49 : decode cX11_byTurnover 49 = .ok (.iload 7, 2) := by decide +kernel
theorem dX11_byTurnover_51 : decode cX11_byTurnover 51 = .ok (.iadd, 1) := by decide +kernel
theorem dX11_byTurnover_52 : decode cX11_byTurnover 52 = .ok (.invokevirtual 163, 3) := by decide +kernel
theorem dX11_byTurnover_55 : decode cX11_byTurnover 55 = .ok (.iload_n 3, 1) := by decide +kernel
theorem dX11_byTurnover_56 : decode cX11_byTurnover 56 = .ok (.if_icmp .le 7, 3) := by decide +kernel
theorem dX11_byTurnover_59 : decode cX11_byTurnover 59 = .ok (.ldc2_w 180, 3) := by decide +kernel
theorem dX11_byTurnover_62 : decode cX11_byTurnover 62 = .ok (.lreturn, 1) := by decide +kernel
theorem dX11_byTurnover_63 : decode cX11_byTurnover 63 = .ok (.lload 4, 2) := by decide +kernel
theorem dX11_byTurnover_65 : decode cX11_byTurnover 65 = .ok (.aload_n 0, 1) := by decide +kernel
theorem dX11_byTurnover_66 : decode cX11_byTurnover 66 = .ok (.iload_n 1, 1) := by decide +kernel
theorem dX11_byTurnover_67 : decode cX11_byTurnover 67 = .ok (.sipush 260, 3) := by decide +kernel
theorem dX11_byTurnover_70 : decode cX11_byTurnover 70 = .ok (.iload 7, 2) := by decide +kernel
theorem dX11_byTurnover_72 : decode cX11_byTurnover 72 = .ok (.iadd, 1) := by decide +kernel
theorem dX11_byTurnover_73 : decode cX11_byTurnover 73 = .ok (.invokevirtual 163, 3) := by decide +kernel
theorem dX11_byTurnover_76 : decode cX11_byTurnover 76 = .ok (.i2l, 1) := by decide +kernel
theorem dX11_byTurnover_77 : decode cX11_byTurnover 77 = .ok (.lconst 1, 1) := by decide +kernel
theorem dX11_byTurnover_78 : decode cX11_byTurnover 78 = .ok (.lsub, 1) := by decide +kernel
theorem dX11_byTurnover_79 : decode cX11_byTurnover 79 = .ok (.ladd, 1) := by decide +kernel
theorem dX11_byTurnover_80 : decode cX11_byTurnover 80 = .ok (.lstore 4, 2) := by decide +kernel
theorem dX11_byTurnover_82 : decode cX11_byTurnover 82 = .ok (.iinc 6 1, 3) := by decide +kernel
theorem dX11_byTurnover_85 : decode cX11_byTurnover 85 = .ok (.goto (-72), 3) := by decide +kernel
theorem dX11_byTurnover_88 : decode cX11_byTurnover 88 = .ok (.lload 4, 2) := by decide +kernel
theorem dX11_byTurnover_90 : decode cX11_byTurnover 90 = .ok (.aload_n 0, 1) := by decide +kernel
theorem dX11_byTurnover_91 : decode cX11_byTurnover 91 = .ok (.iload_n 1, 1) := by decide +kernel
theorem dX11_byTurnover_92 : decode cX11_byTurnover 92 = .ok (.bipush 6, 2) := by decide +kernel
theorem dX11_byTurnover_94 : decode cX11_byTurnover 94 = .ok (.invokevirtual 163, 3) := by decide +kernel
theorem dX11_byTurnover_97 : decode cX11_byTurnover 97 = .ok (.i2l, 1) := by decide +kernel
theorem dX11_byTurnover_98 : decode cX11_byTurnover 98 = .ok (.lmul, 1) := by decide +kernel
theorem dX11_byTurnover_99 : decode cX11_byTurnover 99 = .ok (.ldc2_w 182, 3) := by decide +kernel
theorem dX11_byTurnover_102 : decode cX11_byTurnover 102 = .ok (.ldiv, 1) := by decide +kernel
theorem dX11_byTurnover_103 : decode cX11_byTurnover 103 = .ok (.aload_n 0, 1) := by decide +kernel
theorem dX11_byTurnover_104 : decode cX11_byTurnover 104 = .ok (.iload_n 1, 1) := by decide +kernel
theorem dX11_byTurnover_105 : decode cX11_byTurnover 105 = .ok (.iconst 3, 1) := by decide +kernel
theorem dX11_byTurnover_106 : decode cX11_byTurnover 106 = .ok (.invokevirtual 163, 3) := by decide +kernel
theorem dX11_byTurnover_109 : decode cX11_byTurnover 109 = .ok (.i2l, 1) := by decide +kernel
theorem dX11_byTurnover_110 : decode cX11_byTurnover 110 = .ok (.ldiv, 1) := by decide +kernel
theorem dX11_byTurnover_111 : decode cX11_byTurnover 111 = .ok (.lstore 6, 2) := by decide +kernel
theorem dX11_byTurnover_113 : decode cX11_byTurnover 113 = .ok (.lload 6, 2) := by decide +kernel
theorem dX11_byTurnover_115 : decode cX11_byTurnover 115 = .ok (.aload_n 0, 1) := by decide +kernel
theorem dX11_byTurnover_116 : decode cX11_byTurnover 116 = .ok (.iload_n 1, 1) := by decide +kernel
theorem dX11_byTurnover_117 : decode cX11_byTurnover 117 = .ok (.iconst 2, 1) := by decide +kernel
theorem dX11_byTurnover_118 : decode cX11_byTurnover 118 = .ok (.invokevirtual 163, 3) := by decide +kernel
theorem dX11_byTurnover_121 : decode cX11_byTurnover 121 = .ok (.i2l, 1) := by decide +kernel
theorem dX11_byTurnover_122 : decode cX11_byTurnover 122 = .ok (.lcmp, 1) := by decide +kernel
theorem dX11_byTurnover_123 : decode cX11_byTurnover 123 = .ok (.ifCond .ge 13, 3) := by decide +kernel
theorem dX11_byTurnover_126 : decode cX11_byTurnover 126 = .ok (.aload_n 0, 1) := by decide +kernel
theorem dX11_byTurnover_127 : decode cX11_byTurnover 127 = .ok (.iload_n 1, 1) := by decide +kernel
theorem dX11_byTurnover_128 : decode cX11_byTurnover 128 = .ok (.iconst 2, 1) := by decide +kernel
theorem dX11_byTurnover_129 : decode cX11_byTurnover 129 = .ok (.invokevirtual 163, 3) := by decide +kernel
theorem dX11_byTurnover_132 : decode cX11_byTurnover 132 = .ok (.i2l, 1) := by decide +kernel
theorem dX11_byTurnover_133 : decode cX11_byTurnover 133 = .ok (.goto 5, 3) := by decide +kernel
theorem dX11_byTurnover_136 : decode cX11_byTurnover 136 = .ok (.lload 6, 2) := by decide +kernel
theorem dX11_byTurnover_138 : decode cX11_byTurnover 138 = .ok (.lreturn, 1) := by decide +kernel
set_option maxRecDepth 20000 in
theorem ggX11_wants_X11_its : GoodIn wsX11_wants wsX11_its := goodIn_r _ [8, 9, 36, 37, 38, 39, 40, 41, 42, 43, 44, 45, 46, 47, 48, 49, 50, 51, 52, 53, 54, 55, 56, 57] (by decide +kernel) (by decide +kernel)
set_option maxRecDepth 20000 in
theorem gX11_wants_X11_its : GoodIn wsX11_wants (wsV RX11 163 RX11 yX11_its wsX11_its) := goodIn_app (goodIn_of _ (by decide +kernel)) ggX11_wants_X11_its
set_option maxRecDepth 20000 in
theorem ggX11_wants_X11_monthOf : GoodIn wsX11_wants wsX11_monthOf := goodIn_r _ [13, 4, 5, 6, 7, 8, 9, 36, 37, 38, 39, 40, 41, 42, 43, 44, 45, 46, 47, 48, 49, 50, 51, 52, 53, 54, 55, 56, 57] (by decide +kernel) (by decide +kernel)
set_option maxRecDepth 20000 in
theorem gX11_wants_X11_monthOf : GoodIn wsX11_wants (wsV RX11 184 RX11 yX11_monthOf wsX11_monthOf) := goodIn_app (goodIn_of _ (by decide +kernel)) ggX11_wants_X11_monthOf
set_option maxRecDepth 20000 in
theorem ggX11_wants_X11_byIndex : GoodIn wsX11_wants wsX11_byIndex := goodIn_r _ [17, 1, 4, 5, 6, 7, 8, 9, 18, 19, 20, 21, 22, 23, 24, 25, 26, 27, 28, 29, 30, 31, 36, 37, 38, 39, 40, 41, 42, 43, 44, 45, 46, 47, 48, 49, 50, 51, 52, 53, 54, 55, 56, 57] (by decide +kernel) (by decide +kernel)
set_option maxRecDepth 20000 in
theorem gX11_wants_X11_byIndex : GoodIn wsX11_wants (wsV RX11 187 RX11 yX11_byIndex wsX11_byIndex) := goodIn_app (goodIn_of _ (by decide +kernel)) ggX11_wants_X11_byIndex
set_option maxRecDepth 20000 in
theorem ggX11_wants_X11_byTurnover : GoodIn wsX11_wants wsX11_byTurnover := goodIn_r _ [35, 1, 3, 4, 5, 6, 7, 8, 9, 36, 37, 38, 39, 40, 41, 42, 43, 44, 45, 46, 47, 48, 49, 50, 51, 52, 53, 54, 55, 56, 57] (by decide +kernel) (by decide +kernel)
set_option maxRecDepth 20000 in
theorem gX11_wants_X11_byTurnover : GoodIn wsX11_wants (wsV RX11 191 RX11 yX11_byTurnover wsX11_byTurnover) := goodIn_app (goodIn_of _ (by decide +kernel)) ggX11_wants_X11_byTurnover
theorem dX11_wants_0 : decode cX11_wants 0 = .ok (.aload_n 0, 1) := by decide +kernel
theorem dX11_wants_1 : decode cX11_wants 1 = .ok (.iload_n 1, 1) := by decide +kernel
theorem dX11_wants_2 : decode cX11_wants 2 = .ok (.iconst 5, 1) := by decide +kernel
theorem dX11_wants_3 : decode cX11_wants 3 = .ok (.invokevirtual 163, 3) := by decide +kernel
theorem dX11_wants_6 : decode cX11_wants 6 = .ok (.tableswitch 95 1 3 #[26, 39, 82], 26) := by decide +kernel
theorem dX11_wants_32 : decode cX11_wants 32 = .ok (.aload_n 0, 1) := by decide +kernel
theorem dX11_wants_33 : decode cX11_wants 33 = .ok (.iload_n 1, 1) := by decide +kernel
theorem dX11_wants_34 : decode cX11_wants 34 = .ok (.aload_n 0, 1) := by decide +kernel
theorem dX11_wants_35 : decode cX11_wants 35 = .ok (.iload_n 1, 1) := by decide +kernel
theorem dX11_wants_36 : decode cX11_wants 36 = .ok (.iload_n 2, 1) := by decide +kernel
theorem dX11_wants_37 : decode cX11_wants 37 = .ok (.invokevirtual 184, 3) := by decide +kernel
theorem dX11_wants_40 : decode cX11_wants 40 = .ok (.iload_n 3, 1) := by decide +kernel
theorem dX11_wants_41 : decode cX11_wants 41 = .ok (.invokevirtual 187, 3) := by decide +kernel
theorem dX11_wants_44 : decode cX11_wants 44 = .ok (.lreturn, 1) := by decide +kernel
theorem dX11_wants_45 : decode cX11_wants 45 = .ok (.aload_n 0, 1) := by decide +kernel
theorem dX11_wants_46 : decode cX11_wants 46 = .ok (.iload_n 1, 1) := by decide +kernel
theorem dX11_wants_47 : decode cX11_wants 47 = .ok (.bipush 20, 2) := by decide +kernel
theorem dX11_wants_49 : decode cX11_wants 49 = .ok (.iload_n 2, 1) := by decide +kernel
theorem dX11_wants_50 : decode cX11_wants 50 = .ok (.iadd, 1) := by decide +kernel
theorem dX11_wants_51 : decode cX11_wants 51 = .ok (.invokevirtual 163, 3) := by decide +kernel
theorem dX11_wants_54 : decode cX11_wants 54 = .ok (.ifCond .le 30, 3) := by decide +kernel
theorem dX11_wants_57 : decode cX11_wants 57 = .ok (.aload_n 0, 1) := by decide +kernel
theorem dX11_wants_58 : decode cX11_wants 58 = .ok (.iload_n 1, 1) := by decide +kernel
theorem dX11_wants_59 : decode cX11_wants 59 = .ok (.sipush 140, 3) := by decide +kernel
theorem dX11_wants_62 : decode cX11_wants 62 = .ok (.iload_n 2, 1) := by decide +kernel
theorem dX11_wants_63 : decode cX11_wants 63 = .ok (.iadd, 1) := by decide +kernel
theorem dX11_wants_64 : decode cX11_wants 64 = .ok (.invokevirtual 163, 3) := by decide +kernel
theorem dX11_wants_67 : decode cX11_wants 67 = .ok (.iload_n 3, 1) := by decide +kernel
theorem dX11_wants_68 : decode cX11_wants 68 = .ok (.if_icmp .gt 16, 3) := by decide +kernel
theorem dX11_wants_71 : decode cX11_wants 71 = .ok (.aload_n 0, 1) := by decide +kernel
theorem dX11_wants_72 : decode cX11_wants 72 = .ok (.iload_n 1, 1) := by decide +kernel
theorem dX11_wants_73 : decode cX11_wants 73 = .ok (.bipush 20, 2) := by decide +kernel
theorem dX11_wants_75 : decode cX11_wants 75 = .ok (.iload_n 2, 1) := by decide +kernel
theorem dX11_wants_76 : decode cX11_wants 76 = .ok (.iadd, 1) := by decide +kernel
theorem dX11_wants_77 : decode cX11_wants 77 = .ok (.invokevirtual 163, 3) := by decide +kernel
theorem dX11_wants_80 : decode cX11_wants 80 = .ok (.i2l, 1) := by decide +kernel
theorem dX11_wants_81 : decode cX11_wants 81 = .ok (.goto 6, 3) := by decide +kernel
theorem dX11_wants_84 : decode cX11_wants 84 = .ok (.ldc2_w 180, 3) := by decide +kernel
theorem dX11_wants_87 : decode cX11_wants 87 = .ok (.lreturn, 1) := by decide +kernel
theorem dX11_wants_88 : decode cX11_wants 88 = .ok (.aload_n 0, 1) := by decide +kernel
theorem dX11_wants_89 : decode cX11_wants 89 = .ok (.iload_n 1, 1) := by decide +kernel
theorem dX11_wants_90 : decode cX11_wants 90 = .ok (.aload_n 0, 1) := by decide +kernel
theorem dX11_wants_91 : decode cX11_wants 91 = .ok (.iload_n 1, 1) := by decide +kernel
theorem dX11_wants_92 : decode cX11_wants 92 = .ok (.iload_n 2, 1) := by decide +kernel
theorem dX11_wants_93 : decode cX11_wants 93 = .ok (.invokevirtual 184, 3) := by decide +kernel
theorem dX11_wants_96 : decode cX11_wants 96 = .ok (.iload_n 3, 1) := by decide +kernel
theorem dX11_wants_97 : decode cX11_wants 97 = .ok (.invokevirtual 191, 3) := by decide +kernel
theorem dX11_wants_100 : decode cX11_wants 100 = .ok (.lreturn, 1) := by decide +kernel
theorem dX11_wants_101 : decode cX11_wants 101 = .ok (.aload_n 0, 1) := by decide +kernel
theorem dX11_wants_102 : decode cX11_wants 102 = .ok (.getfield 96, 3) := by decide +kernel
theorem dX11_wants_105 : decode cX11_wants 105 = .ok (.iload_n 2, 1) := by decide +kernel
theorem dX11_wants_106 : decode cX11_wants 106 = .ok (.iconst 1, 1) := by decide +kernel
theorem dX11_wants_107 : decode cX11_wants 107 = .ok (.isub, 1) := by decide +kernel
theorem dX11_wants_108 : decode cX11_wants 108 = .ok (.laload, 1) := by decide +kernel
theorem dX11_wants_109 : decode cX11_wants 109 = .ok (.ldc2_w 182, 3) := by decide +kernel
theorem dX11_wants_112 : decode cX11_wants 112 = .ok (.aload_n 0, 1) := by decide +kernel
theorem dX11_wants_113 : decode cX11_wants 113 = .ok (.iload_n 1, 1) := by decide +kernel
theorem dX11_wants_114 : decode cX11_wants 114 = .ok (.bipush 6, 2) := by decide +kernel
theorem dX11_wants_116 : decode cX11_wants 116 = .ok (.invokevirtual 163, 3) := by decide +kernel
theorem dX11_wants_119 : decode cX11_wants 119 = .ok (.i2l, 1) := by decide +kernel
theorem dX11_wants_120 : decode cX11_wants 120 = .ok (.ladd, 1) := by decide +kernel
theorem dX11_wants_121 : decode cX11_wants 121 = .ok (.lmul, 1) := by decide +kernel
theorem dX11_wants_122 : decode cX11_wants 122 = .ok (.ldc2_w 182, 3) := by decide +kernel
theorem dX11_wants_125 : decode cX11_wants 125 = .ok (.ldiv, 1) := by decide +kernel
theorem dX11_wants_126 : decode cX11_wants 126 = .ok (.lreturn, 1) := by decide +kernel
set_option maxRecDepth 20000 in
theorem ggX11_held_X11_hasPart : GoodIn wsX11_held wsX11_hasPart := goodIn_r _ [11, 12, 13, 14, 10, 15, 16, 17, 18, 19, 20, 21, 22, 23, 24, 25, 26, 27, 28, 29, 30, 31, 32, 33, 34, 35, 36, 37, 38] (by decide +kernel) (by decide +kernel)
set_option maxRecDepth 20000 in
theorem gX11_held_X11_hasPart : GoodIn wsX11_held (wsV RX11 194 RX11 yX11_hasPart wsX11_hasPart) := goodIn_app (goodIn_of _ (by decide +kernel)) ggX11_held_X11_hasPart
set_option maxRecDepth 20000 in
theorem ggX11_held_X11_its : GoodIn wsX11_held wsX11_its := goodIn_r _ [15, 16, 17, 18, 19, 20, 21, 22, 23, 24, 25, 26, 27, 28, 29, 30, 31, 32, 33, 34, 35, 36, 37, 38] (by decide +kernel) (by decide +kernel)
set_option maxRecDepth 20000 in
theorem gX11_held_X11_its : GoodIn wsX11_held (wsV RX11 163 RX11 yX11_its wsX11_its) := goodIn_app (goodIn_of _ (by decide +kernel)) ggX11_held_X11_its
theorem dX11_held_0 : decode cX11_held 0 = .ok (.aload_n 0, 1) := by decide +kernel
theorem dX11_held_1 : decode cX11_held 1 = .ok (.getfield 92, 3) := by decide +kernel
theorem dX11_held_4 : decode cX11_held 4 = .ok (.iload_n 2, 1) := by decide +kernel
theorem dX11_held_5 : decode cX11_held 5 = .ok (.laload, 1) := by decide +kernel
theorem dX11_held_6 : decode cX11_held 6 = .ok (.lstore_n 3, 1) := by decide +kernel
theorem dX11_held_7 : decode cX11_held 7 = .ok (.aload_n 0, 1) := by decide +kernel
theorem dX11_held_8 : decode cX11_held 8 = .ok (.getfield 96, 3) := by decide +kernel
theorem dX11_held_11 : decode cX11_held 11 = .ok (.iload_n 2, 1) := by decide +kernel
theorem dX11_held_12 : decode cX11_held 12 = .ok (.iconst 1, 1) := by decide +kernel
theorem dX11_held_13 : decode cX11_held 13 = .ok (.isub, 1) := by decide +kernel
theorem dX11_held_14 : decode cX11_held 14 = .ok (.laload, 1) := by decide +kernel
theorem dX11_held_15 : decode cX11_held 15 = .ok (.lstore 5, 2) := by decide +kernel
theorem dX11_held_17 : decode cX11_held 17 = .ok (.aload_n 0, 1) := by decide +kernel
theorem dX11_held_18 : decode cX11_held 18 = .ok (.iload_n 1, 1) := by decide +kernel
theorem dX11_held_19 : decode cX11_held 19 = .ok (.iconst 2, 1) := by decide +kernel
theorem dX11_held_20 : decode cX11_held 20 = .ok (.invokevirtual 194, 3) := by decide +kernel
theorem dX11_held_23 : decode cX11_held 23 = .ok (.ifCond .eq 71, 3) := by decide +kernel
theorem dX11_held_26 : decode cX11_held 26 = .ok (.lload 5, 2) := by decide +kernel
theorem dX11_held_28 : decode cX11_held 28 = .ok (.ldc2_w 182, 3) := by decide +kernel
theorem dX11_held_31 : decode cX11_held 31 = .ok (.aload_n 0, 1) := by decide +kernel
theorem dX11_held_32 : decode cX11_held 32 = .ok (.iload_n 1, 1) := by decide +kernel
theorem dX11_held_33 : decode cX11_held 33 = .ok (.bipush 8, 2) := by decide +kernel
theorem dX11_held_35 : decode cX11_held 35 = .ok (.invokevirtual 163, 3) := by decide +kernel
theorem dX11_held_38 : decode cX11_held 38 = .ok (.i2l, 1) := by decide +kernel
theorem dX11_held_39 : decode cX11_held 39 = .ok (.lsub, 1) := by decide +kernel
theorem dX11_held_40 : decode cX11_held 40 = .ok (.lmul, 1) := by decide +kernel
theorem dX11_held_41 : decode cX11_held 41 = .ok (.ldc2_w 182, 3) := by decide +kernel
theorem dX11_held_44 : decode cX11_held 44 = .ok (.ldiv, 1) := by decide +kernel
theorem dX11_held_45 : decode cX11_held 45 = .ok (.lstore 7, 2) := by decide +kernel
theorem dX11_held_47 : decode cX11_held 47 = .ok (.lload 5, 2) := by decide +kernel
theorem dX11_held_49 : decode cX11_held 49 = .ok (.ldc2_w 182, 3) := by decide +kernel
theorem dX11_held_52 : decode cX11_held 52 = .ok (.aload_n 0, 1) := by decide +kernel
theorem dX11_held_53 : decode cX11_held 53 = .ok (.iload_n 1, 1) := by decide +kernel
theorem dX11_held_54 : decode cX11_held 54 = .ok (.bipush 9, 2) := by decide +kernel
theorem dX11_held_56 : decode cX11_held 56 = .ok (.invokevirtual 163, 3) := by decide +kernel
theorem dX11_held_59 : decode cX11_held 59 = .ok (.i2l, 1) := by decide +kernel
theorem dX11_held_60 : decode cX11_held 60 = .ok (.ladd, 1) := by decide +kernel
theorem dX11_held_61 : decode cX11_held 61 = .ok (.lmul, 1) := by decide +kernel
theorem dX11_held_62 : decode cX11_held 62 = .ok (.ldc2_w 182, 3) := by decide +kernel
theorem dX11_held_65 : decode cX11_held 65 = .ok (.ldiv, 1) := by decide +kernel
theorem dX11_held_66 : decode cX11_held 66 = .ok (.lstore 9, 2) := by decide +kernel
theorem dX11_held_68 : decode cX11_held 68 = .ok (.lload_n 3, 1) := by decide +kernel
theorem dX11_held_69 : decode cX11_held 69 = .ok (.lload 7, 2) := by decide +kernel
theorem dX11_held_71 : decode cX11_held 71 = .ok (.lcmp, 1) := by decide +kernel
theorem dX11_held_72 : decode cX11_held 72 = .ok (.ifCond .ge 8, 3) := by decide +kernel
theorem dX11_held_75 : decode cX11_held 75 = .ok (.lload 7, 2) := by decide +kernel
theorem dX11_held_77 : decode cX11_held 77 = .ok (.goto 16, 3) := by decide +kernel
theorem dX11_held_80 : decode cX11_held 80 = .ok (.lload_n 3, 1) := by decide +kernel
theorem dX11_held_81 : decode cX11_held 81 = .ok (.lload 9, 2) := by decide +kernel
theorem dX11_held_83 : decode cX11_held 83 = .ok (.lcmp, 1) := by decide +kernel
theorem dX11_held_84 : decode cX11_held 84 = .ok (.ifCond .le 8, 3) := by decide +kernel
theorem dX11_held_87 : decode cX11_held 87 = .ok (.lload 9, 2) := by decide +kernel
theorem dX11_held_89 : decode cX11_held 89 = .ok (.goto 4, 3) := by decide +kernel
theorem dX11_held_92 : decode cX11_held 92 = .ok (.lload_n 3, 1) := by decide +kernel
theorem dX11_held_93 : decode cX11_held 93 = .ok (.lstore_n 3, 1) := by decide +kernel
theorem dX11_held_94 : decode cX11_held 94 = .ok (.aload_n 0, 1) := by decide +kernel
theorem dX11_held_95 : decode cX11_held 95 = .ok (.iload_n 1, 1) := by decide +kernel
theorem dX11_held_96 : decode cX11_held 96 = .ok (.iconst 4, 1) := by decide +kernel
theorem dX11_held_97 : decode cX11_held 97 = .ok (.invokevirtual 194, 3) := by decide +kernel
theorem dX11_held_100 : decode cX11_held 100 = .ok (.ifCond .eq 45, 3) := by decide +kernel
theorem dX11_held_103 : decode cX11_held 103 = .ok (.lload_n 3, 1) := by decide +kernel
theorem dX11_held_104 : decode cX11_held 104 = .ok (.aload_n 0, 1) := by decide +kernel
theorem dX11_held_105 : decode cX11_held 105 = .ok (.getfield 99, 3) := by decide +kernel
theorem dX11_held_108 : decode cX11_held 108 = .ok (.iload_n 2, 1) := by decide +kernel
theorem dX11_held_109 : decode cX11_held 109 = .ok (.laload, 1) := by decide +kernel
theorem dX11_held_110 : decode cX11_held 110 = .ok (.lcmp, 1) := by decide +kernel
theorem dX11_held_111 : decode cX11_held 111 = .ok (.ifCond .ge 12, 3) := by decide +kernel
theorem dX11_held_114 : decode cX11_held 114 = .ok (.aload_n 0, 1) := by decide +kernel
theorem dX11_held_115 : decode cX11_held 115 = .ok (.getfield 99, 3) := by decide +kernel
theorem dX11_held_118 : decode cX11_held 118 = .ok (.iload_n 2, 1) := by decide +kernel
theorem dX11_held_119 : decode cX11_held 119 = .ok (.laload, 1) := by decide +kernel
theorem dX11_held_120 : decode cX11_held 120 = .ok (.goto 24, 3) := by decide +kernel
theorem dX11_held_123 : decode cX11_held 123 = .ok (.lload_n 3, 1) := by decide +kernel
theorem dX11_held_124 : decode cX11_held 124 = .ok (.aload_n 0, 1) := by decide +kernel
theorem dX11_held_125 : decode cX11_held 125 = .ok (.getfield 102, 3) := by decide +kernel
theorem dX11_held_128 : decode cX11_held 128 = .ok (.iload_n 2, 1) := by decide +kernel
theorem dX11_held_129 : decode cX11_held 129 = .ok (.laload, 1) := by decide +kernel
theorem dX11_held_130 : decode cX11_held 130 = .ok (.lcmp, 1) := by decide +kernel
theorem dX11_held_131 : decode cX11_held 131 = .ok (.ifCond .le 12, 3) := by decide +kernel
theorem dX11_held_134 : decode cX11_held 134 = .ok (.aload_n 0, 1) := by decide +kernel
theorem dX11_held_135 : decode cX11_held 135 = .ok (.getfield 102, 3) := by decide +kernel
theorem dX11_held_138 : decode cX11_held 138 = .ok (.iload_n 2, 1) := by decide +kernel
theorem dX11_held_139 : decode cX11_held 139 = .ok (.laload, 1) := by decide +kernel
theorem dX11_held_140 : decode cX11_held 140 = .ok (.goto 4, 3) := by decide +kernel
theorem dX11_held_143 : decode cX11_held 143 = .ok (.lload_n 3, 1) := by decide +kernel
theorem dX11_held_144 : decode cX11_held 144 = .ok (.lstore_n 3, 1) := by decide +kernel
theorem dX11_held_145 : decode cX11_held 145 = .ok (.aload_n 0, 1) := by decide +kernel
theorem dX11_held_146 : decode cX11_held 146 = .ok (.iload_n 1, 1) := by decide +kernel
theorem dX11_held_147 : decode cX11_held 147 = .ok (.bipush 8, 2) := by decide +kernel
theorem dX11_held_149 : decode cX11_held 149 = .ok (.invokevirtual 194, 3) := by decide +kernel
theorem dX11_held_152 : decode cX11_held 152 = .ok (.ifCond .eq 13, 3) := by decide +kernel
theorem dX11_held_155 : decode cX11_held 155 = .ok (.lload_n 3, 1) := by decide +kernel
theorem dX11_held_156 : decode cX11_held 156 = .ok (.lload 5, 2) := by decide +kernel
theorem dX11_held_158 : decode cX11_held 158 = .ok (.lcmp, 1) := by decide +kernel
theorem dX11_held_159 : decode cX11_held 159 = .ok (.ifCond .ge 6, 3) := by decide +kernel
theorem dX11_held_162 : decode cX11_held 162 = .ok (.lload 5, 2) := by decide +kernel
theorem dX11_held_164 : decode cX11_held 164 = .ok (.lstore_n 3, 1) := by decide +kernel
theorem dX11_held_165 : decode cX11_held 165 = .ok (.lload_n 3, 1) := by decide +kernel
theorem dX11_held_166 : decode cX11_held 166 = .ok (.lconst 1, 1) := by decide +kernel
theorem dX11_held_167 : decode cX11_held 167 = .ok (.lcmp, 1) := by decide +kernel
theorem dX11_held_168 : decode cX11_held 168 = .ok (.ifCond .ge 7, 3) := by decide +kernel
theorem dX11_held_171 : decode cX11_held 171 = .ok (.lconst 1, 1) := by decide +kernel
theorem dX11_held_172 : decode cX11_held 172 = .ok (.goto 18, 3) := by decide +kernel
theorem dX11_held_175 : decode cX11_held 175 = .ok (.lload_n 3, 1) := by decide +kernel
theorem dX11_held_176 : decode cX11_held 176 = .ok (.ldc2_w 197, 3) := by decide +kernel
theorem dX11_held_179 : decode cX11_held 179 = .ok (.lcmp, 1) := by decide +kernel
theorem dX11_held_180 : decode cX11_held 180 = .ok (.ifCond .le 9, 3) := by decide +kernel
theorem dX11_held_183 : decode cX11_held 183 = .ok (.ldc2_w 197, 3) := by decide +kernel
theorem dX11_held_186 : decode cX11_held 186 = .ok (.goto 4, 3) := by decide +kernel
theorem dX11_held_189 : decode cX11_held 189 = .ok (.lload_n 3, 1) := by decide +kernel
theorem dX11_held_190 : decode cX11_held 190 = .ok (.lreturn, 1) := by decide +kernel
set_option maxRecDepth 20000 in
theorem ggX11_laysRents_X11_its : GoodIn wsX11_laysRents wsX11_its := goodIn_r _ [12, 13, 56, 57, 58, 59, 60, 61, 62, 63, 64, 65, 66, 67, 68, 69, 70, 71, 72, 73, 74, 75, 76, 77] (by decide +kernel) (by decide +kernel)
set_option maxRecDepth 20000 in
theorem gX11_laysRents_X11_its : GoodIn wsX11_laysRents (wsV RX11 163 RX11 yX11_its wsX11_its) := goodIn_app (goodIn_of _ (by decide +kernel)) ggX11_laysRents_X11_its
set_option maxRecDepth 20000 in
theorem ggX11_laysRents_X11_reviewsOf : GoodIn wsX11_laysRents wsX11_reviewsOf := goodIn_r _ [17, 8, 9, 10, 11, 12, 13, 56, 57, 58, 59, 60, 61, 62, 63, 64, 65, 66, 67, 68, 69, 70, 71, 72, 73, 74, 75, 76, 77] (by decide +kernel) (by decide +kernel)
set_option maxRecDepth 20000 in
theorem gX11_laysRents_X11_reviewsOf : GoodIn wsX11_laysRents (wsV RX11 199 RX11 yX11_reviewsOf wsX11_reviewsOf) := goodIn_app (goodIn_of _ (by decide +kernel)) ggX11_laysRents_X11_reviewsOf
set_option maxRecDepth 20000 in
theorem ggX11_laysRents_X11_wants : GoodIn wsX11_laysRents wsX11_wants := goodIn_r _ [21, 7, 1, 4, 8, 9, 10, 11, 12, 13, 22, 23, 24, 25, 26, 27, 28, 29, 30, 31, 32, 33, 34, 35, 36, 37, 38, 39, 40, 41, 42, 43, 44, 45, 46, 47, 56, 57, 58, 59, 60, 61, 62, 63, 64, 65, 66, 67, 68, 69, 70, 71, 72, 73, 74, 75, 76, 77] (by decide +kernel) (by decide +kernel)
set_option maxRecDepth 20000 in
theorem gX11_laysRents_X11_wants : GoodIn wsX11_laysRents (wsV RX11 202 RX11 yX11_wants wsX11_wants) := goodIn_app (goodIn_of _ (by decide +kernel)) ggX11_laysRents_X11_wants
set_option maxRecDepth 20000 in
theorem ggX11_laysRents_X11_held : GoodIn wsX11_laysRents wsX11_held := goodIn_r _ [51, 6, 1, 4, 2, 3, 5, 52, 53, 54, 11, 55, 8, 9, 10, 12, 13, 56, 57, 58, 59, 60, 61, 62, 63, 64, 65, 66, 67, 68, 69, 70, 71, 72, 73, 74, 75, 76, 77] (by decide +kernel) (by decide +kernel)
set_option maxRecDepth 20000 in
theorem gX11_laysRents_X11_held : GoodIn wsX11_laysRents (wsV RX11 205 RX11 yX11_held wsX11_held) := goodIn_app (goodIn_of _ (by decide +kernel)) ggX11_laysRents_X11_held
theorem dX11_laysRents_0 : decode cX11_laysRents 0 = .ok (.aload_n 0, 1) := by decide +kernel
theorem dX11_laysRents_1 : decode cX11_laysRents 1 = .ok (.getfield 96, 3) := by decide +kernel
theorem dX11_laysRents_4 : decode cX11_laysRents 4 = .ok (.iconst 0, 1) := by decide +kernel
theorem dX11_laysRents_5 : decode cX11_laysRents 5 = .ok (.aload_n 0, 1) := by decide +kernel
theorem dX11_laysRents_6 : decode cX11_laysRents 6 = .ok (.iload_n 1, 1) := by decide +kernel
theorem dX11_laysRents_7 : decode cX11_laysRents 7 = .ok (.iconst 2, 1) := by decide +kernel
theorem dX11_laysRents_8 : decode cX11_laysRents 8 = .ok (.invokevirtual 163, 3) := by decide +kernel
theorem dX11_laysRents_11 : decode cX11_laysRents 11 = .ok (.i2l, 1) := by decide +kernel
theorem dX11_laysRents_12 : decode cX11_laysRents 12 = .ok (.lastore, 1) := by decide +kernel
theorem dX11_laysRents_13 : decode cX11_laysRents 13 = .ok (.aload_n 0, 1) := by decide +kernel
theorem dX11_laysRents_14 : decode cX11_laysRents 14 = .ok (.getfield 99, 3) := by decide +kernel
theorem dX11_laysRents_17 : decode cX11_laysRents 17 = .ok (.iconst 0, 1) := by decide +kernel
theorem dX11_laysRents_18 : decode cX11_laysRents 18 = .ok (.aload_n 0, 1) := by decide +kernel
theorem dX11_laysRents_19 : decode cX11_laysRents 19 = .ok (.getfield 96, 3) := by decide +kernel
theorem dX11_laysRents_22 : decode cX11_laysRents 22 = .ok (.iconst 0, 1) := by decide +kernel
theorem dX11_laysRents_23 : decode cX11_laysRents 23 = .ok (.laload, 1) := by decide +kernel
theorem dX11_laysRents_24 : decode cX11_laysRents 24 = .ok (.lastore, 1) := by decide +kernel
theorem dX11_laysRents_25 : decode cX11_laysRents 25 = .ok (.aload_n 0, 1) := by decide +kernel
theorem dX11_laysRents_26 : decode cX11_laysRents 26 = .ok (.getfield 102, 3) := by decide +kernel
theorem dX11_laysRents_29 : decode cX11_laysRents 29 = .ok (.iconst 0, 1) := by decide +kernel
theorem dX11_laysRents_30 : decode cX11_laysRents 30 = .ok (.aload_n 0, 1) := by decide +kernel
theorem dX11_laysRents_31 : decode cX11_laysRents 31 = .ok (.getfield 96, 3) := by decide +kernel
theorem dX11_laysRents_34 : decode cX11_laysRents 34 = .ok (.iconst 0, 1) := by decide +kernel
theorem dX11_laysRents_35 : decode cX11_laysRents 35 = .ok (.laload, 1) := by decide +kernel
theorem dX11_laysRents_36 : decode cX11_laysRents 36 = .ok (.lastore, 1) := by decide +kernel
theorem dX11_laysRents_37 : decode cX11_laysRents 37 = .ok (.iconst 1, 1) := by decide +kernel
theorem dX11_laysRents_38 : decode cX11_laysRents 38 = .ok (.istore_n 3, 1) := by decide +kernel
theorem dX11_laysRents_39 : decode cX11_laysRents 39 = .ok (.iload_n 3, 1) := by decide +kernel
theorem dX11_laysRents_40 : decode cX11_laysRents 40 = .ok (.aload_n 0, 1) := by decide +kernel
theorem dX11_laysRents_41 : decode cX11_laysRents 41 = .ok (.iload_n 1, 1) := by decide +kernel
theorem dX11_laysRents_42 : decode cX11_laysRents 42 = .ok (.invokevirtual 199, 3) := by decide +kernel
theorem dX11_laysRents_45 : decode cX11_laysRents 45 = .ok (.if_icmp .gt 142, 3) := by decide +kernel
theorem dX11_laysRents_48 : decode cX11_laysRents 48 = .ok (.aload_n 0, 1) := by decide +kernel
theorem dX11_laysRents_49 : decode cX11_laysRents 49 = .ok (.getfield 99, 3) := by decide +kernel
theorem dX11_laysRents_52 : decode cX11_laysRents 52 = .ok (.iload_n 3, 1) := by decide +kernel
theorem dX11_laysRents_53 : decode cX11_laysRents 53 = .ok (.aload_n 0, 1) := by decide +kernel
theorem dX11_laysRents_54 : decode cX11_laysRents 54 = .ok (.getfield 99, 3) := by decide +kernel
theorem dX11_laysRents_57 : decode cX11_laysRents 57 = .ok (.iload_n 3, 1) := by decide +kernel
theorem dX11_laysRents_58 : decode cX11_laysRents 58 = .ok (.iconst 1, 1) := by decide +kernel
theorem dX11_laysRents_59 : decode cX11_laysRents 59 = .ok (.isub, 1) := by decide +kernel
theorem dX11_laysRents_60 : decode cX11_laysRents 60 = .ok (.laload, 1) := by decide +kernel
theorem dX11_laysRents_61 : decode cX11_laysRents 61 = .ok (.ldc2_w 182, 3) := by decide +kernel
theorem dX11_laysRents_64 : decode cX11_laysRents 64 = .ok (.aload_n 0, 1) := by decide +kernel
theorem dX11_laysRents_65 : decode cX11_laysRents 65 = .ok (.iload_n 1, 1) := by decide +kernel
theorem dX11_laysRents_66 : decode cX11_laysRents 66 = .ok (.bipush 10, 2) := by decide +kernel
theorem dX11_laysRents_68 : decode cX11_laysRents 68 = .ok (.invokevirtual 163, 3) := by decide +kernel
theorem dX11_laysRents_71 : decode cX11_laysRents 71 = .ok (.i2l, 1) := by decide +kernel
theorem dX11_laysRents_72 : decode cX11_laysRents 72 = .ok (.lsub, 1) := by decide +kernel
theorem dX11_laysRents_73 : decode cX11_laysRents 73 = .ok (.lmul, 1) := by decide +kernel
theorem dX11_laysRents_74 : decode cX11_laysRents 74 = .ok (.ldc2_w 182, 3) := by decide +kernel
theorem dX11_laysRents_77 : decode cX11_laysRents 77 = .ok (.ldiv, 1) := by decide +kernel
theorem dX11_laysRents_78 : decode cX11_laysRents 78 = .ok (.lastore, 1) := by decide +kernel
theorem dX11_laysRents_79 : decode cX11_laysRents 79 = .ok (.aload_n 0, 1) := by decide +kernel
theorem dX11_laysRents_80 : decode cX11_laysRents 80 = .ok (.getfield 102, 3) := by decide +kernel
theorem dX11_laysRents_83 : decode cX11_laysRents 83 = .ok (.iload_n 3, 1) := by decide +kernel
theorem dX11_laysRents_84 : decode cX11_laysRents 84 = .ok (.aload_n 0, 1) := by decide +kernel
theorem dX11_laysRents_85 : decode cX11_laysRents 85 = .ok (.getfield 102, 3) := by decide +kernel
theorem dX11_laysRents_88 : decode cX11_laysRents 88 = .ok (.iload_n 3, 1) := by decide +kernel
theorem dX11_laysRents_89 : decode cX11_laysRents 89 = .ok (.iconst 1, 1) := by decide +kernel
theorem dX11_laysRents_90 : decode cX11_laysRents 90 = .ok (.isub, 1) := by decide +kernel
theorem dX11_laysRents_91 : decode cX11_laysRents 91 = .ok (.laload, 1) := by decide +kernel
theorem dX11_laysRents_92 : decode cX11_laysRents 92 = .ok (.ldc2_w 182, 3) := by decide +kernel
theorem dX11_laysRents_95 : decode cX11_laysRents 95 = .ok (.aload_n 0, 1) := by decide +kernel
theorem dX11_laysRents_96 : decode cX11_laysRents 96 = .ok (.iload_n 1, 1) := by decide +kernel
theorem dX11_laysRents_97 : decode cX11_laysRents 97 = .ok (.bipush 11, 2) := by decide +kernel
theorem dX11_laysRents_99 : decode cX11_laysRents 99 = .ok (.invokevirtual 163, 3) := by decide +kernel
theorem dX11_laysRents_102 : decode cX11_laysRents 102 = .ok (.i2l, 1) := by decide +kernel
theorem dX11_laysRents_103 : decode cX11_laysRents 103 = .ok (.ladd, 1) := by decide +kernel
theorem dX11_laysRents_104 : decode cX11_laysRents 104 = .ok (.lmul, 1) := by decide +kernel
theorem dX11_laysRents_105 : decode cX11_laysRents 105 = .ok (.ldc2_w 182, 3) := by decide +kernel
theorem dX11_laysRents_108 : decode cX11_laysRents 108 = .ok (.ldiv, 1) := by decide +kernel
theorem dX11_laysRents_109 : decode cX11_laysRents 109 = .ok (.lastore, 1) := by decide +kernel
theorem dX11_laysRents_110 : decode cX11_laysRents 110 = .ok (.aload_n 0, 1) := by decide +kernel
theorem dX11_laysRents_111 : decode cX11_laysRents 111 = .ok (.getfield 102, 3) := by decide +kernel
theorem dX11_laysRents_114 : decode cX11_laysRents 114 = .ok (.iload_n 3, 1) := by decide +kernel
theorem dX11_laysRents_115 : decode cX11_laysRents 115 = .ok (.laload, 1) := by decide +kernel
theorem dX11_laysRents_116 : decode cX11_laysRents 116 = .ok (.ldc2_w 197, 3) := by decide +kernel
theorem dX11_laysRents_119 : decode cX11_laysRents 119 = .ok (.lcmp, 1) := by decide +kernel
theorem dX11_laysRents_120 : decode cX11_laysRents 120 = .ok (.ifCond .le 12, 3) := by decide +kernel
theorem dX11_laysRents_123 : decode cX11_laysRents 123 = .ok (.aload_n 0, 1) := by decide +kernel
theorem dX11_laysRents_124 : decode cX11_laysRents 124 = .ok (.getfield 102, 3) := by decide +kernel
theorem dX11_laysRents_127 : decode cX11_laysRents 127 = .ok (.iload_n 3, 1) := by decide +kernel
theorem dX11_laysRents_128 : decode cX11_laysRents 128 = .ok (.ldc2_w 197, 3) := by decide +kernel
theorem dX11_laysRents_131 : decode cX11_laysRents 131 = .ok (.lastore, 1) := by decide +kernel
theorem dX11_laysRents_132 : decode cX11_laysRents 132 = .ok (.aload_n 0, 1) := by decide +kernel
theorem dX11_laysRents_133 : decode cX11_laysRents 133 = .ok (.getfield 92, 3) := by decide +kernel
theorem dX11_laysRents_136 : decode cX11_laysRents 136 = .ok (.iload_n 3, 1) := by decide +kernel
theorem dX11_laysRents_137 : decode cX11_laysRents 137 = .ok (.aload_n 0, 1) := by decide +kernel
theorem dX11_laysRents_138 : decode cX11_laysRents 138 = .ok (.iload_n 1, 1) := by decide +kernel
theorem dX11_laysRents_139 : decode cX11_laysRents 139 = .ok (.iload_n 3, 1) := by decide +kernel
theorem dX11_laysRents_140 : decode cX11_laysRents 140 = .ok (.iload_n 2, 1) := by decide +kernel
theorem dX11_laysRents_141 : decode cX11_laysRents 141 = .ok (.invokevirtual 202, 3) := by decide +kernel
theorem dX11_laysRents_144 : decode cX11_laysRents 144 = .ok (.lastore, 1) := by decide +kernel
theorem dX11_laysRents_145 : decode cX11_laysRents 145 = .ok (.aload_n 0, 1) := by decide +kernel
theorem dX11_laysRents_146 : decode cX11_laysRents 146 = .ok (.getfield 96, 3) := by decide +kernel
theorem dX11_laysRents_149 : decode cX11_laysRents 149 = .ok (.iload_n 3, 1) := by decide +kernel
theorem dX11_laysRents_150 : decode cX11_laysRents 150 = .ok (.aload_n 0, 1) := by decide +kernel
theorem dX11_laysRents_151 : decode cX11_laysRents 151 = .ok (.getfield 92, 3) := by decide +kernel
theorem dX11_laysRents_154 : decode cX11_laysRents 154 = .ok (.iload_n 3, 1) := by decide +kernel
theorem dX11_laysRents_155 : decode cX11_laysRents 155 = .ok (.laload, 1) := by decide +kernel
theorem dX11_laysRents_156 : decode cX11_laysRents 156 = .ok (.ldc2_w 180, 3) := by decide +kernel
theorem dX11_laysRents_159 : decode cX11_laysRents 159 = .ok (.lcmp, 1) := by decide +kernel
theorem dX11_laysRents_160 : decode cX11_laysRents 160 = .ok (.ifCond .ne 14, 3) := by decide +kernel
theorem dX11_laysRents_163 : decode cX11_laysRents 163 = .ok (.aload_n 0, 1) := by decide +kernel
theorem dX11_laysRents_164 : decode cX11_laysRents 164 = .ok (.getfield 96, 3) := by decide +kernel
theorem dX11_laysRents_167 : decode cX11_laysRents 167 = .ok (.iload_n 3, 1) := by decide +kernel
theorem dX11_laysRents_168 : decode cX11_laysRents 168 = .ok (.iconst 1, 1) := by decide +kernel
theorem dX11_laysRents_169 : decode cX11_laysRents 169 = .ok (.isub, 1) := by decide +kernel
theorem dX11_laysRents_170 : decode cX11_laysRents 170 = .ok (.laload, 1) := by decide +kernel
theorem dX11_laysRents_171 : decode cX11_laysRents 171 = .ok (.goto 9, 3) := by decide +kernel
theorem dX11_laysRents_174 : decode cX11_laysRents 174 = .ok (.aload_n 0, 1) := by decide +kernel
theorem dX11_laysRents_175 : decode cX11_laysRents 175 = .ok (.iload_n 1, 1) := by decide +kernel
theorem dX11_laysRents_176 : decode cX11_laysRents 176 = .ok (.iload_n 3, 1) := by decide +kernel
theorem dX11_laysRents_177 : decode cX11_laysRents 177 = .ok (.invokevirtual 205, 3) := by decide +kernel
theorem dX11_laysRents_180 : decode cX11_laysRents 180 = .ok (.lastore, 1) := by decide +kernel
theorem dX11_laysRents_181 : decode cX11_laysRents 181 = .ok (.iinc 3 1, 3) := by decide +kernel
theorem dX11_laysRents_184 : decode cX11_laysRents 184 = .ok (.goto (-145), 3) := by decide +kernel
theorem dX11_laysRents_187 : decode cX11_laysRents 187 = .ok (.return_, 1) := by decide +kernel
set_option maxRecDepth 20000 in
theorem ggX11_rentLaid_X11_its : GoodIn wsX11_rentLaid wsX11_its := goodIn_r _ [6, 7, 12, 13, 14, 15, 16, 17, 18, 19, 20, 21, 22, 23, 24, 25, 26, 27, 28, 29, 30, 31, 32, 33] (by decide +kernel) (by decide +kernel)
set_option maxRecDepth 20000 in
theorem gX11_rentLaid_X11_its : GoodIn wsX11_rentLaid (wsV RX11 163 RX11 yX11_its wsX11_its) := goodIn_app (goodIn_of _ (by decide +kernel)) ggX11_rentLaid_X11_its
set_option maxRecDepth 20000 in
theorem ggX11_rentLaid_X11_reviewsOf : GoodIn wsX11_rentLaid wsX11_reviewsOf := goodIn_r _ [11, 2, 3, 4, 5, 6, 7, 12, 13, 14, 15, 16, 17, 18, 19, 20, 21, 22, 23, 24, 25, 26, 27, 28, 29, 30, 31, 32, 33] (by decide +kernel) (by decide +kernel)
set_option maxRecDepth 20000 in
theorem gX11_rentLaid_X11_reviewsOf : GoodIn wsX11_rentLaid (wsV RX11 199 RX11 yX11_reviewsOf wsX11_reviewsOf) := goodIn_app (goodIn_of _ (by decide +kernel)) ggX11_rentLaid_X11_reviewsOf
theorem dX11_rentLaid_0 : decode cX11_rentLaid 0 = .ok (.iload_n 2, 1) := by decide +kernel
theorem dX11_rentLaid_1 : decode cX11_rentLaid 1 = .ok (.aload_n 0, 1) := by decide +kernel
theorem dX11_rentLaid_2 : decode cX11_rentLaid 2 = .ok (.iload_n 1, 1) := by decide +kernel
theorem dX11_rentLaid_3 : decode cX11_rentLaid 3 = .ok (.iconst 0, 1) := by decide +kernel
theorem dX11_rentLaid_4 : decode cX11_rentLaid 4 = .ok (.invokevirtual 163, 3) := by decide +kernel
theorem dX11_rentLaid_7 : decode cX11_rentLaid 7 = .ok (.isub, 1) := by decide +kernel
theorem dX11_rentLaid_8 : decode cX11_rentLaid 8 = .ok (.aload_n 0, 1) := by decide +kernel
theorem dX11_rentLaid_9 : decode cX11_rentLaid 9 = .ok (.iload_n 1, 1) := by decide +kernel
theorem dX11_rentLaid_10 : decode cX11_rentLaid 10 = .ok (.iconst 3, 1) := by decide +kernel
theorem dX11_rentLaid_11 : decode cX11_rentLaid 11 = .ok (.invokevirtual 163, 3) := by decide +kernel
theorem dX11_rentLaid_14 : decode cX11_rentLaid 14 = .ok (.idiv, 1) := by decide +kernel
theorem dX11_rentLaid_15 : decode cX11_rentLaid 15 = .ok (.istore_n 3, 1) := by decide +kernel
theorem dX11_rentLaid_16 : decode cX11_rentLaid 16 = .ok (.aload_n 0, 1) := by decide +kernel
theorem dX11_rentLaid_17 : decode cX11_rentLaid 17 = .ok (.getfield 96, 3) := by decide +kernel
theorem dX11_rentLaid_20 : decode cX11_rentLaid 20 = .ok (.iload_n 3, 1) := by decide +kernel
theorem dX11_rentLaid_21 : decode cX11_rentLaid 21 = .ok (.aload_n 0, 1) := by decide +kernel
theorem dX11_rentLaid_22 : decode cX11_rentLaid 22 = .ok (.iload_n 1, 1) := by decide +kernel
theorem dX11_rentLaid_23 : decode cX11_rentLaid 23 = .ok (.invokevirtual 199, 3) := by decide +kernel
theorem dX11_rentLaid_26 : decode cX11_rentLaid 26 = .ok (.if_icmp .le 11, 3) := by decide +kernel
theorem dX11_rentLaid_29 : decode cX11_rentLaid 29 = .ok (.aload_n 0, 1) := by decide +kernel
theorem dX11_rentLaid_30 : decode cX11_rentLaid 30 = .ok (.iload_n 1, 1) := by decide +kernel
theorem dX11_rentLaid_31 : decode cX11_rentLaid 31 = .ok (.invokevirtual 199, 3) := by decide +kernel
theorem dX11_rentLaid_34 : decode cX11_rentLaid 34 = .ok (.goto 4, 3) := by decide +kernel
theorem dX11_rentLaid_37 : decode cX11_rentLaid 37 = .ok (.iload_n 3, 1) := by decide +kernel
theorem dX11_rentLaid_38 : decode cX11_rentLaid 38 = .ok (.laload, 1) := by decide +kernel
theorem dX11_rentLaid_39 : decode cX11_rentLaid 39 = .ok (.l2i, 1) := by decide +kernel
theorem dX11_rentLaid_40 : decode cX11_rentLaid 40 = .ok (.ireturn, 1) := by decide +kernel
set_option maxRecDepth 20000 in
theorem ggX11_dueLaid_X11_its : GoodIn wsX11_dueLaid wsX11_its := goodIn_r _ [5, 6, 16, 17, 18, 19, 20, 21, 22, 23, 24, 25, 26, 27, 28, 29, 30, 31, 32, 33, 34, 35, 36, 37] (by decide +kernel) (by decide +kernel)
set_option maxRecDepth 20000 in
theorem gX11_dueLaid_X11_its : GoodIn wsX11_dueLaid (wsV RX11 163 RX11 yX11_its wsX11_its) := goodIn_app (goodIn_of _ (by decide +kernel)) ggX11_dueLaid_X11_its
set_option maxRecDepth 20000 in
theorem ggX11_dueLaid_X11_rentLaid : GoodIn wsX11_dueLaid wsX11_rentLaid := goodIn_r _ [10, 11, 1, 2, 3, 4, 5, 6, 12, 13, 14, 15, 16, 17, 18, 19, 20, 21, 22, 23, 24, 25, 26, 27, 28, 29, 30, 31, 32, 33, 34, 35, 36, 37] (by decide +kernel) (by decide +kernel)
set_option maxRecDepth 20000 in
theorem gX11_dueLaid_X11_rentLaid : GoodIn wsX11_dueLaid (wsV RX11 208 RX11 yX11_rentLaid wsX11_rentLaid) := goodIn_app (goodIn_of _ (by decide +kernel)) ggX11_dueLaid_X11_rentLaid
theorem dX11_dueLaid_0 : decode cX11_dueLaid 0 = .ok (.iload_n 2, 1) := by decide +kernel
theorem dX11_dueLaid_1 : decode cX11_dueLaid 1 = .ok (.aload_n 0, 1) := by decide +kernel
theorem dX11_dueLaid_2 : decode cX11_dueLaid 2 = .ok (.iload_n 1, 1) := by decide +kernel
theorem dX11_dueLaid_3 : decode cX11_dueLaid 3 = .ok (.iconst 0, 1) := by decide +kernel
theorem dX11_dueLaid_4 : decode cX11_dueLaid 4 = .ok (.invokevirtual 163, 3) := by decide +kernel
theorem dX11_dueLaid_7 : decode cX11_dueLaid 7 = .ok (.aload_n 0, 1) := by decide +kernel
theorem dX11_dueLaid_8 : decode cX11_dueLaid 8 = .ok (.iload_n 1, 1) := by decide +kernel
theorem dX11_dueLaid_9 : decode cX11_dueLaid 9 = .ok (.iconst 4, 1) := by decide +kernel
theorem dX11_dueLaid_10 : decode cX11_dueLaid 10 = .ok (.invokevirtual 163, 3) := by decide +kernel
theorem dX11_dueLaid_13 : decode cX11_dueLaid 13 = .ok (.iadd, 1) := by decide +kernel
theorem dX11_dueLaid_14 : decode cX11_dueLaid 14 = .ok (.if_icmp .ge 7, 3) := by decide +kernel
theorem dX11_dueLaid_17 : decode cX11_dueLaid 17 = .ok (.iconst 0, 1) := by decide +kernel
theorem dX11_dueLaid_18 : decode cX11_dueLaid 18 = .ok (.goto 9, 3) := by decide +kernel
theorem dX11_dueLaid_21 : decode cX11_dueLaid 21 = .ok (.aload_n 0, 1) := by decide +kernel
theorem dX11_dueLaid_22 : decode cX11_dueLaid 22 = .ok (.iload_n 1, 1) := by decide +kernel
theorem dX11_dueLaid_23 : decode cX11_dueLaid 23 = .ok (.iload_n 2, 1) := by decide +kernel
theorem dX11_dueLaid_24 : decode cX11_dueLaid 24 = .ok (.invokevirtual 208, 3) := by decide +kernel
theorem dX11_dueLaid_27 : decode cX11_dueLaid 27 = .ok (.ireturn, 1) := by decide +kernel
set_option maxRecDepth 20000 in
theorem ggX11_now_X11_valueMany : GoodIn wsX11_now wsX11_valueMany := goodIn_r _ [9, 2, 10, 11, 12, 13, 14, 15, 16, 17, 18, 19, 20, 21, 22, 23, 24, 25, 26, 27, 28, 29, 30, 31] (by decide +kernel) (by decide +kernel)
set_option maxRecDepth 20000 in
theorem gX11_now_X11_valueMany : GoodIn wsX11_now (wsV RX11 211 RX11 yX11_valueMany wsX11_valueMany) := goodIn_app (goodIn_of _ (by decide +kernel)) ggX11_now_X11_valueMany
theorem dX11_now_0 : decode cX11_now 0 = .ok (.aload_n 0, 1) := by decide +kernel
theorem dX11_now_1 : decode cX11_now 1 = .ok (.iconst 0, 1) := by decide +kernel
theorem dX11_now_2 : decode cX11_now 2 = .ok (.putfield 1, 3) := by decide +kernel
theorem dX11_now_5 : decode cX11_now 5 = .ok (.iload_n 1, 1) := by decide +kernel
theorem dX11_now_6 : decode cX11_now 6 = .ok (.tableswitch 74 0 5 #[38, 45, 52, 59, 64, 69], 38) := by decide +kernel
theorem dX11_now_44 : decode cX11_now 44 = .ok (.aload_n 0, 1) := by decide +kernel
theorem dX11_now_45 : decode cX11_now 45 = .ok (.getfield 82, 3) := by decide +kernel
theorem dX11_now_48 : decode cX11_now 48 = .ok (.iconst 0, 1) := by decide +kernel
theorem dX11_now_49 : decode cX11_now 49 = .ok (.iaload, 1) := by decide +kernel
theorem dX11_now_50 : decode cX11_now 50 = .ok (.ireturn, 1) := by decide +kernel
theorem dX11_now_51 : decode cX11_now 51 = .ok (.aload_n 0, 1) := by decide +kernel
theorem dX11_now_52 : decode cX11_now 52 = .ok (.getfield 82, 3) := by decide +kernel
theorem dX11_now_55 : decode cX11_now 55 = .ok (.iconst 1, 1) := by decide +kernel
theorem dX11_now_56 : decode cX11_now 56 = .ok (.iaload, 1) := by decide +kernel
theorem dX11_now_57 : decode cX11_now 57 = .ok (.ireturn, 1) := by decide +kernel
theorem dX11_now_58 : decode cX11_now 58 = .ok (.aload_n 0, 1) := by decide +kernel
theorem dX11_now_59 : decode cX11_now 59 = .ok (.getfield 82, 3) := by decide +kernel
theorem dX11_now_62 : decode cX11_now 62 = .ok (.iconst 2, 1) := by decide +kernel
theorem dX11_now_63 : decode cX11_now 63 = .ok (.iaload, 1) := by decide +kernel
theorem dX11_now_64 : decode cX11_now 64 = .ok (.ireturn, 1) := by decide +kernel
theorem dX11_now_65 : decode cX11_now 65 = .ok (.aload_n 0, 1) := by decide +kernel
theorem dX11_now_66 : decode cX11_now 66 = .ok (.invokevirtual 211, 3) := by decide +kernel
theorem dX11_now_69 : decode cX11_now 69 = .ok (.ireturn, 1) := by decide +kernel
theorem dX11_now_70 : decode cX11_now 70 = .ok (.aload_n 0, 1) := by decide +kernel
theorem dX11_now_71 : decode cX11_now 71 = .ok (.getfield 160, 3) := by decide +kernel
theorem dX11_now_74 : decode cX11_now 74 = .ok (.ireturn, 1) := by decide +kernel
theorem dX11_now_75 : decode cX11_now 75 = .ok (.aload_n 0, 1) := by decide +kernel
theorem dX11_now_76 : decode cX11_now 76 = .ok (.getfield 11, 3) := by decide +kernel
theorem dX11_now_79 : decode cX11_now 79 = .ok (.ireturn, 1) := by decide +kernel
theorem dX11_now_80 : decode cX11_now 80 = .ok (.iconst (-1), 1) := by decide +kernel
theorem dX11_now_81 : decode cX11_now 81 = .ok (.ireturn, 1) := by decide +kernel
set_option maxRecDepth 20000 in
theorem ggX11_lease_X11_isLease : GoodIn wsX11_lease wsX11_isLease := goodIn_r _ [7, 2, 8, 9, 6, 10, 31, 32, 33, 34, 35, 36, 37, 38, 39, 40, 41, 42, 43, 44, 45, 46, 47, 48, 49, 50, 51, 52] (by decide +kernel) (by decide +kernel)
set_option maxRecDepth 20000 in
theorem gX11_lease_X11_isLease : GoodIn wsX11_lease (wsV RX11 214 RX11 yX11_isLease wsX11_isLease) := goodIn_app (goodIn_of _ (by decide +kernel)) ggX11_lease_X11_isLease
set_option maxRecDepth 20000 in
theorem ggX11_lease_X11_isIn : GoodIn wsX11_lease wsX11_isIn := goodIn_r _ [10] (by decide +kernel) (by decide +kernel)
set_option maxRecDepth 20000 in
theorem gX11_lease_X11_isIn : GoodIn wsX11_lease (va_wsS RX11 114 yX11_isIn wsX11_isIn) := goodIn_app (goodIn_of _ (by decide +kernel)) ggX11_lease_X11_isIn
set_option maxRecDepth 20000 in
theorem ggX11_lease_X11_refuse : GoodIn wsX11_lease wsX11_refuse := goodIn_r _ [14, 1, 31, 32, 33, 34, 35, 36, 37, 38, 39, 40, 41, 42, 43, 44, 45, 46, 47, 48, 49, 50, 51, 52] (by decide +kernel) (by decide +kernel)
set_option maxRecDepth 20000 in
theorem gX11_lease_X11_refuse : GoodIn wsX11_lease (wsV RX11 217 RX11 yX11_refuse wsX11_refuse) := goodIn_app (goodIn_of _ (by decide +kernel)) ggX11_lease_X11_refuse
set_option maxRecDepth 20000 in
theorem ggX11_lease_X11_its : GoodIn wsX11_lease wsX11_its := goodIn_r _ [18, 2, 31, 32, 33, 34, 35, 36, 37, 38, 39, 40, 41, 42, 43, 44, 45, 46, 47, 48, 49, 50, 51, 52] (by decide +kernel) (by decide +kernel)
set_option maxRecDepth 20000 in
theorem gX11_lease_X11_its : GoodIn wsX11_lease (wsV RX11 163 RX11 yX11_its wsX11_its) := goodIn_app (goodIn_of _ (by decide +kernel)) ggX11_lease_X11_its
set_option maxRecDepth 20000 in
theorem ggX11_lease_X11_endOf : GoodIn wsX11_lease wsX11_endOf := goodIn_r _ [22, 15, 16, 17, 6, 18, 2, 23, 24, 25, 26, 31, 32, 33, 34, 35, 36, 37, 38, 39, 40, 41, 42, 43, 44, 45, 46, 47, 48, 49, 50, 51, 52] (by decide +kernel) (by decide +kernel)
set_option maxRecDepth 20000 in
theorem gX11_lease_X11_endOf : GoodIn wsX11_lease (wsV RX11 220 RX11 yX11_endOf wsX11_endOf) := goodIn_app (goodIn_of _ (by decide +kernel)) ggX11_lease_X11_endOf
set_option maxRecDepth 20000 in
theorem ggX11_lease_X11_reviewsOf : GoodIn wsX11_lease wsX11_reviewsOf := goodIn_r _ [30, 15, 16, 17, 6, 18, 2, 31, 32, 33, 34, 35, 36, 37, 38, 39, 40, 41, 42, 43, 44, 45, 46, 47, 48, 49, 50, 51, 52] (by decide +kernel) (by decide +kernel)
set_option maxRecDepth 20000 in
theorem gX11_lease_X11_reviewsOf : GoodIn wsX11_lease (wsV RX11 199 RX11 yX11_reviewsOf wsX11_reviewsOf) := goodIn_app (goodIn_of _ (by decide +kernel)) ggX11_lease_X11_reviewsOf
theorem dX11_lease_0 : decode cX11_lease 0 = .ok (.aload_n 0, 1) := by decide +kernel
theorem dX11_lease_1 : decode cX11_lease 1 = .ok (.iconst 0, 1) := by decide +kernel
theorem dX11_lease_2 : decode cX11_lease 2 = .ok (.putfield 1, 3) := by decide +kernel
theorem dX11_lease_5 : decode cX11_lease 5 = .ok (.aload_n 0, 1) := by decide +kernel
theorem dX11_lease_6 : decode cX11_lease 6 = .ok (.iload_n 1, 1) := by decide +kernel
theorem dX11_lease_7 : decode cX11_lease 7 = .ok (.invokevirtual 214, 3) := by decide +kernel
theorem dX11_lease_10 : decode cX11_lease 10 = .ok (.ifCond .eq 13, 3) := by decide +kernel
theorem dX11_lease_13 : decode cX11_lease 13 = .ok (.iload_n 2, 1) := by decide +kernel
theorem dX11_lease_14 : decode cX11_lease 14 = .ok (.iconst 0, 1) := by decide +kernel
theorem dX11_lease_15 : decode cX11_lease 15 = .ok (.bipush 7, 2) := by decide +kernel
theorem dX11_lease_17 : decode cX11_lease 17 = .ok (.invokestatic 114, 3) := by decide +kernel
theorem dX11_lease_20 : decode cX11_lease 20 = .ok (.ifCond .ne 8, 3) := by decide +kernel
theorem dX11_lease_23 : decode cX11_lease 23 = .ok (.aload_n 0, 1) := by decide +kernel
theorem dX11_lease_24 : decode cX11_lease 24 = .ok (.invokevirtual 217, 3) := by decide +kernel
theorem dX11_lease_27 : decode cX11_lease 27 = .ok (.ireturn, 1) := by decide +kernel
theorem dX11_lease_28 : decode cX11_lease 28 = .ok (.iload_n 2, 1) := by decide +kernel
theorem dX11_lease_29 : decode cX11_lease 29 = .ok (.bipush 6, 2) := by decide +kernel
theorem dX11_lease_31 : decode cX11_lease 31 = .ok (.if_icmp .ge 12, 3) := by decide +kernel
theorem dX11_lease_34 : decode cX11_lease 34 = .ok (.aload_n 0, 1) := by decide +kernel
theorem dX11_lease_35 : decode cX11_lease 35 = .ok (.iload_n 1, 1) := by decide +kernel
theorem dX11_lease_36 : decode cX11_lease 36 = .ok (.iload_n 2, 1) := by decide +kernel
theorem dX11_lease_37 : decode cX11_lease 37 = .ok (.invokevirtual 163, 3) := by decide +kernel
theorem dX11_lease_40 : decode cX11_lease 40 = .ok (.goto 28, 3) := by decide +kernel
theorem dX11_lease_43 : decode cX11_lease 43 = .ok (.iload_n 2, 1) := by decide +kernel
theorem dX11_lease_44 : decode cX11_lease 44 = .ok (.bipush 6, 2) := by decide +kernel
theorem dX11_lease_46 : decode cX11_lease 46 = .ok (.if_icmp .ne 17, 3) := by decide +kernel
theorem dX11_lease_49 : decode cX11_lease 49 = .ok (.aload_n 0, 1) := by decide +kernel
theorem dX11_lease_50 : decode cX11_lease 50 = .ok (.iload_n 1, 1) := by decide +kernel
theorem dX11_lease_51 : decode cX11_lease 51 = .ok (.aload_n 0, 1) := by decide +kernel
theorem dX11_lease_52 : decode cX11_lease 52 = .ok (.getfield 82, 3) := by decide +kernel
theorem dX11_lease_55 : decode cX11_lease 55 = .ok (.iconst 0, 1) := by decide +kernel
theorem dX11_lease_56 : decode cX11_lease 56 = .ok (.iaload, 1) := by decide +kernel
theorem dX11_lease_57 : decode cX11_lease 57 = .ok (.invokevirtual 220, 3) := by decide +kernel
theorem dX11_lease_60 : decode cX11_lease 60 = .ok (.goto 8, 3) := by decide +kernel
theorem dX11_lease_63 : decode cX11_lease 63 = .ok (.aload_n 0, 1) := by decide +kernel
theorem dX11_lease_64 : decode cX11_lease 64 = .ok (.iload_n 1, 1) := by decide +kernel
theorem dX11_lease_65 : decode cX11_lease 65 = .ok (.invokevirtual 199, 3) := by decide +kernel
theorem dX11_lease_68 : decode cX11_lease 68 = .ok (.ireturn, 1) := by decide +kernel
set_option maxRecDepth 20000 in
theorem ggX11_index_X11_isMonth : GoodIn wsX11_index wsX11_isMonth := goodIn_r _ [5, 6, 7, 4, 8] (by decide +kernel) (by decide +kernel)
set_option maxRecDepth 20000 in
theorem gX11_index_X11_isMonth : GoodIn wsX11_index (va_wsS RX11 170 yX11_isMonth wsX11_isMonth) := goodIn_app (goodIn_of _ (by decide +kernel)) ggX11_index_X11_isMonth
set_option maxRecDepth 20000 in
theorem ggX11_index_X11_indexOf : GoodIn wsX11_index wsX11_indexOf := goodIn_r _ [12, 13, 14, 15, 16, 4, 17, 2, 3, 5, 6, 7, 8, 18, 19, 20, 21, 22, 23, 24, 25, 26, 27, 28, 29, 30, 31, 32, 33, 34, 35, 36, 37, 38, 39] (by decide +kernel) (by decide +kernel)
set_option maxRecDepth 20000 in
theorem gX11_index_X11_indexOf : GoodIn wsX11_index (wsV RX11 177 RX11 yX11_indexOf wsX11_indexOf) := goodIn_app (goodIn_of _ (by decide +kernel)) ggX11_index_X11_indexOf
theorem dX11_index_0 : decode cX11_index 0 = .ok (.aload_n 0, 1) := by decide +kernel
theorem dX11_index_1 : decode cX11_index 1 = .ok (.iconst 0, 1) := by decide +kernel
theorem dX11_index_2 : decode cX11_index 2 = .ok (.putfield 1, 3) := by decide +kernel
theorem dX11_index_5 : decode cX11_index 5 = .ok (.iload_n 2, 1) := by decide +kernel
theorem dX11_index_6 : decode cX11_index 6 = .ok (.invokestatic 170, 3) := by decide +kernel
theorem dX11_index_9 : decode cX11_index 9 = .ok (.ifCond .eq 12, 3) := by decide +kernel
theorem dX11_index_12 : decode cX11_index 12 = .ok (.aload_n 0, 1) := by decide +kernel
theorem dX11_index_13 : decode cX11_index 13 = .ok (.iload_n 1, 1) := by decide +kernel
theorem dX11_index_14 : decode cX11_index 14 = .ok (.iload_n 2, 1) := by decide +kernel
theorem dX11_index_15 : decode cX11_index 15 = .ok (.invokevirtual 177, 3) := by decide +kernel
theorem dX11_index_18 : decode cX11_index 18 = .ok (.goto 4, 3) := by decide +kernel
theorem dX11_index_21 : decode cX11_index 21 = .ok (.iconst (-1), 1) := by decide +kernel
theorem dX11_index_22 : decode cX11_index 22 = .ok (.ireturn, 1) := by decide +kernel
set_option maxRecDepth 20000 in
theorem ggX11_isOf_X11_isLease : GoodIn wsX11_isOf wsX11_isLease := goodIn_r _ [5, 6, 7, 8, 4, 9, 18, 19, 20, 21, 22, 23, 24, 25, 26, 27, 28, 29, 30, 31, 32, 33, 34, 35, 36, 37, 38, 39] (by decide +kernel) (by decide +kernel)
set_option maxRecDepth 20000 in
theorem gX11_isOf_X11_isLease : GoodIn wsX11_isOf (wsV RX11 214 RX11 yX11_isLease wsX11_isLease) := goodIn_app (goodIn_of _ (by decide +kernel)) ggX11_isOf_X11_isLease
set_option maxRecDepth 20000 in
theorem ggX11_isOf_X11_its : GoodIn wsX11_isOf wsX11_its := goodIn_r _ [13, 6, 18, 19, 20, 21, 22, 23, 24, 25, 26, 27, 28, 29, 30, 31, 32, 33, 34, 35, 36, 37, 38, 39] (by decide +kernel) (by decide +kernel)
set_option maxRecDepth 20000 in
theorem gX11_isOf_X11_its : GoodIn wsX11_isOf (wsV RX11 163 RX11 yX11_its wsX11_its) := goodIn_app (goodIn_of _ (by decide +kernel)) ggX11_isOf_X11_its
set_option maxRecDepth 20000 in
theorem ggX11_isOf_X11_endAsTold : GoodIn wsX11_isOf wsX11_endAsTold := goodIn_r _ [17, 10, 11, 12, 4, 13, 6, 18, 19, 20, 21, 22, 23, 24, 25, 26, 27, 28, 29, 30, 31, 32, 33, 34, 35, 36, 37, 38, 39] (by decide +kernel) (by decide +kernel)
set_option maxRecDepth 20000 in
theorem gX11_isOf_X11_endAsTold : GoodIn wsX11_isOf (wsV RX11 167 RX11 yX11_endAsTold wsX11_endAsTold) := goodIn_app (goodIn_of _ (by decide +kernel)) ggX11_isOf_X11_endAsTold
theorem dX11_isOf_0 : decode cX11_isOf 0 = .ok (.aload_n 0, 1) := by decide +kernel
theorem dX11_isOf_1 : decode cX11_isOf 1 = .ok (.iload_n 1, 1) := by decide +kernel
theorem dX11_isOf_2 : decode cX11_isOf 2 = .ok (.invokevirtual 214, 3) := by decide +kernel
theorem dX11_isOf_5 : decode cX11_isOf 5 = .ok (.ifCond .eq 26, 3) := by decide +kernel
theorem dX11_isOf_8 : decode cX11_isOf 8 = .ok (.iload_n 2, 1) := by decide +kernel
theorem dX11_isOf_9 : decode cX11_isOf 9 = .ok (.aload_n 0, 1) := by decide +kernel
theorem dX11_isOf_10 : decode cX11_isOf 10 = .ok (.iload_n 1, 1) := by decide +kernel
theorem dX11_isOf_11 : decode cX11_isOf 11 = .ok (.iconst 0, 1) := by decide +kernel
theorem dX11_isOf_12 : decode cX11_isOf 12 = .ok (.invokevirtual 163, 3) := by decide +kernel
theorem dX11_isOf_15 : decode cX11_isOf 15 = .ok (.if_icmp .lt 16, 3) := by decide +kernel
theorem dX11_isOf_18 : decode cX11_isOf 18 = .ok (.iload_n 2, 1) := by decide +kernel
theorem dX11_isOf_19 : decode cX11_isOf 19 = .ok (.aload_n 0, 1) := by decide +kernel
theorem dX11_isOf_20 : decode cX11_isOf 20 = .ok (.iload_n 1, 1) := by decide +kernel
theorem dX11_isOf_21 : decode cX11_isOf 21 = .ok (.invokevirtual 167, 3) := by decide +kernel
theorem dX11_isOf_24 : decode cX11_isOf 24 = .ok (.if_icmp .ge 7, 3) := by decide +kernel
theorem dX11_isOf_27 : decode cX11_isOf 27 = .ok (.iconst 1, 1) := by decide +kernel
theorem dX11_isOf_28 : decode cX11_isOf 28 = .ok (.goto 4, 3) := by decide +kernel
theorem dX11_isOf_31 : decode cX11_isOf 31 = .ok (.iconst 0, 1) := by decide +kernel
theorem dX11_isOf_32 : decode cX11_isOf 32 = .ok (.ireturn, 1) := by decide +kernel
set_option maxRecDepth 20000 in
theorem ggX11_rent_X11_isOf : GoodIn wsX11_rent wsX11_isOf := goodIn_r _ [6, 7, 8, 9, 5, 10, 11, 12, 13, 14, 15, 16, 17, 18, 19, 20, 21, 22, 77, 78, 79, 80, 81, 82, 83, 84, 85, 86, 87, 88, 89, 90, 91, 92, 93, 94, 95, 96, 97, 98] (by decide +kernel) (by decide +kernel)
set_option maxRecDepth 20000 in
theorem gX11_rent_X11_isOf : GoodIn wsX11_rent (wsV RX11 223 RX11 yX11_isOf wsX11_isOf) := goodIn_app (goodIn_of _ (by decide +kernel)) ggX11_rent_X11_isOf
set_option maxRecDepth 20000 in
theorem ggX11_rent_X11_isMonth : GoodIn wsX11_rent wsX11_isMonth := goodIn_r _ [25, 12, 13, 5, 14] (by decide +kernel) (by decide +kernel)
set_option maxRecDepth 20000 in
theorem gX11_rent_X11_isMonth : GoodIn wsX11_rent (va_wsS RX11 170 yX11_isMonth wsX11_isMonth) := goodIn_app (goodIn_of _ (by decide +kernel)) ggX11_rent_X11_isMonth
set_option maxRecDepth 20000 in
theorem ggX11_rent_X11_laysRents : GoodIn wsX11_rent wsX11_laysRents := goodIn_r _ [29, 30, 31, 32, 33, 34, 35, 36, 15, 16, 17, 5, 18, 11, 37, 38, 39, 40, 41, 42, 43, 44, 45, 46, 47, 48, 49, 50, 51, 52, 53, 54, 55, 56, 57, 58, 59, 60, 23, 24, 25, 12, 13, 14, 61, 62, 63, 64, 65, 66, 67, 68, 69, 70, 71, 72, 77, 78, 79, 80, 81, 82, 83, 84, 85, 86, 87, 88, 89, 90, 91, 92, 93, 94, 95, 96, 97, 98] (by decide +kernel) (by decide +kernel)
set_option maxRecDepth 20000 in
theorem gX11_rent_X11_laysRents : GoodIn wsX11_rent (wsV RX11 226 RX11 yX11_laysRents wsX11_laysRents) := goodIn_app (goodIn_of _ (by decide +kernel)) ggX11_rent_X11_laysRents
set_option maxRecDepth 20000 in
theorem ggX11_rent_X11_rentLaid : GoodIn wsX11_rent wsX11_rentLaid := goodIn_r _ [76, 30, 15, 16, 17, 5, 18, 11, 37, 38, 39, 40, 77, 78, 79, 80, 81, 82, 83, 84, 85, 86, 87, 88, 89, 90, 91, 92, 93, 94, 95, 96, 97, 98] (by decide +kernel) (by decide +kernel)
set_option maxRecDepth 20000 in
theorem gX11_rent_X11_rentLaid : GoodIn wsX11_rent (wsV RX11 208 RX11 yX11_rentLaid wsX11_rentLaid) := goodIn_app (goodIn_of _ (by decide +kernel)) ggX11_rent_X11_rentLaid
theorem dX11_rent_0 : decode cX11_rent 0 = .ok (.aload_n 0, 1) := by decide +kernel
theorem dX11_rent_1 : decode cX11_rent 1 = .ok (.iconst 0, 1) := by decide +kernel
theorem dX11_rent_2 : decode cX11_rent 2 = .ok (.putfield 1, 3) := by decide +kernel
theorem dX11_rent_5 : decode cX11_rent 5 = .ok (.aload_n 0, 1) := by decide +kernel
theorem dX11_rent_6 : decode cX11_rent 6 = .ok (.iload_n 1, 1) := by decide +kernel
theorem dX11_rent_7 : decode cX11_rent 7 = .ok (.iload_n 2, 1) := by decide +kernel
theorem dX11_rent_8 : decode cX11_rent 8 = .ok (.invokevirtual 223, 3) := by decide +kernel
theorem dX11_rent_11 : decode cX11_rent 11 = .ok (.ifCond .eq 10, 3) := by decide +kernel
theorem dX11_rent_14 : decode cX11_rent 14 = .ok (.iload_n 3, 1) := by decide +kernel
theorem dX11_rent_15 : decode cX11_rent 15 = .ok (.invokestatic 170, 3) := by decide +kernel
theorem dX11_rent_18 : decode cX11_rent 18 = .ok (.ifCond .ne 5, 3) := by decide +kernel
theorem dX11_rent_21 : decode cX11_rent 21 = .ok (.iconst (-1), 1) := by decide +kernel
theorem dX11_rent_22 : decode cX11_rent 22 = .ok (.ireturn, 1) := by decide +kernel
theorem dX11_rent_23 : decode cX11_rent 23 = .ok (.aload_n 0, 1) := by decide +kernel
theorem dX11_rent_24 : decode cX11_rent 24 = .ok (.iload_n 1, 1) := by decide +kernel
theorem dX11_rent_25 : decode cX11_rent 25 = .ok (.iload_n 3, 1) := by decide +kernel
theorem dX11_rent_26 : decode cX11_rent 26 = .ok (.invokevirtual 226, 3) := by decide +kernel
theorem dX11_rent_29 : decode cX11_rent 29 = .ok (.aload_n 0, 1) := by decide +kernel
theorem dX11_rent_30 : decode cX11_rent 30 = .ok (.iload_n 1, 1) := by decide +kernel
theorem dX11_rent_31 : decode cX11_rent 31 = .ok (.iload_n 2, 1) := by decide +kernel
theorem dX11_rent_32 : decode cX11_rent 32 = .ok (.invokevirtual 208, 3) := by decide +kernel
theorem dX11_rent_35 : decode cX11_rent 35 = .ok (.ireturn, 1) := by decide +kernel
set_option maxRecDepth 20000 in
theorem ggX11_review_X11_isLease : GoodIn wsX11_review wsX11_isLease := goodIn_r _ [11, 12, 13, 14, 10, 15, 66, 67, 68, 69, 70, 71, 72, 73, 74, 75, 76, 77, 78, 79, 80, 81, 82, 83, 84, 85, 86, 87] (by decide +kernel) (by decide +kernel)
set_option maxRecDepth 20000 in
theorem gX11_review_X11_isLease : GoodIn wsX11_review (wsV RX11 214 RX11 yX11_isLease wsX11_isLease) := goodIn_app (goodIn_of _ (by decide +kernel)) ggX11_review_X11_isLease
set_option maxRecDepth 20000 in
theorem ggX11_review_X11_reviewsOf : GoodIn wsX11_review wsX11_reviewsOf := goodIn_r _ [19, 20, 21, 22, 10, 23, 12, 66, 67, 68, 69, 70, 71, 72, 73, 74, 75, 76, 77, 78, 79, 80, 81, 82, 83, 84, 85, 86, 87] (by decide +kernel) (by decide +kernel)
set_option maxRecDepth 20000 in
theorem gX11_review_X11_reviewsOf : GoodIn wsX11_review (wsV RX11 199 RX11 yX11_reviewsOf wsX11_reviewsOf) := goodIn_app (goodIn_of _ (by decide +kernel)) ggX11_review_X11_reviewsOf
set_option maxRecDepth 20000 in
theorem ggX11_review_X11_isIn : GoodIn wsX11_review wsX11_isIn := goodIn_r _ [15] (by decide +kernel) (by decide +kernel)
set_option maxRecDepth 20000 in
theorem gX11_review_X11_isIn : GoodIn wsX11_review (va_wsS RX11 114 yX11_isIn wsX11_isIn) := goodIn_app (goodIn_of _ (by decide +kernel)) ggX11_review_X11_isIn
set_option maxRecDepth 20000 in
theorem ggX11_review_X11_isMonth : GoodIn wsX11_review wsX11_isMonth := goodIn_r _ [26, 13, 14, 10, 15] (by decide +kernel) (by decide +kernel)
set_option maxRecDepth 20000 in
theorem gX11_review_X11_isMonth : GoodIn wsX11_review (va_wsS RX11 170 yX11_isMonth wsX11_isMonth) := goodIn_app (goodIn_of _ (by decide +kernel)) ggX11_review_X11_isMonth
set_option maxRecDepth 20000 in
theorem ggX11_review_X11_laysRents : GoodIn wsX11_review wsX11_laysRents := goodIn_r _ [30, 4, 5, 6, 31, 32, 3, 33, 20, 21, 22, 10, 23, 12, 16, 17, 18, 19, 34, 35, 36, 37, 38, 39, 40, 41, 42, 43, 44, 45, 46, 47, 48, 49, 50, 51, 52, 53, 24, 25, 26, 13, 14, 15, 54, 55, 56, 57, 58, 59, 60, 61, 62, 63, 64, 65, 66, 67, 68, 69, 70, 71, 72, 73, 74, 75, 76, 77, 78, 79, 80, 81, 82, 83, 84, 85, 86, 87] (by decide +kernel) (by decide +kernel)
set_option maxRecDepth 20000 in
theorem gX11_review_X11_laysRents : GoodIn wsX11_review (wsV RX11 226 RX11 yX11_laysRents wsX11_laysRents) := goodIn_app (goodIn_of _ (by decide +kernel)) ggX11_review_X11_laysRents
set_option maxRecDepth 20000 in
theorem ggX11_review_X11_monthOf : GoodIn wsX11_review wsX11_monthOf := goodIn_r _ [41, 20, 21, 22, 10, 23, 12, 66, 67, 68, 69, 70, 71, 72, 73, 74, 75, 76, 77, 78, 79, 80, 81, 82, 83, 84, 85, 86, 87] (by decide +kernel) (by decide +kernel)
set_option maxRecDepth 20000 in
theorem gX11_review_X11_monthOf : GoodIn wsX11_review (wsV RX11 184 RX11 yX11_monthOf wsX11_monthOf) := goodIn_app (goodIn_of _ (by decide +kernel)) ggX11_review_X11_monthOf
set_option maxRecDepth 20000 in
theorem ggX11_review_X11_hasPart : GoodIn wsX11_review wsX11_hasPart := goodIn_r _ [65, 20, 21, 22, 10, 23, 12, 66, 67, 68, 69, 70, 71, 72, 73, 74, 75, 76, 77, 78, 79, 80, 81, 82, 83, 84, 85, 86, 87] (by decide +kernel) (by decide +kernel)
set_option maxRecDepth 20000 in
theorem gX11_review_X11_hasPart : GoodIn wsX11_review (wsV RX11 194 RX11 yX11_hasPart wsX11_hasPart) := goodIn_app (goodIn_of _ (by decide +kernel)) ggX11_review_X11_hasPart
theorem dX11_review_0 : decode cX11_review 0 = .ok (.aload_n 0, 1) := by decide +kernel
theorem dX11_review_1 : decode cX11_review 1 = .ok (.iconst 0, 1) := by decide +kernel
theorem dX11_review_2 : decode cX11_review 2 = .ok (.putfield 1, 3) := by decide +kernel
theorem dX11_review_5 : decode cX11_review 5 = .ok (.aload_n 0, 1) := by decide +kernel
theorem dX11_review_6 : decode cX11_review 6 = .ok (.iload_n 1, 1) := by decide +kernel
theorem dX11_review_7 : decode cX11_review 7 = .ok (.invokevirtual 214, 3) := by decide +kernel
theorem dX11_review_10 : decode cX11_review 10 = .ok (.ifCond .eq 33, 3) := by decide +kernel
