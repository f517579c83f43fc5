theorem dX5_mark_216 : decode cX5_mark 216 = .ok (.getfield 13, 3) := by decide +kernel
theorem dX5_mark_219 : decode cX5_mark 219 = .ok (.iload 8, 2) := by decide +kernel
theorem dX5_mark_221 : decode cX5_mark 221 = .ok (.iaload, 1) := by decide +kernel
theorem dX5_mark_222 : decode cX5_mark 222 = .ok (.if_icmp .ge 11, 3) := by decide +kernel
theorem dX5_mark_225 : decode cX5_mark 225 = .ok (.iload 9, 2) := by decide +kernel
theorem dX5_mark_227 : decode cX5_mark 227 = .ok (.iload 10, 2) := by decide +kernel
theorem dX5_mark_229 : decode cX5_mark 229 = .ok (.iadd, 1) := by decide +kernel
theorem dX5_mark_230 : decode cX5_mark 230 = .ok (.goto 10, 3) := by decide +kernel
theorem dX5_mark_233 : decode cX5_mark 233 = .ok (.aload_n 0, 1) := by decide +kernel
theorem dX5_mark_234 : decode cX5_mark 234 = .ok (.getfield 13, 3) := by decide +kernel
theorem dX5_mark_237 : decode cX5_mark 237 = .ok (.iload 8, 2) := by decide +kernel
theorem dX5_mark_239 : decode cX5_mark 239 = .ok (.iaload, 1) := by decide +kernel
theorem dX5_mark_240 : decode cX5_mark 240 = .ok (.iastore, 1) := by decide +kernel
theorem dX5_mark_241 : decode cX5_mark 241 = .ok (.iinc 8 1, 3) := by decide +kernel
theorem dX5_mark_244 : decode cX5_mark 244 = .ok (.goto (-105), 3) := by decide +kernel
theorem dX5_mark_247 : decode cX5_mark 247 = .ok (.iinc 7 1, 3) := by decide +kernel
theorem dX5_mark_250 : decode cX5_mark 250 = .ok (.goto (-120), 3) := by decide +kernel
theorem dX5_mark_253 : decode cX5_mark 253 = .ok (.iconst 1, 1) := by decide +kernel
theorem dX5_mark_254 : decode cX5_mark 254 = .ok (.istore 7, 2) := by decide +kernel
theorem dX5_mark_256 : decode cX5_mark 256 = .ok (.iconst 0, 1) := by decide +kernel
theorem dX5_mark_257 : decode cX5_mark 257 = .ok (.istore 8, 2) := by decide +kernel
theorem dX5_mark_259 : decode cX5_mark 259 = .ok (.iload 8, 2) := by decide +kernel
theorem dX5_mark_261 : decode cX5_mark 261 = .ok (.iconst 5, 1) := by decide +kernel
theorem dX5_mark_262 : decode cX5_mark 262 = .ok (.if_icmp .ge 36, 3) := by decide +kernel
theorem dX5_mark_265 : decode cX5_mark 265 = .ok (.iload 7, 2) := by decide +kernel
theorem dX5_mark_267 : decode cX5_mark 267 = .ok (.ifCond .eq 22, 3) := by decide +kernel
theorem dX5_mark_270 : decode cX5_mark 270 = .ok (.aload_n 0, 1) := by decide +kernel
theorem dX5_mark_271 : decode cX5_mark 271 = .ok (.getfield 13, 3) := by decide +kernel
theorem dX5_mark_274 : decode cX5_mark 274 = .ok (.iconst 5, 1) := by decide +kernel
theorem dX5_mark_275 : decode cX5_mark 275 = .ok (.iload 8, 2) := by decide +kernel
theorem dX5_mark_277 : decode cX5_mark 277 = .ok (.imul, 1) := by decide +kernel
theorem dX5_mark_278 : decode cX5_mark 278 = .ok (.iload 8, 2) := by decide +kernel
theorem dX5_mark_280 : decode cX5_mark 280 = .ok (.iadd, 1) := by decide +kernel
theorem dX5_mark_281 : decode cX5_mark 281 = .ok (.iaload, 1) := by decide +kernel
theorem dX5_mark_282 : decode cX5_mark 282 = .ok (.ifCond .ne 7, 3) := by decide +kernel
theorem dX5_mark_285 : decode cX5_mark 285 = .ok (.iconst 1, 1) := by decide +kernel
theorem dX5_mark_286 : decode cX5_mark 286 = .ok (.goto 4, 3) := by decide +kernel
theorem dX5_mark_289 : decode cX5_mark 289 = .ok (.iconst 0, 1) := by decide +kernel
theorem dX5_mark_290 : decode cX5_mark 290 = .ok (.istore 7, 2) := by decide +kernel
theorem dX5_mark_292 : decode cX5_mark 292 = .ok (.iinc 8 1, 3) := by decide +kernel
theorem dX5_mark_295 : decode cX5_mark 295 = .ok (.goto (-36), 3) := by decide +kernel
theorem dX5_mark_298 : decode cX5_mark 298 = .ok (.aload_n 0, 1) := by decide +kernel
theorem dX5_mark_299 : decode cX5_mark 299 = .ok (.iload 7, 2) := by decide +kernel
theorem dX5_mark_301 : decode cX5_mark 301 = .ok (.ifCond .eq 7, 3) := by decide +kernel
theorem dX5_mark_304 : decode cX5_mark 304 = .ok (.iconst 0, 1) := by decide +kernel
theorem dX5_mark_305 : decode cX5_mark 305 = .ok (.goto 4, 3) := by decide +kernel
theorem dX5_mark_308 : decode cX5_mark 308 = .ok (.iconst 2, 1) := by decide +kernel
theorem dX5_mark_309 : decode cX5_mark 309 = .ok (.invokevirtual 79, 3) := by decide +kernel
theorem dX5_mark_312 : decode cX5_mark 312 = .ok (.ifCond .eq 33, 3) := by decide +kernel
theorem dX5_mark_315 : decode cX5_mark 315 = .ok (.iconst 0, 1) := by decide +kernel
theorem dX5_mark_316 : decode cX5_mark 316 = .ok (.istore 8, 2) := by decide +kernel
theorem dX5_mark_318 : decode cX5_mark 318 = .ok (.iload 8, 2) := by decide +kernel
theorem dX5_mark_320 : decode cX5_mark 320 = .ok (.bipush 25, 2) := by decide +kernel
theorem dX5_mark_322 : decode cX5_mark 322 = .ok (.if_icmp .ge 23, 3) := by decide +kernel
theorem dX5_mark_325 : decode cX5_mark 325 = .ok (.aload_n 0, 1) := by decide +kernel
theorem dX5_mark_326 : decode cX5_mark 326 = .ok (.getfield 7, 3) := by decide +kernel
theorem dX5_mark_329 : decode cX5_mark 329 = .ok (.iload 8, 2) := by decide +kernel
theorem dX5_mark_331 : decode cX5_mark 331 = .ok (.aload_n 0, 1) := by decide +kernel
theorem dX5_mark_332 : decode cX5_mark 332 = .ok (.getfield 13, 3) := by decide +kernel
theorem dX5_mark_335 : decode cX5_mark 335 = .ok (.iload 8, 2) := by decide +kernel
theorem dX5_mark_337 : decode cX5_mark 337 = .ok (.iaload, 1) := by decide +kernel
theorem dX5_mark_338 : decode cX5_mark 338 = .ok (.iastore, 1) := by decide +kernel
theorem dX5_mark_339 : decode cX5_mark 339 = .ok (.iinc 8 1, 3) := by decide +kernel
theorem dX5_mark_342 : decode cX5_mark 342 = .ok (.goto (-24), 3) := by decide +kernel
theorem dX5_mark_345 : decode cX5_mark 345 = .ok (.return_, 1) := by decide +kernel
set_option maxRecDepth 20000 in
theorem ggX5_greatest_X5_isClock : GoodIn wsX5_greatest wsX5_isClock := goodIn_r _ [5, 6, 7, 4, 8] (by decide +kernel) (by decide +kernel)
set_option maxRecDepth 20000 in
theorem gX5_greatest_X5_isClock : GoodIn wsX5_greatest (va_wsS RX5 72 yX5_isClock wsX5_isClock) := goodIn_app (goodIn_of _ (by decide +kernel)) ggX5_greatest_X5_isClock
set_option maxRecDepth 20000 in
theorem ggX5_greatest_X5_goes : GoodIn wsX5_greatest wsX5_goes := goodIn_r _ [12, 13, 14, 15, 16, 17, 18, 19, 20, 21, 22, 23, 24, 25, 26, 27, 28, 29, 30, 31, 32, 33, 34] (by decide +kernel) (by decide +kernel)
set_option maxRecDepth 20000 in
theorem gX5_greatest_X5_goes : GoodIn wsX5_greatest (wsV RX5 79 RX5 yX5_goes wsX5_goes) := goodIn_app (goodIn_of _ (by decide +kernel)) ggX5_greatest_X5_goes
theorem dX5_greatest_0 : decode cX5_greatest 0 = .ok (.aload_n 0, 1) := by decide +kernel
theorem dX5_greatest_1 : decode cX5_greatest 1 = .ok (.iload_n 1, 1) := by decide +kernel
theorem dX5_greatest_2 : decode cX5_greatest 2 = .ok (.invokestatic 72, 3) := by decide +kernel
theorem dX5_greatest_5 : decode cX5_greatest 5 = .ok (.ifCond .eq 14, 3) := by decide +kernel
theorem dX5_greatest_8 : decode cX5_greatest 8 = .ok (.iload_n 2, 1) := by decide +kernel
theorem dX5_greatest_9 : decode cX5_greatest 9 = .ok (.invokestatic 72, 3) := by decide +kernel
theorem dX5_greatest_12 : decode cX5_greatest 12 = .ok (.ifCond .eq 7, 3) := by decide +kernel
theorem dX5_greatest_15 : decode cX5_greatest 15 = .ok (.iconst 0, 1) := by decide +kernel
theorem dX5_greatest_16 : decode cX5_greatest 16 = .ok (.goto 4, 3) := by decide +kernel
theorem dX5_greatest_19 : decode cX5_greatest 19 = .ok (.iconst 1, 1) := by decide +kernel
theorem dX5_greatest_20 : decode cX5_greatest 20 = .ok (.invokevirtual 79, 3) := by decide +kernel
theorem dX5_greatest_23 : decode cX5_greatest 23 = .ok (.ifCond .eq 16, 3) := by decide +kernel
theorem dX5_greatest_26 : decode cX5_greatest 26 = .ok (.aload_n 0, 1) := by decide +kernel
theorem dX5_greatest_27 : decode cX5_greatest 27 = .ok (.getfield 7, 3) := by decide +kernel
theorem dX5_greatest_30 : decode cX5_greatest 30 = .ok (.iconst 5, 1) := by decide +kernel
theorem dX5_greatest_31 : decode cX5_greatest 31 = .ok (.iload_n 1, 1) := by decide +kernel
theorem dX5_greatest_32 : decode cX5_greatest 32 = .ok (.imul, 1) := by decide +kernel
theorem dX5_greatest_33 : decode cX5_greatest 33 = .ok (.iload_n 2, 1) := by decide +kernel
theorem dX5_greatest_34 : decode cX5_greatest 34 = .ok (.iadd, 1) := by decide +kernel
theorem dX5_greatest_35 : decode cX5_greatest 35 = .ok (.iaload, 1) := by decide +kernel
theorem dX5_greatest_36 : decode cX5_greatest 36 = .ok (.goto 4, 3) := by decide +kernel
theorem dX5_greatest_39 : decode cX5_greatest 39 = .ok (.iconst 0, 1) := by decide +kernel
theorem dX5_greatest_40 : decode cX5_greatest 40 = .ok (.ireturn, 1) := by decide +kernel
set_option maxRecDepth 20000 in
theorem ggX5_write_X5_isClock : GoodIn wsX5_write wsX5_isClock := goodIn_r _ [9, 10, 11, 8, 12] (by decide +kernel) (by decide +kernel)
set_option maxRecDepth 20000 in
theorem gX5_write_X5_isClock : GoodIn wsX5_write (va_wsS RX5 72 yX5_isClock wsX5_isClock) := goodIn_app (goodIn_of _ (by decide +kernel)) ggX5_write_X5_isClock
set_option maxRecDepth 20000 in
theorem ggX5_write_X5_isTime : GoodIn wsX5_write wsX5_isTime := goodIn_r _ [15, 10, 11, 8, 12] (by decide +kernel) (by decide +kernel)
set_option maxRecDepth 20000 in
theorem gX5_write_X5_isTime : GoodIn wsX5_write (va_wsS RX5 76 yX5_isTime wsX5_isTime) := goodIn_app (goodIn_of _ (by decide +kernel)) ggX5_write_X5_isTime
set_option maxRecDepth 20000 in
theorem ggX5_write_X5_isService : GoodIn wsX5_write wsX5_isService := goodIn_r _ [18, 10, 11, 8, 12] (by decide +kernel) (by decide +kernel)
set_option maxRecDepth 20000 in
theorem gX5_write_X5_isService : GoodIn wsX5_write (va_wsS RX5 86 yX5_isService wsX5_isService) := goodIn_app (goodIn_of _ (by decide +kernel)) ggX5_write_X5_isService
set_option maxRecDepth 20000 in
theorem ggX5_write_X5_goes : GoodIn wsX5_write wsX5_goes := goodIn_r _ [22, 23, 24, 25, 26, 27, 28, 29, 30, 31, 32, 33, 34, 35, 36, 37, 38, 39, 40, 41, 42, 43, 44] (by decide +kernel) (by decide +kernel)
set_option maxRecDepth 20000 in
theorem gX5_write_X5_goes : GoodIn wsX5_write (wsV RX5 79 RX5 yX5_goes wsX5_goes) := goodIn_app (goodIn_of _ (by decide +kernel)) ggX5_write_X5_goes
theorem dX5_write_0 : decode cX5_write 0 = .ok (.aload_n 0, 1) := by decide +kernel
theorem dX5_write_1 : decode cX5_write 1 = .ok (.iload_n 1, 1) := by decide +kernel
theorem dX5_write_2 : decode cX5_write 2 = .ok (.invokestatic 72, 3) := by decide +kernel
theorem dX5_write_5 : decode cX5_write 5 = .ok (.ifCond .eq 17, 3) := by decide +kernel
theorem dX5_write_8 : decode cX5_write 8 = .ok (.iload_n 2, 1) := by decide +kernel
theorem dX5_write_9 : decode cX5_write 9 = .ok (.invokestatic 76, 3) := by decide +kernel
theorem dX5_write_12 : decode cX5_write 12 = .ok (.ifCond .eq 10, 3) := by decide +kernel
theorem dX5_write_15 : decode cX5_write 15 = .ok (.iload_n 3, 1) := by decide +kernel
theorem dX5_write_16 : decode cX5_write 16 = .ok (.invokestatic 86, 3) := by decide +kernel
theorem dX5_write_19 : decode cX5_write 19 = .ok (.ifCond .ne 7, 3) := by decide +kernel
theorem dX5_write_22 : decode cX5_write 22 = .ok (.iconst 1, 1) := by decide +kernel
theorem dX5_write_23 : decode cX5_write 23 = .ok (.goto 17, 3) := by decide +kernel
theorem dX5_write_26 : decode cX5_write 26 = .ok (.aload_n 0, 1) := by decide +kernel
theorem dX5_write_27 : decode cX5_write 27 = .ok (.getfield 89, 3) := by decide +kernel
theorem dX5_write_30 : decode cX5_write 30 = .ok (.bipush 30, 2) := by decide +kernel
theorem dX5_write_32 : decode cX5_write 32 = .ok (.if_icmp .ne 7, 3) := by decide +kernel
theorem dX5_write_35 : decode cX5_write 35 = .ok (.iconst 2, 1) := by decide +kernel
theorem dX5_write_36 : decode cX5_write 36 = .ok (.goto 4, 3) := by decide +kernel
theorem dX5_write_39 : decode cX5_write 39 = .ok (.iconst 0, 1) := by decide +kernel
theorem dX5_write_40 : decode cX5_write 40 = .ok (.invokevirtual 79, 3) := by decide +kernel
theorem dX5_write_43 : decode cX5_write 43 = .ok (.ifCond .ne 5, 3) := by decide +kernel
theorem dX5_write_46 : decode cX5_write 46 = .ok (.iconst 0, 1) := by decide +kernel
theorem dX5_write_47 : decode cX5_write 47 = .ok (.ireturn, 1) := by decide +kernel
theorem dX5_write_48 : decode cX5_write 48 = .ok (.aload_n 0, 1) := by decide +kernel
theorem dX5_write_49 : decode cX5_write 49 = .ok (.getfield 16, 3) := by decide +kernel
theorem dX5_write_52 : decode cX5_write 52 = .ok (.aload_n 0, 1) := by decide +kernel
theorem dX5_write_53 : decode cX5_write 53 = .ok (.getfield 89, 3) := by decide +kernel
theorem dX5_write_56 : decode cX5_write 56 = .ok (.iload_n 1, 1) := by decide +kernel
theorem dX5_write_57 : decode cX5_write 57 = .ok (.iastore, 1) := by decide +kernel
theorem dX5_write_58 : decode cX5_write 58 = .ok (.aload_n 0, 1) := by decide +kernel
theorem dX5_write_59 : decode cX5_write 59 = .ok (.getfield 19, 3) := by decide +kernel
theorem dX5_write_62 : decode cX5_write 62 = .ok (.aload_n 0, 1) := by decide +kernel
theorem dX5_write_63 : decode cX5_write 63 = .ok (.getfield 89, 3) := by decide +kernel
theorem dX5_write_66 : decode cX5_write 66 = .ok (.iload_n 2, 1) := by decide +kernel
theorem dX5_write_67 : decode cX5_write 67 = .ok (.iastore, 1) := by decide +kernel
theorem dX5_write_68 : decode cX5_write 68 = .ok (.aload_n 0, 1) := by decide +kernel
theorem dX5_write_69 : decode cX5_write 69 = .ok (.getfield 22, 3) := by decide +kernel
theorem dX5_write_72 : decode cX5_write 72 = .ok (.aload_n 0, 1) := by decide +kernel
theorem dX5_write_73 : decode cX5_write 73 = .ok (.getfield 89, 3) := by decide +kernel
theorem dX5_write_76 : decode cX5_write 76 = .ok (.iload_n 3, 1) := by decide +kernel
theorem dX5_write_77 : decode cX5_write 77 = .ok (.iastore, 1) := by decide +kernel
theorem dX5_write_78 : decode cX5_write 78 = .ok (.aload_n 0, 1) := by decide +kernel
theorem dX5_write_79 : decode cX5_write 79 = .ok (.getfield 25, 3) := by decide +kernel
theorem dX5_write_82 : decode cX5_write 82 = .ok (.aload_n 0, 1) := by decide +kernel
theorem dX5_write_83 : decode cX5_write 83 = .ok (.getfield 89, 3) := by decide +kernel
theorem dX5_write_86 : decode cX5_write 86 = .ok (.iload 4, 2) := by decide +kernel
theorem dX5_write_88 : decode cX5_write 88 = .ok (.bastore, 1) := by decide +kernel
theorem dX5_write_89 : decode cX5_write 89 = .ok (.aload_n 0, 1) := by decide +kernel
theorem dX5_write_90 : decode cX5_write 90 = .ok (.dup, 1) := by decide +kernel
theorem dX5_write_91 : decode cX5_write 91 = .ok (.getfield 89, 3) := by decide +kernel
theorem dX5_write_94 : decode cX5_write 94 = .ok (.iconst 1, 1) := by decide +kernel
theorem dX5_write_95 : decode cX5_write 95 = .ok (.iadd, 1) := by decide +kernel
theorem dX5_write_96 : decode cX5_write 96 = .ok (.putfield 89, 3) := by decide +kernel
theorem dX5_write_99 : decode cX5_write 99 = .ok (.aload_n 0, 1) := by decide +kernel
theorem dX5_write_100 : decode cX5_write 100 = .ok (.getfield 89, 3) := by decide +kernel
theorem dX5_write_103 : decode cX5_write 103 = .ok (.iconst 1, 1) := by decide +kernel
theorem dX5_write_104 : decode cX5_write 104 = .ok (.isub, 1) := by decide +kernel
theorem dX5_write_105 : decode cX5_write 105 = .ok (.ireturn, 1) := by decide +kernel
theorem dX5_lines_0 : decode cX5_lines 0 = .ok (.aload_n 0, 1) := by decide +kernel
theorem dX5_lines_1 : decode cX5_lines 1 = .ok (.iconst 0, 1) := by decide +kernel
theorem dX5_lines_2 : decode cX5_lines 2 = .ok (.putfield 64, 3) := by decide +kernel
theorem dX5_lines_5 : decode cX5_lines 5 = .ok (.aload_n 0, 1) := by decide +kernel
theorem dX5_lines_6 : decode cX5_lines 6 = .ok (.getfield 89, 3) := by decide +kernel
theorem dX5_lines_9 : decode cX5_lines 9 = .ok (.ireturn, 1) := by decide +kernel
set_option maxRecDepth 20000 in
theorem ggX5_isLine_X5_isIn : GoodIn wsX5_isLine wsX5_isIn := goodIn_r _ [5] (by decide +kernel) (by decide +kernel)
set_option maxRecDepth 20000 in
theorem gX5_isLine_X5_isIn : GoodIn wsX5_isLine (va_wsS RX5 68 yX5_isIn wsX5_isIn) := goodIn_app (goodIn_of _ (by decide +kernel)) ggX5_isLine_X5_isIn
theorem dX5_isLine_0 : decode cX5_isLine 0 = .ok (.iload_n 1, 1) := by decide +kernel
theorem dX5_isLine_1 : decode cX5_isLine 1 = .ok (.iconst 0, 1) := by decide +kernel
theorem dX5_isLine_2 : decode cX5_isLine 2 = .ok (.aload_n 0, 1) := by decide +kernel
theorem dX5_isLine_3 : decode cX5_isLine 3 = .ok (.getfield 89, 3) := by decide +kernel
theorem dX5_isLine_6 : decode cX5_isLine 6 = .ok (.iconst 1, 1) := by decide +kernel
theorem dX5_isLine_7 : decode cX5_isLine 7 = .ok (.isub, 1) := by decide +kernel
theorem dX5_isLine_8 : decode cX5_isLine 8 = .ok (.invokestatic 68, 3) := by decide +kernel
theorem dX5_isLine_11 : decode cX5_isLine 11 = .ok (.ireturn, 1) := by decide +kernel
theorem dX5_isBefore_0 : decode cX5_isBefore 0 = .ok (.aload_n 0, 1) := by decide +kernel
theorem dX5_isBefore_1 : decode cX5_isBefore 1 = .ok (.getfield 7, 3) := by decide +kernel
theorem dX5_isBefore_4 : decode cX5_isBefore 4 = .ok (.iconst 5, 1) := by decide +kernel
theorem dX5_isBefore_5 : decode cX5_isBefore 5 = .ok (.aload_n 0, 1) := by decide +kernel
theorem dX5_isBefore_6 : decode cX5_isBefore 6 = .ok (.getfield 16, 3) := by decide +kernel
theorem dX5_isBefore_9 : decode cX5_isBefore 9 = .ok (.iload_n 1, 1) := by decide +kernel
theorem dX5_isBefore_10 : decode cX5_isBefore 10 = .ok (.iaload, 1) := by decide +kernel
theorem dX5_isBefore_11 : decode cX5_isBefore 11 = .ok (.imul, 1) := by decide +kernel
theorem dX5_isBefore_12 : decode cX5_isBefore 12 = .ok (.aload_n 0, 1) := by decide +kernel
theorem dX5_isBefore_13 : decode cX5_isBefore 13 = .ok (.getfield 16, 3) := by decide +kernel
theorem dX5_isBefore_16 : decode cX5_isBefore 16 = .ok (.iload_n 2, 1) := by decide +kernel
theorem dX5_isBefore_17 : decode cX5_isBefore 17 = .ok (.iaload, 1) := by decide +kernel
theorem dX5_isBefore_18 : decode cX5_isBefore 18 = .ok (.iadd, 1) := by decide +kernel
theorem dX5_isBefore_19 : decode cX5_isBefore 19 = .ok (.iaload, 1) := by decide +kernel
theorem dX5_isBefore_20 : decode cX5_isBefore 20 = .ok (.istore_n 3, 1) := by decide +kernel
theorem dX5_isBefore_21 : decode cX5_isBefore 21 = .ok (.iload_n 3, 1) := by decide +kernel
theorem dX5_isBefore_22 : decode cX5_isBefore 22 = .ok (.ldc 63, 2) := by decide +kernel
theorem dX5_isBefore_24 : decode cX5_isBefore 24 = .ok (.if_icmp .eq 24, 3) := by decide +kernel
theorem dX5_isBefore_27 : decode cX5_isBefore 27 = .ok (.aload_n 0, 1) := by decide +kernel
theorem dX5_isBefore_28 : decode cX5_isBefore 28 = .ok (.getfield 19, 3) := by decide +kernel
theorem dX5_isBefore_31 : decode cX5_isBefore 31 = .ok (.iload_n 1, 1) := by decide +kernel
theorem dX5_isBefore_32 : decode cX5_isBefore 32 = .ok (.iaload, 1) := by decide +kernel
theorem dX5_isBefore_33 : decode cX5_isBefore 33 = .ok (.iload_n 3, 1) := by decide +kernel
theorem dX5_isBefore_34 : decode cX5_isBefore 34 = .ok (.iadd, 1) := by decide +kernel
theorem dX5_isBefore_35 : decode cX5_isBefore 35 = .ok (.aload_n 0, 1) := by decide +kernel
theorem dX5_isBefore_36 : decode cX5_isBefore 36 = .ok (.getfield 19, 3) := by decide +kernel
theorem dX5_isBefore_39 : decode cX5_isBefore 39 = .ok (.iload_n 2, 1) := by decide +kernel
theorem dX5_isBefore_40 : decode cX5_isBefore 40 = .ok (.iaload, 1) := by decide +kernel
theorem dX5_isBefore_41 : decode cX5_isBefore 41 = .ok (.if_icmp .ge 7, 3) := by decide +kernel
theorem dX5_isBefore_44 : decode cX5_isBefore 44 = .ok (.iconst 1, 1) := by decide +kernel
theorem dX5_isBefore_45 : decode cX5_isBefore 45 = .ok (.goto 4, 3) := by decide +kernel
theorem dX5_isBefore_48 : decode cX5_isBefore 48 = .ok (.iconst 0, 1) := by decide +kernel
theorem dX5_isBefore_49 : decode cX5_isBefore 49 = .ok (.ireturn, 1) := by decide +kernel
set_option maxRecDepth 20000 in
theorem ggX5_mustComeBefore_X5_isLine : GoodIn wsX5_mustComeBefore wsX5_isLine := goodIn_r _ [5, 6, 7, 8, 4, 9, 23, 24, 25, 26, 27, 28, 29, 30, 31, 32, 33, 34, 35, 36, 37, 38, 39, 40, 41, 42, 43] (by decide +kernel) (by decide +kernel)
set_option maxRecDepth 20000 in
theorem gX5_mustComeBefore_X5_isLine : GoodIn wsX5_mustComeBefore (wsV RX5 92 RX5 yX5_isLine wsX5_isLine) := goodIn_app (goodIn_of _ (by decide +kernel)) ggX5_mustComeBefore_X5_isLine
set_option maxRecDepth 20000 in
theorem ggX5_mustComeBefore_X5_goes : GoodIn wsX5_mustComeBefore wsX5_goes := goodIn_r _ [13, 14, 23, 24, 25, 26, 27, 28, 29, 30, 31, 32, 33, 34, 35, 36, 37, 38, 39, 40, 41, 42, 43] (by decide +kernel) (by decide +kernel)
set_option maxRecDepth 20000 in
theorem gX5_mustComeBefore_X5_goes : GoodIn wsX5_mustComeBefore (wsV RX5 79 RX5 yX5_goes wsX5_goes) := goodIn_app (goodIn_of _ (by decide +kernel)) ggX5_mustComeBefore_X5_goes
set_option maxRecDepth 20000 in
theorem ggX5_mustComeBefore_X5_isBefore : GoodIn wsX5_mustComeBefore wsX5_isBefore := goodIn_r _ [18, 19, 20, 21, 22, 23, 24, 25, 26, 27, 28, 29, 30, 31, 32, 33, 34, 35, 36, 37, 38, 39, 40, 41, 42, 43] (by decide +kernel) (by decide +kernel)
set_option maxRecDepth 20000 in
theorem gX5_mustComeBefore_X5_isBefore : GoodIn wsX5_mustComeBefore (wsV RX5 95 RX5 yX5_isBefore wsX5_isBefore) := goodIn_app (goodIn_of _ (by decide +kernel)) ggX5_mustComeBefore_X5_isBefore
theorem dX5_mustComeBefore_0 : decode cX5_mustComeBefore 0 = .ok (.aload_n 0, 1) := by decide +kernel
theorem dX5_mustComeBefore_1 : decode cX5_mustComeBefore 1 = .ok (.aload_n 0, 1) := by decide +kernel
theorem dX5_mustComeBefore_2 : decode cX5_mustComeBefore 2 = .ok (.iload_n 1, 1) := by decide +kernel
theorem dX5_mustComeBefore_3 : decode cX5_mustComeBefore 3 = .ok (.invokevirtual 92, 3) := by decide +kernel
theorem dX5_mustComeBefore_6 : decode cX5_mustComeBefore 6 = .ok (.ifCond .eq 15, 3) := by decide +kernel
theorem dX5_mustComeBefore_9 : decode cX5_mustComeBefore 9 = .ok (.aload_n 0, 1) := by decide +kernel
theorem dX5_mustComeBefore_10 : decode cX5_mustComeBefore 10 = .ok (.iload_n 2, 1) := by decide +kernel
theorem dX5_mustComeBefore_11 : decode cX5_mustComeBefore 11 = .ok (.invokevirtual 92, 3) := by decide +kernel
theorem dX5_mustComeBefore_14 : decode cX5_mustComeBefore 14 = .ok (.ifCond .eq 7, 3) := by decide +kernel
theorem dX5_mustComeBefore_17 : decode cX5_mustComeBefore 17 = .ok (.iconst 0, 1) := by decide +kernel
theorem dX5_mustComeBefore_18 : decode cX5_mustComeBefore 18 = .ok (.goto 4, 3) := by decide +kernel
theorem dX5_mustComeBefore_21 : decode cX5_mustComeBefore 21 = .ok (.iconst 1, 1) := by decide +kernel
theorem dX5_mustComeBefore_22 : decode cX5_mustComeBefore 22 = .ok (.invokevirtual 79, 3) := by decide +kernel
theorem dX5_mustComeBefore_25 : decode cX5_mustComeBefore 25 = .ok (.ifCond .eq 16, 3) := by decide +kernel
theorem dX5_mustComeBefore_28 : decode cX5_mustComeBefore 28 = .ok (.aload_n 0, 1) := by decide +kernel
theorem dX5_mustComeBefore_29 : decode cX5_mustComeBefore 29 = .ok (.iload_n 1, 1) := by decide +kernel
theorem dX5_mustComeBefore_30 : decode cX5_mustComeBefore 30 = .ok (.iload_n 2, 1) := by decide +kernel
theorem dX5_mustComeBefore_31 : decode cX5_mustComeBefore 31 = .ok (.invokevirtual 95, 3) := by decide +kernel
theorem dX5_mustComeBefore_34 : decode cX5_mustComeBefore 34 = .ok (.ifCond .eq 7, 3) := by decide +kernel
theorem dX5_mustComeBefore_37 : decode cX5_mustComeBefore 37 = .ok (.iconst 1, 1) := by decide +kernel
theorem dX5_mustComeBefore_38 : decode cX5_mustComeBefore 38 = .ok (.goto 4, 3) := by decide +kernel
theorem dX5_mustComeBefore_41 : decode cX5_mustComeBefore 41 = .ok (.iconst 0, 1) := by decide +kernel
theorem dX5_mustComeBefore_42 : decode cX5_mustComeBefore 42 = .ok (.ireturn, 1) := by decide +kernel
set_option maxRecDepth 20000 in
theorem ggX5_laysOrder_X5_isBefore : GoodIn wsX5_laysOrder wsX5_isBefore := goodIn_r _ [7, 8, 9, 10, 11, 12, 13, 14, 15, 16, 17, 18, 19, 20, 21, 22, 23, 24, 25, 26, 27, 28, 29, 30, 31, 32] (by decide +kernel) (by decide +kernel)
set_option maxRecDepth 20000 in
theorem gX5_laysOrder_X5_isBefore : GoodIn wsX5_laysOrder (wsV RX5 95 RX5 yX5_isBefore wsX5_isBefore) := goodIn_app (goodIn_of _ (by decide +kernel)) ggX5_laysOrder_X5_isBefore
theorem dX5_laysOrder_0 : decode cX5_laysOrder 0 = .ok (.iconst 0, 1) := by decide +kernel
theorem dX5_laysOrder_1 : decode cX5_laysOrder 1 = .ok (.istore_n 1, 1) := by decide +kernel
theorem dX5_laysOrder_2 : decode cX5_laysOrder 2 = .ok (.iconst 0, 1) := by decide +kernel
theorem dX5_laysOrder_3 : decode cX5_laysOrder 3 = .ok (.istore_n 2, 1) := by decide +kernel
theorem dX5_laysOrder_4 : decode cX5_laysOrder 4 = .ok (.iload_n 2, 1) := by decide +kernel
theorem dX5_laysOrder_5 : decode cX5_laysOrder 5 = .ok (.aload_n 0, 1) := by decide +kernel
theorem dX5_laysOrder_6 : decode cX5_laysOrder 6 = .ok (.getfield 89, 3) := by decide +kernel
theorem dX5_laysOrder_9 : decode cX5_laysOrder 9 = .ok (.if_icmp .ge 122, 3) := by decide +kernel
theorem dX5_laysOrder_12 : decode cX5_laysOrder 12 = .ok (.iconst (-1), 1) := by decide +kernel
theorem dX5_laysOrder_13 : decode cX5_laysOrder 13 = .ok (.istore_n 3, 1) := by decide +kernel
theorem dX5_laysOrder_14 : decode cX5_laysOrder 14 = .ok (.aload_n 0, 1) := by decide +kernel
theorem dX5_laysOrder_15 : decode cX5_laysOrder 15 = .ok (.getfield 89, 3) := by decide +kernel
theorem dX5_laysOrder_18 : decode cX5_laysOrder 18 = .ok (.iconst 1, 1) := by decide +kernel
theorem dX5_laysOrder_19 : decode cX5_laysOrder 19 = .ok (.isub, 1) := by decide +kernel
theorem dX5_laysOrder_20 : decode cX5_laysOrder 20 = .ok (.istore 4, 2) := by decide +kernel
theorem dX5_laysOrder_22 : decode cX5_laysOrder 22 = .ok (.iload 4, 2) := by decide +kernel
theorem dX5_laysOrder_24 : decode cX5_laysOrder 24 = .ok (.ifCond .lt 88, 3) := by decide +kernel
theorem dX5_laysOrder_27 : decode cX5_laysOrder 27 = .ok (.iload_n 1, 1) := by decide +kernel
theorem dX5_laysOrder_28 : decode cX5_laysOrder 28 = .ok (.iload 4, 2) := by decide +kernel
theorem dX5_laysOrder_30 : decode cX5_laysOrder 30 = .ok (.ishr, 1) := by decide +kernel
theorem dX5_laysOrder_31 : decode cX5_laysOrder 31 = .ok (.iconst 1, 1) := by decide +kernel
theorem dX5_laysOrder_32 : decode cX5_laysOrder 32 = .ok (.iand, 1) := by decide +kernel
theorem dX5_laysOrder_33 : decode cX5_laysOrder 33 = .ok (.ifCond .ne 7, 3) := by decide +kernel
theorem dX5_laysOrder_36 : decode cX5_laysOrder 36 = .ok (.iconst 1, 1) := by decide +kernel
theorem dX5_laysOrder_37 : decode cX5_laysOrder 37 = .ok (.goto 4, 3) := by decide +kernel
theorem dX5_laysOrder_40 : decode cX5_laysOrder 40 = .ok (.iconst 0, 1) := by decide +kernel
theorem dX5_laysOrder_41 : decode cX5_laysOrder 41 = .ok (.istore 5, 2) := by decide +kernel
theorem dX5_laysOrder_43 : decode cX5_laysOrder 43 = .ok (.iconst 0, 1) := by decide +kernel
theorem dX5_laysOrder_44 : decode cX5_laysOrder 44 = .ok (.istore 6, 2) := by decide +kernel
theorem dX5_laysOrder_46 : decode cX5_laysOrder 46 = .ok (.iload 6, 2) := by decide +kernel
theorem dX5_laysOrder_48 : decode cX5_laysOrder 48 = .ok (.aload_n 0, 1) := by decide +kernel
theorem dX5_laysOrder_49 : decode cX5_laysOrder 49 = .ok (.getfield 89, 3) := by decide +kernel
theorem dX5_laysOrder_52 : decode cX5_laysOrder 52 = .ok (.if_icmp .ge 42, 3) := by decide +kernel
theorem dX5_laysOrder_55 : decode cX5_laysOrder 55 = .ok (.iload 5, 2) := by decide +kernel
theorem dX5_laysOrder_57 : decode cX5_laysOrder 57 = .ok (.ifCond .eq 37, 3) := by decide +kernel
theorem dX5_laysOrder_60 : decode cX5_laysOrder 60 = .ok (.iload_n 1, 1) := by decide +kernel
theorem dX5_laysOrder_61 : decode cX5_laysOrder 61 = .ok (.iload 6, 2) := by decide +kernel
theorem dX5_laysOrder_63 : decode cX5_laysOrder 63 = .ok (.ishr, 1) := by decide +kernel
theorem dX5_laysOrder_64 : decode cX5_laysOrder 64 = .ok (.iconst 1, 1) := by decide +kernel
theorem dX5_laysOrder_65 : decode cX5_laysOrder 65 = .ok (.iand, 1) := by decide +kernel
theorem dX5_laysOrder_66 : decode cX5_laysOrder 66 = .ok (.iconst 1, 1) := by decide +kernel
theorem dX5_laysOrder_67 : decode cX5_laysOrder 67 = .ok (.if_icmp .eq 14, 3) := by decide +kernel
theorem dX5_laysOrder_70 : decode cX5_laysOrder 70 = .ok (.aload_n 0, 1) := by decide +kernel
theorem dX5_laysOrder_71 : decode cX5_laysOrder 71 = .ok (.iload 6, 2) := by decide +kernel
theorem dX5_laysOrder_73 : decode cX5_laysOrder 73 = .ok (.iload 4, 2) := by decide +kernel
theorem dX5_laysOrder_75 : decode cX5_laysOrder 75 = .ok (.invokevirtual 95, 3) := by decide +kernel
theorem dX5_laysOrder_78 : decode cX5_laysOrder 78 = .ok (.ifCond .ne 7, 3) := by decide +kernel
theorem dX5_laysOrder_81 : decode cX5_laysOrder 81 = .ok (.iconst 1, 1) := by decide +kernel
theorem dX5_laysOrder_82 : decode cX5_laysOrder 82 = .ok (.goto 4, 3) := by decide +kernel
theorem dX5_laysOrder_85 : decode cX5_laysOrder 85 = .ok (.iconst 0, 1) := by decide +kernel
theorem dX5_laysOrder_86 : decode cX5_laysOrder 86 = .ok (.istore 5, 2) := by decide +kernel
theorem dX5_laysOrder_88 : decode cX5_laysOrder 88 = .ok (.iinc 6 1, 3) := by decide +kernel
theorem dX5_laysOrder_91 : decode cX5_laysOrder 91 = .ok (.goto (-45), 3) := by decide +kernel
theorem dX5_laysOrder_94 : decode cX5_laysOrder 94 = .ok (.iload 5, 2) := by decide +kernel
theorem dX5_laysOrder_96 : decode cX5_laysOrder 96 = .ok (.ifCond .eq 8, 3) := by decide +kernel
theorem dX5_laysOrder_99 : decode cX5_laysOrder 99 = .ok (.iload 4, 2) := by decide +kernel
theorem dX5_laysOrder_101 : decode cX5_laysOrder 101 = .ok (.goto 4, 3) := by decide +kernel
theorem dX5_laysOrder_104 : decode cX5_laysOrder 104 = .ok (.iload_n 3, 1) := by decide +kernel
theorem dX5_laysOrder_105 : decode cX5_laysOrder 105 = .ok (.istore_n 3, 1) := by decide +kernel
theorem dX5_laysOrder_106 : decode cX5_laysOrder 106 = .ok (.iinc 4 (-1), 3) := by decide +kernel
theorem dX5_laysOrder_109 : decode cX5_laysOrder 109 = .ok (.goto (-87), 3) := by decide +kernel
theorem dX5_laysOrder_112 : decode cX5_laysOrder 112 = .ok (.aload_n 0, 1) := by decide +kernel
theorem dX5_laysOrder_113 : decode cX5_laysOrder 113 = .ok (.getfield 35, 3) := by decide +kernel
theorem dX5_laysOrder_116 : decode cX5_laysOrder 116 = .ok (.iload_n 2, 1) := by decide +kernel
theorem dX5_laysOrder_117 : decode cX5_laysOrder 117 = .ok (.iload_n 3, 1) := by decide +kernel
theorem dX5_laysOrder_118 : decode cX5_laysOrder 118 = .ok (.iastore, 1) := by decide +kernel
theorem dX5_laysOrder_119 : decode cX5_laysOrder 119 = .ok (.iload_n 1, 1) := by decide +kernel
theorem dX5_laysOrder_120 : decode cX5_laysOrder 120 = .ok (.iconst 1, 1) := by decide +kernel
theorem dX5_laysOrder_121 : decode cX5_laysOrder 121 = .ok (.iload_n 3, 1) := by decide +kernel
theorem dX5_laysOrder_122 : decode cX5_laysOrder 122 = .ok (.ishl, 1) := by decide +kernel
theorem dX5_laysOrder_123 : decode cX5_laysOrder 123 = .ok (.ior, 1) := by decide +kernel
theorem dX5_laysOrder_124 : decode cX5_laysOrder 124 = .ok (.istore_n 1, 1) := by decide +kernel
theorem dX5_laysOrder_125 : decode cX5_laysOrder 125 = .ok (.iinc 2 1, 3) := by decide +kernel
theorem dX5_laysOrder_128 : decode cX5_laysOrder 128 = .ok (.goto (-124), 3) := by decide +kernel
theorem dX5_laysOrder_131 : decode cX5_laysOrder 131 = .ok (.return_, 1) := by decide +kernel
set_option maxRecDepth 20000 in
theorem ggX5_lineAt_X5_laysOrder : GoodIn wsX5_lineAt wsX5_laysOrder := goodIn_r _ [7, 1, 2, 8, 9, 10, 6, 11, 12, 13, 14, 15, 24, 25, 26, 27, 28, 29, 30, 31, 32, 33, 34, 35, 36, 37, 38, 39, 40, 41, 42, 43, 44] (by decide +kernel) (by decide +kernel)
set_option maxRecDepth 20000 in
theorem gX5_lineAt_X5_laysOrder : GoodIn wsX5_lineAt (wsV RX5 99 RX5 yX5_laysOrder wsX5_laysOrder) := goodIn_app (goodIn_of _ (by decide +kernel)) ggX5_lineAt_X5_laysOrder
set_option maxRecDepth 20000 in
theorem ggX5_lineAt_X5_isIn : GoodIn wsX5_lineAt wsX5_isIn := goodIn_r _ [18] (by decide +kernel) (by decide +kernel)
set_option maxRecDepth 20000 in
theorem gX5_lineAt_X5_isIn : GoodIn wsX5_lineAt (va_wsS RX5 68 yX5_isIn wsX5_isIn) := goodIn_app (goodIn_of _ (by decide +kernel)) ggX5_lineAt_X5_isIn
set_option maxRecDepth 20000 in
theorem ggX5_lineAt_X5_goes : GoodIn wsX5_lineAt wsX5_goes := goodIn_r _ [22, 23, 24, 25, 26, 27, 28, 29, 30, 31, 32, 33, 34, 35, 36, 37, 38, 39, 40, 41, 42, 43, 44] (by decide +kernel) (by decide +kernel)
set_option maxRecDepth 20000 in
theorem gX5_lineAt_X5_goes : GoodIn wsX5_lineAt (wsV RX5 79 RX5 yX5_goes wsX5_goes) := goodIn_app (goodIn_of _ (by decide +kernel)) ggX5_lineAt_X5_goes
theorem dX5_lineAt_0 : decode cX5_lineAt 0 = .ok (.aload_n 0, 1) := by decide +kernel
theorem dX5_lineAt_1 : decode cX5_lineAt 1 = .ok (.invokevirtual 99, 3) := by decide +kernel
theorem dX5_lineAt_4 : decode cX5_lineAt 4 = .ok (.aload_n 0, 1) := by decide +kernel
theorem dX5_lineAt_5 : decode cX5_lineAt 5 = .ok (.iload_n 1, 1) := by decide +kernel
theorem dX5_lineAt_6 : decode cX5_lineAt 6 = .ok (.iconst 0, 1) := by decide +kernel
theorem dX5_lineAt_7 : decode cX5_lineAt 7 = .ok (.aload_n 0, 1) := by decide +kernel
theorem dX5_lineAt_8 : decode cX5_lineAt 8 = .ok (.getfield 89, 3) := by decide +kernel
theorem dX5_lineAt_11 : decode cX5_lineAt 11 = .ok (.iconst 1, 1) := by decide +kernel
theorem dX5_lineAt_12 : decode cX5_lineAt 12 = .ok (.isub, 1) := by decide +kernel
theorem dX5_lineAt_13 : decode cX5_lineAt 13 = .ok (.invokestatic 68, 3) := by decide +kernel
theorem dX5_lineAt_16 : decode cX5_lineAt 16 = .ok (.ifCond .eq 7, 3) := by decide +kernel
theorem dX5_lineAt_19 : decode cX5_lineAt 19 = .ok (.iconst 0, 1) := by decide +kernel
theorem dX5_lineAt_20 : decode cX5_lineAt 20 = .ok (.goto 4, 3) := by decide +kernel
theorem dX5_lineAt_23 : decode cX5_lineAt 23 = .ok (.iconst 1, 1) := by decide +kernel
theorem dX5_lineAt_24 : decode cX5_lineAt 24 = .ok (.invokevirtual 79, 3) := by decide +kernel
theorem dX5_lineAt_27 : decode cX5_lineAt 27 = .ok (.ifCond .eq 12, 3) := by decide +kernel
theorem dX5_lineAt_30 : decode cX5_lineAt 30 = .ok (.aload_n 0, 1) := by decide +kernel
theorem dX5_lineAt_31 : decode cX5_lineAt 31 = .ok (.getfield 35, 3) := by decide +kernel
theorem dX5_lineAt_34 : decode cX5_lineAt 34 = .ok (.iload_n 1, 1) := by decide +kernel
theorem dX5_lineAt_35 : decode cX5_lineAt 35 = .ok (.iaload, 1) := by decide +kernel
theorem dX5_lineAt_36 : decode cX5_lineAt 36 = .ok (.goto 4, 3) := by decide +kernel
theorem dX5_lineAt_39 : decode cX5_lineAt 39 = .ok (.iconst 0, 1) := by decide +kernel
theorem dX5_lineAt_40 : decode cX5_lineAt 40 = .ok (.ireturn, 1) := by decide +kernel
set_option maxRecDepth 20000 in
theorem ggX5_orders_X5_goes : GoodIn wsX5_orders wsX5_goes := goodIn_r _ [8, 9, 18, 19, 20, 21, 22, 23, 24, 25, 26, 27, 28, 29, 30, 31, 32, 33, 34, 35, 36, 37, 38] (by decide +kernel) (by decide +kernel)
set_option maxRecDepth 20000 in
theorem gX5_orders_X5_goes : GoodIn wsX5_orders (wsV RX5 79 RX5 yX5_goes wsX5_goes) := goodIn_app (goodIn_of _ (by decide +kernel)) ggX5_orders_X5_goes
set_option maxRecDepth 20000 in
theorem ggX5_orders_X5_isBefore : GoodIn wsX5_orders wsX5_isBefore := goodIn_r _ [13, 14, 15, 16, 17, 18, 19, 20, 21, 22, 23, 24, 25, 26, 27, 28, 29, 30, 31, 32, 33, 34, 35, 36, 37, 38] (by decide +kernel) (by decide +kernel)
set_option maxRecDepth 20000 in
theorem gX5_orders_X5_isBefore : GoodIn wsX5_orders (wsV RX5 95 RX5 yX5_isBefore wsX5_isBefore) := goodIn_app (goodIn_of _ (by decide +kernel)) ggX5_orders_X5_isBefore
theorem dX5_orders_0 : decode cX5_orders 0 = .ok (.aload_n 0, 1) := by decide +kernel
theorem dX5_orders_1 : decode cX5_orders 1 = .ok (.aload_n 0, 1) := by decide +kernel
theorem dX5_orders_2 : decode cX5_orders 2 = .ok (.getfield 89, 3) := by decide +kernel
theorem dX5_orders_5 : decode cX5_orders 5 = .ok (.bipush 12, 2) := by decide +kernel
theorem dX5_orders_7 : decode cX5_orders 7 = .ok (.if_icmp .le 7, 3) := by decide +kernel
theorem dX5_orders_10 : decode cX5_orders 10 = .ok (.iconst 1, 1) := by decide +kernel
theorem dX5_orders_11 : decode cX5_orders 11 = .ok (.goto 4, 3) := by decide +kernel
theorem dX5_orders_14 : decode cX5_orders 14 = .ok (.iconst 0, 1) := by decide +kernel
theorem dX5_orders_15 : decode cX5_orders 15 = .ok (.invokevirtual 79, 3) := by decide +kernel
theorem dX5_orders_18 : decode cX5_orders 18 = .ok (.ifCond .ne 5, 3) := by decide +kernel
theorem dX5_orders_21 : decode cX5_orders 21 = .ok (.lconst 0, 1) := by decide +kernel
theorem dX5_orders_22 : decode cX5_orders 22 = .ok (.lreturn, 1) := by decide +kernel
theorem dX5_orders_23 : decode cX5_orders 23 = .ok (.iconst 0, 1) := by decide +kernel
theorem dX5_orders_24 : decode cX5_orders 24 = .ok (.istore_n 1, 1) := by decide +kernel
theorem dX5_orders_25 : decode cX5_orders 25 = .ok (.iload_n 1, 1) := by decide +kernel
theorem dX5_orders_26 : decode cX5_orders 26 = .ok (.aload_n 0, 1) := by decide +kernel
theorem dX5_orders_27 : decode cX5_orders 27 = .ok (.getfield 89, 3) := by decide +kernel
theorem dX5_orders_30 : decode cX5_orders 30 = .ok (.if_icmp .ge 57, 3) := by decide +kernel
theorem dX5_orders_33 : decode cX5_orders 33 = .ok (.aload_n 0, 1) := by decide +kernel
theorem dX5_orders_34 : decode cX5_orders 34 = .ok (.getfield 38, 3) := by decide +kernel
theorem dX5_orders_37 : decode cX5_orders 37 = .ok (.iload_n 1, 1) := by decide +kernel
theorem dX5_orders_38 : decode cX5_orders 38 = .ok (.iconst 0, 1) := by decide +kernel
theorem dX5_orders_39 : decode cX5_orders 39 = .ok (.iastore, 1) := by decide +kernel
theorem dX5_orders_40 : decode cX5_orders 40 = .ok (.iconst 0, 1) := by decide +kernel
theorem dX5_orders_41 : decode cX5_orders 41 = .ok (.istore_n 2, 1) := by decide +kernel
theorem dX5_orders_42 : decode cX5_orders 42 = .ok (.iload_n 2, 1) := by decide +kernel
theorem dX5_orders_43 : decode cX5_orders 43 = .ok (.aload_n 0, 1) := by decide +kernel
theorem dX5_orders_44 : decode cX5_orders 44 = .ok (.getfield 89, 3) := by decide +kernel
theorem dX5_orders_47 : decode cX5_orders 47 = .ok (.if_icmp .ge 34, 3) := by decide +kernel
theorem dX5_orders_50 : decode cX5_orders 50 = .ok (.aload_n 0, 1) := by decide +kernel
theorem dX5_orders_51 : decode cX5_orders 51 = .ok (.getfield 38, 3) := by decide +kernel
theorem dX5_orders_54 : decode cX5_orders 54 = .ok (.iload_n 1, 1) := by decide +kernel
theorem dX5_orders_55 : decode cX5_orders 55 = .ok (.dup2, 1) := by decide +kernel
theorem dX5_orders_56 : decode cX5_orders 56 = .ok (.iaload, 1) := by decide +kernel
theorem dX5_orders_57 : decode cX5_orders 57 = .ok (.aload_n 0, 1) := by decide +kernel
theorem dX5_orders_58 : decode cX5_orders 58 = .ok (.iload_n 2, 1) := by decide +kernel
theorem dX5_orders_59 : decode cX5_orders 59 = .ok (.iload_n 1, 1) := by decide +kernel
theorem dX5_orders_60 : decode cX5_orders 60 = .ok (.invokevirtual 95, 3) := by decide +kernel
theorem dX5_orders_63 : decode cX5_orders 63 = .ok (.ifCond .eq 9, 3) := by decide +kernel
theorem dX5_orders_66 : decode cX5_orders 66 = .ok (.iconst 1, 1) := by decide +kernel
theorem dX5_orders_67 : decode cX5_orders 67 = .ok (.iload_n 2, 1) := by decide +kernel
theorem dX5_orders_68 : decode cX5_orders 68 = .ok (.ishl, 1) := by decide +kernel
theorem dX5_orders_69 : decode cX5_orders 69 = .ok (.goto 4, 3) := by decide +kernel
theorem dX5_orders_72 : decode cX5_orders 72 = .ok (.iconst 0, 1) := by decide +kernel
theorem dX5_orders_73 : decode cX5_orders 73 = .ok (.ior, 1) := by decide +kernel
theorem dX5_orders_74 : decode cX5_orders 74 = .ok (.iastore, 1) := by decide +kernel
theorem dX5_orders_75 : decode cX5_orders 75 = .ok (.iinc 2 1, 3) := by decide +kernel
theorem dX5_orders_78 : decode cX5_orders 78 = .ok (.goto (-36), 3) := by decide +kernel
theorem dX5_orders_81 : decode cX5_orders 81 = .ok (.iinc 1 1, 3) := by decide +kernel
theorem dX5_orders_84 : decode cX5_orders 84 = .ok (.goto (-59), 3) := by decide +kernel
theorem dX5_orders_87 : decode cX5_orders 87 = .ok (.aload_n 0, 1) := by decide +kernel
theorem dX5_orders_88 : decode cX5_orders 88 = .ok (.getfield 41, 3) := by decide +kernel
theorem dX5_orders_91 : decode cX5_orders 91 = .ok (.iconst 0, 1) := by decide +kernel
theorem dX5_orders_92 : decode cX5_orders 92 = .ok (.lconst 1, 1) := by decide +kernel
theorem dX5_orders_93 : decode cX5_orders 93 = .ok (.lastore, 1) := by decide +kernel
theorem dX5_orders_94 : decode cX5_orders 94 = .ok (.iconst 1, 1) := by decide +kernel
theorem dX5_orders_95 : decode cX5_orders 95 = .ok (.istore_n 1, 1) := by decide +kernel
theorem dX5_orders_96 : decode cX5_orders 96 = .ok (.iload_n 1, 1) := by decide +kernel
theorem dX5_orders_97 : decode cX5_orders 97 = .ok (.iconst 1, 1) := by decide +kernel
theorem dX5_orders_98 : decode cX5_orders 98 = .ok (.aload_n 0, 1) := by decide +kernel
theorem dX5_orders_99 : decode cX5_orders 99 = .ok (.getfield 89, 3) := by decide +kernel
theorem dX5_orders_102 : decode cX5_orders 102 = .ok (.ishl, 1) := by decide +kernel
theorem dX5_orders_103 : decode cX5_orders 103 = .ok (.if_icmp .ge 87, 3) := by decide +kernel
theorem dX5_orders_106 : decode cX5_orders 106 = .ok (.aload_n 0, 1) := by decide +kernel
theorem dX5_orders_107 : decode cX5_orders 107 = .ok (.getfield 41, 3) := by decide +kernel
theorem dX5_orders_110 : decode cX5_orders 110 = .ok (.iload_n 1, 1) := by decide +kernel
theorem dX5_orders_111 : decode cX5_orders 111 = .ok (.lconst 0, 1) := by decide +kernel
theorem dX5_orders_112 : decode cX5_orders 112 = .ok (.lastore, 1) := by decide +kernel
theorem dX5_orders_113 : decode cX5_orders 113 = .ok (.iconst 0, 1) := by decide +kernel
theorem dX5_orders_114 : decode cX5_orders 114 = .ok (.istore_n 2, 1) := by decide +kernel
theorem dX5_orders_115 : decode cX5_orders 115 = .ok (.iload_n 2, 1) := by decide +kernel
theorem dX5_orders_116 : decode cX5_orders 116 = .ok (.aload_n 0, 1) := by decide +kernel
theorem dX5_orders_117 : decode cX5_orders 117 = .ok (.getfield 89, 3) := by decide +kernel
theorem dX5_orders_120 : decode cX5_orders 120 = .ok (.if_icmp .ge 64, 3) := by decide +kernel
theorem dX5_orders_123 : decode cX5_orders 123 = .ok (.iload_n 1, 1) := by decide +kernel
theorem dX5_orders_124 : decode cX5_orders 124 = .ok (.iload_n 2, 1) := by decide +kernel
theorem dX5_orders_125 : decode cX5_orders 125 = .ok (.ishr, 1) := by decide +kernel
theorem dX5_orders_126 : decode cX5_orders 126 = .ok (.iconst 1, 1) := by decide +kernel
theorem dX5_orders_127 : decode cX5_orders 127 = .ok (.iand, 1) := by decide +kernel
theorem dX5_orders_128 : decode cX5_orders 128 = .ok (.iconst 1, 1) := by decide +kernel
theorem dX5_orders_129 : decode cX5_orders 129 = .ok (.if_icmp .ne 20, 3) := by decide +kernel
theorem dX5_orders_132 : decode cX5_orders 132 = .ok (.aload_n 0, 1) := by decide +kernel
theorem dX5_orders_133 : decode cX5_orders 133 = .ok (.getfield 38, 3) := by decide +kernel
theorem dX5_orders_136 : decode cX5_orders 136 = .ok (.iload_n 2, 1) := by decide +kernel
theorem dX5_orders_137 : decode cX5_orders 137 = .ok (.iaload, 1) := by decide +kernel
theorem dX5_orders_138 : decode cX5_orders 138 = .ok (.iload_n 1, 1) := by decide +kernel
theorem dX5_orders_139 : decode cX5_orders 139 = .ok (.iconst (-1), 1) := by decide +kernel
theorem dX5_orders_140 : decode cX5_orders 140 = .ok (.ixor, 1) := by decide +kernel
theorem dX5_orders_141 : decode cX5_orders 141 = .ok (.iand, 1) := by decide +kernel
theorem dX5_orders_142 : decode cX5_orders 142 = .ok (.ifCond .ne 7, 3) := by decide +kernel
theorem dX5_orders_145 : decode cX5_orders 145 = .ok (.iconst 1, 1) := by decide +kernel
theorem dX5_orders_146 : decode cX5_orders 146 = .ok (.goto 4, 3) := by decide +kernel
theorem dX5_orders_149 : decode cX5_orders 149 = .ok (.iconst 0, 1) := by decide +kernel
theorem dX5_orders_150 : decode cX5_orders 150 = .ok (.istore_n 3, 1) := by decide +kernel
theorem dX5_orders_151 : decode cX5_orders 151 = .ok (.aload_n 0, 1) := by decide +kernel
theorem dX5_orders_152 : decode cX5_orders 152 = .ok (.getfield 41, 3) := by decide +kernel
theorem dX5_orders_155 : decode cX5_orders 155 = .ok (.iload_n 1, 1) := by decide +kernel
theorem dX5_orders_156 : decode cX5_orders 156 = .ok (.dup2, 1) := by decide +kernel
theorem dX5_orders_157 : decode cX5_orders 157 = .ok (.laload, 1) := by decide +kernel
theorem dX5_orders_158 : decode cX5_orders 158 = .ok (.iload_n 3, 1) := by decide +kernel
theorem dX5_orders_159 : decode cX5_orders 159 = .ok (.ifCond .eq 16, 3) := by decide +kernel
theorem dX5_orders_162 : decode cX5_orders 162 = .ok (.aload_n 0, 1) := by decide +kernel
theorem dX5_orders_163 : decode cX5_orders 163 = .ok (.getfield 41, 3) := by decide +kernel
theorem dX5_orders_166 : decode cX5_orders 166 = .ok (.iload_n 1, 1) := by decide +kernel
theorem dX5_orders_167 : decode cX5_orders 167 = .ok (.iconst 1, 1) := by decide +kernel
theorem dX5_orders_168 : decode cX5_orders 168 = .ok (.iload_n 2, 1) := by decide +kernel
theorem dX5_orders_169 : decode cX5_orders 169 = .ok (.ishl, 1) := by decide +kernel
theorem dX5_orders_170 : decode cX5_orders 170 = .ok (.isub, 1) := by decide +kernel
theorem dX5_orders_171 : decode cX5_orders 171 = .ok (.laload, 1) := by decide +kernel
theorem dX5_orders_172 : decode cX5_orders 172 = .ok (.goto 4, 3) := by decide +kernel
theorem dX5_orders_175 : decode cX5_orders 175 = .ok (.lconst 0, 1) := by decide +kernel
theorem dX5_orders_176 : decode cX5_orders 176 = .ok (.ladd, 1) := by decide +kernel
theorem dX5_orders_177 : decode cX5_orders 177 = .ok (.lastore, 1) := by decide +kernel
theorem dX5_orders_178 : decode cX5_orders 178 = .ok (.iinc 2 1, 3) := by decide +kernel
theorem dX5_orders_181 : decode cX5_orders 181 = .ok (.goto (-66), 3) := by decide +kernel
theorem dX5_orders_184 : decode cX5_orders 184 = .ok (.iinc 1 1, 3) := by decide +kernel
theorem dX5_orders_187 : decode cX5_orders 187 = .ok (.goto (-91), 3) := by decide +kernel
theorem dX5_orders_190 : decode cX5_orders 190 = .ok (.aload_n 0, 1) := by decide +kernel
theorem dX5_orders_191 : decode cX5_orders 191 = .ok (.getfield 41, 3) := by decide +kernel
theorem dX5_orders_194 : decode cX5_orders 194 = .ok (.iconst 1, 1) := by decide +kernel
theorem dX5_orders_195 : decode cX5_orders 195 = .ok (.aload_n 0, 1) := by decide +kernel
theorem dX5_orders_196 : decode cX5_orders 196 = .ok (.getfield 89, 3) := by decide +kernel
theorem dX5_orders_199 : decode cX5_orders 199 = .ok (.ishl, 1) := by decide +kernel
theorem dX5_orders_200 : decode cX5_orders 200 = .ok (.iconst 1, 1) := by decide +kernel
theorem dX5_orders_201 : decode cX5_orders 201 = .ok (.isub, 1) := by decide +kernel
theorem dX5_orders_202 : decode cX5_orders 202 = .ok (.laload, 1) := by decide +kernel
theorem dX5_orders_203 : decode cX5_orders 203 = .ok (.lreturn, 1) := by decide +kernel
set_option maxRecDepth 20000 in
theorem ggX5_argue_X5_isLine : GoodIn wsX5_argue wsX5_isLine := goodIn_r _ [7, 8, 9, 10, 6, 11, 17, 18, 19, 20, 21, 22, 23, 24, 25, 26, 27, 28, 29, 30, 31, 32, 33, 34, 35, 36, 37] (by decide +kernel) (by decide +kernel)
set_option maxRecDepth 20000 in
theorem gX5_argue_X5_isLine : GoodIn wsX5_argue (wsV RX5 92 RX5 yX5_isLine wsX5_isLine) := goodIn_app (goodIn_of _ (by decide +kernel)) ggX5_argue_X5_isLine
set_option maxRecDepth 20000 in
theorem ggX5_argue_X5_isIn : GoodIn wsX5_argue wsX5_isIn := goodIn_r _ [11] (by decide +kernel) (by decide +kernel)
set_option maxRecDepth 20000 in
theorem gX5_argue_X5_isIn : GoodIn wsX5_argue (va_wsS RX5 68 yX5_isIn wsX5_isIn) := goodIn_app (goodIn_of _ (by decide +kernel)) ggX5_argue_X5_isIn
set_option maxRecDepth 20000 in
theorem ggX5_argue_X5_goes : GoodIn wsX5_argue wsX5_goes := goodIn_r _ [15, 16, 17, 18, 19, 20, 21, 22, 23, 24, 25, 26, 27, 28, 29, 30, 31, 32, 33, 34, 35, 36, 37] (by decide +kernel) (by decide +kernel)
set_option maxRecDepth 20000 in
theorem gX5_argue_X5_goes : GoodIn wsX5_argue (wsV RX5 79 RX5 yX5_goes wsX5_goes) := goodIn_app (goodIn_of _ (by decide +kernel)) ggX5_argue_X5_goes
theorem dX5_argue_0 : decode cX5_argue 0 = .ok (.aload_n 0, 1) := by decide +kernel
theorem dX5_argue_1 : decode cX5_argue 1 = .ok (.aload_n 0, 1) := by decide +kernel
theorem dX5_argue_2 : decode cX5_argue 2 = .ok (.iload_n 1, 1) := by decide +kernel
theorem dX5_argue_3 : decode cX5_argue 3 = .ok (.invokevirtual 92, 3) := by decide +kernel
theorem dX5_argue_6 : decode cX5_argue 6 = .ok (.ifCond .ne 7, 3) := by decide +kernel
theorem dX5_argue_9 : decode cX5_argue 9 = .ok (.iconst 1, 1) := by decide +kernel
theorem dX5_argue_10 : decode cX5_argue 10 = .ok (.goto 18, 3) := by decide +kernel
theorem dX5_argue_13 : decode cX5_argue 13 = .ok (.iload_n 2, 1) := by decide +kernel
theorem dX5_argue_14 : decode cX5_argue 14 = .ok (.iconst 1, 1) := by decide +kernel
theorem dX5_argue_15 : decode cX5_argue 15 = .ok (.bipush 100, 2) := by decide +kernel
theorem dX5_argue_17 : decode cX5_argue 17 = .ok (.invokestatic 68, 3) := by decide +kernel
theorem dX5_argue_20 : decode cX5_argue 20 = .ok (.ifCond .eq 7, 3) := by decide +kernel
theorem dX5_argue_23 : decode cX5_argue 23 = .ok (.iconst 0, 1) := by decide +kernel
theorem dX5_argue_24 : decode cX5_argue 24 = .ok (.goto 4, 3) := by decide +kernel
theorem dX5_argue_27 : decode cX5_argue 27 = .ok (.iconst 2, 1) := by decide +kernel
theorem dX5_argue_28 : decode cX5_argue 28 = .ok (.invokevirtual 79, 3) := by decide +kernel
theorem dX5_argue_31 : decode cX5_argue 31 = .ok (.ifCond .ne 5, 3) := by decide +kernel
theorem dX5_argue_34 : decode cX5_argue 34 = .ok (.iconst 0, 1) := by decide +kernel
theorem dX5_argue_35 : decode cX5_argue 35 = .ok (.ireturn, 1) := by decide +kernel
theorem dX5_argue_36 : decode cX5_argue 36 = .ok (.aload_n 0, 1) := by decide +kernel
theorem dX5_argue_37 : decode cX5_argue 37 = .ok (.getfield 29, 3) := by decide +kernel
theorem dX5_argue_40 : decode cX5_argue 40 = .ok (.iload_n 1, 1) := by decide +kernel
theorem dX5_argue_41 : decode cX5_argue 41 = .ok (.dup2, 1) := by decide +kernel
theorem dX5_argue_42 : decode cX5_argue 42 = .ok (.iaload, 1) := by decide +kernel
theorem dX5_argue_43 : decode cX5_argue 43 = .ok (.iload_n 3, 1) := by decide +kernel
theorem dX5_argue_44 : decode cX5_argue 44 = .ok (.ifCond .eq 7, 3) := by decide +kernel
theorem dX5_argue_47 : decode cX5_argue 47 = .ok (.iload_n 2, 1) := by decide +kernel
theorem dX5_argue_48 : decode cX5_argue 48 = .ok (.goto 4, 3) := by decide +kernel
theorem dX5_argue_51 : decode cX5_argue 51 = .ok (.iconst 0, 1) := by decide +kernel
theorem dX5_argue_52 : decode cX5_argue 52 = .ok (.iadd, 1) := by decide +kernel
theorem dX5_argue_53 : decode cX5_argue 53 = .ok (.iastore, 1) := by decide +kernel
theorem dX5_argue_54 : decode cX5_argue 54 = .ok (.aload_n 0, 1) := by decide +kernel
theorem dX5_argue_55 : decode cX5_argue 55 = .ok (.getfield 32, 3) := by decide +kernel
theorem dX5_argue_58 : decode cX5_argue 58 = .ok (.iload_n 1, 1) := by decide +kernel
theorem dX5_argue_59 : decode cX5_argue 59 = .ok (.dup2, 1) := by decide +kernel
theorem dX5_argue_60 : decode cX5_argue 60 = .ok (.iaload, 1) := by decide +kernel
theorem dX5_argue_61 : decode cX5_argue 61 = .ok (.iload_n 3, 1) := by decide +kernel
theorem dX5_argue_62 : decode cX5_argue 62 = .ok (.ifCond .eq 7, 3) := by decide +kernel
theorem dX5_argue_65 : decode cX5_argue 65 = .ok (.iconst 0, 1) := by decide +kernel
theorem dX5_argue_66 : decode cX5_argue 66 = .ok (.goto 4, 3) := by decide +kernel
theorem dX5_argue_69 : decode cX5_argue 69 = .ok (.iload_n 2, 1) := by decide +kernel
theorem dX5_argue_70 : decode cX5_argue 70 = .ok (.iadd, 1) := by decide +kernel
theorem dX5_argue_71 : decode cX5_argue 71 = .ok (.iastore, 1) := by decide +kernel
theorem dX5_argue_72 : decode cX5_argue 72 = .ok (.aload_n 0, 1) := by decide +kernel
theorem dX5_argue_73 : decode cX5_argue 73 = .ok (.getfield 29, 3) := by decide +kernel
theorem dX5_argue_76 : decode cX5_argue 76 = .ok (.iload_n 1, 1) := by decide +kernel
theorem dX5_argue_77 : decode cX5_argue 77 = .ok (.iaload, 1) := by decide +kernel
theorem dX5_argue_78 : decode cX5_argue 78 = .ok (.aload_n 0, 1) := by decide +kernel
theorem dX5_argue_79 : decode cX5_argue 79 = .ok (.getfield 32, 3) := by decide +kernel
theorem dX5_argue_82 : decode cX5_argue 82 = .ok (.iload_n 1, 1) := by decide +kernel
theorem dX5_argue_83 : decode cX5_argue 83 = .ok (.iaload, 1) := by decide +kernel
theorem dX5_argue_84 : decode cX5_argue 84 = .ok (.isub, 1) := by decide +kernel
theorem dX5_argue_85 : decode cX5_argue 85 = .ok (.ireturn, 1) := by decide +kernel
theorem dX5_isDoubted_0 : decode cX5_isDoubted 0 = .ok (.aload_n 0, 1) := by decide +kernel
theorem dX5_isDoubted_1 : decode cX5_isDoubted 1 = .ok (.getfield 32, 3) := by decide +kernel
theorem dX5_isDoubted_4 : decode cX5_isDoubted 4 = .ok (.iload_n 1, 1) := by decide +kernel
theorem dX5_isDoubted_5 : decode cX5_isDoubted 5 = .ok (.iaload, 1) := by decide +kernel
theorem dX5_isDoubted_6 : decode cX5_isDoubted 6 = .ok (.aload_n 0, 1) := by decide +kernel
theorem dX5_isDoubted_7 : decode cX5_isDoubted 7 = .ok (.getfield 29, 3) := by decide +kernel
theorem dX5_isDoubted_10 : decode cX5_isDoubted 10 = .ok (.iload_n 1, 1) := by decide +kernel
theorem dX5_isDoubted_11 : decode cX5_isDoubted 11 = .ok (.iaload, 1) := by decide +kernel
theorem dX5_isDoubted_12 : decode cX5_isDoubted 12 = .ok (.if_icmp .le 7, 3) := by decide +kernel
theorem dX5_isDoubted_15 : decode cX5_isDoubted 15 = .ok (.iconst 1, 1) := by decide +kernel
theorem dX5_isDoubted_16 : decode cX5_isDoubted 16 = .ok (.goto 4, 3) := by decide +kernel
theorem dX5_isDoubted_19 : decode cX5_isDoubted 19 = .ok (.iconst 0, 1) := by decide +kernel
theorem dX5_isDoubted_20 : decode cX5_isDoubted 20 = .ok (.ireturn, 1) := by decide +kernel
set_option maxRecDepth 20000 in
theorem ggX5_isDoubtful_X5_isLine : GoodIn wsX5_isDoubtful wsX5_isLine := goodIn_r _ [5, 6, 7, 8, 4, 9, 21, 22, 23, 24, 25, 26, 27, 28, 29, 30, 31, 32, 33, 34, 35, 36, 37, 38, 39, 40, 41] (by decide +kernel) (by decide +kernel)
set_option maxRecDepth 20000 in
theorem gX5_isDoubtful_X5_isLine : GoodIn wsX5_isDoubtful (wsV RX5 92 RX5 yX5_isLine wsX5_isLine) := goodIn_app (goodIn_of _ (by decide +kernel)) ggX5_isDoubtful_X5_isLine
set_option maxRecDepth 20000 in
theorem ggX5_isDoubtful_X5_goes : GoodIn wsX5_isDoubtful wsX5_goes := goodIn_r _ [13, 14, 21, 22, 23, 24, 25, 26, 27, 28, 29, 30, 31, 32, 33, 34, 35, 36, 37, 38, 39, 40, 41] (by decide +kernel) (by decide +kernel)
set_option maxRecDepth 20000 in
theorem gX5_isDoubtful_X5_goes : GoodIn wsX5_isDoubtful (wsV RX5 79 RX5 yX5_goes wsX5_goes) := goodIn_app (goodIn_of _ (by decide +kernel)) ggX5_isDoubtful_X5_goes
set_option maxRecDepth 20000 in
theorem ggX5_isDoubtful_X5_isDoubted : GoodIn wsX5_isDoubtful wsX5_isDoubted := goodIn_r _ [18, 19, 20, 21, 22, 23, 24, 25, 26, 27, 28, 29, 30, 31, 32, 33, 34, 35, 36, 37, 38, 39, 40, 41] (by decide +kernel) (by decide +kernel)
set_option maxRecDepth 20000 in
theorem gX5_isDoubtful_X5_isDoubted : GoodIn wsX5_isDoubtful (wsV RX5 102 RX5 yX5_isDoubted wsX5_isDoubted) := goodIn_app (goodIn_of _ (by decide +kernel)) ggX5_isDoubtful_X5_isDoubted
theorem dX5_isDoubtful_0 : decode cX5_isDoubtful 0 = .ok (.aload_n 0, 1) := by decide +kernel
theorem dX5_isDoubtful_1 : decode cX5_isDoubtful 1 = .ok (.aload_n 0, 1) := by decide +kernel
theorem dX5_isDoubtful_2 : decode cX5_isDoubtful 2 = .ok (.iload_n 1, 1) := by decide +kernel
theorem dX5_isDoubtful_3 : decode cX5_isDoubtful 3 = .ok (.invokevirtual 92, 3) := by decide +kernel
theorem dX5_isDoubtful_6 : decode cX5_isDoubtful 6 = .ok (.ifCond .eq 7, 3) := by decide +kernel
theorem dX5_isDoubtful_9 : decode cX5_isDoubtful 9 = .ok (.iconst 0, 1) := by decide +kernel
theorem dX5_isDoubtful_10 : decode cX5_isDoubtful 10 = .ok (.goto 4, 3) := by decide +kernel
theorem dX5_isDoubtful_13 : decode cX5_isDoubtful 13 = .ok (.iconst 1, 1) := by decide +kernel
theorem dX5_isDoubtful_14 : decode cX5_isDoubtful 14 = .ok (.invokevirtual 79, 3) := by decide +kernel
theorem dX5_isDoubtful_17 : decode cX5_isDoubtful 17 = .ok (.ifCond .eq 15, 3) := by decide +kernel
theorem dX5_isDoubtful_20 : decode cX5_isDoubtful 20 = .ok (.aload_n 0, 1) := by decide +kernel
theorem dX5_isDoubtful_21 : decode cX5_isDoubtful 21 = .ok (.iload_n 1, 1) := by decide +kernel
theorem dX5_isDoubtful_22 : decode cX5_isDoubtful 22 = .ok (.invokevirtual 102, 3) := by decide +kernel
theorem dX5_isDoubtful_25 : decode cX5_isDoubtful 25 = .ok (.ifCond .eq 7, 3) := by decide +kernel
theorem dX5_isDoubtful_28 : decode cX5_isDoubtful 28 = .ok (.iconst 1, 1) := by decide +kernel
theorem dX5_isDoubtful_29 : decode cX5_isDoubtful 29 = .ok (.goto 4, 3) := by decide +kernel
theorem dX5_isDoubtful_32 : decode cX5_isDoubtful 32 = .ok (.iconst 0, 1) := by decide +kernel
theorem dX5_isDoubtful_33 : decode cX5_isDoubtful 33 = .ok (.ireturn, 1) := by decide +kernel
set_option maxRecDepth 20000 in
theorem ggX5_isOfStory_X5_isDoubted : GoodIn wsX5_isOfStory wsX5_isDoubted := goodIn_r _ [6, 7, 8, 9, 10, 11, 12, 13, 14, 15, 16, 17, 18, 19, 20, 21, 22, 23, 24, 25, 26, 27, 28, 29] (by decide +kernel) (by decide +kernel)
set_option maxRecDepth 20000 in
theorem gX5_isOfStory_X5_isDoubted : GoodIn wsX5_isOfStory (wsV RX5 102 RX5 yX5_isDoubted wsX5_isDoubted) := goodIn_app (goodIn_of _ (by decide +kernel)) ggX5_isOfStory_X5_isDoubted
theorem dX5_isOfStory_0 : decode cX5_isOfStory 0 = .ok (.aload_n 0, 1) := by decide +kernel
theorem dX5_isOfStory_1 : decode cX5_isOfStory 1 = .ok (.getfield 25, 3) := by decide +kernel
theorem dX5_isOfStory_4 : decode cX5_isOfStory 4 = .ok (.iload_n 1, 1) := by decide +kernel
theorem dX5_isOfStory_5 : decode cX5_isOfStory 5 = .ok (.baload, 1) := by decide +kernel
theorem dX5_isOfStory_6 : decode cX5_isOfStory 6 = .ok (.ifCond .eq 15, 3) := by decide +kernel
theorem dX5_isOfStory_9 : decode cX5_isOfStory 9 = .ok (.aload_n 0, 1) := by decide +kernel
theorem dX5_isOfStory_10 : decode cX5_isOfStory 10 = .ok (.iload_n 1, 1) := by decide +kernel
theorem dX5_isOfStory_11 : decode cX5_isOfStory 11 = .ok (.invokevirtual 102, 3) := by decide +kernel
theorem dX5_isOfStory_14 : decode cX5_isOfStory 14 = .ok (.ifCond .ne 7, 3) := by decide +kernel
theorem dX5_isOfStory_17 : decode cX5_isOfStory 17 = .ok (.iconst 1, 1) := by decide +kernel
theorem dX5_isOfStory_18 : decode cX5_isOfStory 18 = .ok (.goto 4, 3) := by decide +kernel
theorem dX5_isOfStory_21 : decode cX5_isOfStory 21 = .ok (.iconst 0, 1) := by decide +kernel
theorem dX5_isOfStory_22 : decode cX5_isOfStory 22 = .ok (.ireturn, 1) := by decide +kernel
set_option maxRecDepth 20000 in
theorem ggX5_storyLines_X5_isOfStory : GoodIn wsX5_storyLines wsX5_isOfStory := goodIn_r _ [6, 7, 8, 9, 10, 5, 11, 12, 13, 14, 15, 16, 17, 18, 19, 20, 21, 22, 23, 24, 25, 26, 27, 28, 29, 30, 31, 32, 33, 34] (by decide +kernel) (by decide +kernel)
set_option maxRecDepth 20000 in
theorem gX5_storyLines_X5_isOfStory : GoodIn wsX5_storyLines (wsV RX5 105 RX5 yX5_isOfStory wsX5_isOfStory) := goodIn_app (goodIn_of _ (by decide +kernel)) ggX5_storyLines_X5_isOfStory
theorem dX5_storyLines_0 : decode cX5_storyLines 0 = .ok (.iconst 0, 1) := by decide +kernel
theorem dX5_storyLines_1 : decode cX5_storyLines 1 = .ok (.istore_n 1, 1) := by decide +kernel
theorem dX5_storyLines_2 : decode cX5_storyLines 2 = .ok (.iconst 0, 1) := by decide +kernel
theorem dX5_storyLines_3 : decode cX5_storyLines 3 = .ok (.istore_n 2, 1) := by decide +kernel
theorem dX5_storyLines_4 : decode cX5_storyLines 4 = .ok (.iload_n 2, 1) := by decide +kernel
theorem dX5_storyLines_5 : decode cX5_storyLines 5 = .ok (.aload_n 0, 1) := by decide +kernel
theorem dX5_storyLines_6 : decode cX5_storyLines 6 = .ok (.getfield 89, 3) := by decide +kernel
theorem dX5_storyLines_9 : decode cX5_storyLines 9 = .ok (.if_icmp .ge 25, 3) := by decide +kernel
theorem dX5_storyLines_12 : decode cX5_storyLines 12 = .ok (.iload_n 1, 1) := by decide +kernel
theorem dX5_storyLines_13 : decode cX5_storyLines 13 = .ok (.aload_n 0, 1) := by decide +kernel
theorem dX5_storyLines_14 : decode cX5_storyLines 14 = .ok (.iload_n 2, 1) := by decide +kernel
theorem dX5_storyLines_15 : decode cX5_storyLines 15 = .ok (.invokevirtual 105, 3) := by decide +kernel
theorem dX5_storyLines_18 : decode cX5_storyLines 18 = .ok (.ifCond .eq 7, 3) := by decide +kernel
theorem dX5_storyLines_21 : decode cX5_storyLines 21 = .ok (.iconst 1, 1) := by decide +kernel
theorem dX5_storyLines_22 : decode cX5_storyLines 22 = .ok (.goto 4, 3) := by decide +kernel
theorem dX5_storyLines_25 : decode cX5_storyLines 25 = .ok (.iconst 0, 1) := by decide +kernel
theorem dX5_storyLines_26 : decode cX5_storyLines 26 = .ok (.iadd, 1) := by decide +kernel
theorem dX5_storyLines_27 : decode cX5_storyLines 27 = .ok (.istore_n 1, 1) := by decide +kernel
theorem dX5_storyLines_28 : decode cX5_storyLines 28 = .ok (.iinc 2 1, 3) := by decide +kernel
theorem dX5_storyLines_31 : decode cX5_storyLines 31 = .ok (.goto (-27), 3) := by decide +kernel
theorem dX5_storyLines_34 : decode cX5_storyLines 34 = .ok (.iload_n 1, 1) := by decide +kernel
theorem dX5_storyLines_35 : decode cX5_storyLines 35 = .ok (.ireturn, 1) := by decide +kernel
set_option maxRecDepth 20000 in
theorem ggX5_story_X5_storyLines : GoodIn wsX5_story wsX5_storyLines := goodIn_r _ [6, 7, 8, 9, 10, 5, 11, 12, 13, 14, 15, 16, 17, 18, 19, 20, 21, 22, 23, 24, 25, 26, 27, 28, 29, 30, 31, 32, 33, 34, 35, 36, 37, 38, 39] (by decide +kernel) (by decide +kernel)
set_option maxRecDepth 20000 in
theorem gX5_story_X5_storyLines : GoodIn wsX5_story (wsV RX5 108 RX5 yX5_storyLines wsX5_storyLines) := goodIn_app (goodIn_of _ (by decide +kernel)) ggX5_story_X5_storyLines
theorem dX5_story_0 : decode cX5_story 0 = .ok (.aload_n 0, 1) := by decide +kernel
theorem dX5_story_1 : decode cX5_story 1 = .ok (.iconst 0, 1) := by decide +kernel
theorem dX5_story_2 : decode cX5_story 2 = .ok (.putfield 64, 3) := by decide +kernel
theorem dX5_story_5 : decode cX5_story 5 = .ok (.aload_n 0, 1) := by decide +kernel
theorem dX5_story_6 : decode cX5_story 6 = .ok (.invokevirtual 108, 3) := by decide +kernel
theorem dX5_story_9 : decode cX5_story 9 = .ok (.ireturn, 1) := by decide +kernel
set_option maxRecDepth 20000 in
theorem ggX5_storyAt_X5_storyLines : GoodIn wsX5_storyAt wsX5_storyLines := goodIn_r _ [7, 1, 8, 9, 10, 6, 11, 12, 13, 14, 15, 16, 17, 18, 39, 40, 41, 42, 43, 44, 45, 46, 47, 48, 49, 50, 51, 52, 53, 54, 55, 56, 57, 58, 59] (by decide +kernel) (by decide +kernel)
set_option maxRecDepth 20000 in
theorem gX5_storyAt_X5_storyLines : GoodIn wsX5_storyAt (wsV RX5 108 RX5 yX5_storyLines wsX5_storyLines) := goodIn_app (goodIn_of _ (by decide +kernel)) ggX5_storyAt_X5_storyLines
set_option maxRecDepth 20000 in
theorem ggX5_storyAt_X5_isIn : GoodIn wsX5_storyAt wsX5_isIn := goodIn_r _ [21] (by decide +kernel) (by decide +kernel)
set_option maxRecDepth 20000 in
theorem gX5_storyAt_X5_isIn : GoodIn wsX5_storyAt (va_wsS RX5 68 yX5_isIn wsX5_isIn) := goodIn_app (goodIn_of _ (by decide +kernel)) ggX5_storyAt_X5_isIn
set_option maxRecDepth 20000 in
theorem ggX5_storyAt_X5_goes : GoodIn wsX5_storyAt wsX5_goes := goodIn_r _ [25, 26, 39, 40, 41, 42, 43, 44, 45, 46, 47, 48, 49, 50, 51, 52, 53, 54, 55, 56, 57, 58, 59] (by decide +kernel) (by decide +kernel)
set_option maxRecDepth 20000 in
theorem gX5_storyAt_X5_goes : GoodIn wsX5_storyAt (wsV RX5 79 RX5 yX5_goes wsX5_goes) := goodIn_app (goodIn_of _ (by decide +kernel)) ggX5_storyAt_X5_goes
set_option maxRecDepth 20000 in
theorem ggX5_storyAt_X5_laysOrder : GoodIn wsX5_storyAt wsX5_laysOrder := goodIn_r _ [30, 1, 2, 31, 32, 33, 6, 34, 35, 36, 37, 38, 39, 40, 41, 42, 43, 44, 45, 46, 47, 48, 49, 50, 51, 52, 53, 54, 55, 56, 57, 58, 59] (by decide +kernel) (by decide +kernel)
set_option maxRecDepth 20000 in
theorem gX5_storyAt_X5_laysOrder : GoodIn wsX5_storyAt (wsV RX5 99 RX5 yX5_laysOrder wsX5_laysOrder) := goodIn_app (goodIn_of _ (by decide +kernel)) ggX5_storyAt_X5_laysOrder
set_option maxRecDepth 20000 in
theorem ggX5_storyAt_X5_isOfStory : GoodIn wsX5_storyAt wsX5_isOfStory := goodIn_r _ [11, 12, 13, 14, 15, 6, 16, 17, 18, 39, 40, 41, 42, 43, 44, 45, 46, 47, 48, 49, 50, 51, 52, 53, 54, 55, 56, 57, 58, 59] (by decide +kernel) (by decide +kernel)
set_option maxRecDepth 20000 in
theorem gX5_storyAt_X5_isOfStory : GoodIn wsX5_storyAt (wsV RX5 105 RX5 yX5_isOfStory wsX5_isOfStory) := goodIn_app (goodIn_of _ (by decide +kernel)) ggX5_storyAt_X5_isOfStory
theorem dX5_storyAt_0 : decode cX5_storyAt 0 = .ok (.aload_n 0, 1) := by decide +kernel
theorem dX5_storyAt_1 : decode cX5_storyAt 1 = .ok (.iload_n 1, 1) := by decide +kernel
theorem dX5_storyAt_2 : decode cX5_storyAt 2 = .ok (.iconst 0, 1) := by decide +kernel
theorem dX5_storyAt_3 : decode cX5_storyAt 3 = .ok (.aload_n 0, 1) := by decide +kernel
theorem dX5_storyAt_4 : decode cX5_storyAt 4 = .ok (.invokevirtual 108, 3) := by decide +kernel
theorem dX5_storyAt_7 : decode cX5_storyAt 7 = .ok (.iconst 1, 1) := by decide +kernel
theorem dX5_storyAt_8 : decode cX5_storyAt 8 = .ok (.isub, 1) := by decide +kernel
theorem dX5_storyAt_9 : decode cX5_storyAt 9 = .ok (.invokestatic 68, 3) := by decide +kernel
theorem dX5_storyAt_12 : decode cX5_storyAt 12 = .ok (.ifCond .eq 7, 3) := by decide +kernel
theorem dX5_storyAt_15 : decode cX5_storyAt 15 = .ok (.iconst 0, 1) := by decide +kernel
theorem dX5_storyAt_16 : decode cX5_storyAt 16 = .ok (.goto 4, 3) := by decide +kernel
theorem dX5_storyAt_19 : decode cX5_storyAt 19 = .ok (.iconst 1, 1) := by decide +kernel
theorem dX5_storyAt_20 : decode cX5_storyAt 20 = .ok (.invokevirtual 79, 3) := by decide +kernel
theorem dX5_storyAt_23 : decode cX5_storyAt 23 = .ok (.ifCond .ne 5, 3) := by decide +kernel
theorem dX5_storyAt_26 : decode cX5_storyAt 26 = .ok (.iconst 0, 1) := by decide +kernel
theorem dX5_storyAt_27 : decode cX5_storyAt 27 = .ok (.ireturn, 1) := by decide +kernel
theorem dX5_storyAt_28 : decode cX5_storyAt 28 = .ok (.aload_n 0, 1) := by decide +kernel
theorem dX5_storyAt_29 : decode cX5_storyAt 29 = .ok (.invokevirtual 99, 3) := by decide +kernel
theorem dX5_storyAt_32 : decode cX5_storyAt 32 = .ok (.iconst (-1), 1) := by decide +kernel
theorem dX5_storyAt_33 : decode cX5_storyAt 33 = .ok (.istore_n 2, 1) := by decide +kernel
theorem dX5_storyAt_34 : decode cX5_storyAt 34 = .ok (.iconst 0, 1) := by decide +kernel
theorem dX5_storyAt_35 : decode cX5_storyAt 35 = .ok (.istore_n 3, 1) := by decide +kernel
theorem dX5_storyAt_36 : decode cX5_storyAt 36 = .ok (.iconst 0, 1) := by decide +kernel
theorem dX5_storyAt_37 : decode cX5_storyAt 37 = .ok (.istore 4, 2) := by decide +kernel
theorem dX5_storyAt_39 : decode cX5_storyAt 39 = .ok (.iload 4, 2) := by decide +kernel
theorem dX5_storyAt_41 : decode cX5_storyAt 41 = .ok (.aload_n 0, 1) := by decide +kernel
theorem dX5_storyAt_42 : decode cX5_storyAt 42 = .ok (.getfield 89, 3) := by decide +kernel
theorem dX5_storyAt_45 : decode cX5_storyAt 45 = .ok (.if_icmp .ge 57, 3) := by decide +kernel
theorem dX5_storyAt_48 : decode cX5_storyAt 48 = .ok (.aload_n 0, 1) := by decide +kernel
theorem dX5_storyAt_49 : decode cX5_storyAt 49 = .ok (.aload_n 0, 1) := by decide +kernel
theorem dX5_storyAt_50 : decode cX5_storyAt 50 = .ok (.getfield 35, 3) := by decide +kernel
theorem dX5_storyAt_53 : decode cX5_storyAt 53 = .ok (.iload 4, 2) := by decide +kernel
theorem dX5_storyAt_55 : decode cX5_storyAt 55 = .ok (.iaload, 1) := by decide +kernel
theorem dX5_storyAt_56 : decode cX5_storyAt 56 = .ok (.invokevirtual 105, 3) := by decide +kernel
theorem dX5_storyAt_59 : decode cX5_storyAt 59 = .ok (.istore 5, 2) := by decide +kernel
theorem dX5_storyAt_61 : decode cX5_storyAt 61 = .ok (.iload 5, 2) := by decide +kernel
theorem dX5_storyAt_63 : decode cX5_storyAt 63 = .ok (.ifCond .eq 18, 3) := by decide +kernel
theorem dX5_storyAt_66 : decode cX5_storyAt 66 = .ok (.iload_n 3, 1) := by decide +kernel
theorem dX5_storyAt_67 : decode cX5_storyAt 67 = .ok (.iload_n 1, 1) := by decide +kernel
theorem dX5_storyAt_68 : decode cX5_storyAt 68 = .ok (.if_icmp .ne 13, 3) := by decide +kernel
theorem dX5_storyAt_71 : decode cX5_storyAt 71 = .ok (.aload_n 0, 1) := by decide +kernel
theorem dX5_storyAt_72 : decode cX5_storyAt 72 = .ok (.getfield 35, 3) := by decide +kernel
theorem dX5_storyAt_75 : decode cX5_storyAt 75 = .ok (.iload 4, 2) := by decide +kernel
theorem dX5_storyAt_77 : decode cX5_storyAt 77 = .ok (.iaload, 1) := by decide +kernel
theorem dX5_storyAt_78 : decode cX5_storyAt 78 = .ok (.goto 4, 3) := by decide +kernel
theorem dX5_storyAt_81 : decode cX5_storyAt 81 = .ok (.iload_n 2, 1) := by decide +kernel
theorem dX5_storyAt_82 : decode cX5_storyAt 82 = .ok (.istore_n 2, 1) := by decide +kernel
theorem dX5_storyAt_83 : decode cX5_storyAt 83 = .ok (.iload_n 3, 1) := by decide +kernel
theorem dX5_storyAt_84 : decode cX5_storyAt 84 = .ok (.iload 5, 2) := by decide +kernel
theorem dX5_storyAt_86 : decode cX5_storyAt 86 = .ok (.ifCond .eq 7, 3) := by decide +kernel
theorem dX5_storyAt_89 : decode cX5_storyAt 89 = .ok (.iconst 1, 1) := by decide +kernel
theorem dX5_storyAt_90 : decode cX5_storyAt 90 = .ok (.goto 4, 3) := by decide +kernel
theorem dX5_storyAt_93 : decode cX5_storyAt 93 = .ok (.iconst 0, 1) := by decide +kernel
theorem dX5_storyAt_94 : decode cX5_storyAt 94 = .ok (.iadd, 1) := by decide +kernel
theorem dX5_storyAt_95 : decode cX5_storyAt 95 = .ok (.istore_n 3, 1) := by decide +kernel
theorem dX5_storyAt_96 : decode cX5_storyAt 96 = .ok (.iinc 4 1, 3) := by decide +kernel
theorem dX5_storyAt_99 : decode cX5_storyAt 99 = .ok (.goto (-60), 3) := by decide +kernel
theorem dX5_storyAt_102 : decode cX5_storyAt 102 = .ok (.iload_n 2, 1) := by decide +kernel
theorem dX5_storyAt_103 : decode cX5_storyAt 103 = .ok (.ireturn, 1) := by decide +kernel
set_option maxRecDepth 20000 in
theorem ggX5_earliest_X5_isLine : GoodIn wsX5_earliest wsX5_isLine := goodIn_r _ [10, 11, 12, 13, 9, 14, 20, 21, 22, 23, 24, 25, 26, 27, 28, 29, 30, 31, 32, 33, 34, 35, 36, 37, 38, 39, 40] (by decide +kernel) (by decide +kernel)
set_option maxRecDepth 20000 in
theorem gX5_earliest_X5_isLine : GoodIn wsX5_earliest (wsV RX5 92 RX5 yX5_isLine wsX5_isLine) := goodIn_app (goodIn_of _ (by decide +kernel)) ggX5_earliest_X5_isLine
set_option maxRecDepth 20000 in
theorem ggX5_earliest_X5_goes : GoodIn wsX5_earliest wsX5_goes := goodIn_r _ [18, 19, 20, 21, 22, 23, 24, 25, 26, 27, 28, 29, 30, 31, 32, 33, 34, 35, 36, 37, 38, 39, 40] (by decide +kernel) (by decide +kernel)
set_option maxRecDepth 20000 in
theorem gX5_earliest_X5_goes : GoodIn wsX5_earliest (wsV RX5 79 RX5 yX5_goes wsX5_goes) := goodIn_app (goodIn_of _ (by decide +kernel)) ggX5_earliest_X5_goes
theorem dX5_earliest_0 : decode cX5_earliest 0 = .ok (.aload_n 0, 1) := by decide +kernel
theorem dX5_earliest_1 : decode cX5_earliest 1 = .ok (.aload_n 0, 1) := by decide +kernel
theorem dX5_earliest_2 : decode cX5_earliest 2 = .ok (.iload_n 1, 1) := by decide +kernel
theorem dX5_earliest_3 : decode cX5_earliest 3 = .ok (.invokevirtual 92, 3) := by decide +kernel
theorem dX5_earliest_6 : decode cX5_earliest 6 = .ok (.ifCond .eq 7, 3) := by decide +kernel
theorem dX5_earliest_9 : decode cX5_earliest 9 = .ok (.iconst 0, 1) := by decide +kernel
theorem dX5_earliest_10 : decode cX5_earliest 10 = .ok (.goto 4, 3) := by decide +kernel
theorem dX5_earliest_13 : decode cX5_earliest 13 = .ok (.iconst 1, 1) := by decide +kernel
theorem dX5_earliest_14 : decode cX5_earliest 14 = .ok (.invokevirtual 79, 3) := by decide +kernel
theorem dX5_earliest_17 : decode cX5_earliest 17 = .ok (.ifCond .ne 5, 3) := by decide +kernel
theorem dX5_earliest_20 : decode cX5_earliest 20 = .ok (.iconst 0, 1) := by decide +kernel
theorem dX5_earliest_21 : decode cX5_earliest 21 = .ok (.ireturn, 1) := by decide +kernel
theorem dX5_earliest_22 : decode cX5_earliest 22 = .ok (.aload_n 0, 1) := by decide +kernel
theorem dX5_earliest_23 : decode cX5_earliest 23 = .ok (.getfield 7, 3) := by decide +kernel
theorem dX5_earliest_26 : decode cX5_earliest 26 = .ok (.aload_n 0, 1) := by decide +kernel
theorem dX5_earliest_27 : decode cX5_earliest 27 = .ok (.getfield 16, 3) := by decide +kernel
theorem dX5_earliest_30 : decode cX5_earliest 30 = .ok (.iload_n 1, 1) := by decide +kernel
theorem dX5_earliest_31 : decode cX5_earliest 31 = .ok (.iaload, 1) := by decide +kernel
theorem dX5_earliest_32 : decode cX5_earliest 32 = .ok (.iaload, 1) := by decide +kernel
theorem dX5_earliest_33 : decode cX5_earliest 33 = .ok (.istore_n 2, 1) := by decide +kernel
theorem dX5_earliest_34 : decode cX5_earliest 34 = .ok (.iload_n 2, 1) := by decide +kernel
theorem dX5_earliest_35 : decode cX5_earliest 35 = .ok (.ldc 63, 2) := by decide +kernel
theorem dX5_earliest_37 : decode cX5_earliest 37 = .ok (.if_icmp .ne 8, 3) := by decide +kernel
theorem dX5_earliest_40 : decode cX5_earliest 40 = .ok (.ldc 112, 2) := by decide +kernel
theorem dX5_earliest_42 : decode cX5_earliest 42 = .ok (.goto 11, 3) := by decide +kernel
theorem dX5_earliest_45 : decode cX5_earliest 45 = .ok (.aload_n 0, 1) := by decide +kernel
theorem dX5_earliest_46 : decode cX5_earliest 46 = .ok (.getfield 19, 3) := by decide +kernel
theorem dX5_earliest_49 : decode cX5_earliest 49 = .ok (.iload_n 1, 1) := by decide +kernel
theorem dX5_earliest_50 : decode cX5_earliest 50 = .ok (.iaload, 1) := by decide +kernel
theorem dX5_earliest_51 : decode cX5_earliest 51 = .ok (.iload_n 2, 1) := by decide +kernel
theorem dX5_earliest_52 : decode cX5_earliest 52 = .ok (.isub, 1) := by decide +kernel
theorem dX5_earliest_53 : decode cX5_earliest 53 = .ok (.ireturn, 1) := by decide +kernel
set_option maxRecDepth 20000 in
theorem ggX5_firstOf_X5_isService : GoodIn wsX5_firstOf wsX5_isService := goodIn_r _ [7, 8, 9, 6, 10] (by decide +kernel) (by decide +kernel)
set_option maxRecDepth 20000 in
theorem gX5_firstOf_X5_isService : GoodIn wsX5_firstOf (va_wsS RX5 86 yX5_isService wsX5_isService) := goodIn_app (goodIn_of _ (by decide +kernel)) ggX5_firstOf_X5_isService
set_option maxRecDepth 20000 in
theorem ggX5_firstOf_X5_goes : GoodIn wsX5_firstOf wsX5_goes := goodIn_r _ [14, 15, 28, 29, 30, 31, 32, 33, 34, 35, 36, 37, 38, 39, 40, 41, 42, 43, 44, 45, 46, 47, 48] (by decide +kernel) (by decide +kernel)
set_option maxRecDepth 20000 in
theorem gX5_firstOf_X5_goes : GoodIn wsX5_firstOf (wsV RX5 79 RX5 yX5_goes wsX5_goes) := goodIn_app (goodIn_of _ (by decide +kernel)) ggX5_firstOf_X5_goes
set_option maxRecDepth 20000 in
theorem ggX5_firstOf_X5_laysOrder : GoodIn wsX5_firstOf wsX5_laysOrder := goodIn_r _ [19, 1, 3, 20, 21, 22, 6, 23, 24, 25, 26, 27, 28, 29, 30, 31, 32, 33, 34, 35, 36, 37, 38, 39, 40, 41, 42, 43, 44, 45, 46, 47, 48] (by decide +kernel) (by decide +kernel)
set_option maxRecDepth 20000 in
theorem gX5_firstOf_X5_laysOrder : GoodIn wsX5_firstOf (wsV RX5 99 RX5 yX5_laysOrder wsX5_laysOrder) := goodIn_app (goodIn_of _ (by decide +kernel)) ggX5_firstOf_X5_laysOrder
theorem dX5_firstOf_0 : decode cX5_firstOf 0 = .ok (.aload_n 0, 1) := by decide +kernel
theorem dX5_firstOf_1 : decode cX5_firstOf 1 = .ok (.iload_n 1, 1) := by decide +kernel
theorem dX5_firstOf_2 : decode cX5_firstOf 2 = .ok (.invokestatic 86, 3) := by decide +kernel
theorem dX5_firstOf_5 : decode cX5_firstOf 5 = .ok (.ifCond .eq 7, 3) := by decide +kernel
theorem dX5_firstOf_8 : decode cX5_firstOf 8 = .ok (.iconst 0, 1) := by decide +kernel
theorem dX5_firstOf_9 : decode cX5_firstOf 9 = .ok (.goto 4, 3) := by decide +kernel
theorem dX5_firstOf_12 : decode cX5_firstOf 12 = .ok (.iconst 1, 1) := by decide +kernel
theorem dX5_firstOf_13 : decode cX5_firstOf 13 = .ok (.invokevirtual 79, 3) := by decide +kernel
theorem dX5_firstOf_16 : decode cX5_firstOf 16 = .ok (.ifCond .ne 5, 3) := by decide +kernel
theorem dX5_firstOf_19 : decode cX5_firstOf 19 = .ok (.iconst 0, 1) := by decide +kernel
theorem dX5_firstOf_20 : decode cX5_firstOf 20 = .ok (.ireturn, 1) := by decide +kernel
theorem dX5_firstOf_21 : decode cX5_firstOf 21 = .ok (.aload_n 0, 1) := by decide +kernel
theorem dX5_firstOf_22 : decode cX5_firstOf 22 = .ok (.invokevirtual 99, 3) := by decide +kernel
theorem dX5_firstOf_25 : decode cX5_firstOf 25 = .ok (.iconst (-1), 1) := by decide +kernel
theorem dX5_firstOf_26 : decode cX5_firstOf 26 = .ok (.istore_n 2, 1) := by decide +kernel
theorem dX5_firstOf_27 : decode cX5_firstOf 27 = .ok (.aload_n 0, 1) := by decide +kernel
theorem dX5_firstOf_28 : decode cX5_firstOf 28 = .ok (.getfield 89, 3) := by decide +kernel
theorem dX5_firstOf_31 : decode cX5_firstOf 31 = .ok (.iconst 1, 1) := by decide +kernel
theorem dX5_firstOf_32 : decode cX5_firstOf 32 = .ok (.isub, 1) := by decide +kernel
theorem dX5_firstOf_33 : decode cX5_firstOf 33 = .ok (.istore_n 3, 1) := by decide +kernel
theorem dX5_firstOf_34 : decode cX5_firstOf 34 = .ok (.iload_n 3, 1) := by decide +kernel
theorem dX5_firstOf_35 : decode cX5_firstOf 35 = .ok (.ifCond .lt 35, 3) := by decide +kernel
theorem dX5_firstOf_38 : decode cX5_firstOf 38 = .ok (.aload_n 0, 1) := by decide +kernel
theorem dX5_firstOf_39 : decode cX5_firstOf 39 = .ok (.getfield 22, 3) := by decide +kernel
theorem dX5_firstOf_42 : decode cX5_firstOf 42 = .ok (.aload_n 0, 1) := by decide +kernel
theorem dX5_firstOf_43 : decode cX5_firstOf 43 = .ok (.getfield 35, 3) := by decide +kernel
theorem dX5_firstOf_46 : decode cX5_firstOf 46 = .ok (.iload_n 3, 1) := by decide +kernel
theorem dX5_firstOf_47 : decode cX5_firstOf 47 = .ok (.iaload, 1) := by decide +kernel
theorem dX5_firstOf_48 : decode cX5_firstOf 48 = .ok (.iaload, 1) := by decide +kernel
theorem dX5_firstOf_49 : decode cX5_firstOf 49 = .ok (.iload_n 1, 1) := by decide +kernel
theorem dX5_firstOf_50 : decode cX5_firstOf 50 = .ok (.if_icmp .ne 12, 3) := by decide +kernel
theorem dX5_firstOf_53 : decode cX5_firstOf 53 = .ok (.aload_n 0, 1) := by decide +kernel
theorem dX5_firstOf_54 : decode cX5_firstOf 54 = .ok (.getfield 35, 3) := by decide +kernel
theorem dX5_firstOf_57 : decode cX5_firstOf 57 = .ok (.iload_n 3, 1) := by decide +kernel
theorem dX5_firstOf_58 : decode cX5_firstOf 58 = .ok (.iaload, 1) := by decide +kernel
theorem dX5_firstOf_59 : decode cX5_firstOf 59 = .ok (.goto 4, 3) := by decide +kernel
theorem dX5_firstOf_62 : decode cX5_firstOf 62 = .ok (.iload_n 2, 1) := by decide +kernel
theorem dX5_firstOf_63 : decode cX5_firstOf 63 = .ok (.istore_n 2, 1) := by decide +kernel
theorem dX5_firstOf_64 : decode cX5_firstOf 64 = .ok (.iinc 3 (-1), 3) := by decide +kernel
theorem dX5_firstOf_67 : decode cX5_firstOf 67 = .ok (.goto (-33), 3) := by decide +kernel
theorem dX5_firstOf_70 : decode cX5_firstOf 70 = .ok (.iload_n 2, 1) := by decide +kernel
theorem dX5_firstOf_71 : decode cX5_firstOf 71 = .ok (.ireturn, 1) := by decide +kernel
set_option maxRecDepth 20000 in
theorem ggX5_measure_X5_isService : GoodIn wsX5_measure wsX5_isService := goodIn_r _ [9, 10, 11, 8, 12] (by decide +kernel) (by decide +kernel)
set_option maxRecDepth 20000 in
theorem gX5_measure_X5_isService : GoodIn wsX5_measure (va_wsS RX5 86 yX5_isService wsX5_isService) := goodIn_app (goodIn_of _ (by decide +kernel)) ggX5_measure_X5_isService
set_option maxRecDepth 20000 in
theorem ggX5_measure_X5_isTime : GoodIn wsX5_measure wsX5_isTime := goodIn_r _ [15, 10, 11, 8, 12] (by decide +kernel) (by decide +kernel)
set_option maxRecDepth 20000 in
theorem gX5_measure_X5_isTime : GoodIn wsX5_measure (va_wsS RX5 76 yX5_isTime wsX5_isTime) := goodIn_app (goodIn_of _ (by decide +kernel)) ggX5_measure_X5_isTime
set_option maxRecDepth 20000 in
theorem ggX5_measure_X5_isIn : GoodIn wsX5_measure wsX5_isIn := goodIn_r _ [12] (by decide +kernel) (by decide +kernel)
set_option maxRecDepth 20000 in
theorem gX5_measure_X5_isIn : GoodIn wsX5_measure (va_wsS RX5 68 yX5_isIn wsX5_isIn) := goodIn_app (goodIn_of _ (by decide +kernel)) ggX5_measure_X5_isIn
set_option maxRecDepth 20000 in
theorem ggX5_measure_X5_goes : GoodIn wsX5_measure wsX5_goes := goodIn_r _ [19, 20, 21, 22, 23, 24, 25, 26, 27, 28, 29, 30, 31, 32, 33, 34, 35, 36, 37, 38, 39, 40, 41] (by decide +kernel) (by decide +kernel)
set_option maxRecDepth 20000 in
theorem gX5_measure_X5_goes : GoodIn wsX5_measure (wsV RX5 79 RX5 yX5_goes wsX5_goes) := goodIn_app (goodIn_of _ (by decide +kernel)) ggX5_measure_X5_goes
theorem dX5_measure_0 : decode cX5_measure 0 = .ok (.iload_n 1, 1) := by decide +kernel
theorem dX5_measure_1 : decode cX5_measure 1 = .ok (.invokestatic 86, 3) := by decide +kernel
theorem dX5_measure_4 : decode cX5_measure 4 = .ok (.ifCond .eq 36, 3) := by decide +kernel
theorem dX5_measure_7 : decode cX5_measure 7 = .ok (.iload_n 2, 1) := by decide +kernel
theorem dX5_measure_8 : decode cX5_measure 8 = .ok (.invokestatic 76, 3) := by decide +kernel
theorem dX5_measure_11 : decode cX5_measure 11 = .ok (.ifCond .eq 29, 3) := by decide +kernel
theorem dX5_measure_14 : decode cX5_measure 14 = .ok (.iload_n 3, 1) := by decide +kernel
theorem dX5_measure_15 : decode cX5_measure 15 = .ok (.iload_n 2, 1) := by decide +kernel
theorem dX5_measure_16 : decode cX5_measure 16 = .ok (.sipush 10000, 3) := by decide +kernel
theorem dX5_measure_19 : decode cX5_measure 19 = .ok (.invokestatic 68, 3) := by decide +kernel
theorem dX5_measure_22 : decode cX5_measure 22 = .ok (.ifCond .eq 18, 3) := by decide +kernel
theorem dX5_measure_25 : decode cX5_measure 25 = .ok (.iload 4, 2) := by decide +kernel
theorem dX5_measure_27 : decode cX5_measure 27 = .ok (.iconst 0, 1) := by decide +kernel
theorem dX5_measure_28 : decode cX5_measure 28 = .ok (.bipush 100, 2) := by decide +kernel
theorem dX5_measure_30 : decode cX5_measure 30 = .ok (.invokestatic 68, 3) := by decide +kernel
theorem dX5_measure_33 : decode cX5_measure 33 = .ok (.ifCond .eq 7, 3) := by decide +kernel
theorem dX5_measure_36 : decode cX5_measure 36 = .ok (.iconst 1, 1) := by decide +kernel
theorem dX5_measure_37 : decode cX5_measure 37 = .ok (.goto 4, 3) := by decide +kernel
theorem dX5_measure_40 : decode cX5_measure 40 = .ok (.iconst 0, 1) := by decide +kernel
theorem dX5_measure_41 : decode cX5_measure 41 = .ok (.istore 5, 2) := by decide +kernel
theorem dX5_measure_43 : decode cX5_measure 43 = .ok (.aload_n 0, 1) := by decide +kernel
theorem dX5_measure_44 : decode cX5_measure 44 = .ok (.iload 5, 2) := by decide +kernel
theorem dX5_measure_46 : decode cX5_measure 46 = .ok (.ifCond .ne 7, 3) := by decide +kernel
theorem dX5_measure_49 : decode cX5_measure 49 = .ok (.iconst 1, 1) := by decide +kernel
theorem dX5_measure_50 : decode cX5_measure 50 = .ok (.goto 17, 3) := by decide +kernel
theorem dX5_measure_53 : decode cX5_measure 53 = .ok (.aload_n 0, 1) := by decide +kernel
theorem dX5_measure_54 : decode cX5_measure 54 = .ok (.getfield 113, 3) := by decide +kernel
theorem dX5_measure_57 : decode cX5_measure 57 = .ok (.bipush 40, 2) := by decide +kernel
theorem dX5_measure_59 : decode cX5_measure 59 = .ok (.if_icmp .ne 7, 3) := by decide +kernel
theorem dX5_measure_62 : decode cX5_measure 62 = .ok (.iconst 2, 1) := by decide +kernel
theorem dX5_measure_63 : decode cX5_measure 63 = .ok (.goto 4, 3) := by decide +kernel
theorem dX5_measure_66 : decode cX5_measure 66 = .ok (.iconst 0, 1) := by decide +kernel
theorem dX5_measure_67 : decode cX5_measure 67 = .ok (.invokevirtual 79, 3) := by decide +kernel
theorem dX5_measure_70 : decode cX5_measure 70 = .ok (.ifCond .ne 5, 3) := by decide +kernel
theorem dX5_measure_73 : decode cX5_measure 73 = .ok (.iconst 0, 1) := by decide +kernel
theorem dX5_measure_74 : decode cX5_measure 74 = .ok (.ireturn, 1) := by decide +kernel
theorem dX5_measure_75 : decode cX5_measure 75 = .ok (.aload_n 0, 1) := by decide +kernel
theorem dX5_measure_76 : decode cX5_measure 76 = .ok (.getfield 45, 3) := by decide +kernel
theorem dX5_measure_79 : decode cX5_measure 79 = .ok (.aload_n 0, 1) := by decide +kernel
theorem dX5_measure_80 : decode cX5_measure 80 = .ok (.getfield 113, 3) := by decide +kernel
theorem dX5_measure_83 : decode cX5_measure 83 = .ok (.iload_n 1, 1) := by decide +kernel
theorem dX5_measure_84 : decode cX5_measure 84 = .ok (.iastore, 1) := by decide +kernel
theorem dX5_measure_85 : decode cX5_measure 85 = .ok (.aload_n 0, 1) := by decide +kernel
theorem dX5_measure_86 : decode cX5_measure 86 = .ok (.getfield 48, 3) := by decide +kernel
theorem dX5_measure_89 : decode cX5_measure 89 = .ok (.aload_n 0, 1) := by decide +kernel
theorem dX5_measure_90 : decode cX5_measure 90 = .ok (.getfield 113, 3) := by decide +kernel
theorem dX5_measure_93 : decode cX5_measure 93 = .ok (.iload_n 2, 1) := by decide +kernel
theorem dX5_measure_94 : decode cX5_measure 94 = .ok (.iastore, 1) := by decide +kernel
theorem dX5_measure_95 : decode cX5_measure 95 = .ok (.aload_n 0, 1) := by decide +kernel
theorem dX5_measure_96 : decode cX5_measure 96 = .ok (.getfield 51, 3) := by decide +kernel
theorem dX5_measure_99 : decode cX5_measure 99 = .ok (.aload_n 0, 1) := by decide +kernel
theorem dX5_measure_100 : decode cX5_measure 100 = .ok (.getfield 113, 3) := by decide +kernel
theorem dX5_measure_103 : decode cX5_measure 103 = .ok (.iload_n 3, 1) := by decide +kernel
theorem dX5_measure_104 : decode cX5_measure 104 = .ok (.iastore, 1) := by decide +kernel
theorem dX5_measure_105 : decode cX5_measure 105 = .ok (.aload_n 0, 1) := by decide +kernel
theorem dX5_measure_106 : decode cX5_measure 106 = .ok (.getfield 54, 3) := by decide +kernel
theorem dX5_measure_109 : decode cX5_measure 109 = .ok (.aload_n 0, 1) := by decide +kernel
theorem dX5_measure_110 : decode cX5_measure 110 = .ok (.getfield 113, 3) := by decide +kernel
theorem dX5_measure_113 : decode cX5_measure 113 = .ok (.iload 4, 2) := by decide +kernel
theorem dX5_measure_115 : decode cX5_measure 115 = .ok (.iastore, 1) := by decide +kernel
theorem dX5_measure_116 : decode cX5_measure 116 = .ok (.aload_n 0, 1) := by decide +kernel
theorem dX5_measure_117 : decode cX5_measure 117 = .ok (.dup, 1) := by decide +kernel
theorem dX5_measure_118 : decode cX5_measure 118 = .ok (.getfield 113, 3) := by decide +kernel
theorem dX5_measure_121 : decode cX5_measure 121 = .ok (.iconst 1, 1) := by decide +kernel
theorem dX5_measure_122 : decode cX5_measure 122 = .ok (.iadd, 1) := by decide +kernel
theorem dX5_measure_123 : decode cX5_measure 123 = .ok (.putfield 113, 3) := by decide +kernel
theorem dX5_measure_126 : decode cX5_measure 126 = .ok (.aload_n 0, 1) := by decide +kernel
theorem dX5_measure_127 : decode cX5_measure 127 = .ok (.getfield 113, 3) := by decide +kernel
theorem dX5_measure_130 : decode cX5_measure 130 = .ok (.iconst 1, 1) := by decide +kernel
theorem dX5_measure_131 : decode cX5_measure 131 = .ok (.isub, 1) := by decide +kernel
theorem dX5_measure_132 : decode cX5_measure 132 = .ok (.ireturn, 1) := by decide +kernel
set_option maxRecDepth 20000 in
theorem ggX5_percent_X5_isIn : GoodIn wsX5_percent wsX5_isIn := goodIn_r _ [9] (by decide +kernel) (by decide +kernel)
set_option maxRecDepth 20000 in
theorem gX5_percent_X5_isIn : GoodIn wsX5_percent (va_wsS RX5 68 yX5_isIn wsX5_isIn) := goodIn_app (goodIn_of _ (by decide +kernel)) ggX5_percent_X5_isIn
theorem dX5_percent_0 : decode cX5_percent 0 = .ok (.iconst 0, 1) := by decide +kernel
theorem dX5_percent_1 : decode cX5_percent 1 = .ok (.istore_n 3, 1) := by decide +kernel
theorem dX5_percent_2 : decode cX5_percent 2 = .ok (.iconst 0, 1) := by decide +kernel
theorem dX5_percent_3 : decode cX5_percent 3 = .ok (.istore 4, 2) := by decide +kernel
theorem dX5_percent_5 : decode cX5_percent 5 = .ok (.iload 4, 2) := by decide +kernel
theorem dX5_percent_7 : decode cX5_percent 7 = .ok (.aload_n 0, 1) := by decide +kernel
theorem dX5_percent_8 : decode cX5_percent 8 = .ok (.getfield 113, 3) := by decide +kernel
theorem dX5_percent_11 : decode cX5_percent 11 = .ok (.if_icmp .ge 81, 3) := by decide +kernel
theorem dX5_percent_14 : decode cX5_percent 14 = .ok (.iload_n 1, 1) := by decide +kernel
theorem dX5_percent_15 : decode cX5_percent 15 = .ok (.iconst (-1), 1) := by decide +kernel
theorem dX5_percent_16 : decode cX5_percent 16 = .ok (.if_icmp .eq 14, 3) := by decide +kernel
theorem dX5_percent_19 : decode cX5_percent 19 = .ok (.aload_n 0, 1) := by decide +kernel
theorem dX5_percent_20 : decode cX5_percent 20 = .ok (.getfield 45, 3) := by decide +kernel
theorem dX5_percent_23 : decode cX5_percent 23 = .ok (.iload 4, 2) := by decide +kernel
theorem dX5_percent_25 : decode cX5_percent 25 = .ok (.iaload, 1) := by decide +kernel
theorem dX5_percent_26 : decode cX5_percent 26 = .ok (.iload_n 1, 1) := by decide +kernel
theorem dX5_percent_27 : decode cX5_percent 27 = .ok (.if_icmp .ne 28, 3) := by decide +kernel
theorem dX5_percent_30 : decode cX5_percent 30 = .ok (.iload_n 2, 1) := by decide +kernel
theorem dX5_percent_31 : decode cX5_percent 31 = .ok (.aload_n 0, 1) := by decide +kernel
theorem dX5_percent_32 : decode cX5_percent 32 = .ok (.getfield 48, 3) := by decide +kernel
theorem dX5_percent_35 : decode cX5_percent 35 = .ok (.iload 4, 2) := by decide +kernel
theorem dX5_percent_37 : decode cX5_percent 37 = .ok (.iaload, 1) := by decide +kernel
theorem dX5_percent_38 : decode cX5_percent 38 = .ok (.aload_n 0, 1) := by decide +kernel
theorem dX5_percent_39 : decode cX5_percent 39 = .ok (.getfield 51, 3) := by decide +kernel
theorem dX5_percent_42 : decode cX5_percent 42 = .ok (.iload 4, 2) := by decide +kernel
theorem dX5_percent_44 : decode cX5_percent 44 = .ok (.iaload, 1) := by decide +kernel
theorem dX5_percent_45 : decode cX5_percent 45 = .ok (.invokestatic 68, 3) := by decide +kernel
theorem dX5_percent_48 : decode cX5_percent 48 = .ok (.ifCond .eq 7, 3) := by decide +kernel
theorem dX5_percent_51 : decode cX5_percent 51 = .ok (.iconst 1, 1) := by decide +kernel
theorem dX5_percent_52 : decode cX5_percent 52 = .ok (.goto 4, 3) := by decide +kernel
theorem dX5_percent_55 : decode cX5_percent 55 = .ok (.iconst 0, 1) := by decide +kernel
theorem dX5_percent_56 : decode cX5_percent 56 = .ok (.istore 5, 2) := by decide +kernel
theorem dX5_percent_58 : decode cX5_percent 58 = .ok (.iload 5, 2) := by decide +kernel
theorem dX5_percent_60 : decode cX5_percent 60 = .ok (.ifCond .eq 24, 3) := by decide +kernel
theorem dX5_percent_63 : decode cX5_percent 63 = .ok (.aload_n 0, 1) := by decide +kernel
theorem dX5_percent_64 : decode cX5_percent 64 = .ok (.getfield 54, 3) := by decide +kernel
theorem dX5_percent_67 : decode cX5_percent 67 = .ok (.iload 4, 2) := by decide +kernel
theorem dX5_percent_69 : decode cX5_percent 69 = .ok (.iaload, 1) := by decide +kernel
theorem dX5_percent_70 : decode cX5_percent 70 = .ok (.iload_n 3, 1) := by decide +kernel
theorem dX5_percent_71 : decode cX5_percent 71 = .ok (.if_icmp .le 13, 3) := by decide +kernel
theorem dX5_percent_74 : decode cX5_percent 74 = .ok (.aload_n 0, 1) := by decide +kernel
theorem dX5_percent_75 : decode cX5_percent 75 = .ok (.getfield 54, 3) := by decide +kernel
theorem dX5_percent_78 : decode cX5_percent 78 = .ok (.iload 4, 2) := by decide +kernel
theorem dX5_percent_80 : decode cX5_percent 80 = .ok (.iaload, 1) := by decide +kernel
theorem dX5_percent_81 : decode cX5_percent 81 = .ok (.goto 4, 3) := by decide +kernel
theorem dX5_percent_84 : decode cX5_percent 84 = .ok (.iload_n 3, 1) := by decide +kernel
theorem dX5_percent_85 : decode cX5_percent 85 = .ok (.istore_n 3, 1) := by decide +kernel
theorem dX5_percent_86 : decode cX5_percent 86 = .ok (.iinc 4 1, 3) := by decide +kernel
theorem dX5_percent_89 : decode cX5_percent 89 = .ok (.goto (-84), 3) := by decide +kernel
theorem dX5_percent_92 : decode cX5_percent 92 = .ok (.iload_n 3, 1) := by decide +kernel
theorem dX5_percent_93 : decode cX5_percent 93 = .ok (.ireturn, 1) := by decide +kernel
theorem dX5_change_0 : decode cX5_change 0 = .ok (.sipush 10001, 3) := by decide +kernel
theorem dX5_change_3 : decode cX5_change 3 = .ok (.istore_n 2, 1) := by decide +kernel
theorem dX5_change_4 : decode cX5_change 4 = .ok (.iconst 0, 1) := by decide +kernel
theorem dX5_change_5 : decode cX5_change 5 = .ok (.istore_n 3, 1) := by decide +kernel
theorem dX5_change_6 : decode cX5_change 6 = .ok (.iload_n 3, 1) := by decide +kernel
theorem dX5_change_7 : decode cX5_change 7 = .ok (.aload_n 0, 1) := by decide +kernel
theorem dX5_change_8 : decode cX5_change 8 = .ok (.getfield 113, 3) := by decide +kernel
theorem dX5_change_11 : decode cX5_change 11 = .ok (.if_icmp .ge 75, 3) := by decide +kernel
theorem dX5_change_14 : decode cX5_change 14 = .ok (.aload_n 0, 1) := by decide +kernel
theorem dX5_change_15 : decode cX5_change 15 = .ok (.getfield 48, 3) := by decide +kernel
theorem dX5_change_18 : decode cX5_change 18 = .ok (.iload_n 3, 1) := by decide +kernel
theorem dX5_change_19 : decode cX5_change 19 = .ok (.iaload, 1) := by decide +kernel
theorem dX5_change_20 : decode cX5_change 20 = .ok (.iload_n 1, 1) := by decide +kernel
theorem dX5_change_21 : decode cX5_change 21 = .ok (.if_icmp .le 22, 3) := by decide +kernel
theorem dX5_change_24 : decode cX5_change 24 = .ok (.aload_n 0, 1) := by decide +kernel
theorem dX5_change_25 : decode cX5_change 25 = .ok (.getfield 48, 3) := by decide +kernel
theorem dX5_change_28 : decode cX5_change 28 = .ok (.iload_n 3, 1) := by decide +kernel
theorem dX5_change_29 : decode cX5_change 29 = .ok (.iaload, 1) := by decide +kernel
theorem dX5_change_30 : decode cX5_change 30 = .ok (.iload_n 2, 1) := by decide +kernel
theorem dX5_change_31 : decode cX5_change 31 = .ok (.if_icmp .ge 12, 3) := by decide +kernel
theorem dX5_change_34 : decode cX5_change 34 = .ok (.aload_n 0, 1) := by decide +kernel
theorem dX5_change_35 : decode cX5_change 35 = .ok (.getfield 48, 3) := by decide +kernel
theorem dX5_change_38 : decode cX5_change 38 = .ok (.iload_n 3, 1) := by decide +kernel
theorem dX5_change_39 : decode cX5_change 39 = .ok (.iaload, 1) := by decide +kernel
theorem dX5_change_40 : decode cX5_change 40 = .ok (.goto 4, 3) := by decide +kernel
theorem dX5_change_43 : decode cX5_change 43 = .ok (.iload_n 2, 1) := by decide +kernel
theorem dX5_change_44 : decode cX5_change 44 = .ok (.istore_n 2, 1) := by decide +kernel
theorem dX5_change_45 : decode cX5_change 45 = .ok (.aload_n 0, 1) := by decide +kernel
theorem dX5_change_46 : decode cX5_change 46 = .ok (.getfield 51, 3) := by decide +kernel
theorem dX5_change_49 : decode cX5_change 49 = .ok (.iload_n 3, 1) := by decide +kernel
theorem dX5_change_50 : decode cX5_change 50 = .ok (.iaload, 1) := by decide +kernel
theorem dX5_change_51 : decode cX5_change 51 = .ok (.iload_n 1, 1) := by decide +kernel
theorem dX5_change_52 : decode cX5_change 52 = .ok (.if_icmp .lt 26, 3) := by decide +kernel
theorem dX5_change_55 : decode cX5_change 55 = .ok (.aload_n 0, 1) := by decide +kernel
theorem dX5_change_56 : decode cX5_change 56 = .ok (.getfield 51, 3) := by decide +kernel
theorem dX5_change_59 : decode cX5_change 59 = .ok (.iload_n 3, 1) := by decide +kernel
theorem dX5_change_60 : decode cX5_change 60 = .ok (.iaload, 1) := by decide +kernel
theorem dX5_change_61 : decode cX5_change 61 = .ok (.iconst 1, 1) := by decide +kernel
theorem dX5_change_62 : decode cX5_change 62 = .ok (.iadd, 1) := by decide +kernel
theorem dX5_change_63 : decode cX5_change 63 = .ok (.iload_n 2, 1) := by decide +kernel
theorem dX5_change_64 : decode cX5_change 64 = .ok (.if_icmp .ge 14, 3) := by decide +kernel
theorem dX5_change_67 : decode cX5_change 67 = .ok (.aload_n 0, 1) := by decide +kernel
theorem dX5_change_68 : decode cX5_change 68 = .ok (.getfield 51, 3) := by decide +kernel
theorem dX5_change_71 : decode cX5_change 71 = .ok (.iload_n 3, 1) := by decide +kernel
theorem dX5_change_72 : decode cX5_change 72 = .ok (.iaload, 1) := by decide +kernel
theorem dX5_change_73 : decode cX5_change 73 = .ok (.iconst 1, 1) := by decide +kernel
theorem dX5_change_74 : decode cX5_change 74 = .ok (.iadd, 1) := by decide +kernel
theorem dX5_change_75 : decode cX5_change 75 = .ok (.goto 4, 3) := by decide +kernel
theorem dX5_change_78 : decode cX5_change 78 = .ok (.iload_n 2, 1) := by decide +kernel
theorem dX5_change_79 : decode cX5_change 79 = .ok (.istore_n 2, 1) := by decide +kernel
theorem dX5_change_80 : decode cX5_change 80 = .ok (.iinc 3 1, 3) := by decide +kernel
theorem dX5_change_83 : decode cX5_change 83 = .ok (.goto (-77), 3) := by decide +kernel
theorem dX5_change_86 : decode cX5_change 86 = .ok (.iload_n 2, 1) := by decide +kernel
theorem dX5_change_87 : decode cX5_change 87 = .ok (.ireturn, 1) := by decide +kernel
set_option maxRecDepth 20000 in
theorem ggX5_impact_X5_isService : GoodIn wsX5_impact wsX5_isService := goodIn_r _ [4, 5, 6, 3, 7] (by decide +kernel) (by decide +kernel)
set_option maxRecDepth 20000 in
theorem gX5_impact_X5_isService : GoodIn wsX5_impact (va_wsS RX5 86 yX5_isService wsX5_isService) := goodIn_app (goodIn_of _ (by decide +kernel)) ggX5_impact_X5_isService
set_option maxRecDepth 20000 in
theorem ggX5_impact_X5_goes : GoodIn wsX5_impact wsX5_goes := goodIn_r _ [11, 12, 26, 27, 28, 29, 30, 31, 32, 33, 34, 35, 36, 37, 38, 39, 40, 41, 42, 43, 44, 45, 46] (by decide +kernel) (by decide +kernel)
set_option maxRecDepth 20000 in
theorem gX5_impact_X5_goes : GoodIn wsX5_impact (wsV RX5 79 RX5 yX5_goes wsX5_goes) := goodIn_app (goodIn_of _ (by decide +kernel)) ggX5_impact_X5_goes
set_option maxRecDepth 20000 in
theorem ggX5_impact_X5_percent : GoodIn wsX5_impact wsX5_percent := goodIn_r _ [16, 17, 18, 19, 20, 21, 5, 6, 3, 7, 26, 27, 28, 29, 30, 31, 32, 33, 34, 35, 36, 37, 38, 39, 40, 41, 42, 43, 44, 45, 46] (by decide +kernel) (by decide +kernel)
set_option maxRecDepth 20000 in
theorem gX5_impact_X5_percent : GoodIn wsX5_impact (wsV RX5 116 RX5 yX5_percent wsX5_percent) := goodIn_app (goodIn_of _ (by decide +kernel)) ggX5_impact_X5_percent
set_option maxRecDepth 20000 in
theorem ggX5_impact_X5_change : GoodIn wsX5_impact wsX5_change := goodIn_r _ [25, 17, 19, 20, 26, 27, 28, 29, 30, 31, 32, 33, 34, 35, 36, 37, 38, 39, 40, 41, 42, 43, 44, 45, 46] (by decide +kernel) (by decide +kernel)
set_option maxRecDepth 20000 in
theorem gX5_impact_X5_change : GoodIn wsX5_impact (wsV RX5 120 RX5 yX5_change wsX5_change) := goodIn_app (goodIn_of _ (by decide +kernel)) ggX5_impact_X5_change
theorem dX5_impact_0 : decode cX5_impact 0 = .ok (.aload_n 0, 1) := by decide +kernel
theorem dX5_impact_1 : decode cX5_impact 1 = .ok (.iload_n 1, 1) := by decide +kernel
theorem dX5_impact_2 : decode cX5_impact 2 = .ok (.invokestatic 86, 3) := by decide +kernel
theorem dX5_impact_5 : decode cX5_impact 5 = .ok (.ifCond .eq 7, 3) := by decide +kernel
theorem dX5_impact_8 : decode cX5_impact 8 = .ok (.iconst 0, 1) := by decide +kernel
theorem dX5_impact_9 : decode cX5_impact 9 = .ok (.goto 4, 3) := by decide +kernel
theorem dX5_impact_12 : decode cX5_impact 12 = .ok (.iconst 1, 1) := by decide +kernel
theorem dX5_impact_13 : decode cX5_impact 13 = .ok (.invokevirtual 79, 3) := by decide +kernel
theorem dX5_impact_16 : decode cX5_impact 16 = .ok (.ifCond .ne 5, 3) := by decide +kernel
theorem dX5_impact_19 : decode cX5_impact 19 = .ok (.iconst 0, 1) := by decide +kernel
theorem dX5_impact_20 : decode cX5_impact 20 = .ok (.ireturn, 1) := by decide +kernel
theorem dX5_impact_21 : decode cX5_impact 21 = .ok (.iconst 0, 1) := by decide +kernel
theorem dX5_impact_22 : decode cX5_impact 22 = .ok (.istore_n 2, 1) := by decide +kernel
theorem dX5_impact_23 : decode cX5_impact 23 = .ok (.iconst 0, 1) := by decide +kernel
theorem dX5_impact_24 : decode cX5_impact 24 = .ok (.istore_n 3, 1) := by decide +kernel
theorem dX5_impact_25 : decode cX5_impact 25 = .ok (.iload_n 3, 1) := by decide +kernel
theorem dX5_impact_26 : decode cX5_impact 26 = .ok (.sipush 10000, 3) := by decide +kernel
theorem dX5_impact_29 : decode cX5_impact 29 = .ok (.if_icmp .gt 29, 3) := by decide +kernel
theorem dX5_impact_32 : decode cX5_impact 32 = .ok (.iload_n 2, 1) := by decide +kernel
theorem dX5_impact_33 : decode cX5_impact 33 = .ok (.aload_n 0, 1) := by decide +kernel
theorem dX5_impact_34 : decode cX5_impact 34 = .ok (.iload_n 1, 1) := by decide +kernel
theorem dX5_impact_35 : decode cX5_impact 35 = .ok (.iload_n 3, 1) := by decide +kernel
theorem dX5_impact_36 : decode cX5_impact 36 = .ok (.invokevirtual 116, 3) := by decide +kernel
theorem dX5_impact_39 : decode cX5_impact 39 = .ok (.aload_n 0, 1) := by decide +kernel
theorem dX5_impact_40 : decode cX5_impact 40 = .ok (.iload_n 3, 1) := by decide +kernel
theorem dX5_impact_41 : decode cX5_impact 41 = .ok (.invokevirtual 120, 3) := by decide +kernel
theorem dX5_impact_44 : decode cX5_impact 44 = .ok (.iload_n 3, 1) := by decide +kernel
theorem dX5_impact_45 : decode cX5_impact 45 = .ok (.isub, 1) := by decide +kernel
theorem dX5_impact_46 : decode cX5_impact 46 = .ok (.imul, 1) := by decide +kernel
theorem dX5_impact_47 : decode cX5_impact 47 = .ok (.iadd, 1) := by decide +kernel
theorem dX5_impact_48 : decode cX5_impact 48 = .ok (.istore_n 2, 1) := by decide +kernel
theorem dX5_impact_49 : decode cX5_impact 49 = .ok (.aload_n 0, 1) := by decide +kernel
theorem dX5_impact_50 : decode cX5_impact 50 = .ok (.iload_n 3, 1) := by decide +kernel
theorem dX5_impact_51 : decode cX5_impact 51 = .ok (.invokevirtual 120, 3) := by decide +kernel
theorem dX5_impact_54 : decode cX5_impact 54 = .ok (.istore_n 3, 1) := by decide +kernel
theorem dX5_impact_55 : decode cX5_impact 55 = .ok (.goto (-30), 3) := by decide +kernel
theorem dX5_impact_58 : decode cX5_impact 58 = .ok (.iload_n 2, 1) := by decide +kernel
theorem dX5_impact_59 : decode cX5_impact 59 = .ok (.ireturn, 1) := by decide +kernel
set_option maxRecDepth 20000 in
theorem ggX5_minutes_X5_percent : GoodIn wsX5_minutes wsX5_percent := goodIn_r _ [6, 7, 8, 9, 10, 11, 12, 13, 5, 14, 19, 20, 21, 22, 23, 24, 25, 26, 27, 28, 29, 30, 31, 32, 33, 34, 35, 36, 37, 38, 39] (by decide +kernel) (by decide +kernel)
set_option maxRecDepth 20000 in
theorem gX5_minutes_X5_percent : GoodIn wsX5_minutes (wsV RX5 116 RX5 yX5_percent wsX5_percent) := goodIn_app (goodIn_of _ (by decide +kernel)) ggX5_minutes_X5_percent
set_option maxRecDepth 20000 in
theorem ggX5_minutes_X5_change : GoodIn wsX5_minutes wsX5_change := goodIn_r _ [18, 7, 9, 10, 19, 20, 21, 22, 23, 24, 25, 26, 27, 28, 29, 30, 31, 32, 33, 34, 35, 36, 37, 38, 39] (by decide +kernel) (by decide +kernel)
set_option maxRecDepth 20000 in
theorem gX5_minutes_X5_change : GoodIn wsX5_minutes (wsV RX5 120 RX5 yX5_change wsX5_change) := goodIn_app (goodIn_of _ (by decide +kernel)) ggX5_minutes_X5_change
theorem dX5_minutes_0 : decode cX5_minutes 0 = .ok (.aload_n 0, 1) := by decide +kernel
theorem dX5_minutes_1 : decode cX5_minutes 1 = .ok (.iconst 0, 1) := by decide +kernel
theorem dX5_minutes_2 : decode cX5_minutes 2 = .ok (.putfield 64, 3) := by decide +kernel
theorem dX5_minutes_5 : decode cX5_minutes 5 = .ok (.iconst 0, 1) := by decide +kernel
theorem dX5_minutes_6 : decode cX5_minutes 6 = .ok (.istore_n 1, 1) := by decide +kernel
theorem dX5_minutes_7 : decode cX5_minutes 7 = .ok (.iconst 0, 1) := by decide +kernel
theorem dX5_minutes_8 : decode cX5_minutes 8 = .ok (.istore_n 2, 1) := by decide +kernel
theorem dX5_minutes_9 : decode cX5_minutes 9 = .ok (.iload_n 2, 1) := by decide +kernel
theorem dX5_minutes_10 : decode cX5_minutes 10 = .ok (.sipush 10000, 3) := by decide +kernel
theorem dX5_minutes_13 : decode cX5_minutes 13 = .ok (.if_icmp .gt 35, 3) := by decide +kernel
theorem dX5_minutes_16 : decode cX5_minutes 16 = .ok (.iload_n 1, 1) := by decide +kernel
theorem dX5_minutes_17 : decode cX5_minutes 17 = .ok (.aload_n 0, 1) := by decide +kernel
theorem dX5_minutes_18 : decode cX5_minutes 18 = .ok (.iconst (-1), 1) := by decide +kernel
theorem dX5_minutes_19 : decode cX5_minutes 19 = .ok (.iload_n 2, 1) := by decide +kernel
theorem dX5_minutes_20 : decode cX5_minutes 20 = .ok (.invokevirtual 116, 3) := by decide +kernel
theorem dX5_minutes_23 : decode cX5_minutes 23 = .ok (.ifCond .le 13, 3) := by decide +kernel
theorem dX5_minutes_26 : decode cX5_minutes 26 = .ok (.aload_n 0, 1) := by decide +kernel
theorem dX5_minutes_27 : decode cX5_minutes 27 = .ok (.iload_n 2, 1) := by decide +kernel
theorem dX5_minutes_28 : decode cX5_minutes 28 = .ok (.invokevirtual 120, 3) := by decide +kernel
theorem dX5_minutes_31 : decode cX5_minutes 31 = .ok (.iload_n 2, 1) := by decide +kernel
theorem dX5_minutes_32 : decode cX5_minutes 32 = .ok (.isub, 1) := by decide +kernel
theorem dX5_minutes_33 : decode cX5_minutes 33 = .ok (.goto 4, 3) := by decide +kernel
theorem dX5_minutes_36 : decode cX5_minutes 36 = .ok (.iconst 0, 1) := by decide +kernel
theorem dX5_minutes_37 : decode cX5_minutes 37 = .ok (.iadd, 1) := by decide +kernel
theorem dX5_minutes_38 : decode cX5_minutes 38 = .ok (.istore_n 1, 1) := by decide +kernel
theorem dX5_minutes_39 : decode cX5_minutes 39 = .ok (.aload_n 0, 1) := by decide +kernel
theorem dX5_minutes_40 : decode cX5_minutes 40 = .ok (.iload_n 2, 1) := by decide +kernel
theorem dX5_minutes_41 : decode cX5_minutes 41 = .ok (.invokevirtual 120, 3) := by decide +kernel
theorem dX5_minutes_44 : decode cX5_minutes 44 = .ok (.istore_n 2, 1) := by decide +kernel
theorem dX5_minutes_45 : decode cX5_minutes 45 = .ok (.goto (-36), 3) := by decide +kernel
theorem dX5_minutes_48 : decode cX5_minutes 48 = .ok (.iload_n 1, 1) := by decide +kernel
theorem dX5_minutes_49 : decode cX5_minutes 49 = .ok (.ireturn, 1) := by decide +kernel
set_option maxRecDepth 20000 in
theorem ggX5_isCause_X5_isIn : GoodIn wsX5_isCause wsX5_isIn := goodIn_r _ [5] (by decide +kernel) (by decide +kernel)
set_option maxRecDepth 20000 in
theorem gX5_isCause_X5_isIn : GoodIn wsX5_isCause (va_wsS RX5 68 yX5_isIn wsX5_isIn) := goodIn_app (goodIn_of _ (by decide +kernel)) ggX5_isCause_X5_isIn
theorem dX5_isCause_0 : decode cX5_isCause 0 = .ok (.iload_n 1, 1) := by decide +kernel
theorem dX5_isCause_1 : decode cX5_isCause 1 = .ok (.iconst 0, 1) := by decide +kernel
theorem dX5_isCause_2 : decode cX5_isCause 2 = .ok (.aload_n 0, 1) := by decide +kernel
theorem dX5_isCause_3 : decode cX5_isCause 3 = .ok (.getfield 124, 3) := by decide +kernel
theorem dX5_isCause_6 : decode cX5_isCause 6 = .ok (.iconst 1, 1) := by decide +kernel
theorem dX5_isCause_7 : decode cX5_isCause 7 = .ok (.isub, 1) := by decide +kernel
theorem dX5_isCause_8 : decode cX5_isCause 8 = .ok (.invokestatic 68, 3) := by decide +kernel
theorem dX5_isCause_11 : decode cX5_isCause 11 = .ok (.ireturn, 1) := by decide +kernel
set_option maxRecDepth 20000 in
theorem ggX5_addCause_X5_goes : GoodIn wsX5_addCause wsX5_goes := goodIn_r _ [7, 8, 9, 10, 11, 12, 13, 14, 15, 16, 17, 18, 19, 20, 21, 22, 23, 24, 25, 26, 27, 28, 29] (by decide +kernel) (by decide +kernel)
set_option maxRecDepth 20000 in
theorem gX5_addCause_X5_goes : GoodIn wsX5_addCause (wsV RX5 79 RX5 yX5_goes wsX5_goes) := goodIn_app (goodIn_of _ (by decide +kernel)) ggX5_addCause_X5_goes
theorem dX5_addCause_0 : decode cX5_addCause 0 = .ok (.aload_n 0, 1) := by decide +kernel
theorem dX5_addCause_1 : decode cX5_addCause 1 = .ok (.aload_n 0, 1) := by decide +kernel
theorem dX5_addCause_2 : decode cX5_addCause 2 = .ok (.getfield 124, 3) := by decide +kernel
theorem dX5_addCause_5 : decode cX5_addCause 5 = .ok (.bipush 16, 2) := by decide +kernel
theorem dX5_addCause_7 : decode cX5_addCause 7 = .ok (.if_icmp .ne 7, 3) := by decide +kernel
theorem dX5_addCause_10 : decode cX5_addCause 10 = .ok (.iconst 1, 1) := by decide +kernel
theorem dX5_addCause_11 : decode cX5_addCause 11 = .ok (.goto 4, 3) := by decide +kernel
theorem dX5_addCause_14 : decode cX5_addCause 14 = .ok (.iconst 0, 1) := by decide +kernel
theorem dX5_addCause_15 : decode cX5_addCause 15 = .ok (.invokevirtual 79, 3) := by decide +kernel
theorem dX5_addCause_18 : decode cX5_addCause 18 = .ok (.ifCond .ne 5, 3) := by decide +kernel
theorem dX5_addCause_21 : decode cX5_addCause 21 = .ok (.iconst 0, 1) := by decide +kernel
theorem dX5_addCause_22 : decode cX5_addCause 22 = .ok (.ireturn, 1) := by decide +kernel
theorem dX5_addCause_23 : decode cX5_addCause 23 = .ok (.aload_n 0, 1) := by decide +kernel
theorem dX5_addCause_24 : decode cX5_addCause 24 = .ok (.getfield 57, 3) := by decide +kernel
theorem dX5_addCause_27 : decode cX5_addCause 27 = .ok (.aload_n 0, 1) := by decide +kernel
theorem dX5_addCause_28 : decode cX5_addCause 28 = .ok (.getfield 124, 3) := by decide +kernel
theorem dX5_addCause_31 : decode cX5_addCause 31 = .ok (.iconst 1, 1) := by decide +kernel
theorem dX5_addCause_32 : decode cX5_addCause 32 = .ok (.bastore, 1) := by decide +kernel
theorem dX5_addCause_33 : decode cX5_addCause 33 = .ok (.aload_n 0, 1) := by decide +kernel
theorem dX5_addCause_34 : decode cX5_addCause 34 = .ok (.dup, 1) := by decide +kernel
theorem dX5_addCause_35 : decode cX5_addCause 35 = .ok (.getfield 124, 3) := by decide +kernel
theorem dX5_addCause_38 : decode cX5_addCause 38 = .ok (.iconst 1, 1) := by decide +kernel
theorem dX5_addCause_39 : decode cX5_addCause 39 = .ok (.iadd, 1) := by decide +kernel
theorem dX5_addCause_40 : decode cX5_addCause 40 = .ok (.putfield 124, 3) := by decide +kernel
theorem dX5_addCause_43 : decode cX5_addCause 43 = .ok (.aload_n 0, 1) := by decide +kernel
theorem dX5_addCause_44 : decode cX5_addCause 44 = .ok (.getfield 124, 3) := by decide +kernel
theorem dX5_addCause_47 : decode cX5_addCause 47 = .ok (.iconst 1, 1) := by decide +kernel
theorem dX5_addCause_48 : decode cX5_addCause 48 = .ok (.isub, 1) := by decide +kernel
theorem dX5_addCause_49 : decode cX5_addCause 49 = .ok (.ireturn, 1) := by decide +kernel
theorem dX5_reached_0 : decode cX5_reached 0 = .ok (.iconst 1, 1) := by decide +kernel
theorem dX5_reached_1 : decode cX5_reached 1 = .ok (.iload_n 1, 1) := by decide +kernel
theorem dX5_reached_2 : decode cX5_reached 2 = .ok (.ishl, 1) := by decide +kernel
theorem dX5_reached_3 : decode cX5_reached 3 = .ok (.istore_n 3, 1) := by decide +kernel
theorem dX5_reached_4 : decode cX5_reached 4 = .ok (.iconst 0, 1) := by decide +kernel
theorem dX5_reached_5 : decode cX5_reached 5 = .ok (.istore 4, 2) := by decide +kernel
theorem dX5_reached_7 : decode cX5_reached 7 = .ok (.iload 4, 2) := by decide +kernel
theorem dX5_reached_9 : decode cX5_reached 9 = .ok (.sipush 4096, 3) := by decide +kernel
theorem dX5_reached_12 : decode cX5_reached 12 = .ok (.if_icmp .ge 89, 3) := by decide +kernel
theorem dX5_reached_15 : decode cX5_reached 15 = .ok (.iload 4, 2) := by decide +kernel
theorem dX5_reached_17 : decode cX5_reached 17 = .ok (.bipush 16, 2) := by decide +kernel
theorem dX5_reached_19 : decode cX5_reached 19 = .ok (.idiv, 1) := by decide +kernel
theorem dX5_reached_20 : decode cX5_reached 20 = .ok (.bipush 16, 2) := by decide +kernel
theorem dX5_reached_22 : decode cX5_reached 22 = .ok (.irem, 1) := by decide +kernel
theorem dX5_reached_23 : decode cX5_reached 23 = .ok (.istore 5, 2) := by decide +kernel
theorem dX5_reached_25 : decode cX5_reached 25 = .ok (.iload 4, 2) := by decide +kernel
theorem dX5_reached_27 : decode cX5_reached 27 = .ok (.bipush 16, 2) := by decide +kernel
theorem dX5_reached_29 : decode cX5_reached 29 = .ok (.irem, 1) := by decide +kernel
theorem dX5_reached_30 : decode cX5_reached 30 = .ok (.istore 6, 2) := by decide +kernel
theorem dX5_reached_32 : decode cX5_reached 32 = .ok (.iload_n 3, 1) := by decide +kernel
theorem dX5_reached_33 : decode cX5_reached 33 = .ok (.iload 5, 2) := by decide +kernel
theorem dX5_reached_35 : decode cX5_reached 35 = .ok (.ishr, 1) := by decide +kernel
theorem dX5_reached_36 : decode cX5_reached 36 = .ok (.iconst 1, 1) := by decide +kernel
theorem dX5_reached_37 : decode cX5_reached 37 = .ok (.iand, 1) := by decide +kernel
theorem dX5_reached_38 : decode cX5_reached 38 = .ok (.iconst 1, 1) := by decide +kernel
theorem dX5_reached_39 : decode cX5_reached 39 = .ok (.if_icmp .ne 37, 3) := by decide +kernel
theorem dX5_reached_42 : decode cX5_reached 42 = .ok (.aload_n 0, 1) := by decide +kernel
theorem dX5_reached_43 : decode cX5_reached 43 = .ok (.getfield 60, 3) := by decide +kernel
theorem dX5_reached_46 : decode cX5_reached 46 = .ok (.bipush 16, 2) := by decide +kernel
theorem dX5_reached_48 : decode cX5_reached 48 = .ok (.iload 5, 2) := by decide +kernel
theorem dX5_reached_50 : decode cX5_reached 50 = .ok (.imul, 1) := by decide +kernel
theorem dX5_reached_51 : decode cX5_reached 51 = .ok (.iload 6, 2) := by decide +kernel
theorem dX5_reached_53 : decode cX5_reached 53 = .ok (.iadd, 1) := by decide +kernel
theorem dX5_reached_54 : decode cX5_reached 54 = .ok (.iaload, 1) := by decide +kernel
theorem dX5_reached_55 : decode cX5_reached 55 = .ok (.ifCond .le 21, 3) := by decide +kernel
theorem dX5_reached_58 : decode cX5_reached 58 = .ok (.aload_n 0, 1) := by decide +kernel
theorem dX5_reached_59 : decode cX5_reached 59 = .ok (.getfield 57, 3) := by decide +kernel
theorem dX5_reached_62 : decode cX5_reached 62 = .ok (.iload 6, 2) := by decide +kernel
theorem dX5_reached_64 : decode cX5_reached 64 = .ok (.baload, 1) := by decide +kernel
theorem dX5_reached_65 : decode cX5_reached 65 = .ok (.ifCond .ne 7, 3) := by decide +kernel
theorem dX5_reached_68 : decode cX5_reached 68 = .ok (.iload_n 2, 1) := by decide +kernel
theorem dX5_reached_69 : decode cX5_reached 69 = .ok (.ifCond .ne 7, 3) := by decide +kernel
theorem dX5_reached_72 : decode cX5_reached 72 = .ok (.iconst 1, 1) := by decide +kernel
theorem dX5_reached_73 : decode cX5_reached 73 = .ok (.goto 4, 3) := by decide +kernel
theorem dX5_reached_76 : decode cX5_reached 76 = .ok (.iconst 0, 1) := by decide +kernel
theorem dX5_reached_77 : decode cX5_reached 77 = .ok (.istore 7, 2) := by decide +kernel
theorem dX5_reached_79 : decode cX5_reached 79 = .ok (.iload_n 3, 1) := by decide +kernel
theorem dX5_reached_80 : decode cX5_reached 80 = .ok (.iload 7, 2) := by decide +kernel
theorem dX5_reached_82 : decode cX5_reached 82 = .ok (.ifCond .eq 10, 3) := by decide +kernel
theorem dX5_reached_85 : decode cX5_reached 85 = .ok (.iconst 1, 1) := by decide +kernel
theorem dX5_reached_86 : decode cX5_reached 86 = .ok (.iload 6, 2) := by decide +kernel
theorem dX5_reached_88 : decode cX5_reached 88 = .ok (.ishl, 1) := by decide +kernel
theorem dX5_reached_89 : decode cX5_reached 89 = .ok (.goto 4, 3) := by decide +kernel
theorem dX5_reached_92 : decode cX5_reached 92 = .ok (.iconst 0, 1) := by decide +kernel
theorem dX5_reached_93 : decode cX5_reached 93 = .ok (.ior, 1) := by decide +kernel
theorem dX5_reached_94 : decode cX5_reached 94 = .ok (.istore_n 3, 1) := by decide +kernel
theorem dX5_reached_95 : decode cX5_reached 95 = .ok (.iinc 4 1, 3) := by decide +kernel
theorem dX5_reached_98 : decode cX5_reached 98 = .ok (.goto (-91), 3) := by decide +kernel
theorem dX5_reached_101 : decode cX5_reached 101 = .ok (.iload_n 3, 1) := by decide +kernel
theorem dX5_reached_102 : decode cX5_reached 102 = .ok (.ireturn, 1) := by decide +kernel
set_option maxRecDepth 20000 in
theorem ggX5_argueReason_X5_isCause : GoodIn wsX5_argueReason wsX5_isCause := goodIn_r _ [6, 7, 8, 9, 5, 10, 21, 22, 23, 24, 25, 26, 27, 28, 29, 30, 31, 32, 33, 34, 35, 36, 37, 38, 39, 40, 41] (by decide +kernel) (by decide +kernel)
set_option maxRecDepth 20000 in
theorem gX5_argueReason_X5_isCause : GoodIn wsX5_argueReason (wsV RX5 127 RX5 yX5_isCause wsX5_isCause) := goodIn_app (goodIn_of _ (by decide +kernel)) ggX5_argueReason_X5_isCause
set_option maxRecDepth 20000 in
theorem ggX5_argueReason_X5_isIn : GoodIn wsX5_argueReason wsX5_isIn := goodIn_r _ [10] (by decide +kernel) (by decide +kernel)
set_option maxRecDepth 20000 in
theorem gX5_argueReason_X5_isIn : GoodIn wsX5_argueReason (va_wsS RX5 68 yX5_isIn wsX5_isIn) := goodIn_app (goodIn_of _ (by decide +kernel)) ggX5_argueReason_X5_isIn
set_option maxRecDepth 20000 in
theorem ggX5_argueReason_X5_goes : GoodIn wsX5_argueReason wsX5_goes := goodIn_r _ [14, 15, 21, 22, 23, 24, 25, 26, 27, 28, 29, 30, 31, 32, 33, 34, 35, 36, 37, 38, 39, 40, 41] (by decide +kernel) (by decide +kernel)
set_option maxRecDepth 20000 in
theorem gX5_argueReason_X5_goes : GoodIn wsX5_argueReason (wsV RX5 79 RX5 yX5_goes wsX5_goes) := goodIn_app (goodIn_of _ (by decide +kernel)) ggX5_argueReason_X5_goes
set_option maxRecDepth 20000 in
theorem ggX5_argueReason_X5_reached : GoodIn wsX5_argueReason wsX5_reached := goodIn_r _ [19, 1, 20, 21, 22, 23, 24, 25, 26, 27, 28, 29, 30, 31, 32, 33, 34, 35, 36, 37, 38, 39, 40, 41] (by decide +kernel) (by decide +kernel)
set_option maxRecDepth 20000 in
theorem gX5_argueReason_X5_reached : GoodIn wsX5_argueReason (wsV RX5 130 RX5 yX5_reached wsX5_reached) := goodIn_app (goodIn_of _ (by decide +kernel)) ggX5_argueReason_X5_reached
theorem dX5_argueReason_0 : decode cX5_argueReason 0 = .ok (.aload_n 0, 1) := by decide +kernel
theorem dX5_argueReason_1 : decode cX5_argueReason 1 = .ok (.iload_n 1, 1) := by decide +kernel
theorem dX5_argueReason_2 : decode cX5_argueReason 2 = .ok (.invokevirtual 127, 3) := by decide +kernel
theorem dX5_argueReason_5 : decode cX5_argueReason 5 = .ok (.ifCond .eq 15, 3) := by decide +kernel
theorem dX5_argueReason_8 : decode cX5_argueReason 8 = .ok (.aload_n 0, 1) := by decide +kernel
theorem dX5_argueReason_9 : decode cX5_argueReason 9 = .ok (.iload_n 2, 1) := by decide +kernel
theorem dX5_argueReason_10 : decode cX5_argueReason 10 = .ok (.invokevirtual 127, 3) := by decide +kernel
theorem dX5_argueReason_13 : decode cX5_argueReason 13 = .ok (.ifCond .eq 7, 3) := by decide +kernel
theorem dX5_argueReason_16 : decode cX5_argueReason 16 = .ok (.iconst 1, 1) := by decide +kernel
theorem dX5_argueReason_17 : decode cX5_argueReason 17 = .ok (.goto 4, 3) := by decide +kernel
theorem dX5_argueReason_20 : decode cX5_argueReason 20 = .ok (.iconst 0, 1) := by decide +kernel
theorem dX5_argueReason_21 : decode cX5_argueReason 21 = .ok (.istore 4, 2) := by decide +kernel
theorem dX5_argueReason_23 : decode cX5_argueReason 23 = .ok (.aload_n 0, 1) := by decide +kernel
theorem dX5_argueReason_24 : decode cX5_argueReason 24 = .ok (.iload 4, 2) := by decide +kernel
theorem dX5_argueReason_26 : decode cX5_argueReason 26 = .ok (.ifCond .ne 7, 3) := by decide +kernel
theorem dX5_argueReason_29 : decode cX5_argueReason 29 = .ok (.iconst 1, 1) := by decide +kernel
theorem dX5_argueReason_30 : decode cX5_argueReason 30 = .ok (.goto 23, 3) := by decide +kernel
theorem dX5_argueReason_33 : decode cX5_argueReason 33 = .ok (.iload_n 3, 1) := by decide +kernel
theorem dX5_argueReason_34 : decode cX5_argueReason 34 = .ok (.iconst 0, 1) := by decide +kernel
theorem dX5_argueReason_35 : decode cX5_argueReason 35 = .ok (.bipush 100, 2) := by decide +kernel
theorem dX5_argueReason_37 : decode cX5_argueReason 37 = .ok (.invokestatic 68, 3) := by decide +kernel
theorem dX5_argueReason_40 : decode cX5_argueReason 40 = .ok (.ifCond .eq 8, 3) := by decide +kernel
theorem dX5_argueReason_43 : decode cX5_argueReason 43 = .ok (.iload_n 1, 1) := by decide +kernel
theorem dX5_argueReason_44 : decode cX5_argueReason 44 = .ok (.iload_n 2, 1) := by decide +kernel
theorem dX5_argueReason_45 : decode cX5_argueReason 45 = .ok (.if_icmp .ne 7, 3) := by decide +kernel
theorem dX5_argueReason_48 : decode cX5_argueReason 48 = .ok (.iconst 2, 1) := by decide +kernel
theorem dX5_argueReason_49 : decode cX5_argueReason 49 = .ok (.goto 4, 3) := by decide +kernel
theorem dX5_argueReason_52 : decode cX5_argueReason 52 = .ok (.iconst 0, 1) := by decide +kernel
theorem dX5_argueReason_53 : decode cX5_argueReason 53 = .ok (.invokevirtual 79, 3) := by decide +kernel
theorem dX5_argueReason_56 : decode cX5_argueReason 56 = .ok (.ifCond .ne 5, 3) := by decide +kernel
theorem dX5_argueReason_59 : decode cX5_argueReason 59 = .ok (.iconst 0, 1) := by decide +kernel
theorem dX5_argueReason_60 : decode cX5_argueReason 60 = .ok (.ireturn, 1) := by decide +kernel
theorem dX5_argueReason_61 : decode cX5_argueReason 61 = .ok (.iload_n 3, 1) := by decide +kernel
theorem dX5_argueReason_62 : decode cX5_argueReason 62 = .ok (.ifCond .le 21, 3) := by decide +kernel
theorem dX5_argueReason_65 : decode cX5_argueReason 65 = .ok (.aload_n 0, 1) := by decide +kernel
theorem dX5_argueReason_66 : decode cX5_argueReason 66 = .ok (.iload_n 2, 1) := by decide +kernel
theorem dX5_argueReason_67 : decode cX5_argueReason 67 = .ok (.iconst 0, 1) := by decide +kernel
theorem dX5_argueReason_68 : decode cX5_argueReason 68 = .ok (.invokevirtual 130, 3) := by decide +kernel
theorem dX5_argueReason_71 : decode cX5_argueReason 71 = .ok (.iload_n 1, 1) := by decide +kernel
theorem dX5_argueReason_72 : decode cX5_argueReason 72 = .ok (.ishr, 1) := by decide +kernel
theorem dX5_argueReason_73 : decode cX5_argueReason 73 = .ok (.iconst 1, 1) := by decide +kernel
theorem dX5_argueReason_74 : decode cX5_argueReason 74 = .ok (.iand, 1) := by decide +kernel
theorem dX5_argueReason_75 : decode cX5_argueReason 75 = .ok (.iconst 1, 1) := by decide +kernel
theorem dX5_argueReason_76 : decode cX5_argueReason 76 = .ok (.if_icmp .ne 7, 3) := by decide +kernel
theorem dX5_argueReason_79 : decode cX5_argueReason 79 = .ok (.iconst 1, 1) := by decide +kernel
theorem dX5_argueReason_80 : decode cX5_argueReason 80 = .ok (.goto 4, 3) := by decide +kernel
theorem dX5_argueReason_83 : decode cX5_argueReason 83 = .ok (.iconst 0, 1) := by decide +kernel
theorem dX5_argueReason_84 : decode cX5_argueReason 84 = .ok (.istore 5, 2) := by decide +kernel
theorem dX5_argueReason_86 : decode cX5_argueReason 86 = .ok (.aload_n 0, 1) := by decide +kernel
theorem dX5_argueReason_87 : decode cX5_argueReason 87 = .ok (.iload 5, 2) := by decide +kernel
theorem dX5_argueReason_89 : decode cX5_argueReason 89 = .ok (.ifCond .eq 7, 3) := by decide +kernel
theorem dX5_argueReason_92 : decode cX5_argueReason 92 = .ok (.iconst 3, 1) := by decide +kernel
theorem dX5_argueReason_93 : decode cX5_argueReason 93 = .ok (.goto 4, 3) := by decide +kernel
theorem dX5_argueReason_96 : decode cX5_argueReason 96 = .ok (.iconst 0, 1) := by decide +kernel
theorem dX5_argueReason_97 : decode cX5_argueReason 97 = .ok (.invokevirtual 79, 3) := by decide +kernel
theorem dX5_argueReason_100 : decode cX5_argueReason 100 = .ok (.ifCond .ne 5, 3) := by decide +kernel
theorem dX5_argueReason_103 : decode cX5_argueReason 103 = .ok (.iconst 0, 1) := by decide +kernel
theorem dX5_argueReason_104 : decode cX5_argueReason 104 = .ok (.ireturn, 1) := by decide +kernel
theorem dX5_argueReason_105 : decode cX5_argueReason 105 = .ok (.aload_n 0, 1) := by decide +kernel
theorem dX5_argueReason_106 : decode cX5_argueReason 106 = .ok (.getfield 60, 3) := by decide +kernel
theorem dX5_argueReason_109 : decode cX5_argueReason 109 = .ok (.bipush 16, 2) := by decide +kernel
theorem dX5_argueReason_111 : decode cX5_argueReason 111 = .ok (.iload_n 1, 1) := by decide +kernel
theorem dX5_argueReason_112 : decode cX5_argueReason 112 = .ok (.imul, 1) := by decide +kernel
theorem dX5_argueReason_113 : decode cX5_argueReason 113 = .ok (.iload_n 2, 1) := by decide +kernel
theorem dX5_argueReason_114 : decode cX5_argueReason 114 = .ok (.iadd, 1) := by decide +kernel
theorem dX5_argueReason_115 : decode cX5_argueReason 115 = .ok (.iaload, 1) := by decide +kernel
theorem dX5_argueReason_116 : decode cX5_argueReason 116 = .ok (.istore 6, 2) := by decide +kernel
theorem dX5_argueReason_118 : decode cX5_argueReason 118 = .ok (.aload_n 0, 1) := by decide +kernel
theorem dX5_argueReason_119 : decode cX5_argueReason 119 = .ok (.getfield 60, 3) := by decide +kernel
theorem dX5_argueReason_122 : decode cX5_argueReason 122 = .ok (.bipush 16, 2) := by decide +kernel
theorem dX5_argueReason_124 : decode cX5_argueReason 124 = .ok (.iload_n 1, 1) := by decide +kernel
theorem dX5_argueReason_125 : decode cX5_argueReason 125 = .ok (.imul, 1) := by decide +kernel
theorem dX5_argueReason_126 : decode cX5_argueReason 126 = .ok (.iload_n 2, 1) := by decide +kernel
theorem dX5_argueReason_127 : decode cX5_argueReason 127 = .ok (.iadd, 1) := by decide +kernel
theorem dX5_argueReason_128 : decode cX5_argueReason 128 = .ok (.iload_n 3, 1) := by decide +kernel
theorem dX5_argueReason_129 : decode cX5_argueReason 129 = .ok (.iastore, 1) := by decide +kernel
theorem dX5_argueReason_130 : decode cX5_argueReason 130 = .ok (.iload 6, 2) := by decide +kernel
theorem dX5_argueReason_132 : decode cX5_argueReason 132 = .ok (.ireturn, 1) := by decide +kernel
set_option maxRecDepth 20000 in
theorem ggX5_setStanding_X5_isCause : GoodIn wsX5_setStanding wsX5_isCause := goodIn_r _ [6, 7, 8, 9, 5, 10, 16, 17, 18, 19, 20, 21, 22, 23, 24, 25, 26, 27, 28, 29, 30, 31, 32, 33, 34, 35, 36] (by decide +kernel) (by decide +kernel)
set_option maxRecDepth 20000 in
theorem gX5_setStanding_X5_isCause : GoodIn wsX5_setStanding (wsV RX5 127 RX5 yX5_isCause wsX5_isCause) := goodIn_app (goodIn_of _ (by decide +kernel)) ggX5_setStanding_X5_isCause
set_option maxRecDepth 20000 in
theorem ggX5_setStanding_X5_goes : GoodIn wsX5_setStanding wsX5_goes := goodIn_r _ [14, 15, 16, 17, 18, 19, 20, 21, 22, 23, 24, 25, 26, 27, 28, 29, 30, 31, 32, 33, 34, 35, 36] (by decide +kernel) (by decide +kernel)
set_option maxRecDepth 20000 in
theorem gX5_setStanding_X5_goes : GoodIn wsX5_setStanding (wsV RX5 79 RX5 yX5_goes wsX5_goes) := goodIn_app (goodIn_of _ (by decide +kernel)) ggX5_setStanding_X5_goes
theorem dX5_setStanding_0 : decode cX5_setStanding 0 = .ok (.aload_n 0, 1) := by decide +kernel
theorem dX5_setStanding_1 : decode cX5_setStanding 1 = .ok (.aload_n 0, 1) := by decide +kernel
theorem dX5_setStanding_2 : decode cX5_setStanding 2 = .ok (.iload_n 1, 1) := by decide +kernel
theorem dX5_setStanding_3 : decode cX5_setStanding 3 = .ok (.invokevirtual 127, 3) := by decide +kernel
theorem dX5_setStanding_6 : decode cX5_setStanding 6 = .ok (.ifCond .eq 7, 3) := by decide +kernel
theorem dX5_setStanding_9 : decode cX5_setStanding 9 = .ok (.iconst 0, 1) := by decide +kernel
theorem dX5_setStanding_10 : decode cX5_setStanding 10 = .ok (.goto 4, 3) := by decide +kernel
theorem dX5_setStanding_13 : decode cX5_setStanding 13 = .ok (.iconst 1, 1) := by decide +kernel
theorem dX5_setStanding_14 : decode cX5_setStanding 14 = .ok (.invokevirtual 79, 3) := by decide +kernel
theorem dX5_setStanding_17 : decode cX5_setStanding 17 = .ok (.ifCond .ne 5, 3) := by decide +kernel
theorem dX5_setStanding_20 : decode cX5_setStanding 20 = .ok (.iconst 0, 1) := by decide +kernel
theorem dX5_setStanding_21 : decode cX5_setStanding 21 = .ok (.ireturn, 1) := by decide +kernel
theorem dX5_setStanding_22 : decode cX5_setStanding 22 = .ok (.aload_n 0, 1) := by decide +kernel
theorem dX5_setStanding_23 : decode cX5_setStanding 23 = .ok (.getfield 57, 3) := by decide +kernel
theorem dX5_setStanding_26 : decode cX5_setStanding 26 = .ok (.iload_n 1, 1) := by decide +kernel
theorem dX5_setStanding_27 : decode cX5_setStanding 27 = .ok (.baload, 1) := by decide +kernel
theorem dX5_setStanding_28 : decode cX5_setStanding 28 = .ok (.istore_n 3, 1) := by decide +kernel
theorem dX5_setStanding_29 : decode cX5_setStanding 29 = .ok (.aload_n 0, 1) := by decide +kernel
theorem dX5_setStanding_30 : decode cX5_setStanding 30 = .ok (.getfield 57, 3) := by decide +kernel
theorem dX5_setStanding_33 : decode cX5_setStanding 33 = .ok (.iload_n 1, 1) := by decide +kernel
theorem dX5_setStanding_34 : decode cX5_setStanding 34 = .ok (.iload_n 2, 1) := by decide +kernel
theorem dX5_setStanding_35 : decode cX5_setStanding 35 = .ok (.bastore, 1) := by decide +kernel
theorem dX5_setStanding_36 : decode cX5_setStanding 36 = .ok (.iload_n 3, 1) := by decide +kernel
theorem dX5_setStanding_37 : decode cX5_setStanding 37 = .ok (.ireturn, 1) := by decide +kernel
theorem dX5_mainOf_0 : decode cX5_mainOf 0 = .ok (.iconst (-1), 1) := by decide +kernel
theorem dX5_mainOf_1 : decode cX5_mainOf 1 = .ok (.istore_n 2, 1) := by decide +kernel
theorem dX5_mainOf_2 : decode cX5_mainOf 2 = .ok (.iconst 0, 1) := by decide +kernel
theorem dX5_mainOf_3 : decode cX5_mainOf 3 = .ok (.istore_n 3, 1) := by decide +kernel
theorem dX5_mainOf_4 : decode cX5_mainOf 4 = .ok (.iconst 0, 1) := by decide +kernel
theorem dX5_mainOf_5 : decode cX5_mainOf 5 = .ok (.istore 4, 2) := by decide +kernel
theorem dX5_mainOf_7 : decode cX5_mainOf 7 = .ok (.iload 4, 2) := by decide +kernel
theorem dX5_mainOf_9 : decode cX5_mainOf 9 = .ok (.aload_n 0, 1) := by decide +kernel
theorem dX5_mainOf_10 : decode cX5_mainOf 10 = .ok (.getfield 124, 3) := by decide +kernel
theorem dX5_mainOf_13 : decode cX5_mainOf 13 = .ok (.if_icmp .ge 76, 3) := by decide +kernel
theorem dX5_mainOf_16 : decode cX5_mainOf 16 = .ok (.aload_n 0, 1) := by decide +kernel
theorem dX5_mainOf_17 : decode cX5_mainOf 17 = .ok (.getfield 57, 3) := by decide +kernel
theorem dX5_mainOf_20 : decode cX5_mainOf 20 = .ok (.iload 4, 2) := by decide +kernel
theorem dX5_mainOf_22 : decode cX5_mainOf 22 = .ok (.baload, 1) := by decide +kernel
theorem dX5_mainOf_23 : decode cX5_mainOf 23 = .ok (.ifCond .eq 23, 3) := by decide +kernel
theorem dX5_mainOf_26 : decode cX5_mainOf 26 = .ok (.aload_n 0, 1) := by decide +kernel
theorem dX5_mainOf_27 : decode cX5_mainOf 27 = .ok (.getfield 60, 3) := by decide +kernel
theorem dX5_mainOf_30 : decode cX5_mainOf 30 = .ok (.bipush 16, 2) := by decide +kernel
theorem dX5_mainOf_32 : decode cX5_mainOf 32 = .ok (.iload_n 1, 1) := by decide +kernel
theorem dX5_mainOf_33 : decode cX5_mainOf 33 = .ok (.imul, 1) := by decide +kernel
theorem dX5_mainOf_34 : decode cX5_mainOf 34 = .ok (.iload 4, 2) := by decide +kernel
theorem dX5_mainOf_36 : decode cX5_mainOf 36 = .ok (.iadd, 1) := by decide +kernel
theorem dX5_mainOf_37 : decode cX5_mainOf 37 = .ok (.iaload, 1) := by decide +kernel
theorem dX5_mainOf_38 : decode cX5_mainOf 38 = .ok (.iload_n 3, 1) := by decide +kernel
theorem dX5_mainOf_39 : decode cX5_mainOf 39 = .ok (.if_icmp .le 7, 3) := by decide +kernel
theorem dX5_mainOf_42 : decode cX5_mainOf 42 = .ok (.iconst 1, 1) := by decide +kernel
theorem dX5_mainOf_43 : decode cX5_mainOf 43 = .ok (.goto 4, 3) := by decide +kernel
theorem dX5_mainOf_46 : decode cX5_mainOf 46 = .ok (.iconst 0, 1) := by decide +kernel
theorem dX5_mainOf_47 : decode cX5_mainOf 47 = .ok (.istore 5, 2) := by decide +kernel
theorem dX5_mainOf_49 : decode cX5_mainOf 49 = .ok (.iload 5, 2) := by decide +kernel
theorem dX5_mainOf_51 : decode cX5_mainOf 51 = .ok (.ifCond .eq 8, 3) := by decide +kernel
theorem dX5_mainOf_54 : decode cX5_mainOf 54 = .ok (.iload 4, 2) := by decide +kernel
theorem dX5_mainOf_56 : decode cX5_mainOf 56 = .ok (.goto 4, 3) := by decide +kernel
theorem dX5_mainOf_59 : decode cX5_mainOf 59 = .ok (.iload_n 2, 1) := by decide +kernel
theorem dX5_mainOf_60 : decode cX5_mainOf 60 = .ok (.istore_n 2, 1) := by decide +kernel
theorem dX5_mainOf_61 : decode cX5_mainOf 61 = .ok (.iload 5, 2) := by decide +kernel
theorem dX5_mainOf_63 : decode cX5_mainOf 63 = .ok (.ifCond .eq 18, 3) := by decide +kernel
theorem dX5_mainOf_66 : decode cX5_mainOf 66 = .ok (.aload_n 0, 1) := by decide +kernel
theorem dX5_mainOf_67 : decode cX5_mainOf 67 = .ok (.getfield 60, 3) := by decide +kernel
theorem dX5_mainOf_70 : decode cX5_mainOf 70 = .ok (.bipush 16, 2) := by decide +kernel
theorem dX5_mainOf_72 : decode cX5_mainOf 72 = .ok (.iload_n 1, 1) := by decide +kernel
theorem dX5_mainOf_73 : decode cX5_mainOf 73 = .ok (.imul, 1) := by decide +kernel
theorem dX5_mainOf_74 : decode cX5_mainOf 74 = .ok (.iload 4, 2) := by decide +kernel
theorem dX5_mainOf_76 : decode cX5_mainOf 76 = .ok (.iadd, 1) := by decide +kernel
theorem dX5_mainOf_77 : decode cX5_mainOf 77 = .ok (.iaload, 1) := by decide +kernel
theorem dX5_mainOf_78 : decode cX5_mainOf 78 = .ok (.goto 4, 3) := by decide +kernel
theorem dX5_mainOf_81 : decode cX5_mainOf 81 = .ok (.iload_n 3, 1) := by decide +kernel
theorem dX5_mainOf_82 : decode cX5_mainOf 82 = .ok (.istore_n 3, 1) := by decide +kernel
theorem dX5_mainOf_83 : decode cX5_mainOf 83 = .ok (.iinc 4 1, 3) := by decide +kernel
theorem dX5_mainOf_86 : decode cX5_mainOf 86 = .ok (.goto (-79), 3) := by decide +kernel
theorem dX5_mainOf_89 : decode cX5_mainOf 89 = .ok (.iload_n 2, 1) := by decide +kernel
theorem dX5_mainOf_90 : decode cX5_mainOf 90 = .ok (.ireturn, 1) := by decide +kernel
set_option maxRecDepth 20000 in
theorem ggX5_roots_X5_isCause : GoodIn wsX5_roots wsX5_isCause := goodIn_r _ [7, 2, 8, 9, 6, 10, 25, 26, 27, 28, 29, 30, 31, 32, 33, 34, 35, 36, 37, 38, 39, 40, 41, 42, 43, 44, 45] (by decide +kernel) (by decide +kernel)
set_option maxRecDepth 20000 in
theorem gX5_roots_X5_isCause : GoodIn wsX5_roots (wsV RX5 127 RX5 yX5_isCause wsX5_isCause) := goodIn_app (goodIn_of _ (by decide +kernel)) ggX5_roots_X5_isCause
set_option maxRecDepth 20000 in
theorem ggX5_roots_X5_goes : GoodIn wsX5_roots wsX5_goes := goodIn_r _ [14, 15, 25, 26, 27, 28, 29, 30, 31, 32, 33, 34, 35, 36, 37, 38, 39, 40, 41, 42, 43, 44, 45] (by decide +kernel) (by decide +kernel)
set_option maxRecDepth 20000 in
theorem gX5_roots_X5_goes : GoodIn wsX5_roots (wsV RX5 79 RX5 yX5_goes wsX5_goes) := goodIn_app (goodIn_of _ (by decide +kernel)) ggX5_roots_X5_goes
set_option maxRecDepth 20000 in
theorem ggX5_roots_X5_reached : GoodIn wsX5_roots wsX5_reached := goodIn_r _ [19, 20, 1, 25, 26, 27, 28, 29, 30, 31, 32, 33, 34, 35, 36, 37, 38, 39, 40, 41, 42, 43, 44, 45] (by decide +kernel) (by decide +kernel)
set_option maxRecDepth 20000 in
theorem gX5_roots_X5_reached : GoodIn wsX5_roots (wsV RX5 130 RX5 yX5_reached wsX5_reached) := goodIn_app (goodIn_of _ (by decide +kernel)) ggX5_roots_X5_reached
set_option maxRecDepth 20000 in
theorem ggX5_roots_X5_mainOf : GoodIn wsX5_roots wsX5_mainOf := goodIn_r _ [24, 2, 1, 20, 25, 26, 27, 28, 29, 30, 31, 32, 33, 34, 35, 36, 37, 38, 39, 40, 41, 42, 43, 44, 45] (by decide +kernel) (by decide +kernel)
set_option maxRecDepth 20000 in
theorem gX5_roots_X5_mainOf : GoodIn wsX5_roots (wsV RX5 134 RX5 yX5_mainOf wsX5_mainOf) := goodIn_app (goodIn_of _ (by decide +kernel)) ggX5_roots_X5_mainOf
theorem dX5_roots_0 : decode cX5_roots 0 = .ok (.aload_n 0, 1) := by decide +kernel
theorem dX5_roots_1 : decode cX5_roots 1 = .ok (.aload_n 0, 1) := by decide +kernel
theorem dX5_roots_2 : decode cX5_roots 2 = .ok (.iload_n 1, 1) := by decide +kernel
theorem dX5_roots_3 : decode cX5_roots 3 = .ok (.invokevirtual 127, 3) := by decide +kernel
theorem dX5_roots_6 : decode cX5_roots 6 = .ok (.ifCond .eq 7, 3) := by decide +kernel
theorem dX5_roots_9 : decode cX5_roots 9 = .ok (.iconst 0, 1) := by decide +kernel
theorem dX5_roots_10 : decode cX5_roots 10 = .ok (.goto 4, 3) := by decide +kernel
theorem dX5_roots_13 : decode cX5_roots 13 = .ok (.iconst 1, 1) := by decide +kernel
theorem dX5_roots_14 : decode cX5_roots 14 = .ok (.invokevirtual 79, 3) := by decide +kernel
theorem dX5_roots_17 : decode cX5_roots 17 = .ok (.ifCond .ne 5, 3) := by decide +kernel
theorem dX5_roots_20 : decode cX5_roots 20 = .ok (.iconst 0, 1) := by decide +kernel
theorem dX5_roots_21 : decode cX5_roots 21 = .ok (.ireturn, 1) := by decide +kernel
theorem dX5_roots_22 : decode cX5_roots 22 = .ok (.aload_n 0, 1) := by decide +kernel
theorem dX5_roots_23 : decode cX5_roots 23 = .ok (.getfield 57, 3) := by decide +kernel
theorem dX5_roots_26 : decode cX5_roots 26 = .ok (.iload_n 1, 1) := by decide +kernel
theorem dX5_roots_27 : decode cX5_roots 27 = .ok (.baload, 1) := by decide +kernel
theorem dX5_roots_28 : decode cX5_roots 28 = .ok (.ifCond .eq 12, 3) := by decide +kernel
theorem dX5_roots_31 : decode cX5_roots 31 = .ok (.aload_n 0, 1) := by decide +kernel
theorem dX5_roots_32 : decode cX5_roots 32 = .ok (.iload_n 1, 1) := by decide +kernel
theorem dX5_roots_33 : decode cX5_roots 33 = .ok (.iconst 1, 1) := by decide +kernel
theorem dX5_roots_34 : decode cX5_roots 34 = .ok (.invokevirtual 130, 3) := by decide +kernel
theorem dX5_roots_37 : decode cX5_roots 37 = .ok (.goto 4, 3) := by decide +kernel
theorem dX5_roots_40 : decode cX5_roots 40 = .ok (.iconst 0, 1) := by decide +kernel
theorem dX5_roots_41 : decode cX5_roots 41 = .ok (.istore_n 2, 1) := by decide +kernel
theorem dX5_roots_42 : decode cX5_roots 42 = .ok (.iconst 0, 1) := by decide +kernel
theorem dX5_roots_43 : decode cX5_roots 43 = .ok (.istore_n 3, 1) := by decide +kernel
theorem dX5_roots_44 : decode cX5_roots 44 = .ok (.iconst 0, 1) := by decide +kernel
theorem dX5_roots_45 : decode cX5_roots 45 = .ok (.istore 4, 2) := by decide +kernel
theorem dX5_roots_47 : decode cX5_roots 47 = .ok (.iload 4, 2) := by decide +kernel
theorem dX5_roots_49 : decode cX5_roots 49 = .ok (.aload_n 0, 1) := by decide +kernel
theorem dX5_roots_50 : decode cX5_roots 50 = .ok (.getfield 124, 3) := by decide +kernel
theorem dX5_roots_53 : decode cX5_roots 53 = .ok (.if_icmp .ge 40, 3) := by decide +kernel
theorem dX5_roots_56 : decode cX5_roots 56 = .ok (.iload_n 3, 1) := by decide +kernel
theorem dX5_roots_57 : decode cX5_roots 57 = .ok (.iload_n 2, 1) := by decide +kernel
theorem dX5_roots_58 : decode cX5_roots 58 = .ok (.iload 4, 2) := by decide +kernel
theorem dX5_roots_60 : decode cX5_roots 60 = .ok (.ishr, 1) := by decide +kernel
theorem dX5_roots_61 : decode cX5_roots 61 = .ok (.iconst 1, 1) := by decide +kernel
theorem dX5_roots_62 : decode cX5_roots 62 = .ok (.iand, 1) := by decide +kernel
theorem dX5_roots_63 : decode cX5_roots 63 = .ok (.iconst 1, 1) := by decide +kernel
theorem dX5_roots_64 : decode cX5_roots 64 = .ok (.if_icmp .ne 20, 3) := by decide +kernel
theorem dX5_roots_67 : decode cX5_roots 67 = .ok (.aload_n 0, 1) := by decide +kernel
theorem dX5_roots_68 : decode cX5_roots 68 = .ok (.iload 4, 2) := by decide +kernel
theorem dX5_roots_70 : decode cX5_roots 70 = .ok (.invokevirtual 134, 3) := by decide +kernel
theorem dX5_roots_73 : decode cX5_roots 73 = .ok (.iconst (-1), 1) := by decide +kernel
theorem dX5_roots_74 : decode cX5_roots 74 = .ok (.if_icmp .ne 10, 3) := by decide +kernel
theorem dX5_roots_77 : decode cX5_roots 77 = .ok (.iconst 1, 1) := by decide +kernel
theorem dX5_roots_78 : decode cX5_roots 78 = .ok (.iload 4, 2) := by decide +kernel
theorem dX5_roots_80 : decode cX5_roots 80 = .ok (.ishl, 1) := by decide +kernel
theorem dX5_roots_81 : decode cX5_roots 81 = .ok (.goto 4, 3) := by decide +kernel
theorem dX5_roots_84 : decode cX5_roots 84 = .ok (.iconst 0, 1) := by decide +kernel
theorem dX5_roots_85 : decode cX5_roots 85 = .ok (.ior, 1) := by decide +kernel
theorem dX5_roots_86 : decode cX5_roots 86 = .ok (.istore_n 3, 1) := by decide +kernel
theorem dX5_roots_87 : decode cX5_roots 87 = .ok (.iinc 4 1, 3) := by decide +kernel
theorem dX5_roots_90 : decode cX5_roots 90 = .ok (.goto (-43), 3) := by decide +kernel
theorem dX5_roots_93 : decode cX5_roots 93 = .ok (.iload_n 3, 1) := by decide +kernel
theorem dX5_roots_94 : decode cX5_roots 94 = .ok (.ireturn, 1) := by decide +kernel
set_option maxRecDepth 20000 in
theorem ggX5_mainReason_X5_isCause : GoodIn wsX5_mainReason wsX5_isCause := goodIn_r _ [5, 6, 7, 8, 4, 9, 21, 22, 23, 24, 25, 26, 27, 28, 29, 30, 31, 32, 33, 34, 35, 36, 37, 38, 39, 40, 41] (by decide +kernel) (by decide +kernel)
set_option maxRecDepth 20000 in
theorem gX5_mainReason_X5_isCause : GoodIn wsX5_mainReason (wsV RX5 127 RX5 yX5_isCause wsX5_isCause) := goodIn_app (goodIn_of _ (by decide +kernel)) ggX5_mainReason_X5_isCause
set_option maxRecDepth 20000 in
theorem ggX5_mainReason_X5_goes : GoodIn wsX5_mainReason wsX5_goes := goodIn_r _ [13, 14, 21, 22, 23, 24, 25, 26, 27, 28, 29, 30, 31, 32, 33, 34, 35, 36, 37, 38, 39, 40, 41] (by decide +kernel) (by decide +kernel)
set_option maxRecDepth 20000 in
theorem gX5_mainReason_X5_goes : GoodIn wsX5_mainReason (wsV RX5 79 RX5 yX5_goes wsX5_goes) := goodIn_app (goodIn_of _ (by decide +kernel)) ggX5_mainReason_X5_goes
set_option maxRecDepth 20000 in
theorem ggX5_mainReason_X5_mainOf : GoodIn wsX5_mainReason wsX5_mainOf := goodIn_r _ [18, 6, 19, 20, 21, 22, 23, 24, 25, 26, 27, 28, 29, 30, 31, 32, 33, 34, 35, 36, 37, 38, 39, 40, 41] (by decide +kernel) (by decide +kernel)
set_option maxRecDepth 20000 in
theorem gX5_mainReason_X5_mainOf : GoodIn wsX5_mainReason (wsV RX5 134 RX5 yX5_mainOf wsX5_mainOf) := goodIn_app (goodIn_of _ (by decide +kernel)) ggX5_mainReason_X5_mainOf
theorem dX5_mainReason_0 : decode cX5_mainReason 0 = .ok (.aload_n 0, 1) := by decide +kernel
theorem dX5_mainReason_1 : decode cX5_mainReason 1 = .ok (.aload_n 0, 1) := by decide +kernel
theorem dX5_mainReason_2 : decode cX5_mainReason 2 = .ok (.iload_n 1, 1) := by decide +kernel
theorem dX5_mainReason_3 : decode cX5_mainReason 3 = .ok (.invokevirtual 127, 3) := by decide +kernel
