theorem dL_areLines_360 : decode cL_areLines 360 = .ok (.iconst 0, 1) := by decide +kernel
theorem dL_areLines_361 : decode cL_areLines 361 = .ok (.istore 7, 2) := by decide +kernel
theorem dL_areLines_363 : decode cL_areLines 363 = .ok (.iinc 4 1, 3) := by decide +kernel
theorem dL_areLines_366 : decode cL_areLines 366 = .ok (.iinc 8 1, 3) := by decide +kernel
theorem dL_areLines_369 : decode cL_areLines 369 = .ok (.goto (-312), 3) := by decide +kernel
theorem dL_areLines_372 : decode cL_areLines 372 = .ok (.iload 7, 2) := by decide +kernel
theorem dL_areLines_374 : decode cL_areLines 374 = .ok (.ifCond .eq 58, 3) := by decide +kernel
theorem dL_areLines_377 : decode cL_areLines 377 = .ok (.aload_n 0, 1) := by decide +kernel
theorem dL_areLines_378 : decode cL_areLines 378 = .ok (.invokevirtual 93, 3) := by decide +kernel
theorem dL_areLines_381 : decode cL_areLines 381 = .ok (.iload 4, 2) := by decide +kernel
theorem dL_areLines_383 : decode cL_areLines 383 = .ok (.if_icmp .ne 49, 3) := by decide +kernel
theorem dL_areLines_386 : decode cL_areLines 386 = .ok (.aload_n 0, 1) := by decide +kernel
theorem dL_areLines_387 : decode cL_areLines 387 = .ok (.bipush 6, 2) := by decide +kernel
theorem dL_areLines_389 : decode cL_areLines 389 = .ok (.iload 4, 2) := by decide +kernel
theorem dL_areLines_391 : decode cL_areLines 391 = .ok (.iconst 0, 1) := by decide +kernel
theorem dL_areLines_392 : decode cL_areLines 392 = .ok (.iconst 0, 1) := by decide +kernel
theorem dL_areLines_393 : decode cL_areLines 393 = .ok (.invokestatic 112, 3) := by decide +kernel
theorem dL_areLines_396 : decode cL_areLines 396 = .ok (.ldc 81, 2) := by decide +kernel
theorem dL_areLines_398 : decode cL_areLines 398 = .ok (.if_icmp .ne 34, 3) := by decide +kernel
theorem dL_areLines_401 : decode cL_areLines 401 = .ok (.aload_n 0, 1) := by decide +kernel
theorem dL_areLines_402 : decode cL_areLines 402 = .ok (.bipush 6, 2) := by decide +kernel
theorem dL_areLines_404 : decode cL_areLines 404 = .ok (.iconst (-1), 1) := by decide +kernel
theorem dL_areLines_405 : decode cL_areLines 405 = .ok (.iconst 0, 1) := by decide +kernel
theorem dL_areLines_406 : decode cL_areLines 406 = .ok (.iconst 0, 1) := by decide +kernel
theorem dL_areLines_407 : decode cL_areLines 407 = .ok (.invokestatic 112, 3) := by decide +kernel
theorem dL_areLines_410 : decode cL_areLines 410 = .ok (.ldc 81, 2) := by decide +kernel
theorem dL_areLines_412 : decode cL_areLines 412 = .ok (.if_icmp .ne 20, 3) := by decide +kernel
theorem dL_areLines_415 : decode cL_areLines 415 = .ok (.aload_n 0, 1) := by decide +kernel
theorem dL_areLines_416 : decode cL_areLines 416 = .ok (.iload_n 3, 1) := by decide +kernel
theorem dL_areLines_417 : decode cL_areLines 417 = .ok (.bipush 6, 2) := by decide +kernel
theorem dL_areLines_419 : decode cL_areLines 419 = .ok (.irem, 1) := by decide +kernel
theorem dL_areLines_420 : decode cL_areLines 420 = .ok (.invokevirtual 73, 3) := by decide +kernel
theorem dL_areLines_423 : decode cL_areLines 423 = .ok (.iload 6, 2) := by decide +kernel
theorem dL_areLines_425 : decode cL_areLines 425 = .ok (.if_icmp .ne 7, 3) := by decide +kernel
theorem dL_areLines_428 : decode cL_areLines 428 = .ok (.iconst 1, 1) := by decide +kernel
theorem dL_areLines_429 : decode cL_areLines 429 = .ok (.goto 4, 3) := by decide +kernel
theorem dL_areLines_432 : decode cL_areLines 432 = .ok (.iconst 0, 1) := by decide +kernel
theorem dL_areLines_433 : decode cL_areLines 433 = .ok (.ireturn, 1) := by decide +kernel
set_option maxRecDepth 20000 in
theorem ggL_areTimes_X4_greatest : GoodIn wsL_areTimes wsX4_greatest := goodIn_ca (goodIn_r _ [7, 8, 9, 10, 11, 12, 6, 13, 14, 15, 16, 17, 18, 19, 20, 21, 22, 23, 61, 62, 63, 64, 65] (by decide +kernel) (by decide +kernel)) (goodIn_sub (fun _ h => List.mem_cons_of_mem _ (List.mem_append_left _ (List.mem_append_right _ h))) (by decide +kernel))
set_option maxRecDepth 20000 in
theorem gL_areTimes_X4_greatest : GoodIn wsL_areTimes (wsV RL 69 RX4 yX4_greatest wsX4_greatest) := goodIn_app (goodIn_of _ (by decide +kernel)) ggL_areTimes_X4_greatest
set_option maxRecDepth 20000 in
theorem ggL_areTimes_X4_mustComeBefore : GoodIn wsL_areTimes wsX4_mustComeBefore := goodIn_ca (goodIn_r _ [27, 28, 29, 30, 31, 32, 33, 34, 35, 36, 37, 38, 39, 40, 41, 42, 43, 6, 44, 45, 46, 47, 61, 62, 63, 64, 66, 67, 68, 69, 70, 71, 72, 73, 74] (by decide +kernel) (by decide +kernel)) (goodIn_sub (fun _ h => List.mem_cons_of_mem _ (List.mem_append_right _ h)) (by decide +kernel))
set_option maxRecDepth 20000 in
theorem gL_areTimes_X4_mustComeBefore : GoodIn wsL_areTimes (wsV RL 45 RX4 yX4_mustComeBefore wsX4_mustComeBefore) := goodIn_app (goodIn_of _ (by decide +kernel)) ggL_areTimes_X4_mustComeBefore
set_option maxRecDepth 20000 in
theorem ggL_areTimes_X4_earliest : GoodIn wsL_areTimes wsX4_earliest := goodIn_ca (goodIn_r _ [51, 28, 29, 30, 10, 31, 32, 33, 34, 35, 36, 52, 53, 54, 55, 56, 57, 58, 59, 42, 60, 18, 19, 20, 21, 22, 23, 12, 6, 13, 14, 15, 16, 61, 62, 63, 64, 66, 67, 68, 69, 70, 71, 72, 73, 74, 65] (by decide +kernel) (by decide +kernel)) (goodIn_sub (fun _ h => List.mem_cons_of_mem _ (List.mem_append_right _ h)) (by decide +kernel))
set_option maxRecDepth 20000 in
theorem gL_areTimes_X4_earliest : GoodIn wsL_areTimes (wsV RL 60 RX4 yX4_earliest wsX4_earliest) := goodIn_app (goodIn_of _ (by decide +kernel)) ggL_areTimes_X4_earliest
theorem dL_areTimes_0 : decode cL_areTimes 0 = .ok (.iconst 1, 1) := by decide +kernel
theorem dL_areTimes_1 : decode cL_areTimes 1 = .ok (.istore 4, 2) := by decide +kernel
theorem dL_areTimes_3 : decode cL_areTimes 3 = .ok (.iconst 0, 1) := by decide +kernel
theorem dL_areTimes_4 : decode cL_areTimes 4 = .ok (.istore 5, 2) := by decide +kernel
theorem dL_areTimes_6 : decode cL_areTimes 6 = .ok (.iload 5, 2) := by decide +kernel
theorem dL_areTimes_8 : decode cL_areTimes 8 = .ok (.aload_n 2, 1) := by decide +kernel
theorem dL_areTimes_9 : decode cL_areTimes 9 = .ok (.iconst 0, 1) := by decide +kernel
theorem dL_areTimes_10 : decode cL_areTimes 10 = .ok (.iaload, 1) := by decide +kernel
theorem dL_areTimes_11 : decode cL_areTimes 11 = .ok (.if_icmp .ge 172, 3) := by decide +kernel
theorem dL_areTimes_14 : decode cL_areTimes 14 = .ok (.iload 4, 2) := by decide +kernel
theorem dL_areTimes_16 : decode cL_areTimes 16 = .ok (.ifCond .eq 167, 3) := by decide +kernel
theorem dL_areTimes_19 : decode cL_areTimes 19 = .ok (.iload_n 3, 1) := by decide +kernel
theorem dL_areTimes_20 : decode cL_areTimes 20 = .ok (.iload 5, 2) := by decide +kernel
theorem dL_areTimes_22 : decode cL_areTimes 22 = .ok (.iadd, 1) := by decide +kernel
theorem dL_areTimes_23 : decode cL_areTimes 23 = .ok (.aload_n 2, 1) := by decide +kernel
theorem dL_areTimes_24 : decode cL_areTimes 24 = .ok (.iconst 0, 1) := by decide +kernel
theorem dL_areTimes_25 : decode cL_areTimes 25 = .ok (.iaload, 1) := by decide +kernel
theorem dL_areTimes_26 : decode cL_areTimes 26 = .ok (.irem, 1) := by decide +kernel
theorem dL_areTimes_27 : decode cL_areTimes 27 = .ok (.istore 6, 2) := by decide +kernel
theorem dL_areTimes_29 : decode cL_areTimes 29 = .ok (.aload_n 0, 1) := by decide +kernel
theorem dL_areTimes_30 : decode cL_areTimes 30 = .ok (.aload_n 1, 1) := by decide +kernel
theorem dL_areTimes_31 : decode cL_areTimes 31 = .ok (.iconst 5, 1) := by decide +kernel
theorem dL_areTimes_32 : decode cL_areTimes 32 = .ok (.iload 5, 2) := by decide +kernel
theorem dL_areTimes_34 : decode cL_areTimes 34 = .ok (.imul, 1) := by decide +kernel
theorem dL_areTimes_35 : decode cL_areTimes 35 = .ok (.iaload, 1) := by decide +kernel
theorem dL_areTimes_36 : decode cL_areTimes 36 = .ok (.aload_n 1, 1) := by decide +kernel
theorem dL_areTimes_37 : decode cL_areTimes 37 = .ok (.iconst 5, 1) := by decide +kernel
theorem dL_areTimes_38 : decode cL_areTimes 38 = .ok (.iload 6, 2) := by decide +kernel
theorem dL_areTimes_40 : decode cL_areTimes 40 = .ok (.imul, 1) := by decide +kernel
theorem dL_areTimes_41 : decode cL_areTimes 41 = .ok (.iaload, 1) := by decide +kernel
theorem dL_areTimes_42 : decode cL_areTimes 42 = .ok (.invokevirtual 69, 3) := by decide +kernel
theorem dL_areTimes_45 : decode cL_areTimes 45 = .ok (.istore 7, 2) := by decide +kernel
theorem dL_areTimes_47 : decode cL_areTimes 47 = .ok (.aload_n 0, 1) := by decide +kernel
theorem dL_areTimes_48 : decode cL_areTimes 48 = .ok (.iconst 0, 1) := by decide +kernel
theorem dL_areTimes_49 : decode cL_areTimes 49 = .ok (.aload_n 1, 1) := by decide +kernel
theorem dL_areTimes_50 : decode cL_areTimes 50 = .ok (.iconst 5, 1) := by decide +kernel
theorem dL_areTimes_51 : decode cL_areTimes 51 = .ok (.iload 5, 2) := by decide +kernel
theorem dL_areTimes_53 : decode cL_areTimes 53 = .ok (.imul, 1) := by decide +kernel
theorem dL_areTimes_54 : decode cL_areTimes 54 = .ok (.iaload, 1) := by decide +kernel
theorem dL_areTimes_55 : decode cL_areTimes 55 = .ok (.invokevirtual 69, 3) := by decide +kernel
theorem dL_areTimes_58 : decode cL_areTimes 58 = .ok (.istore 8, 2) := by decide +kernel
theorem dL_areTimes_60 : decode cL_areTimes 60 = .ok (.aload_n 0, 1) := by decide +kernel
theorem dL_areTimes_61 : decode cL_areTimes 61 = .ok (.iload 5, 2) := by decide +kernel
theorem dL_areTimes_63 : decode cL_areTimes 63 = .ok (.iload 6, 2) := by decide +kernel
theorem dL_areTimes_65 : decode cL_areTimes 65 = .ok (.invokevirtual 45, 3) := by decide +kernel
theorem dL_areTimes_68 : decode cL_areTimes 68 = .ok (.iload 7, 2) := by decide +kernel
theorem dL_areTimes_70 : decode cL_areTimes 70 = .ok (.ldc 111, 2) := by decide +kernel
theorem dL_areTimes_72 : decode cL_areTimes 72 = .ok (.if_icmp .eq 29, 3) := by decide +kernel
theorem dL_areTimes_75 : decode cL_areTimes 75 = .ok (.aload_n 1, 1) := by decide +kernel
theorem dL_areTimes_76 : decode cL_areTimes 76 = .ok (.iconst 5, 1) := by decide +kernel
theorem dL_areTimes_77 : decode cL_areTimes 77 = .ok (.iload 5, 2) := by decide +kernel
theorem dL_areTimes_79 : decode cL_areTimes 79 = .ok (.imul, 1) := by decide +kernel
theorem dL_areTimes_80 : decode cL_areTimes 80 = .ok (.iconst 1, 1) := by decide +kernel
theorem dL_areTimes_81 : decode cL_areTimes 81 = .ok (.iadd, 1) := by decide +kernel
theorem dL_areTimes_82 : decode cL_areTimes 82 = .ok (.iaload, 1) := by decide +kernel
theorem dL_areTimes_83 : decode cL_areTimes 83 = .ok (.iload 7, 2) := by decide +kernel
theorem dL_areTimes_85 : decode cL_areTimes 85 = .ok (.iadd, 1) := by decide +kernel
theorem dL_areTimes_86 : decode cL_areTimes 86 = .ok (.aload_n 1, 1) := by decide +kernel
theorem dL_areTimes_87 : decode cL_areTimes 87 = .ok (.iconst 5, 1) := by decide +kernel
theorem dL_areTimes_88 : decode cL_areTimes 88 = .ok (.iload 6, 2) := by decide +kernel
theorem dL_areTimes_90 : decode cL_areTimes 90 = .ok (.imul, 1) := by decide +kernel
theorem dL_areTimes_91 : decode cL_areTimes 91 = .ok (.iconst 1, 1) := by decide +kernel
theorem dL_areTimes_92 : decode cL_areTimes 92 = .ok (.iadd, 1) := by decide +kernel
theorem dL_areTimes_93 : decode cL_areTimes 93 = .ok (.iaload, 1) := by decide +kernel
theorem dL_areTimes_94 : decode cL_areTimes 94 = .ok (.if_icmp .ge 7, 3) := by decide +kernel
theorem dL_areTimes_97 : decode cL_areTimes 97 = .ok (.iconst 1, 1) := by decide +kernel
theorem dL_areTimes_98 : decode cL_areTimes 98 = .ok (.goto 4, 3) := by decide +kernel
theorem dL_areTimes_101 : decode cL_areTimes 101 = .ok (.iconst 0, 1) := by decide +kernel
theorem dL_areTimes_102 : decode cL_areTimes 102 = .ok (.if_icmp .ne 72, 3) := by decide +kernel
theorem dL_areTimes_105 : decode cL_areTimes 105 = .ok (.aload_n 0, 1) := by decide +kernel
theorem dL_areTimes_106 : decode cL_areTimes 106 = .ok (.iload 5, 2) := by decide +kernel
theorem dL_areTimes_108 : decode cL_areTimes 108 = .ok (.invokevirtual 60, 3) := by decide +kernel
theorem dL_areTimes_111 : decode cL_areTimes 111 = .ok (.iload 8, 2) := by decide +kernel
theorem dL_areTimes_113 : decode cL_areTimes 113 = .ok (.ldc 111, 2) := by decide +kernel
theorem dL_areTimes_115 : decode cL_areTimes 115 = .ok (.if_icmp .ne 8, 3) := by decide +kernel
theorem dL_areTimes_118 : decode cL_areTimes 118 = .ok (.ldc 118, 2) := by decide +kernel
theorem dL_areTimes_120 : decode cL_areTimes 120 = .ok (.goto 14, 3) := by decide +kernel
theorem dL_areTimes_123 : decode cL_areTimes 123 = .ok (.aload_n 1, 1) := by decide +kernel
theorem dL_areTimes_124 : decode cL_areTimes 124 = .ok (.iconst 5, 1) := by decide +kernel
theorem dL_areTimes_125 : decode cL_areTimes 125 = .ok (.iload 5, 2) := by decide +kernel
theorem dL_areTimes_127 : decode cL_areTimes 127 = .ok (.imul, 1) := by decide +kernel
theorem dL_areTimes_128 : decode cL_areTimes 128 = .ok (.iconst 1, 1) := by decide +kernel
theorem dL_areTimes_129 : decode cL_areTimes 129 = .ok (.iadd, 1) := by decide +kernel
theorem dL_areTimes_130 : decode cL_areTimes 130 = .ok (.iaload, 1) := by decide +kernel
theorem dL_areTimes_131 : decode cL_areTimes 131 = .ok (.iload 8, 2) := by decide +kernel
theorem dL_areTimes_133 : decode cL_areTimes 133 = .ok (.isub, 1) := by decide +kernel
theorem dL_areTimes_134 : decode cL_areTimes 134 = .ok (.if_icmp .ne 40, 3) := by decide +kernel
theorem dL_areTimes_137 : decode cL_areTimes 137 = .ok (.aload_n 0, 1) := by decide +kernel
theorem dL_areTimes_138 : decode cL_areTimes 138 = .ok (.iload 5, 2) := by decide +kernel
theorem dL_areTimes_140 : decode cL_areTimes 140 = .ok (.iload 5, 2) := by decide +kernel
theorem dL_areTimes_142 : decode cL_areTimes 142 = .ok (.invokevirtual 45, 3) := by decide +kernel
theorem dL_areTimes_145 : decode cL_areTimes 145 = .ok (.ifCond .ne 29, 3) := by decide +kernel
theorem dL_areTimes_148 : decode cL_areTimes 148 = .ok (.aload_n 0, 1) := by decide +kernel
theorem dL_areTimes_149 : decode cL_areTimes 149 = .ok (.iload 5, 2) := by decide +kernel
theorem dL_areTimes_151 : decode cL_areTimes 151 = .ok (.iload 6, 2) := by decide +kernel
theorem dL_areTimes_153 : decode cL_areTimes 153 = .ok (.invokevirtual 45, 3) := by decide +kernel
theorem dL_areTimes_156 : decode cL_areTimes 156 = .ok (.ifCond .eq 14, 3) := by decide +kernel
theorem dL_areTimes_159 : decode cL_areTimes 159 = .ok (.aload_n 0, 1) := by decide +kernel
theorem dL_areTimes_160 : decode cL_areTimes 160 = .ok (.iload 6, 2) := by decide +kernel
theorem dL_areTimes_162 : decode cL_areTimes 162 = .ok (.iload 5, 2) := by decide +kernel
theorem dL_areTimes_164 : decode cL_areTimes 164 = .ok (.invokevirtual 45, 3) := by decide +kernel
theorem dL_areTimes_167 : decode cL_areTimes 167 = .ok (.ifCond .ne 7, 3) := by decide +kernel
theorem dL_areTimes_170 : decode cL_areTimes 170 = .ok (.iconst 1, 1) := by decide +kernel
theorem dL_areTimes_171 : decode cL_areTimes 171 = .ok (.goto 4, 3) := by decide +kernel
theorem dL_areTimes_174 : decode cL_areTimes 174 = .ok (.iconst 0, 1) := by decide +kernel
theorem dL_areTimes_175 : decode cL_areTimes 175 = .ok (.istore 4, 2) := by decide +kernel
theorem dL_areTimes_177 : decode cL_areTimes 177 = .ok (.iinc 5 1, 3) := by decide +kernel
theorem dL_areTimes_180 : decode cL_areTimes 180 = .ok (.goto (-174), 3) := by decide +kernel
theorem dL_areTimes_183 : decode cL_areTimes 183 = .ok (.iload 4, 2) := by decide +kernel
theorem dL_areTimes_185 : decode cL_areTimes 185 = .ok (.ireturn, 1) := by decide +kernel
set_option maxRecDepth 20000 in
theorem ggL_areCauses_X4_roots : GoodIn wsL_areCauses wsX4_roots := goodIn_ca (goodIn_r _ [5, 6, 7, 8, 9, 10, 11, 12, 13, 14, 15, 16, 17, 18, 19, 20, 4, 21, 22, 23, 24, 25, 26, 27, 28, 29, 30, 31, 32, 33, 34, 35, 36, 37, 38, 47, 48, 49, 50, 51, 52, 53] (by decide +kernel) (by decide +kernel)) (goodIn_sub (fun _ h => List.mem_cons_of_mem _ (List.mem_append_right _ h)) (by decide +kernel))
set_option maxRecDepth 20000 in
theorem gL_areCauses_X4_roots : GoodIn wsL_areCauses (wsV RL 63 RX4 yX4_roots wsX4_roots) := goodIn_app (goodIn_of _ (by decide +kernel)) ggL_areCauses_X4_roots
set_option maxRecDepth 20000 in
theorem ggL_areCauses_X4_mainReason : GoodIn wsL_areCauses wsX4_mainReason := goodIn_ca (goodIn_r _ [42, 6, 7, 8, 9, 10, 11, 12, 13, 14, 43, 44, 45, 46, 19, 33, 34, 35, 36, 37, 38, 20, 4, 21, 22, 23, 24, 47, 48, 49, 50, 51, 52, 53] (by decide +kernel) (by decide +kernel)) (goodIn_sub (fun _ h => List.mem_cons_of_mem _ (List.mem_append_right _ h)) (by decide +kernel))
set_option maxRecDepth 20000 in
theorem gL_areCauses_X4_mainReason : GoodIn wsL_areCauses (wsV RL 66 RX4 yX4_mainReason wsX4_mainReason) := goodIn_app (goodIn_of _ (by decide +kernel)) ggL_areCauses_X4_mainReason
theorem dL_areCauses_0 : decode cL_areCauses 0 = .ok (.iconst 1, 1) := by decide +kernel
theorem dL_areCauses_1 : decode cL_areCauses 1 = .ok (.istore_n 3, 1) := by decide +kernel
theorem dL_areCauses_2 : decode cL_areCauses 2 = .ok (.iconst 0, 1) := by decide +kernel
theorem dL_areCauses_3 : decode cL_areCauses 3 = .ok (.istore 4, 2) := by decide +kernel
theorem dL_areCauses_5 : decode cL_areCauses 5 = .ok (.iload 4, 2) := by decide +kernel
theorem dL_areCauses_7 : decode cL_areCauses 7 = .ok (.aload_n 2, 1) := by decide +kernel
theorem dL_areCauses_8 : decode cL_areCauses 8 = .ok (.iconst 2, 1) := by decide +kernel
theorem dL_areCauses_9 : decode cL_areCauses 9 = .ok (.iaload, 1) := by decide +kernel
theorem dL_areCauses_10 : decode cL_areCauses 10 = .ok (.if_icmp .ge 272, 3) := by decide +kernel
theorem dL_areCauses_13 : decode cL_areCauses 13 = .ok (.iload_n 3, 1) := by decide +kernel
theorem dL_areCauses_14 : decode cL_areCauses 14 = .ok (.ifCond .eq 268, 3) := by decide +kernel
theorem dL_areCauses_17 : decode cL_areCauses 17 = .ok (.iconst 0, 1) := by decide +kernel
theorem dL_areCauses_18 : decode cL_areCauses 18 = .ok (.istore 5, 2) := by decide +kernel
theorem dL_areCauses_20 : decode cL_areCauses 20 = .ok (.aload_n 0, 1) := by decide +kernel
theorem dL_areCauses_21 : decode cL_areCauses 21 = .ok (.iload 4, 2) := by decide +kernel
theorem dL_areCauses_23 : decode cL_areCauses 23 = .ok (.invokevirtual 63, 3) := by decide +kernel
theorem dL_areCauses_26 : decode cL_areCauses 26 = .ok (.istore 6, 2) := by decide +kernel
theorem dL_areCauses_28 : decode cL_areCauses 28 = .ok (.aload_n 0, 1) := by decide +kernel
theorem dL_areCauses_29 : decode cL_areCauses 29 = .ok (.iload 4, 2) := by decide +kernel
theorem dL_areCauses_31 : decode cL_areCauses 31 = .ok (.invokevirtual 66, 3) := by decide +kernel
theorem dL_areCauses_34 : decode cL_areCauses 34 = .ok (.istore 7, 2) := by decide +kernel
theorem dL_areCauses_36 : decode cL_areCauses 36 = .ok (.iconst 0, 1) := by decide +kernel
theorem dL_areCauses_37 : decode cL_areCauses 37 = .ok (.istore 8, 2) := by decide +kernel
theorem dL_areCauses_39 : decode cL_areCauses 39 = .ok (.iload 8, 2) := by decide +kernel
theorem dL_areCauses_41 : decode cL_areCauses 41 = .ok (.aload_n 2, 1) := by decide +kernel
theorem dL_areCauses_42 : decode cL_areCauses 42 = .ok (.iconst 2, 1) := by decide +kernel
theorem dL_areCauses_43 : decode cL_areCauses 43 = .ok (.iaload, 1) := by decide +kernel
theorem dL_areCauses_44 : decode cL_areCauses 44 = .ok (.if_icmp .ge 134, 3) := by decide +kernel
theorem dL_areCauses_47 : decode cL_areCauses 47 = .ok (.iload_n 3, 1) := by decide +kernel
theorem dL_areCauses_48 : decode cL_areCauses 48 = .ok (.ifCond .eq 130, 3) := by decide +kernel
theorem dL_areCauses_51 : decode cL_areCauses 51 = .ok (.aload_n 1, 1) := by decide +kernel
theorem dL_areCauses_52 : decode cL_areCauses 52 = .ok (.bipush 8, 2) := by decide +kernel
theorem dL_areCauses_54 : decode cL_areCauses 54 = .ok (.iload 4, 2) := by decide +kernel
theorem dL_areCauses_56 : decode cL_areCauses 56 = .ok (.imul, 1) := by decide +kernel
theorem dL_areCauses_57 : decode cL_areCauses 57 = .ok (.iload 8, 2) := by decide +kernel
theorem dL_areCauses_59 : decode cL_areCauses 59 = .ok (.iadd, 1) := by decide +kernel
theorem dL_areCauses_60 : decode cL_areCauses 60 = .ok (.iaload, 1) := by decide +kernel
theorem dL_areCauses_61 : decode cL_areCauses 61 = .ok (.ifCond .le 19, 3) := by decide +kernel
theorem dL_areCauses_64 : decode cL_areCauses 64 = .ok (.aload_n 2, 1) := by decide +kernel
theorem dL_areCauses_65 : decode cL_areCauses 65 = .ok (.iconst 3, 1) := by decide +kernel
theorem dL_areCauses_66 : decode cL_areCauses 66 = .ok (.iaload, 1) := by decide +kernel
theorem dL_areCauses_67 : decode cL_areCauses 67 = .ok (.iload 8, 2) := by decide +kernel
theorem dL_areCauses_69 : decode cL_areCauses 69 = .ok (.ishr, 1) := by decide +kernel
theorem dL_areCauses_70 : decode cL_areCauses 70 = .ok (.iconst 1, 1) := by decide +kernel
theorem dL_areCauses_71 : decode cL_areCauses 71 = .ok (.iand, 1) := by decide +kernel
theorem dL_areCauses_72 : decode cL_areCauses 72 = .ok (.iconst 1, 1) := by decide +kernel
theorem dL_areCauses_73 : decode cL_areCauses 73 = .ok (.if_icmp .ne 7, 3) := by decide +kernel
theorem dL_areCauses_76 : decode cL_areCauses 76 = .ok (.iconst 1, 1) := by decide +kernel
theorem dL_areCauses_77 : decode cL_areCauses 77 = .ok (.goto 4, 3) := by decide +kernel
theorem dL_areCauses_80 : decode cL_areCauses 80 = .ok (.iconst 0, 1) := by decide +kernel
theorem dL_areCauses_81 : decode cL_areCauses 81 = .ok (.istore 9, 2) := by decide +kernel
theorem dL_areCauses_83 : decode cL_areCauses 83 = .ok (.iload 5, 2) := by decide +kernel
theorem dL_areCauses_85 : decode cL_areCauses 85 = .ok (.iload 9, 2) := by decide +kernel
theorem dL_areCauses_87 : decode cL_areCauses 87 = .ok (.ifCond .eq 12, 3) := by decide +kernel
theorem dL_areCauses_90 : decode cL_areCauses 90 = .ok (.aload_n 0, 1) := by decide +kernel
theorem dL_areCauses_91 : decode cL_areCauses 91 = .ok (.iload 8, 2) := by decide +kernel
theorem dL_areCauses_93 : decode cL_areCauses 93 = .ok (.invokevirtual 63, 3) := by decide +kernel
theorem dL_areCauses_96 : decode cL_areCauses 96 = .ok (.goto 4, 3) := by decide +kernel
theorem dL_areCauses_99 : decode cL_areCauses 99 = .ok (.iconst 0, 1) := by decide +kernel
theorem dL_areCauses_100 : decode cL_areCauses 100 = .ok (.ior, 1) := by decide +kernel
theorem dL_areCauses_101 : decode cL_areCauses 101 = .ok (.istore 5, 2) := by decide +kernel
theorem dL_areCauses_103 : decode cL_areCauses 103 = .ok (.iload 9, 2) := by decide +kernel
theorem dL_areCauses_105 : decode cL_areCauses 105 = .ok (.ifCond .eq 61, 3) := by decide +kernel
theorem dL_areCauses_108 : decode cL_areCauses 108 = .ok (.iload 7, 2) := by decide +kernel
theorem dL_areCauses_110 : decode cL_areCauses 110 = .ok (.ifCond .lt 60, 3) := by decide +kernel
theorem dL_areCauses_113 : decode cL_areCauses 113 = .ok (.aload_n 1, 1) := by decide +kernel
theorem dL_areCauses_114 : decode cL_areCauses 114 = .ok (.bipush 8, 2) := by decide +kernel
theorem dL_areCauses_116 : decode cL_areCauses 116 = .ok (.iload 4, 2) := by decide +kernel
theorem dL_areCauses_118 : decode cL_areCauses 118 = .ok (.imul, 1) := by decide +kernel
theorem dL_areCauses_119 : decode cL_areCauses 119 = .ok (.iload 8, 2) := by decide +kernel
theorem dL_areCauses_121 : decode cL_areCauses 121 = .ok (.iadd, 1) := by decide +kernel
theorem dL_areCauses_122 : decode cL_areCauses 122 = .ok (.iaload, 1) := by decide +kernel
theorem dL_areCauses_123 : decode cL_areCauses 123 = .ok (.aload_n 1, 1) := by decide +kernel
theorem dL_areCauses_124 : decode cL_areCauses 124 = .ok (.bipush 8, 2) := by decide +kernel
theorem dL_areCauses_126 : decode cL_areCauses 126 = .ok (.iload 4, 2) := by decide +kernel
theorem dL_areCauses_128 : decode cL_areCauses 128 = .ok (.imul, 1) := by decide +kernel
theorem dL_areCauses_129 : decode cL_areCauses 129 = .ok (.iload 7, 2) := by decide +kernel
theorem dL_areCauses_131 : decode cL_areCauses 131 = .ok (.iadd, 1) := by decide +kernel
theorem dL_areCauses_132 : decode cL_areCauses 132 = .ok (.iaload, 1) := by decide +kernel
theorem dL_areCauses_133 : decode cL_areCauses 133 = .ok (.if_icmp .lt 33, 3) := by decide +kernel
theorem dL_areCauses_136 : decode cL_areCauses 136 = .ok (.aload_n 1, 1) := by decide +kernel
theorem dL_areCauses_137 : decode cL_areCauses 137 = .ok (.bipush 8, 2) := by decide +kernel
theorem dL_areCauses_139 : decode cL_areCauses 139 = .ok (.iload 4, 2) := by decide +kernel
theorem dL_areCauses_141 : decode cL_areCauses 141 = .ok (.imul, 1) := by decide +kernel
theorem dL_areCauses_142 : decode cL_areCauses 142 = .ok (.iload 8, 2) := by decide +kernel
theorem dL_areCauses_144 : decode cL_areCauses 144 = .ok (.iadd, 1) := by decide +kernel
theorem dL_areCauses_145 : decode cL_areCauses 145 = .ok (.iaload, 1) := by decide +kernel
theorem dL_areCauses_146 : decode cL_areCauses 146 = .ok (.aload_n 1, 1) := by decide +kernel
theorem dL_areCauses_147 : decode cL_areCauses 147 = .ok (.bipush 8, 2) := by decide +kernel
theorem dL_areCauses_149 : decode cL_areCauses 149 = .ok (.iload 4, 2) := by decide +kernel
theorem dL_areCauses_151 : decode cL_areCauses 151 = .ok (.imul, 1) := by decide +kernel
theorem dL_areCauses_152 : decode cL_areCauses 152 = .ok (.iload 7, 2) := by decide +kernel
theorem dL_areCauses_154 : decode cL_areCauses 154 = .ok (.iadd, 1) := by decide +kernel
theorem dL_areCauses_155 : decode cL_areCauses 155 = .ok (.iaload, 1) := by decide +kernel
theorem dL_areCauses_156 : decode cL_areCauses 156 = .ok (.if_icmp .ne 14, 3) := by decide +kernel
theorem dL_areCauses_159 : decode cL_areCauses 159 = .ok (.iload 7, 2) := by decide +kernel
theorem dL_areCauses_161 : decode cL_areCauses 161 = .ok (.iload 8, 2) := by decide +kernel
theorem dL_areCauses_163 : decode cL_areCauses 163 = .ok (.if_icmp .gt 7, 3) := by decide +kernel
theorem dL_areCauses_166 : decode cL_areCauses 166 = .ok (.iconst 1, 1) := by decide +kernel
theorem dL_areCauses_167 : decode cL_areCauses 167 = .ok (.goto 4, 3) := by decide +kernel
theorem dL_areCauses_170 : decode cL_areCauses 170 = .ok (.iconst 0, 1) := by decide +kernel
theorem dL_areCauses_171 : decode cL_areCauses 171 = .ok (.istore_n 3, 1) := by decide +kernel
theorem dL_areCauses_172 : decode cL_areCauses 172 = .ok (.iinc 8 1, 3) := by decide +kernel
theorem dL_areCauses_175 : decode cL_areCauses 175 = .ok (.goto (-136), 3) := by decide +kernel
theorem dL_areCauses_178 : decode cL_areCauses 178 = .ok (.aload_n 2, 1) := by decide +kernel
theorem dL_areCauses_179 : decode cL_areCauses 179 = .ok (.iconst 3, 1) := by decide +kernel
theorem dL_areCauses_180 : decode cL_areCauses 180 = .ok (.iaload, 1) := by decide +kernel
theorem dL_areCauses_181 : decode cL_areCauses 181 = .ok (.iload 4, 2) := by decide +kernel
theorem dL_areCauses_183 : decode cL_areCauses 183 = .ok (.ishr, 1) := by decide +kernel
theorem dL_areCauses_184 : decode cL_areCauses 184 = .ok (.iconst 1, 1) := by decide +kernel
theorem dL_areCauses_185 : decode cL_areCauses 185 = .ok (.iand, 1) := by decide +kernel
theorem dL_areCauses_186 : decode cL_areCauses 186 = .ok (.iconst 1, 1) := by decide +kernel
theorem dL_areCauses_187 : decode cL_areCauses 187 = .ok (.if_icmp .ne 7, 3) := by decide +kernel
theorem dL_areCauses_190 : decode cL_areCauses 190 = .ok (.iconst 1, 1) := by decide +kernel
theorem dL_areCauses_191 : decode cL_areCauses 191 = .ok (.goto 4, 3) := by decide +kernel
theorem dL_areCauses_194 : decode cL_areCauses 194 = .ok (.iconst 0, 1) := by decide +kernel
theorem dL_areCauses_195 : decode cL_areCauses 195 = .ok (.istore 8, 2) := by decide +kernel
theorem dL_areCauses_197 : decode cL_areCauses 197 = .ok (.iload_n 3, 1) := by decide +kernel
theorem dL_areCauses_198 : decode cL_areCauses 198 = .ok (.ifCond .eq 76, 3) := by decide +kernel
theorem dL_areCauses_201 : decode cL_areCauses 201 = .ok (.iload 7, 2) := by decide +kernel
theorem dL_areCauses_203 : decode cL_areCauses 203 = .ok (.ifCond .lt 28, 3) := by decide +kernel
theorem dL_areCauses_206 : decode cL_areCauses 206 = .ok (.aload_n 1, 1) := by decide +kernel
theorem dL_areCauses_207 : decode cL_areCauses 207 = .ok (.bipush 8, 2) := by decide +kernel
theorem dL_areCauses_209 : decode cL_areCauses 209 = .ok (.iload 4, 2) := by decide +kernel
theorem dL_areCauses_211 : decode cL_areCauses 211 = .ok (.imul, 1) := by decide +kernel
theorem dL_areCauses_212 : decode cL_areCauses 212 = .ok (.iload 7, 2) := by decide +kernel
theorem dL_areCauses_214 : decode cL_areCauses 214 = .ok (.iadd, 1) := by decide +kernel
theorem dL_areCauses_215 : decode cL_areCauses 215 = .ok (.iaload, 1) := by decide +kernel
theorem dL_areCauses_216 : decode cL_areCauses 216 = .ok (.ifCond .le 58, 3) := by decide +kernel
theorem dL_areCauses_219 : decode cL_areCauses 219 = .ok (.aload_n 2, 1) := by decide +kernel
theorem dL_areCauses_220 : decode cL_areCauses 220 = .ok (.iconst 3, 1) := by decide +kernel
theorem dL_areCauses_221 : decode cL_areCauses 221 = .ok (.iaload, 1) := by decide +kernel
theorem dL_areCauses_222 : decode cL_areCauses 222 = .ok (.iload 7, 2) := by decide +kernel
theorem dL_areCauses_224 : decode cL_areCauses 224 = .ok (.ishr, 1) := by decide +kernel
theorem dL_areCauses_225 : decode cL_areCauses 225 = .ok (.iconst 1, 1) := by decide +kernel
theorem dL_areCauses_226 : decode cL_areCauses 226 = .ok (.iand, 1) := by decide +kernel
theorem dL_areCauses_227 : decode cL_areCauses 227 = .ok (.iconst 1, 1) := by decide +kernel
theorem dL_areCauses_228 : decode cL_areCauses 228 = .ok (.if_icmp .ne 46, 3) := by decide +kernel
theorem dL_areCauses_231 : decode cL_areCauses 231 = .ok (.iload 6, 2) := by decide +kernel
theorem dL_areCauses_233 : decode cL_areCauses 233 = .ok (.iload 8, 2) := by decide +kernel
theorem dL_areCauses_235 : decode cL_areCauses 235 = .ok (.ifCond .ne 7, 3) := by decide +kernel
theorem dL_areCauses_238 : decode cL_areCauses 238 = .ok (.iconst 0, 1) := by decide +kernel
theorem dL_areCauses_239 : decode cL_areCauses 239 = .ok (.goto 17, 3) := by decide +kernel
theorem dL_areCauses_242 : decode cL_areCauses 242 = .ok (.iload 7, 2) := by decide +kernel
theorem dL_areCauses_244 : decode cL_areCauses 244 = .ok (.ifCond .ge 10, 3) := by decide +kernel
theorem dL_areCauses_247 : decode cL_areCauses 247 = .ok (.iconst 1, 1) := by decide +kernel
theorem dL_areCauses_248 : decode cL_areCauses 248 = .ok (.iload 4, 2) := by decide +kernel
theorem dL_areCauses_250 : decode cL_areCauses 250 = .ok (.ishl, 1) := by decide +kernel
theorem dL_areCauses_251 : decode cL_areCauses 251 = .ok (.goto 5, 3) := by decide +kernel
theorem dL_areCauses_254 : decode cL_areCauses 254 = .ok (.iload 5, 2) := by decide +kernel
theorem dL_areCauses_256 : decode cL_areCauses 256 = .ok (.if_icmp .ne 18, 3) := by decide +kernel
theorem dL_areCauses_259 : decode cL_areCauses 259 = .ok (.iload 6, 2) := by decide +kernel
theorem dL_areCauses_261 : decode cL_areCauses 261 = .ok (.aload_n 2, 1) := by decide +kernel
theorem dL_areCauses_262 : decode cL_areCauses 262 = .ok (.iconst 3, 1) := by decide +kernel
theorem dL_areCauses_263 : decode cL_areCauses 263 = .ok (.iaload, 1) := by decide +kernel
theorem dL_areCauses_264 : decode cL_areCauses 264 = .ok (.iconst (-1), 1) := by decide +kernel
theorem dL_areCauses_265 : decode cL_areCauses 265 = .ok (.ixor, 1) := by decide +kernel
theorem dL_areCauses_266 : decode cL_areCauses 266 = .ok (.iand, 1) := by decide +kernel
theorem dL_areCauses_267 : decode cL_areCauses 267 = .ok (.ifCond .ne 7, 3) := by decide +kernel
theorem dL_areCauses_270 : decode cL_areCauses 270 = .ok (.iconst 1, 1) := by decide +kernel
theorem dL_areCauses_271 : decode cL_areCauses 271 = .ok (.goto 4, 3) := by decide +kernel
theorem dL_areCauses_274 : decode cL_areCauses 274 = .ok (.iconst 0, 1) := by decide +kernel
theorem dL_areCauses_275 : decode cL_areCauses 275 = .ok (.istore_n 3, 1) := by decide +kernel
theorem dL_areCauses_276 : decode cL_areCauses 276 = .ok (.iinc 4 1, 3) := by decide +kernel
theorem dL_areCauses_279 : decode cL_areCauses 279 = .ok (.goto (-274), 3) := by decide +kernel
theorem dL_areCauses_282 : decode cL_areCauses 282 = .ok (.iload_n 3, 1) := by decide +kernel
theorem dL_areCauses_283 : decode cL_areCauses 283 = .ok (.ireturn, 1) := by decide +kernel
set_option maxRecDepth 20000 in
theorem ggL_isRefused_L_all : GoodIn wsL_isRefused wsL_all := goodIn_ca (goodIn_ca (goodIn_r _ [8, 9, 10, 11, 12, 13, 14, 15, 16, 17, 18, 19, 20, 21, 22, 23, 24, 25, 26, 27, 28, 29, 30, 31, 32, 33, 34, 35, 36, 37, 38, 39, 40, 41, 42, 43, 44, 45, 46, 47, 48, 49, 50, 51, 52, 53, 54, 55, 56, 57, 58, 59, 60, 61, 62, 63, 64, 65, 66, 67, 68, 69, 70, 71, 72, 73, 74, 75, 76, 77, 78, 79, 80, 81, 82, 83, 84, 85, 86, 87, 88, 89, 90, 91, 92, 93, 94, 95, 96, 97, 98, 99, 100, 101, 102, 103, 104, 105, 106, 107, 108, 109, 110, 111, 112, 113, 114, 115, 116, 117, 118, 119, 120, 121, 122, 123, 124, 125, 126, 127, 128, 129, 130, 131, 132, 133, 134, 135, 136, 137, 138, 139, 140, 141, 142, 143, 144, 145, 146, 147, 148, 149, 150, 151, 152, 153, 154, 155, 156, 157, 158, 159, 160, 161, 162, 163, 164, 165, 166, 167, 168, 169, 170, 333, 334, 335, 336, 337, 338, 339, 340, 341, 342, 343, 344, 345, 346, 347, 348, 349, 350, 351, 352, 353, 354] (by decide +kernel) (by decide +kernel)) (goodIn_sub (fun _ h => List.mem_cons_of_mem _ (List.mem_append_left _ (List.mem_append_left _ (List.mem_append_right _ h)))) (by decide +kernel))) (goodIn_sub (fun _ h => List.mem_cons_of_mem _ (List.mem_append_left _ (List.mem_append_right _ h))) (by decide +kernel))
set_option maxRecDepth 20000 in
theorem gL_isRefused_L_all : GoodIn wsL_isRefused (va_wsS RL 119 yL_all wsL_all) := goodIn_app (goodIn_of _ (by decide +kernel)) ggL_isRefused_L_all
set_option maxRecDepth 20000 in
theorem ggL_isRefused_L_mark : GoodIn wsL_isRefused wsL_mark := goodIn_ca (goodIn_ca (goodIn_r _ [173, 174, 175, 1, 4, 176, 177, 178, 19, 179, 87, 88, 180, 181, 101, 21, 102, 103, 104, 92, 81, 82, 182, 183, 184, 185, 186, 187, 108, 188, 189, 106, 107, 109, 110, 111, 190, 191, 192, 193, 194, 69, 70, 71, 195, 196, 197, 25, 198, 27, 199, 40, 200, 201, 202, 203, 204, 205, 206, 207, 208, 209, 210, 41, 42, 43, 44, 211, 147, 148, 212, 213, 214, 215, 144, 145, 146, 333, 334, 335, 336, 351, 337, 338, 339, 340, 341, 342, 343, 344, 345] (by decide +kernel) (by decide +kernel)) (goodIn_sub (fun _ h => List.mem_cons_of_mem _ (List.mem_append_left _ (List.mem_append_left _ (List.mem_append_right _ h)))) (by decide +kernel))) (goodIn_sub (fun _ h => List.mem_cons_of_mem _ (List.mem_append_right _ h)) (by decide +kernel))
set_option maxRecDepth 20000 in
theorem gL_isRefused_L_mark : GoodIn wsL_isRefused (va_wsS RL 123 yL_mark wsL_mark) := goodIn_app (goodIn_of _ (by decide +kernel)) ggL_isRefused_L_mark
set_option maxRecDepth 20000 in
theorem ggL_isRefused_L_act : GoodIn wsL_isRefused wsL_act := goodIn_ca (goodIn_ca (goodIn_ca (goodIn_r _ [218, 219, 174, 175, 2, 1, 4, 220, 221, 222, 19, 223, 116, 117, 87, 88, 21, 118, 42, 43, 25, 44, 27, 92, 81, 82, 224, 225, 226, 227, 50, 41, 228, 229, 230, 231, 180, 181, 132, 133, 134, 135, 136, 137, 138, 232, 233, 234, 235, 147, 148, 149, 150, 151, 152, 144, 145, 146, 153, 154, 155, 156, 157, 158, 159, 160, 161, 162, 236, 237, 238, 239, 240, 241, 242, 243, 244, 245, 246, 247, 143, 248, 249, 250, 251, 252, 253, 254, 255, 199, 112, 113, 114, 115, 119, 37, 38, 39, 40, 120, 121, 122, 123, 124, 125, 126, 127, 256, 257, 258, 259, 260, 261, 262, 263, 36, 45, 46, 47, 48, 49, 264, 265, 266, 267, 101, 268, 269, 270, 271, 272, 208, 209, 210, 211, 106, 107, 108, 109, 110, 111, 103, 104, 128, 129, 130, 131, 139, 140, 141, 142, 163, 164, 165, 166, 167, 168, 169, 170, 97, 98, 99, 100, 102, 105, 273, 274, 275, 276, 89, 90, 91, 277, 278, 279, 280, 281, 83, 84, 85, 86, 55, 93, 94, 95, 59, 96, 61, 62, 63, 64, 65, 66, 67, 68, 69, 70, 71, 72, 73, 74, 75, 76, 77, 78, 79, 80, 333, 334, 335, 336, 337, 338, 339, 340, 341, 342, 343, 344, 345, 352, 353, 354, 351, 346, 347, 348, 349, 350] (by decide +kernel) (by decide +kernel)) (goodIn_sub (fun _ h => List.mem_cons_of_mem _ (List.mem_append_left _ (List.mem_append_right _ h))) (by decide +kernel))) (goodIn_sub (fun _ h => List.mem_cons_of_mem _ (List.mem_append_left _ (List.mem_append_left _ (List.mem_append_right _ h)))) (by decide +kernel))) (goodIn_sub (fun _ h => List.mem_cons_of_mem _ (List.mem_append_right _ h)) (by decide +kernel))
set_option maxRecDepth 20000 in
theorem gL_isRefused_L_act : GoodIn wsL_isRefused (va_wsS RL 112 yL_act wsL_act) := goodIn_app (goodIn_of _ (by decide +kernel)) ggL_isRefused_L_act
set_option maxRecDepth 20000 in
theorem ggL_isRefused_L_add : GoodIn wsL_isRefused wsL_add := goodIn_ca (goodIn_ca (goodIn_r _ [284, 174, 175, 1, 4, 285, 286, 287, 19, 288, 87, 88, 180, 181, 21, 101, 102, 103, 104, 92, 81, 82, 182, 183, 184, 89, 90, 91, 22, 23, 24, 25, 26, 27, 289, 290, 291, 292, 208, 210, 281, 49, 195, 196, 197, 198, 199, 40, 200, 201, 202, 203, 204, 205, 206, 207, 209, 41, 42, 43, 44, 211, 106, 107, 108, 109, 110, 111, 147, 148, 212, 213, 214, 215, 144, 145, 146, 293, 294, 295, 296, 55, 297, 298, 299, 59, 300, 61, 301, 302, 303, 304, 76, 67, 66, 77, 305, 306, 307, 308, 132, 309, 310, 311, 136, 312, 138, 313, 314, 315, 316, 143, 333, 334, 335, 336, 337, 338, 339, 340, 341, 342, 343, 344, 345, 351, 346, 347, 348, 349, 350, 352, 353, 354] (by decide +kernel) (by decide +kernel)) (goodIn_sub (fun _ h => List.mem_cons_of_mem _ (List.mem_append_left _ (List.mem_append_left _ (List.mem_append_right _ h)))) (by decide +kernel))) (goodIn_sub (fun _ h => List.mem_cons_of_mem _ (List.mem_append_right _ h)) (by decide +kernel))
set_option maxRecDepth 20000 in
theorem gL_isRefused_L_add : GoodIn wsL_isRefused (va_wsS RL 126 yL_add wsL_add) := goodIn_app (goodIn_of _ (by decide +kernel)) ggL_isRefused_L_add
set_option maxRecDepth 20000 in
theorem ggL_isRefused_L_orders : GoodIn wsL_isRefused wsL_orders := goodIn_ca (goodIn_r _ [319, 175, 3, 320, 321, 322, 19, 323, 180, 181, 21, 22, 23, 24, 25, 26, 27, 324, 325, 326, 327, 328, 147, 148, 329, 330, 331, 332, 199, 333, 334, 335, 336, 337, 338, 339, 340, 341, 342, 343, 344, 345] (by decide +kernel) (by decide +kernel)) (goodIn_sub (fun _ h => List.mem_cons_of_mem _ (List.mem_append_right _ h)) (by decide +kernel))
set_option maxRecDepth 20000 in
theorem gL_isRefused_L_orders : GoodIn wsL_isRefused (va_wsS RL 129 yL_orders wsL_orders) := goodIn_app (goodIn_of _ (by decide +kernel)) ggL_isRefused_L_orders
theorem dL_isRefused_0 : decode cL_isRefused 0 = .ok (.iload_n 2, 1) := by decide +kernel
theorem dL_isRefused_1 : decode cL_isRefused 1 = .ok (.iconst 2, 1) := by decide +kernel
theorem dL_isRefused_2 : decode cL_isRefused 2 = .ok (.irem, 1) := by decide +kernel
theorem dL_isRefused_3 : decode cL_isRefused 3 = .ok (.ifCond .ne 7, 3) := by decide +kernel
theorem dL_isRefused_6 : decode cL_isRefused 6 = .ok (.iconst 1, 1) := by decide +kernel
theorem dL_isRefused_7 : decode cL_isRefused 7 = .ok (.goto 4, 3) := by decide +kernel
theorem dL_isRefused_10 : decode cL_isRefused 10 = .ok (.iconst 0, 1) := by decide +kernel
theorem dL_isRefused_11 : decode cL_isRefused 11 = .ok (.istore_n 3, 1) := by decide +kernel
theorem dL_isRefused_12 : decode cL_isRefused 12 = .ok (.iload_n 3, 1) := by decide +kernel
theorem dL_isRefused_13 : decode cL_isRefused 13 = .ok (.ifCond .eq 12, 3) := by decide +kernel
theorem dL_isRefused_16 : decode cL_isRefused 16 = .ok (.iconst (-1), 1) := by decide +kernel
theorem dL_isRefused_17 : decode cL_isRefused 17 = .ok (.iload_n 2, 1) := by decide +kernel
theorem dL_isRefused_18 : decode cL_isRefused 18 = .ok (.bipush 30, 2) := by decide +kernel
theorem dL_isRefused_20 : decode cL_isRefused 20 = .ok (.irem, 1) := by decide +kernel
theorem dL_isRefused_21 : decode cL_isRefused 21 = .ok (.isub, 1) := by decide +kernel
theorem dL_isRefused_22 : decode cL_isRefused 22 = .ok (.goto 9, 3) := by decide +kernel
theorem dL_isRefused_25 : decode cL_isRefused 25 = .ok (.iconst 5, 1) := by decide +kernel
theorem dL_isRefused_26 : decode cL_isRefused 26 = .ok (.iload_n 2, 1) := by decide +kernel
theorem dL_isRefused_27 : decode cL_isRefused 27 = .ok (.bipush 30, 2) := by decide +kernel
theorem dL_isRefused_29 : decode cL_isRefused 29 = .ok (.irem, 1) := by decide +kernel
theorem dL_isRefused_30 : decode cL_isRefused 30 = .ok (.iadd, 1) := by decide +kernel
theorem dL_isRefused_31 : decode cL_isRefused 31 = .ok (.istore 4, 2) := by decide +kernel
theorem dL_isRefused_33 : decode cL_isRefused 33 = .ok (.iload_n 3, 1) := by decide +kernel
theorem dL_isRefused_34 : decode cL_isRefused 34 = .ok (.ifCond .eq 12, 3) := by decide +kernel
theorem dL_isRefused_37 : decode cL_isRefused 37 = .ok (.iconst (-1), 1) := by decide +kernel
theorem dL_isRefused_38 : decode cL_isRefused 38 = .ok (.iload_n 2, 1) := by decide +kernel
theorem dL_isRefused_39 : decode cL_isRefused 39 = .ok (.bipush 30, 2) := by decide +kernel
theorem dL_isRefused_41 : decode cL_isRefused 41 = .ok (.irem, 1) := by decide +kernel
theorem dL_isRefused_42 : decode cL_isRefused 42 = .ok (.isub, 1) := by decide +kernel
theorem dL_isRefused_43 : decode cL_isRefused 43 = .ok (.goto 10, 3) := by decide +kernel
theorem dL_isRefused_46 : decode cL_isRefused 46 = .ok (.bipush 6, 2) := by decide +kernel
theorem dL_isRefused_48 : decode cL_isRefused 48 = .ok (.iload_n 2, 1) := by decide +kernel
theorem dL_isRefused_49 : decode cL_isRefused 49 = .ok (.bipush 30, 2) := by decide +kernel
theorem dL_isRefused_51 : decode cL_isRefused 51 = .ok (.irem, 1) := by decide +kernel
theorem dL_isRefused_52 : decode cL_isRefused 52 = .ok (.iadd, 1) := by decide +kernel
theorem dL_isRefused_53 : decode cL_isRefused 53 = .ok (.istore 5, 2) := by decide +kernel
theorem dL_isRefused_55 : decode cL_isRefused 55 = .ok (.iload_n 3, 1) := by decide +kernel
theorem dL_isRefused_56 : decode cL_isRefused 56 = .ok (.ifCond .eq 12, 3) := by decide +kernel
theorem dL_isRefused_59 : decode cL_isRefused 59 = .ok (.iconst (-1), 1) := by decide +kernel
theorem dL_isRefused_60 : decode cL_isRefused 60 = .ok (.iload_n 2, 1) := by decide +kernel
theorem dL_isRefused_61 : decode cL_isRefused 61 = .ok (.bipush 30, 2) := by decide +kernel
theorem dL_isRefused_63 : decode cL_isRefused 63 = .ok (.irem, 1) := by decide +kernel
theorem dL_isRefused_64 : decode cL_isRefused 64 = .ok (.isub, 1) := by decide +kernel
theorem dL_isRefused_65 : decode cL_isRefused 65 = .ok (.goto 11, 3) := by decide +kernel
theorem dL_isRefused_68 : decode cL_isRefused 68 = .ok (.sipush 10001, 3) := by decide +kernel
theorem dL_isRefused_71 : decode cL_isRefused 71 = .ok (.iload_n 2, 1) := by decide +kernel
theorem dL_isRefused_72 : decode cL_isRefused 72 = .ok (.bipush 30, 2) := by decide +kernel
theorem dL_isRefused_74 : decode cL_isRefused 74 = .ok (.irem, 1) := by decide +kernel
theorem dL_isRefused_75 : decode cL_isRefused 75 = .ok (.iadd, 1) := by decide +kernel
theorem dL_isRefused_76 : decode cL_isRefused 76 = .ok (.istore 6, 2) := by decide +kernel
theorem dL_isRefused_78 : decode cL_isRefused 78 = .ok (.iload_n 3, 1) := by decide +kernel
theorem dL_isRefused_79 : decode cL_isRefused 79 = .ok (.ifCond .eq 12, 3) := by decide +kernel
theorem dL_isRefused_82 : decode cL_isRefused 82 = .ok (.iconst (-1), 1) := by decide +kernel
theorem dL_isRefused_83 : decode cL_isRefused 83 = .ok (.iload_n 2, 1) := by decide +kernel
theorem dL_isRefused_84 : decode cL_isRefused 84 = .ok (.bipush 30, 2) := by decide +kernel
theorem dL_isRefused_86 : decode cL_isRefused 86 = .ok (.irem, 1) := by decide +kernel
theorem dL_isRefused_87 : decode cL_isRefused 87 = .ok (.isub, 1) := by decide +kernel
theorem dL_isRefused_88 : decode cL_isRefused 88 = .ok (.goto 11, 3) := by decide +kernel
theorem dL_isRefused_91 : decode cL_isRefused 91 = .ok (.aload_n 1, 1) := by decide +kernel
theorem dL_isRefused_92 : decode cL_isRefused 92 = .ok (.iconst 0, 1) := by decide +kernel
theorem dL_isRefused_93 : decode cL_isRefused 93 = .ok (.iaload, 1) := by decide +kernel
theorem dL_isRefused_94 : decode cL_isRefused 94 = .ok (.iload_n 2, 1) := by decide +kernel
theorem dL_isRefused_95 : decode cL_isRefused 95 = .ok (.bipush 30, 2) := by decide +kernel
theorem dL_isRefused_97 : decode cL_isRefused 97 = .ok (.irem, 1) := by decide +kernel
theorem dL_isRefused_98 : decode cL_isRefused 98 = .ok (.iadd, 1) := by decide +kernel
theorem dL_isRefused_99 : decode cL_isRefused 99 = .ok (.istore 7, 2) := by decide +kernel
theorem dL_isRefused_101 : decode cL_isRefused 101 = .ok (.iload_n 3, 1) := by decide +kernel
theorem dL_isRefused_102 : decode cL_isRefused 102 = .ok (.ifCond .eq 12, 3) := by decide +kernel
theorem dL_isRefused_105 : decode cL_isRefused 105 = .ok (.iconst (-1), 1) := by decide +kernel
theorem dL_isRefused_106 : decode cL_isRefused 106 = .ok (.iload_n 2, 1) := by decide +kernel
theorem dL_isRefused_107 : decode cL_isRefused 107 = .ok (.bipush 30, 2) := by decide +kernel
theorem dL_isRefused_109 : decode cL_isRefused 109 = .ok (.irem, 1) := by decide +kernel
theorem dL_isRefused_110 : decode cL_isRefused 110 = .ok (.isub, 1) := by decide +kernel
theorem dL_isRefused_111 : decode cL_isRefused 111 = .ok (.goto 11, 3) := by decide +kernel
theorem dL_isRefused_114 : decode cL_isRefused 114 = .ok (.aload_n 1, 1) := by decide +kernel
theorem dL_isRefused_115 : decode cL_isRefused 115 = .ok (.iconst 2, 1) := by decide +kernel
theorem dL_isRefused_116 : decode cL_isRefused 116 = .ok (.iaload, 1) := by decide +kernel
theorem dL_isRefused_117 : decode cL_isRefused 117 = .ok (.iload_n 2, 1) := by decide +kernel
theorem dL_isRefused_118 : decode cL_isRefused 118 = .ok (.bipush 30, 2) := by decide +kernel
theorem dL_isRefused_120 : decode cL_isRefused 120 = .ok (.irem, 1) := by decide +kernel
theorem dL_isRefused_121 : decode cL_isRefused 121 = .ok (.iadd, 1) := by decide +kernel
theorem dL_isRefused_122 : decode cL_isRefused 122 = .ok (.istore 8, 2) := by decide +kernel
theorem dL_isRefused_124 : decode cL_isRefused 124 = .ok (.aload_n 0, 1) := by decide +kernel
theorem dL_isRefused_125 : decode cL_isRefused 125 = .ok (.aload_n 1, 1) := by decide +kernel
theorem dL_isRefused_126 : decode cL_isRefused 126 = .ok (.invokestatic 119, 3) := by decide +kernel
theorem dL_isRefused_129 : decode cL_isRefused 129 = .ok (.lstore 9, 2) := by decide +kernel
theorem dL_isRefused_131 : decode cL_isRefused 131 = .ok (.aload_n 0, 1) := by decide +kernel
theorem dL_isRefused_132 : decode cL_isRefused 132 = .ok (.iload 4, 2) := by decide +kernel
theorem dL_isRefused_134 : decode cL_isRefused 134 = .ok (.iconst 5, 1) := by decide +kernel
theorem dL_isRefused_135 : decode cL_isRefused 135 = .ok (.iconst 1, 1) := by decide +kernel
theorem dL_isRefused_136 : decode cL_isRefused 136 = .ok (.iconst 5, 1) := by decide +kernel
theorem dL_isRefused_137 : decode cL_isRefused 137 = .ok (.iconst 5, 1) := by decide +kernel
theorem dL_isRefused_138 : decode cL_isRefused 138 = .ok (.invokestatic 123, 3) := by decide +kernel
theorem dL_isRefused_141 : decode cL_isRefused 141 = .ok (.ldc 17, 2) := by decide +kernel
theorem dL_isRefused_143 : decode cL_isRefused 143 = .ok (.if_icmp .ne 285, 3) := by decide +kernel
theorem dL_isRefused_146 : decode cL_isRefused 146 = .ok (.aload_n 0, 1) := by decide +kernel
theorem dL_isRefused_147 : decode cL_isRefused 147 = .ok (.iconst 1, 1) := by decide +kernel
theorem dL_isRefused_148 : decode cL_isRefused 148 = .ok (.iload 6, 2) := by decide +kernel
theorem dL_isRefused_150 : decode cL_isRefused 150 = .ok (.iconst 2, 1) := by decide +kernel
theorem dL_isRefused_151 : decode cL_isRefused 151 = .ok (.iconst 5, 1) := by decide +kernel
theorem dL_isRefused_152 : decode cL_isRefused 152 = .ok (.iconst 5, 1) := by decide +kernel
theorem dL_isRefused_153 : decode cL_isRefused 153 = .ok (.invokestatic 123, 3) := by decide +kernel
theorem dL_isRefused_156 : decode cL_isRefused 156 = .ok (.ldc 17, 2) := by decide +kernel
theorem dL_isRefused_158 : decode cL_isRefused 158 = .ok (.if_icmp .ne 270, 3) := by decide +kernel
theorem dL_isRefused_161 : decode cL_isRefused 161 = .ok (.aload_n 0, 1) := by decide +kernel
theorem dL_isRefused_162 : decode cL_isRefused 162 = .ok (.iconst 1, 1) := by decide +kernel
theorem dL_isRefused_163 : decode cL_isRefused 163 = .ok (.iconst 5, 1) := by decide +kernel
theorem dL_isRefused_164 : decode cL_isRefused 164 = .ok (.iload 4, 2) := by decide +kernel
theorem dL_isRefused_166 : decode cL_isRefused 166 = .ok (.iconst 5, 1) := by decide +kernel
theorem dL_isRefused_167 : decode cL_isRefused 167 = .ok (.iconst 5, 1) := by decide +kernel
theorem dL_isRefused_168 : decode cL_isRefused 168 = .ok (.invokestatic 123, 3) := by decide +kernel
theorem dL_isRefused_171 : decode cL_isRefused 171 = .ok (.ldc 17, 2) := by decide +kernel
theorem dL_isRefused_173 : decode cL_isRefused 173 = .ok (.if_icmp .ne 255, 3) := by decide +kernel
theorem dL_isRefused_176 : decode cL_isRefused 176 = .ok (.aload_n 0, 1) := by decide +kernel
theorem dL_isRefused_177 : decode cL_isRefused 177 = .ok (.iconst 1, 1) := by decide +kernel
theorem dL_isRefused_178 : decode cL_isRefused 178 = .ok (.iconst 5, 1) := by decide +kernel
theorem dL_isRefused_179 : decode cL_isRefused 179 = .ok (.iconst 2, 1) := by decide +kernel
theorem dL_isRefused_180 : decode cL_isRefused 180 = .ok (.iload 6, 2) := by decide +kernel
theorem dL_isRefused_182 : decode cL_isRefused 182 = .ok (.iconst 5, 1) := by decide +kernel
theorem dL_isRefused_183 : decode cL_isRefused 183 = .ok (.invokestatic 123, 3) := by decide +kernel
theorem dL_isRefused_186 : decode cL_isRefused 186 = .ok (.ldc 17, 2) := by decide +kernel
theorem dL_isRefused_188 : decode cL_isRefused 188 = .ok (.if_icmp .ne 240, 3) := by decide +kernel
theorem dL_isRefused_191 : decode cL_isRefused 191 = .ok (.aload_n 0, 1) := by decide +kernel
theorem dL_isRefused_192 : decode cL_isRefused 192 = .ok (.iconst 1, 1) := by decide +kernel
theorem dL_isRefused_193 : decode cL_isRefused 193 = .ok (.iconst 5, 1) := by decide +kernel
theorem dL_isRefused_194 : decode cL_isRefused 194 = .ok (.iconst 2, 1) := by decide +kernel
theorem dL_isRefused_195 : decode cL_isRefused 195 = .ok (.iconst 5, 1) := by decide +kernel
theorem dL_isRefused_196 : decode cL_isRefused 196 = .ok (.iload_n 3, 1) := by decide +kernel
theorem dL_isRefused_197 : decode cL_isRefused 197 = .ok (.ifCond .eq 7, 3) := by decide +kernel
theorem dL_isRefused_200 : decode cL_isRefused 200 = .ok (.iconst (-1), 1) := by decide +kernel
theorem dL_isRefused_201 : decode cL_isRefused 201 = .ok (.goto 6, 3) := by decide +kernel
theorem dL_isRefused_204 : decode cL_isRefused 204 = .ok (.sipush 1001, 3) := by decide +kernel
theorem dL_isRefused_207 : decode cL_isRefused 207 = .ok (.invokestatic 123, 3) := by decide +kernel
theorem dL_isRefused_210 : decode cL_isRefused 210 = .ok (.ldc 17, 2) := by decide +kernel
theorem dL_isRefused_212 : decode cL_isRefused 212 = .ok (.if_icmp .ne 216, 3) := by decide +kernel
theorem dL_isRefused_215 : decode cL_isRefused 215 = .ok (.aload_n 0, 1) := by decide +kernel
theorem dL_isRefused_216 : decode cL_isRefused 216 = .ok (.iload_n 2, 1) := by decide +kernel
theorem dL_isRefused_217 : decode cL_isRefused 217 = .ok (.iconst 5, 1) := by decide +kernel
theorem dL_isRefused_218 : decode cL_isRefused 218 = .ok (.irem, 1) := by decide +kernel
theorem dL_isRefused_219 : decode cL_isRefused 219 = .ok (.iconst 5, 1) := by decide +kernel
theorem dL_isRefused_220 : decode cL_isRefused 220 = .ok (.iload_n 2, 1) := by decide +kernel
theorem dL_isRefused_221 : decode cL_isRefused 221 = .ok (.iconst 5, 1) := by decide +kernel
theorem dL_isRefused_222 : decode cL_isRefused 222 = .ok (.irem, 1) := by decide +kernel
theorem dL_isRefused_223 : decode cL_isRefused 223 = .ok (.iconst 5, 1) := by decide +kernel
theorem dL_isRefused_224 : decode cL_isRefused 224 = .ok (.iconst 5, 1) := by decide +kernel
theorem dL_isRefused_225 : decode cL_isRefused 225 = .ok (.invokestatic 123, 3) := by decide +kernel
theorem dL_isRefused_228 : decode cL_isRefused 228 = .ok (.ldc 17, 2) := by decide +kernel
theorem dL_isRefused_230 : decode cL_isRefused 230 = .ok (.if_icmp .ne 198, 3) := by decide +kernel
theorem dL_isRefused_233 : decode cL_isRefused 233 = .ok (.aload_n 0, 1) := by decide +kernel
theorem dL_isRefused_234 : decode cL_isRefused 234 = .ok (.bipush 10, 2) := by decide +kernel
theorem dL_isRefused_236 : decode cL_isRefused 236 = .ok (.iload 4, 2) := by decide +kernel
theorem dL_isRefused_238 : decode cL_isRefused 238 = .ok (.iconst 0, 1) := by decide +kernel
theorem dL_isRefused_239 : decode cL_isRefused 239 = .ok (.iconst 0, 1) := by decide +kernel
theorem dL_isRefused_240 : decode cL_isRefused 240 = .ok (.invokestatic 112, 3) := by decide +kernel
theorem dL_isRefused_243 : decode cL_isRefused 243 = .ok (.ldc 17, 2) := by decide +kernel
theorem dL_isRefused_245 : decode cL_isRefused 245 = .ok (.if_icmp .ne 183, 3) := by decide +kernel
theorem dL_isRefused_248 : decode cL_isRefused 248 = .ok (.aload_n 0, 1) := by decide +kernel
theorem dL_isRefused_249 : decode cL_isRefused 249 = .ok (.bipush 10, 2) := by decide +kernel
theorem dL_isRefused_251 : decode cL_isRefused 251 = .ok (.iconst 0, 1) := by decide +kernel
theorem dL_isRefused_252 : decode cL_isRefused 252 = .ok (.iload 4, 2) := by decide +kernel
theorem dL_isRefused_254 : decode cL_isRefused 254 = .ok (.iconst 0, 1) := by decide +kernel
theorem dL_isRefused_255 : decode cL_isRefused 255 = .ok (.invokestatic 112, 3) := by decide +kernel
theorem dL_isRefused_258 : decode cL_isRefused 258 = .ok (.ldc 17, 2) := by decide +kernel
theorem dL_isRefused_260 : decode cL_isRefused 260 = .ok (.if_icmp .ne 168, 3) := by decide +kernel
theorem dL_isRefused_263 : decode cL_isRefused 263 = .ok (.aload_n 0, 1) := by decide +kernel
theorem dL_isRefused_264 : decode cL_isRefused 264 = .ok (.iconst 0, 1) := by decide +kernel
theorem dL_isRefused_265 : decode cL_isRefused 265 = .ok (.iload 4, 2) := by decide +kernel
theorem dL_isRefused_267 : decode cL_isRefused 267 = .ok (.iconst 5, 1) := by decide +kernel
theorem dL_isRefused_268 : decode cL_isRefused 268 = .ok (.iconst 5, 1) := by decide +kernel
theorem dL_isRefused_269 : decode cL_isRefused 269 = .ok (.iconst 1, 1) := by decide +kernel
theorem dL_isRefused_270 : decode cL_isRefused 270 = .ok (.invokestatic 126, 3) := by decide +kernel
theorem dL_isRefused_273 : decode cL_isRefused 273 = .ok (.ldc 17, 2) := by decide +kernel
theorem dL_isRefused_275 : decode cL_isRefused 275 = .ok (.if_icmp .ne 153, 3) := by decide +kernel
theorem dL_isRefused_278 : decode cL_isRefused 278 = .ok (.aload_n 0, 1) := by decide +kernel
theorem dL_isRefused_279 : decode cL_isRefused 279 = .ok (.iconst 0, 1) := by decide +kernel
theorem dL_isRefused_280 : decode cL_isRefused 280 = .ok (.iconst 1, 1) := by decide +kernel
theorem dL_isRefused_281 : decode cL_isRefused 281 = .ok (.iload 6, 2) := by decide +kernel
theorem dL_isRefused_283 : decode cL_isRefused 283 = .ok (.iconst 5, 1) := by decide +kernel
theorem dL_isRefused_284 : decode cL_isRefused 284 = .ok (.iconst 1, 1) := by decide +kernel
theorem dL_isRefused_285 : decode cL_isRefused 285 = .ok (.invokestatic 126, 3) := by decide +kernel
theorem dL_isRefused_288 : decode cL_isRefused 288 = .ok (.ldc 17, 2) := by decide +kernel
theorem dL_isRefused_290 : decode cL_isRefused 290 = .ok (.if_icmp .ne 138, 3) := by decide +kernel
theorem dL_isRefused_293 : decode cL_isRefused 293 = .ok (.aload_n 0, 1) := by decide +kernel
theorem dL_isRefused_294 : decode cL_isRefused 294 = .ok (.iconst 0, 1) := by decide +kernel
theorem dL_isRefused_295 : decode cL_isRefused 295 = .ok (.iconst 1, 1) := by decide +kernel
theorem dL_isRefused_296 : decode cL_isRefused 296 = .ok (.iconst 5, 1) := by decide +kernel
theorem dL_isRefused_297 : decode cL_isRefused 297 = .ok (.iload 5, 2) := by decide +kernel
theorem dL_isRefused_299 : decode cL_isRefused 299 = .ok (.iconst 1, 1) := by decide +kernel
theorem dL_isRefused_300 : decode cL_isRefused 300 = .ok (.invokestatic 126, 3) := by decide +kernel
theorem dL_isRefused_303 : decode cL_isRefused 303 = .ok (.ldc 17, 2) := by decide +kernel
theorem dL_isRefused_305 : decode cL_isRefused 305 = .ok (.if_icmp .ne 123, 3) := by decide +kernel
theorem dL_isRefused_308 : decode cL_isRefused 308 = .ok (.aload_n 0, 1) := by decide +kernel
theorem dL_isRefused_309 : decode cL_isRefused 309 = .ok (.iconst 1, 1) := by decide +kernel
theorem dL_isRefused_310 : decode cL_isRefused 310 = .ok (.iload 5, 2) := by decide +kernel
theorem dL_isRefused_312 : decode cL_isRefused 312 = .ok (.iconst 5, 1) := by decide +kernel
theorem dL_isRefused_313 : decode cL_isRefused 313 = .ok (.iconst 5, 1) := by decide +kernel
theorem dL_isRefused_314 : decode cL_isRefused 314 = .ok (.iconst 5, 1) := by decide +kernel
theorem dL_isRefused_315 : decode cL_isRefused 315 = .ok (.invokestatic 126, 3) := by decide +kernel
theorem dL_isRefused_318 : decode cL_isRefused 318 = .ok (.ldc 17, 2) := by decide +kernel
theorem dL_isRefused_320 : decode cL_isRefused 320 = .ok (.if_icmp .ne 108, 3) := by decide +kernel
theorem dL_isRefused_323 : decode cL_isRefused 323 = .ok (.aload_n 0, 1) := by decide +kernel
theorem dL_isRefused_324 : decode cL_isRefused 324 = .ok (.iconst 1, 1) := by decide +kernel
theorem dL_isRefused_325 : decode cL_isRefused 325 = .ok (.iconst 1, 1) := by decide +kernel
theorem dL_isRefused_326 : decode cL_isRefused 326 = .ok (.iload 6, 2) := by decide +kernel
theorem dL_isRefused_328 : decode cL_isRefused 328 = .ok (.sipush 9999, 3) := by decide +kernel
theorem dL_isRefused_331 : decode cL_isRefused 331 = .ok (.iconst 5, 1) := by decide +kernel
theorem dL_isRefused_332 : decode cL_isRefused 332 = .ok (.invokestatic 126, 3) := by decide +kernel
theorem dL_isRefused_335 : decode cL_isRefused 335 = .ok (.ldc 17, 2) := by decide +kernel
theorem dL_isRefused_337 : decode cL_isRefused 337 = .ok (.if_icmp .ne 91, 3) := by decide +kernel
theorem dL_isRefused_340 : decode cL_isRefused 340 = .ok (.aload_n 0, 1) := by decide +kernel
theorem dL_isRefused_341 : decode cL_isRefused 341 = .ok (.iconst 1, 1) := by decide +kernel
theorem dL_isRefused_342 : decode cL_isRefused 342 = .ok (.iconst 1, 1) := by decide +kernel
theorem dL_isRefused_343 : decode cL_isRefused 343 = .ok (.bipush 50, 2) := by decide +kernel
theorem dL_isRefused_345 : decode cL_isRefused 345 = .ok (.iload_n 3, 1) := by decide +kernel
theorem dL_isRefused_346 : decode cL_isRefused 346 = .ok (.ifCond .eq 13, 3) := by decide +kernel
theorem dL_isRefused_349 : decode cL_isRefused 349 = .ok (.bipush 49, 2) := by decide +kernel
theorem dL_isRefused_351 : decode cL_isRefused 351 = .ok (.iload_n 2, 1) := by decide +kernel
theorem dL_isRefused_352 : decode cL_isRefused 352 = .ok (.bipush 30, 2) := by decide +kernel
theorem dL_isRefused_354 : decode cL_isRefused 354 = .ok (.irem, 1) := by decide +kernel
theorem dL_isRefused_355 : decode cL_isRefused 355 = .ok (.isub, 1) := by decide +kernel
theorem dL_isRefused_356 : decode cL_isRefused 356 = .ok (.goto 6, 3) := by decide +kernel
theorem dL_isRefused_359 : decode cL_isRefused 359 = .ok (.sipush 10001, 3) := by decide +kernel
theorem dL_isRefused_362 : decode cL_isRefused 362 = .ok (.iconst 5, 1) := by decide +kernel
theorem dL_isRefused_363 : decode cL_isRefused 363 = .ok (.invokestatic 126, 3) := by decide +kernel
theorem dL_isRefused_366 : decode cL_isRefused 366 = .ok (.ldc 17, 2) := by decide +kernel
theorem dL_isRefused_368 : decode cL_isRefused 368 = .ok (.if_icmp .ne 60, 3) := by decide +kernel
theorem dL_isRefused_371 : decode cL_isRefused 371 = .ok (.aload_n 0, 1) := by decide +kernel
theorem dL_isRefused_372 : decode cL_isRefused 372 = .ok (.iconst 1, 1) := by decide +kernel
theorem dL_isRefused_373 : decode cL_isRefused 373 = .ok (.iconst 1, 1) := by decide +kernel
theorem dL_isRefused_374 : decode cL_isRefused 374 = .ok (.iconst 5, 1) := by decide +kernel
theorem dL_isRefused_375 : decode cL_isRefused 375 = .ok (.iconst 5, 1) := by decide +kernel
theorem dL_isRefused_376 : decode cL_isRefused 376 = .ok (.iload_n 3, 1) := by decide +kernel
theorem dL_isRefused_377 : decode cL_isRefused 377 = .ok (.ifCond .eq 7, 3) := by decide +kernel
theorem dL_isRefused_380 : decode cL_isRefused 380 = .ok (.iconst (-1), 1) := by decide +kernel
theorem dL_isRefused_381 : decode cL_isRefused 381 = .ok (.goto 5, 3) := by decide +kernel
theorem dL_isRefused_384 : decode cL_isRefused 384 = .ok (.bipush 101, 2) := by decide +kernel
theorem dL_isRefused_386 : decode cL_isRefused 386 = .ok (.invokestatic 126, 3) := by decide +kernel
theorem dL_isRefused_389 : decode cL_isRefused 389 = .ok (.ldc 17, 2) := by decide +kernel
theorem dL_isRefused_391 : decode cL_isRefused 391 = .ok (.if_icmp .ne 37, 3) := by decide +kernel
theorem dL_isRefused_394 : decode cL_isRefused 394 = .ok (.aload_n 0, 1) := by decide +kernel
theorem dL_isRefused_395 : decode cL_isRefused 395 = .ok (.bipush 11, 2) := by decide +kernel
theorem dL_isRefused_397 : decode cL_isRefused 397 = .ok (.iload 5, 2) := by decide +kernel
theorem dL_isRefused_399 : decode cL_isRefused 399 = .ok (.iconst 0, 1) := by decide +kernel
theorem dL_isRefused_400 : decode cL_isRefused 400 = .ok (.iconst 0, 1) := by decide +kernel
theorem dL_isRefused_401 : decode cL_isRefused 401 = .ok (.invokestatic 112, 3) := by decide +kernel
theorem dL_isRefused_404 : decode cL_isRefused 404 = .ok (.ldc 17, 2) := by decide +kernel
theorem dL_isRefused_406 : decode cL_isRefused 406 = .ok (.if_icmp .ne 22, 3) := by decide +kernel
theorem dL_isRefused_409 : decode cL_isRefused 409 = .ok (.aload_n 0, 1) := by decide +kernel
theorem dL_isRefused_410 : decode cL_isRefused 410 = .ok (.bipush 12, 2) := by decide +kernel
theorem dL_isRefused_412 : decode cL_isRefused 412 = .ok (.iload 5, 2) := by decide +kernel
theorem dL_isRefused_414 : decode cL_isRefused 414 = .ok (.iconst 0, 1) := by decide +kernel
theorem dL_isRefused_415 : decode cL_isRefused 415 = .ok (.iconst 0, 1) := by decide +kernel
theorem dL_isRefused_416 : decode cL_isRefused 416 = .ok (.invokestatic 112, 3) := by decide +kernel
theorem dL_isRefused_419 : decode cL_isRefused 419 = .ok (.ldc 17, 2) := by decide +kernel
theorem dL_isRefused_421 : decode cL_isRefused 421 = .ok (.if_icmp .ne 7, 3) := by decide +kernel
theorem dL_isRefused_424 : decode cL_isRefused 424 = .ok (.iconst 1, 1) := by decide +kernel
theorem dL_isRefused_425 : decode cL_isRefused 425 = .ok (.goto 4, 3) := by decide +kernel
theorem dL_isRefused_428 : decode cL_isRefused 428 = .ok (.iconst 0, 1) := by decide +kernel
theorem dL_isRefused_429 : decode cL_isRefused 429 = .ok (.istore 11, 2) := by decide +kernel
theorem dL_isRefused_431 : decode cL_isRefused 431 = .ok (.iload 11, 2) := by decide +kernel
theorem dL_isRefused_433 : decode cL_isRefused 433 = .ok (.ifCond .eq 166, 3) := by decide +kernel
theorem dL_isRefused_436 : decode cL_isRefused 436 = .ok (.aload_n 0, 1) := by decide +kernel
theorem dL_isRefused_437 : decode cL_isRefused 437 = .ok (.iconst 0, 1) := by decide +kernel
theorem dL_isRefused_438 : decode cL_isRefused 438 = .ok (.iload 7, 2) := by decide +kernel
theorem dL_isRefused_440 : decode cL_isRefused 440 = .ok (.iconst 0, 1) := by decide +kernel
theorem dL_isRefused_441 : decode cL_isRefused 441 = .ok (.iconst 1, 1) := by decide +kernel
theorem dL_isRefused_442 : decode cL_isRefused 442 = .ok (.invokestatic 112, 3) := by decide +kernel
theorem dL_isRefused_445 : decode cL_isRefused 445 = .ok (.ldc 81, 2) := by decide +kernel
theorem dL_isRefused_447 : decode cL_isRefused 447 = .ok (.if_icmp .ne 152, 3) := by decide +kernel
theorem dL_isRefused_450 : decode cL_isRefused 450 = .ok (.aload_n 0, 1) := by decide +kernel
theorem dL_isRefused_451 : decode cL_isRefused 451 = .ok (.iconst 3, 1) := by decide +kernel
theorem dL_isRefused_452 : decode cL_isRefused 452 = .ok (.iload 7, 2) := by decide +kernel
theorem dL_isRefused_454 : decode cL_isRefused 454 = .ok (.iload 7, 2) := by decide +kernel
theorem dL_isRefused_456 : decode cL_isRefused 456 = .ok (.iconst 0, 1) := by decide +kernel
theorem dL_isRefused_457 : decode cL_isRefused 457 = .ok (.invokestatic 112, 3) := by decide +kernel
theorem dL_isRefused_460 : decode cL_isRefused 460 = .ok (.ldc 81, 2) := by decide +kernel
theorem dL_isRefused_462 : decode cL_isRefused 462 = .ok (.if_icmp .ne 137, 3) := by decide +kernel
theorem dL_isRefused_465 : decode cL_isRefused 465 = .ok (.aload_n 0, 1) := by decide +kernel
theorem dL_isRefused_466 : decode cL_isRefused 466 = .ok (.iconst 5, 1) := by decide +kernel
theorem dL_isRefused_467 : decode cL_isRefused 467 = .ok (.iload 7, 2) := by decide +kernel
theorem dL_isRefused_469 : decode cL_isRefused 469 = .ok (.iconst 0, 1) := by decide +kernel
theorem dL_isRefused_470 : decode cL_isRefused 470 = .ok (.iconst 0, 1) := by decide +kernel
theorem dL_isRefused_471 : decode cL_isRefused 471 = .ok (.invokestatic 112, 3) := by decide +kernel
theorem dL_isRefused_474 : decode cL_isRefused 474 = .ok (.ldc 81, 2) := by decide +kernel
theorem dL_isRefused_476 : decode cL_isRefused 476 = .ok (.if_icmp .ne 123, 3) := by decide +kernel
theorem dL_isRefused_479 : decode cL_isRefused 479 = .ok (.aload_n 0, 1) := by decide +kernel
theorem dL_isRefused_480 : decode cL_isRefused 480 = .ok (.bipush 7, 2) := by decide +kernel
theorem dL_isRefused_482 : decode cL_isRefused 482 = .ok (.iload 7, 2) := by decide +kernel
theorem dL_isRefused_484 : decode cL_isRefused 484 = .ok (.iconst 0, 1) := by decide +kernel
theorem dL_isRefused_485 : decode cL_isRefused 485 = .ok (.iconst 0, 1) := by decide +kernel
theorem dL_isRefused_486 : decode cL_isRefused 486 = .ok (.invokestatic 112, 3) := by decide +kernel
theorem dL_isRefused_489 : decode cL_isRefused 489 = .ok (.ldc 81, 2) := by decide +kernel
theorem dL_isRefused_491 : decode cL_isRefused 491 = .ok (.if_icmp .ne 108, 3) := by decide +kernel
theorem dL_isRefused_494 : decode cL_isRefused 494 = .ok (.aload_n 0, 1) := by decide +kernel
theorem dL_isRefused_495 : decode cL_isRefused 495 = .ok (.iconst 1, 1) := by decide +kernel
theorem dL_isRefused_496 : decode cL_isRefused 496 = .ok (.iload 8, 2) := by decide +kernel
theorem dL_isRefused_498 : decode cL_isRefused 498 = .ok (.iload 8, 2) := by decide +kernel
theorem dL_isRefused_500 : decode cL_isRefused 500 = .ok (.bipush (-9), 2) := by decide +kernel
theorem dL_isRefused_502 : decode cL_isRefused 502 = .ok (.invokestatic 112, 3) := by decide +kernel
theorem dL_isRefused_505 : decode cL_isRefused 505 = .ok (.ldc 81, 2) := by decide +kernel
theorem dL_isRefused_507 : decode cL_isRefused 507 = .ok (.if_icmp .ne 92, 3) := by decide +kernel
theorem dL_isRefused_510 : decode cL_isRefused 510 = .ok (.aload_n 0, 1) := by decide +kernel
theorem dL_isRefused_511 : decode cL_isRefused 511 = .ok (.iconst 2, 1) := by decide +kernel
theorem dL_isRefused_512 : decode cL_isRefused 512 = .ok (.iload 8, 2) := by decide +kernel
theorem dL_isRefused_514 : decode cL_isRefused 514 = .ok (.iconst 1, 1) := by decide +kernel
theorem dL_isRefused_515 : decode cL_isRefused 515 = .ok (.iconst 0, 1) := by decide +kernel
theorem dL_isRefused_516 : decode cL_isRefused 516 = .ok (.invokestatic 112, 3) := by decide +kernel
theorem dL_isRefused_519 : decode cL_isRefused 519 = .ok (.ldc 81, 2) := by decide +kernel
theorem dL_isRefused_521 : decode cL_isRefused 521 = .ok (.if_icmp .ne 78, 3) := by decide +kernel
theorem dL_isRefused_524 : decode cL_isRefused 524 = .ok (.aload_n 0, 1) := by decide +kernel
theorem dL_isRefused_525 : decode cL_isRefused 525 = .ok (.bipush 8, 2) := by decide +kernel
theorem dL_isRefused_527 : decode cL_isRefused 527 = .ok (.iload 8, 2) := by decide +kernel
theorem dL_isRefused_529 : decode cL_isRefused 529 = .ok (.iconst 0, 1) := by decide +kernel
theorem dL_isRefused_530 : decode cL_isRefused 530 = .ok (.iconst 0, 1) := by decide +kernel
theorem dL_isRefused_531 : decode cL_isRefused 531 = .ok (.invokestatic 112, 3) := by decide +kernel
theorem dL_isRefused_534 : decode cL_isRefused 534 = .ok (.ldc 81, 2) := by decide +kernel
theorem dL_isRefused_536 : decode cL_isRefused 536 = .ok (.if_icmp .ne 63, 3) := by decide +kernel
theorem dL_isRefused_539 : decode cL_isRefused 539 = .ok (.aload_n 0, 1) := by decide +kernel
theorem dL_isRefused_540 : decode cL_isRefused 540 = .ok (.bipush 9, 2) := by decide +kernel
theorem dL_isRefused_542 : decode cL_isRefused 542 = .ok (.iload 8, 2) := by decide +kernel
theorem dL_isRefused_544 : decode cL_isRefused 544 = .ok (.iconst 0, 1) := by decide +kernel
theorem dL_isRefused_545 : decode cL_isRefused 545 = .ok (.iconst 0, 1) := by decide +kernel
theorem dL_isRefused_546 : decode cL_isRefused 546 = .ok (.invokestatic 112, 3) := by decide +kernel
theorem dL_isRefused_549 : decode cL_isRefused 549 = .ok (.ldc 81, 2) := by decide +kernel
theorem dL_isRefused_551 : decode cL_isRefused 551 = .ok (.if_icmp .ne 48, 3) := by decide +kernel
theorem dL_isRefused_554 : decode cL_isRefused 554 = .ok (.aload_n 1, 1) := by decide +kernel
theorem dL_isRefused_555 : decode cL_isRefused 555 = .ok (.iconst 0, 1) := by decide +kernel
theorem dL_isRefused_556 : decode cL_isRefused 556 = .ok (.iaload, 1) := by decide +kernel
theorem dL_isRefused_557 : decode cL_isRefused 557 = .ok (.bipush 12, 2) := by decide +kernel
theorem dL_isRefused_559 : decode cL_isRefused 559 = .ok (.if_icmp .le 14, 3) := by decide +kernel
theorem dL_isRefused_562 : decode cL_isRefused 562 = .ok (.aload_n 0, 1) := by decide +kernel
theorem dL_isRefused_563 : decode cL_isRefused 563 = .ok (.invokestatic 129, 3) := by decide +kernel
theorem dL_isRefused_566 : decode cL_isRefused 566 = .ok (.ldc2_w 86, 3) := by decide +kernel
theorem dL_isRefused_569 : decode cL_isRefused 569 = .ok (.lcmp, 1) := by decide +kernel
theorem dL_isRefused_570 : decode cL_isRefused 570 = .ok (.ifCond .ne 29, 3) := by decide +kernel
theorem dL_isRefused_573 : decode cL_isRefused 573 = .ok (.aload_n 1, 1) := by decide +kernel
theorem dL_isRefused_574 : decode cL_isRefused 574 = .ok (.iconst 0, 1) := by decide +kernel
theorem dL_isRefused_575 : decode cL_isRefused 575 = .ok (.iaload, 1) := by decide +kernel
theorem dL_isRefused_576 : decode cL_isRefused 576 = .ok (.bipush 30, 2) := by decide +kernel
theorem dL_isRefused_578 : decode cL_isRefused 578 = .ok (.if_icmp .lt 17, 3) := by decide +kernel
theorem dL_isRefused_581 : decode cL_isRefused 581 = .ok (.aload_n 0, 1) := by decide +kernel
theorem dL_isRefused_582 : decode cL_isRefused 582 = .ok (.iconst 0, 1) := by decide +kernel
theorem dL_isRefused_583 : decode cL_isRefused 583 = .ok (.iconst 1, 1) := by decide +kernel
theorem dL_isRefused_584 : decode cL_isRefused 584 = .ok (.iconst 5, 1) := by decide +kernel
theorem dL_isRefused_585 : decode cL_isRefused 585 = .ok (.iconst 5, 1) := by decide +kernel
theorem dL_isRefused_586 : decode cL_isRefused 586 = .ok (.iconst 1, 1) := by decide +kernel
theorem dL_isRefused_587 : decode cL_isRefused 587 = .ok (.invokestatic 126, 3) := by decide +kernel
theorem dL_isRefused_590 : decode cL_isRefused 590 = .ok (.ldc 20, 2) := by decide +kernel
theorem dL_isRefused_592 : decode cL_isRefused 592 = .ok (.if_icmp .ne 7, 3) := by decide +kernel
theorem dL_isRefused_595 : decode cL_isRefused 595 = .ok (.iconst 1, 1) := by decide +kernel
theorem dL_isRefused_596 : decode cL_isRefused 596 = .ok (.goto 4, 3) := by decide +kernel
theorem dL_isRefused_599 : decode cL_isRefused 599 = .ok (.iconst 0, 1) := by decide +kernel
theorem dL_isRefused_600 : decode cL_isRefused 600 = .ok (.istore 11, 2) := by decide +kernel
theorem dL_isRefused_602 : decode cL_isRefused 602 = .ok (.iload 11, 2) := by decide +kernel
theorem dL_isRefused_604 : decode cL_isRefused 604 = .ok (.ifCond .eq 160, 3) := by decide +kernel
theorem dL_isRefused_607 : decode cL_isRefused 607 = .ok (.aload_n 1, 1) := by decide +kernel
theorem dL_isRefused_608 : decode cL_isRefused 608 = .ok (.iconst 0, 1) := by decide +kernel
theorem dL_isRefused_609 : decode cL_isRefused 609 = .ok (.iaload, 1) := by decide +kernel
theorem dL_isRefused_610 : decode cL_isRefused 610 = .ok (.ifCond .eq 65, 3) := by decide +kernel
theorem dL_isRefused_613 : decode cL_isRefused 613 = .ok (.aload_n 0, 1) := by decide +kernel
theorem dL_isRefused_614 : decode cL_isRefused 614 = .ok (.iconst 0, 1) := by decide +kernel
theorem dL_isRefused_615 : decode cL_isRefused 615 = .ok (.iload_n 2, 1) := by decide +kernel
theorem dL_isRefused_616 : decode cL_isRefused 616 = .ok (.aload_n 1, 1) := by decide +kernel
theorem dL_isRefused_617 : decode cL_isRefused 617 = .ok (.iconst 0, 1) := by decide +kernel
theorem dL_isRefused_618 : decode cL_isRefused 618 = .ok (.iaload, 1) := by decide +kernel
theorem dL_isRefused_619 : decode cL_isRefused 619 = .ok (.irem, 1) := by decide +kernel
theorem dL_isRefused_620 : decode cL_isRefused 620 = .ok (.iload_n 3, 1) := by decide +kernel
theorem dL_isRefused_621 : decode cL_isRefused 621 = .ok (.ifCond .eq 7, 3) := by decide +kernel
theorem dL_isRefused_624 : decode cL_isRefused 624 = .ok (.iconst 0, 1) := by decide +kernel
theorem dL_isRefused_625 : decode cL_isRefused 625 = .ok (.goto 5, 3) := by decide +kernel
theorem dL_isRefused_628 : decode cL_isRefused 628 = .ok (.bipush 101, 2) := by decide +kernel
theorem dL_isRefused_630 : decode cL_isRefused 630 = .ok (.iconst 1, 1) := by decide +kernel
theorem dL_isRefused_631 : decode cL_isRefused 631 = .ok (.invokestatic 112, 3) := by decide +kernel
theorem dL_isRefused_634 : decode cL_isRefused 634 = .ok (.ldc 17, 2) := by decide +kernel
theorem dL_isRefused_636 : decode cL_isRefused 636 = .ok (.if_icmp .ne 128, 3) := by decide +kernel
theorem dL_isRefused_639 : decode cL_isRefused 639 = .ok (.aload_n 0, 1) := by decide +kernel
theorem dL_isRefused_640 : decode cL_isRefused 640 = .ok (.iconst 3, 1) := by decide +kernel
theorem dL_isRefused_641 : decode cL_isRefused 641 = .ok (.iload_n 2, 1) := by decide +kernel
theorem dL_isRefused_642 : decode cL_isRefused 642 = .ok (.aload_n 1, 1) := by decide +kernel
theorem dL_isRefused_643 : decode cL_isRefused 643 = .ok (.iconst 0, 1) := by decide +kernel
theorem dL_isRefused_644 : decode cL_isRefused 644 = .ok (.iaload, 1) := by decide +kernel
theorem dL_isRefused_645 : decode cL_isRefused 645 = .ok (.irem, 1) := by decide +kernel
theorem dL_isRefused_646 : decode cL_isRefused 646 = .ok (.iload 7, 2) := by decide +kernel
theorem dL_isRefused_648 : decode cL_isRefused 648 = .ok (.iconst 0, 1) := by decide +kernel
theorem dL_isRefused_649 : decode cL_isRefused 649 = .ok (.invokestatic 112, 3) := by decide +kernel
theorem dL_isRefused_652 : decode cL_isRefused 652 = .ok (.ldc 81, 2) := by decide +kernel
theorem dL_isRefused_654 : decode cL_isRefused 654 = .ok (.if_icmp .ne 110, 3) := by decide +kernel
theorem dL_isRefused_657 : decode cL_isRefused 657 = .ok (.aload_n 0, 1) := by decide +kernel
theorem dL_isRefused_658 : decode cL_isRefused 658 = .ok (.iconst 3, 1) := by decide +kernel
theorem dL_isRefused_659 : decode cL_isRefused 659 = .ok (.iload 7, 2) := by decide +kernel
theorem dL_isRefused_661 : decode cL_isRefused 661 = .ok (.iload_n 2, 1) := by decide +kernel
theorem dL_isRefused_662 : decode cL_isRefused 662 = .ok (.aload_n 1, 1) := by decide +kernel
theorem dL_isRefused_663 : decode cL_isRefused 663 = .ok (.iconst 0, 1) := by decide +kernel
theorem dL_isRefused_664 : decode cL_isRefused 664 = .ok (.iaload, 1) := by decide +kernel
theorem dL_isRefused_665 : decode cL_isRefused 665 = .ok (.irem, 1) := by decide +kernel
theorem dL_isRefused_666 : decode cL_isRefused 666 = .ok (.iconst 0, 1) := by decide +kernel
theorem dL_isRefused_667 : decode cL_isRefused 667 = .ok (.invokestatic 112, 3) := by decide +kernel
theorem dL_isRefused_670 : decode cL_isRefused 670 = .ok (.ldc 81, 2) := by decide +kernel
theorem dL_isRefused_672 : decode cL_isRefused 672 = .ok (.if_icmp .ne 92, 3) := by decide +kernel
theorem dL_isRefused_675 : decode cL_isRefused 675 = .ok (.aload_n 1, 1) := by decide +kernel
theorem dL_isRefused_676 : decode cL_isRefused 676 = .ok (.iconst 2, 1) := by decide +kernel
theorem dL_isRefused_677 : decode cL_isRefused 677 = .ok (.iaload, 1) := by decide +kernel
theorem dL_isRefused_678 : decode cL_isRefused 678 = .ok (.ifCond .eq 42, 3) := by decide +kernel
theorem dL_isRefused_681 : decode cL_isRefused 681 = .ok (.aload_n 0, 1) := by decide +kernel
theorem dL_isRefused_682 : decode cL_isRefused 682 = .ok (.iconst 1, 1) := by decide +kernel
theorem dL_isRefused_683 : decode cL_isRefused 683 = .ok (.iload_n 2, 1) := by decide +kernel
theorem dL_isRefused_684 : decode cL_isRefused 684 = .ok (.aload_n 1, 1) := by decide +kernel
theorem dL_isRefused_685 : decode cL_isRefused 685 = .ok (.iconst 2, 1) := by decide +kernel
theorem dL_isRefused_686 : decode cL_isRefused 686 = .ok (.iaload, 1) := by decide +kernel
theorem dL_isRefused_687 : decode cL_isRefused 687 = .ok (.irem, 1) := by decide +kernel
theorem dL_isRefused_688 : decode cL_isRefused 688 = .ok (.iload 8, 2) := by decide +kernel
theorem dL_isRefused_690 : decode cL_isRefused 690 = .ok (.iconst 5, 1) := by decide +kernel
theorem dL_isRefused_691 : decode cL_isRefused 691 = .ok (.invokestatic 112, 3) := by decide +kernel
theorem dL_isRefused_694 : decode cL_isRefused 694 = .ok (.ldc 81, 2) := by decide +kernel
theorem dL_isRefused_696 : decode cL_isRefused 696 = .ok (.if_icmp .ne 68, 3) := by decide +kernel
theorem dL_isRefused_699 : decode cL_isRefused 699 = .ok (.aload_n 0, 1) := by decide +kernel
theorem dL_isRefused_700 : decode cL_isRefused 700 = .ok (.iconst 1, 1) := by decide +kernel
theorem dL_isRefused_701 : decode cL_isRefused 701 = .ok (.iload_n 2, 1) := by decide +kernel
theorem dL_isRefused_702 : decode cL_isRefused 702 = .ok (.aload_n 1, 1) := by decide +kernel
theorem dL_isRefused_703 : decode cL_isRefused 703 = .ok (.iconst 2, 1) := by decide +kernel
theorem dL_isRefused_704 : decode cL_isRefused 704 = .ok (.iaload, 1) := by decide +kernel
theorem dL_isRefused_705 : decode cL_isRefused 705 = .ok (.irem, 1) := by decide +kernel
theorem dL_isRefused_706 : decode cL_isRefused 706 = .ok (.iload_n 2, 1) := by decide +kernel
theorem dL_isRefused_707 : decode cL_isRefused 707 = .ok (.aload_n 1, 1) := by decide +kernel
theorem dL_isRefused_708 : decode cL_isRefused 708 = .ok (.iconst 2, 1) := by decide +kernel
theorem dL_isRefused_709 : decode cL_isRefused 709 = .ok (.iaload, 1) := by decide +kernel
theorem dL_isRefused_710 : decode cL_isRefused 710 = .ok (.irem, 1) := by decide +kernel
theorem dL_isRefused_711 : decode cL_isRefused 711 = .ok (.iconst 5, 1) := by decide +kernel
theorem dL_isRefused_712 : decode cL_isRefused 712 = .ok (.invokestatic 112, 3) := by decide +kernel
theorem dL_isRefused_715 : decode cL_isRefused 715 = .ok (.ldc 17, 2) := by decide +kernel
theorem dL_isRefused_717 : decode cL_isRefused 717 = .ok (.if_icmp .ne 47, 3) := by decide +kernel
theorem dL_isRefused_720 : decode cL_isRefused 720 = .ok (.aload_n 1, 1) := by decide +kernel
theorem dL_isRefused_721 : decode cL_isRefused 721 = .ok (.iconst 2, 1) := by decide +kernel
theorem dL_isRefused_722 : decode cL_isRefused 722 = .ok (.iaload, 1) := by decide +kernel
theorem dL_isRefused_723 : decode cL_isRefused 723 = .ok (.iconst 2, 1) := by decide +kernel
theorem dL_isRefused_724 : decode cL_isRefused 724 = .ok (.if_icmp .lt 25, 3) := by decide +kernel
theorem dL_isRefused_727 : decode cL_isRefused 727 = .ok (.aload_n 0, 1) := by decide +kernel
theorem dL_isRefused_728 : decode cL_isRefused 728 = .ok (.iconst 1, 1) := by decide +kernel
theorem dL_isRefused_729 : decode cL_isRefused 729 = .ok (.iconst 1, 1) := by decide +kernel
theorem dL_isRefused_730 : decode cL_isRefused 730 = .ok (.iconst 0, 1) := by decide +kernel
theorem dL_isRefused_731 : decode cL_isRefused 731 = .ok (.iload_n 3, 1) := by decide +kernel
theorem dL_isRefused_732 : decode cL_isRefused 732 = .ok (.ifCond .eq 7, 3) := by decide +kernel
theorem dL_isRefused_735 : decode cL_isRefused 735 = .ok (.iconst (-1), 1) := by decide +kernel
theorem dL_isRefused_736 : decode cL_isRefused 736 = .ok (.goto 5, 3) := by decide +kernel
theorem dL_isRefused_739 : decode cL_isRefused 739 = .ok (.bipush 101, 2) := by decide +kernel
theorem dL_isRefused_741 : decode cL_isRefused 741 = .ok (.invokestatic 112, 3) := by decide +kernel
theorem dL_isRefused_744 : decode cL_isRefused 744 = .ok (.ldc 17, 2) := by decide +kernel
theorem dL_isRefused_746 : decode cL_isRefused 746 = .ok (.if_icmp .ne 18, 3) := by decide +kernel
theorem dL_isRefused_749 : decode cL_isRefused 749 = .ok (.aload_n 0, 1) := by decide +kernel
theorem dL_isRefused_750 : decode cL_isRefused 750 = .ok (.aload_n 1, 1) := by decide +kernel
theorem dL_isRefused_751 : decode cL_isRefused 751 = .ok (.invokestatic 119, 3) := by decide +kernel
theorem dL_isRefused_754 : decode cL_isRefused 754 = .ok (.lload 9, 2) := by decide +kernel
theorem dL_isRefused_756 : decode cL_isRefused 756 = .ok (.lcmp, 1) := by decide +kernel
theorem dL_isRefused_757 : decode cL_isRefused 757 = .ok (.ifCond .ne 7, 3) := by decide +kernel
theorem dL_isRefused_760 : decode cL_isRefused 760 = .ok (.iconst 1, 1) := by decide +kernel
theorem dL_isRefused_761 : decode cL_isRefused 761 = .ok (.goto 4, 3) := by decide +kernel
theorem dL_isRefused_764 : decode cL_isRefused 764 = .ok (.iconst 0, 1) := by decide +kernel
theorem dL_isRefused_765 : decode cL_isRefused 765 = .ok (.ireturn, 1) := by decide +kernel
set_option maxRecDepth 20000 in
theorem ggL_isMarked_X4_greatest : GoodIn wsL_isMarked wsX4_greatest := goodIn_ca (goodIn_r _ [7, 8, 9, 10, 11, 12, 6, 13, 14, 15, 16, 17, 18, 19, 20, 21, 22, 23, 215, 216, 217, 218, 219] (by decide +kernel) (by decide +kernel)) (goodIn_sub (fun _ h => List.mem_cons_of_mem _ (List.mem_append_left _ (List.mem_append_left _ (List.mem_append_right _ h)))) (by decide +kernel))
set_option maxRecDepth 20000 in
theorem gL_isMarked_X4_greatest : GoodIn wsL_isMarked (wsV RL 69 RX4 yX4_greatest wsX4_greatest) := goodIn_app (goodIn_of _ (by decide +kernel)) ggL_isMarked_X4_greatest
set_option maxRecDepth 20000 in
theorem ggL_isMarked_L_all : GoodIn wsL_isMarked wsL_all := goodIn_ca (goodIn_ca (goodIn_r _ [27, 28, 29, 30, 31, 32, 33, 34, 35, 36, 37, 6, 38, 39, 40, 41, 42, 43, 44, 45, 46, 47, 48, 49, 50, 51, 52, 53, 54, 55, 56, 57, 58, 59, 60, 61, 62, 63, 64, 65, 66, 67, 68, 69, 70, 71, 72, 73, 74, 75, 76, 77, 78, 79, 80, 81, 82, 83, 84, 85, 86, 87, 88, 89, 90, 91, 92, 93, 94, 95, 96, 97, 98, 15, 16, 99, 100, 101, 102, 8, 9, 103, 104, 105, 14, 106, 107, 108, 109, 3, 4, 5, 7, 10, 11, 12, 13, 17, 18, 19, 20, 21, 22, 23, 110, 111, 112, 113, 114, 115, 116, 117, 118, 119, 120, 121, 122, 123, 124, 125, 126, 127, 128, 129, 130, 131, 132, 133, 134, 135, 136, 137, 138, 139, 140, 141, 142, 143, 144, 145, 146, 147, 148, 149, 150, 151, 152, 153, 154, 155, 156, 157, 158, 159, 160, 161, 162, 163, 164, 165, 166, 167, 168, 215, 216, 217, 218, 220, 221, 222, 223, 224, 225, 226, 227, 228, 229, 230, 231, 232, 233, 219, 234, 235, 236] (by decide +kernel) (by decide +kernel)) (goodIn_sub (fun _ h => List.mem_cons_of_mem _ (List.mem_append_left _ (List.mem_append_left _ (List.mem_append_right _ h)))) (by decide +kernel))) (goodIn_sub (fun _ h => List.mem_cons_of_mem _ (List.mem_append_left _ (List.mem_append_right _ h))) (by decide +kernel))
set_option maxRecDepth 20000 in
theorem gL_isMarked_L_all : GoodIn wsL_isMarked (va_wsS RL 119 yL_all wsL_all) := goodIn_app (goodIn_of _ (by decide +kernel)) ggL_isMarked_L_all
set_option maxRecDepth 20000 in
theorem ggL_isMarked_L_mark : GoodIn wsL_isMarked wsL_mark := goodIn_ca (goodIn_ca (goodIn_r _ [171, 172, 173, 174, 2, 175, 176, 177, 6, 178, 8, 9, 179, 180, 10, 39, 11, 12, 13, 14, 15, 16, 181, 182, 183, 184, 185, 186, 20, 187, 188, 18, 19, 21, 22, 23, 189, 190, 191, 192, 193, 87, 88, 89, 194, 195, 196, 43, 197, 45, 198, 58, 199, 200, 201, 202, 203, 204, 205, 206, 207, 208, 209, 59, 60, 61, 62, 210, 145, 146, 211, 212, 213, 214, 142, 143, 144, 215, 216, 217, 218, 219, 220, 221, 222, 223, 224, 225, 226, 227, 228] (by decide +kernel) (by decide +kernel)) (goodIn_sub (fun _ h => List.mem_cons_of_mem _ (List.mem_append_left _ (List.mem_append_left _ (List.mem_append_right _ h)))) (by decide +kernel))) (goodIn_sub (fun _ h => List.mem_cons_of_mem _ (List.mem_append_right _ h)) (by decide +kernel))
set_option maxRecDepth 20000 in
theorem gL_isMarked_L_mark : GoodIn wsL_isMarked (va_wsS RL 123 yL_mark wsL_mark) := goodIn_app (goodIn_of _ (by decide +kernel)) ggL_isMarked_L_mark
theorem dL_isMarked_0 : decode cL_isMarked 0 = .ok (.iload 7, 2) := by decide +kernel
theorem dL_isMarked_2 : decode cL_isMarked 2 = .ok (.iload 4, 2) := by decide +kernel
theorem dL_isMarked_4 : decode cL_isMarked 4 = .ok (.isub, 1) := by decide +kernel
theorem dL_isMarked_5 : decode cL_isMarked 5 = .ok (.iload 6, 2) := by decide +kernel
theorem dL_isMarked_7 : decode cL_isMarked 7 = .ok (.iadd, 1) := by decide +kernel
theorem dL_isMarked_8 : decode cL_isMarked 8 = .ok (.istore 8, 2) := by decide +kernel
theorem dL_isMarked_10 : decode cL_isMarked 10 = .ok (.iload 7, 2) := by decide +kernel
theorem dL_isMarked_12 : decode cL_isMarked 12 = .ok (.ineg, 1) := by decide +kernel
theorem dL_isMarked_13 : decode cL_isMarked 13 = .ok (.iload 4, 2) := by decide +kernel
theorem dL_isMarked_15 : decode cL_isMarked 15 = .ok (.isub, 1) := by decide +kernel
theorem dL_isMarked_16 : decode cL_isMarked 16 = .ok (.iload 6, 2) := by decide +kernel
theorem dL_isMarked_18 : decode cL_isMarked 18 = .ok (.iadd, 1) := by decide +kernel
theorem dL_isMarked_19 : decode cL_isMarked 19 = .ok (.istore 9, 2) := by decide +kernel
theorem dL_isMarked_21 : decode cL_isMarked 21 = .ok (.aload_n 0, 1) := by decide +kernel
theorem dL_isMarked_22 : decode cL_isMarked 22 = .ok (.iload_n 3, 1) := by decide +kernel
theorem dL_isMarked_23 : decode cL_isMarked 23 = .ok (.iload 5, 2) := by decide +kernel
theorem dL_isMarked_25 : decode cL_isMarked 25 = .ok (.invokevirtual 69, 3) := by decide +kernel
theorem dL_isMarked_28 : decode cL_isMarked 28 = .ok (.istore 10, 2) := by decide +kernel
theorem dL_isMarked_30 : decode cL_isMarked 30 = .ok (.aload_n 0, 1) := by decide +kernel
theorem dL_isMarked_31 : decode cL_isMarked 31 = .ok (.iload 5, 2) := by decide +kernel
theorem dL_isMarked_33 : decode cL_isMarked 33 = .ok (.iload_n 3, 1) := by decide +kernel
theorem dL_isMarked_34 : decode cL_isMarked 34 = .ok (.invokevirtual 69, 3) := by decide +kernel
theorem dL_isMarked_37 : decode cL_isMarked 37 = .ok (.istore 11, 2) := by decide +kernel
theorem dL_isMarked_39 : decode cL_isMarked 39 = .ok (.iload 10, 2) := by decide +kernel
theorem dL_isMarked_41 : decode cL_isMarked 41 = .ok (.ldc 111, 2) := by decide +kernel
theorem dL_isMarked_43 : decode cL_isMarked 43 = .ok (.if_icmp .eq 10, 3) := by decide +kernel
theorem dL_isMarked_46 : decode cL_isMarked 46 = .ok (.iload 9, 2) := by decide +kernel
theorem dL_isMarked_48 : decode cL_isMarked 48 = .ok (.iload 10, 2) := by decide +kernel
theorem dL_isMarked_50 : decode cL_isMarked 50 = .ok (.if_icmp .gt 22, 3) := by decide +kernel
theorem dL_isMarked_53 : decode cL_isMarked 53 = .ok (.iload 11, 2) := by decide +kernel
theorem dL_isMarked_55 : decode cL_isMarked 55 = .ok (.ldc 111, 2) := by decide +kernel
theorem dL_isMarked_57 : decode cL_isMarked 57 = .ok (.if_icmp .eq 11, 3) := by decide +kernel
theorem dL_isMarked_60 : decode cL_isMarked 60 = .ok (.iload 11, 2) := by decide +kernel
theorem dL_isMarked_62 : decode cL_isMarked 62 = .ok (.ineg, 1) := by decide +kernel
theorem dL_isMarked_63 : decode cL_isMarked 63 = .ok (.iload 8, 2) := by decide +kernel
theorem dL_isMarked_65 : decode cL_isMarked 65 = .ok (.if_icmp .gt 7, 3) := by decide +kernel
theorem dL_isMarked_68 : decode cL_isMarked 68 = .ok (.iconst 1, 1) := by decide +kernel
theorem dL_isMarked_69 : decode cL_isMarked 69 = .ok (.goto 4, 3) := by decide +kernel
theorem dL_isMarked_72 : decode cL_isMarked 72 = .ok (.iconst 0, 1) := by decide +kernel
theorem dL_isMarked_73 : decode cL_isMarked 73 = .ok (.istore 12, 2) := by decide +kernel
theorem dL_isMarked_75 : decode cL_isMarked 75 = .ok (.aload_n 0, 1) := by decide +kernel
theorem dL_isMarked_76 : decode cL_isMarked 76 = .ok (.aload_n 2, 1) := by decide +kernel
theorem dL_isMarked_77 : decode cL_isMarked 77 = .ok (.invokestatic 119, 3) := by decide +kernel
theorem dL_isMarked_80 : decode cL_isMarked 80 = .ok (.lstore 13, 2) := by decide +kernel
theorem dL_isMarked_82 : decode cL_isMarked 82 = .ok (.aload_n 0, 1) := by decide +kernel
theorem dL_isMarked_83 : decode cL_isMarked 83 = .ok (.iload_n 3, 1) := by decide +kernel
theorem dL_isMarked_84 : decode cL_isMarked 84 = .ok (.iload 4, 2) := by decide +kernel
theorem dL_isMarked_86 : decode cL_isMarked 86 = .ok (.iload 5, 2) := by decide +kernel
theorem dL_isMarked_88 : decode cL_isMarked 88 = .ok (.iload 6, 2) := by decide +kernel
theorem dL_isMarked_90 : decode cL_isMarked 90 = .ok (.iload 7, 2) := by decide +kernel
theorem dL_isMarked_92 : decode cL_isMarked 92 = .ok (.invokestatic 123, 3) := by decide +kernel
theorem dL_isMarked_95 : decode cL_isMarked 95 = .ok (.istore 15, 2) := by decide +kernel
theorem dL_isMarked_97 : decode cL_isMarked 97 = .ok (.iload 12, 2) := by decide +kernel
theorem dL_isMarked_99 : decode cL_isMarked 99 = .ok (.ifCond .ne 27, 3) := by decide +kernel
theorem dL_isMarked_102 : decode cL_isMarked 102 = .ok (.iload 15, 2) := by decide +kernel
theorem dL_isMarked_104 : decode cL_isMarked 104 = .ok (.ldc 20, 2) := by decide +kernel
theorem dL_isMarked_106 : decode cL_isMarked 106 = .ok (.if_icmp .ne 18, 3) := by decide +kernel
theorem dL_isMarked_109 : decode cL_isMarked 109 = .ok (.aload_n 0, 1) := by decide +kernel
theorem dL_isMarked_110 : decode cL_isMarked 110 = .ok (.aload_n 2, 1) := by decide +kernel
theorem dL_isMarked_111 : decode cL_isMarked 111 = .ok (.invokestatic 119, 3) := by decide +kernel
theorem dL_isMarked_114 : decode cL_isMarked 114 = .ok (.lload 13, 2) := by decide +kernel
theorem dL_isMarked_116 : decode cL_isMarked 116 = .ok (.lcmp, 1) := by decide +kernel
theorem dL_isMarked_117 : decode cL_isMarked 117 = .ok (.ifCond .ne 7, 3) := by decide +kernel
theorem dL_isMarked_120 : decode cL_isMarked 120 = .ok (.iconst 1, 1) := by decide +kernel
theorem dL_isMarked_121 : decode cL_isMarked 121 = .ok (.goto 4, 3) := by decide +kernel
theorem dL_isMarked_124 : decode cL_isMarked 124 = .ok (.iconst 0, 1) := by decide +kernel
