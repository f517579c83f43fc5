theorem dX4_setStanding_14 : decode cX4_setStanding 14 = .ok (.dup, 1) := by decide +kernel
theorem dX4_setStanding_15 : decode cX4_setStanding 15 = .ok (.ldc 165, 2) := by decide +kernel
theorem dX4_setStanding_17 : decode cX4_setStanding 17 = .ok (.invokespecial 103, 3) := by decide +kernel
theorem dX4_setStanding_20 : decode cX4_setStanding 20 = .ok (.athrow, 1) := by decide +kernel
theorem dX4_setStanding_21 : decode cX4_setStanding 21 = .ok (.aload_n 0, 1) := by decide +kernel
theorem dX4_setStanding_22 : decode cX4_setStanding 22 = .ok (.getfield 33, 3) := by decide +kernel
theorem dX4_setStanding_25 : decode cX4_setStanding 25 = .ok (.iload_n 1, 1) := by decide +kernel
theorem dX4_setStanding_26 : decode cX4_setStanding 26 = .ok (.iload_n 2, 1) := by decide +kernel
theorem dX4_setStanding_27 : decode cX4_setStanding 27 = .ok (.invokevirtual 178, 3) := by decide +kernel
theorem dX4_setStanding_30 : decode cX4_setStanding 30 = .ok (.ireturn, 1) := by decide +kernel
set_option maxRecDepth 20000 in
theorem ggX4_roots_X0_holds : GoodIn wsX4_roots wsX0_holds := goodIn_r _ [8, 9, 39, 40, 41] (by decide +kernel) (by decide +kernel)
set_option maxRecDepth 20000 in
theorem gX4_roots_X0_holds : GoodIn wsX4_roots (wsV RX4 164 RX0 yX0_holds wsX0_holds) := goodIn_app (goodIn_of _ (by decide +kernel)) ggX4_roots_X0_holds
set_option maxRecDepth 20000 in
theorem ggX4_roots_X0_rootsUnder : GoodIn wsX4_roots wsX0_rootsUnder := goodIn_r _ [13, 14, 9, 15, 16, 17, 18, 19, 20, 21, 22, 23, 7, 24, 25, 26, 27, 28, 29, 30, 31, 32, 33, 34, 5, 6, 8, 39, 40, 41] (by decide +kernel) (by decide +kernel)
set_option maxRecDepth 20000 in
theorem gX4_roots_X0_rootsUnder : GoodIn wsX4_roots (wsV RX4 182 RX0 yX0_rootsUnder wsX0_rootsUnder) := goodIn_app (goodIn_of _ (by decide +kernel)) ggX4_roots_X0_rootsUnder
theorem dX4_roots_0 : decode cX4_roots 0 = .ok (.aload_n 0, 1) := by decide +kernel
theorem dX4_roots_1 : decode cX4_roots 1 = .ok (.getfield 33, 3) := by decide +kernel
theorem dX4_roots_4 : decode cX4_roots 4 = .ok (.iload_n 1, 1) := by decide +kernel
theorem dX4_roots_5 : decode cX4_roots 5 = .ok (.invokevirtual 164, 3) := by decide +kernel
theorem dX4_roots_8 : decode cX4_roots 8 = .ok (.ifCond .ne 13, 3) := by decide +kernel
theorem dX4_roots_11 : decode cX4_roots 11 = .ok (.new 99, 3) := by decide +kernel
theorem dX4_roots_14 : decode cX4_roots 14 = .ok (.dup, 1) := by decide +kernel
theorem dX4_roots_15 : decode cX4_roots 15 = .ok (.ldc 165, 2) := by decide +kernel
theorem dX4_roots_17 : decode cX4_roots 17 = .ok (.invokespecial 103, 3) := by decide +kernel
theorem dX4_roots_20 : decode cX4_roots 20 = .ok (.athrow, 1) := by decide +kernel
theorem dX4_roots_21 : decode cX4_roots 21 = .ok (.aload_n 0, 1) := by decide +kernel
theorem dX4_roots_22 : decode cX4_roots 22 = .ok (.getfield 33, 3) := by decide +kernel
theorem dX4_roots_25 : decode cX4_roots 25 = .ok (.iload_n 1, 1) := by decide +kernel
theorem dX4_roots_26 : decode cX4_roots 26 = .ok (.invokevirtual 182, 3) := by decide +kernel
theorem dX4_roots_29 : decode cX4_roots 29 = .ok (.ireturn, 1) := by decide +kernel
set_option maxRecDepth 20000 in
theorem ggX4_mainReason_X0_holds : GoodIn wsX4_mainReason wsX0_holds := goodIn_r _ [8, 9, 31, 32, 33] (by decide +kernel) (by decide +kernel)
set_option maxRecDepth 20000 in
theorem gX4_mainReason_X0_holds : GoodIn wsX4_mainReason (wsV RX4 164 RX0 yX0_holds wsX0_holds) := goodIn_app (goodIn_of _ (by decide +kernel)) ggX4_mainReason_X0_holds
set_option maxRecDepth 20000 in
theorem ggX4_mainReason_X0_weightiestReason : GoodIn wsX4_mainReason wsX0_weightiestReason := goodIn_r _ [13, 9, 14, 15, 16, 17, 7, 18, 19, 20, 5, 6, 8, 21, 22, 23, 24, 25, 26, 31, 32, 33] (by decide +kernel) (by decide +kernel)
set_option maxRecDepth 20000 in
theorem gX4_mainReason_X0_weightiestReason : GoodIn wsX4_mainReason (wsV RX4 185 RX0 yX0_weightiestReason wsX0_weightiestReason) := goodIn_app (goodIn_of _ (by decide +kernel)) ggX4_mainReason_X0_weightiestReason
theorem dX4_mainReason_0 : decode cX4_mainReason 0 = .ok (.aload_n 0, 1) := by decide +kernel
theorem dX4_mainReason_1 : decode cX4_mainReason 1 = .ok (.getfield 33, 3) := by decide +kernel
theorem dX4_mainReason_4 : decode cX4_mainReason 4 = .ok (.iload_n 1, 1) := by decide +kernel
theorem dX4_mainReason_5 : decode cX4_mainReason 5 = .ok (.invokevirtual 164, 3) := by decide +kernel
theorem dX4_mainReason_8 : decode cX4_mainReason 8 = .ok (.ifCond .ne 13, 3) := by decide +kernel
theorem dX4_mainReason_11 : decode cX4_mainReason 11 = .ok (.new 99, 3) := by decide +kernel
theorem dX4_mainReason_14 : decode cX4_mainReason 14 = .ok (.dup, 1) := by decide +kernel
theorem dX4_mainReason_15 : decode cX4_mainReason 15 = .ok (.ldc 165, 2) := by decide +kernel
theorem dX4_mainReason_17 : decode cX4_mainReason 17 = .ok (.invokespecial 103, 3) := by decide +kernel
theorem dX4_mainReason_20 : decode cX4_mainReason 20 = .ok (.athrow, 1) := by decide +kernel
theorem dX4_mainReason_21 : decode cX4_mainReason 21 = .ok (.aload_n 0, 1) := by decide +kernel
theorem dX4_mainReason_22 : decode cX4_mainReason 22 = .ok (.getfield 33, 3) := by decide +kernel
theorem dX4_mainReason_25 : decode cX4_mainReason 25 = .ok (.iload_n 1, 1) := by decide +kernel
theorem dX4_mainReason_26 : decode cX4_mainReason 26 = .ok (.invokevirtual 185, 3) := by decide +kernel
theorem dX4_mainReason_29 : decode cX4_mainReason 29 = .ok (.ireturn, 1) := by decide +kernel
theorem dX4_isWithin_0 : decode cX4_isWithin 0 = .ok (.iload_n 0, 1) := by decide +kernel
theorem dX4_isWithin_1 : decode cX4_isWithin 1 = .ok (.iload_n 1, 1) := by decide +kernel
theorem dX4_isWithin_2 : decode cX4_isWithin 2 = .ok (.if_icmp .lt 12, 3) := by decide +kernel
theorem dX4_isWithin_5 : decode cX4_isWithin 5 = .ok (.iload_n 0, 1) := by decide +kernel
theorem dX4_isWithin_6 : decode cX4_isWithin 6 = .ok (.iload_n 2, 1) := by decide +kernel
theorem dX4_isWithin_7 : decode cX4_isWithin 7 = .ok (.if_icmp .gt 7, 3) := by decide +kernel
theorem dX4_isWithin_10 : decode cX4_isWithin 10 = .ok (.iconst 1, 1) := by decide +kernel
theorem dX4_isWithin_11 : decode cX4_isWithin 11 = .ok (.goto 4, 3) := by decide +kernel
theorem dX4_isWithin_14 : decode cX4_isWithin 14 = .ok (.iconst 0, 1) := by decide +kernel
theorem dX4_isWithin_15 : decode cX4_isWithin 15 = .ok (.ireturn, 1) := by decide +kernel
set_option maxRecDepth 20000 in
theorem ggX4_isClock_X4_isWithin : GoodIn wsX4_isClock wsX4_isWithin := goodIn_r _ [4] (by decide +kernel) (by decide +kernel)
set_option maxRecDepth 20000 in
theorem gX4_isClock_X4_isWithin : GoodIn wsX4_isClock (va_wsS RX4 53 yX4_isWithin wsX4_isWithin) := goodIn_app (goodIn_of _ (by decide +kernel)) ggX4_isClock_X4_isWithin
theorem dX4_isClock_0 : decode cX4_isClock 0 = .ok (.iload_n 0, 1) := by decide +kernel
theorem dX4_isClock_1 : decode cX4_isClock 1 = .ok (.iconst 0, 1) := by decide +kernel
theorem dX4_isClock_2 : decode cX4_isClock 2 = .ok (.iconst 4, 1) := by decide +kernel
theorem dX4_isClock_3 : decode cX4_isClock 3 = .ok (.invokestatic 53, 3) := by decide +kernel
theorem dX4_isClock_6 : decode cX4_isClock 6 = .ok (.ireturn, 1) := by decide +kernel
set_option maxRecDepth 20000 in
theorem ggX4_isReading_X4_isWithin : GoodIn wsX4_isReading wsX4_isWithin := goodIn_r _ [4] (by decide +kernel) (by decide +kernel)
set_option maxRecDepth 20000 in
theorem gX4_isReading_X4_isWithin : GoodIn wsX4_isReading (va_wsS RX4 53 yX4_isWithin wsX4_isWithin) := goodIn_app (goodIn_of _ (by decide +kernel)) ggX4_isReading_X4_isWithin
theorem dX4_isReading_0 : decode cX4_isReading 0 = .ok (.iload_n 0, 1) := by decide +kernel
theorem dX4_isReading_1 : decode cX4_isReading 1 = .ok (.iconst 0, 1) := by decide +kernel
theorem dX4_isReading_2 : decode cX4_isReading 2 = .ok (.sipush 10000, 3) := by decide +kernel
theorem dX4_isReading_5 : decode cX4_isReading 5 = .ok (.invokestatic 53, 3) := by decide +kernel
theorem dX4_isReading_8 : decode cX4_isReading 8 = .ok (.ireturn, 1) := by decide +kernel
set_option maxRecDepth 20000 in
theorem ggX4_isService_X4_isWithin : GoodIn wsX4_isService wsX4_isWithin := goodIn_r _ [4] (by decide +kernel) (by decide +kernel)
set_option maxRecDepth 20000 in
theorem gX4_isService_X4_isWithin : GoodIn wsX4_isService (va_wsS RX4 53 yX4_isWithin wsX4_isWithin) := goodIn_app (goodIn_of _ (by decide +kernel)) ggX4_isService_X4_isWithin
theorem dX4_isService_0 : decode cX4_isService 0 = .ok (.iload_n 0, 1) := by decide +kernel
theorem dX4_isService_1 : decode cX4_isService 1 = .ok (.iconst 0, 1) := by decide +kernel
theorem dX4_isService_2 : decode cX4_isService 2 = .ok (.iconst 5, 1) := by decide +kernel
theorem dX4_isService_3 : decode cX4_isService 3 = .ok (.invokestatic 53, 3) := by decide +kernel
theorem dX4_isService_6 : decode cX4_isService 6 = .ok (.ireturn, 1) := by decide +kernel
theorem dX4_bit_0 : decode cX4_bit 0 = .ok (.iconst 1, 1) := by decide +kernel
theorem dX4_bit_1 : decode cX4_bit 1 = .ok (.iload_n 0, 1) := by decide +kernel
theorem dX4_bit_2 : decode cX4_bit 2 = .ok (.ishl, 1) := by decide +kernel
theorem dX4_bit_3 : decode cX4_bit 3 = .ok (.ireturn, 1) := by decide +kernel
set_option maxRecDepth 20000 in
theorem ggX4_hasBit_X4_bit : GoodIn wsX4_hasBit wsX4_bit := goodIn_r _ [4] (by decide +kernel) (by decide +kernel)
set_option maxRecDepth 20000 in
theorem gX4_hasBit_X4_bit : GoodIn wsX4_hasBit (va_wsS RX4 188 yX4_bit wsX4_bit) := goodIn_app (goodIn_of _ (by decide +kernel)) ggX4_hasBit_X4_bit
theorem dX4_hasBit_0 : decode cX4_hasBit 0 = .ok (.iload_n 0, 1) := by decide +kernel
theorem dX4_hasBit_1 : decode cX4_hasBit 1 = .ok (.iload_n 1, 1) := by decide +kernel
theorem dX4_hasBit_2 : decode cX4_hasBit 2 = .ok (.invokestatic 188, 3) := by decide +kernel
theorem dX4_hasBit_5 : decode cX4_hasBit 5 = .ok (.iand, 1) := by decide +kernel
theorem dX4_hasBit_6 : decode cX4_hasBit 6 = .ok (.ifCond .eq 7, 3) := by decide +kernel
theorem dX4_hasBit_9 : decode cX4_hasBit 9 = .ok (.iconst 1, 1) := by decide +kernel
theorem dX4_hasBit_10 : decode cX4_hasBit 10 = .ok (.goto 4, 3) := by decide +kernel
theorem dX4_hasBit_13 : decode cX4_hasBit 13 = .ok (.iconst 0, 1) := by decide +kernel
theorem dX4_hasBit_14 : decode cX4_hasBit 14 = .ok (.ireturn, 1) := by decide +kernel
theorem dJ9_max_7cf53_0 : decode cJ9_max_7cf53 0 = .ok (.iload_n 0, 1) := by decide +kernel
theorem dJ9_max_7cf53_1 : decode cJ9_max_7cf53 1 = .ok (.iload_n 1, 1) := by decide +kernel
theorem dJ9_max_7cf53_2 : decode cJ9_max_7cf53 2 = .ok (.if_icmp .lt 7, 3) := by decide +kernel
theorem dJ9_max_7cf53_5 : decode cJ9_max_7cf53 5 = .ok (.iload_n 0, 1) := by decide +kernel
theorem dJ9_max_7cf53_6 : decode cJ9_max_7cf53 6 = .ok (.goto 4, 3) := by decide +kernel
theorem dJ9_max_7cf53_9 : decode cJ9_max_7cf53 9 = .ok (.iload_n 1, 1) := by decide +kernel
theorem dJ9_max_7cf53_10 : decode cJ9_max_7cf53 10 = .ok (.ireturn, 1) := by decide +kernel
theorem dJ9_min_7cf53_0 : decode cJ9_min_7cf53 0 = .ok (.iload_n 0, 1) := by decide +kernel
theorem dJ9_min_7cf53_1 : decode cJ9_min_7cf53 1 = .ok (.iload_n 1, 1) := by decide +kernel
theorem dJ9_min_7cf53_2 : decode cJ9_min_7cf53 2 = .ok (.if_icmp .gt 7, 3) := by decide +kernel
theorem dJ9_min_7cf53_5 : decode cJ9_min_7cf53 5 = .ok (.iload_n 0, 1) := by decide +kernel
theorem dJ9_min_7cf53_6 : decode cJ9_min_7cf53 6 = .ok (.goto 4, 3) := by decide +kernel
theorem dJ9_min_7cf53_9 : decode cJ9_min_7cf53 9 = .ok (.iload_n 1, 1) := by decide +kernel
theorem dJ9_min_7cf53_10 : decode cJ9_min_7cf53 10 = .ok (.ireturn, 1) := by decide +kernel
theorem dL_dice_0 : decode cL_dice 0 = .ok (.iload_n 1, 1) := by decide +kernel
theorem dL_dice_1 : decode cL_dice 1 = .ok (.aload_n 0, 1) := by decide +kernel
theorem dL_dice_2 : decode cL_dice 2 = .ok (.arraylength, 1) := by decide +kernel
theorem dL_dice_3 : decode cL_dice 3 = .ok (.if_icmp .ge 9, 3) := by decide +kernel
theorem dL_dice_6 : decode cL_dice 6 = .ok (.aload_n 0, 1) := by decide +kernel
theorem dL_dice_7 : decode cL_dice 7 = .ok (.iload_n 1, 1) := by decide +kernel
theorem dL_dice_8 : decode cL_dice 8 = .ok (.iaload, 1) := by decide +kernel
theorem dL_dice_9 : decode cL_dice 9 = .ok (.goto 22, 3) := by decide +kernel
theorem dL_dice_12 : decode cL_dice 12 = .ok (.ldc 7, 2) := by decide +kernel
theorem dL_dice_14 : decode cL_dice 14 = .ok (.iload_n 1, 1) := by decide +kernel
theorem dL_dice_15 : decode cL_dice 15 = .ok (.sipush 149, 3) := by decide +kernel
theorem dL_dice_18 : decode cL_dice 18 = .ok (.iadd, 1) := by decide +kernel
theorem dL_dice_19 : decode cL_dice 19 = .ok (.imul, 1) := by decide +kernel
theorem dL_dice_20 : decode cL_dice 20 = .ok (.sipush 529, 3) := by decide +kernel
theorem dL_dice_23 : decode cL_dice 23 = .ok (.iload_n 1, 1) := by decide +kernel
theorem dL_dice_24 : decode cL_dice 24 = .ok (.imul, 1) := by decide +kernel
theorem dL_dice_25 : decode cL_dice 25 = .ok (.iload_n 1, 1) := by decide +kernel
theorem dL_dice_26 : decode cL_dice 26 = .ok (.imul, 1) := by decide +kernel
theorem dL_dice_27 : decode cL_dice 27 = .ok (.iadd, 1) := by decide +kernel
theorem dL_dice_28 : decode cL_dice 28 = .ok (.bipush 47, 2) := by decide +kernel
theorem dL_dice_30 : decode cL_dice 30 = .ok (.iadd, 1) := by decide +kernel
theorem dL_dice_31 : decode cL_dice 31 = .ok (.ldc 8, 2) := by decide +kernel
theorem dL_dice_33 : decode cL_dice 33 = .ok (.iand, 1) := by decide +kernel
theorem dL_dice_34 : decode cL_dice 34 = .ok (.ireturn, 1) := by decide +kernel
set_option maxRecDepth 20000 in
theorem ggL_mark_X4_mark : GoodIn wsL_mark wsX4_mark := goodIn_ca (goodIn_ca (goodIn_r _ [9, 10, 11, 12, 13, 14, 15, 16, 17, 8, 18, 19, 20, 21, 22, 23, 24, 25, 26, 27, 28, 29, 30, 31, 32, 33, 34, 35, 36, 37, 38, 39, 40, 41, 42, 43, 44, 45, 46, 47, 48, 49, 50, 51, 52, 53, 54, 55, 56, 57, 58, 59, 60, 61, 62, 63, 64, 65, 66, 67, 68, 69, 70, 71, 72, 73, 74, 75, 76, 77, 78, 79, 80, 81, 82, 83, 84, 85, 86, 87, 88, 89, 90] (by decide +kernel) (by decide +kernel)) (goodIn_sub (fun _ h => List.mem_cons_of_mem _ (List.mem_append_left _ (List.mem_append_right _ h))) (by decide +kernel))) (goodIn_sub (fun _ h => List.mem_cons_of_mem _ (List.mem_append_right _ h)) (by decide +kernel))
set_option maxRecDepth 20000 in
theorem gL_mark_X4_mark : GoodIn wsL_mark (wsV RL 9 RX4 yX4_mark wsX4_mark) := goodIn_app (goodIn_of _ (by decide +kernel)) ggL_mark_X4_mark
theorem dL_mark_0 : decode cL_mark 0 = .ok (.aload_n 0, 1) := by decide +kernel
theorem dL_mark_1 : decode cL_mark 1 = .ok (.iload_n 1, 1) := by decide +kernel
theorem dL_mark_2 : decode cL_mark 2 = .ok (.iload_n 2, 1) := by decide +kernel
theorem dL_mark_3 : decode cL_mark 3 = .ok (.iload_n 3, 1) := by decide +kernel
theorem dL_mark_4 : decode cL_mark 4 = .ok (.iload 4, 2) := by decide +kernel
theorem dL_mark_6 : decode cL_mark 6 = .ok (.iload 5, 2) := by decide +kernel
theorem dL_mark_8 : decode cL_mark 8 = .ok (.invokevirtual 9, 3) := by decide +kernel
theorem dL_mark_11 : decode cL_mark 11 = .ok (.iconst 0, 1) := by decide +kernel
theorem dL_mark_12 : decode cL_mark 12 = .ok (.ireturn, 1) := by decide +kernel
theorem dL_mark_13 : decode cL_mark 13 = .ok (.astore 6, 2) := by decide +kernel
theorem dL_mark_15 : decode cL_mark 15 = .ok (.ldc 17, 2) := by decide +kernel
theorem dL_mark_17 : decode cL_mark 17 = .ok (.ireturn, 1) := by decide +kernel
theorem dL_mark_18 : decode cL_mark 18 = .ok (.astore 6, 2) := by decide +kernel
theorem dL_mark_20 : decode cL_mark 20 = .ok (.ldc 20, 2) := by decide +kernel
theorem dL_mark_22 : decode cL_mark 22 = .ok (.ireturn, 1) := by decide +kernel
set_option maxRecDepth 20000 in
theorem ggL_add_X4_write : GoodIn wsL_add wsX4_write := goodIn_ca (goodIn_ca (goodIn_r _ [9, 10, 11, 12, 13, 14, 15, 16, 17, 8, 18, 19, 20, 21, 22, 23, 24, 25, 26, 27, 28, 29, 30, 31, 32, 33, 34, 35, 36, 37, 38, 39, 40, 41, 42, 43, 44, 45, 46, 47, 48, 49, 50, 51, 52, 53, 54, 55, 56, 57, 58, 59, 60, 61, 62, 63, 64, 65, 66, 67, 68, 69, 70, 71, 72, 73, 74, 75, 76, 112, 113, 114, 115, 116, 117, 118, 119, 120, 121, 122, 123, 124, 125] (by decide +kernel) (by decide +kernel)) (goodIn_sub (fun _ h => List.mem_cons_of_mem _ (List.mem_append_left _ (List.mem_append_right _ h))) (by decide +kernel))) (goodIn_sub (fun _ h => List.mem_cons_of_mem _ (List.mem_append_right _ h)) (by decide +kernel))
set_option maxRecDepth 20000 in
theorem gL_add_X4_write : GoodIn wsL_add (wsV RL 21 RX4 yX4_write wsX4_write) := goodIn_app (goodIn_of _ (by decide +kernel)) ggL_add_X4_write
set_option maxRecDepth 20000 in
theorem ggL_add_X4_measure : GoodIn wsL_add wsX4_measure := goodIn_ca (goodIn_ca (goodIn_r _ [80, 10, 11, 12, 13, 81, 25, 26, 8, 27, 19, 20, 21, 82, 83, 84, 85, 86, 87, 88, 89, 90, 91, 92, 93, 94, 95, 112, 113, 114, 115, 126, 127, 128, 129, 130] (by decide +kernel) (by decide +kernel)) (goodIn_sub (fun _ h => List.mem_cons_of_mem _ (List.mem_append_left _ (List.mem_append_right _ h))) (by decide +kernel))) (goodIn_sub (fun _ h => List.mem_cons_of_mem _ (List.mem_append_right _ h)) (by decide +kernel))
set_option maxRecDepth 20000 in
theorem gL_add_X4_measure : GoodIn wsL_add (wsV RL 25 RX4 yX4_measure wsX4_measure) := goodIn_app (goodIn_of _ (by decide +kernel)) ggL_add_X4_measure
set_option maxRecDepth 20000 in
theorem ggL_add_X4_addCause : GoodIn wsL_add wsX4_addCause := goodIn_ca (goodIn_r _ [99, 12, 13, 100, 101, 102, 103, 104, 105, 106, 107, 108, 109, 110, 111, 68, 8, 69, 112, 113, 114, 115, 131, 132, 133] (by decide +kernel) (by decide +kernel)) (goodIn_sub (fun _ h => List.mem_cons_of_mem _ (List.mem_append_right _ h)) (by decide +kernel))
set_option maxRecDepth 20000 in
theorem gL_add_X4_addCause : GoodIn wsL_add (wsV RL 29 RX4 yX4_addCause wsX4_addCause) := goodIn_app (goodIn_of _ (by decide +kernel)) ggL_add_X4_addCause
theorem dL_add_0 : decode cL_add 0 = .ok (.iload_n 1, 1) := by decide +kernel
theorem dL_add_1 : decode cL_add 1 = .ok (.ifCond .ne 25, 3) := by decide +kernel
theorem dL_add_4 : decode cL_add 4 = .ok (.aload_n 0, 1) := by decide +kernel
theorem dL_add_5 : decode cL_add 5 = .ok (.iload_n 2, 1) := by decide +kernel
theorem dL_add_6 : decode cL_add 6 = .ok (.iload_n 3, 1) := by decide +kernel
theorem dL_add_7 : decode cL_add 7 = .ok (.iload 4, 2) := by decide +kernel
theorem dL_add_9 : decode cL_add 9 = .ok (.iload 5, 2) := by decide +kernel
theorem dL_add_11 : decode cL_add 11 = .ok (.iconst 1, 1) := by decide +kernel
theorem dL_add_12 : decode cL_add 12 = .ok (.if_icmp .ne 7, 3) := by decide +kernel
theorem dL_add_15 : decode cL_add 15 = .ok (.iconst 1, 1) := by decide +kernel
theorem dL_add_16 : decode cL_add 16 = .ok (.goto 4, 3) := by decide +kernel
theorem dL_add_19 : decode cL_add 19 = .ok (.iconst 0, 1) := by decide +kernel
theorem dL_add_20 : decode cL_add 20 = .ok (.invokevirtual 21, 3) := by decide +kernel
theorem dL_add_23 : decode cL_add 23 = .ok (.goto 25, 3) := by decide +kernel
theorem dL_add_26 : decode cL_add 26 = .ok (.iload_n 1, 1) := by decide +kernel
theorem dL_add_27 : decode cL_add 27 = .ok (.iconst 1, 1) := by decide +kernel
theorem dL_add_28 : decode cL_add 28 = .ok (.if_icmp .ne 16, 3) := by decide +kernel
theorem dL_add_31 : decode cL_add 31 = .ok (.aload_n 0, 1) := by decide +kernel
theorem dL_add_32 : decode cL_add 32 = .ok (.iload_n 2, 1) := by decide +kernel
theorem dL_add_33 : decode cL_add 33 = .ok (.iload_n 3, 1) := by decide +kernel
theorem dL_add_34 : decode cL_add 34 = .ok (.iload 4, 2) := by decide +kernel
theorem dL_add_36 : decode cL_add 36 = .ok (.iload 5, 2) := by decide +kernel
theorem dL_add_38 : decode cL_add 38 = .ok (.invokevirtual 25, 3) := by decide +kernel
theorem dL_add_41 : decode cL_add 41 = .ok (.goto 7, 3) := by decide +kernel
theorem dL_add_44 : decode cL_add 44 = .ok (.aload_n 0, 1) := by decide +kernel
theorem dL_add_45 : decode cL_add 45 = .ok (.invokevirtual 29, 3) := by decide +kernel
theorem dL_add_48 : decode cL_add 48 = .ok (.ireturn, 1) := by decide +kernel
theorem dL_add_49 : decode cL_add 49 = .ok (.astore 6, 2) := by decide +kernel
theorem dL_add_51 : decode cL_add 51 = .ok (.ldc 17, 2) := by decide +kernel
theorem dL_add_53 : decode cL_add 53 = .ok (.ireturn, 1) := by decide +kernel
theorem dL_add_54 : decode cL_add 54 = .ok (.astore 6, 2) := by decide +kernel
theorem dL_add_56 : decode cL_add 56 = .ok (.ldc 20, 2) := by decide +kernel
theorem dL_add_58 : decode cL_add 58 = .ok (.ireturn, 1) := by decide +kernel
set_option maxRecDepth 20000 in
theorem ggL_act_X4_argue : GoodIn wsL_act wsX4_argue := goodIn_ca (goodIn_ca (goodIn_r _ [11, 12, 13, 14, 15, 16, 17, 18, 19, 20, 21, 22, 23, 24, 10, 25, 26, 27, 28, 29, 30, 31, 207, 208, 209, 210, 211, 212, 213, 214, 215, 216, 217, 218, 219] (by decide +kernel) (by decide +kernel)) (goodIn_sub (fun _ h => List.mem_cons_of_mem _ (List.mem_append_left _ (List.mem_append_left _ (List.mem_append_right _ h)))) (by decide +kernel))) (goodIn_sub (fun _ h => List.mem_cons_of_mem _ (List.mem_append_left _ (List.mem_append_right _ h))) (by decide +kernel))
set_option maxRecDepth 20000 in
theorem gL_act_X4_argue : GoodIn wsL_act (wsV RL 33 RX4 yX4_argue wsX4_argue) := goodIn_app (goodIn_of _ (by decide +kernel)) ggL_act_X4_argue
set_option maxRecDepth 20000 in
theorem ggL_act_X4_argueReason : GoodIn wsL_act wsX4_argueReason := goodIn_ca (goodIn_ca (goodIn_ca (goodIn_r _ [35, 12, 13, 14, 15, 36, 37, 38, 39, 40, 41, 42, 43, 44, 23, 24, 10, 25, 45, 46, 47, 48, 49, 50, 51, 52, 53, 54, 55, 56, 57, 58, 59, 60, 61, 62, 63, 64, 65, 66, 67, 68, 69, 70, 71, 207, 208, 209, 210, 220, 221, 222] (by decide +kernel) (by decide +kernel)) (goodIn_sub (fun _ h => List.mem_cons_of_mem _ (List.mem_append_left _ (List.mem_append_left _ (List.mem_append_right _ h)))) (by decide +kernel))) (goodIn_sub (fun _ h => List.mem_cons_of_mem _ (List.mem_append_left _ (List.mem_append_right _ h))) (by decide +kernel))) (goodIn_sub (fun _ h => List.mem_cons_of_mem _ (List.mem_append_right _ h)) (by decide +kernel))
set_option maxRecDepth 20000 in
theorem gL_act_X4_argueReason : GoodIn wsL_act (wsV RL 37 RX4 yX4_argueReason wsX4_argueReason) := goodIn_app (goodIn_of _ (by decide +kernel)) ggL_act_X4_argueReason
set_option maxRecDepth 20000 in
theorem ggL_act_X4_setStanding : GoodIn wsL_act wsX4_setStanding := goodIn_ca (goodIn_r _ [75, 12, 13, 38, 39, 40, 41, 42, 43, 44, 76, 77, 78, 79, 80, 55, 10, 56, 57, 49, 50, 207, 208, 209, 210, 220, 221, 222] (by decide +kernel) (by decide +kernel)) (goodIn_sub (fun _ h => List.mem_cons_of_mem _ (List.mem_append_left _ (List.mem_append_left _ (List.mem_append_right _ h)))) (by decide +kernel))
set_option maxRecDepth 20000 in
theorem gL_act_X4_setStanding : GoodIn wsL_act (wsV RL 41 RX4 yX4_setStanding wsX4_setStanding) := goodIn_app (goodIn_of _ (by decide +kernel)) ggL_act_X4_setStanding
set_option maxRecDepth 20000 in
theorem ggL_act_X4_mustComeBefore : GoodIn wsL_act wsX4_mustComeBefore := goodIn_ca (goodIn_r _ [84, 12, 13, 16, 17, 18, 19, 20, 21, 22, 85, 86, 87, 88, 89, 31, 55, 10, 56, 57, 49, 50, 207, 208, 209, 210, 211, 212, 213, 214, 215, 216, 217, 218, 219] (by decide +kernel) (by decide +kernel)) (goodIn_sub (fun _ h => List.mem_cons_of_mem _ (List.mem_append_left _ (List.mem_append_left _ (List.mem_append_right _ h)))) (by decide +kernel))
set_option maxRecDepth 20000 in
theorem gL_act_X4_mustComeBefore : GoodIn wsL_act (wsV RL 45 RX4 yX4_mustComeBefore wsX4_mustComeBefore) := goodIn_app (goodIn_of _ (by decide +kernel)) ggL_act_X4_mustComeBefore
set_option maxRecDepth 20000 in
theorem ggL_act_X4_lineAt : GoodIn wsL_act wsX4_lineAt := goodIn_ca (goodIn_r _ [93, 12, 13, 16, 17, 18, 19, 20, 21, 22, 94, 95, 96, 97, 98, 31, 207, 208, 209, 210, 211, 212, 213, 214, 215, 216, 217, 218, 219] (by decide +kernel) (by decide +kernel)) (goodIn_sub (fun _ h => List.mem_cons_of_mem _ (List.mem_append_left _ (List.mem_append_left _ (List.mem_append_right _ h)))) (by decide +kernel))
set_option maxRecDepth 20000 in
theorem gL_act_X4_lineAt : GoodIn wsL_act (wsV RL 49 RX4 yX4_lineAt wsX4_lineAt) := goodIn_app (goodIn_of _ (by decide +kernel)) ggL_act_X4_lineAt
set_option maxRecDepth 20000 in
theorem ggL_act_X4_isDoubtful : GoodIn wsL_act wsX4_isDoubtful := goodIn_ca (goodIn_r _ [102, 12, 13, 16, 17, 18, 19, 20, 21, 22, 103, 104, 105, 106, 30, 31, 207, 208, 209, 210, 211, 212, 213, 214, 215, 216, 217, 218, 219] (by decide +kernel) (by decide +kernel)) (goodIn_sub (fun _ h => List.mem_cons_of_mem _ (List.mem_append_left _ (List.mem_append_left _ (List.mem_append_right _ h)))) (by decide +kernel))
set_option maxRecDepth 20000 in
theorem gL_act_X4_isDoubtful : GoodIn wsL_act (wsV RL 53 RX4 yX4_isDoubtful wsX4_isDoubtful) := goodIn_app (goodIn_of _ (by decide +kernel)) ggL_act_X4_isDoubtful
set_option maxRecDepth 20000 in
theorem ggL_act_X4_storyAt : GoodIn wsL_act wsX4_storyAt := goodIn_ca (goodIn_r _ [110, 12, 13, 16, 111, 112, 113, 20, 114, 22, 115, 95, 96, 97, 98, 31, 18, 19, 21, 116, 117, 118, 119, 120, 30, 207, 208, 209, 210, 211, 212, 213, 214, 215, 216, 217, 218, 219] (by decide +kernel) (by decide +kernel)) (goodIn_sub (fun _ h => List.mem_cons_of_mem _ (List.mem_append_left _ (List.mem_append_left _ (List.mem_append_right _ h)))) (by decide +kernel))
set_option maxRecDepth 20000 in
theorem gL_act_X4_storyAt : GoodIn wsL_act (wsV RL 57 RX4 yX4_storyAt wsX4_storyAt) := goodIn_app (goodIn_of _ (by decide +kernel)) ggL_act_X4_storyAt
set_option maxRecDepth 20000 in
theorem ggL_act_X4_earliest : GoodIn wsL_act wsX4_earliest := goodIn_ca (goodIn_r _ [124, 12, 13, 16, 125, 17, 18, 19, 20, 21, 22, 126, 127, 128, 129, 130, 131, 132, 133, 31, 134, 135, 136, 137, 138, 139, 140, 141, 10, 142, 23, 24, 25, 207, 208, 209, 210, 211, 212, 213, 214, 215, 216, 217, 218, 219, 223] (by decide +kernel) (by decide +kernel)) (goodIn_sub (fun _ h => List.mem_cons_of_mem _ (List.mem_append_left _ (List.mem_append_left _ (List.mem_append_right _ h)))) (by decide +kernel))
set_option maxRecDepth 20000 in
theorem gL_act_X4_earliest : GoodIn wsL_act (wsV RL 60 RX4 yX4_earliest wsX4_earliest) := goodIn_app (goodIn_of _ (by decide +kernel)) ggL_act_X4_earliest
set_option maxRecDepth 20000 in
theorem ggL_act_X4_roots : GoodIn wsL_act wsX4_roots := goodIn_ca (goodIn_r _ [146, 12, 13, 38, 39, 40, 41, 42, 43, 44, 147, 148, 149, 150, 80, 55, 10, 56, 57, 49, 50, 51, 52, 53, 54, 58, 59, 60, 61, 62, 63, 64, 65, 66, 67, 207, 208, 209, 210, 220, 221, 222] (by decide +kernel) (by decide +kernel)) (goodIn_sub (fun _ h => List.mem_cons_of_mem _ (List.mem_append_left _ (List.mem_append_left _ (List.mem_append_right _ h)))) (by decide +kernel))
set_option maxRecDepth 20000 in
theorem gL_act_X4_roots : GoodIn wsL_act (wsV RL 63 RX4 yX4_roots wsX4_roots) := goodIn_app (goodIn_of _ (by decide +kernel)) ggL_act_X4_roots
set_option maxRecDepth 20000 in
theorem ggL_act_X4_mainReason : GoodIn wsL_act wsX4_mainReason := goodIn_ca (goodIn_r _ [154, 12, 13, 38, 39, 40, 41, 42, 43, 44, 155, 156, 157, 158, 80, 62, 63, 64, 65, 66, 67, 55, 10, 56, 57, 49, 50, 207, 208, 209, 210, 220, 221, 222] (by decide +kernel) (by decide +kernel)) (goodIn_sub (fun _ h => List.mem_cons_of_mem _ (List.mem_append_left _ (List.mem_append_left _ (List.mem_append_right _ h)))) (by decide +kernel))
set_option maxRecDepth 20000 in
theorem gL_act_X4_mainReason : GoodIn wsL_act (wsV RL 66 RX4 yX4_mainReason wsX4_mainReason) := goodIn_app (goodIn_of _ (by decide +kernel)) ggL_act_X4_mainReason
set_option maxRecDepth 20000 in
theorem ggL_act_X4_greatest : GoodIn wsL_act wsX4_greatest := goodIn_ca (goodIn_r _ [162, 14, 15, 125, 163, 141, 10, 142, 23, 24, 25, 164, 135, 136, 137, 138, 139, 140, 207, 208, 209, 210, 223] (by decide +kernel) (by decide +kernel)) (goodIn_sub (fun _ h => List.mem_cons_of_mem _ (List.mem_append_left _ (List.mem_append_right _ h))) (by decide +kernel))
set_option maxRecDepth 20000 in
theorem gL_act_X4_greatest : GoodIn wsL_act (wsV RL 69 RX4 yX4_greatest wsX4_greatest) := goodIn_app (goodIn_of _ (by decide +kernel)) ggL_act_X4_greatest
set_option maxRecDepth 20000 in
theorem ggL_act_X4_firstOf : GoodIn wsL_act wsX4_firstOf := goodIn_ca (goodIn_r _ [168, 14, 15, 16, 169, 170, 10, 171, 23, 24, 25, 172, 173, 174, 20, 175, 22, 176, 115, 95, 96, 97, 98, 31, 18, 19, 21, 207, 208, 209, 210, 211, 212, 213, 214, 215, 216, 217, 218, 219] (by decide +kernel) (by decide +kernel)) (goodIn_sub (fun _ h => List.mem_cons_of_mem _ (List.mem_append_left _ (List.mem_append_right _ h))) (by decide +kernel))
set_option maxRecDepth 20000 in
theorem gL_act_X4_firstOf : GoodIn wsL_act (wsV RL 73 RX4 yX4_firstOf wsX4_firstOf) := goodIn_app (goodIn_of _ (by decide +kernel)) ggL_act_X4_firstOf
set_option maxRecDepth 20000 in
theorem ggL_act_X4_impact : GoodIn wsL_act wsX4_impact := goodIn_ca (goodIn_r _ [180, 14, 15, 181, 169, 170, 10, 171, 23, 24, 25, 182, 183, 184, 185, 186, 187, 188, 189, 190, 191, 192, 193, 194, 195, 196, 197, 198, 199, 200, 201, 202, 203, 204, 205, 206, 207, 208, 209, 210, 224, 225, 226, 227, 228] (by decide +kernel) (by decide +kernel)) (goodIn_sub (fun _ h => List.mem_cons_of_mem _ (List.mem_append_left _ (List.mem_append_right _ h))) (by decide +kernel))
set_option maxRecDepth 20000 in
theorem gL_act_X4_impact : GoodIn wsL_act (wsV RL 76 RX4 yX4_impact wsX4_impact) := goodIn_app (goodIn_of _ (by decide +kernel)) ggL_act_X4_impact
theorem dL_act_0 : decode cL_act 0 = .ok (.iload_n 1, 1) := by decide +kernel
theorem dL_act_1 : decode cL_act 1 = .ok (.ifCond .ne 23, 3) := by decide +kernel
theorem dL_act_4 : decode cL_act 4 = .ok (.aload_n 0, 1) := by decide +kernel
theorem dL_act_5 : decode cL_act 5 = .ok (.iload_n 2, 1) := by decide +kernel
theorem dL_act_6 : decode cL_act 6 = .ok (.iload_n 3, 1) := by decide +kernel
theorem dL_act_7 : decode cL_act 7 = .ok (.iload 4, 2) := by decide +kernel
theorem dL_act_9 : decode cL_act 9 = .ok (.iconst 1, 1) := by decide +kernel
theorem dL_act_10 : decode cL_act 10 = .ok (.if_icmp .ne 7, 3) := by decide +kernel
theorem dL_act_13 : decode cL_act 13 = .ok (.iconst 1, 1) := by decide +kernel
theorem dL_act_14 : decode cL_act 14 = .ok (.goto 4, 3) := by decide +kernel
theorem dL_act_17 : decode cL_act 17 = .ok (.iconst 0, 1) := by decide +kernel
theorem dL_act_18 : decode cL_act 18 = .ok (.invokevirtual 33, 3) := by decide +kernel
theorem dL_act_21 : decode cL_act 21 = .ok (.goto 196, 3) := by decide +kernel
theorem dL_act_24 : decode cL_act 24 = .ok (.iload_n 1, 1) := by decide +kernel
theorem dL_act_25 : decode cL_act 25 = .ok (.iconst 1, 1) := by decide +kernel
theorem dL_act_26 : decode cL_act 26 = .ok (.if_icmp .ne 14, 3) := by decide +kernel
theorem dL_act_29 : decode cL_act 29 = .ok (.aload_n 0, 1) := by decide +kernel
theorem dL_act_30 : decode cL_act 30 = .ok (.iload_n 2, 1) := by decide +kernel
theorem dL_act_31 : decode cL_act 31 = .ok (.iload_n 3, 1) := by decide +kernel
theorem dL_act_32 : decode cL_act 32 = .ok (.iload 4, 2) := by decide +kernel
theorem dL_act_34 : decode cL_act 34 = .ok (.invokevirtual 37, 3) := by decide +kernel
theorem dL_act_37 : decode cL_act 37 = .ok (.goto 180, 3) := by decide +kernel
theorem dL_act_40 : decode cL_act 40 = .ok (.iload_n 1, 1) := by decide +kernel
theorem dL_act_41 : decode cL_act 41 = .ok (.iconst 2, 1) := by decide +kernel
theorem dL_act_42 : decode cL_act 42 = .ok (.if_icmp .ne 29, 3) := by decide +kernel
theorem dL_act_45 : decode cL_act 45 = .ok (.aload_n 0, 1) := by decide +kernel
theorem dL_act_46 : decode cL_act 46 = .ok (.iload_n 2, 1) := by decide +kernel
theorem dL_act_47 : decode cL_act 47 = .ok (.iload_n 3, 1) := by decide +kernel
theorem dL_act_48 : decode cL_act 48 = .ok (.iconst 1, 1) := by decide +kernel
theorem dL_act_49 : decode cL_act 49 = .ok (.if_icmp .ne 7, 3) := by decide +kernel
theorem dL_act_52 : decode cL_act 52 = .ok (.iconst 1, 1) := by decide +kernel
theorem dL_act_53 : decode cL_act 53 = .ok (.goto 4, 3) := by decide +kernel
theorem dL_act_56 : decode cL_act 56 = .ok (.iconst 0, 1) := by decide +kernel
theorem dL_act_57 : decode cL_act 57 = .ok (.invokevirtual 41, 3) := by decide +kernel
theorem dL_act_60 : decode cL_act 60 = .ok (.ifCond .eq 7, 3) := by decide +kernel
theorem dL_act_63 : decode cL_act 63 = .ok (.iconst 1, 1) := by decide +kernel
theorem dL_act_64 : decode cL_act 64 = .ok (.goto 153, 3) := by decide +kernel
theorem dL_act_67 : decode cL_act 67 = .ok (.iconst 0, 1) := by decide +kernel
theorem dL_act_68 : decode cL_act 68 = .ok (.goto 149, 3) := by decide +kernel
theorem dL_act_71 : decode cL_act 71 = .ok (.iload_n 1, 1) := by decide +kernel
theorem dL_act_72 : decode cL_act 72 = .ok (.iconst 3, 1) := by decide +kernel
theorem dL_act_73 : decode cL_act 73 = .ok (.if_icmp .ne 20, 3) := by decide +kernel
theorem dL_act_76 : decode cL_act 76 = .ok (.aload_n 0, 1) := by decide +kernel
theorem dL_act_77 : decode cL_act 77 = .ok (.iload_n 2, 1) := by decide +kernel
theorem dL_act_78 : decode cL_act 78 = .ok (.iload_n 3, 1) := by decide +kernel
theorem dL_act_79 : decode cL_act 79 = .ok (.invokevirtual 45, 3) := by decide +kernel
theorem dL_act_82 : decode cL_act 82 = .ok (.ifCond .eq 7, 3) := by decide +kernel
theorem dL_act_85 : decode cL_act 85 = .ok (.iconst 1, 1) := by decide +kernel
theorem dL_act_86 : decode cL_act 86 = .ok (.goto 131, 3) := by decide +kernel
theorem dL_act_89 : decode cL_act 89 = .ok (.iconst 0, 1) := by decide +kernel
theorem dL_act_90 : decode cL_act 90 = .ok (.goto 127, 3) := by decide +kernel
theorem dL_act_93 : decode cL_act 93 = .ok (.iload_n 1, 1) := by decide +kernel
theorem dL_act_94 : decode cL_act 94 = .ok (.iconst 4, 1) := by decide +kernel
theorem dL_act_95 : decode cL_act 95 = .ok (.if_icmp .ne 11, 3) := by decide +kernel
theorem dL_act_98 : decode cL_act 98 = .ok (.aload_n 0, 1) := by decide +kernel
theorem dL_act_99 : decode cL_act 99 = .ok (.iload_n 2, 1) := by decide +kernel
theorem dL_act_100 : decode cL_act 100 = .ok (.invokevirtual 49, 3) := by decide +kernel
theorem dL_act_103 : decode cL_act 103 = .ok (.goto 114, 3) := by decide +kernel
theorem dL_act_106 : decode cL_act 106 = .ok (.iload_n 1, 1) := by decide +kernel
theorem dL_act_107 : decode cL_act 107 = .ok (.iconst 5, 1) := by decide +kernel
theorem dL_act_108 : decode cL_act 108 = .ok (.if_icmp .ne 19, 3) := by decide +kernel
theorem dL_act_111 : decode cL_act 111 = .ok (.aload_n 0, 1) := by decide +kernel
theorem dL_act_112 : decode cL_act 112 = .ok (.iload_n 2, 1) := by decide +kernel
theorem dL_act_113 : decode cL_act 113 = .ok (.invokevirtual 53, 3) := by decide +kernel
theorem dL_act_116 : decode cL_act 116 = .ok (.ifCond .eq 7, 3) := by decide +kernel
theorem dL_act_119 : decode cL_act 119 = .ok (.iconst 1, 1) := by decide +kernel
theorem dL_act_120 : decode cL_act 120 = .ok (.goto 97, 3) := by decide +kernel
theorem dL_act_123 : decode cL_act 123 = .ok (.iconst 0, 1) := by decide +kernel
theorem dL_act_124 : decode cL_act 124 = .ok (.goto 93, 3) := by decide +kernel
theorem dL_act_127 : decode cL_act 127 = .ok (.iload_n 1, 1) := by decide +kernel
theorem dL_act_128 : decode cL_act 128 = .ok (.bipush 6, 2) := by decide +kernel
theorem dL_act_130 : decode cL_act 130 = .ok (.if_icmp .ne 11, 3) := by decide +kernel
theorem dL_act_133 : decode cL_act 133 = .ok (.aload_n 0, 1) := by decide +kernel
theorem dL_act_134 : decode cL_act 134 = .ok (.iload_n 2, 1) := by decide +kernel
theorem dL_act_135 : decode cL_act 135 = .ok (.invokevirtual 57, 3) := by decide +kernel
theorem dL_act_138 : decode cL_act 138 = .ok (.goto 79, 3) := by decide +kernel
theorem dL_act_141 : decode cL_act 141 = .ok (.iload_n 1, 1) := by decide +kernel
theorem dL_act_142 : decode cL_act 142 = .ok (.bipush 7, 2) := by decide +kernel
theorem dL_act_144 : decode cL_act 144 = .ok (.if_icmp .ne 11, 3) := by decide +kernel
theorem dL_act_147 : decode cL_act 147 = .ok (.aload_n 0, 1) := by decide +kernel
theorem dL_act_148 : decode cL_act 148 = .ok (.iload_n 2, 1) := by decide +kernel
theorem dL_act_149 : decode cL_act 149 = .ok (.invokevirtual 60, 3) := by decide +kernel
theorem dL_act_152 : decode cL_act 152 = .ok (.goto 65, 3) := by decide +kernel
theorem dL_act_155 : decode cL_act 155 = .ok (.iload_n 1, 1) := by decide +kernel
theorem dL_act_156 : decode cL_act 156 = .ok (.bipush 8, 2) := by decide +kernel
theorem dL_act_158 : decode cL_act 158 = .ok (.if_icmp .ne 11, 3) := by decide +kernel
theorem dL_act_161 : decode cL_act 161 = .ok (.aload_n 0, 1) := by decide +kernel
theorem dL_act_162 : decode cL_act 162 = .ok (.iload_n 2, 1) := by decide +kernel
theorem dL_act_163 : decode cL_act 163 = .ok (.invokevirtual 63, 3) := by decide +kernel
theorem dL_act_166 : decode cL_act 166 = .ok (.goto 51, 3) := by decide +kernel
theorem dL_act_169 : decode cL_act 169 = .ok (.iload_n 1, 1) := by decide +kernel
theorem dL_act_170 : decode cL_act 170 = .ok (.bipush 9, 2) := by decide +kernel
theorem dL_act_172 : decode cL_act 172 = .ok (.if_icmp .ne 11, 3) := by decide +kernel
theorem dL_act_175 : decode cL_act 175 = .ok (.aload_n 0, 1) := by decide +kernel
theorem dL_act_176 : decode cL_act 176 = .ok (.iload_n 2, 1) := by decide +kernel
theorem dL_act_177 : decode cL_act 177 = .ok (.invokevirtual 66, 3) := by decide +kernel
theorem dL_act_180 : decode cL_act 180 = .ok (.goto 37, 3) := by decide +kernel
theorem dL_act_183 : decode cL_act 183 = .ok (.iload_n 1, 1) := by decide +kernel
theorem dL_act_184 : decode cL_act 184 = .ok (.bipush 10, 2) := by decide +kernel
theorem dL_act_186 : decode cL_act 186 = .ok (.if_icmp .ne 12, 3) := by decide +kernel
theorem dL_act_189 : decode cL_act 189 = .ok (.aload_n 0, 1) := by decide +kernel
theorem dL_act_190 : decode cL_act 190 = .ok (.iload_n 2, 1) := by decide +kernel
theorem dL_act_191 : decode cL_act 191 = .ok (.iload_n 3, 1) := by decide +kernel
theorem dL_act_192 : decode cL_act 192 = .ok (.invokevirtual 69, 3) := by decide +kernel
theorem dL_act_195 : decode cL_act 195 = .ok (.goto 22, 3) := by decide +kernel
theorem dL_act_198 : decode cL_act 198 = .ok (.iload_n 1, 1) := by decide +kernel
theorem dL_act_199 : decode cL_act 199 = .ok (.bipush 11, 2) := by decide +kernel
theorem dL_act_201 : decode cL_act 201 = .ok (.if_icmp .ne 11, 3) := by decide +kernel
theorem dL_act_204 : decode cL_act 204 = .ok (.aload_n 0, 1) := by decide +kernel
theorem dL_act_205 : decode cL_act 205 = .ok (.iload_n 2, 1) := by decide +kernel
theorem dL_act_206 : decode cL_act 206 = .ok (.invokevirtual 73, 3) := by decide +kernel
theorem dL_act_209 : decode cL_act 209 = .ok (.goto 8, 3) := by decide +kernel
theorem dL_act_212 : decode cL_act 212 = .ok (.aload_n 0, 1) := by decide +kernel
theorem dL_act_213 : decode cL_act 213 = .ok (.iload_n 2, 1) := by decide +kernel
theorem dL_act_214 : decode cL_act 214 = .ok (.invokevirtual 76, 3) := by decide +kernel
theorem dL_act_217 : decode cL_act 217 = .ok (.ireturn, 1) := by decide +kernel
theorem dL_act_218 : decode cL_act 218 = .ok (.astore 5, 2) := by decide +kernel
theorem dL_act_220 : decode cL_act 220 = .ok (.ldc 81, 2) := by decide +kernel
theorem dL_act_222 : decode cL_act 222 = .ok (.ireturn, 1) := by decide +kernel
theorem dL_act_223 : decode cL_act 223 = .ok (.astore 5, 2) := by decide +kernel
theorem dL_act_225 : decode cL_act 225 = .ok (.ldc 17, 2) := by decide +kernel
theorem dL_act_227 : decode cL_act 227 = .ok (.ireturn, 1) := by decide +kernel
theorem dL_act_228 : decode cL_act 228 = .ok (.astore 5, 2) := by decide +kernel
theorem dL_act_230 : decode cL_act 230 = .ok (.ldc 20, 2) := by decide +kernel
theorem dL_act_232 : decode cL_act 232 = .ok (.ireturn, 1) := by decide +kernel
set_option maxRecDepth 20000 in
theorem ggL_orders_X4_orders : GoodIn wsL_orders wsX4_orders := goodIn_ca (goodIn_r _ [7, 8, 9, 10, 11, 12, 13, 14, 15, 16, 17, 18, 19, 20, 21, 22, 6, 23, 24, 25, 26, 27, 28, 29, 30, 31, 32, 33, 34, 35, 36, 37, 38, 39, 40, 41] (by decide +kernel) (by decide +kernel)) (goodIn_sub (fun _ h => List.mem_cons_of_mem _ (List.mem_append_right _ h)) (by decide +kernel))
set_option maxRecDepth 20000 in
theorem gL_orders_X4_orders : GoodIn wsL_orders (wsV RL 82 RX4 yX4_orders wsX4_orders) := goodIn_app (goodIn_of _ (by decide +kernel)) ggL_orders_X4_orders
theorem dL_orders_0 : decode cL_orders 0 = .ok (.aload_n 0, 1) := by decide +kernel
theorem dL_orders_1 : decode cL_orders 1 = .ok (.invokevirtual 82, 3) := by decide +kernel
theorem dL_orders_4 : decode cL_orders 4 = .ok (.lreturn, 1) := by decide +kernel
theorem dL_orders_5 : decode cL_orders 5 = .ok (.astore_n 1, 1) := by decide +kernel
theorem dL_orders_6 : decode cL_orders 6 = .ok (.ldc2_w 86, 3) := by decide +kernel
theorem dL_orders_9 : decode cL_orders 9 = .ok (.lreturn, 1) := by decide +kernel
set_option maxRecDepth 20000 in
theorem ggL_all_X4_lines : GoodIn wsL_all wsX4_lines := goodIn_r _ [12, 13, 14, 15, 16, 17, 18, 19, 163, 164, 165, 166, 167, 168, 169, 170, 171, 172, 173, 174, 175] (by decide +kernel) (by decide +kernel)
set_option maxRecDepth 20000 in
theorem gL_all_X4_lines : GoodIn wsL_all (wsV RL 88 RX4 yX4_lines wsX4_lines) := goodIn_app (goodIn_of _ (by decide +kernel)) ggL_all_X4_lines
set_option maxRecDepth 20000 in
theorem ggL_all_X4_story : GoodIn wsL_all wsX4_story := goodIn_r _ [23, 13, 24, 25, 26, 17, 27, 19, 28, 29, 30, 31, 32, 33, 34, 35, 36, 37, 38, 39, 40, 41, 42, 163, 164, 165, 166, 167, 168, 169, 170, 171, 172, 173, 174, 175] (by decide +kernel) (by decide +kernel)
set_option maxRecDepth 20000 in
theorem gL_all_X4_story : GoodIn wsL_all (wsV RL 93 RX4 yX4_story wsX4_story) := goodIn_app (goodIn_of _ (by decide +kernel)) ggL_all_X4_story
set_option maxRecDepth 20000 in
theorem ggL_all_X4_minutes : GoodIn wsL_all wsX4_minutes := goodIn_r _ [46, 47, 48, 49, 50, 51, 52, 53, 54, 55, 56, 57, 58, 59, 60, 61, 62, 63, 64, 65, 66, 67, 68, 69, 70, 71, 72, 73, 11, 74, 163, 164, 165, 166, 176, 177, 178, 179, 180] (by decide +kernel) (by decide +kernel)
set_option maxRecDepth 20000 in
theorem gL_all_X4_minutes : GoodIn wsL_all (wsV RL 98 RX4 yX4_minutes wsX4_minutes) := goodIn_app (goodIn_of _ (by decide +kernel)) ggL_all_X4_minutes
set_option maxRecDepth 20000 in
theorem ggL_all_X4_impact : GoodIn wsL_all wsX4_impact := goodIn_ca (goodIn_r _ [78, 79, 80, 47, 81, 82, 11, 83, 84, 73, 74, 85, 86, 87, 51, 88, 53, 54, 55, 56, 57, 58, 59, 60, 61, 62, 63, 64, 65, 66, 67, 68, 69, 70, 71, 72, 163, 164, 165, 166, 176, 177, 178, 179, 180] (by decide +kernel) (by decide +kernel)) (goodIn_sub (fun _ h => List.mem_cons_of_mem _ (List.mem_append_left _ (List.mem_append_right _ h))) (by decide +kernel))
set_option maxRecDepth 20000 in
theorem gL_all_X4_impact : GoodIn wsL_all (wsV RL 76 RX4 yX4_impact wsX4_impact) := goodIn_app (goodIn_of _ (by decide +kernel)) ggL_all_X4_impact
set_option maxRecDepth 20000 in
theorem ggL_all_X4_greatest : GoodIn wsL_all wsX4_greatest := goodIn_ca (goodIn_r _ [92, 79, 80, 93, 94, 95, 11, 96, 84, 73, 74, 97, 98, 99, 100, 101, 102, 103, 163, 164, 165, 166, 181] (by decide +kernel) (by decide +kernel)) (goodIn_sub (fun _ h => List.mem_cons_of_mem _ (List.mem_append_left _ (List.mem_append_right _ h))) (by decide +kernel))
set_option maxRecDepth 20000 in
theorem gL_all_X4_greatest : GoodIn wsL_all (wsV RL 69 RX4 yX4_greatest wsX4_greatest) := goodIn_app (goodIn_of _ (by decide +kernel)) ggL_all_X4_greatest
set_option maxRecDepth 20000 in
theorem ggL_all_X4_lineAt : GoodIn wsL_all wsX4_lineAt := goodIn_ca (goodIn_r _ [107, 108, 109, 13, 110, 34, 35, 17, 36, 19, 111, 29, 30, 31, 32, 33, 163, 164, 165, 166, 167, 168, 169, 170, 171, 172, 173, 174, 175] (by decide +kernel) (by decide +kernel)) (goodIn_sub (fun _ h => List.mem_cons_of_mem _ (List.mem_append_right _ h)) (by decide +kernel))
set_option maxRecDepth 20000 in
theorem gL_all_X4_lineAt : GoodIn wsL_all (wsV RL 49 RX4 yX4_lineAt wsX4_lineAt) := goodIn_app (goodIn_of _ (by decide +kernel)) ggL_all_X4_lineAt
set_option maxRecDepth 20000 in
theorem ggL_all_X4_isDoubtful : GoodIn wsL_all wsX4_isDoubtful := goodIn_ca (goodIn_r _ [115, 108, 109, 13, 110, 34, 35, 17, 36, 19, 116, 117, 118, 119, 42, 33, 163, 164, 165, 166, 167, 168, 169, 170, 171, 172, 173, 174, 175] (by decide +kernel) (by decide +kernel)) (goodIn_sub (fun _ h => List.mem_cons_of_mem _ (List.mem_append_right _ h)) (by decide +kernel))
set_option maxRecDepth 20000 in
theorem gL_all_X4_isDoubtful : GoodIn wsL_all (wsV RL 53 RX4 yX4_isDoubtful wsX4_isDoubtful) := goodIn_app (goodIn_of _ (by decide +kernel)) ggL_all_X4_isDoubtful
set_option maxRecDepth 20000 in
theorem ggL_all_X4_roots : GoodIn wsL_all wsX4_roots := goodIn_ca (goodIn_r _ [123, 108, 109, 124, 125, 126, 127, 128, 129, 130, 131, 132, 133, 134, 135, 136, 11, 137, 138, 139, 140, 141, 142, 143, 144, 145, 146, 147, 148, 149, 150, 151, 152, 153, 154, 163, 164, 165, 166, 182, 183, 184] (by decide +kernel) (by decide +kernel)) (goodIn_sub (fun _ h => List.mem_cons_of_mem _ (List.mem_append_right _ h)) (by decide +kernel))
set_option maxRecDepth 20000 in
theorem gL_all_X4_roots : GoodIn wsL_all (wsV RL 63 RX4 yX4_roots wsX4_roots) := goodIn_app (goodIn_of _ (by decide +kernel)) ggL_all_X4_roots
set_option maxRecDepth 20000 in
theorem ggL_all_X4_mainReason : GoodIn wsL_all wsX4_mainReason := goodIn_ca (goodIn_r _ [158, 108, 109, 124, 125, 126, 127, 128, 129, 130, 159, 160, 161, 162, 135, 149, 150, 151, 152, 153, 154, 136, 11, 137, 138, 139, 140, 163, 164, 165, 166, 182, 183, 184] (by decide +kernel) (by decide +kernel)) (goodIn_sub (fun _ h => List.mem_cons_of_mem _ (List.mem_append_right _ h)) (by decide +kernel))
set_option maxRecDepth 20000 in
theorem gL_all_X4_mainReason : GoodIn wsL_all (wsV RL 66 RX4 yX4_mainReason wsX4_mainReason) := goodIn_app (goodIn_of _ (by decide +kernel)) ggL_all_X4_mainReason
theorem dL_all_0 : decode cL_all 0 = .ok (.aload_n 0, 1) := by decide +kernel
theorem dL_all_1 : decode cL_all 1 = .ok (.invokevirtual 88, 3) := by decide +kernel
theorem dL_all_4 : decode cL_all 4 = .ok (.i2l, 1) := by decide +kernel
theorem dL_all_5 : decode cL_all 5 = .ok (.ldc2_w 91, 3) := by decide +kernel
theorem dL_all_8 : decode cL_all 8 = .ok (.aload_n 0, 1) := by decide +kernel
theorem dL_all_9 : decode cL_all 9 = .ok (.invokevirtual 93, 3) := by decide +kernel
theorem dL_all_12 : decode cL_all 12 = .ok (.i2l, 1) := by decide +kernel
theorem dL_all_13 : decode cL_all 13 = .ok (.lmul, 1) := by decide +kernel
theorem dL_all_14 : decode cL_all 14 = .ok (.ladd, 1) := by decide +kernel
theorem dL_all_15 : decode cL_all 15 = .ok (.ldc2_w 96, 3) := by decide +kernel
theorem dL_all_18 : decode cL_all 18 = .ok (.aload_n 0, 1) := by decide +kernel
theorem dL_all_19 : decode cL_all 19 = .ok (.invokevirtual 98, 3) := by decide +kernel
theorem dL_all_22 : decode cL_all 22 = .ok (.i2l, 1) := by decide +kernel
theorem dL_all_23 : decode cL_all 23 = .ok (.lmul, 1) := by decide +kernel
theorem dL_all_24 : decode cL_all 24 = .ok (.ladd, 1) := by decide +kernel
theorem dL_all_25 : decode cL_all 25 = .ok (.ldc2_w 101, 3) := by decide +kernel
theorem dL_all_28 : decode cL_all 28 = .ok (.aload_n 0, 1) := by decide +kernel
theorem dL_all_29 : decode cL_all 29 = .ok (.iconst 0, 1) := by decide +kernel
theorem dL_all_30 : decode cL_all 30 = .ok (.invokevirtual 76, 3) := by decide +kernel
theorem dL_all_33 : decode cL_all 33 = .ok (.i2l, 1) := by decide +kernel
theorem dL_all_34 : decode cL_all 34 = .ok (.lmul, 1) := by decide +kernel
theorem dL_all_35 : decode cL_all 35 = .ok (.ladd, 1) := by decide +kernel
theorem dL_all_36 : decode cL_all 36 = .ok (.ldc2_w 103, 3) := by decide +kernel
theorem dL_all_39 : decode cL_all 39 = .ok (.aload_n 0, 1) := by decide +kernel
theorem dL_all_40 : decode cL_all 40 = .ok (.iconst 3, 1) := by decide +kernel
theorem dL_all_41 : decode cL_all 41 = .ok (.invokevirtual 76, 3) := by decide +kernel
theorem dL_all_44 : decode cL_all 44 = .ok (.i2l, 1) := by decide +kernel
theorem dL_all_45 : decode cL_all 45 = .ok (.lmul, 1) := by decide +kernel
theorem dL_all_46 : decode cL_all 46 = .ok (.ladd, 1) := by decide +kernel
theorem dL_all_47 : decode cL_all 47 = .ok (.lstore_n 2, 1) := by decide +kernel
theorem dL_all_48 : decode cL_all 48 = .ok (.iconst 0, 1) := by decide +kernel
theorem dL_all_49 : decode cL_all 49 = .ok (.istore 4, 2) := by decide +kernel
theorem dL_all_51 : decode cL_all 51 = .ok (.iload 4, 2) := by decide +kernel
theorem dL_all_53 : decode cL_all 53 = .ok (.bipush 25, 2) := by decide +kernel
theorem dL_all_55 : decode cL_all 55 = .ok (.if_icmp .ge 29, 3) := by decide +kernel
theorem dL_all_58 : decode cL_all 58 = .ok (.ldc2_w 105, 3) := by decide +kernel
theorem dL_all_61 : decode cL_all 61 = .ok (.lload_n 2, 1) := by decide +kernel
theorem dL_all_62 : decode cL_all 62 = .ok (.lmul, 1) := by decide +kernel
theorem dL_all_63 : decode cL_all 63 = .ok (.aload_n 0, 1) := by decide +kernel
theorem dL_all_64 : decode cL_all 64 = .ok (.iload 4, 2) := by decide +kernel
theorem dL_all_66 : decode cL_all 66 = .ok (.iconst 5, 1) := by decide +kernel
theorem dL_all_67 : decode cL_all 67 = .ok (.idiv, 1) := by decide +kernel
theorem dL_all_68 : decode cL_all 68 = .ok (.iload 4, 2) := by decide +kernel
theorem dL_all_70 : decode cL_all 70 = .ok (.iconst 5, 1) := by decide +kernel
theorem dL_all_71 : decode cL_all 71 = .ok (.irem, 1) := by decide +kernel
theorem dL_all_72 : decode cL_all 72 = .ok (.invokevirtual 69, 3) := by decide +kernel
theorem dL_all_75 : decode cL_all 75 = .ok (.i2l, 1) := by decide +kernel
theorem dL_all_76 : decode cL_all 76 = .ok (.ladd, 1) := by decide +kernel
theorem dL_all_77 : decode cL_all 77 = .ok (.lstore_n 2, 1) := by decide +kernel
theorem dL_all_78 : decode cL_all 78 = .ok (.iinc 4 1, 3) := by decide +kernel
theorem dL_all_81 : decode cL_all 81 = .ok (.goto (-30), 3) := by decide +kernel
theorem dL_all_84 : decode cL_all 84 = .ok (.iconst 0, 1) := by decide +kernel
theorem dL_all_85 : decode cL_all 85 = .ok (.istore 4, 2) := by decide +kernel
theorem dL_all_87 : decode cL_all 87 = .ok (.iload 4, 2) := by decide +kernel
theorem dL_all_89 : decode cL_all 89 = .ok (.aload_n 1, 1) := by decide +kernel
theorem dL_all_90 : decode cL_all 90 = .ok (.iconst 0, 1) := by decide +kernel
theorem dL_all_91 : decode cL_all 91 = .ok (.iaload, 1) := by decide +kernel
theorem dL_all_92 : decode cL_all 92 = .ok (.if_icmp .ge 40, 3) := by decide +kernel
theorem dL_all_95 : decode cL_all 95 = .ok (.ldc2_w 105, 3) := by decide +kernel
theorem dL_all_98 : decode cL_all 98 = .ok (.lload_n 2, 1) := by decide +kernel
theorem dL_all_99 : decode cL_all 99 = .ok (.lmul, 1) := by decide +kernel
theorem dL_all_100 : decode cL_all 100 = .ok (.aload_n 0, 1) := by decide +kernel
theorem dL_all_101 : decode cL_all 101 = .ok (.iload 4, 2) := by decide +kernel
theorem dL_all_103 : decode cL_all 103 = .ok (.invokevirtual 49, 3) := by decide +kernel
theorem dL_all_106 : decode cL_all 106 = .ok (.i2l, 1) := by decide +kernel
theorem dL_all_107 : decode cL_all 107 = .ok (.ladd, 1) := by decide +kernel
theorem dL_all_108 : decode cL_all 108 = .ok (.aload_n 0, 1) := by decide +kernel
theorem dL_all_109 : decode cL_all 109 = .ok (.iload 4, 2) := by decide +kernel
theorem dL_all_111 : decode cL_all 111 = .ok (.invokevirtual 53, 3) := by decide +kernel
theorem dL_all_114 : decode cL_all 114 = .ok (.ifCond .eq 9, 3) := by decide +kernel
theorem dL_all_117 : decode cL_all 117 = .ok (.ldc2_w 107, 3) := by decide +kernel
theorem dL_all_120 : decode cL_all 120 = .ok (.goto 4, 3) := by decide +kernel
theorem dL_all_123 : decode cL_all 123 = .ok (.lconst 0, 1) := by decide +kernel
theorem dL_all_124 : decode cL_all 124 = .ok (.ladd, 1) := by decide +kernel
theorem dL_all_125 : decode cL_all 125 = .ok (.lstore_n 2, 1) := by decide +kernel
theorem dL_all_126 : decode cL_all 126 = .ok (.iinc 4 1, 3) := by decide +kernel
theorem dL_all_129 : decode cL_all 129 = .ok (.goto (-42), 3) := by decide +kernel
theorem dL_all_132 : decode cL_all 132 = .ok (.iconst 0, 1) := by decide +kernel
theorem dL_all_133 : decode cL_all 133 = .ok (.istore 4, 2) := by decide +kernel
theorem dL_all_135 : decode cL_all 135 = .ok (.iload 4, 2) := by decide +kernel
theorem dL_all_137 : decode cL_all 137 = .ok (.aload_n 1, 1) := by decide +kernel
theorem dL_all_138 : decode cL_all 138 = .ok (.iconst 2, 1) := by decide +kernel
theorem dL_all_139 : decode cL_all 139 = .ok (.iaload, 1) := by decide +kernel
theorem dL_all_140 : decode cL_all 140 = .ok (.if_icmp .ge 35, 3) := by decide +kernel
theorem dL_all_143 : decode cL_all 143 = .ok (.ldc2_w 105, 3) := by decide +kernel
theorem dL_all_146 : decode cL_all 146 = .ok (.lload_n 2, 1) := by decide +kernel
theorem dL_all_147 : decode cL_all 147 = .ok (.lmul, 1) := by decide +kernel
theorem dL_all_148 : decode cL_all 148 = .ok (.aload_n 0, 1) := by decide +kernel
theorem dL_all_149 : decode cL_all 149 = .ok (.iload 4, 2) := by decide +kernel
theorem dL_all_151 : decode cL_all 151 = .ok (.invokevirtual 63, 3) := by decide +kernel
theorem dL_all_154 : decode cL_all 154 = .ok (.i2l, 1) := by decide +kernel
theorem dL_all_155 : decode cL_all 155 = .ok (.ladd, 1) := by decide +kernel
theorem dL_all_156 : decode cL_all 156 = .ok (.ldc2_w 109, 3) := by decide +kernel
theorem dL_all_159 : decode cL_all 159 = .ok (.aload_n 0, 1) := by decide +kernel
theorem dL_all_160 : decode cL_all 160 = .ok (.iload 4, 2) := by decide +kernel
theorem dL_all_162 : decode cL_all 162 = .ok (.invokevirtual 66, 3) := by decide +kernel
theorem dL_all_165 : decode cL_all 165 = .ok (.i2l, 1) := by decide +kernel
theorem dL_all_166 : decode cL_all 166 = .ok (.lmul, 1) := by decide +kernel
theorem dL_all_167 : decode cL_all 167 = .ok (.ladd, 1) := by decide +kernel
theorem dL_all_168 : decode cL_all 168 = .ok (.lstore_n 2, 1) := by decide +kernel
theorem dL_all_169 : decode cL_all 169 = .ok (.iinc 4 1, 3) := by decide +kernel
theorem dL_all_172 : decode cL_all 172 = .ok (.goto (-37), 3) := by decide +kernel
theorem dL_all_175 : decode cL_all 175 = .ok (.lload_n 2, 1) := by decide +kernel
theorem dL_all_176 : decode cL_all 176 = .ok (.lreturn, 1) := by decide +kernel
set_option maxRecDepth 20000 in
theorem ggL_areClocks_X4_greatest : GoodIn wsL_areClocks wsX4_greatest := goodIn_ca (goodIn_r _ [6, 7, 8, 9, 10, 11, 5, 12, 13, 14, 15, 16, 17, 18, 19, 20, 21, 22, 23, 24, 25, 26, 27] (by decide +kernel) (by decide +kernel)) (goodIn_sub (fun _ h => List.mem_cons_of_mem _ (List.mem_append_right _ h)) (by decide +kernel))
set_option maxRecDepth 20000 in
theorem gL_areClocks_X4_greatest : GoodIn wsL_areClocks (wsV RL 69 RX4 yX4_greatest wsX4_greatest) := goodIn_app (goodIn_of _ (by decide +kernel)) ggL_areClocks_X4_greatest
theorem dL_areClocks_0 : decode cL_areClocks 0 = .ok (.iconst 1, 1) := by decide +kernel
theorem dL_areClocks_1 : decode cL_areClocks 1 = .ok (.istore_n 3, 1) := by decide +kernel
theorem dL_areClocks_2 : decode cL_areClocks 2 = .ok (.iconst 0, 1) := by decide +kernel
theorem dL_areClocks_3 : decode cL_areClocks 3 = .ok (.istore 4, 2) := by decide +kernel
theorem dL_areClocks_5 : decode cL_areClocks 5 = .ok (.iload 4, 2) := by decide +kernel
theorem dL_areClocks_7 : decode cL_areClocks 7 = .ok (.bipush 125, 2) := by decide +kernel
theorem dL_areClocks_9 : decode cL_areClocks 9 = .ok (.if_icmp .ge 160, 3) := by decide +kernel
theorem dL_areClocks_12 : decode cL_areClocks 12 = .ok (.iload_n 3, 1) := by decide +kernel
theorem dL_areClocks_13 : decode cL_areClocks 13 = .ok (.ifCond .eq 156, 3) := by decide +kernel
theorem dL_areClocks_16 : decode cL_areClocks 16 = .ok (.iload 4, 2) := by decide +kernel
theorem dL_areClocks_18 : decode cL_areClocks 18 = .ok (.bipush 25, 2) := by decide +kernel
theorem dL_areClocks_20 : decode cL_areClocks 20 = .ok (.idiv, 1) := by decide +kernel
theorem dL_areClocks_21 : decode cL_areClocks 21 = .ok (.istore 5, 2) := by decide +kernel
theorem dL_areClocks_23 : decode cL_areClocks 23 = .ok (.iload 4, 2) := by decide +kernel
theorem dL_areClocks_25 : decode cL_areClocks 25 = .ok (.iconst 5, 1) := by decide +kernel
theorem dL_areClocks_26 : decode cL_areClocks 26 = .ok (.idiv, 1) := by decide +kernel
theorem dL_areClocks_27 : decode cL_areClocks 27 = .ok (.iconst 5, 1) := by decide +kernel
theorem dL_areClocks_28 : decode cL_areClocks 28 = .ok (.irem, 1) := by decide +kernel
theorem dL_areClocks_29 : decode cL_areClocks 29 = .ok (.istore 6, 2) := by decide +kernel
theorem dL_areClocks_31 : decode cL_areClocks 31 = .ok (.iload 4, 2) := by decide +kernel
theorem dL_areClocks_33 : decode cL_areClocks 33 = .ok (.iconst 5, 1) := by decide +kernel
theorem dL_areClocks_34 : decode cL_areClocks 34 = .ok (.irem, 1) := by decide +kernel
theorem dL_areClocks_35 : decode cL_areClocks 35 = .ok (.istore 7, 2) := by decide +kernel
theorem dL_areClocks_37 : decode cL_areClocks 37 = .ok (.aload_n 0, 1) := by decide +kernel
theorem dL_areClocks_38 : decode cL_areClocks 38 = .ok (.iload 5, 2) := by decide +kernel
theorem dL_areClocks_40 : decode cL_areClocks 40 = .ok (.iload 6, 2) := by decide +kernel
theorem dL_areClocks_42 : decode cL_areClocks 42 = .ok (.invokevirtual 69, 3) := by decide +kernel
theorem dL_areClocks_45 : decode cL_areClocks 45 = .ok (.istore 8, 2) := by decide +kernel
theorem dL_areClocks_47 : decode cL_areClocks 47 = .ok (.aload_n 0, 1) := by decide +kernel
theorem dL_areClocks_48 : decode cL_areClocks 48 = .ok (.iload 5, 2) := by decide +kernel
theorem dL_areClocks_50 : decode cL_areClocks 50 = .ok (.iload 7, 2) := by decide +kernel
theorem dL_areClocks_52 : decode cL_areClocks 52 = .ok (.invokevirtual 69, 3) := by decide +kernel
theorem dL_areClocks_55 : decode cL_areClocks 55 = .ok (.istore 9, 2) := by decide +kernel
theorem dL_areClocks_57 : decode cL_areClocks 57 = .ok (.aload_n 0, 1) := by decide +kernel
theorem dL_areClocks_58 : decode cL_areClocks 58 = .ok (.iload 7, 2) := by decide +kernel
theorem dL_areClocks_60 : decode cL_areClocks 60 = .ok (.iload 6, 2) := by decide +kernel
theorem dL_areClocks_62 : decode cL_areClocks 62 = .ok (.invokevirtual 69, 3) := by decide +kernel
theorem dL_areClocks_65 : decode cL_areClocks 65 = .ok (.istore 10, 2) := by decide +kernel
theorem dL_areClocks_67 : decode cL_areClocks 67 = .ok (.iload 5, 2) := by decide +kernel
theorem dL_areClocks_69 : decode cL_areClocks 69 = .ok (.iload 6, 2) := by decide +kernel
theorem dL_areClocks_71 : decode cL_areClocks 71 = .ok (.if_icmp .ne 8, 3) := by decide +kernel
theorem dL_areClocks_74 : decode cL_areClocks 74 = .ok (.iload 8, 2) := by decide +kernel
theorem dL_areClocks_76 : decode cL_areClocks 76 = .ok (.ifCond .ne 85, 3) := by decide +kernel
theorem dL_areClocks_79 : decode cL_areClocks 79 = .ok (.iload 8, 2) := by decide +kernel
theorem dL_areClocks_81 : decode cL_areClocks 81 = .ok (.ldc 111, 2) := by decide +kernel
theorem dL_areClocks_83 : decode cL_areClocks 83 = .ok (.if_icmp .ne 7, 3) := by decide +kernel
theorem dL_areClocks_86 : decode cL_areClocks 86 = .ok (.iconst 1, 1) := by decide +kernel
theorem dL_areClocks_87 : decode cL_areClocks 87 = .ok (.goto 4, 3) := by decide +kernel
theorem dL_areClocks_90 : decode cL_areClocks 90 = .ok (.iconst 0, 1) := by decide +kernel
theorem dL_areClocks_91 : decode cL_areClocks 91 = .ok (.aload_n 0, 1) := by decide +kernel
theorem dL_areClocks_92 : decode cL_areClocks 92 = .ok (.iload 6, 2) := by decide +kernel
theorem dL_areClocks_94 : decode cL_areClocks 94 = .ok (.iload 5, 2) := by decide +kernel
theorem dL_areClocks_96 : decode cL_areClocks 96 = .ok (.invokevirtual 69, 3) := by decide +kernel
theorem dL_areClocks_99 : decode cL_areClocks 99 = .ok (.ldc 111, 2) := by decide +kernel
theorem dL_areClocks_101 : decode cL_areClocks 101 = .ok (.if_icmp .ne 7, 3) := by decide +kernel
theorem dL_areClocks_104 : decode cL_areClocks 104 = .ok (.iconst 1, 1) := by decide +kernel
theorem dL_areClocks_105 : decode cL_areClocks 105 = .ok (.goto 4, 3) := by decide +kernel
theorem dL_areClocks_108 : decode cL_areClocks 108 = .ok (.iconst 0, 1) := by decide +kernel
theorem dL_areClocks_109 : decode cL_areClocks 109 = .ok (.if_icmp .ne 52, 3) := by decide +kernel
theorem dL_areClocks_112 : decode cL_areClocks 112 = .ok (.iload 9, 2) := by decide +kernel
theorem dL_areClocks_114 : decode cL_areClocks 114 = .ok (.ldc 111, 2) := by decide +kernel
theorem dL_areClocks_116 : decode cL_areClocks 116 = .ok (.if_icmp .eq 20, 3) := by decide +kernel
theorem dL_areClocks_119 : decode cL_areClocks 119 = .ok (.iload 10, 2) := by decide +kernel
theorem dL_areClocks_121 : decode cL_areClocks 121 = .ok (.ldc 111, 2) := by decide +kernel
theorem dL_areClocks_123 : decode cL_areClocks 123 = .ok (.if_icmp .eq 13, 3) := by decide +kernel
theorem dL_areClocks_126 : decode cL_areClocks 126 = .ok (.iload 8, 2) := by decide +kernel
theorem dL_areClocks_128 : decode cL_areClocks 128 = .ok (.iload 9, 2) := by decide +kernel
theorem dL_areClocks_130 : decode cL_areClocks 130 = .ok (.iload 10, 2) := by decide +kernel
theorem dL_areClocks_132 : decode cL_areClocks 132 = .ok (.iadd, 1) := by decide +kernel
theorem dL_areClocks_133 : decode cL_areClocks 133 = .ok (.if_icmp .gt 28, 3) := by decide +kernel
theorem dL_areClocks_136 : decode cL_areClocks 136 = .ok (.iload 8, 2) := by decide +kernel
theorem dL_areClocks_138 : decode cL_areClocks 138 = .ok (.ldc 111, 2) := by decide +kernel
theorem dL_areClocks_140 : decode cL_areClocks 140 = .ok (.if_icmp .eq 17, 3) := by decide +kernel
theorem dL_areClocks_143 : decode cL_areClocks 143 = .ok (.iload 8, 2) := by decide +kernel
theorem dL_areClocks_145 : decode cL_areClocks 145 = .ok (.aload_n 0, 1) := by decide +kernel
theorem dL_areClocks_146 : decode cL_areClocks 146 = .ok (.iload 6, 2) := by decide +kernel
theorem dL_areClocks_148 : decode cL_areClocks 148 = .ok (.iload 5, 2) := by decide +kernel
theorem dL_areClocks_150 : decode cL_areClocks 150 = .ok (.invokevirtual 69, 3) := by decide +kernel
theorem dL_areClocks_153 : decode cL_areClocks 153 = .ok (.iadd, 1) := by decide +kernel
theorem dL_areClocks_154 : decode cL_areClocks 154 = .ok (.ifCond .lt 7, 3) := by decide +kernel
theorem dL_areClocks_157 : decode cL_areClocks 157 = .ok (.iconst 1, 1) := by decide +kernel
theorem dL_areClocks_158 : decode cL_areClocks 158 = .ok (.goto 4, 3) := by decide +kernel
theorem dL_areClocks_161 : decode cL_areClocks 161 = .ok (.iconst 0, 1) := by decide +kernel
theorem dL_areClocks_162 : decode cL_areClocks 162 = .ok (.istore_n 3, 1) := by decide +kernel
theorem dL_areClocks_163 : decode cL_areClocks 163 = .ok (.iinc 4 1, 3) := by decide +kernel
theorem dL_areClocks_166 : decode cL_areClocks 166 = .ok (.goto (-161), 3) := by decide +kernel
theorem dL_areClocks_169 : decode cL_areClocks 169 = .ok (.iconst 0, 1) := by decide +kernel
theorem dL_areClocks_170 : decode cL_areClocks 170 = .ok (.istore 4, 2) := by decide +kernel
theorem dL_areClocks_172 : decode cL_areClocks 172 = .ok (.iload 4, 2) := by decide +kernel
theorem dL_areClocks_174 : decode cL_areClocks 174 = .ok (.iload_n 2, 1) := by decide +kernel
theorem dL_areClocks_175 : decode cL_areClocks 175 = .ok (.if_icmp .ge 113, 3) := by decide +kernel
theorem dL_areClocks_178 : decode cL_areClocks 178 = .ok (.iload_n 3, 1) := by decide +kernel
theorem dL_areClocks_179 : decode cL_areClocks 179 = .ok (.ifCond .eq 109, 3) := by decide +kernel
theorem dL_areClocks_182 : decode cL_areClocks 182 = .ok (.aload_n 0, 1) := by decide +kernel
theorem dL_areClocks_183 : decode cL_areClocks 183 = .ok (.aload_n 1, 1) := by decide +kernel
theorem dL_areClocks_184 : decode cL_areClocks 184 = .ok (.iconst 5, 1) := by decide +kernel
theorem dL_areClocks_185 : decode cL_areClocks 185 = .ok (.iload 4, 2) := by decide +kernel
theorem dL_areClocks_187 : decode cL_areClocks 187 = .ok (.imul, 1) := by decide +kernel
theorem dL_areClocks_188 : decode cL_areClocks 188 = .ok (.iaload, 1) := by decide +kernel
theorem dL_areClocks_189 : decode cL_areClocks 189 = .ok (.aload_n 1, 1) := by decide +kernel
theorem dL_areClocks_190 : decode cL_areClocks 190 = .ok (.iconst 5, 1) := by decide +kernel
theorem dL_areClocks_191 : decode cL_areClocks 191 = .ok (.iload 4, 2) := by decide +kernel
theorem dL_areClocks_193 : decode cL_areClocks 193 = .ok (.imul, 1) := by decide +kernel
theorem dL_areClocks_194 : decode cL_areClocks 194 = .ok (.iconst 2, 1) := by decide +kernel
theorem dL_areClocks_195 : decode cL_areClocks 195 = .ok (.iadd, 1) := by decide +kernel
theorem dL_areClocks_196 : decode cL_areClocks 196 = .ok (.iaload, 1) := by decide +kernel
theorem dL_areClocks_197 : decode cL_areClocks 197 = .ok (.invokevirtual 69, 3) := by decide +kernel
theorem dL_areClocks_200 : decode cL_areClocks 200 = .ok (.aload_n 1, 1) := by decide +kernel
theorem dL_areClocks_201 : decode cL_areClocks 201 = .ok (.iconst 5, 1) := by decide +kernel
theorem dL_areClocks_202 : decode cL_areClocks 202 = .ok (.iload 4, 2) := by decide +kernel
theorem dL_areClocks_204 : decode cL_areClocks 204 = .ok (.imul, 1) := by decide +kernel
theorem dL_areClocks_205 : decode cL_areClocks 205 = .ok (.iconst 4, 1) := by decide +kernel
theorem dL_areClocks_206 : decode cL_areClocks 206 = .ok (.iadd, 1) := by decide +kernel
theorem dL_areClocks_207 : decode cL_areClocks 207 = .ok (.iaload, 1) := by decide +kernel
theorem dL_areClocks_208 : decode cL_areClocks 208 = .ok (.aload_n 1, 1) := by decide +kernel
theorem dL_areClocks_209 : decode cL_areClocks 209 = .ok (.iconst 5, 1) := by decide +kernel
theorem dL_areClocks_210 : decode cL_areClocks 210 = .ok (.iload 4, 2) := by decide +kernel
theorem dL_areClocks_212 : decode cL_areClocks 212 = .ok (.imul, 1) := by decide +kernel
theorem dL_areClocks_213 : decode cL_areClocks 213 = .ok (.iconst 1, 1) := by decide +kernel
theorem dL_areClocks_214 : decode cL_areClocks 214 = .ok (.iadd, 1) := by decide +kernel
theorem dL_areClocks_215 : decode cL_areClocks 215 = .ok (.iaload, 1) := by decide +kernel
theorem dL_areClocks_216 : decode cL_areClocks 216 = .ok (.isub, 1) := by decide +kernel
theorem dL_areClocks_217 : decode cL_areClocks 217 = .ok (.aload_n 1, 1) := by decide +kernel
theorem dL_areClocks_218 : decode cL_areClocks 218 = .ok (.iconst 5, 1) := by decide +kernel
theorem dL_areClocks_219 : decode cL_areClocks 219 = .ok (.iload 4, 2) := by decide +kernel
theorem dL_areClocks_221 : decode cL_areClocks 221 = .ok (.imul, 1) := by decide +kernel
theorem dL_areClocks_222 : decode cL_areClocks 222 = .ok (.iconst 3, 1) := by decide +kernel
theorem dL_areClocks_223 : decode cL_areClocks 223 = .ok (.iadd, 1) := by decide +kernel
theorem dL_areClocks_224 : decode cL_areClocks 224 = .ok (.iaload, 1) := by decide +kernel
theorem dL_areClocks_225 : decode cL_areClocks 225 = .ok (.iadd, 1) := by decide +kernel
theorem dL_areClocks_226 : decode cL_areClocks 226 = .ok (.if_icmp .gt 54, 3) := by decide +kernel
theorem dL_areClocks_229 : decode cL_areClocks 229 = .ok (.aload_n 0, 1) := by decide +kernel
theorem dL_areClocks_230 : decode cL_areClocks 230 = .ok (.aload_n 1, 1) := by decide +kernel
theorem dL_areClocks_231 : decode cL_areClocks 231 = .ok (.iconst 5, 1) := by decide +kernel
theorem dL_areClocks_232 : decode cL_areClocks 232 = .ok (.iload 4, 2) := by decide +kernel
theorem dL_areClocks_234 : decode cL_areClocks 234 = .ok (.imul, 1) := by decide +kernel
theorem dL_areClocks_235 : decode cL_areClocks 235 = .ok (.iconst 2, 1) := by decide +kernel
theorem dL_areClocks_236 : decode cL_areClocks 236 = .ok (.iadd, 1) := by decide +kernel
theorem dL_areClocks_237 : decode cL_areClocks 237 = .ok (.iaload, 1) := by decide +kernel
theorem dL_areClocks_238 : decode cL_areClocks 238 = .ok (.aload_n 1, 1) := by decide +kernel
theorem dL_areClocks_239 : decode cL_areClocks 239 = .ok (.iconst 5, 1) := by decide +kernel
theorem dL_areClocks_240 : decode cL_areClocks 240 = .ok (.iload 4, 2) := by decide +kernel
theorem dL_areClocks_242 : decode cL_areClocks 242 = .ok (.imul, 1) := by decide +kernel
theorem dL_areClocks_243 : decode cL_areClocks 243 = .ok (.iaload, 1) := by decide +kernel
theorem dL_areClocks_244 : decode cL_areClocks 244 = .ok (.invokevirtual 69, 3) := by decide +kernel
theorem dL_areClocks_247 : decode cL_areClocks 247 = .ok (.aload_n 1, 1) := by decide +kernel
theorem dL_areClocks_248 : decode cL_areClocks 248 = .ok (.iconst 5, 1) := by decide +kernel
theorem dL_areClocks_249 : decode cL_areClocks 249 = .ok (.iload 4, 2) := by decide +kernel
theorem dL_areClocks_251 : decode cL_areClocks 251 = .ok (.imul, 1) := by decide +kernel
theorem dL_areClocks_252 : decode cL_areClocks 252 = .ok (.iconst 4, 1) := by decide +kernel
theorem dL_areClocks_253 : decode cL_areClocks 253 = .ok (.iadd, 1) := by decide +kernel
theorem dL_areClocks_254 : decode cL_areClocks 254 = .ok (.iaload, 1) := by decide +kernel
theorem dL_areClocks_255 : decode cL_areClocks 255 = .ok (.aload_n 1, 1) := by decide +kernel
theorem dL_areClocks_256 : decode cL_areClocks 256 = .ok (.iconst 5, 1) := by decide +kernel
theorem dL_areClocks_257 : decode cL_areClocks 257 = .ok (.iload 4, 2) := by decide +kernel
theorem dL_areClocks_259 : decode cL_areClocks 259 = .ok (.imul, 1) := by decide +kernel
theorem dL_areClocks_260 : decode cL_areClocks 260 = .ok (.iconst 1, 1) := by decide +kernel
theorem dL_areClocks_261 : decode cL_areClocks 261 = .ok (.iadd, 1) := by decide +kernel
theorem dL_areClocks_262 : decode cL_areClocks 262 = .ok (.iaload, 1) := by decide +kernel
theorem dL_areClocks_263 : decode cL_areClocks 263 = .ok (.iadd, 1) := by decide +kernel
theorem dL_areClocks_264 : decode cL_areClocks 264 = .ok (.aload_n 1, 1) := by decide +kernel
theorem dL_areClocks_265 : decode cL_areClocks 265 = .ok (.iconst 5, 1) := by decide +kernel
theorem dL_areClocks_266 : decode cL_areClocks 266 = .ok (.iload 4, 2) := by decide +kernel
theorem dL_areClocks_268 : decode cL_areClocks 268 = .ok (.imul, 1) := by decide +kernel
theorem dL_areClocks_269 : decode cL_areClocks 269 = .ok (.iconst 3, 1) := by decide +kernel
theorem dL_areClocks_270 : decode cL_areClocks 270 = .ok (.iadd, 1) := by decide +kernel
theorem dL_areClocks_271 : decode cL_areClocks 271 = .ok (.iaload, 1) := by decide +kernel
theorem dL_areClocks_272 : decode cL_areClocks 272 = .ok (.isub, 1) := by decide +kernel
theorem dL_areClocks_273 : decode cL_areClocks 273 = .ok (.if_icmp .gt 7, 3) := by decide +kernel
theorem dL_areClocks_276 : decode cL_areClocks 276 = .ok (.iconst 1, 1) := by decide +kernel
theorem dL_areClocks_277 : decode cL_areClocks 277 = .ok (.goto 4, 3) := by decide +kernel
theorem dL_areClocks_280 : decode cL_areClocks 280 = .ok (.iconst 0, 1) := by decide +kernel
theorem dL_areClocks_281 : decode cL_areClocks 281 = .ok (.istore_n 3, 1) := by decide +kernel
theorem dL_areClocks_282 : decode cL_areClocks 282 = .ok (.iinc 4 1, 3) := by decide +kernel
theorem dL_areClocks_285 : decode cL_areClocks 285 = .ok (.goto (-113), 3) := by decide +kernel
theorem dL_areClocks_288 : decode cL_areClocks 288 = .ok (.iload_n 3, 1) := by decide +kernel
theorem dL_areClocks_289 : decode cL_areClocks 289 = .ok (.ireturn, 1) := by decide +kernel
set_option maxRecDepth 20000 in
theorem ggL_areLines_X4_lines : GoodIn wsL_areLines wsX4_lines := goodIn_r _ [6, 7, 8, 9, 10, 11, 12, 13, 227, 228, 229, 230, 231, 232, 233, 234, 235, 236, 237, 238, 239] (by decide +kernel) (by decide +kernel)
set_option maxRecDepth 20000 in
theorem gL_areLines_X4_lines : GoodIn wsL_areLines (wsV RL 88 RX4 yX4_lines wsX4_lines) := goodIn_app (goodIn_of _ (by decide +kernel)) ggL_areLines_X4_lines
set_option maxRecDepth 20000 in
theorem ggL_areLines_L_act : GoodIn wsL_areLines wsL_act := goodIn_ca (goodIn_ca (goodIn_ca (goodIn_r _ [17, 18, 19, 20, 1, 21, 22, 23, 24, 25, 5, 26, 27, 28, 29, 30, 7, 31, 32, 33, 11, 34, 13, 35, 36, 37, 38, 39, 40, 41, 42, 43, 44, 45, 46, 47, 48, 49, 50, 51, 52, 53, 54, 55, 56, 57, 58, 59, 60, 61, 62, 63, 64, 65, 66, 67, 68, 69, 70, 71, 72, 73, 74, 75, 76, 77, 78, 79, 80, 81, 82, 83, 84, 85, 86, 87, 88, 89, 90, 91, 92, 93, 94, 95, 96, 97, 98, 99, 100, 101, 102, 103, 104, 105, 106, 107, 108, 109, 110, 111, 112, 113, 114, 115, 116, 117, 118, 119, 120, 121, 122, 123, 124, 125, 126, 127, 128, 129, 130, 131, 132, 133, 134, 135, 136, 137, 138, 139, 140, 141, 142, 143, 144, 145, 146, 147, 148, 149, 150, 151, 152, 153, 154, 155, 156, 157, 158, 159, 160, 161, 162, 163, 164, 165, 166, 167, 168, 169, 170, 171, 172, 173, 174, 175, 176, 177, 178, 179, 180, 181, 182, 183, 184, 185, 186, 187, 188, 189, 190, 191, 192, 193, 194, 195, 196, 197, 198, 199, 200, 201, 202, 203, 204, 205, 206, 207, 208, 209, 210, 211, 212, 213, 214, 215, 216, 217, 218, 227, 228, 229, 230, 231, 232, 233, 234, 235, 236, 237, 238, 239, 240, 241, 242, 243, 244, 245, 246, 247, 248] (by decide +kernel) (by decide +kernel)) (goodIn_sub (fun _ h => List.mem_cons_of_mem _ (List.mem_append_left _ (List.mem_append_left _ (List.mem_append_right _ h)))) (by decide +kernel))) (goodIn_sub (fun _ h => List.mem_cons_of_mem _ (List.mem_append_left _ (List.mem_append_right _ h))) (by decide +kernel))) (goodIn_sub (fun _ h => List.mem_cons_of_mem _ (List.mem_append_right _ h)) (by decide +kernel))
set_option maxRecDepth 20000 in
theorem gL_areLines_L_act : GoodIn wsL_areLines (va_wsS RL 112 yL_act wsL_act) := goodIn_app (goodIn_of _ (by decide +kernel)) ggL_areLines_L_act
set_option maxRecDepth 20000 in
theorem ggL_areLines_X4_lineAt : GoodIn wsL_areLines wsX4_lineAt := goodIn_ca (goodIn_r _ [105, 27, 28, 7, 31, 32, 33, 11, 34, 13, 106, 107, 108, 109, 110, 43, 227, 228, 229, 230, 231, 232, 233, 234, 235, 236, 237, 238, 239] (by decide +kernel) (by decide +kernel)) (goodIn_sub (fun _ h => List.mem_cons_of_mem _ (List.mem_append_left _ (List.mem_append_left _ (List.mem_append_right _ h)))) (by decide +kernel))
set_option maxRecDepth 20000 in
theorem gL_areLines_X4_lineAt : GoodIn wsL_areLines (wsV RL 49 RX4 yX4_lineAt wsX4_lineAt) := goodIn_app (goodIn_of _ (by decide +kernel)) ggL_areLines_X4_lineAt
set_option maxRecDepth 20000 in
theorem ggL_areLines_X4_isDoubtful : GoodIn wsL_areLines wsX4_isDoubtful := goodIn_ca (goodIn_r _ [114, 27, 28, 7, 31, 32, 33, 11, 34, 13, 115, 116, 117, 118, 42, 43, 227, 228, 229, 230, 231, 232, 233, 234, 235, 236, 237, 238, 239] (by decide +kernel) (by decide +kernel)) (goodIn_sub (fun _ h => List.mem_cons_of_mem _ (List.mem_append_left _ (List.mem_append_left _ (List.mem_append_right _ h)))) (by decide +kernel))
set_option maxRecDepth 20000 in
theorem gL_areLines_X4_isDoubtful : GoodIn wsL_areLines (wsV RL 53 RX4 yX4_isDoubtful wsX4_isDoubtful) := goodIn_app (goodIn_of _ (by decide +kernel)) ggL_areLines_X4_isDoubtful
set_option maxRecDepth 20000 in
theorem ggL_areLines_X4_mustComeBefore : GoodIn wsL_areLines wsX4_mustComeBefore := goodIn_ca (goodIn_r _ [96, 27, 28, 7, 31, 32, 33, 11, 34, 13, 97, 98, 99, 100, 101, 43, 67, 5, 68, 69, 61, 62, 227, 228, 229, 230, 231, 232, 233, 234, 235, 236, 237, 238, 239] (by decide +kernel) (by decide +kernel)) (goodIn_sub (fun _ h => List.mem_cons_of_mem _ (List.mem_append_left _ (List.mem_append_left _ (List.mem_append_right _ h)))) (by decide +kernel))
set_option maxRecDepth 20000 in
theorem gL_areLines_X4_mustComeBefore : GoodIn wsL_areLines (wsV RL 45 RX4 yX4_mustComeBefore wsX4_mustComeBefore) := goodIn_app (goodIn_of _ (by decide +kernel)) ggL_areLines_X4_mustComeBefore
set_option maxRecDepth 20000 in
theorem ggL_areLines_X4_storyAt : GoodIn wsL_areLines wsX4_storyAt := goodIn_ca (goodIn_r _ [122, 27, 28, 7, 123, 124, 125, 11, 126, 13, 127, 107, 108, 109, 110, 43, 32, 33, 34, 128, 129, 130, 131, 132, 42, 227, 228, 229, 230, 231, 232, 233, 234, 235, 236, 237, 238, 239] (by decide +kernel) (by decide +kernel)) (goodIn_sub (fun _ h => List.mem_cons_of_mem _ (List.mem_append_left _ (List.mem_append_left _ (List.mem_append_right _ h)))) (by decide +kernel))
set_option maxRecDepth 20000 in
theorem gL_areLines_X4_storyAt : GoodIn wsL_areLines (wsV RL 57 RX4 yX4_storyAt wsX4_storyAt) := goodIn_app (goodIn_of _ (by decide +kernel)) ggL_areLines_X4_storyAt
set_option maxRecDepth 20000 in
theorem ggL_areLines_X4_story : GoodIn wsL_areLines wsX4_story := goodIn_r _ [222, 7, 223, 224, 225, 11, 226, 13, 127, 107, 108, 109, 110, 43, 32, 33, 34, 128, 129, 130, 131, 132, 42, 227, 228, 229, 230, 231, 232, 233, 234, 235, 236, 237, 238, 239] (by decide +kernel) (by decide +kernel)
set_option maxRecDepth 20000 in
theorem gL_areLines_X4_story : GoodIn wsL_areLines (wsV RL 93 RX4 yX4_story wsX4_story) := goodIn_app (goodIn_of _ (by decide +kernel)) ggL_areLines_X4_story
set_option maxRecDepth 20000 in
theorem ggL_areLines_X4_firstOf : GoodIn wsL_areLines wsX4_firstOf := goodIn_ca (goodIn_r _ [180, 29, 30, 7, 181, 182, 5, 183, 35, 36, 37, 184, 185, 186, 11, 187, 13, 188, 127, 107, 108, 109, 110, 43, 32, 33, 34, 227, 228, 229, 230, 231, 232, 233, 234, 235, 236, 237, 238, 239] (by decide +kernel) (by decide +kernel)) (goodIn_sub (fun _ h => List.mem_cons_of_mem _ (List.mem_append_left _ (List.mem_append_right _ h))) (by decide +kernel))
set_option maxRecDepth 20000 in
theorem gL_areLines_X4_firstOf : GoodIn wsL_areLines (wsV RL 73 RX4 yX4_firstOf wsX4_firstOf) := goodIn_app (goodIn_of _ (by decide +kernel)) ggL_areLines_X4_firstOf
theorem dL_areLines_0 : decode cL_areLines 0 = .ok (.iconst 0, 1) := by decide +kernel
theorem dL_areLines_1 : decode cL_areLines 1 = .ok (.istore 4, 2) := by decide +kernel
theorem dL_areLines_3 : decode cL_areLines 3 = .ok (.iconst 0, 1) := by decide +kernel
theorem dL_areLines_4 : decode cL_areLines 4 = .ok (.istore 5, 2) := by decide +kernel
theorem dL_areLines_6 : decode cL_areLines 6 = .ok (.iconst (-1), 1) := by decide +kernel
theorem dL_areLines_7 : decode cL_areLines 7 = .ok (.istore 6, 2) := by decide +kernel
theorem dL_areLines_9 : decode cL_areLines 9 = .ok (.aload_n 0, 1) := by decide +kernel
theorem dL_areLines_10 : decode cL_areLines 10 = .ok (.invokevirtual 88, 3) := by decide +kernel
theorem dL_areLines_13 : decode cL_areLines 13 = .ok (.aload_n 2, 1) := by decide +kernel
theorem dL_areLines_14 : decode cL_areLines 14 = .ok (.iconst 0, 1) := by decide +kernel
theorem dL_areLines_15 : decode cL_areLines 15 = .ok (.iaload, 1) := by decide +kernel
theorem dL_areLines_16 : decode cL_areLines 16 = .ok (.if_icmp .ne 35, 3) := by decide +kernel
theorem dL_areLines_19 : decode cL_areLines 19 = .ok (.aload_n 0, 1) := by decide +kernel
theorem dL_areLines_20 : decode cL_areLines 20 = .ok (.iconst 4, 1) := by decide +kernel
theorem dL_areLines_21 : decode cL_areLines 21 = .ok (.aload_n 2, 1) := by decide +kernel
theorem dL_areLines_22 : decode cL_areLines 22 = .ok (.iconst 0, 1) := by decide +kernel
theorem dL_areLines_23 : decode cL_areLines 23 = .ok (.iaload, 1) := by decide +kernel
theorem dL_areLines_24 : decode cL_areLines 24 = .ok (.iconst 0, 1) := by decide +kernel
theorem dL_areLines_25 : decode cL_areLines 25 = .ok (.iconst 0, 1) := by decide +kernel
theorem dL_areLines_26 : decode cL_areLines 26 = .ok (.invokestatic 112, 3) := by decide +kernel
theorem dL_areLines_29 : decode cL_areLines 29 = .ok (.ldc 81, 2) := by decide +kernel
theorem dL_areLines_31 : decode cL_areLines 31 = .ok (.if_icmp .ne 20, 3) := by decide +kernel
theorem dL_areLines_34 : decode cL_areLines 34 = .ok (.aload_n 0, 1) := by decide +kernel
theorem dL_areLines_35 : decode cL_areLines 35 = .ok (.iconst 4, 1) := by decide +kernel
theorem dL_areLines_36 : decode cL_areLines 36 = .ok (.iconst (-1), 1) := by decide +kernel
theorem dL_areLines_37 : decode cL_areLines 37 = .ok (.iconst 0, 1) := by decide +kernel
theorem dL_areLines_38 : decode cL_areLines 38 = .ok (.iconst 0, 1) := by decide +kernel
theorem dL_areLines_39 : decode cL_areLines 39 = .ok (.invokestatic 112, 3) := by decide +kernel
theorem dL_areLines_42 : decode cL_areLines 42 = .ok (.ldc 81, 2) := by decide +kernel
theorem dL_areLines_44 : decode cL_areLines 44 = .ok (.if_icmp .ne 7, 3) := by decide +kernel
theorem dL_areLines_47 : decode cL_areLines 47 = .ok (.iconst 1, 1) := by decide +kernel
theorem dL_areLines_48 : decode cL_areLines 48 = .ok (.goto 4, 3) := by decide +kernel
theorem dL_areLines_51 : decode cL_areLines 51 = .ok (.iconst 0, 1) := by decide +kernel
theorem dL_areLines_52 : decode cL_areLines 52 = .ok (.istore 7, 2) := by decide +kernel
theorem dL_areLines_54 : decode cL_areLines 54 = .ok (.iconst 0, 1) := by decide +kernel
theorem dL_areLines_55 : decode cL_areLines 55 = .ok (.istore 8, 2) := by decide +kernel
theorem dL_areLines_57 : decode cL_areLines 57 = .ok (.iload 8, 2) := by decide +kernel
theorem dL_areLines_59 : decode cL_areLines 59 = .ok (.aload_n 2, 1) := by decide +kernel
theorem dL_areLines_60 : decode cL_areLines 60 = .ok (.iconst 0, 1) := by decide +kernel
theorem dL_areLines_61 : decode cL_areLines 61 = .ok (.iaload, 1) := by decide +kernel
theorem dL_areLines_62 : decode cL_areLines 62 = .ok (.if_icmp .ge 310, 3) := by decide +kernel
theorem dL_areLines_65 : decode cL_areLines 65 = .ok (.iload 7, 2) := by decide +kernel
theorem dL_areLines_67 : decode cL_areLines 67 = .ok (.ifCond .eq 305, 3) := by decide +kernel
theorem dL_areLines_70 : decode cL_areLines 70 = .ok (.aload_n 0, 1) := by decide +kernel
theorem dL_areLines_71 : decode cL_areLines 71 = .ok (.iload 8, 2) := by decide +kernel
theorem dL_areLines_73 : decode cL_areLines 73 = .ok (.invokevirtual 49, 3) := by decide +kernel
theorem dL_areLines_76 : decode cL_areLines 76 = .ok (.istore 9, 2) := by decide +kernel
theorem dL_areLines_78 : decode cL_areLines 78 = .ok (.iload 9, 2) := by decide +kernel
theorem dL_areLines_80 : decode cL_areLines 80 = .ok (.ifCond .lt 50, 3) := by decide +kernel
theorem dL_areLines_83 : decode cL_areLines 83 = .ok (.iload 9, 2) := by decide +kernel
theorem dL_areLines_85 : decode cL_areLines 85 = .ok (.aload_n 2, 1) := by decide +kernel
theorem dL_areLines_86 : decode cL_areLines 86 = .ok (.iconst 0, 1) := by decide +kernel
theorem dL_areLines_87 : decode cL_areLines 87 = .ok (.iaload, 1) := by decide +kernel
theorem dL_areLines_88 : decode cL_areLines 88 = .ok (.if_icmp .ge 42, 3) := by decide +kernel
theorem dL_areLines_91 : decode cL_areLines 91 = .ok (.iload 5, 2) := by decide +kernel
theorem dL_areLines_93 : decode cL_areLines 93 = .ok (.iload 9, 2) := by decide +kernel
theorem dL_areLines_95 : decode cL_areLines 95 = .ok (.ishr, 1) := by decide +kernel
theorem dL_areLines_96 : decode cL_areLines 96 = .ok (.iconst 1, 1) := by decide +kernel
theorem dL_areLines_97 : decode cL_areLines 97 = .ok (.iand, 1) := by decide +kernel
theorem dL_areLines_98 : decode cL_areLines 98 = .ok (.ifCond .ne 32, 3) := by decide +kernel
theorem dL_areLines_101 : decode cL_areLines 101 = .ok (.aload_n 0, 1) := by decide +kernel
theorem dL_areLines_102 : decode cL_areLines 102 = .ok (.iload 9, 2) := by decide +kernel
theorem dL_areLines_104 : decode cL_areLines 104 = .ok (.invokevirtual 53, 3) := by decide +kernel
theorem dL_areLines_107 : decode cL_areLines 107 = .ok (.aload_n 1, 1) := by decide +kernel
theorem dL_areLines_108 : decode cL_areLines 108 = .ok (.iconst 5, 1) := by decide +kernel
theorem dL_areLines_109 : decode cL_areLines 109 = .ok (.iload 9, 2) := by decide +kernel
theorem dL_areLines_111 : decode cL_areLines 111 = .ok (.imul, 1) := by decide +kernel
theorem dL_areLines_112 : decode cL_areLines 112 = .ok (.iconst 4, 1) := by decide +kernel
theorem dL_areLines_113 : decode cL_areLines 113 = .ok (.iadd, 1) := by decide +kernel
theorem dL_areLines_114 : decode cL_areLines 114 = .ok (.iaload, 1) := by decide +kernel
theorem dL_areLines_115 : decode cL_areLines 115 = .ok (.ifCond .ge 7, 3) := by decide +kernel
theorem dL_areLines_118 : decode cL_areLines 118 = .ok (.iconst 1, 1) := by decide +kernel
theorem dL_areLines_119 : decode cL_areLines 119 = .ok (.goto 4, 3) := by decide +kernel
theorem dL_areLines_122 : decode cL_areLines 122 = .ok (.iconst 0, 1) := by decide +kernel
theorem dL_areLines_123 : decode cL_areLines 123 = .ok (.if_icmp .ne 7, 3) := by decide +kernel
theorem dL_areLines_126 : decode cL_areLines 126 = .ok (.iconst 1, 1) := by decide +kernel
theorem dL_areLines_127 : decode cL_areLines 127 = .ok (.goto 4, 3) := by decide +kernel
theorem dL_areLines_130 : decode cL_areLines 130 = .ok (.iconst 0, 1) := by decide +kernel
theorem dL_areLines_131 : decode cL_areLines 131 = .ok (.istore 7, 2) := by decide +kernel
theorem dL_areLines_133 : decode cL_areLines 133 = .ok (.iconst 0, 1) := by decide +kernel
theorem dL_areLines_134 : decode cL_areLines 134 = .ok (.istore 10, 2) := by decide +kernel
theorem dL_areLines_136 : decode cL_areLines 136 = .ok (.iload 10, 2) := by decide +kernel
theorem dL_areLines_138 : decode cL_areLines 138 = .ok (.aload_n 2, 1) := by decide +kernel
theorem dL_areLines_139 : decode cL_areLines 139 = .ok (.iconst 0, 1) := by decide +kernel
theorem dL_areLines_140 : decode cL_areLines 140 = .ok (.iaload, 1) := by decide +kernel
theorem dL_areLines_141 : decode cL_areLines 141 = .ok (.if_icmp .ge 138, 3) := by decide +kernel
theorem dL_areLines_144 : decode cL_areLines 144 = .ok (.iload 7, 2) := by decide +kernel
theorem dL_areLines_146 : decode cL_areLines 146 = .ok (.ifCond .eq 133, 3) := by decide +kernel
theorem dL_areLines_149 : decode cL_areLines 149 = .ok (.iload 5, 2) := by decide +kernel
theorem dL_areLines_151 : decode cL_areLines 151 = .ok (.iload 10, 2) := by decide +kernel
theorem dL_areLines_153 : decode cL_areLines 153 = .ok (.ishr, 1) := by decide +kernel
theorem dL_areLines_154 : decode cL_areLines 154 = .ok (.iconst 1, 1) := by decide +kernel
theorem dL_areLines_155 : decode cL_areLines 155 = .ok (.iand, 1) := by decide +kernel
theorem dL_areLines_156 : decode cL_areLines 156 = .ok (.ifCond .ne 14, 3) := by decide +kernel
theorem dL_areLines_159 : decode cL_areLines 159 = .ok (.iload 10, 2) := by decide +kernel
theorem dL_areLines_161 : decode cL_areLines 161 = .ok (.iload 9, 2) := by decide +kernel
theorem dL_areLines_163 : decode cL_areLines 163 = .ok (.if_icmp .eq 7, 3) := by decide +kernel
theorem dL_areLines_166 : decode cL_areLines 166 = .ok (.iconst 1, 1) := by decide +kernel
theorem dL_areLines_167 : decode cL_areLines 167 = .ok (.goto 4, 3) := by decide +kernel
theorem dL_areLines_170 : decode cL_areLines 170 = .ok (.iconst 0, 1) := by decide +kernel
theorem dL_areLines_171 : decode cL_areLines 171 = .ok (.istore 11, 2) := by decide +kernel
theorem dL_areLines_173 : decode cL_areLines 173 = .ok (.iconst 0, 1) := by decide +kernel
theorem dL_areLines_174 : decode cL_areLines 174 = .ok (.istore 12, 2) := by decide +kernel
theorem dL_areLines_176 : decode cL_areLines 176 = .ok (.iconst 0, 1) := by decide +kernel
theorem dL_areLines_177 : decode cL_areLines 177 = .ok (.istore 13, 2) := by decide +kernel
theorem dL_areLines_179 : decode cL_areLines 179 = .ok (.iload 13, 2) := by decide +kernel
theorem dL_areLines_181 : decode cL_areLines 181 = .ok (.aload_n 2, 1) := by decide +kernel
theorem dL_areLines_182 : decode cL_areLines 182 = .ok (.iconst 0, 1) := by decide +kernel
theorem dL_areLines_183 : decode cL_areLines 183 = .ok (.iaload, 1) := by decide +kernel
theorem dL_areLines_184 : decode cL_areLines 184 = .ok (.if_icmp .ge 54, 3) := by decide +kernel
theorem dL_areLines_187 : decode cL_areLines 187 = .ok (.iload 11, 2) := by decide +kernel
theorem dL_areLines_189 : decode cL_areLines 189 = .ok (.ifCond .eq 49, 3) := by decide +kernel
theorem dL_areLines_192 : decode cL_areLines 192 = .ok (.iload 10, 2) := by decide +kernel
theorem dL_areLines_194 : decode cL_areLines 194 = .ok (.iload 9, 2) := by decide +kernel
theorem dL_areLines_196 : decode cL_areLines 196 = .ok (.if_icmp .ge 42, 3) := by decide +kernel
theorem dL_areLines_199 : decode cL_areLines 199 = .ok (.iload 12, 2) := by decide +kernel
theorem dL_areLines_201 : decode cL_areLines 201 = .ok (.ifCond .ne 24, 3) := by decide +kernel
theorem dL_areLines_204 : decode cL_areLines 204 = .ok (.iload 5, 2) := by decide +kernel
theorem dL_areLines_206 : decode cL_areLines 206 = .ok (.iload 13, 2) := by decide +kernel
theorem dL_areLines_208 : decode cL_areLines 208 = .ok (.ishr, 1) := by decide +kernel
theorem dL_areLines_209 : decode cL_areLines 209 = .ok (.iconst 1, 1) := by decide +kernel
theorem dL_areLines_210 : decode cL_areLines 210 = .ok (.iand, 1) := by decide +kernel
theorem dL_areLines_211 : decode cL_areLines 211 = .ok (.ifCond .ne 18, 3) := by decide +kernel
theorem dL_areLines_214 : decode cL_areLines 214 = .ok (.aload_n 0, 1) := by decide +kernel
theorem dL_areLines_215 : decode cL_areLines 215 = .ok (.iload 13, 2) := by decide +kernel
theorem dL_areLines_217 : decode cL_areLines 217 = .ok (.iload 10, 2) := by decide +kernel
theorem dL_areLines_219 : decode cL_areLines 219 = .ok (.invokevirtual 45, 3) := by decide +kernel
theorem dL_areLines_222 : decode cL_areLines 222 = .ok (.ifCond .eq 7, 3) := by decide +kernel
theorem dL_areLines_225 : decode cL_areLines 225 = .ok (.iconst 1, 1) := by decide +kernel
theorem dL_areLines_226 : decode cL_areLines 226 = .ok (.goto 4, 3) := by decide +kernel
theorem dL_areLines_229 : decode cL_areLines 229 = .ok (.iconst 0, 1) := by decide +kernel
theorem dL_areLines_230 : decode cL_areLines 230 = .ok (.istore 12, 2) := by decide +kernel
theorem dL_areLines_232 : decode cL_areLines 232 = .ok (.iinc 13 1, 3) := by decide +kernel
theorem dL_areLines_235 : decode cL_areLines 235 = .ok (.goto (-56), 3) := by decide +kernel
theorem dL_areLines_238 : decode cL_areLines 238 = .ok (.iload 11, 2) := by decide +kernel
theorem dL_areLines_240 : decode cL_areLines 240 = .ok (.ifCond .eq 26, 3) := by decide +kernel
theorem dL_areLines_243 : decode cL_areLines 243 = .ok (.aload_n 0, 1) := by decide +kernel
theorem dL_areLines_244 : decode cL_areLines 244 = .ok (.iload 10, 2) := by decide +kernel
theorem dL_areLines_246 : decode cL_areLines 246 = .ok (.iload 9, 2) := by decide +kernel
theorem dL_areLines_248 : decode cL_areLines 248 = .ok (.invokevirtual 45, 3) := by decide +kernel
theorem dL_areLines_251 : decode cL_areLines 251 = .ok (.ifCond .ne 19, 3) := by decide +kernel
theorem dL_areLines_254 : decode cL_areLines 254 = .ok (.iload 10, 2) := by decide +kernel
theorem dL_areLines_256 : decode cL_areLines 256 = .ok (.iload 9, 2) := by decide +kernel
theorem dL_areLines_258 : decode cL_areLines 258 = .ok (.if_icmp .gt 8, 3) := by decide +kernel
theorem dL_areLines_261 : decode cL_areLines 261 = .ok (.iload 12, 2) := by decide +kernel
theorem dL_areLines_263 : decode cL_areLines 263 = .ok (.ifCond .eq 7, 3) := by decide +kernel
theorem dL_areLines_266 : decode cL_areLines 266 = .ok (.iconst 1, 1) := by decide +kernel
theorem dL_areLines_267 : decode cL_areLines 267 = .ok (.goto 4, 3) := by decide +kernel
theorem dL_areLines_270 : decode cL_areLines 270 = .ok (.iconst 0, 1) := by decide +kernel
theorem dL_areLines_271 : decode cL_areLines 271 = .ok (.istore 7, 2) := by decide +kernel
theorem dL_areLines_273 : decode cL_areLines 273 = .ok (.iinc 10 1, 3) := by decide +kernel
theorem dL_areLines_276 : decode cL_areLines 276 = .ok (.goto (-140), 3) := by decide +kernel
theorem dL_areLines_279 : decode cL_areLines 279 = .ok (.iload 6, 2) := by decide +kernel
theorem dL_areLines_281 : decode cL_areLines 281 = .ok (.ifCond .ge 23, 3) := by decide +kernel
theorem dL_areLines_284 : decode cL_areLines 284 = .ok (.aload_n 1, 1) := by decide +kernel
theorem dL_areLines_285 : decode cL_areLines 285 = .ok (.iconst 5, 1) := by decide +kernel
theorem dL_areLines_286 : decode cL_areLines 286 = .ok (.iload 9, 2) := by decide +kernel
theorem dL_areLines_288 : decode cL_areLines 288 = .ok (.imul, 1) := by decide +kernel
theorem dL_areLines_289 : decode cL_areLines 289 = .ok (.iconst 2, 1) := by decide +kernel
theorem dL_areLines_290 : decode cL_areLines 290 = .ok (.iadd, 1) := by decide +kernel
theorem dL_areLines_291 : decode cL_areLines 291 = .ok (.iaload, 1) := by decide +kernel
theorem dL_areLines_292 : decode cL_areLines 292 = .ok (.iload_n 3, 1) := by decide +kernel
theorem dL_areLines_293 : decode cL_areLines 293 = .ok (.bipush 6, 2) := by decide +kernel
theorem dL_areLines_295 : decode cL_areLines 295 = .ok (.irem, 1) := by decide +kernel
theorem dL_areLines_296 : decode cL_areLines 296 = .ok (.if_icmp .ne 8, 3) := by decide +kernel
theorem dL_areLines_299 : decode cL_areLines 299 = .ok (.iload 9, 2) := by decide +kernel
theorem dL_areLines_301 : decode cL_areLines 301 = .ok (.goto 5, 3) := by decide +kernel
theorem dL_areLines_304 : decode cL_areLines 304 = .ok (.iload 6, 2) := by decide +kernel
theorem dL_areLines_306 : decode cL_areLines 306 = .ok (.istore 6, 2) := by decide +kernel
theorem dL_areLines_308 : decode cL_areLines 308 = .ok (.iload 5, 2) := by decide +kernel
theorem dL_areLines_310 : decode cL_areLines 310 = .ok (.iconst 1, 1) := by decide +kernel
theorem dL_areLines_311 : decode cL_areLines 311 = .ok (.iload 9, 2) := by decide +kernel
theorem dL_areLines_313 : decode cL_areLines 313 = .ok (.ishl, 1) := by decide +kernel
theorem dL_areLines_314 : decode cL_areLines 314 = .ok (.ior, 1) := by decide +kernel
theorem dL_areLines_315 : decode cL_areLines 315 = .ok (.istore 5, 2) := by decide +kernel
theorem dL_areLines_317 : decode cL_areLines 317 = .ok (.iload 7, 2) := by decide +kernel
theorem dL_areLines_319 : decode cL_areLines 319 = .ok (.ifCond .eq 47, 3) := by decide +kernel
theorem dL_areLines_322 : decode cL_areLines 322 = .ok (.aload_n 1, 1) := by decide +kernel
theorem dL_areLines_323 : decode cL_areLines 323 = .ok (.iconst 5, 1) := by decide +kernel
theorem dL_areLines_324 : decode cL_areLines 324 = .ok (.iload 9, 2) := by decide +kernel
theorem dL_areLines_326 : decode cL_areLines 326 = .ok (.imul, 1) := by decide +kernel
theorem dL_areLines_327 : decode cL_areLines 327 = .ok (.iconst 3, 1) := by decide +kernel
theorem dL_areLines_328 : decode cL_areLines 328 = .ok (.iadd, 1) := by decide +kernel
theorem dL_areLines_329 : decode cL_areLines 329 = .ok (.iaload, 1) := by decide +kernel
theorem dL_areLines_330 : decode cL_areLines 330 = .ok (.iconst 1, 1) := by decide +kernel
theorem dL_areLines_331 : decode cL_areLines 331 = .ok (.if_icmp .ne 35, 3) := by decide +kernel
theorem dL_areLines_334 : decode cL_areLines 334 = .ok (.aload_n 1, 1) := by decide +kernel
theorem dL_areLines_335 : decode cL_areLines 335 = .ok (.iconst 5, 1) := by decide +kernel
theorem dL_areLines_336 : decode cL_areLines 336 = .ok (.iload 9, 2) := by decide +kernel
theorem dL_areLines_338 : decode cL_areLines 338 = .ok (.imul, 1) := by decide +kernel
theorem dL_areLines_339 : decode cL_areLines 339 = .ok (.iconst 4, 1) := by decide +kernel
theorem dL_areLines_340 : decode cL_areLines 340 = .ok (.iadd, 1) := by decide +kernel
theorem dL_areLines_341 : decode cL_areLines 341 = .ok (.iaload, 1) := by decide +kernel
theorem dL_areLines_342 : decode cL_areLines 342 = .ok (.ifCond .lt 24, 3) := by decide +kernel
theorem dL_areLines_345 : decode cL_areLines 345 = .ok (.aload_n 0, 1) := by decide +kernel
theorem dL_areLines_346 : decode cL_areLines 346 = .ok (.iload 4, 2) := by decide +kernel
theorem dL_areLines_348 : decode cL_areLines 348 = .ok (.invokevirtual 57, 3) := by decide +kernel
theorem dL_areLines_351 : decode cL_areLines 351 = .ok (.iload 9, 2) := by decide +kernel
theorem dL_areLines_353 : decode cL_areLines 353 = .ok (.if_icmp .ne 7, 3) := by decide +kernel
theorem dL_areLines_356 : decode cL_areLines 356 = .ok (.iconst 1, 1) := by decide +kernel
theorem dL_areLines_357 : decode cL_areLines 357 = .ok (.goto 4, 3) := by decide +kernel
