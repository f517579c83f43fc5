theorem dX0_init_0 : decode cX0_init 0 = .ok (.aload_n 0, 1) := by decide +kernel
theorem dX0_init_1 : decode cX0_init 1 = .ok (.invokespecial 3, 3) := by decide +kernel
theorem dX0_init_4 : decode cX0_init 4 = .ok (.aload_n 0, 1) := by decide +kernel
theorem dX0_init_5 : decode cX0_init 5 = .ok (.bipush 16, 2) := by decide +kernel
theorem dX0_init_7 : decode cX0_init 7 = .ok (.bipush 16, 2) := by decide +kernel
theorem dX0_init_9 : decode cX0_init 9 = .ok (.multianewarray 9 2, 4) := by decide +kernel
theorem dX0_init_13 : decode cX0_init 13 = .ok (.putfield 11, 3) := by decide +kernel
theorem dX0_init_16 : decode cX0_init 16 = .ok (.aload_n 0, 1) := by decide +kernel
theorem dX0_init_17 : decode cX0_init 17 = .ok (.iconst 0, 1) := by decide +kernel
theorem dX0_init_18 : decode cX0_init 18 = .ok (.putfield 16, 3) := by decide +kernel
theorem dX0_init_21 : decode cX0_init 21 = .ok (.aload_n 0, 1) := by decide +kernel
theorem dX0_init_22 : decode cX0_init 22 = .ok (.iconst 0, 1) := by decide +kernel
theorem dX0_init_23 : decode cX0_init 23 = .ok (.putfield 20, 3) := by decide +kernel
theorem dX0_init_26 : decode cX0_init 26 = .ok (.return_, 1) := by decide +kernel
theorem dX0_size_0 : decode cX0_size 0 = .ok (.aload_n 0, 1) := by decide +kernel
theorem dX0_size_1 : decode cX0_size 1 = .ok (.getfield 20, 3) := by decide +kernel
theorem dX0_size_4 : decode cX0_size 4 = .ok (.ireturn, 1) := by decide +kernel
theorem dX0_holds_0 : decode cX0_holds 0 = .ok (.iload_n 1, 1) := by decide +kernel
theorem dX0_holds_1 : decode cX0_holds 1 = .ok (.ifCond .lt 21, 3) := by decide +kernel
theorem dX0_holds_4 : decode cX0_holds 4 = .ok (.iload_n 1, 1) := by decide +kernel
theorem dX0_holds_5 : decode cX0_holds 5 = .ok (.aload_n 0, 1) := by decide +kernel
theorem dX0_holds_6 : decode cX0_holds 6 = .ok (.getfield 20, 3) := by decide +kernel
theorem dX0_holds_9 : decode cX0_holds 9 = .ok (.if_icmp .ge 13, 3) := by decide +kernel
theorem dX0_holds_12 : decode cX0_holds 12 = .ok (.iload_n 1, 1) := by decide +kernel
theorem dX0_holds_13 : decode cX0_holds 13 = .ok (.bipush 16, 2) := by decide +kernel
theorem dX0_holds_15 : decode cX0_holds 15 = .ok (.if_icmp .ge 7, 3) := by decide +kernel
theorem dX0_holds_18 : decode cX0_holds 18 = .ok (.iconst 1, 1) := by decide +kernel
theorem dX0_holds_19 : decode cX0_holds 19 = .ok (.goto 4, 3) := by decide +kernel
theorem dX0_holds_22 : decode cX0_holds 22 = .ok (.iconst 0, 1) := by decide +kernel
theorem dX0_holds_23 : decode cX0_holds 23 = .ok (.ireturn, 1) := by decide +kernel
set_option maxRecDepth 20000 in
theorem ggX0_add_X4_bit : GoodIn wsX0_add wsX4_bit := goodIn_r _ [5] (by decide +kernel) (by decide +kernel)
set_option maxRecDepth 20000 in
theorem gX0_add_X4_bit_n23 : GoodIn wsX0_add (wsX4_bit) := ggX0_add_X4_bit
theorem dX0_add_0 : decode cX0_add 0 = .ok (.aload_n 0, 1) := by decide +kernel
theorem dX0_add_1 : decode cX0_add 1 = .ok (.getfield 20, 3) := by decide +kernel
theorem dX0_add_4 : decode cX0_add 4 = .ok (.istore_n 1, 1) := by decide +kernel
theorem dX0_add_5 : decode cX0_add 5 = .ok (.iload_n 1, 1) := by decide +kernel
theorem dX0_add_6 : decode cX0_add 6 = .ok (.bipush 16, 2) := by decide +kernel
theorem dX0_add_8 : decode cX0_add 8 = .ok (.if_icmp .lt 5, 3) := by decide +kernel
theorem dX0_add_11 : decode cX0_add 11 = .ok (.iconst (-1), 1) := by decide +kernel
theorem dX0_add_12 : decode cX0_add 12 = .ok (.ireturn, 1) := by decide +kernel
theorem dX0_add_13 : decode cX0_add 13 = .ok (.aload_n 0, 1) := by decide +kernel
theorem dX0_add_14 : decode cX0_add 14 = .ok (.dup, 1) := by decide +kernel
theorem dX0_add_15 : decode cX0_add 15 = .ok (.getfield 16, 3) := by decide +kernel
theorem dX0_add_18 : decode cX0_add 18 = .ok (.iload_n 1, 1) := by decide +kernel
theorem dX0_add_19 : decode cX0_add 19 = .ok (.invokestatic 23, 3) := by decide +kernel
theorem dX0_add_22 : decode cX0_add 22 = .ok (.ior, 1) := by decide +kernel
theorem dX0_add_23 : decode cX0_add 23 = .ok (.putfield 16, 3) := by decide +kernel
theorem dX0_add_26 : decode cX0_add 26 = .ok (.aload_n 0, 1) := by decide +kernel
theorem dX0_add_27 : decode cX0_add 27 = .ok (.iload_n 1, 1) := by decide +kernel
theorem dX0_add_28 : decode cX0_add 28 = .ok (.iconst 1, 1) := by decide +kernel
theorem dX0_add_29 : decode cX0_add 29 = .ok (.iadd, 1) := by decide +kernel
theorem dX0_add_30 : decode cX0_add 30 = .ok (.putfield 20, 3) := by decide +kernel
theorem dX0_add_33 : decode cX0_add 33 = .ok (.iload_n 1, 1) := by decide +kernel
theorem dX0_add_34 : decode cX0_add 34 = .ok (.ireturn, 1) := by decide +kernel
set_option maxRecDepth 20000 in
theorem ggX0_replaceWeight_X0_holds : GoodIn wsX0_replaceWeight wsX0_holds := goodIn_r _ [6, 7, 8, 9, 10] (by decide +kernel) (by decide +kernel)
set_option maxRecDepth 20000 in
theorem gX0_replaceWeight_X0_holds : GoodIn wsX0_replaceWeight (wsV RX0 27 RX0 yX0_holds wsX0_holds) := goodIn_app (goodIn_of _ (by decide +kernel)) ggX0_replaceWeight_X0_holds
theorem dX0_replaceWeight_0 : decode cX0_replaceWeight 0 = .ok (.aload_n 0, 1) := by decide +kernel
theorem dX0_replaceWeight_1 : decode cX0_replaceWeight 1 = .ok (.iload_n 1, 1) := by decide +kernel
theorem dX0_replaceWeight_2 : decode cX0_replaceWeight 2 = .ok (.invokevirtual 27, 3) := by decide +kernel
theorem dX0_replaceWeight_5 : decode cX0_replaceWeight 5 = .ok (.ifCond .eq 11, 3) := by decide +kernel
theorem dX0_replaceWeight_8 : decode cX0_replaceWeight 8 = .ok (.aload_n 0, 1) := by decide +kernel
theorem dX0_replaceWeight_9 : decode cX0_replaceWeight 9 = .ok (.iload_n 2, 1) := by decide +kernel
theorem dX0_replaceWeight_10 : decode cX0_replaceWeight 10 = .ok (.invokevirtual 27, 3) := by decide +kernel
theorem dX0_replaceWeight_13 : decode cX0_replaceWeight 13 = .ok (.ifCond .ne 5, 3) := by decide +kernel
theorem dX0_replaceWeight_16 : decode cX0_replaceWeight 16 = .ok (.iconst 0, 1) := by decide +kernel
theorem dX0_replaceWeight_17 : decode cX0_replaceWeight 17 = .ok (.ireturn, 1) := by decide +kernel
theorem dX0_replaceWeight_18 : decode cX0_replaceWeight 18 = .ok (.aload_n 0, 1) := by decide +kernel
theorem dX0_replaceWeight_19 : decode cX0_replaceWeight 19 = .ok (.getfield 11, 3) := by decide +kernel
theorem dX0_replaceWeight_22 : decode cX0_replaceWeight 22 = .ok (.iload_n 1, 1) := by decide +kernel
theorem dX0_replaceWeight_23 : decode cX0_replaceWeight 23 = .ok (.aaload, 1) := by decide +kernel
theorem dX0_replaceWeight_24 : decode cX0_replaceWeight 24 = .ok (.iload_n 2, 1) := by decide +kernel
theorem dX0_replaceWeight_25 : decode cX0_replaceWeight 25 = .ok (.iaload, 1) := by decide +kernel
theorem dX0_replaceWeight_26 : decode cX0_replaceWeight 26 = .ok (.istore 4, 2) := by decide +kernel
theorem dX0_replaceWeight_28 : decode cX0_replaceWeight 28 = .ok (.aload_n 0, 1) := by decide +kernel
theorem dX0_replaceWeight_29 : decode cX0_replaceWeight 29 = .ok (.getfield 11, 3) := by decide +kernel
theorem dX0_replaceWeight_32 : decode cX0_replaceWeight 32 = .ok (.iload_n 1, 1) := by decide +kernel
theorem dX0_replaceWeight_33 : decode cX0_replaceWeight 33 = .ok (.aaload, 1) := by decide +kernel
theorem dX0_replaceWeight_34 : decode cX0_replaceWeight 34 = .ok (.iload_n 2, 1) := by decide +kernel
theorem dX0_replaceWeight_35 : decode cX0_replaceWeight 35 = .ok (.iload_n 3, 1) := by decide +kernel
theorem dX0_replaceWeight_36 : decode cX0_replaceWeight 36 = .ok (.iastore, 1) := by decide +kernel
theorem dX0_replaceWeight_37 : decode cX0_replaceWeight 37 = .ok (.iload 4, 2) := by decide +kernel
theorem dX0_replaceWeight_39 : decode cX0_replaceWeight 39 = .ok (.ireturn, 1) := by decide +kernel
set_option maxRecDepth 20000 in
theorem ggX0_replaceStanding_X4_hasBit : GoodIn wsX0_replaceStanding wsX4_hasBit := goodIn_r _ [4, 5, 6, 3, 7] (by decide +kernel) (by decide +kernel)
set_option maxRecDepth 20000 in
theorem gX0_replaceStanding_X4_hasBit_n31 : GoodIn wsX0_replaceStanding (wsX4_hasBit) := ggX0_replaceStanding_X4_hasBit
set_option maxRecDepth 20000 in
theorem ggX0_replaceStanding_X4_bit : GoodIn wsX0_replaceStanding wsX4_bit := goodIn_r _ [7] (by decide +kernel) (by decide +kernel)
set_option maxRecDepth 20000 in
theorem gX0_replaceStanding_X4_bit_n23 : GoodIn wsX0_replaceStanding (wsX4_bit) := ggX0_replaceStanding_X4_bit
theorem dX0_replaceStanding_0 : decode cX0_replaceStanding 0 = .ok (.aload_n 0, 1) := by decide +kernel
theorem dX0_replaceStanding_1 : decode cX0_replaceStanding 1 = .ok (.getfield 16, 3) := by decide +kernel
theorem dX0_replaceStanding_4 : decode cX0_replaceStanding 4 = .ok (.iload_n 1, 1) := by decide +kernel
theorem dX0_replaceStanding_5 : decode cX0_replaceStanding 5 = .ok (.invokestatic 31, 3) := by decide +kernel
theorem dX0_replaceStanding_8 : decode cX0_replaceStanding 8 = .ok (.istore_n 3, 1) := by decide +kernel
theorem dX0_replaceStanding_9 : decode cX0_replaceStanding 9 = .ok (.iload_n 2, 1) := by decide +kernel
theorem dX0_replaceStanding_10 : decode cX0_replaceStanding 10 = .ok (.ifCond .eq 19, 3) := by decide +kernel
theorem dX0_replaceStanding_13 : decode cX0_replaceStanding 13 = .ok (.aload_n 0, 1) := by decide +kernel
theorem dX0_replaceStanding_14 : decode cX0_replaceStanding 14 = .ok (.dup, 1) := by decide +kernel
theorem dX0_replaceStanding_15 : decode cX0_replaceStanding 15 = .ok (.getfield 16, 3) := by decide +kernel
theorem dX0_replaceStanding_18 : decode cX0_replaceStanding 18 = .ok (.iload_n 1, 1) := by decide +kernel
theorem dX0_replaceStanding_19 : decode cX0_replaceStanding 19 = .ok (.invokestatic 23, 3) := by decide +kernel
theorem dX0_replaceStanding_22 : decode cX0_replaceStanding 22 = .ok (.ior, 1) := by decide +kernel
theorem dX0_replaceStanding_23 : decode cX0_replaceStanding 23 = .ok (.putfield 16, 3) := by decide +kernel
theorem dX0_replaceStanding_26 : decode cX0_replaceStanding 26 = .ok (.goto 18, 3) := by decide +kernel
theorem dX0_replaceStanding_29 : decode cX0_replaceStanding 29 = .ok (.aload_n 0, 1) := by decide +kernel
theorem dX0_replaceStanding_30 : decode cX0_replaceStanding 30 = .ok (.dup, 1) := by decide +kernel
theorem dX0_replaceStanding_31 : decode cX0_replaceStanding 31 = .ok (.getfield 16, 3) := by decide +kernel
theorem dX0_replaceStanding_34 : decode cX0_replaceStanding 34 = .ok (.iload_n 1, 1) := by decide +kernel
theorem dX0_replaceStanding_35 : decode cX0_replaceStanding 35 = .ok (.invokestatic 23, 3) := by decide +kernel
theorem dX0_replaceStanding_38 : decode cX0_replaceStanding 38 = .ok (.iconst (-1), 1) := by decide +kernel
theorem dX0_replaceStanding_39 : decode cX0_replaceStanding 39 = .ok (.ixor, 1) := by decide +kernel
theorem dX0_replaceStanding_40 : decode cX0_replaceStanding 40 = .ok (.iand, 1) := by decide +kernel
theorem dX0_replaceStanding_41 : decode cX0_replaceStanding 41 = .ok (.putfield 16, 3) := by decide +kernel
theorem dX0_replaceStanding_44 : decode cX0_replaceStanding 44 = .ok (.iload_n 3, 1) := by decide +kernel
theorem dX0_replaceStanding_45 : decode cX0_replaceStanding 45 = .ok (.ireturn, 1) := by decide +kernel
set_option maxRecDepth 20000 in
theorem ggX0_isBecauseOf_X4_bit : GoodIn wsX0_isBecauseOf wsX4_bit := goodIn_r _ [4] (by decide +kernel) (by decide +kernel)
set_option maxRecDepth 20000 in
theorem gX0_isBecauseOf_X4_bit_n23 : GoodIn wsX0_isBecauseOf (wsX4_bit) := ggX0_isBecauseOf_X4_bit
set_option maxRecDepth 20000 in
theorem ggX0_isBecauseOf_X0_reach : GoodIn wsX0_isBecauseOf wsX0_reach := goodIn_r _ [9, 1, 2, 3, 4, 10, 11, 12, 13, 14, 15, 8, 16, 17, 18, 19, 20, 21, 22, 23, 24, 25, 26, 27, 28] (by decide +kernel) (by decide +kernel)
set_option maxRecDepth 20000 in
theorem gX0_isBecauseOf_X0_reach : GoodIn wsX0_isBecauseOf (wsV RX0 35 RX0 yX0_reach wsX0_reach) := goodIn_app (goodIn_of _ (by decide +kernel)) ggX0_isBecauseOf_X0_reach
set_option maxRecDepth 20000 in
theorem ggX0_isBecauseOf_X4_hasBit : GoodIn wsX0_isBecauseOf wsX4_hasBit := goodIn_r _ [11, 12, 2, 3, 4] (by decide +kernel) (by decide +kernel)
set_option maxRecDepth 20000 in
theorem gX0_isBecauseOf_X4_hasBit_n31 : GoodIn wsX0_isBecauseOf (wsX4_hasBit) := ggX0_isBecauseOf_X4_hasBit
theorem dX0_isBecauseOf_0 : decode cX0_isBecauseOf 0 = .ok (.aload_n 0, 1) := by decide +kernel
theorem dX0_isBecauseOf_1 : decode cX0_isBecauseOf 1 = .ok (.iload_n 1, 1) := by decide +kernel
theorem dX0_isBecauseOf_2 : decode cX0_isBecauseOf 2 = .ok (.aload_n 0, 1) := by decide +kernel
theorem dX0_isBecauseOf_3 : decode cX0_isBecauseOf 3 = .ok (.getfield 20, 3) := by decide +kernel
theorem dX0_isBecauseOf_6 : decode cX0_isBecauseOf 6 = .ok (.invokestatic 23, 3) := by decide +kernel
theorem dX0_isBecauseOf_9 : decode cX0_isBecauseOf 9 = .ok (.iconst 1, 1) := by decide +kernel
theorem dX0_isBecauseOf_10 : decode cX0_isBecauseOf 10 = .ok (.isub, 1) := by decide +kernel
theorem dX0_isBecauseOf_11 : decode cX0_isBecauseOf 11 = .ok (.invokevirtual 35, 3) := by decide +kernel
theorem dX0_isBecauseOf_14 : decode cX0_isBecauseOf 14 = .ok (.iload_n 2, 1) := by decide +kernel
theorem dX0_isBecauseOf_15 : decode cX0_isBecauseOf 15 = .ok (.invokestatic 31, 3) := by decide +kernel
theorem dX0_isBecauseOf_18 : decode cX0_isBecauseOf 18 = .ok (.ireturn, 1) := by decide +kernel
set_option maxRecDepth 20000 in
theorem ggX0_rootsUnder_X4_hasBit : GoodIn wsX0_rootsUnder wsX4_hasBit := goodIn_r _ [5, 6, 7, 4, 8] (by decide +kernel) (by decide +kernel)
set_option maxRecDepth 20000 in
theorem gX0_rootsUnder_X4_hasBit_n31 : GoodIn wsX0_rootsUnder (wsX4_hasBit) := ggX0_rootsUnder_X4_hasBit
set_option maxRecDepth 20000 in
theorem ggX0_rootsUnder_X0_reach : GoodIn wsX0_rootsUnder wsX0_reach := goodIn_r _ [13, 2, 7, 4, 8, 3, 5, 6, 14, 15, 16, 12, 17, 18, 19, 20, 21, 22, 23, 24, 25, 26, 27, 28, 29] (by decide +kernel) (by decide +kernel)
set_option maxRecDepth 20000 in
theorem gX0_rootsUnder_X0_reach : GoodIn wsX0_rootsUnder (wsV RX0 35 RX0 yX0_reach wsX0_reach) := goodIn_app (goodIn_of _ (by decide +kernel)) ggX0_rootsUnder_X0_reach
set_option maxRecDepth 20000 in
theorem ggX0_rootsUnder_X0_reasonsOf : GoodIn wsX0_rootsUnder wsX0_reasonsOf := goodIn_r _ [17, 2, 18, 19, 20, 12, 21, 22, 23, 24, 25, 26, 7, 4, 8, 27, 28, 29] (by decide +kernel) (by decide +kernel)
set_option maxRecDepth 20000 in
theorem gX0_rootsUnder_X0_reasonsOf : GoodIn wsX0_rootsUnder (wsV RX0 39 RX0 yX0_reasonsOf wsX0_reasonsOf) := goodIn_app (goodIn_of _ (by decide +kernel)) ggX0_rootsUnder_X0_reasonsOf
set_option maxRecDepth 20000 in
theorem ggX0_rootsUnder_X4_bit : GoodIn wsX0_rootsUnder wsX4_bit := goodIn_r _ [8] (by decide +kernel) (by decide +kernel)
set_option maxRecDepth 20000 in
theorem gX0_rootsUnder_X4_bit_n23 : GoodIn wsX0_rootsUnder (wsX4_bit) := ggX0_rootsUnder_X4_bit
theorem dX0_rootsUnder_0 : decode cX0_rootsUnder 0 = .ok (.aload_n 0, 1) := by decide +kernel
theorem dX0_rootsUnder_1 : decode cX0_rootsUnder 1 = .ok (.getfield 16, 3) := by decide +kernel
theorem dX0_rootsUnder_4 : decode cX0_rootsUnder 4 = .ok (.iload_n 1, 1) := by decide +kernel
theorem dX0_rootsUnder_5 : decode cX0_rootsUnder 5 = .ok (.invokestatic 31, 3) := by decide +kernel
theorem dX0_rootsUnder_8 : decode cX0_rootsUnder 8 = .ok (.ifCond .ne 5, 3) := by decide +kernel
theorem dX0_rootsUnder_11 : decode cX0_rootsUnder 11 = .ok (.iconst 0, 1) := by decide +kernel
theorem dX0_rootsUnder_12 : decode cX0_rootsUnder 12 = .ok (.ireturn, 1) := by decide +kernel
theorem dX0_rootsUnder_13 : decode cX0_rootsUnder 13 = .ok (.aload_n 0, 1) := by decide +kernel
theorem dX0_rootsUnder_14 : decode cX0_rootsUnder 14 = .ok (.iload_n 1, 1) := by decide +kernel
theorem dX0_rootsUnder_15 : decode cX0_rootsUnder 15 = .ok (.aload_n 0, 1) := by decide +kernel
theorem dX0_rootsUnder_16 : decode cX0_rootsUnder 16 = .ok (.getfield 16, 3) := by decide +kernel
theorem dX0_rootsUnder_19 : decode cX0_rootsUnder 19 = .ok (.invokevirtual 35, 3) := by decide +kernel
theorem dX0_rootsUnder_22 : decode cX0_rootsUnder 22 = .ok (.istore_n 2, 1) := by decide +kernel
theorem dX0_rootsUnder_23 : decode cX0_rootsUnder 23 = .ok (.iconst 0, 1) := by decide +kernel
theorem dX0_rootsUnder_24 : decode cX0_rootsUnder 24 = .ok (.istore_n 3, 1) := by decide +kernel
theorem dX0_rootsUnder_25 : decode cX0_rootsUnder 25 = .ok (.iconst 0, 1) := by decide +kernel
theorem dX0_rootsUnder_26 : decode cX0_rootsUnder 26 = .ok (.istore 4, 2) := by decide +kernel
theorem dX0_rootsUnder_28 : decode cX0_rootsUnder 28 = .ok (.iload 4, 2) := by decide +kernel
theorem dX0_rootsUnder_30 : decode cX0_rootsUnder 30 = .ok (.aload_n 0, 1) := by decide +kernel
theorem dX0_rootsUnder_31 : decode cX0_rootsUnder 31 = .ok (.getfield 20, 3) := by decide +kernel
theorem dX0_rootsUnder_34 : decode cX0_rootsUnder 34 = .ok (.if_icmp .ge 40, 3) := by decide +kernel
theorem dX0_rootsUnder_37 : decode cX0_rootsUnder 37 = .ok (.iload_n 2, 1) := by decide +kernel
theorem dX0_rootsUnder_38 : decode cX0_rootsUnder 38 = .ok (.iload 4, 2) := by decide +kernel
theorem dX0_rootsUnder_40 : decode cX0_rootsUnder 40 = .ok (.invokestatic 31, 3) := by decide +kernel
theorem dX0_rootsUnder_43 : decode cX0_rootsUnder 43 = .ok (.ifCond .eq 25, 3) := by decide +kernel
theorem dX0_rootsUnder_46 : decode cX0_rootsUnder 46 = .ok (.aload_n 0, 1) := by decide +kernel
theorem dX0_rootsUnder_47 : decode cX0_rootsUnder 47 = .ok (.iload 4, 2) := by decide +kernel
theorem dX0_rootsUnder_49 : decode cX0_rootsUnder 49 = .ok (.invokevirtual 39, 3) := by decide +kernel
theorem dX0_rootsUnder_52 : decode cX0_rootsUnder 52 = .ok (.aload_n 0, 1) := by decide +kernel
theorem dX0_rootsUnder_53 : decode cX0_rootsUnder 53 = .ok (.getfield 16, 3) := by decide +kernel
theorem dX0_rootsUnder_56 : decode cX0_rootsUnder 56 = .ok (.iand, 1) := by decide +kernel
theorem dX0_rootsUnder_57 : decode cX0_rootsUnder 57 = .ok (.ifCond .ne 11, 3) := by decide +kernel
theorem dX0_rootsUnder_60 : decode cX0_rootsUnder 60 = .ok (.iload_n 3, 1) := by decide +kernel
theorem dX0_rootsUnder_61 : decode cX0_rootsUnder 61 = .ok (.iload 4, 2) := by decide +kernel
theorem dX0_rootsUnder_63 : decode cX0_rootsUnder 63 = .ok (.invokestatic 23, 3) := by decide +kernel
theorem dX0_rootsUnder_66 : decode cX0_rootsUnder 66 = .ok (.ior, 1) := by decide +kernel
theorem dX0_rootsUnder_67 : decode cX0_rootsUnder 67 = .ok (.istore_n 3, 1) := by decide +kernel
theorem dX0_rootsUnder_68 : decode cX0_rootsUnder 68 = .ok (.iinc 4 1, 3) := by decide +kernel
theorem dX0_rootsUnder_71 : decode cX0_rootsUnder 71 = .ok (.goto (-43), 3) := by decide +kernel
theorem dX0_rootsUnder_74 : decode cX0_rootsUnder 74 = .ok (.iload_n 3, 1) := by decide +kernel
theorem dX0_rootsUnder_75 : decode cX0_rootsUnder 75 = .ok (.ireturn, 1) := by decide +kernel
set_option maxRecDepth 20000 in
theorem ggX0_weightiestReason_X0_weight : GoodIn wsX0_weightiestReason wsX0_weight := goodIn_r _ [7, 8, 9, 10, 11, 6, 12, 1, 19, 20, 21] (by decide +kernel) (by decide +kernel)
set_option maxRecDepth 20000 in
theorem gX0_weightiestReason_X0_weight : GoodIn wsX0_weightiestReason (wsV RX0 42 RX0 yX0_weight wsX0_weight) := goodIn_app (goodIn_of _ (by decide +kernel)) ggX0_weightiestReason_X0_weight
set_option maxRecDepth 20000 in
theorem ggX0_weightiestReason_X4_hasBit : GoodIn wsX0_weightiestReason wsX4_hasBit := goodIn_r _ [15, 16, 17, 14, 18] (by decide +kernel) (by decide +kernel)
set_option maxRecDepth 20000 in
theorem gX0_weightiestReason_X4_hasBit_n31 : GoodIn wsX0_weightiestReason (wsX4_hasBit) := ggX0_weightiestReason_X4_hasBit
theorem dX0_weightiestReason_0 : decode cX0_weightiestReason 0 = .ok (.iconst (-1), 1) := by decide +kernel
theorem dX0_weightiestReason_1 : decode cX0_weightiestReason 1 = .ok (.istore_n 2, 1) := by decide +kernel
theorem dX0_weightiestReason_2 : decode cX0_weightiestReason 2 = .ok (.iconst 0, 1) := by decide +kernel
theorem dX0_weightiestReason_3 : decode cX0_weightiestReason 3 = .ok (.istore_n 3, 1) := by decide +kernel
theorem dX0_weightiestReason_4 : decode cX0_weightiestReason 4 = .ok (.iconst 0, 1) := by decide +kernel
theorem dX0_weightiestReason_5 : decode cX0_weightiestReason 5 = .ok (.istore 4, 2) := by decide +kernel
theorem dX0_weightiestReason_7 : decode cX0_weightiestReason 7 = .ok (.iload 4, 2) := by decide +kernel
theorem dX0_weightiestReason_9 : decode cX0_weightiestReason 9 = .ok (.aload_n 0, 1) := by decide +kernel
theorem dX0_weightiestReason_10 : decode cX0_weightiestReason 10 = .ok (.getfield 20, 3) := by decide +kernel
theorem dX0_weightiestReason_13 : decode cX0_weightiestReason 13 = .ok (.if_icmp .ge 42, 3) := by decide +kernel
theorem dX0_weightiestReason_16 : decode cX0_weightiestReason 16 = .ok (.aload_n 0, 1) := by decide +kernel
theorem dX0_weightiestReason_17 : decode cX0_weightiestReason 17 = .ok (.iload_n 1, 1) := by decide +kernel
theorem dX0_weightiestReason_18 : decode cX0_weightiestReason 18 = .ok (.iload 4, 2) := by decide +kernel
theorem dX0_weightiestReason_20 : decode cX0_weightiestReason 20 = .ok (.invokevirtual 42, 3) := by decide +kernel
theorem dX0_weightiestReason_23 : decode cX0_weightiestReason 23 = .ok (.istore 5, 2) := by decide +kernel
theorem dX0_weightiestReason_25 : decode cX0_weightiestReason 25 = .ok (.aload_n 0, 1) := by decide +kernel
theorem dX0_weightiestReason_26 : decode cX0_weightiestReason 26 = .ok (.getfield 16, 3) := by decide +kernel
theorem dX0_weightiestReason_29 : decode cX0_weightiestReason 29 = .ok (.iload 4, 2) := by decide +kernel
theorem dX0_weightiestReason_31 : decode cX0_weightiestReason 31 = .ok (.invokestatic 31, 3) := by decide +kernel
theorem dX0_weightiestReason_34 : decode cX0_weightiestReason 34 = .ok (.ifCond .eq 15, 3) := by decide +kernel
theorem dX0_weightiestReason_37 : decode cX0_weightiestReason 37 = .ok (.iload 5, 2) := by decide +kernel
theorem dX0_weightiestReason_39 : decode cX0_weightiestReason 39 = .ok (.iload_n 3, 1) := by decide +kernel
theorem dX0_weightiestReason_40 : decode cX0_weightiestReason 40 = .ok (.if_icmp .le 9, 3) := by decide +kernel
theorem dX0_weightiestReason_43 : decode cX0_weightiestReason 43 = .ok (.iload 4, 2) := by decide +kernel
theorem dX0_weightiestReason_45 : decode cX0_weightiestReason 45 = .ok (.istore_n 2, 1) := by decide +kernel
theorem dX0_weightiestReason_46 : decode cX0_weightiestReason 46 = .ok (.iload 5, 2) := by decide +kernel
theorem dX0_weightiestReason_48 : decode cX0_weightiestReason 48 = .ok (.istore_n 3, 1) := by decide +kernel
theorem dX0_weightiestReason_49 : decode cX0_weightiestReason 49 = .ok (.iinc 4 1, 3) := by decide +kernel
theorem dX0_weightiestReason_52 : decode cX0_weightiestReason 52 = .ok (.goto (-45), 3) := by decide +kernel
theorem dX0_weightiestReason_55 : decode cX0_weightiestReason 55 = .ok (.iload_n 2, 1) := by decide +kernel
theorem dX0_weightiestReason_56 : decode cX0_weightiestReason 56 = .ok (.ireturn, 1) := by decide +kernel
set_option maxRecDepth 20000 in
theorem ggX0_reach_X4_bit : GoodIn wsX0_reach wsX4_bit := goodIn_r _ [4] (by decide +kernel) (by decide +kernel)
set_option maxRecDepth 20000 in
theorem gX0_reach_X4_bit_n23 : GoodIn wsX0_reach (wsX4_bit) := ggX0_reach_X4_bit
set_option maxRecDepth 20000 in
theorem ggX0_reach_X4_hasBit : GoodIn wsX0_reach wsX4_hasBit := goodIn_r _ [6, 7, 2, 3, 4] (by decide +kernel) (by decide +kernel)
set_option maxRecDepth 20000 in
theorem gX0_reach_X4_hasBit_n31 : GoodIn wsX0_reach (wsX4_hasBit) := ggX0_reach_X4_hasBit
set_option maxRecDepth 20000 in
theorem ggX0_reach_X0_reasonsOf : GoodIn wsX0_reach wsX0_reasonsOf := goodIn_r _ [12, 1, 13, 14, 15, 11, 16, 17, 18, 19, 20, 21, 2, 3, 4, 22, 23, 24] (by decide +kernel) (by decide +kernel)
set_option maxRecDepth 20000 in
theorem gX0_reach_X0_reasonsOf : GoodIn wsX0_reach (wsV RX0 39 RX0 yX0_reasonsOf wsX0_reasonsOf) := goodIn_app (goodIn_of _ (by decide +kernel)) ggX0_reach_X0_reasonsOf
theorem dX0_reach_0 : decode cX0_reach 0 = .ok (.iload_n 1, 1) := by decide +kernel
theorem dX0_reach_1 : decode cX0_reach 1 = .ok (.invokestatic 23, 3) := by decide +kernel
theorem dX0_reach_4 : decode cX0_reach 4 = .ok (.istore_n 3, 1) := by decide +kernel
theorem dX0_reach_5 : decode cX0_reach 5 = .ok (.iconst 0, 1) := by decide +kernel
theorem dX0_reach_6 : decode cX0_reach 6 = .ok (.istore 4, 2) := by decide +kernel
theorem dX0_reach_8 : decode cX0_reach 8 = .ok (.iload 4, 2) := by decide +kernel
theorem dX0_reach_10 : decode cX0_reach 10 = .ok (.aload_n 0, 1) := by decide +kernel
theorem dX0_reach_11 : decode cX0_reach 11 = .ok (.getfield 20, 3) := by decide +kernel
theorem dX0_reach_14 : decode cX0_reach 14 = .ok (.if_icmp .ge 47, 3) := by decide +kernel
theorem dX0_reach_17 : decode cX0_reach 17 = .ok (.iconst 0, 1) := by decide +kernel
theorem dX0_reach_18 : decode cX0_reach 18 = .ok (.istore 5, 2) := by decide +kernel
theorem dX0_reach_20 : decode cX0_reach 20 = .ok (.iload 5, 2) := by decide +kernel
theorem dX0_reach_22 : decode cX0_reach 22 = .ok (.aload_n 0, 1) := by decide +kernel
theorem dX0_reach_23 : decode cX0_reach 23 = .ok (.getfield 20, 3) := by decide +kernel
theorem dX0_reach_26 : decode cX0_reach 26 = .ok (.if_icmp .ge 29, 3) := by decide +kernel
theorem dX0_reach_29 : decode cX0_reach 29 = .ok (.iload_n 3, 1) := by decide +kernel
theorem dX0_reach_30 : decode cX0_reach 30 = .ok (.iload 5, 2) := by decide +kernel
theorem dX0_reach_32 : decode cX0_reach 32 = .ok (.invokestatic 31, 3) := by decide +kernel
theorem dX0_reach_35 : decode cX0_reach 35 = .ok (.ifCond .eq 14, 3) := by decide +kernel
theorem dX0_reach_38 : decode cX0_reach 38 = .ok (.iload_n 3, 1) := by decide +kernel
theorem dX0_reach_39 : decode cX0_reach 39 = .ok (.aload_n 0, 1) := by decide +kernel
theorem dX0_reach_40 : decode cX0_reach 40 = .ok (.iload 5, 2) := by decide +kernel
theorem dX0_reach_42 : decode cX0_reach 42 = .ok (.invokevirtual 39, 3) := by decide +kernel
theorem dX0_reach_45 : decode cX0_reach 45 = .ok (.iload_n 2, 1) := by decide +kernel
theorem dX0_reach_46 : decode cX0_reach 46 = .ok (.iand, 1) := by decide +kernel
theorem dX0_reach_47 : decode cX0_reach 47 = .ok (.ior, 1) := by decide +kernel
theorem dX0_reach_48 : decode cX0_reach 48 = .ok (.istore_n 3, 1) := by decide +kernel
theorem dX0_reach_49 : decode cX0_reach 49 = .ok (.iinc 5 1, 3) := by decide +kernel
theorem dX0_reach_52 : decode cX0_reach 52 = .ok (.goto (-32), 3) := by decide +kernel
theorem dX0_reach_55 : decode cX0_reach 55 = .ok (.iinc 4 1, 3) := by decide +kernel
theorem dX0_reach_58 : decode cX0_reach 58 = .ok (.goto (-50), 3) := by decide +kernel
theorem dX0_reach_61 : decode cX0_reach 61 = .ok (.iload_n 3, 1) := by decide +kernel
theorem dX0_reach_62 : decode cX0_reach 62 = .ok (.ireturn, 1) := by decide +kernel
set_option maxRecDepth 20000 in
theorem ggX0_reasonsOf_X0_weight : GoodIn wsX0_reasonsOf wsX0_weight := goodIn_r _ [6, 7, 8, 9, 10, 5, 11, 1, 15, 16, 17] (by decide +kernel) (by decide +kernel)
set_option maxRecDepth 20000 in
theorem gX0_reasonsOf_X0_weight : GoodIn wsX0_reasonsOf (wsV RX0 42 RX0 yX0_weight wsX0_weight) := goodIn_app (goodIn_of _ (by decide +kernel)) ggX0_reasonsOf_X0_weight
set_option maxRecDepth 20000 in
theorem ggX0_reasonsOf_X4_bit : GoodIn wsX0_reasonsOf wsX4_bit := goodIn_r _ [14] (by decide +kernel) (by decide +kernel)
set_option maxRecDepth 20000 in
theorem gX0_reasonsOf_X4_bit_n23 : GoodIn wsX0_reasonsOf (wsX4_bit) := ggX0_reasonsOf_X4_bit
theorem dX0_reasonsOf_0 : decode cX0_reasonsOf 0 = .ok (.iconst 0, 1) := by decide +kernel
theorem dX0_reasonsOf_1 : decode cX0_reasonsOf 1 = .ok (.istore_n 2, 1) := by decide +kernel
theorem dX0_reasonsOf_2 : decode cX0_reasonsOf 2 = .ok (.iconst 0, 1) := by decide +kernel
theorem dX0_reasonsOf_3 : decode cX0_reasonsOf 3 = .ok (.istore_n 3, 1) := by decide +kernel
theorem dX0_reasonsOf_4 : decode cX0_reasonsOf 4 = .ok (.iload_n 3, 1) := by decide +kernel
theorem dX0_reasonsOf_5 : decode cX0_reasonsOf 5 = .ok (.aload_n 0, 1) := by decide +kernel
theorem dX0_reasonsOf_6 : decode cX0_reasonsOf 6 = .ok (.getfield 20, 3) := by decide +kernel
theorem dX0_reasonsOf_9 : decode cX0_reasonsOf 9 = .ok (.if_icmp .ge 25, 3) := by decide +kernel
theorem dX0_reasonsOf_12 : decode cX0_reasonsOf 12 = .ok (.aload_n 0, 1) := by decide +kernel
theorem dX0_reasonsOf_13 : decode cX0_reasonsOf 13 = .ok (.iload_n 1, 1) := by decide +kernel
theorem dX0_reasonsOf_14 : decode cX0_reasonsOf 14 = .ok (.iload_n 3, 1) := by decide +kernel
theorem dX0_reasonsOf_15 : decode cX0_reasonsOf 15 = .ok (.invokevirtual 42, 3) := by decide +kernel
theorem dX0_reasonsOf_18 : decode cX0_reasonsOf 18 = .ok (.ifCond .le 10, 3) := by decide +kernel
theorem dX0_reasonsOf_21 : decode cX0_reasonsOf 21 = .ok (.iload_n 2, 1) := by decide +kernel
theorem dX0_reasonsOf_22 : decode cX0_reasonsOf 22 = .ok (.iload_n 3, 1) := by decide +kernel
theorem dX0_reasonsOf_23 : decode cX0_reasonsOf 23 = .ok (.invokestatic 23, 3) := by decide +kernel
theorem dX0_reasonsOf_26 : decode cX0_reasonsOf 26 = .ok (.ior, 1) := by decide +kernel
theorem dX0_reasonsOf_27 : decode cX0_reasonsOf 27 = .ok (.istore_n 2, 1) := by decide +kernel
theorem dX0_reasonsOf_28 : decode cX0_reasonsOf 28 = .ok (.iinc 3 1, 3) := by decide +kernel
theorem dX0_reasonsOf_31 : decode cX0_reasonsOf 31 = .ok (.goto (-27), 3) := by decide +kernel
theorem dX0_reasonsOf_34 : decode cX0_reasonsOf 34 = .ok (.iload_n 2, 1) := by decide +kernel
theorem dX0_reasonsOf_35 : decode cX0_reasonsOf 35 = .ok (.ireturn, 1) := by decide +kernel
set_option maxRecDepth 20000 in
theorem ggX0_weight_X0_holds : GoodIn wsX0_weight wsX0_holds := goodIn_r _ [6, 7, 8, 9, 10] (by decide +kernel) (by decide +kernel)
set_option maxRecDepth 20000 in
theorem gX0_weight_X0_holds : GoodIn wsX0_weight (wsV RX0 27 RX0 yX0_holds wsX0_holds) := goodIn_app (goodIn_of _ (by decide +kernel)) ggX0_weight_X0_holds
theorem dX0_weight_0 : decode cX0_weight 0 = .ok (.aload_n 0, 1) := by decide +kernel
theorem dX0_weight_1 : decode cX0_weight 1 = .ok (.iload_n 1, 1) := by decide +kernel
theorem dX0_weight_2 : decode cX0_weight 2 = .ok (.invokevirtual 27, 3) := by decide +kernel
theorem dX0_weight_5 : decode cX0_weight 5 = .ok (.ifCond .eq 22, 3) := by decide +kernel
theorem dX0_weight_8 : decode cX0_weight 8 = .ok (.aload_n 0, 1) := by decide +kernel
theorem dX0_weight_9 : decode cX0_weight 9 = .ok (.iload_n 2, 1) := by decide +kernel
theorem dX0_weight_10 : decode cX0_weight 10 = .ok (.invokevirtual 27, 3) := by decide +kernel
theorem dX0_weight_13 : decode cX0_weight 13 = .ok (.ifCond .eq 14, 3) := by decide +kernel
theorem dX0_weight_16 : decode cX0_weight 16 = .ok (.aload_n 0, 1) := by decide +kernel
theorem dX0_weight_17 : decode cX0_weight 17 = .ok (.getfield 11, 3) := by decide +kernel
theorem dX0_weight_20 : decode cX0_weight 20 = .ok (.iload_n 1, 1) := by decide +kernel
theorem dX0_weight_21 : decode cX0_weight 21 = .ok (.aaload, 1) := by decide +kernel
theorem dX0_weight_22 : decode cX0_weight 22 = .ok (.iload_n 2, 1) := by decide +kernel
theorem dX0_weight_23 : decode cX0_weight 23 = .ok (.iaload, 1) := by decide +kernel
theorem dX0_weight_24 : decode cX0_weight 24 = .ok (.goto 4, 3) := by decide +kernel
theorem dX0_weight_27 : decode cX0_weight 27 = .ok (.iconst 0, 1) := by decide +kernel
theorem dX0_weight_28 : decode cX0_weight 28 = .ok (.ireturn, 1) := by decide +kernel
theorem dX1_init_0 : decode cX1_init 0 = .ok (.aload_n 0, 1) := by decide +kernel
theorem dX1_init_1 : decode cX1_init 1 = .ok (.invokespecial 3, 3) := by decide +kernel
theorem dX1_init_4 : decode cX1_init 4 = .ok (.aload_n 0, 1) := by decide +kernel
theorem dX1_init_5 : decode cX1_init 5 = .ok (.bipush 30, 2) := by decide +kernel
theorem dX1_init_7 : decode cX1_init 7 = .ok (.newarray .int, 2) := by decide +kernel
theorem dX1_init_9 : decode cX1_init 9 = .ok (.putfield 9, 3) := by decide +kernel
theorem dX1_init_12 : decode cX1_init 12 = .ok (.aload_n 0, 1) := by decide +kernel
theorem dX1_init_13 : decode cX1_init 13 = .ok (.bipush 30, 2) := by decide +kernel
theorem dX1_init_15 : decode cX1_init 15 = .ok (.newarray .int, 2) := by decide +kernel
theorem dX1_init_17 : decode cX1_init 17 = .ok (.putfield 15, 3) := by decide +kernel
theorem dX1_init_20 : decode cX1_init 20 = .ok (.aload_n 0, 1) := by decide +kernel
theorem dX1_init_21 : decode cX1_init 21 = .ok (.bipush 30, 2) := by decide +kernel
theorem dX1_init_23 : decode cX1_init 23 = .ok (.newarray .int, 2) := by decide +kernel
theorem dX1_init_25 : decode cX1_init 25 = .ok (.putfield 18, 3) := by decide +kernel
theorem dX1_init_28 : decode cX1_init 28 = .ok (.aload_n 0, 1) := by decide +kernel
theorem dX1_init_29 : decode cX1_init 29 = .ok (.bipush 30, 2) := by decide +kernel
theorem dX1_init_31 : decode cX1_init 31 = .ok (.newarray .boolean, 2) := by decide +kernel
theorem dX1_init_33 : decode cX1_init 33 = .ok (.putfield 21, 3) := by decide +kernel
theorem dX1_init_36 : decode cX1_init 36 = .ok (.aload_n 0, 1) := by decide +kernel
theorem dX1_init_37 : decode cX1_init 37 = .ok (.bipush 30, 2) := by decide +kernel
theorem dX1_init_39 : decode cX1_init 39 = .ok (.newarray .int, 2) := by decide +kernel
theorem dX1_init_41 : decode cX1_init 41 = .ok (.putfield 25, 3) := by decide +kernel
theorem dX1_init_44 : decode cX1_init 44 = .ok (.aload_n 0, 1) := by decide +kernel
theorem dX1_init_45 : decode cX1_init 45 = .ok (.bipush 30, 2) := by decide +kernel
theorem dX1_init_47 : decode cX1_init 47 = .ok (.newarray .int, 2) := by decide +kernel
theorem dX1_init_49 : decode cX1_init 49 = .ok (.putfield 28, 3) := by decide +kernel
theorem dX1_init_52 : decode cX1_init 52 = .ok (.aload_n 0, 1) := by decide +kernel
theorem dX1_init_53 : decode cX1_init 53 = .ok (.bipush 30, 2) := by decide +kernel
theorem dX1_init_55 : decode cX1_init 55 = .ok (.newarray .int, 2) := by decide +kernel
theorem dX1_init_57 : decode cX1_init 57 = .ok (.putfield 31, 3) := by decide +kernel
theorem dX1_init_60 : decode cX1_init 60 = .ok (.aload_n 0, 1) := by decide +kernel
theorem dX1_init_61 : decode cX1_init 61 = .ok (.sipush 4096, 3) := by decide +kernel
theorem dX1_init_64 : decode cX1_init 64 = .ok (.newarray .long, 2) := by decide +kernel
theorem dX1_init_66 : decode cX1_init 66 = .ok (.putfield 34, 3) := by decide +kernel
theorem dX1_init_69 : decode cX1_init 69 = .ok (.aload_n 0, 1) := by decide +kernel
theorem dX1_init_70 : decode cX1_init 70 = .ok (.iconst 0, 1) := by decide +kernel
theorem dX1_init_71 : decode cX1_init 71 = .ok (.putfield 38, 3) := by decide +kernel
theorem dX1_init_74 : decode cX1_init 74 = .ok (.return_, 1) := by decide +kernel
theorem dX1_size_0 : decode cX1_size 0 = .ok (.aload_n 0, 1) := by decide +kernel
theorem dX1_size_1 : decode cX1_size 1 = .ok (.getfield 38, 3) := by decide +kernel
theorem dX1_size_4 : decode cX1_size 4 = .ok (.ireturn, 1) := by decide +kernel
theorem dX1_holds_0 : decode cX1_holds 0 = .ok (.iload_n 1, 1) := by decide +kernel
theorem dX1_holds_1 : decode cX1_holds 1 = .ok (.ifCond .lt 21, 3) := by decide +kernel
theorem dX1_holds_4 : decode cX1_holds 4 = .ok (.iload_n 1, 1) := by decide +kernel
theorem dX1_holds_5 : decode cX1_holds 5 = .ok (.aload_n 0, 1) := by decide +kernel
theorem dX1_holds_6 : decode cX1_holds 6 = .ok (.getfield 38, 3) := by decide +kernel
theorem dX1_holds_9 : decode cX1_holds 9 = .ok (.if_icmp .ge 13, 3) := by decide +kernel
theorem dX1_holds_12 : decode cX1_holds 12 = .ok (.iload_n 1, 1) := by decide +kernel
theorem dX1_holds_13 : decode cX1_holds 13 = .ok (.bipush 30, 2) := by decide +kernel
theorem dX1_holds_15 : decode cX1_holds 15 = .ok (.if_icmp .ge 7, 3) := by decide +kernel
theorem dX1_holds_18 : decode cX1_holds 18 = .ok (.iconst 1, 1) := by decide +kernel
theorem dX1_holds_19 : decode cX1_holds 19 = .ok (.goto 4, 3) := by decide +kernel
theorem dX1_holds_22 : decode cX1_holds 22 = .ok (.iconst 0, 1) := by decide +kernel
theorem dX1_holds_23 : decode cX1_holds 23 = .ok (.ireturn, 1) := by decide +kernel
theorem dX1_add_0 : decode cX1_add 0 = .ok (.aload_n 0, 1) := by decide +kernel
theorem dX1_add_1 : decode cX1_add 1 = .ok (.getfield 38, 3) := by decide +kernel
theorem dX1_add_4 : decode cX1_add 4 = .ok (.istore 5, 2) := by decide +kernel
theorem dX1_add_6 : decode cX1_add 6 = .ok (.iload 5, 2) := by decide +kernel
theorem dX1_add_8 : decode cX1_add 8 = .ok (.bipush 30, 2) := by decide +kernel
theorem dX1_add_10 : decode cX1_add 10 = .ok (.if_icmp .lt 5, 3) := by decide +kernel
theorem dX1_add_13 : decode cX1_add 13 = .ok (.iconst (-1), 1) := by decide +kernel
theorem dX1_add_14 : decode cX1_add 14 = .ok (.ireturn, 1) := by decide +kernel
theorem dX1_add_15 : decode cX1_add 15 = .ok (.aload_n 0, 1) := by decide +kernel
theorem dX1_add_16 : decode cX1_add 16 = .ok (.getfield 9, 3) := by decide +kernel
theorem dX1_add_19 : decode cX1_add 19 = .ok (.iload 5, 2) := by decide +kernel
theorem dX1_add_21 : decode cX1_add 21 = .ok (.iload_n 1, 1) := by decide +kernel
theorem dX1_add_22 : decode cX1_add 22 = .ok (.iastore, 1) := by decide +kernel
theorem dX1_add_23 : decode cX1_add 23 = .ok (.aload_n 0, 1) := by decide +kernel
theorem dX1_add_24 : decode cX1_add 24 = .ok (.getfield 15, 3) := by decide +kernel
theorem dX1_add_27 : decode cX1_add 27 = .ok (.iload 5, 2) := by decide +kernel
theorem dX1_add_29 : decode cX1_add 29 = .ok (.iload_n 2, 1) := by decide +kernel
theorem dX1_add_30 : decode cX1_add 30 = .ok (.iastore, 1) := by decide +kernel
theorem dX1_add_31 : decode cX1_add 31 = .ok (.aload_n 0, 1) := by decide +kernel
theorem dX1_add_32 : decode cX1_add 32 = .ok (.getfield 18, 3) := by decide +kernel
theorem dX1_add_35 : decode cX1_add 35 = .ok (.iload 5, 2) := by decide +kernel
theorem dX1_add_37 : decode cX1_add 37 = .ok (.iload_n 3, 1) := by decide +kernel
theorem dX1_add_38 : decode cX1_add 38 = .ok (.iastore, 1) := by decide +kernel
theorem dX1_add_39 : decode cX1_add 39 = .ok (.aload_n 0, 1) := by decide +kernel
theorem dX1_add_40 : decode cX1_add 40 = .ok (.getfield 21, 3) := by decide +kernel
theorem dX1_add_43 : decode cX1_add 43 = .ok (.iload 5, 2) := by decide +kernel
theorem dX1_add_45 : decode cX1_add 45 = .ok (.iload 4, 2) := by decide +kernel
theorem dX1_add_47 : decode cX1_add 47 = .ok (.bastore, 1) := by decide +kernel
theorem dX1_add_48 : decode cX1_add 48 = .ok (.aload_n 0, 1) := by decide +kernel
theorem dX1_add_49 : decode cX1_add 49 = .ok (.iload 5, 2) := by decide +kernel
theorem dX1_add_51 : decode cX1_add 51 = .ok (.iconst 1, 1) := by decide +kernel
theorem dX1_add_52 : decode cX1_add 52 = .ok (.iadd, 1) := by decide +kernel
theorem dX1_add_53 : decode cX1_add 53 = .ok (.putfield 38, 3) := by decide +kernel
theorem dX1_add_56 : decode cX1_add 56 = .ok (.iload 5, 2) := by decide +kernel
theorem dX1_add_58 : decode cX1_add 58 = .ok (.ireturn, 1) := by decide +kernel
set_option maxRecDepth 20000 in
theorem ggX1_isBefore_X1_holds : GoodIn wsX1_isBefore wsX1_holds := goodIn_r _ [6, 7, 14, 15, 16, 17, 18, 19, 20, 21, 22] (by decide +kernel) (by decide +kernel)
set_option maxRecDepth 20000 in
theorem gX1_isBefore_X1_holds : GoodIn wsX1_isBefore (wsV RX1 42 RX1 yX1_holds wsX1_holds) := goodIn_app (goodIn_of _ (by decide +kernel)) ggX1_isBefore_X1_holds
set_option maxRecDepth 20000 in
theorem ggX1_isBefore_X4_hasBit : GoodIn wsX1_isBefore wsX4_hasBit := goodIn_r _ [10, 11, 12, 9, 13] (by decide +kernel) (by decide +kernel)
set_option maxRecDepth 20000 in
theorem gX1_isBefore_X4_hasBit_n46 : GoodIn wsX1_isBefore (wsX4_hasBit) := ggX1_isBefore_X4_hasBit
theorem dX1_isBefore_0 : decode cX1_isBefore 0 = .ok (.aload_n 0, 1) := by decide +kernel
theorem dX1_isBefore_1 : decode cX1_isBefore 1 = .ok (.iload_n 2, 1) := by decide +kernel
theorem dX1_isBefore_2 : decode cX1_isBefore 2 = .ok (.invokevirtual 42, 3) := by decide +kernel
theorem dX1_isBefore_5 : decode cX1_isBefore 5 = .ok (.ifCond .eq 20, 3) := by decide +kernel
theorem dX1_isBefore_8 : decode cX1_isBefore 8 = .ok (.aload_n 0, 1) := by decide +kernel
theorem dX1_isBefore_9 : decode cX1_isBefore 9 = .ok (.getfield 28, 3) := by decide +kernel
theorem dX1_isBefore_12 : decode cX1_isBefore 12 = .ok (.iload_n 2, 1) := by decide +kernel
theorem dX1_isBefore_13 : decode cX1_isBefore 13 = .ok (.iaload, 1) := by decide +kernel
theorem dX1_isBefore_14 : decode cX1_isBefore 14 = .ok (.iload_n 1, 1) := by decide +kernel
theorem dX1_isBefore_15 : decode cX1_isBefore 15 = .ok (.invokestatic 46, 3) := by decide +kernel
theorem dX1_isBefore_18 : decode cX1_isBefore 18 = .ok (.ifCond .eq 7, 3) := by decide +kernel
theorem dX1_isBefore_21 : decode cX1_isBefore 21 = .ok (.iconst 1, 1) := by decide +kernel
theorem dX1_isBefore_22 : decode cX1_isBefore 22 = .ok (.goto 4, 3) := by decide +kernel
theorem dX1_isBefore_25 : decode cX1_isBefore 25 = .ok (.iconst 0, 1) := by decide +kernel
theorem dX1_isBefore_26 : decode cX1_isBefore 26 = .ok (.ireturn, 1) := by decide +kernel
set_option maxRecDepth 20000 in
theorem ggX1_at_X1_holds : GoodIn wsX1_at wsX1_holds := goodIn_r _ [6, 7, 8, 9, 10, 11, 12, 13, 14, 15, 16] (by decide +kernel) (by decide +kernel)
set_option maxRecDepth 20000 in
theorem gX1_at_X1_holds : GoodIn wsX1_at (wsV RX1 42 RX1 yX1_holds wsX1_holds) := goodIn_app (goodIn_of _ (by decide +kernel)) ggX1_at_X1_holds
theorem dX1_at_0 : decode cX1_at 0 = .ok (.aload_n 0, 1) := by decide +kernel
theorem dX1_at_1 : decode cX1_at 1 = .ok (.iload_n 1, 1) := by decide +kernel
theorem dX1_at_2 : decode cX1_at 2 = .ok (.invokevirtual 42, 3) := by decide +kernel
theorem dX1_at_5 : decode cX1_at 5 = .ok (.ifCond .eq 12, 3) := by decide +kernel
theorem dX1_at_8 : decode cX1_at 8 = .ok (.aload_n 0, 1) := by decide +kernel
theorem dX1_at_9 : decode cX1_at 9 = .ok (.getfield 31, 3) := by decide +kernel
theorem dX1_at_12 : decode cX1_at 12 = .ok (.iload_n 1, 1) := by decide +kernel
theorem dX1_at_13 : decode cX1_at 13 = .ok (.iaload, 1) := by decide +kernel
theorem dX1_at_14 : decode cX1_at 14 = .ok (.goto 4, 3) := by decide +kernel
theorem dX1_at_17 : decode cX1_at 17 = .ok (.iconst (-1), 1) := by decide +kernel
theorem dX1_at_18 : decode cX1_at 18 = .ok (.ireturn, 1) := by decide +kernel
set_option maxRecDepth 20000 in
theorem ggX1_weigh_X1_holds : GoodIn wsX1_weigh wsX1_holds := goodIn_r _ [6, 7, 8, 9, 10, 11, 12, 13, 14, 15, 16] (by decide +kernel) (by decide +kernel)
set_option maxRecDepth 20000 in
theorem gX1_weigh_X1_holds : GoodIn wsX1_weigh (wsV RX1 42 RX1 yX1_holds wsX1_holds) := goodIn_app (goodIn_of _ (by decide +kernel)) ggX1_weigh_X1_holds
theorem dX1_weigh_0 : decode cX1_weigh 0 = .ok (.aload_n 0, 1) := by decide +kernel
theorem dX1_weigh_1 : decode cX1_weigh 1 = .ok (.iload_n 1, 1) := by decide +kernel
theorem dX1_weigh_2 : decode cX1_weigh 2 = .ok (.invokevirtual 42, 3) := by decide +kernel
theorem dX1_weigh_5 : decode cX1_weigh 5 = .ok (.ifCond .ne 5, 3) := by decide +kernel
theorem dX1_weigh_8 : decode cX1_weigh 8 = .ok (.iconst 0, 1) := by decide +kernel
theorem dX1_weigh_9 : decode cX1_weigh 9 = .ok (.ireturn, 1) := by decide +kernel
theorem dX1_weigh_10 : decode cX1_weigh 10 = .ok (.aload_n 0, 1) := by decide +kernel
theorem dX1_weigh_11 : decode cX1_weigh 11 = .ok (.getfield 25, 3) := by decide +kernel
theorem dX1_weigh_14 : decode cX1_weigh 14 = .ok (.iload_n 1, 1) := by decide +kernel
theorem dX1_weigh_15 : decode cX1_weigh 15 = .ok (.dup2, 1) := by decide +kernel
theorem dX1_weigh_16 : decode cX1_weigh 16 = .ok (.iaload, 1) := by decide +kernel
theorem dX1_weigh_17 : decode cX1_weigh 17 = .ok (.iload_n 2, 1) := by decide +kernel
theorem dX1_weigh_18 : decode cX1_weigh 18 = .ok (.iadd, 1) := by decide +kernel
theorem dX1_weigh_19 : decode cX1_weigh 19 = .ok (.iastore, 1) := by decide +kernel
theorem dX1_weigh_20 : decode cX1_weigh 20 = .ok (.aload_n 0, 1) := by decide +kernel
theorem dX1_weigh_21 : decode cX1_weigh 21 = .ok (.getfield 25, 3) := by decide +kernel
theorem dX1_weigh_24 : decode cX1_weigh 24 = .ok (.iload_n 1, 1) := by decide +kernel
theorem dX1_weigh_25 : decode cX1_weigh 25 = .ok (.iaload, 1) := by decide +kernel
theorem dX1_weigh_26 : decode cX1_weigh 26 = .ok (.ireturn, 1) := by decide +kernel
set_option maxRecDepth 20000 in
theorem ggX1_isDoubted_X1_holds : GoodIn wsX1_isDoubted wsX1_holds := goodIn_r _ [6, 7, 8, 9, 10, 11, 12, 13, 14, 15, 16] (by decide +kernel) (by decide +kernel)
set_option maxRecDepth 20000 in
theorem gX1_isDoubted_X1_holds : GoodIn wsX1_isDoubted (wsV RX1 42 RX1 yX1_holds wsX1_holds) := goodIn_app (goodIn_of _ (by decide +kernel)) ggX1_isDoubted_X1_holds
theorem dX1_isDoubted_0 : decode cX1_isDoubted 0 = .ok (.aload_n 0, 1) := by decide +kernel
theorem dX1_isDoubted_1 : decode cX1_isDoubted 1 = .ok (.iload_n 1, 1) := by decide +kernel
theorem dX1_isDoubted_2 : decode cX1_isDoubted 2 = .ok (.invokevirtual 42, 3) := by decide +kernel
theorem dX1_isDoubted_5 : decode cX1_isDoubted 5 = .ok (.ifCond .eq 16, 3) := by decide +kernel
theorem dX1_isDoubted_8 : decode cX1_isDoubted 8 = .ok (.aload_n 0, 1) := by decide +kernel
theorem dX1_isDoubted_9 : decode cX1_isDoubted 9 = .ok (.getfield 25, 3) := by decide +kernel
theorem dX1_isDoubted_12 : decode cX1_isDoubted 12 = .ok (.iload_n 1, 1) := by decide +kernel
theorem dX1_isDoubted_13 : decode cX1_isDoubted 13 = .ok (.iaload, 1) := by decide +kernel
theorem dX1_isDoubted_14 : decode cX1_isDoubted 14 = .ok (.ifCond .ge 7, 3) := by decide +kernel
theorem dX1_isDoubted_17 : decode cX1_isDoubted 17 = .ok (.iconst 1, 1) := by decide +kernel
theorem dX1_isDoubted_18 : decode cX1_isDoubted 18 = .ok (.goto 4, 3) := by decide +kernel
theorem dX1_isDoubted_21 : decode cX1_isDoubted 21 = .ok (.iconst 0, 1) := by decide +kernel
theorem dX1_isDoubted_22 : decode cX1_isDoubted 22 = .ok (.ireturn, 1) := by decide +kernel
set_option maxRecDepth 20000 in
theorem ggX1_earliestTime_X1_holds : GoodIn wsX1_earliestTime wsX1_holds := goodIn_r _ [9, 10, 24, 25, 26, 27, 28, 29, 30, 31, 32] (by decide +kernel) (by decide +kernel)
set_option maxRecDepth 20000 in
theorem gX1_earliestTime_X1_holds : GoodIn wsX1_earliestTime (wsV RX1 42 RX1 yX1_holds wsX1_holds) := goodIn_app (goodIn_of _ (by decide +kernel)) ggX1_earliestTime_X1_holds
set_option maxRecDepth 20000 in
theorem ggX1_earliestTime_X3_most : GoodIn wsX1_earliestTime wsX3_most := goodIn_r _ [15, 16, 17, 18, 19, 20, 21, 22, 23, 33] (by decide +kernel) (by decide +kernel)
set_option maxRecDepth 20000 in
theorem gX1_earliestTime_X3_most : GoodIn wsX1_earliestTime (wsV RX1 51 RX3 yX3_most wsX3_most) := goodIn_app (goodIn_of _ (by decide +kernel)) ggX1_earliestTime_X3_most
theorem dX1_earliestTime_0 : decode cX1_earliestTime 0 = .ok (.aload_n 0, 1) := by decide +kernel
theorem dX1_earliestTime_1 : decode cX1_earliestTime 1 = .ok (.iload_n 1, 1) := by decide +kernel
theorem dX1_earliestTime_2 : decode cX1_earliestTime 2 = .ok (.invokevirtual 42, 3) := by decide +kernel
theorem dX1_earliestTime_5 : decode cX1_earliestTime 5 = .ok (.ifCond .ne 6, 3) := by decide +kernel
theorem dX1_earliestTime_8 : decode cX1_earliestTime 8 = .ok (.ldc 50, 2) := by decide +kernel
theorem dX1_earliestTime_10 : decode cX1_earliestTime 10 = .ok (.ireturn, 1) := by decide +kernel
theorem dX1_earliestTime_11 : decode cX1_earliestTime 11 = .ok (.aload_n 2, 1) := by decide +kernel
theorem dX1_earliestTime_12 : decode cX1_earliestTime 12 = .ok (.iconst 0, 1) := by decide +kernel
theorem dX1_earliestTime_13 : decode cX1_earliestTime 13 = .ok (.aload_n 0, 1) := by decide +kernel
theorem dX1_earliestTime_14 : decode cX1_earliestTime 14 = .ok (.getfield 9, 3) := by decide +kernel
theorem dX1_earliestTime_17 : decode cX1_earliestTime 17 = .ok (.iload_n 1, 1) := by decide +kernel
theorem dX1_earliestTime_18 : decode cX1_earliestTime 18 = .ok (.iaload, 1) := by decide +kernel
theorem dX1_earliestTime_19 : decode cX1_earliestTime 19 = .ok (.invokevirtual 51, 3) := by decide +kernel
theorem dX1_earliestTime_22 : decode cX1_earliestTime 22 = .ok (.istore_n 3, 1) := by decide +kernel
theorem dX1_earliestTime_23 : decode cX1_earliestTime 23 = .ok (.iload_n 3, 1) := by decide +kernel
theorem dX1_earliestTime_24 : decode cX1_earliestTime 24 = .ok (.ldc 57, 2) := by decide +kernel
theorem dX1_earliestTime_26 : decode cX1_earliestTime 26 = .ok (.if_icmp .ge 14, 3) := by decide +kernel
theorem dX1_earliestTime_29 : decode cX1_earliestTime 29 = .ok (.aload_n 0, 1) := by decide +kernel
theorem dX1_earliestTime_30 : decode cX1_earliestTime 30 = .ok (.getfield 15, 3) := by decide +kernel
theorem dX1_earliestTime_33 : decode cX1_earliestTime 33 = .ok (.iload_n 1, 1) := by decide +kernel
theorem dX1_earliestTime_34 : decode cX1_earliestTime 34 = .ok (.iaload, 1) := by decide +kernel
theorem dX1_earliestTime_35 : decode cX1_earliestTime 35 = .ok (.iload_n 3, 1) := by decide +kernel
theorem dX1_earliestTime_36 : decode cX1_earliestTime 36 = .ok (.isub, 1) := by decide +kernel
theorem dX1_earliestTime_37 : decode cX1_earliestTime 37 = .ok (.goto 5, 3) := by decide +kernel
theorem dX1_earliestTime_40 : decode cX1_earliestTime 40 = .ok (.ldc 50, 2) := by decide +kernel
theorem dX1_earliestTime_42 : decode cX1_earliestTime 42 = .ok (.ireturn, 1) := by decide +kernel
set_option maxRecDepth 20000 in
theorem ggX1_firstLine_X1_at : GoodIn wsX1_firstLine wsX1_at := goodIn_r _ [7, 8, 9, 10, 11, 6, 12, 1, 13, 14, 15, 16, 17, 18, 19, 20, 21] (by decide +kernel) (by decide +kernel)
set_option maxRecDepth 20000 in
theorem gX1_firstLine_X1_at : GoodIn wsX1_firstLine (wsV RX1 58 RX1 yX1_at wsX1_at) := goodIn_app (goodIn_of _ (by decide +kernel)) ggX1_firstLine_X1_at
set_option maxRecDepth 20000 in
theorem ggX1_firstLine_X1_holds : GoodIn wsX1_firstLine wsX1_holds := goodIn_r _ [12, 1, 13, 14, 15, 16, 17, 18, 19, 20, 21] (by decide +kernel) (by decide +kernel)
set_option maxRecDepth 20000 in
theorem gX1_firstLine_X1_holds : GoodIn wsX1_firstLine (wsV RX1 42 RX1 yX1_holds wsX1_holds) := goodIn_app (goodIn_of _ (by decide +kernel)) ggX1_firstLine_X1_holds
theorem dX1_firstLine_0 : decode cX1_firstLine 0 = .ok (.iconst 0, 1) := by decide +kernel
theorem dX1_firstLine_1 : decode cX1_firstLine 1 = .ok (.istore_n 2, 1) := by decide +kernel
theorem dX1_firstLine_2 : decode cX1_firstLine 2 = .ok (.iload_n 2, 1) := by decide +kernel
theorem dX1_firstLine_3 : decode cX1_firstLine 3 = .ok (.aload_n 0, 1) := by decide +kernel
theorem dX1_firstLine_4 : decode cX1_firstLine 4 = .ok (.getfield 38, 3) := by decide +kernel
theorem dX1_firstLine_7 : decode cX1_firstLine 7 = .ok (.if_icmp .ge 35, 3) := by decide +kernel
theorem dX1_firstLine_10 : decode cX1_firstLine 10 = .ok (.aload_n 0, 1) := by decide +kernel
theorem dX1_firstLine_11 : decode cX1_firstLine 11 = .ok (.iload_n 2, 1) := by decide +kernel
theorem dX1_firstLine_12 : decode cX1_firstLine 12 = .ok (.invokevirtual 58, 3) := by decide +kernel
theorem dX1_firstLine_15 : decode cX1_firstLine 15 = .ok (.istore_n 3, 1) := by decide +kernel
theorem dX1_firstLine_16 : decode cX1_firstLine 16 = .ok (.aload_n 0, 1) := by decide +kernel
theorem dX1_firstLine_17 : decode cX1_firstLine 17 = .ok (.iload_n 3, 1) := by decide +kernel
theorem dX1_firstLine_18 : decode cX1_firstLine 18 = .ok (.invokevirtual 42, 3) := by decide +kernel
theorem dX1_firstLine_21 : decode cX1_firstLine 21 = .ok (.ifCond .eq 15, 3) := by decide +kernel
theorem dX1_firstLine_24 : decode cX1_firstLine 24 = .ok (.aload_n 0, 1) := by decide +kernel
theorem dX1_firstLine_25 : decode cX1_firstLine 25 = .ok (.getfield 18, 3) := by decide +kernel
theorem dX1_firstLine_28 : decode cX1_firstLine 28 = .ok (.iload_n 3, 1) := by decide +kernel
theorem dX1_firstLine_29 : decode cX1_firstLine 29 = .ok (.iaload, 1) := by decide +kernel
theorem dX1_firstLine_30 : decode cX1_firstLine 30 = .ok (.iload_n 1, 1) := by decide +kernel
theorem dX1_firstLine_31 : decode cX1_firstLine 31 = .ok (.if_icmp .ne 5, 3) := by decide +kernel
theorem dX1_firstLine_34 : decode cX1_firstLine 34 = .ok (.iload_n 3, 1) := by decide +kernel
theorem dX1_firstLine_35 : decode cX1_firstLine 35 = .ok (.ireturn, 1) := by decide +kernel
theorem dX1_firstLine_36 : decode cX1_firstLine 36 = .ok (.iinc 2 1, 3) := by decide +kernel
theorem dX1_firstLine_39 : decode cX1_firstLine 39 = .ok (.goto (-37), 3) := by decide +kernel
theorem dX1_firstLine_42 : decode cX1_firstLine 42 = .ok (.iconst (-1), 1) := by decide +kernel
theorem dX1_firstLine_43 : decode cX1_firstLine 43 = .ok (.ireturn, 1) := by decide +kernel
set_option maxRecDepth 20000 in
theorem ggX1_storySize_X1_at : GoodIn wsX1_storySize wsX1_at := goodIn_r _ [6, 7, 8, 9, 10, 5, 11, 1, 18, 19, 20, 21, 22, 23, 24, 25, 26] (by decide +kernel) (by decide +kernel)
set_option maxRecDepth 20000 in
theorem gX1_storySize_X1_at : GoodIn wsX1_storySize (wsV RX1 58 RX1 yX1_at wsX1_at) := goodIn_app (goodIn_of _ (by decide +kernel)) ggX1_storySize_X1_at
set_option maxRecDepth 20000 in
theorem ggX1_storySize_X1_isInStory : GoodIn wsX1_storySize wsX1_isInStory := goodIn_r _ [15, 16, 17, 8, 9, 10, 5, 11, 1, 18, 19, 20, 21, 22, 23, 24, 25, 26] (by decide +kernel) (by decide +kernel)
set_option maxRecDepth 20000 in
theorem gX1_storySize_X1_isInStory : GoodIn wsX1_storySize (wsV RX1 62 RX1 yX1_isInStory wsX1_isInStory) := goodIn_app (goodIn_of _ (by decide +kernel)) ggX1_storySize_X1_isInStory
theorem dX1_storySize_0 : decode cX1_storySize 0 = .ok (.iconst 0, 1) := by decide +kernel
theorem dX1_storySize_1 : decode cX1_storySize 1 = .ok (.istore_n 1, 1) := by decide +kernel
theorem dX1_storySize_2 : decode cX1_storySize 2 = .ok (.iconst 0, 1) := by decide +kernel
theorem dX1_storySize_3 : decode cX1_storySize 3 = .ok (.istore_n 2, 1) := by decide +kernel
theorem dX1_storySize_4 : decode cX1_storySize 4 = .ok (.iload_n 2, 1) := by decide +kernel
theorem dX1_storySize_5 : decode cX1_storySize 5 = .ok (.aload_n 0, 1) := by decide +kernel
theorem dX1_storySize_6 : decode cX1_storySize 6 = .ok (.getfield 38, 3) := by decide +kernel
theorem dX1_storySize_9 : decode cX1_storySize 9 = .ok (.if_icmp .ge 24, 3) := by decide +kernel
theorem dX1_storySize_12 : decode cX1_storySize 12 = .ok (.aload_n 0, 1) := by decide +kernel
theorem dX1_storySize_13 : decode cX1_storySize 13 = .ok (.aload_n 0, 1) := by decide +kernel
theorem dX1_storySize_14 : decode cX1_storySize 14 = .ok (.iload_n 2, 1) := by decide +kernel
theorem dX1_storySize_15 : decode cX1_storySize 15 = .ok (.invokevirtual 58, 3) := by decide +kernel
theorem dX1_storySize_18 : decode cX1_storySize 18 = .ok (.invokevirtual 62, 3) := by decide +kernel
theorem dX1_storySize_21 : decode cX1_storySize 21 = .ok (.ifCond .eq 6, 3) := by decide +kernel
theorem dX1_storySize_24 : decode cX1_storySize 24 = .ok (.iinc 1 1, 3) := by decide +kernel
theorem dX1_storySize_27 : decode cX1_storySize 27 = .ok (.iinc 2 1, 3) := by decide +kernel
theorem dX1_storySize_30 : decode cX1_storySize 30 = .ok (.goto (-26), 3) := by decide +kernel
theorem dX1_storySize_33 : decode cX1_storySize 33 = .ok (.iload_n 1, 1) := by decide +kernel
theorem dX1_storySize_34 : decode cX1_storySize 34 = .ok (.ireturn, 1) := by decide +kernel
set_option maxRecDepth 20000 in
theorem ggX1_storyLine_X1_at : GoodIn wsX1_storyLine wsX1_at := goodIn_r _ [6, 7, 8, 9, 10, 5, 11, 1, 18, 19, 20, 21, 22, 23, 24, 25, 26] (by decide +kernel) (by decide +kernel)
set_option maxRecDepth 20000 in
theorem gX1_storyLine_X1_at : GoodIn wsX1_storyLine (wsV RX1 58 RX1 yX1_at wsX1_at) := goodIn_app (goodIn_of _ (by decide +kernel)) ggX1_storyLine_X1_at
set_option maxRecDepth 20000 in
theorem ggX1_storyLine_X1_isInStory : GoodIn wsX1_storyLine wsX1_isInStory := goodIn_r _ [15, 16, 17, 8, 9, 10, 5, 11, 1, 18, 19, 20, 21, 22, 23, 24, 25, 26] (by decide +kernel) (by decide +kernel)
set_option maxRecDepth 20000 in
theorem gX1_storyLine_X1_isInStory : GoodIn wsX1_storyLine (wsV RX1 62 RX1 yX1_isInStory wsX1_isInStory) := goodIn_app (goodIn_of _ (by decide +kernel)) ggX1_storyLine_X1_isInStory
theorem dX1_storyLine_0 : decode cX1_storyLine 0 = .ok (.iconst 0, 1) := by decide +kernel
theorem dX1_storyLine_1 : decode cX1_storyLine 1 = .ok (.istore_n 2, 1) := by decide +kernel
theorem dX1_storyLine_2 : decode cX1_storyLine 2 = .ok (.iconst 0, 1) := by decide +kernel
theorem dX1_storyLine_3 : decode cX1_storyLine 3 = .ok (.istore_n 3, 1) := by decide +kernel
theorem dX1_storyLine_4 : decode cX1_storyLine 4 = .ok (.iload_n 3, 1) := by decide +kernel
theorem dX1_storyLine_5 : decode cX1_storyLine 5 = .ok (.aload_n 0, 1) := by decide +kernel
theorem dX1_storyLine_6 : decode cX1_storyLine 6 = .ok (.getfield 38, 3) := by decide +kernel
theorem dX1_storyLine_9 : decode cX1_storyLine 9 = .ok (.if_icmp .ge 36, 3) := by decide +kernel
theorem dX1_storyLine_12 : decode cX1_storyLine 12 = .ok (.aload_n 0, 1) := by decide +kernel
theorem dX1_storyLine_13 : decode cX1_storyLine 13 = .ok (.iload_n 3, 1) := by decide +kernel
theorem dX1_storyLine_14 : decode cX1_storyLine 14 = .ok (.invokevirtual 58, 3) := by decide +kernel
theorem dX1_storyLine_17 : decode cX1_storyLine 17 = .ok (.istore 4, 2) := by decide +kernel
theorem dX1_storyLine_19 : decode cX1_storyLine 19 = .ok (.aload_n 0, 1) := by decide +kernel
theorem dX1_storyLine_20 : decode cX1_storyLine 20 = .ok (.iload 4, 2) := by decide +kernel
theorem dX1_storyLine_22 : decode cX1_storyLine 22 = .ok (.invokevirtual 62, 3) := by decide +kernel
theorem dX1_storyLine_25 : decode cX1_storyLine 25 = .ok (.ifCond .eq 14, 3) := by decide +kernel
theorem dX1_storyLine_28 : decode cX1_storyLine 28 = .ok (.iload_n 2, 1) := by decide +kernel
theorem dX1_storyLine_29 : decode cX1_storyLine 29 = .ok (.iload_n 1, 1) := by decide +kernel
theorem dX1_storyLine_30 : decode cX1_storyLine 30 = .ok (.if_icmp .ne 6, 3) := by decide +kernel
theorem dX1_storyLine_33 : decode cX1_storyLine 33 = .ok (.iload 4, 2) := by decide +kernel
theorem dX1_storyLine_35 : decode cX1_storyLine 35 = .ok (.ireturn, 1) := by decide +kernel
theorem dX1_storyLine_36 : decode cX1_storyLine 36 = .ok (.iinc 2 1, 3) := by decide +kernel
theorem dX1_storyLine_39 : decode cX1_storyLine 39 = .ok (.iinc 3 1, 3) := by decide +kernel
theorem dX1_storyLine_42 : decode cX1_storyLine 42 = .ok (.goto (-38), 3) := by decide +kernel
theorem dX1_storyLine_45 : decode cX1_storyLine 45 = .ok (.iconst (-1), 1) := by decide +kernel
theorem dX1_storyLine_46 : decode cX1_storyLine 46 = .ok (.ireturn, 1) := by decide +kernel
set_option maxRecDepth 20000 in
theorem ggX1_isInStory_X1_holds : GoodIn wsX1_isInStory wsX1_holds := goodIn_r _ [7, 8, 9, 10, 11, 12, 13, 14, 15, 16, 17] (by decide +kernel) (by decide +kernel)
set_option maxRecDepth 20000 in
theorem gX1_isInStory_X1_holds : GoodIn wsX1_isInStory (wsV RX1 42 RX1 yX1_holds wsX1_holds) := goodIn_app (goodIn_of _ (by decide +kernel)) ggX1_isInStory_X1_holds
theorem dX1_isInStory_0 : decode cX1_isInStory 0 = .ok (.aload_n 0, 1) := by decide +kernel
theorem dX1_isInStory_1 : decode cX1_isInStory 1 = .ok (.iload_n 1, 1) := by decide +kernel
theorem dX1_isInStory_2 : decode cX1_isInStory 2 = .ok (.invokevirtual 42, 3) := by decide +kernel
theorem dX1_isInStory_5 : decode cX1_isInStory 5 = .ok (.ifCond .eq 25, 3) := by decide +kernel
theorem dX1_isInStory_8 : decode cX1_isInStory 8 = .ok (.aload_n 0, 1) := by decide +kernel
theorem dX1_isInStory_9 : decode cX1_isInStory 9 = .ok (.getfield 21, 3) := by decide +kernel
theorem dX1_isInStory_12 : decode cX1_isInStory 12 = .ok (.iload_n 1, 1) := by decide +kernel
theorem dX1_isInStory_13 : decode cX1_isInStory 13 = .ok (.baload, 1) := by decide +kernel
theorem dX1_isInStory_14 : decode cX1_isInStory 14 = .ok (.ifCond .eq 16, 3) := by decide +kernel
theorem dX1_isInStory_17 : decode cX1_isInStory 17 = .ok (.aload_n 0, 1) := by decide +kernel
theorem dX1_isInStory_18 : decode cX1_isInStory 18 = .ok (.getfield 25, 3) := by decide +kernel
theorem dX1_isInStory_21 : decode cX1_isInStory 21 = .ok (.iload_n 1, 1) := by decide +kernel
theorem dX1_isInStory_22 : decode cX1_isInStory 22 = .ok (.iaload, 1) := by decide +kernel
theorem dX1_isInStory_23 : decode cX1_isInStory 23 = .ok (.ifCond .lt 7, 3) := by decide +kernel
theorem dX1_isInStory_26 : decode cX1_isInStory 26 = .ok (.iconst 1, 1) := by decide +kernel
theorem dX1_isInStory_27 : decode cX1_isInStory 27 = .ok (.goto 4, 3) := by decide +kernel
theorem dX1_isInStory_30 : decode cX1_isInStory 30 = .ok (.iconst 0, 1) := by decide +kernel
theorem dX1_isInStory_31 : decode cX1_isInStory 31 = .ok (.ireturn, 1) := by decide +kernel
set_option maxRecDepth 20000 in
theorem ggX1_arrange_X1_allBefore : GoodIn wsX1_arrange wsX1_allBefore := goodIn_r _ [8, 1, 9, 10, 11, 7, 12, 13, 14, 15, 16, 17, 18, 19, 20, 21, 22, 23, 24, 25, 26, 27, 28, 29, 30, 31, 32, 33, 34, 42, 43, 44, 45, 46, 47, 48, 49, 50, 51] (by decide +kernel) (by decide +kernel)
set_option maxRecDepth 20000 in
theorem gX1_arrange_X1_allBefore : GoodIn wsX1_arrange (wsV RX1 65 RX1 yX1_allBefore wsX1_allBefore) := goodIn_app (goodIn_of _ (by decide +kernel)) ggX1_arrange_X1_allBefore
set_option maxRecDepth 20000 in
theorem ggX1_arrange_X4_bit : GoodIn wsX1_arrange wsX4_bit := goodIn_r _ [34] (by decide +kernel) (by decide +kernel)
set_option maxRecDepth 20000 in
theorem gX1_arrange_X4_bit_n69 : GoodIn wsX1_arrange (wsX4_bit) := ggX1_arrange_X4_bit
set_option maxRecDepth 20000 in
theorem ggX1_arrange_X1_nextLine : GoodIn wsX1_arrange wsX1_nextLine := goodIn_r _ [38, 1, 2, 39, 28, 40, 41, 33, 34, 42, 43, 44, 45, 46, 47, 48, 49, 50] (by decide +kernel) (by decide +kernel)
set_option maxRecDepth 20000 in
theorem gX1_arrange_X1_nextLine : GoodIn wsX1_arrange (wsV RX1 72 RX1 yX1_nextLine wsX1_nextLine) := goodIn_app (goodIn_of _ (by decide +kernel)) ggX1_arrange_X1_nextLine
theorem dX1_arrange_0 : decode cX1_arrange 0 = .ok (.iconst 0, 1) := by decide +kernel
theorem dX1_arrange_1 : decode cX1_arrange 1 = .ok (.istore_n 2, 1) := by decide +kernel
theorem dX1_arrange_2 : decode cX1_arrange 2 = .ok (.iload_n 2, 1) := by decide +kernel
theorem dX1_arrange_3 : decode cX1_arrange 3 = .ok (.aload_n 0, 1) := by decide +kernel
theorem dX1_arrange_4 : decode cX1_arrange 4 = .ok (.getfield 38, 3) := by decide +kernel
theorem dX1_arrange_7 : decode cX1_arrange 7 = .ok (.if_icmp .ge 27, 3) := by decide +kernel
theorem dX1_arrange_10 : decode cX1_arrange 10 = .ok (.iload_n 2, 1) := by decide +kernel
theorem dX1_arrange_11 : decode cX1_arrange 11 = .ok (.bipush 30, 2) := by decide +kernel
theorem dX1_arrange_13 : decode cX1_arrange 13 = .ok (.if_icmp .ge 21, 3) := by decide +kernel
theorem dX1_arrange_16 : decode cX1_arrange 16 = .ok (.aload_n 0, 1) := by decide +kernel
theorem dX1_arrange_17 : decode cX1_arrange 17 = .ok (.getfield 28, 3) := by decide +kernel
theorem dX1_arrange_20 : decode cX1_arrange 20 = .ok (.iload_n 2, 1) := by decide +kernel
theorem dX1_arrange_21 : decode cX1_arrange 21 = .ok (.aload_n 0, 1) := by decide +kernel
theorem dX1_arrange_22 : decode cX1_arrange 22 = .ok (.iload_n 2, 1) := by decide +kernel
theorem dX1_arrange_23 : decode cX1_arrange 23 = .ok (.aload_n 1, 1) := by decide +kernel
theorem dX1_arrange_24 : decode cX1_arrange 24 = .ok (.invokevirtual 65, 3) := by decide +kernel
theorem dX1_arrange_27 : decode cX1_arrange 27 = .ok (.iastore, 1) := by decide +kernel
theorem dX1_arrange_28 : decode cX1_arrange 28 = .ok (.iinc 2 1, 3) := by decide +kernel
theorem dX1_arrange_31 : decode cX1_arrange 31 = .ok (.goto (-29), 3) := by decide +kernel
theorem dX1_arrange_34 : decode cX1_arrange 34 = .ok (.aload_n 0, 1) := by decide +kernel
theorem dX1_arrange_35 : decode cX1_arrange 35 = .ok (.getfield 38, 3) := by decide +kernel
theorem dX1_arrange_38 : decode cX1_arrange 38 = .ok (.invokestatic 69, 3) := by decide +kernel
theorem dX1_arrange_41 : decode cX1_arrange 41 = .ok (.iconst 1, 1) := by decide +kernel
theorem dX1_arrange_42 : decode cX1_arrange 42 = .ok (.isub, 1) := by decide +kernel
theorem dX1_arrange_43 : decode cX1_arrange 43 = .ok (.istore_n 2, 1) := by decide +kernel
theorem dX1_arrange_44 : decode cX1_arrange 44 = .ok (.iconst 0, 1) := by decide +kernel
theorem dX1_arrange_45 : decode cX1_arrange 45 = .ok (.istore_n 3, 1) := by decide +kernel
theorem dX1_arrange_46 : decode cX1_arrange 46 = .ok (.iload_n 3, 1) := by decide +kernel
theorem dX1_arrange_47 : decode cX1_arrange 47 = .ok (.aload_n 0, 1) := by decide +kernel
theorem dX1_arrange_48 : decode cX1_arrange 48 = .ok (.getfield 38, 3) := by decide +kernel
theorem dX1_arrange_51 : decode cX1_arrange 51 = .ok (.if_icmp .ge 40, 3) := by decide +kernel
theorem dX1_arrange_54 : decode cX1_arrange 54 = .ok (.iload_n 3, 1) := by decide +kernel
theorem dX1_arrange_55 : decode cX1_arrange 55 = .ok (.bipush 30, 2) := by decide +kernel
theorem dX1_arrange_57 : decode cX1_arrange 57 = .ok (.if_icmp .ge 34, 3) := by decide +kernel
theorem dX1_arrange_60 : decode cX1_arrange 60 = .ok (.aload_n 0, 1) := by decide +kernel
theorem dX1_arrange_61 : decode cX1_arrange 61 = .ok (.getfield 31, 3) := by decide +kernel
theorem dX1_arrange_64 : decode cX1_arrange 64 = .ok (.iload_n 3, 1) := by decide +kernel
theorem dX1_arrange_65 : decode cX1_arrange 65 = .ok (.aload_n 0, 1) := by decide +kernel
theorem dX1_arrange_66 : decode cX1_arrange 66 = .ok (.iload_n 2, 1) := by decide +kernel
theorem dX1_arrange_67 : decode cX1_arrange 67 = .ok (.invokevirtual 72, 3) := by decide +kernel
theorem dX1_arrange_70 : decode cX1_arrange 70 = .ok (.iastore, 1) := by decide +kernel
theorem dX1_arrange_71 : decode cX1_arrange 71 = .ok (.iload_n 2, 1) := by decide +kernel
theorem dX1_arrange_72 : decode cX1_arrange 72 = .ok (.aload_n 0, 1) := by decide +kernel
theorem dX1_arrange_73 : decode cX1_arrange 73 = .ok (.getfield 31, 3) := by decide +kernel
theorem dX1_arrange_76 : decode cX1_arrange 76 = .ok (.iload_n 3, 1) := by decide +kernel
theorem dX1_arrange_77 : decode cX1_arrange 77 = .ok (.iaload, 1) := by decide +kernel
theorem dX1_arrange_78 : decode cX1_arrange 78 = .ok (.invokestatic 69, 3) := by decide +kernel
theorem dX1_arrange_81 : decode cX1_arrange 81 = .ok (.iconst (-1), 1) := by decide +kernel
theorem dX1_arrange_82 : decode cX1_arrange 82 = .ok (.ixor, 1) := by decide +kernel
theorem dX1_arrange_83 : decode cX1_arrange 83 = .ok (.iand, 1) := by decide +kernel
theorem dX1_arrange_84 : decode cX1_arrange 84 = .ok (.istore_n 2, 1) := by decide +kernel
theorem dX1_arrange_85 : decode cX1_arrange 85 = .ok (.iinc 3 1, 3) := by decide +kernel
theorem dX1_arrange_88 : decode cX1_arrange 88 = .ok (.goto (-42), 3) := by decide +kernel
theorem dX1_arrange_91 : decode cX1_arrange 91 = .ok (.return_, 1) := by decide +kernel
set_option maxRecDepth 20000 in
theorem ggX1_allBefore_X1_isSurelyEarlier : GoodIn wsX1_allBefore wsX1_isSurelyEarlier := goodIn_r _ [6, 7, 8, 9, 10, 11, 12, 5, 13, 1, 14, 15, 16, 17, 18, 19, 20, 21, 22, 23, 24, 25, 26, 29, 30, 31, 32, 33, 34, 35, 36, 37, 38] (by decide +kernel) (by decide +kernel)
set_option maxRecDepth 20000 in
theorem gX1_allBefore_X1_isSurelyEarlier : GoodIn wsX1_allBefore (wsV RX1 75 RX1 yX1_isSurelyEarlier wsX1_isSurelyEarlier) := goodIn_app (goodIn_of _ (by decide +kernel)) ggX1_allBefore_X1_isSurelyEarlier
set_option maxRecDepth 20000 in
theorem ggX1_allBefore_X4_bit : GoodIn wsX1_allBefore wsX4_bit := goodIn_r _ [28] (by decide +kernel) (by decide +kernel)
set_option maxRecDepth 20000 in
theorem gX1_allBefore_X4_bit_n69 : GoodIn wsX1_allBefore (wsX4_bit) := ggX1_allBefore_X4_bit
theorem dX1_allBefore_0 : decode cX1_allBefore 0 = .ok (.iconst 0, 1) := by decide +kernel
theorem dX1_allBefore_1 : decode cX1_allBefore 1 = .ok (.istore_n 3, 1) := by decide +kernel
theorem dX1_allBefore_2 : decode cX1_allBefore 2 = .ok (.iconst 0, 1) := by decide +kernel
theorem dX1_allBefore_3 : decode cX1_allBefore 3 = .ok (.istore 4, 2) := by decide +kernel
theorem dX1_allBefore_5 : decode cX1_allBefore 5 = .ok (.iload 4, 2) := by decide +kernel
theorem dX1_allBefore_7 : decode cX1_allBefore 7 = .ok (.aload_n 0, 1) := by decide +kernel
theorem dX1_allBefore_8 : decode cX1_allBefore 8 = .ok (.getfield 38, 3) := by decide +kernel
theorem dX1_allBefore_11 : decode cX1_allBefore 11 = .ok (.if_icmp .ge 28, 3) := by decide +kernel
theorem dX1_allBefore_14 : decode cX1_allBefore 14 = .ok (.aload_n 0, 1) := by decide +kernel
theorem dX1_allBefore_15 : decode cX1_allBefore 15 = .ok (.iload 4, 2) := by decide +kernel
theorem dX1_allBefore_17 : decode cX1_allBefore 17 = .ok (.iload_n 1, 1) := by decide +kernel
theorem dX1_allBefore_18 : decode cX1_allBefore 18 = .ok (.aload_n 2, 1) := by decide +kernel
theorem dX1_allBefore_19 : decode cX1_allBefore 19 = .ok (.invokevirtual 75, 3) := by decide +kernel
theorem dX1_allBefore_22 : decode cX1_allBefore 22 = .ok (.ifCond .eq 11, 3) := by decide +kernel
theorem dX1_allBefore_25 : decode cX1_allBefore 25 = .ok (.iload_n 3, 1) := by decide +kernel
theorem dX1_allBefore_26 : decode cX1_allBefore 26 = .ok (.iload 4, 2) := by decide +kernel
theorem dX1_allBefore_28 : decode cX1_allBefore 28 = .ok (.invokestatic 69, 3) := by decide +kernel
theorem dX1_allBefore_31 : decode cX1_allBefore 31 = .ok (.ior, 1) := by decide +kernel
theorem dX1_allBefore_32 : decode cX1_allBefore 32 = .ok (.istore_n 3, 1) := by decide +kernel
theorem dX1_allBefore_33 : decode cX1_allBefore 33 = .ok (.iinc 4 1, 3) := by decide +kernel
theorem dX1_allBefore_36 : decode cX1_allBefore 36 = .ok (.goto (-31), 3) := by decide +kernel
theorem dX1_allBefore_39 : decode cX1_allBefore 39 = .ok (.iload_n 3, 1) := by decide +kernel
theorem dX1_allBefore_40 : decode cX1_allBefore 40 = .ok (.ireturn, 1) := by decide +kernel
set_option maxRecDepth 20000 in
theorem ggX1_isSurelyEarlier_X1_holds : GoodIn wsX1_isSurelyEarlier wsX1_holds := goodIn_r _ [8, 9, 23, 24, 25, 26, 27, 28, 29, 30, 31] (by decide +kernel) (by decide +kernel)
set_option maxRecDepth 20000 in
theorem gX1_isSurelyEarlier_X1_holds : GoodIn wsX1_isSurelyEarlier (wsV RX1 42 RX1 yX1_holds wsX1_holds) := goodIn_app (goodIn_of _ (by decide +kernel)) ggX1_isSurelyEarlier_X1_holds
set_option maxRecDepth 20000 in
theorem ggX1_isSurelyEarlier_X3_most : GoodIn wsX1_isSurelyEarlier wsX3_most := goodIn_r _ [14, 15, 16, 17, 18, 19, 20, 21, 22, 32] (by decide +kernel) (by decide +kernel)
set_option maxRecDepth 20000 in
theorem gX1_isSurelyEarlier_X3_most : GoodIn wsX1_isSurelyEarlier (wsV RX1 51 RX3 yX3_most wsX3_most) := goodIn_app (goodIn_of _ (by decide +kernel)) ggX1_isSurelyEarlier_X3_most
theorem dX1_isSurelyEarlier_0 : decode cX1_isSurelyEarlier 0 = .ok (.aload_n 0, 1) := by decide +kernel
theorem dX1_isSurelyEarlier_1 : decode cX1_isSurelyEarlier 1 = .ok (.iload_n 1, 1) := by decide +kernel
theorem dX1_isSurelyEarlier_2 : decode cX1_isSurelyEarlier 2 = .ok (.invokevirtual 42, 3) := by decide +kernel
theorem dX1_isSurelyEarlier_5 : decode cX1_isSurelyEarlier 5 = .ok (.ifCond .eq 11, 3) := by decide +kernel
theorem dX1_isSurelyEarlier_8 : decode cX1_isSurelyEarlier 8 = .ok (.aload_n 0, 1) := by decide +kernel
theorem dX1_isSurelyEarlier_9 : decode cX1_isSurelyEarlier 9 = .ok (.iload_n 2, 1) := by decide +kernel
theorem dX1_isSurelyEarlier_10 : decode cX1_isSurelyEarlier 10 = .ok (.invokevirtual 42, 3) := by decide +kernel
theorem dX1_isSurelyEarlier_13 : decode cX1_isSurelyEarlier 13 = .ok (.ifCond .ne 5, 3) := by decide +kernel
theorem dX1_isSurelyEarlier_16 : decode cX1_isSurelyEarlier 16 = .ok (.iconst 0, 1) := by decide +kernel
theorem dX1_isSurelyEarlier_17 : decode cX1_isSurelyEarlier 17 = .ok (.ireturn, 1) := by decide +kernel
theorem dX1_isSurelyEarlier_18 : decode cX1_isSurelyEarlier 18 = .ok (.aload_n 3, 1) := by decide +kernel
theorem dX1_isSurelyEarlier_19 : decode cX1_isSurelyEarlier 19 = .ok (.aload_n 0, 1) := by decide +kernel
theorem dX1_isSurelyEarlier_20 : decode cX1_isSurelyEarlier 20 = .ok (.getfield 9, 3) := by decide +kernel
theorem dX1_isSurelyEarlier_23 : decode cX1_isSurelyEarlier 23 = .ok (.iload_n 1, 1) := by decide +kernel
theorem dX1_isSurelyEarlier_24 : decode cX1_isSurelyEarlier 24 = .ok (.iaload, 1) := by decide +kernel
theorem dX1_isSurelyEarlier_25 : decode cX1_isSurelyEarlier 25 = .ok (.aload_n 0, 1) := by decide +kernel
theorem dX1_isSurelyEarlier_26 : decode cX1_isSurelyEarlier 26 = .ok (.getfield 9, 3) := by decide +kernel
theorem dX1_isSurelyEarlier_29 : decode cX1_isSurelyEarlier 29 = .ok (.iload_n 2, 1) := by decide +kernel
theorem dX1_isSurelyEarlier_30 : decode cX1_isSurelyEarlier 30 = .ok (.iaload, 1) := by decide +kernel
theorem dX1_isSurelyEarlier_31 : decode cX1_isSurelyEarlier 31 = .ok (.invokevirtual 51, 3) := by decide +kernel
theorem dX1_isSurelyEarlier_34 : decode cX1_isSurelyEarlier 34 = .ok (.istore 4, 2) := by decide +kernel
theorem dX1_isSurelyEarlier_36 : decode cX1_isSurelyEarlier 36 = .ok (.iload 4, 2) := by decide +kernel
theorem dX1_isSurelyEarlier_38 : decode cX1_isSurelyEarlier 38 = .ok (.ldc 57, 2) := by decide +kernel
theorem dX1_isSurelyEarlier_40 : decode cX1_isSurelyEarlier 40 = .ok (.if_icmp .ge 25, 3) := by decide +kernel
theorem dX1_isSurelyEarlier_43 : decode cX1_isSurelyEarlier 43 = .ok (.aload_n 0, 1) := by decide +kernel
theorem dX1_isSurelyEarlier_44 : decode cX1_isSurelyEarlier 44 = .ok (.getfield 15, 3) := by decide +kernel
theorem dX1_isSurelyEarlier_47 : decode cX1_isSurelyEarlier 47 = .ok (.iload_n 1, 1) := by decide +kernel
theorem dX1_isSurelyEarlier_48 : decode cX1_isSurelyEarlier 48 = .ok (.iaload, 1) := by decide +kernel
theorem dX1_isSurelyEarlier_49 : decode cX1_isSurelyEarlier 49 = .ok (.iload 4, 2) := by decide +kernel
theorem dX1_isSurelyEarlier_51 : decode cX1_isSurelyEarlier 51 = .ok (.iadd, 1) := by decide +kernel
theorem dX1_isSurelyEarlier_52 : decode cX1_isSurelyEarlier 52 = .ok (.aload_n 0, 1) := by decide +kernel
theorem dX1_isSurelyEarlier_53 : decode cX1_isSurelyEarlier 53 = .ok (.getfield 15, 3) := by decide +kernel
theorem dX1_isSurelyEarlier_56 : decode cX1_isSurelyEarlier 56 = .ok (.iload_n 2, 1) := by decide +kernel
theorem dX1_isSurelyEarlier_57 : decode cX1_isSurelyEarlier 57 = .ok (.iaload, 1) := by decide +kernel
theorem dX1_isSurelyEarlier_58 : decode cX1_isSurelyEarlier 58 = .ok (.if_icmp .ge 7, 3) := by decide +kernel
theorem dX1_isSurelyEarlier_61 : decode cX1_isSurelyEarlier 61 = .ok (.iconst 1, 1) := by decide +kernel
theorem dX1_isSurelyEarlier_62 : decode cX1_isSurelyEarlier 62 = .ok (.goto 4, 3) := by decide +kernel
theorem dX1_isSurelyEarlier_65 : decode cX1_isSurelyEarlier 65 = .ok (.iconst 0, 1) := by decide +kernel
theorem dX1_isSurelyEarlier_66 : decode cX1_isSurelyEarlier 66 = .ok (.ireturn, 1) := by decide +kernel
set_option maxRecDepth 20000 in
theorem ggX1_nextLine_X4_hasBit : GoodIn wsX1_nextLine wsX4_hasBit := goodIn_r _ [5, 6, 7, 4, 8] (by decide +kernel) (by decide +kernel)
set_option maxRecDepth 20000 in
theorem gX1_nextLine_X4_hasBit_n46 : GoodIn wsX1_nextLine (wsX4_hasBit) := ggX1_nextLine_X4_hasBit
theorem dX1_nextLine_0 : decode cX1_nextLine 0 = .ok (.iconst 0, 1) := by decide +kernel
theorem dX1_nextLine_1 : decode cX1_nextLine 1 = .ok (.istore_n 2, 1) := by decide +kernel
theorem dX1_nextLine_2 : decode cX1_nextLine 2 = .ok (.iload_n 2, 1) := by decide +kernel
theorem dX1_nextLine_3 : decode cX1_nextLine 3 = .ok (.aload_n 0, 1) := by decide +kernel
theorem dX1_nextLine_4 : decode cX1_nextLine 4 = .ok (.getfield 38, 3) := by decide +kernel
theorem dX1_nextLine_7 : decode cX1_nextLine 7 = .ok (.if_icmp .ge 36, 3) := by decide +kernel
theorem dX1_nextLine_10 : decode cX1_nextLine 10 = .ok (.iload_n 2, 1) := by decide +kernel
theorem dX1_nextLine_11 : decode cX1_nextLine 11 = .ok (.bipush 30, 2) := by decide +kernel
theorem dX1_nextLine_13 : decode cX1_nextLine 13 = .ok (.if_icmp .ge 30, 3) := by decide +kernel
theorem dX1_nextLine_16 : decode cX1_nextLine 16 = .ok (.iload_n 1, 1) := by decide +kernel
theorem dX1_nextLine_17 : decode cX1_nextLine 17 = .ok (.iload_n 2, 1) := by decide +kernel
theorem dX1_nextLine_18 : decode cX1_nextLine 18 = .ok (.invokestatic 46, 3) := by decide +kernel
theorem dX1_nextLine_21 : decode cX1_nextLine 21 = .ok (.ifCond .eq 16, 3) := by decide +kernel
theorem dX1_nextLine_24 : decode cX1_nextLine 24 = .ok (.aload_n 0, 1) := by decide +kernel
theorem dX1_nextLine_25 : decode cX1_nextLine 25 = .ok (.getfield 28, 3) := by decide +kernel
theorem dX1_nextLine_28 : decode cX1_nextLine 28 = .ok (.iload_n 2, 1) := by decide +kernel
theorem dX1_nextLine_29 : decode cX1_nextLine 29 = .ok (.iaload, 1) := by decide +kernel
theorem dX1_nextLine_30 : decode cX1_nextLine 30 = .ok (.iload_n 1, 1) := by decide +kernel
theorem dX1_nextLine_31 : decode cX1_nextLine 31 = .ok (.iand, 1) := by decide +kernel
theorem dX1_nextLine_32 : decode cX1_nextLine 32 = .ok (.ifCond .ne 5, 3) := by decide +kernel
theorem dX1_nextLine_35 : decode cX1_nextLine 35 = .ok (.iload_n 2, 1) := by decide +kernel
theorem dX1_nextLine_36 : decode cX1_nextLine 36 = .ok (.ireturn, 1) := by decide +kernel
theorem dX1_nextLine_37 : decode cX1_nextLine 37 = .ok (.iinc 2 1, 3) := by decide +kernel
theorem dX1_nextLine_40 : decode cX1_nextLine 40 = .ok (.goto (-38), 3) := by decide +kernel
theorem dX1_nextLine_43 : decode cX1_nextLine 43 = .ok (.iconst (-1), 1) := by decide +kernel
theorem dX1_nextLine_44 : decode cX1_nextLine 44 = .ok (.ireturn, 1) := by decide +kernel
set_option maxRecDepth 20000 in
theorem ggX1_countOrders_X4_bit : GoodIn wsX1_countOrders wsX4_bit := goodIn_r _ [5] (by decide +kernel) (by decide +kernel)
set_option maxRecDepth 20000 in
theorem gX1_countOrders_X4_bit_n69 : GoodIn wsX1_countOrders (wsX4_bit) := ggX1_countOrders_X4_bit
set_option maxRecDepth 20000 in
theorem ggX1_countOrders_X1_countBeginnings : GoodIn wsX1_countOrders wsX1_countBeginnings := goodIn_r _ [10, 1, 11, 2, 3, 4, 5, 12, 13, 14, 15, 16, 17, 18, 19, 20] (by decide +kernel) (by decide +kernel)
set_option maxRecDepth 20000 in
theorem gX1_countOrders_X1_countBeginnings : GoodIn wsX1_countOrders (wsV RX1 79 RX1 yX1_countBeginnings wsX1_countBeginnings) := goodIn_app (goodIn_of _ (by decide +kernel)) ggX1_countOrders_X1_countBeginnings
theorem dX1_countOrders_0 : decode cX1_countOrders 0 = .ok (.aload_n 0, 1) := by decide +kernel
theorem dX1_countOrders_1 : decode cX1_countOrders 1 = .ok (.getfield 38, 3) := by decide +kernel
theorem dX1_countOrders_4 : decode cX1_countOrders 4 = .ok (.invokestatic 69, 3) := by decide +kernel
theorem dX1_countOrders_7 : decode cX1_countOrders 7 = .ok (.iconst 1, 1) := by decide +kernel
theorem dX1_countOrders_8 : decode cX1_countOrders 8 = .ok (.isub, 1) := by decide +kernel
theorem dX1_countOrders_9 : decode cX1_countOrders 9 = .ok (.istore_n 1, 1) := by decide +kernel
theorem dX1_countOrders_10 : decode cX1_countOrders 10 = .ok (.lconst 1, 1) := by decide +kernel
theorem dX1_countOrders_11 : decode cX1_countOrders 11 = .ok (.lstore_n 2, 1) := by decide +kernel
theorem dX1_countOrders_12 : decode cX1_countOrders 12 = .ok (.aload_n 0, 1) := by decide +kernel
theorem dX1_countOrders_13 : decode cX1_countOrders 13 = .ok (.getfield 34, 3) := by decide +kernel
theorem dX1_countOrders_16 : decode cX1_countOrders 16 = .ok (.iconst 0, 1) := by decide +kernel
theorem dX1_countOrders_17 : decode cX1_countOrders 17 = .ok (.lload_n 2, 1) := by decide +kernel
theorem dX1_countOrders_18 : decode cX1_countOrders 18 = .ok (.lastore, 1) := by decide +kernel
theorem dX1_countOrders_19 : decode cX1_countOrders 19 = .ok (.iconst 1, 1) := by decide +kernel
theorem dX1_countOrders_20 : decode cX1_countOrders 20 = .ok (.istore 4, 2) := by decide +kernel
theorem dX1_countOrders_22 : decode cX1_countOrders 22 = .ok (.iload 4, 2) := by decide +kernel
theorem dX1_countOrders_24 : decode cX1_countOrders 24 = .ok (.iload_n 1, 1) := by decide +kernel
theorem dX1_countOrders_25 : decode cX1_countOrders 25 = .ok (.if_icmp .gt 34, 3) := by decide +kernel
theorem dX1_countOrders_28 : decode cX1_countOrders 28 = .ok (.iload 4, 2) := by decide +kernel
theorem dX1_countOrders_30 : decode cX1_countOrders 30 = .ok (.aload_n 0, 1) := by decide +kernel
theorem dX1_countOrders_31 : decode cX1_countOrders 31 = .ok (.getfield 34, 3) := by decide +kernel
theorem dX1_countOrders_34 : decode cX1_countOrders 34 = .ok (.arraylength, 1) := by decide +kernel
theorem dX1_countOrders_35 : decode cX1_countOrders 35 = .ok (.if_icmp .ge 24, 3) := by decide +kernel
theorem dX1_countOrders_38 : decode cX1_countOrders 38 = .ok (.aload_n 0, 1) := by decide +kernel
theorem dX1_countOrders_39 : decode cX1_countOrders 39 = .ok (.iload 4, 2) := by decide +kernel
theorem dX1_countOrders_41 : decode cX1_countOrders 41 = .ok (.invokevirtual 79, 3) := by decide +kernel
theorem dX1_countOrders_44 : decode cX1_countOrders 44 = .ok (.lstore_n 2, 1) := by decide +kernel
theorem dX1_countOrders_45 : decode cX1_countOrders 45 = .ok (.aload_n 0, 1) := by decide +kernel
theorem dX1_countOrders_46 : decode cX1_countOrders 46 = .ok (.getfield 34, 3) := by decide +kernel
theorem dX1_countOrders_49 : decode cX1_countOrders 49 = .ok (.iload 4, 2) := by decide +kernel
theorem dX1_countOrders_51 : decode cX1_countOrders 51 = .ok (.lload_n 2, 1) := by decide +kernel
theorem dX1_countOrders_52 : decode cX1_countOrders 52 = .ok (.lastore, 1) := by decide +kernel
theorem dX1_countOrders_53 : decode cX1_countOrders 53 = .ok (.iinc 4 1, 3) := by decide +kernel
theorem dX1_countOrders_56 : decode cX1_countOrders 56 = .ok (.goto (-34), 3) := by decide +kernel
theorem dX1_countOrders_59 : decode cX1_countOrders 59 = .ok (.lload_n 2, 1) := by decide +kernel
theorem dX1_countOrders_60 : decode cX1_countOrders 60 = .ok (.lreturn, 1) := by decide +kernel
set_option maxRecDepth 20000 in
theorem ggX1_countBeginnings_X4_bit : GoodIn wsX1_countBeginnings wsX4_bit := goodIn_r _ [6] (by decide +kernel) (by decide +kernel)
set_option maxRecDepth 20000 in
theorem gX1_countBeginnings_X4_bit_n69 : GoodIn wsX1_countBeginnings (wsX4_bit) := ggX1_countBeginnings_X4_bit
theorem dX1_countBeginnings_0 : decode cX1_countBeginnings 0 = .ok (.lconst 0, 1) := by decide +kernel
theorem dX1_countBeginnings_1 : decode cX1_countBeginnings 1 = .ok (.lstore_n 2, 1) := by decide +kernel
theorem dX1_countBeginnings_2 : decode cX1_countBeginnings 2 = .ok (.iconst 0, 1) := by decide +kernel
theorem dX1_countBeginnings_3 : decode cX1_countBeginnings 3 = .ok (.istore 4, 2) := by decide +kernel
theorem dX1_countBeginnings_5 : decode cX1_countBeginnings 5 = .ok (.iload 4, 2) := by decide +kernel
theorem dX1_countBeginnings_7 : decode cX1_countBeginnings 7 = .ok (.aload_n 0, 1) := by decide +kernel
theorem dX1_countBeginnings_8 : decode cX1_countBeginnings 8 = .ok (.getfield 38, 3) := by decide +kernel
theorem dX1_countBeginnings_11 : decode cX1_countBeginnings 11 = .ok (.if_icmp .ge 85, 3) := by decide +kernel
theorem dX1_countBeginnings_14 : decode cX1_countBeginnings 14 = .ok (.iload 4, 2) := by decide +kernel
theorem dX1_countBeginnings_16 : decode cX1_countBeginnings 16 = .ok (.bipush 12, 2) := by decide +kernel
theorem dX1_countBeginnings_18 : decode cX1_countBeginnings 18 = .ok (.if_icmp .ge 78, 3) := by decide +kernel
theorem dX1_countBeginnings_21 : decode cX1_countBeginnings 21 = .ok (.iload_n 1, 1) := by decide +kernel
theorem dX1_countBeginnings_22 : decode cX1_countBeginnings 22 = .ok (.iload 4, 2) := by decide +kernel
theorem dX1_countBeginnings_24 : decode cX1_countBeginnings 24 = .ok (.invokestatic 69, 3) := by decide +kernel
theorem dX1_countBeginnings_27 : decode cX1_countBeginnings 27 = .ok (.iconst (-1), 1) := by decide +kernel
theorem dX1_countBeginnings_28 : decode cX1_countBeginnings 28 = .ok (.ixor, 1) := by decide +kernel
theorem dX1_countBeginnings_29 : decode cX1_countBeginnings 29 = .ok (.iand, 1) := by decide +kernel
theorem dX1_countBeginnings_30 : decode cX1_countBeginnings 30 = .ok (.istore 5, 2) := by decide +kernel
theorem dX1_countBeginnings_32 : decode cX1_countBeginnings 32 = .ok (.iload 5, 2) := by decide +kernel
theorem dX1_countBeginnings_34 : decode cX1_countBeginnings 34 = .ok (.iload_n 1, 1) := by decide +kernel
theorem dX1_countBeginnings_35 : decode cX1_countBeginnings 35 = .ok (.if_icmp .eq 22, 3) := by decide +kernel
theorem dX1_countBeginnings_38 : decode cX1_countBeginnings 38 = .ok (.aload_n 0, 1) := by decide +kernel
theorem dX1_countBeginnings_39 : decode cX1_countBeginnings 39 = .ok (.getfield 28, 3) := by decide +kernel
theorem dX1_countBeginnings_42 : decode cX1_countBeginnings 42 = .ok (.iload 4, 2) := by decide +kernel
theorem dX1_countBeginnings_44 : decode cX1_countBeginnings 44 = .ok (.iaload, 1) := by decide +kernel
theorem dX1_countBeginnings_45 : decode cX1_countBeginnings 45 = .ok (.iload 5, 2) := by decide +kernel
theorem dX1_countBeginnings_47 : decode cX1_countBeginnings 47 = .ok (.iconst (-1), 1) := by decide +kernel
theorem dX1_countBeginnings_48 : decode cX1_countBeginnings 48 = .ok (.ixor, 1) := by decide +kernel
theorem dX1_countBeginnings_49 : decode cX1_countBeginnings 49 = .ok (.iand, 1) := by decide +kernel
theorem dX1_countBeginnings_50 : decode cX1_countBeginnings 50 = .ok (.ifCond .ne 7, 3) := by decide +kernel
theorem dX1_countBeginnings_53 : decode cX1_countBeginnings 53 = .ok (.iconst 1, 1) := by decide +kernel
theorem dX1_countBeginnings_54 : decode cX1_countBeginnings 54 = .ok (.goto 4, 3) := by decide +kernel
theorem dX1_countBeginnings_57 : decode cX1_countBeginnings 57 = .ok (.iconst 0, 1) := by decide +kernel
theorem dX1_countBeginnings_58 : decode cX1_countBeginnings 58 = .ok (.istore 6, 2) := by decide +kernel
theorem dX1_countBeginnings_60 : decode cX1_countBeginnings 60 = .ok (.iload 6, 2) := by decide +kernel
theorem dX1_countBeginnings_62 : decode cX1_countBeginnings 62 = .ok (.ifCond .eq 28, 3) := by decide +kernel
theorem dX1_countBeginnings_65 : decode cX1_countBeginnings 65 = .ok (.iload 5, 2) := by decide +kernel
theorem dX1_countBeginnings_67 : decode cX1_countBeginnings 67 = .ok (.ifCond .lt 23, 3) := by decide +kernel
theorem dX1_countBeginnings_70 : decode cX1_countBeginnings 70 = .ok (.iload 5, 2) := by decide +kernel
theorem dX1_countBeginnings_72 : decode cX1_countBeginnings 72 = .ok (.aload_n 0, 1) := by decide +kernel
theorem dX1_countBeginnings_73 : decode cX1_countBeginnings 73 = .ok (.getfield 34, 3) := by decide +kernel
theorem dX1_countBeginnings_76 : decode cX1_countBeginnings 76 = .ok (.arraylength, 1) := by decide +kernel
theorem dX1_countBeginnings_77 : decode cX1_countBeginnings 77 = .ok (.if_icmp .ge 13, 3) := by decide +kernel
theorem dX1_countBeginnings_80 : decode cX1_countBeginnings 80 = .ok (.lload_n 2, 1) := by decide +kernel
theorem dX1_countBeginnings_81 : decode cX1_countBeginnings 81 = .ok (.aload_n 0, 1) := by decide +kernel
theorem dX1_countBeginnings_82 : decode cX1_countBeginnings 82 = .ok (.getfield 34, 3) := by decide +kernel
theorem dX1_countBeginnings_85 : decode cX1_countBeginnings 85 = .ok (.iload 5, 2) := by decide +kernel
theorem dX1_countBeginnings_87 : decode cX1_countBeginnings 87 = .ok (.laload, 1) := by decide +kernel
theorem dX1_countBeginnings_88 : decode cX1_countBeginnings 88 = .ok (.ladd, 1) := by decide +kernel
theorem dX1_countBeginnings_89 : decode cX1_countBeginnings 89 = .ok (.lstore_n 2, 1) := by decide +kernel
theorem dX1_countBeginnings_90 : decode cX1_countBeginnings 90 = .ok (.iinc 4 1, 3) := by decide +kernel
theorem dX1_countBeginnings_93 : decode cX1_countBeginnings 93 = .ok (.goto (-88), 3) := by decide +kernel
theorem dX1_countBeginnings_96 : decode cX1_countBeginnings 96 = .ok (.lload_n 2, 1) := by decide +kernel
theorem dX1_countBeginnings_97 : decode cX1_countBeginnings 97 = .ok (.lreturn, 1) := by decide +kernel
theorem dX2_init_0 : decode cX2_init 0 = .ok (.aload_n 0, 1) := by decide +kernel
theorem dX2_init_1 : decode cX2_init 1 = .ok (.invokespecial 3, 3) := by decide +kernel
theorem dX2_init_4 : decode cX2_init 4 = .ok (.aload_n 0, 1) := by decide +kernel
theorem dX2_init_5 : decode cX2_init 5 = .ok (.bipush 40, 2) := by decide +kernel
theorem dX2_init_7 : decode cX2_init 7 = .ok (.newarray .int, 2) := by decide +kernel
theorem dX2_init_9 : decode cX2_init 9 = .ok (.putfield 9, 3) := by decide +kernel
theorem dX2_init_12 : decode cX2_init 12 = .ok (.aload_n 0, 1) := by decide +kernel
theorem dX2_init_13 : decode cX2_init 13 = .ok (.bipush 40, 2) := by decide +kernel
theorem dX2_init_15 : decode cX2_init 15 = .ok (.newarray .int, 2) := by decide +kernel
theorem dX2_init_17 : decode cX2_init 17 = .ok (.putfield 15, 3) := by decide +kernel
theorem dX2_init_20 : decode cX2_init 20 = .ok (.aload_n 0, 1) := by decide +kernel
theorem dX2_init_21 : decode cX2_init 21 = .ok (.bipush 40, 2) := by decide +kernel
theorem dX2_init_23 : decode cX2_init 23 = .ok (.newarray .int, 2) := by decide +kernel
theorem dX2_init_25 : decode cX2_init 25 = .ok (.putfield 18, 3) := by decide +kernel
theorem dX2_init_28 : decode cX2_init 28 = .ok (.aload_n 0, 1) := by decide +kernel
theorem dX2_init_29 : decode cX2_init 29 = .ok (.bipush 40, 2) := by decide +kernel
theorem dX2_init_31 : decode cX2_init 31 = .ok (.newarray .int, 2) := by decide +kernel
theorem dX2_init_33 : decode cX2_init 33 = .ok (.putfield 21, 3) := by decide +kernel
theorem dX2_init_36 : decode cX2_init 36 = .ok (.aload_n 0, 1) := by decide +kernel
theorem dX2_init_37 : decode cX2_init 37 = .ok (.iconst 0, 1) := by decide +kernel
theorem dX2_init_38 : decode cX2_init 38 = .ok (.putfield 24, 3) := by decide +kernel
theorem dX2_init_41 : decode cX2_init 41 = .ok (.return_, 1) := by decide +kernel
theorem dX2_size_0 : decode cX2_size 0 = .ok (.aload_n 0, 1) := by decide +kernel
theorem dX2_size_1 : decode cX2_size 1 = .ok (.getfield 24, 3) := by decide +kernel
