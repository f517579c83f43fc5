theorem dX1_countOrders_22 : decode cX1_countOrders 22 = .ok (.iload 4, 2) := by decide +kernel
theorem dX1_countOrders_24 : decode cX1_countOrders 24 = .ok (.iload_n 1, 1) := by decide +kernel
theorem dX1_countOrders_25 : decode cX1_countOrders 25 = .ok (.if_icmp .gt 34, 3) := by decide +kernel
theorem dX1_countOrders_28 : decode cX1_countOrders 28 = .ok (.iload 4, 2) := by decide +kernel
theorem dX1_countOrders_30 : decode cX1_countOrders 30 = .ok (.aload_n 0, 1) := by decide +kernel
theorem dX1_countOrders_31 : decode cX1_countOrders 31 = .ok (.getfield 34, 3) := by decide +kernel
theorem dX1_countOrders_34 : decode cX1_countOrders 34 = .ok (.arraylength, 1) := by decide +kernel
theorem dX1_countOrders_35 : decode cX1_countOrders 35 = .ok (.if_icmp .ge 24, 3) := by decide +kernel
theorem dX1_countOrders_38 : decode cX1_countOrders 38 = .ok (.aload_n 0, 1) := by decide +kernel
theorem dX1_countOrders_39 : decode cX1_countOrders 39 = .ok (.iload 4, 2) := by decide +kernel
theorem dX1_countOrders_41 : decode cX1_countOrders 41 = .ok (.invokevirtual 79, 3) := by decide +kernel
theorem dX1_countOrders_44 : decode cX1_countOrders 44 = .ok (.lstore_n 2, 1) := by decide +kernel
theorem dX1_countOrders_45 : decode cX1_countOrders 45 = .ok (.aload_n 0, 1) := by decide +kernel
theorem dX1_countOrders_46 : decode cX1_countOrders 46 = .ok (.getfield 34, 3) := by decide +kernel
theorem dX1_countOrders_49 : decode cX1_countOrders 49 = .ok (.iload 4, 2) := by decide +kernel
theorem dX1_countOrders_51 : decode cX1_countOrders 51 = .ok (.lload_n 2, 1) := by decide +kernel
theorem dX1_countOrders_52 : decode cX1_countOrders 52 = .ok (.lastore, 1) := by decide +kernel
theorem dX1_countOrders_53 : decode cX1_countOrders 53 = .ok (.iinc 4 1, 3) := by decide +kernel
theorem dX1_countOrders_56 : decode cX1_countOrders 56 = .ok (.goto (-34), 3) := by decide +kernel
theorem dX1_countOrders_59 : decode cX1_countOrders 59 = .ok (.lload_n 2, 1) := by decide +kernel
theorem dX1_countOrders_60 : decode cX1_countOrders 60 = .ok (.lreturn, 1) := by decide +kernel
set_option maxRecDepth 20000 in
theorem ggX1_countBeginnings_X4_bit : GoodIn wsX1_countBeginnings wsX4_bit := goodIn_r _ [6] (by decide +kernel) (by decide +kernel)
set_option maxRecDepth 20000 in
theorem gX1_countBeginnings_X4_bit_n69 : GoodIn wsX1_countBeginnings (wsX4_bit) := ggX1_countBeginnings_X4_bit
theorem dX1_countBeginnings_0 : decode cX1_countBeginnings 0 = .ok (.lconst 0, 1) := by decide +kernel
theorem dX1_countBeginnings_1 : decode cX1_countBeginnings 1 = .ok (.lstore_n 2, 1) := by decide +kernel
theorem dX1_countBeginnings_2 : decode cX1_countBeginnings 2 = .ok (.iconst 0, 1) := by decide +kernel
theorem dX1_countBeginnings_3 : decode cX1_countBeginnings 3 = .ok (.istore 4, 2) := by decide +kernel
theorem dX1_countBeginnings_5 : decode cX1_countBeginnings 5 = .ok (.iload 4, 2) := by decide +kernel
theorem dX1_countBeginnings_7 : decode cX1_countBeginnings 7 = .ok (.aload_n 0, 1) := by decide +kernel
theorem dX1_countBeginnings_8 : decode cX1_countBeginnings 8 = .ok (.getfield 38, 3) := by decide +kernel
theorem dX1_countBeginnings_11 : decode cX1_countBeginnings 11 = .ok (.if_icmp .ge 85, 3) := by decide +kernel
theorem dX1_countBeginnings_14 : decode cX1_countBeginnings 14 = .ok (.iload 4, 2) := by decide +kernel
theorem dX1_countBeginnings_16 : decode cX1_countBeginnings 16 = .ok (.bipush 12, 2) := by decide +kernel
theorem dX1_countBeginnings_18 : decode cX1_countBeginnings 18 = .ok (.if_icmp .ge 78, 3) := by decide +kernel
theorem dX1_countBeginnings_21 : decode cX1_countBeginnings 21 = .ok (.iload_n 1, 1) := by decide +kernel
theorem dX1_countBeginnings_22 : decode cX1_countBeginnings 22 = .ok (.iload 4, 2) := by decide +kernel
theorem dX1_countBeginnings_24 : decode cX1_countBeginnings 24 = .ok (.invokestatic 69, 3) := by decide +kernel
theorem dX1_countBeginnings_27 : decode cX1_countBeginnings 27 = .ok (.iconst (-1), 1) := by decide +kernel
theorem dX1_countBeginnings_28 : decode cX1_countBeginnings 28 = .ok (.ixor, 1) := by decide +kernel
theorem dX1_countBeginnings_29 : decode cX1_countBeginnings 29 = .ok (.iand, 1) := by decide +kernel
theorem dX1_countBeginnings_30 : decode cX1_countBeginnings 30 = .ok (.istore 5, 2) := by decide +kernel
theorem dX1_countBeginnings_32 : decode cX1_countBeginnings 32 = .ok (.iload 5, 2) := by decide +kernel
theorem dX1_countBeginnings_34 : decode cX1_countBeginnings 34 = .ok (.iload_n 1, 1) := by decide +kernel
theorem dX1_countBeginnings_35 : decode cX1_countBeginnings 35 = .ok (.if_icmp .eq 22, 3) := by decide +kernel
theorem dX1_countBeginnings_38 : decode cX1_countBeginnings 38 = .ok (.aload_n 0, 1) := by decide +kernel
theorem dX1_countBeginnings_39 : decode cX1_countBeginnings 39 = .ok (.getfield 28, 3) := by decide +kernel
theorem dX1_countBeginnings_42 : decode cX1_countBeginnings 42 = .ok (.iload 4, 2) := by decide +kernel
theorem dX1_countBeginnings_44 : decode cX1_countBeginnings 44 = .ok (.iaload, 1) := by decide +kernel
theorem dX1_countBeginnings_45 : decode cX1_countBeginnings 45 = .ok (.iload 5, 2) := by decide +kernel
theorem dX1_countBeginnings_47 : decode cX1_countBeginnings 47 = .ok (.iconst (-1), 1) := by decide +kernel
theorem dX1_countBeginnings_48 : decode cX1_countBeginnings 48 = .ok (.ixor, 1) := by decide +kernel
theorem dX1_countBeginnings_49 : decode cX1_countBeginnings 49 = .ok (.iand, 1) := by decide +kernel
theorem dX1_countBeginnings_50 : decode cX1_countBeginnings 50 = .ok (.ifCond .ne 7, 3) := by decide +kernel
theorem dX1_countBeginnings_53 : decode cX1_countBeginnings 53 = .ok (.iconst 1, 1) := by decide +kernel
theorem dX1_countBeginnings_54 : decode cX1_countBeginnings 54 = .ok (.goto 4, 3) := by decide +kernel
theorem dX1_countBeginnings_57 : decode cX1_countBeginnings 57 = .ok (.iconst 0, 1) := by decide +kernel
theorem dX1_countBeginnings_58 : decode cX1_countBeginnings 58 = .ok (.istore 6, 2) := by decide +kernel
theorem dX1_countBeginnings_60 : decode cX1_countBeginnings 60 = .ok (.iload 6, 2) := by decide +kernel
theorem dX1_countBeginnings_62 : decode cX1_countBeginnings 62 = .ok (.ifCond .eq 28, 3) := by decide +kernel
theorem dX1_countBeginnings_65 : decode cX1_countBeginnings 65 = .ok (.iload 5, 2) := by decide +kernel
theorem dX1_countBeginnings_67 : decode cX1_countBeginnings 67 = .ok (.ifCond .lt 23, 3) := by decide +kernel
theorem dX1_countBeginnings_70 : decode cX1_countBeginnings 70 = .ok (.iload 5, 2) := by decide +kernel
theorem dX1_countBeginnings_72 : decode cX1_countBeginnings 72 = .ok (.aload_n 0, 1) := by decide +kernel
theorem dX1_countBeginnings_73 : decode cX1_countBeginnings 73 = .ok (.getfield 34, 3) := by decide +kernel
theorem dX1_countBeginnings_76 : decode cX1_countBeginnings 76 = .ok (.arraylength, 1) := by decide +kernel
theorem dX1_countBeginnings_77 : decode cX1_countBeginnings 77 = .ok (.if_icmp .ge 13, 3) := by decide +kernel
theorem dX1_countBeginnings_80 : decode cX1_countBeginnings 80 = .ok (.lload_n 2, 1) := by decide +kernel
theorem dX1_countBeginnings_81 : decode cX1_countBeginnings 81 = .ok (.aload_n 0, 1) := by decide +kernel
theorem dX1_countBeginnings_82 : decode cX1_countBeginnings 82 = .ok (.getfield 34, 3) := by decide +kernel
theorem dX1_countBeginnings_85 : decode cX1_countBeginnings 85 = .ok (.iload 5, 2) := by decide +kernel
theorem dX1_countBeginnings_87 : decode cX1_countBeginnings 87 = .ok (.laload, 1) := by decide +kernel
theorem dX1_countBeginnings_88 : decode cX1_countBeginnings 88 = .ok (.ladd, 1) := by decide +kernel
theorem dX1_countBeginnings_89 : decode cX1_countBeginnings 89 = .ok (.lstore_n 2, 1) := by decide +kernel
theorem dX1_countBeginnings_90 : decode cX1_countBeginnings 90 = .ok (.iinc 4 1, 3) := by decide +kernel
theorem dX1_countBeginnings_93 : decode cX1_countBeginnings 93 = .ok (.goto (-88), 3) := by decide +kernel
theorem dX1_countBeginnings_96 : decode cX1_countBeginnings 96 = .ok (.lload_n 2, 1) := by decide +kernel
theorem dX1_countBeginnings_97 : decode cX1_countBeginnings 97 = .ok (.lreturn, 1) := by decide +kernel
theorem dX2_init_0 : decode cX2_init 0 = .ok (.aload_n 0, 1) := by decide +kernel
theorem dX2_init_1 : decode cX2_init 1 = .ok (.invokespecial 3, 3) := by decide +kernel
theorem dX2_init_4 : decode cX2_init 4 = .ok (.aload_n 0, 1) := by decide +kernel
theorem dX2_init_5 : decode cX2_init 5 = .ok (.bipush 40, 2) := by decide +kernel
theorem dX2_init_7 : decode cX2_init 7 = .ok (.newarray .int, 2) := by decide +kernel
theorem dX2_init_9 : decode cX2_init 9 = .ok (.putfield 9, 3) := by decide +kernel
theorem dX2_init_12 : decode cX2_init 12 = .ok (.aload_n 0, 1) := by decide +kernel
theorem dX2_init_13 : decode cX2_init 13 = .ok (.bipush 40, 2) := by decide +kernel
theorem dX2_init_15 : decode cX2_init 15 = .ok (.newarray .int, 2) := by decide +kernel
theorem dX2_init_17 : decode cX2_init 17 = .ok (.putfield 15, 3) := by decide +kernel
theorem dX2_init_20 : decode cX2_init 20 = .ok (.aload_n 0, 1) := by decide +kernel
theorem dX2_init_21 : decode cX2_init 21 = .ok (.bipush 40, 2) := by decide +kernel
theorem dX2_init_23 : decode cX2_init 23 = .ok (.newarray .int, 2) := by decide +kernel
theorem dX2_init_25 : decode cX2_init 25 = .ok (.putfield 18, 3) := by decide +kernel
theorem dX2_init_28 : decode cX2_init 28 = .ok (.aload_n 0, 1) := by decide +kernel
theorem dX2_init_29 : decode cX2_init 29 = .ok (.bipush 40, 2) := by decide +kernel
theorem dX2_init_31 : decode cX2_init 31 = .ok (.newarray .int, 2) := by decide +kernel
theorem dX2_init_33 : decode cX2_init 33 = .ok (.putfield 21, 3) := by decide +kernel
theorem dX2_init_36 : decode cX2_init 36 = .ok (.aload_n 0, 1) := by decide +kernel
theorem dX2_init_37 : decode cX2_init 37 = .ok (.iconst 0, 1) := by decide +kernel
theorem dX2_init_38 : decode cX2_init 38 = .ok (.putfield 24, 3) := by decide +kernel
theorem dX2_init_41 : decode cX2_init 41 = .ok (.return_, 1) := by decide +kernel
theorem dX2_size_0 : decode cX2_size 0 = .ok (.aload_n 0, 1) := by decide +kernel
theorem dX2_size_1 : decode cX2_size 1 = .ok (.getfield 24, 3) := by decide +kernel
theorem dX2_size_4 : decode cX2_size 4 = .ok (.ireturn, 1) := by decide +kernel
theorem dX2_add_0 : decode cX2_add 0 = .ok (.aload_n 0, 1) := by decide +kernel
theorem dX2_add_1 : decode cX2_add 1 = .ok (.getfield 24, 3) := by decide +kernel
theorem dX2_add_4 : decode cX2_add 4 = .ok (.istore 5, 2) := by decide +kernel
theorem dX2_add_6 : decode cX2_add 6 = .ok (.iload 5, 2) := by decide +kernel
theorem dX2_add_8 : decode cX2_add 8 = .ok (.bipush 40, 2) := by decide +kernel
theorem dX2_add_10 : decode cX2_add 10 = .ok (.if_icmp .lt 5, 3) := by decide +kernel
theorem dX2_add_13 : decode cX2_add 13 = .ok (.iconst (-1), 1) := by decide +kernel
theorem dX2_add_14 : decode cX2_add 14 = .ok (.ireturn, 1) := by decide +kernel
theorem dX2_add_15 : decode cX2_add 15 = .ok (.aload_n 0, 1) := by decide +kernel
theorem dX2_add_16 : decode cX2_add 16 = .ok (.getfield 9, 3) := by decide +kernel
theorem dX2_add_19 : decode cX2_add 19 = .ok (.iload 5, 2) := by decide +kernel
theorem dX2_add_21 : decode cX2_add 21 = .ok (.iload_n 1, 1) := by decide +kernel
theorem dX2_add_22 : decode cX2_add 22 = .ok (.iastore, 1) := by decide +kernel
theorem dX2_add_23 : decode cX2_add 23 = .ok (.aload_n 0, 1) := by decide +kernel
theorem dX2_add_24 : decode cX2_add 24 = .ok (.getfield 15, 3) := by decide +kernel
theorem dX2_add_27 : decode cX2_add 27 = .ok (.iload 5, 2) := by decide +kernel
theorem dX2_add_29 : decode cX2_add 29 = .ok (.iload_n 2, 1) := by decide +kernel
theorem dX2_add_30 : decode cX2_add 30 = .ok (.iastore, 1) := by decide +kernel
theorem dX2_add_31 : decode cX2_add 31 = .ok (.aload_n 0, 1) := by decide +kernel
theorem dX2_add_32 : decode cX2_add 32 = .ok (.getfield 18, 3) := by decide +kernel
theorem dX2_add_35 : decode cX2_add 35 = .ok (.iload 5, 2) := by decide +kernel
theorem dX2_add_37 : decode cX2_add 37 = .ok (.iload_n 3, 1) := by decide +kernel
theorem dX2_add_38 : decode cX2_add 38 = .ok (.iastore, 1) := by decide +kernel
theorem dX2_add_39 : decode cX2_add 39 = .ok (.aload_n 0, 1) := by decide +kernel
theorem dX2_add_40 : decode cX2_add 40 = .ok (.getfield 21, 3) := by decide +kernel
theorem dX2_add_43 : decode cX2_add 43 = .ok (.iload 5, 2) := by decide +kernel
theorem dX2_add_45 : decode cX2_add 45 = .ok (.iload 4, 2) := by decide +kernel
theorem dX2_add_47 : decode cX2_add 47 = .ok (.iastore, 1) := by decide +kernel
theorem dX2_add_48 : decode cX2_add 48 = .ok (.aload_n 0, 1) := by decide +kernel
theorem dX2_add_49 : decode cX2_add 49 = .ok (.iload 5, 2) := by decide +kernel
theorem dX2_add_51 : decode cX2_add 51 = .ok (.iconst 1, 1) := by decide +kernel
theorem dX2_add_52 : decode cX2_add 52 = .ok (.iadd, 1) := by decide +kernel
theorem dX2_add_53 : decode cX2_add 53 = .ok (.putfield 24, 3) := by decide +kernel
theorem dX2_add_56 : decode cX2_add 56 = .ok (.iload 5, 2) := by decide +kernel
theorem dX2_add_58 : decode cX2_add 58 = .ok (.ireturn, 1) := by decide +kernel
set_option maxRecDepth 20000 in
theorem ggX2_sumOfWorst_X2_nextChange : GoodIn wsX2_sumOfWorst wsX2_nextChange := goodIn_r _ [6, 1, 7, 8, 9, 10, 11, 12, 25, 26, 27, 28, 29] (by decide +kernel) (by decide +kernel)
set_option maxRecDepth 20000 in
theorem gX2_sumOfWorst_X2_nextChange : GoodIn wsX2_sumOfWorst (wsV RX2 28 RX2 yX2_nextChange wsX2_nextChange) := goodIn_app (goodIn_of _ (by decide +kernel)) ggX2_sumOfWorst_X2_nextChange
set_option maxRecDepth 20000 in
theorem ggX2_sumOfWorst_X2_worst : GoodIn wsX2_sumOfWorst wsX2_worst := goodIn_r _ [16, 1, 17, 8, 7, 18, 19, 20, 11, 21, 22, 23, 24, 25, 26, 27, 28, 29] (by decide +kernel) (by decide +kernel)
set_option maxRecDepth 20000 in
theorem gX2_sumOfWorst_X2_worst : GoodIn wsX2_sumOfWorst (wsV RX2 32 RX2 yX2_worst wsX2_worst) := goodIn_app (goodIn_of _ (by decide +kernel)) ggX2_sumOfWorst_X2_worst
theorem dX2_sumOfWorst_0 : decode cX2_sumOfWorst 0 = .ok (.iconst 0, 1) := by decide +kernel
theorem dX2_sumOfWorst_1 : decode cX2_sumOfWorst 1 = .ok (.istore_n 2, 1) := by decide +kernel
theorem dX2_sumOfWorst_2 : decode cX2_sumOfWorst 2 = .ok (.iconst 0, 1) := by decide +kernel
theorem dX2_sumOfWorst_3 : decode cX2_sumOfWorst 3 = .ok (.istore_n 3, 1) := by decide +kernel
theorem dX2_sumOfWorst_4 : decode cX2_sumOfWorst 4 = .ok (.iconst 0, 1) := by decide +kernel
theorem dX2_sumOfWorst_5 : decode cX2_sumOfWorst 5 = .ok (.istore 4, 2) := by decide +kernel
theorem dX2_sumOfWorst_7 : decode cX2_sumOfWorst 7 = .ok (.iload 4, 2) := by decide +kernel
theorem dX2_sumOfWorst_9 : decode cX2_sumOfWorst 9 = .ok (.iconst 2, 1) := by decide +kernel
theorem dX2_sumOfWorst_10 : decode cX2_sumOfWorst 10 = .ok (.aload_n 0, 1) := by decide +kernel
theorem dX2_sumOfWorst_11 : decode cX2_sumOfWorst 11 = .ok (.getfield 24, 3) := by decide +kernel
theorem dX2_sumOfWorst_14 : decode cX2_sumOfWorst 14 = .ok (.imul, 1) := by decide +kernel
theorem dX2_sumOfWorst_15 : decode cX2_sumOfWorst 15 = .ok (.if_icmp .gt 33, 3) := by decide +kernel
theorem dX2_sumOfWorst_18 : decode cX2_sumOfWorst 18 = .ok (.aload_n 0, 1) := by decide +kernel
theorem dX2_sumOfWorst_19 : decode cX2_sumOfWorst 19 = .ok (.iload_n 3, 1) := by decide +kernel
theorem dX2_sumOfWorst_20 : decode cX2_sumOfWorst 20 = .ok (.invokevirtual 28, 3) := by decide +kernel
theorem dX2_sumOfWorst_23 : decode cX2_sumOfWorst 23 = .ok (.istore 5, 2) := by decide +kernel
theorem dX2_sumOfWorst_25 : decode cX2_sumOfWorst 25 = .ok (.iload_n 2, 1) := by decide +kernel
theorem dX2_sumOfWorst_26 : decode cX2_sumOfWorst 26 = .ok (.iload 5, 2) := by decide +kernel
theorem dX2_sumOfWorst_28 : decode cX2_sumOfWorst 28 = .ok (.iload_n 3, 1) := by decide +kernel
theorem dX2_sumOfWorst_29 : decode cX2_sumOfWorst 29 = .ok (.isub, 1) := by decide +kernel
theorem dX2_sumOfWorst_30 : decode cX2_sumOfWorst 30 = .ok (.aload_n 0, 1) := by decide +kernel
theorem dX2_sumOfWorst_31 : decode cX2_sumOfWorst 31 = .ok (.iload_n 1, 1) := by decide +kernel
theorem dX2_sumOfWorst_32 : decode cX2_sumOfWorst 32 = .ok (.iload_n 3, 1) := by decide +kernel
theorem dX2_sumOfWorst_33 : decode cX2_sumOfWorst 33 = .ok (.invokevirtual 32, 3) := by decide +kernel
theorem dX2_sumOfWorst_36 : decode cX2_sumOfWorst 36 = .ok (.imul, 1) := by decide +kernel
theorem dX2_sumOfWorst_37 : decode cX2_sumOfWorst 37 = .ok (.iadd, 1) := by decide +kernel
theorem dX2_sumOfWorst_38 : decode cX2_sumOfWorst 38 = .ok (.istore_n 2, 1) := by decide +kernel
theorem dX2_sumOfWorst_39 : decode cX2_sumOfWorst 39 = .ok (.iload 5, 2) := by decide +kernel
theorem dX2_sumOfWorst_41 : decode cX2_sumOfWorst 41 = .ok (.istore_n 3, 1) := by decide +kernel
theorem dX2_sumOfWorst_42 : decode cX2_sumOfWorst 42 = .ok (.iinc 4 1, 3) := by decide +kernel
theorem dX2_sumOfWorst_45 : decode cX2_sumOfWorst 45 = .ok (.goto (-38), 3) := by decide +kernel
theorem dX2_sumOfWorst_48 : decode cX2_sumOfWorst 48 = .ok (.iload_n 2, 1) := by decide +kernel
theorem dX2_sumOfWorst_49 : decode cX2_sumOfWorst 49 = .ok (.ireturn, 1) := by decide +kernel
set_option maxRecDepth 20000 in
theorem ggX2_failedMinutes_X2_nextChange : GoodIn wsX2_failedMinutes wsX2_nextChange := goodIn_r _ [6, 1, 7, 8, 9, 10, 11, 12, 25, 26, 27, 28, 29] (by decide +kernel) (by decide +kernel)
set_option maxRecDepth 20000 in
theorem gX2_failedMinutes_X2_nextChange : GoodIn wsX2_failedMinutes (wsV RX2 28 RX2 yX2_nextChange wsX2_nextChange) := goodIn_app (goodIn_of _ (by decide +kernel)) ggX2_failedMinutes_X2_nextChange
set_option maxRecDepth 20000 in
theorem ggX2_failedMinutes_X2_worst : GoodIn wsX2_failedMinutes wsX2_worst := goodIn_r _ [16, 1, 17, 8, 7, 18, 19, 20, 11, 21, 22, 23, 24, 25, 26, 27, 28, 29] (by decide +kernel) (by decide +kernel)
set_option maxRecDepth 20000 in
theorem gX2_failedMinutes_X2_worst : GoodIn wsX2_failedMinutes (wsV RX2 32 RX2 yX2_worst wsX2_worst) := goodIn_app (goodIn_of _ (by decide +kernel)) ggX2_failedMinutes_X2_worst
theorem dX2_failedMinutes_0 : decode cX2_failedMinutes 0 = .ok (.iconst 0, 1) := by decide +kernel
theorem dX2_failedMinutes_1 : decode cX2_failedMinutes 1 = .ok (.istore_n 1, 1) := by decide +kernel
theorem dX2_failedMinutes_2 : decode cX2_failedMinutes 2 = .ok (.iconst 0, 1) := by decide +kernel
theorem dX2_failedMinutes_3 : decode cX2_failedMinutes 3 = .ok (.istore_n 2, 1) := by decide +kernel
theorem dX2_failedMinutes_4 : decode cX2_failedMinutes 4 = .ok (.iconst 0, 1) := by decide +kernel
theorem dX2_failedMinutes_5 : decode cX2_failedMinutes 5 = .ok (.istore_n 3, 1) := by decide +kernel
theorem dX2_failedMinutes_6 : decode cX2_failedMinutes 6 = .ok (.iload_n 3, 1) := by decide +kernel
theorem dX2_failedMinutes_7 : decode cX2_failedMinutes 7 = .ok (.iconst 2, 1) := by decide +kernel
theorem dX2_failedMinutes_8 : decode cX2_failedMinutes 8 = .ok (.aload_n 0, 1) := by decide +kernel
theorem dX2_failedMinutes_9 : decode cX2_failedMinutes 9 = .ok (.getfield 24, 3) := by decide +kernel
theorem dX2_failedMinutes_12 : decode cX2_failedMinutes 12 = .ok (.imul, 1) := by decide +kernel
theorem dX2_failedMinutes_13 : decode cX2_failedMinutes 13 = .ok (.if_icmp .gt 35, 3) := by decide +kernel
theorem dX2_failedMinutes_16 : decode cX2_failedMinutes 16 = .ok (.aload_n 0, 1) := by decide +kernel
theorem dX2_failedMinutes_17 : decode cX2_failedMinutes 17 = .ok (.iload_n 2, 1) := by decide +kernel
theorem dX2_failedMinutes_18 : decode cX2_failedMinutes 18 = .ok (.invokevirtual 28, 3) := by decide +kernel
theorem dX2_failedMinutes_21 : decode cX2_failedMinutes 21 = .ok (.istore 4, 2) := by decide +kernel
theorem dX2_failedMinutes_23 : decode cX2_failedMinutes 23 = .ok (.aload_n 0, 1) := by decide +kernel
theorem dX2_failedMinutes_24 : decode cX2_failedMinutes 24 = .ok (.iconst (-1), 1) := by decide +kernel
theorem dX2_failedMinutes_25 : decode cX2_failedMinutes 25 = .ok (.iload_n 2, 1) := by decide +kernel
theorem dX2_failedMinutes_26 : decode cX2_failedMinutes 26 = .ok (.invokevirtual 32, 3) := by decide +kernel
theorem dX2_failedMinutes_29 : decode cX2_failedMinutes 29 = .ok (.ifCond .le 10, 3) := by decide +kernel
theorem dX2_failedMinutes_32 : decode cX2_failedMinutes 32 = .ok (.iload_n 1, 1) := by decide +kernel
theorem dX2_failedMinutes_33 : decode cX2_failedMinutes 33 = .ok (.iload 4, 2) := by decide +kernel
theorem dX2_failedMinutes_35 : decode cX2_failedMinutes 35 = .ok (.iload_n 2, 1) := by decide +kernel
theorem dX2_failedMinutes_36 : decode cX2_failedMinutes 36 = .ok (.isub, 1) := by decide +kernel
theorem dX2_failedMinutes_37 : decode cX2_failedMinutes 37 = .ok (.iadd, 1) := by decide +kernel
theorem dX2_failedMinutes_38 : decode cX2_failedMinutes 38 = .ok (.istore_n 1, 1) := by decide +kernel
theorem dX2_failedMinutes_39 : decode cX2_failedMinutes 39 = .ok (.iload 4, 2) := by decide +kernel
theorem dX2_failedMinutes_41 : decode cX2_failedMinutes 41 = .ok (.istore_n 2, 1) := by decide +kernel
theorem dX2_failedMinutes_42 : decode cX2_failedMinutes 42 = .ok (.iinc 3 1, 3) := by decide +kernel
theorem dX2_failedMinutes_45 : decode cX2_failedMinutes 45 = .ok (.goto (-39), 3) := by decide +kernel
theorem dX2_failedMinutes_48 : decode cX2_failedMinutes 48 = .ok (.iload_n 1, 1) := by decide +kernel
theorem dX2_failedMinutes_49 : decode cX2_failedMinutes 49 = .ok (.ireturn, 1) := by decide +kernel
theorem dX2_nextChange_0 : decode cX2_nextChange 0 = .ok (.sipush 10001, 3) := by decide +kernel
theorem dX2_nextChange_3 : decode cX2_nextChange 3 = .ok (.istore_n 2, 1) := by decide +kernel
theorem dX2_nextChange_4 : decode cX2_nextChange 4 = .ok (.iconst 0, 1) := by decide +kernel
theorem dX2_nextChange_5 : decode cX2_nextChange 5 = .ok (.istore_n 3, 1) := by decide +kernel
theorem dX2_nextChange_6 : decode cX2_nextChange 6 = .ok (.iload_n 3, 1) := by decide +kernel
theorem dX2_nextChange_7 : decode cX2_nextChange 7 = .ok (.aload_n 0, 1) := by decide +kernel
theorem dX2_nextChange_8 : decode cX2_nextChange 8 = .ok (.getfield 24, 3) := by decide +kernel
theorem dX2_nextChange_11 : decode cX2_nextChange 11 = .ok (.if_icmp .ge 62, 3) := by decide +kernel
theorem dX2_nextChange_14 : decode cX2_nextChange 14 = .ok (.iload_n 3, 1) := by decide +kernel
theorem dX2_nextChange_15 : decode cX2_nextChange 15 = .ok (.bipush 40, 2) := by decide +kernel
theorem dX2_nextChange_17 : decode cX2_nextChange 17 = .ok (.if_icmp .ge 56, 3) := by decide +kernel
theorem dX2_nextChange_20 : decode cX2_nextChange 20 = .ok (.aload_n 0, 1) := by decide +kernel
theorem dX2_nextChange_21 : decode cX2_nextChange 21 = .ok (.getfield 18, 3) := by decide +kernel
theorem dX2_nextChange_24 : decode cX2_nextChange 24 = .ok (.iload_n 3, 1) := by decide +kernel
theorem dX2_nextChange_25 : decode cX2_nextChange 25 = .ok (.iaload, 1) := by decide +kernel
theorem dX2_nextChange_26 : decode cX2_nextChange 26 = .ok (.iconst 1, 1) := by decide +kernel
theorem dX2_nextChange_27 : decode cX2_nextChange 27 = .ok (.iadd, 1) := by decide +kernel
theorem dX2_nextChange_28 : decode cX2_nextChange 28 = .ok (.istore 4, 2) := by decide +kernel
theorem dX2_nextChange_30 : decode cX2_nextChange 30 = .ok (.aload_n 0, 1) := by decide +kernel
theorem dX2_nextChange_31 : decode cX2_nextChange 31 = .ok (.getfield 15, 3) := by decide +kernel
theorem dX2_nextChange_34 : decode cX2_nextChange 34 = .ok (.iload_n 3, 1) := by decide +kernel
theorem dX2_nextChange_35 : decode cX2_nextChange 35 = .ok (.iaload, 1) := by decide +kernel
theorem dX2_nextChange_36 : decode cX2_nextChange 36 = .ok (.iload_n 1, 1) := by decide +kernel
theorem dX2_nextChange_37 : decode cX2_nextChange 37 = .ok (.if_icmp .le 17, 3) := by decide +kernel
theorem dX2_nextChange_40 : decode cX2_nextChange 40 = .ok (.iload_n 2, 1) := by decide +kernel
theorem dX2_nextChange_41 : decode cX2_nextChange 41 = .ok (.aload_n 0, 1) := by decide +kernel
theorem dX2_nextChange_42 : decode cX2_nextChange 42 = .ok (.getfield 15, 3) := by decide +kernel
theorem dX2_nextChange_45 : decode cX2_nextChange 45 = .ok (.iload_n 3, 1) := by decide +kernel
theorem dX2_nextChange_46 : decode cX2_nextChange 46 = .ok (.iaload, 1) := by decide +kernel
theorem dX2_nextChange_47 : decode cX2_nextChange 47 = .ok (.invokestatic 36, 3) := by decide +kernel
theorem dX2_nextChange_50 : decode cX2_nextChange 50 = .ok (.istore_n 2, 1) := by decide +kernel
theorem dX2_nextChange_51 : decode cX2_nextChange 51 = .ok (.goto 16, 3) := by decide +kernel
theorem dX2_nextChange_54 : decode cX2_nextChange 54 = .ok (.iload 4, 2) := by decide +kernel
theorem dX2_nextChange_56 : decode cX2_nextChange 56 = .ok (.iload_n 1, 1) := by decide +kernel
theorem dX2_nextChange_57 : decode cX2_nextChange 57 = .ok (.if_icmp .le 10, 3) := by decide +kernel
theorem dX2_nextChange_60 : decode cX2_nextChange 60 = .ok (.iload_n 2, 1) := by decide +kernel
theorem dX2_nextChange_61 : decode cX2_nextChange 61 = .ok (.iload 4, 2) := by decide +kernel
theorem dX2_nextChange_63 : decode cX2_nextChange 63 = .ok (.invokestatic 36, 3) := by decide +kernel
theorem dX2_nextChange_66 : decode cX2_nextChange 66 = .ok (.istore_n 2, 1) := by decide +kernel
theorem dX2_nextChange_67 : decode cX2_nextChange 67 = .ok (.iinc 3 1, 3) := by decide +kernel
theorem dX2_nextChange_70 : decode cX2_nextChange 70 = .ok (.goto (-64), 3) := by decide +kernel
theorem dX2_nextChange_73 : decode cX2_nextChange 73 = .ok (.iload_n 2, 1) := by decide +kernel
theorem dX2_nextChange_74 : decode cX2_nextChange 74 = .ok (.ireturn, 1) := by decide +kernel
set_option maxRecDepth 20000 in
theorem ggX2_worst_X4_isWithin : GoodIn wsX2_worst wsX4_isWithin := goodIn_r _ [12] (by decide +kernel) (by decide +kernel)
set_option maxRecDepth 20000 in
theorem gX2_worst_X4_isWithin_n41 : GoodIn wsX2_worst (wsX4_isWithin) := ggX2_worst_X4_isWithin
theorem dX2_worst_0 : decode cX2_worst 0 = .ok (.iconst 0, 1) := by decide +kernel
theorem dX2_worst_1 : decode cX2_worst 1 = .ok (.istore_n 3, 1) := by decide +kernel
theorem dX2_worst_2 : decode cX2_worst 2 = .ok (.iconst 0, 1) := by decide +kernel
theorem dX2_worst_3 : decode cX2_worst 3 = .ok (.istore 4, 2) := by decide +kernel
theorem dX2_worst_5 : decode cX2_worst 5 = .ok (.iload 4, 2) := by decide +kernel
theorem dX2_worst_7 : decode cX2_worst 7 = .ok (.aload_n 0, 1) := by decide +kernel
theorem dX2_worst_8 : decode cX2_worst 8 = .ok (.getfield 24, 3) := by decide +kernel
theorem dX2_worst_11 : decode cX2_worst 11 = .ok (.if_icmp .ge 77, 3) := by decide +kernel
theorem dX2_worst_14 : decode cX2_worst 14 = .ok (.iload 4, 2) := by decide +kernel
theorem dX2_worst_16 : decode cX2_worst 16 = .ok (.bipush 40, 2) := by decide +kernel
theorem dX2_worst_18 : decode cX2_worst 18 = .ok (.if_icmp .ge 70, 3) := by decide +kernel
theorem dX2_worst_21 : decode cX2_worst 21 = .ok (.iload_n 1, 1) := by decide +kernel
theorem dX2_worst_22 : decode cX2_worst 22 = .ok (.iconst (-1), 1) := by decide +kernel
theorem dX2_worst_23 : decode cX2_worst 23 = .ok (.if_icmp .eq 14, 3) := by decide +kernel
theorem dX2_worst_26 : decode cX2_worst 26 = .ok (.aload_n 0, 1) := by decide +kernel
theorem dX2_worst_27 : decode cX2_worst 27 = .ok (.getfield 9, 3) := by decide +kernel
theorem dX2_worst_30 : decode cX2_worst 30 = .ok (.iload 4, 2) := by decide +kernel
theorem dX2_worst_32 : decode cX2_worst 32 = .ok (.iaload, 1) := by decide +kernel
theorem dX2_worst_33 : decode cX2_worst 33 = .ok (.iload_n 1, 1) := by decide +kernel
theorem dX2_worst_34 : decode cX2_worst 34 = .ok (.if_icmp .ne 7, 3) := by decide +kernel
theorem dX2_worst_37 : decode cX2_worst 37 = .ok (.iconst 1, 1) := by decide +kernel
theorem dX2_worst_38 : decode cX2_worst 38 = .ok (.goto 4, 3) := by decide +kernel
theorem dX2_worst_41 : decode cX2_worst 41 = .ok (.iconst 0, 1) := by decide +kernel
theorem dX2_worst_42 : decode cX2_worst 42 = .ok (.istore 5, 2) := by decide +kernel
theorem dX2_worst_44 : decode cX2_worst 44 = .ok (.iload 5, 2) := by decide +kernel
theorem dX2_worst_46 : decode cX2_worst 46 = .ok (.ifCond .eq 36, 3) := by decide +kernel
theorem dX2_worst_49 : decode cX2_worst 49 = .ok (.iload_n 2, 1) := by decide +kernel
theorem dX2_worst_50 : decode cX2_worst 50 = .ok (.aload_n 0, 1) := by decide +kernel
theorem dX2_worst_51 : decode cX2_worst 51 = .ok (.getfield 15, 3) := by decide +kernel
theorem dX2_worst_54 : decode cX2_worst 54 = .ok (.iload 4, 2) := by decide +kernel
theorem dX2_worst_56 : decode cX2_worst 56 = .ok (.iaload, 1) := by decide +kernel
theorem dX2_worst_57 : decode cX2_worst 57 = .ok (.aload_n 0, 1) := by decide +kernel
theorem dX2_worst_58 : decode cX2_worst 58 = .ok (.getfield 18, 3) := by decide +kernel
theorem dX2_worst_61 : decode cX2_worst 61 = .ok (.iload 4, 2) := by decide +kernel
theorem dX2_worst_63 : decode cX2_worst 63 = .ok (.iaload, 1) := by decide +kernel
theorem dX2_worst_64 : decode cX2_worst 64 = .ok (.invokestatic 41, 3) := by decide +kernel
theorem dX2_worst_67 : decode cX2_worst 67 = .ok (.ifCond .eq 15, 3) := by decide +kernel
theorem dX2_worst_70 : decode cX2_worst 70 = .ok (.iload_n 3, 1) := by decide +kernel
theorem dX2_worst_71 : decode cX2_worst 71 = .ok (.aload_n 0, 1) := by decide +kernel
theorem dX2_worst_72 : decode cX2_worst 72 = .ok (.getfield 21, 3) := by decide +kernel
theorem dX2_worst_75 : decode cX2_worst 75 = .ok (.iload 4, 2) := by decide +kernel
theorem dX2_worst_77 : decode cX2_worst 77 = .ok (.iaload, 1) := by decide +kernel
theorem dX2_worst_78 : decode cX2_worst 78 = .ok (.invokestatic 45, 3) := by decide +kernel
theorem dX2_worst_81 : decode cX2_worst 81 = .ok (.istore_n 3, 1) := by decide +kernel
theorem dX2_worst_82 : decode cX2_worst 82 = .ok (.iinc 4 1, 3) := by decide +kernel
theorem dX2_worst_85 : decode cX2_worst 85 = .ok (.goto (-80), 3) := by decide +kernel
theorem dX2_worst_88 : decode cX2_worst 88 = .ok (.iload_n 3, 1) := by decide +kernel
theorem dX2_worst_89 : decode cX2_worst 89 = .ok (.ireturn, 1) := by decide +kernel
theorem dX3_init_0 : decode cX3_init 0 = .ok (.aload_n 0, 1) := by decide +kernel
theorem dX3_init_1 : decode cX3_init 1 = .ok (.invokespecial 3, 3) := by decide +kernel
theorem dX3_init_4 : decode cX3_init 4 = .ok (.aload_n 0, 1) := by decide +kernel
theorem dX3_init_5 : decode cX3_init 5 = .ok (.iconst 5, 1) := by decide +kernel
theorem dX3_init_6 : decode cX3_init 6 = .ok (.iconst 5, 1) := by decide +kernel
theorem dX3_init_7 : decode cX3_init 7 = .ok (.multianewarray 9 2, 4) := by decide +kernel
theorem dX3_init_11 : decode cX3_init 11 = .ok (.putfield 11, 3) := by decide +kernel
theorem dX3_init_14 : decode cX3_init 14 = .ok (.iconst 0, 1) := by decide +kernel
theorem dX3_init_15 : decode cX3_init 15 = .ok (.istore_n 1, 1) := by decide +kernel
theorem dX3_init_16 : decode cX3_init 16 = .ok (.iload_n 1, 1) := by decide +kernel
theorem dX3_init_17 : decode cX3_init 17 = .ok (.iconst 5, 1) := by decide +kernel
theorem dX3_init_18 : decode cX3_init 18 = .ok (.if_icmp .ge 41, 3) := by decide +kernel
theorem dX3_init_21 : decode cX3_init 21 = .ok (.iconst 0, 1) := by decide +kernel
theorem dX3_init_22 : decode cX3_init 22 = .ok (.istore_n 2, 1) := by decide +kernel
theorem dX3_init_23 : decode cX3_init 23 = .ok (.iload_n 2, 1) := by decide +kernel
theorem dX3_init_24 : decode cX3_init 24 = .ok (.iconst 5, 1) := by decide +kernel
theorem dX3_init_25 : decode cX3_init 25 = .ok (.if_icmp .ge 28, 3) := by decide +kernel
theorem dX3_init_28 : decode cX3_init 28 = .ok (.aload_n 0, 1) := by decide +kernel
theorem dX3_init_29 : decode cX3_init 29 = .ok (.getfield 11, 3) := by decide +kernel
theorem dX3_init_32 : decode cX3_init 32 = .ok (.iload_n 1, 1) := by decide +kernel
theorem dX3_init_33 : decode cX3_init 33 = .ok (.aaload, 1) := by decide +kernel
theorem dX3_init_34 : decode cX3_init 34 = .ok (.iload_n 2, 1) := by decide +kernel
theorem dX3_init_35 : decode cX3_init 35 = .ok (.iload_n 1, 1) := by decide +kernel
theorem dX3_init_36 : decode cX3_init 36 = .ok (.iload_n 2, 1) := by decide +kernel
theorem dX3_init_37 : decode cX3_init 37 = .ok (.if_icmp .ne 7, 3) := by decide +kernel
theorem dX3_init_40 : decode cX3_init 40 = .ok (.iconst 0, 1) := by decide +kernel
theorem dX3_init_41 : decode cX3_init 41 = .ok (.goto 5, 3) := by decide +kernel
theorem dX3_init_44 : decode cX3_init 44 = .ok (.ldc 16, 2) := by decide +kernel
theorem dX3_init_46 : decode cX3_init 46 = .ok (.iastore, 1) := by decide +kernel
theorem dX3_init_47 : decode cX3_init 47 = .ok (.iinc 2 1, 3) := by decide +kernel
theorem dX3_init_50 : decode cX3_init 50 = .ok (.goto (-27), 3) := by decide +kernel
theorem dX3_init_53 : decode cX3_init 53 = .ok (.iinc 1 1, 3) := by decide +kernel
theorem dX3_init_56 : decode cX3_init 56 = .ok (.goto (-40), 3) := by decide +kernel
theorem dX3_init_59 : decode cX3_init 59 = .ok (.return_, 1) := by decide +kernel
set_option maxRecDepth 20000 in
theorem ggX3_most_X4_isClock : GoodIn wsX3_most wsX4_isClock := goodIn_r _ [5, 6, 7, 4, 8] (by decide +kernel) (by decide +kernel)
set_option maxRecDepth 20000 in
theorem gX3_most_X4_isClock_n17 : GoodIn wsX3_most (wsX4_isClock) := ggX3_most_X4_isClock
theorem dX3_most_0 : decode cX3_most 0 = .ok (.iload_n 1, 1) := by decide +kernel
theorem dX3_most_1 : decode cX3_most 1 = .ok (.invokestatic 17, 3) := by decide +kernel
theorem dX3_most_4 : decode cX3_most 4 = .ok (.ifCond .eq 10, 3) := by decide +kernel
theorem dX3_most_7 : decode cX3_most 7 = .ok (.iload_n 2, 1) := by decide +kernel
theorem dX3_most_8 : decode cX3_most 8 = .ok (.invokestatic 17, 3) := by decide +kernel
theorem dX3_most_11 : decode cX3_most 11 = .ok (.ifCond .ne 6, 3) := by decide +kernel
theorem dX3_most_14 : decode cX3_most 14 = .ok (.ldc 16, 2) := by decide +kernel
theorem dX3_most_16 : decode cX3_most 16 = .ok (.ireturn, 1) := by decide +kernel
theorem dX3_most_17 : decode cX3_most 17 = .ok (.aload_n 0, 1) := by decide +kernel
theorem dX3_most_18 : decode cX3_most 18 = .ok (.getfield 11, 3) := by decide +kernel
theorem dX3_most_21 : decode cX3_most 21 = .ok (.iload_n 1, 1) := by decide +kernel
theorem dX3_most_22 : decode cX3_most 22 = .ok (.aaload, 1) := by decide +kernel
theorem dX3_most_23 : decode cX3_most 23 = .ok (.iload_n 2, 1) := by decide +kernel
theorem dX3_most_24 : decode cX3_most 24 = .ok (.iaload, 1) := by decide +kernel
theorem dX3_most_25 : decode cX3_most 25 = .ok (.ireturn, 1) := by decide +kernel
set_option maxRecDepth 20000 in
theorem ggX3_allows_X3_most : GoodIn wsX3_allows wsX3_most := goodIn_r _ [5, 6, 7, 8, 9, 10, 11, 12, 13, 14] (by decide +kernel) (by decide +kernel)
set_option maxRecDepth 20000 in
theorem gX3_allows_X3_most : GoodIn wsX3_allows (wsV RX3 21 RX3 yX3_most wsX3_most) := goodIn_app (goodIn_of _ (by decide +kernel)) ggX3_allows_X3_most
theorem dX3_allows_0 : decode cX3_allows 0 = .ok (.iload_n 3, 1) := by decide +kernel
theorem dX3_allows_1 : decode cX3_allows 1 = .ok (.ineg, 1) := by decide +kernel
theorem dX3_allows_2 : decode cX3_allows 2 = .ok (.aload_n 0, 1) := by decide +kernel
theorem dX3_allows_3 : decode cX3_allows 3 = .ok (.iload_n 2, 1) := by decide +kernel
theorem dX3_allows_4 : decode cX3_allows 4 = .ok (.iload_n 1, 1) := by decide +kernel
theorem dX3_allows_5 : decode cX3_allows 5 = .ok (.invokevirtual 21, 3) := by decide +kernel
theorem dX3_allows_8 : decode cX3_allows 8 = .ok (.if_icmp .gt 7, 3) := by decide +kernel
theorem dX3_allows_11 : decode cX3_allows 11 = .ok (.iconst 1, 1) := by decide +kernel
theorem dX3_allows_12 : decode cX3_allows 12 = .ok (.goto 4, 3) := by decide +kernel
theorem dX3_allows_15 : decode cX3_allows 15 = .ok (.iconst 0, 1) := by decide +kernel
theorem dX3_allows_16 : decode cX3_allows 16 = .ok (.ireturn, 1) := by decide +kernel
set_option maxRecDepth 20000 in
theorem ggX3_bound_X3_most : GoodIn wsX3_bound wsX3_most := goodIn_r _ [11, 1, 2, 12, 13, 14, 15, 16, 17, 18] (by decide +kernel) (by decide +kernel)
set_option maxRecDepth 20000 in
theorem gX3_bound_X3_most : GoodIn wsX3_bound (wsV RX3 21 RX3 yX3_most wsX3_most) := goodIn_app (goodIn_of _ (by decide +kernel)) ggX3_bound_X3_most
theorem dX3_bound_0 : decode cX3_bound 0 = .ok (.iconst 0, 1) := by decide +kernel
theorem dX3_bound_1 : decode cX3_bound 1 = .ok (.istore 4, 2) := by decide +kernel
theorem dX3_bound_3 : decode cX3_bound 3 = .ok (.iload 4, 2) := by decide +kernel
theorem dX3_bound_5 : decode cX3_bound 5 = .ok (.iconst 5, 1) := by decide +kernel
theorem dX3_bound_6 : decode cX3_bound 6 = .ok (.if_icmp .ge 90, 3) := by decide +kernel
theorem dX3_bound_9 : decode cX3_bound 9 = .ok (.iconst 0, 1) := by decide +kernel
theorem dX3_bound_10 : decode cX3_bound 10 = .ok (.istore 5, 2) := by decide +kernel
theorem dX3_bound_12 : decode cX3_bound 12 = .ok (.iload 5, 2) := by decide +kernel
theorem dX3_bound_14 : decode cX3_bound 14 = .ok (.iconst 5, 1) := by decide +kernel
theorem dX3_bound_15 : decode cX3_bound 15 = .ok (.if_icmp .ge 75, 3) := by decide +kernel
theorem dX3_bound_18 : decode cX3_bound 18 = .ok (.aload_n 0, 1) := by decide +kernel
theorem dX3_bound_19 : decode cX3_bound 19 = .ok (.iload 4, 2) := by decide +kernel
theorem dX3_bound_21 : decode cX3_bound 21 = .ok (.iload_n 1, 1) := by decide +kernel
theorem dX3_bound_22 : decode cX3_bound 22 = .ok (.invokevirtual 21, 3) := by decide +kernel
theorem dX3_bound_25 : decode cX3_bound 25 = .ok (.istore 6, 2) := by decide +kernel
theorem dX3_bound_27 : decode cX3_bound 27 = .ok (.aload_n 0, 1) := by decide +kernel
theorem dX3_bound_28 : decode cX3_bound 28 = .ok (.iload_n 2, 1) := by decide +kernel
theorem dX3_bound_29 : decode cX3_bound 29 = .ok (.iload 5, 2) := by decide +kernel
theorem dX3_bound_31 : decode cX3_bound 31 = .ok (.invokevirtual 21, 3) := by decide +kernel
theorem dX3_bound_34 : decode cX3_bound 34 = .ok (.istore 7, 2) := by decide +kernel
theorem dX3_bound_36 : decode cX3_bound 36 = .ok (.iload 6, 2) := by decide +kernel
theorem dX3_bound_38 : decode cX3_bound 38 = .ok (.ldc 16, 2) := by decide +kernel
theorem dX3_bound_40 : decode cX3_bound 40 = .ok (.if_icmp .ge 44, 3) := by decide +kernel
theorem dX3_bound_43 : decode cX3_bound 43 = .ok (.iload 7, 2) := by decide +kernel
theorem dX3_bound_45 : decode cX3_bound 45 = .ok (.ldc 16, 2) := by decide +kernel
theorem dX3_bound_47 : decode cX3_bound 47 = .ok (.if_icmp .ge 37, 3) := by decide +kernel
theorem dX3_bound_50 : decode cX3_bound 50 = .ok (.iload 6, 2) := by decide +kernel
theorem dX3_bound_52 : decode cX3_bound 52 = .ok (.iload_n 3, 1) := by decide +kernel
theorem dX3_bound_53 : decode cX3_bound 53 = .ok (.iadd, 1) := by decide +kernel
theorem dX3_bound_54 : decode cX3_bound 54 = .ok (.iload 7, 2) := by decide +kernel
theorem dX3_bound_56 : decode cX3_bound 56 = .ok (.iadd, 1) := by decide +kernel
theorem dX3_bound_57 : decode cX3_bound 57 = .ok (.istore 8, 2) := by decide +kernel
theorem dX3_bound_59 : decode cX3_bound 59 = .ok (.aload_n 0, 1) := by decide +kernel
theorem dX3_bound_60 : decode cX3_bound 60 = .ok (.getfield 11, 3) := by decide +kernel
theorem dX3_bound_63 : decode cX3_bound 63 = .ok (.iload 4, 2) := by decide +kernel
theorem dX3_bound_65 : decode cX3_bound 65 = .ok (.aaload, 1) := by decide +kernel
theorem dX3_bound_66 : decode cX3_bound 66 = .ok (.iload 5, 2) := by decide +kernel
theorem dX3_bound_68 : decode cX3_bound 68 = .ok (.aload_n 0, 1) := by decide +kernel
theorem dX3_bound_69 : decode cX3_bound 69 = .ok (.getfield 11, 3) := by decide +kernel
theorem dX3_bound_72 : decode cX3_bound 72 = .ok (.iload 4, 2) := by decide +kernel
theorem dX3_bound_74 : decode cX3_bound 74 = .ok (.aaload, 1) := by decide +kernel
theorem dX3_bound_75 : decode cX3_bound 75 = .ok (.iload 5, 2) := by decide +kernel
theorem dX3_bound_77 : decode cX3_bound 77 = .ok (.iaload, 1) := by decide +kernel
theorem dX3_bound_78 : decode cX3_bound 78 = .ok (.iload 8, 2) := by decide +kernel
theorem dX3_bound_80 : decode cX3_bound 80 = .ok (.invokestatic 25, 3) := by decide +kernel
theorem dX3_bound_83 : decode cX3_bound 83 = .ok (.iastore, 1) := by decide +kernel
theorem dX3_bound_84 : decode cX3_bound 84 = .ok (.iinc 5 1, 3) := by decide +kernel
theorem dX3_bound_87 : decode cX3_bound 87 = .ok (.goto (-75), 3) := by decide +kernel
theorem dX3_bound_90 : decode cX3_bound 90 = .ok (.iinc 4 1, 3) := by decide +kernel
theorem dX3_bound_93 : decode cX3_bound 93 = .ok (.goto (-90), 3) := by decide +kernel
theorem dX3_bound_96 : decode cX3_bound 96 = .ok (.return_, 1) := by decide +kernel
set_option maxRecDepth 20000 in
theorem ggX4_init_X3_init : GoodIn wsX4_init wsX3_init := goodIn_r _ [22, 23, 2, 3, 24, 25, 26, 27, 57] (by decide +kernel) (by decide +kernel)
set_option maxRecDepth 20000 in
theorem gX4_init_X3_init : GoodIn wsX4_init (wsX3_init) := ggX4_init_X3_init
set_option maxRecDepth 20000 in
theorem ggX4_init_X1_init : GoodIn wsX4_init wsX1_init := goodIn_r _ [29, 30, 2, 3, 25, 31, 32, 33, 34, 35, 36, 37, 38, 39, 40, 41, 62, 63, 64, 65, 66, 67, 68, 69, 70] (by decide +kernel) (by decide +kernel)
set_option maxRecDepth 20000 in
theorem gX4_init_X1_init_n18 : GoodIn wsX4_init (wsX1_init) := ggX4_init_X1_init
set_option maxRecDepth 20000 in
theorem ggX4_init_X2_init : GoodIn wsX4_init wsX2_init := goodIn_r _ [43, 44, 2, 3, 25, 45, 46, 47, 48, 49, 71, 72, 73, 74, 75] (by decide +kernel) (by decide +kernel)
set_option maxRecDepth 20000 in
theorem gX4_init_X2_init_n25 : GoodIn wsX4_init (wsX2_init) := ggX4_init_X2_init
set_option maxRecDepth 20000 in
theorem ggX4_init_X0_init : GoodIn wsX4_init wsX0_init := goodIn_r _ [51, 52, 2, 3, 53, 25, 54, 55, 56, 76, 77, 78] (by decide +kernel) (by decide +kernel)
set_option maxRecDepth 20000 in
theorem gX4_init_X0_init_n32 : GoodIn wsX4_init (wsX0_init) := ggX4_init_X0_init
theorem dX4_init_0 : decode cX4_init 0 = .ok (.aload_n 0, 1) := by decide +kernel
theorem dX4_init_1 : decode cX4_init 1 = .ok (.invokespecial 1, 3) := by decide +kernel
theorem dX4_init_4 : decode cX4_init 4 = .ok (.aload_n 0, 1) := by decide +kernel
theorem dX4_init_5 : decode cX4_init 5 = .ok (.new 7, 3) := by decide +kernel
theorem dX4_init_8 : decode cX4_init 8 = .ok (.dup, 1) := by decide +kernel
theorem dX4_init_9 : decode cX4_init 9 = .ok (.invokespecial 9, 3) := by decide +kernel
theorem dX4_init_12 : decode cX4_init 12 = .ok (.putfield 10, 3) := by decide +kernel
theorem dX4_init_15 : decode cX4_init 15 = .ok (.aload_n 0, 1) := by decide +kernel
theorem dX4_init_16 : decode cX4_init 16 = .ok (.new 16, 3) := by decide +kernel
theorem dX4_init_19 : decode cX4_init 19 = .ok (.dup, 1) := by decide +kernel
theorem dX4_init_20 : decode cX4_init 20 = .ok (.invokespecial 18, 3) := by decide +kernel
theorem dX4_init_23 : decode cX4_init 23 = .ok (.putfield 19, 3) := by decide +kernel
theorem dX4_init_26 : decode cX4_init 26 = .ok (.aload_n 0, 1) := by decide +kernel
theorem dX4_init_27 : decode cX4_init 27 = .ok (.new 23, 3) := by decide +kernel
theorem dX4_init_30 : decode cX4_init 30 = .ok (.dup, 1) := by decide +kernel
theorem dX4_init_31 : decode cX4_init 31 = .ok (.invokespecial 25, 3) := by decide +kernel
theorem dX4_init_34 : decode cX4_init 34 = .ok (.putfield 26, 3) := by decide +kernel
theorem dX4_init_37 : decode cX4_init 37 = .ok (.aload_n 0, 1) := by decide +kernel
theorem dX4_init_38 : decode cX4_init 38 = .ok (.new 30, 3) := by decide +kernel
theorem dX4_init_41 : decode cX4_init 41 = .ok (.dup, 1) := by decide +kernel
theorem dX4_init_42 : decode cX4_init 42 = .ok (.invokespecial 32, 3) := by decide +kernel
theorem dX4_init_45 : decode cX4_init 45 = .ok (.putfield 33, 3) := by decide +kernel
theorem dX4_init_48 : decode cX4_init 48 = .ok (.return_, 1) := by decide +kernel
set_option maxRecDepth 20000 in
theorem ggX4_mark_X4_isClock : GoodIn wsX4_mark wsX4_isClock := goodIn_r _ [10, 11, 12, 9, 13] (by decide +kernel) (by decide +kernel)
set_option maxRecDepth 20000 in
theorem gX4_mark_X4_isClock : GoodIn wsX4_mark (va_wsS RX4 37 yX4_isClock wsX4_isClock) := goodIn_app (goodIn_of _ (by decide +kernel)) ggX4_mark_X4_isClock
set_option maxRecDepth 20000 in
theorem ggX4_mark_X4_isReading : GoodIn wsX4_mark wsX4_isReading := goodIn_r _ [16, 11, 12, 9, 13] (by decide +kernel) (by decide +kernel)
set_option maxRecDepth 20000 in
theorem gX4_mark_X4_isReading : GoodIn wsX4_mark (va_wsS RX4 48 yX4_isReading wsX4_isReading) := goodIn_app (goodIn_of _ (by decide +kernel)) ggX4_mark_X4_isReading
set_option maxRecDepth 20000 in
theorem ggX4_mark_X4_isWithin : GoodIn wsX4_mark wsX4_isWithin := goodIn_r _ [13] (by decide +kernel) (by decide +kernel)
set_option maxRecDepth 20000 in
theorem gX4_mark_X4_isWithin : GoodIn wsX4_mark (va_wsS RX4 53 yX4_isWithin wsX4_isWithin) := goodIn_app (goodIn_of _ (by decide +kernel)) ggX4_mark_X4_isWithin
set_option maxRecDepth 20000 in
theorem ggX4_mark_X3_allows : GoodIn wsX4_mark wsX3_allows := goodIn_r _ [21, 22, 23, 24, 20, 25, 26, 27, 8, 9, 10, 11, 12, 13, 73] (by decide +kernel) (by decide +kernel)
set_option maxRecDepth 20000 in
theorem gX4_mark_X3_allows : GoodIn wsX4_mark (wsV RX4 59 RX3 yX3_allows wsX3_allows) := goodIn_app (goodIn_of _ (by decide +kernel)) ggX4_mark_X3_allows
set_option maxRecDepth 20000 in
theorem ggX4_mark_X3_bound : GoodIn wsX4_mark wsX3_bound := goodIn_r _ [31, 26, 27, 32, 33, 34, 35, 22, 23, 24, 20, 25, 8, 9, 10, 11, 12, 13, 73] (by decide +kernel) (by decide +kernel)
set_option maxRecDepth 20000 in
theorem gX4_mark_X3_bound : GoodIn wsX4_mark (wsV RX4 67 RX3 yX3_bound wsX3_bound) := goodIn_app (goodIn_of _ (by decide +kernel)) ggX4_mark_X3_bound
set_option maxRecDepth 20000 in
theorem ggX4_mark_X1_arrange : GoodIn wsX4_mark wsX1_arrange := goodIn_r _ [40, 41, 42, 43, 44, 45, 46, 39, 47, 48, 49, 50, 51, 52, 53, 54, 55, 56, 57, 58, 59, 23, 24, 20, 25, 26, 27, 8, 9, 10, 11, 12, 13, 60, 61, 62, 63, 64, 65, 66, 67, 68, 74, 75, 76, 77, 78, 79, 80, 81, 82, 73] (by decide +kernel) (by decide +kernel)
set_option maxRecDepth 20000 in
theorem gX4_mark_X1_arrange : GoodIn wsX4_mark (wsV RX4 71 RX1 yX1_arrange wsX1_arrange) := goodIn_app (goodIn_of _ (by decide +kernel)) ggX4_mark_X1_arrange
theorem dX4_mark_0 : decode cX4_mark 0 = .ok (.iload_n 1, 1) := by decide +kernel
theorem dX4_mark_1 : decode cX4_mark 1 = .ok (.invokestatic 37, 3) := by decide +kernel
theorem dX4_mark_4 : decode cX4_mark 4 = .ok (.ifCond .eq 15, 3) := by decide +kernel
theorem dX4_mark_7 : decode cX4_mark 7 = .ok (.iload_n 3, 1) := by decide +kernel
theorem dX4_mark_8 : decode cX4_mark 8 = .ok (.invokestatic 37, 3) := by decide +kernel
theorem dX4_mark_11 : decode cX4_mark 11 = .ok (.ifCond .eq 8, 3) := by decide +kernel
theorem dX4_mark_14 : decode cX4_mark 14 = .ok (.iload_n 1, 1) := by decide +kernel
theorem dX4_mark_15 : decode cX4_mark 15 = .ok (.iload_n 3, 1) := by decide +kernel
theorem dX4_mark_16 : decode cX4_mark 16 = .ok (.if_icmp .ne 13, 3) := by decide +kernel
theorem dX4_mark_19 : decode cX4_mark 19 = .ok (.new 41, 3) := by decide +kernel
theorem dX4_mark_22 : decode cX4_mark 22 = .ok (.dup, 1) := by decide +kernel
theorem dX4_mark_23 : decode cX4_mark 23 = .ok (.ldc 43, 2) := by decide +kernel
theorem dX4_mark_25 : decode cX4_mark 25 = .ok (.invokespecial 45, 3) := by decide +kernel
theorem dX4_mark_28 : decode cX4_mark 28 = .ok (.athrow, 1) := by decide +kernel
theorem dX4_mark_29 : decode cX4_mark 29 = .ok (.iload_n 2, 1) := by decide +kernel
theorem dX4_mark_30 : decode cX4_mark 30 = .ok (.invokestatic 48, 3) := by decide +kernel
theorem dX4_mark_33 : decode cX4_mark 33 = .ok (.ifCond .eq 11, 3) := by decide +kernel
theorem dX4_mark_36 : decode cX4_mark 36 = .ok (.iload 4, 2) := by decide +kernel
theorem dX4_mark_38 : decode cX4_mark 38 = .ok (.invokestatic 48, 3) := by decide +kernel
theorem dX4_mark_41 : decode cX4_mark 41 = .ok (.ifCond .ne 13, 3) := by decide +kernel
theorem dX4_mark_44 : decode cX4_mark 44 = .ok (.new 41, 3) := by decide +kernel
theorem dX4_mark_47 : decode cX4_mark 47 = .ok (.dup, 1) := by decide +kernel
theorem dX4_mark_48 : decode cX4_mark 48 = .ok (.ldc 51, 2) := by decide +kernel
theorem dX4_mark_50 : decode cX4_mark 50 = .ok (.invokespecial 45, 3) := by decide +kernel
theorem dX4_mark_53 : decode cX4_mark 53 = .ok (.athrow, 1) := by decide +kernel
theorem dX4_mark_54 : decode cX4_mark 54 = .ok (.iload 5, 2) := by decide +kernel
theorem dX4_mark_56 : decode cX4_mark 56 = .ok (.iconst 0, 1) := by decide +kernel
theorem dX4_mark_57 : decode cX4_mark 57 = .ok (.sipush 1000, 3) := by decide +kernel
theorem dX4_mark_60 : decode cX4_mark 60 = .ok (.invokestatic 53, 3) := by decide +kernel
theorem dX4_mark_63 : decode cX4_mark 63 = .ok (.ifCond .ne 13, 3) := by decide +kernel
theorem dX4_mark_66 : decode cX4_mark 66 = .ok (.new 41, 3) := by decide +kernel
theorem dX4_mark_69 : decode cX4_mark 69 = .ok (.dup, 1) := by decide +kernel
theorem dX4_mark_70 : decode cX4_mark 70 = .ok (.ldc 57, 2) := by decide +kernel
theorem dX4_mark_72 : decode cX4_mark 72 = .ok (.invokespecial 45, 3) := by decide +kernel
theorem dX4_mark_75 : decode cX4_mark 75 = .ok (.athrow, 1) := by decide +kernel
theorem dX4_mark_76 : decode cX4_mark 76 = .ok (.iload 4, 2) := by decide +kernel
theorem dX4_mark_78 : decode cX4_mark 78 = .ok (.iload_n 2, 1) := by decide +kernel
theorem dX4_mark_79 : decode cX4_mark 79 = .ok (.isub, 1) := by decide +kernel
theorem dX4_mark_80 : decode cX4_mark 80 = .ok (.istore 6, 2) := by decide +kernel
theorem dX4_mark_82 : decode cX4_mark 82 = .ok (.aload_n 0, 1) := by decide +kernel
theorem dX4_mark_83 : decode cX4_mark 83 = .ok (.getfield 10, 3) := by decide +kernel
theorem dX4_mark_86 : decode cX4_mark 86 = .ok (.iload_n 1, 1) := by decide +kernel
theorem dX4_mark_87 : decode cX4_mark 87 = .ok (.iload_n 3, 1) := by decide +kernel
theorem dX4_mark_88 : decode cX4_mark 88 = .ok (.iload 6, 2) := by decide +kernel
theorem dX4_mark_90 : decode cX4_mark 90 = .ok (.iload 5, 2) := by decide +kernel
theorem dX4_mark_92 : decode cX4_mark 92 = .ok (.iadd, 1) := by decide +kernel
theorem dX4_mark_93 : decode cX4_mark 93 = .ok (.invokevirtual 59, 3) := by decide +kernel
theorem dX4_mark_96 : decode cX4_mark 96 = .ok (.ifCond .eq 20, 3) := by decide +kernel
theorem dX4_mark_99 : decode cX4_mark 99 = .ok (.aload_n 0, 1) := by decide +kernel
theorem dX4_mark_100 : decode cX4_mark 100 = .ok (.getfield 10, 3) := by decide +kernel
theorem dX4_mark_103 : decode cX4_mark 103 = .ok (.iload_n 3, 1) := by decide +kernel
theorem dX4_mark_104 : decode cX4_mark 104 = .ok (.iload_n 1, 1) := by decide +kernel
theorem dX4_mark_105 : decode cX4_mark 105 = .ok (.iload 5, 2) := by decide +kernel
theorem dX4_mark_107 : decode cX4_mark 107 = .ok (.iload 6, 2) := by decide +kernel
theorem dX4_mark_109 : decode cX4_mark 109 = .ok (.isub, 1) := by decide +kernel
theorem dX4_mark_110 : decode cX4_mark 110 = .ok (.invokevirtual 59, 3) := by decide +kernel
theorem dX4_mark_113 : decode cX4_mark 113 = .ok (.ifCond .ne 13, 3) := by decide +kernel
theorem dX4_mark_116 : decode cX4_mark 116 = .ok (.new 62, 3) := by decide +kernel
theorem dX4_mark_119 : decode cX4_mark 119 = .ok (.dup, 1) := by decide +kernel
theorem dX4_mark_120 : decode cX4_mark 120 = .ok (.ldc 64, 2) := by decide +kernel
theorem dX4_mark_122 : decode cX4_mark 122 = .ok (.invokespecial 66, 3) := by decide +kernel
theorem dX4_mark_125 : decode cX4_mark 125 = .ok (.athrow, 1) := by decide +kernel
theorem dX4_mark_126 : decode cX4_mark 126 = .ok (.aload_n 0, 1) := by decide +kernel
theorem dX4_mark_127 : decode cX4_mark 127 = .ok (.getfield 10, 3) := by decide +kernel
theorem dX4_mark_130 : decode cX4_mark 130 = .ok (.iload_n 1, 1) := by decide +kernel
theorem dX4_mark_131 : decode cX4_mark 131 = .ok (.iload_n 3, 1) := by decide +kernel
theorem dX4_mark_132 : decode cX4_mark 132 = .ok (.iload 6, 2) := by decide +kernel
theorem dX4_mark_134 : decode cX4_mark 134 = .ok (.iload 5, 2) := by decide +kernel
theorem dX4_mark_136 : decode cX4_mark 136 = .ok (.iadd, 1) := by decide +kernel
theorem dX4_mark_137 : decode cX4_mark 137 = .ok (.invokevirtual 67, 3) := by decide +kernel
theorem dX4_mark_140 : decode cX4_mark 140 = .ok (.aload_n 0, 1) := by decide +kernel
theorem dX4_mark_141 : decode cX4_mark 141 = .ok (.getfield 10, 3) := by decide +kernel
theorem dX4_mark_144 : decode cX4_mark 144 = .ok (.iload_n 3, 1) := by decide +kernel
theorem dX4_mark_145 : decode cX4_mark 145 = .ok (.iload_n 1, 1) := by decide +kernel
theorem dX4_mark_146 : decode cX4_mark 146 = .ok (.iload 5, 2) := by decide +kernel
theorem dX4_mark_148 : decode cX4_mark 148 = .ok (.iload 6, 2) := by decide +kernel
theorem dX4_mark_150 : decode cX4_mark 150 = .ok (.isub, 1) := by decide +kernel
theorem dX4_mark_151 : decode cX4_mark 151 = .ok (.invokevirtual 67, 3) := by decide +kernel
theorem dX4_mark_154 : decode cX4_mark 154 = .ok (.aload_n 0, 1) := by decide +kernel
theorem dX4_mark_155 : decode cX4_mark 155 = .ok (.getfield 19, 3) := by decide +kernel
theorem dX4_mark_158 : decode cX4_mark 158 = .ok (.aload_n 0, 1) := by decide +kernel
theorem dX4_mark_159 : decode cX4_mark 159 = .ok (.getfield 10, 3) := by decide +kernel
theorem dX4_mark_162 : decode cX4_mark 162 = .ok (.invokevirtual 71, 3) := by decide +kernel
theorem dX4_mark_165 : decode cX4_mark 165 = .ok (.return_, 1) := by decide +kernel
set_option maxRecDepth 20000 in
theorem ggX4_greatest_X4_isClock : GoodIn wsX4_greatest wsX4_isClock := goodIn_r _ [7, 8, 9, 6, 10] (by decide +kernel) (by decide +kernel)
set_option maxRecDepth 20000 in
theorem gX4_greatest_X4_isClock : GoodIn wsX4_greatest (va_wsS RX4 37 yX4_isClock wsX4_isClock) := goodIn_app (goodIn_of _ (by decide +kernel)) ggX4_greatest_X4_isClock
set_option maxRecDepth 20000 in
theorem ggX4_greatest_X3_most : GoodIn wsX4_greatest wsX3_most := goodIn_r _ [15, 16, 17, 5, 6, 7, 8, 9, 10, 22] (by decide +kernel) (by decide +kernel)
set_option maxRecDepth 20000 in
theorem gX4_greatest_X3_most : GoodIn wsX4_greatest (wsV RX4 77 RX3 yX3_most wsX3_most) := goodIn_app (goodIn_of _ (by decide +kernel)) ggX4_greatest_X3_most
theorem dX4_greatest_0 : decode cX4_greatest 0 = .ok (.iload_n 1, 1) := by decide +kernel
theorem dX4_greatest_1 : decode cX4_greatest 1 = .ok (.invokestatic 37, 3) := by decide +kernel
theorem dX4_greatest_4 : decode cX4_greatest 4 = .ok (.ifCond .eq 10, 3) := by decide +kernel
theorem dX4_greatest_7 : decode cX4_greatest 7 = .ok (.iload_n 2, 1) := by decide +kernel
theorem dX4_greatest_8 : decode cX4_greatest 8 = .ok (.invokestatic 37, 3) := by decide +kernel
theorem dX4_greatest_11 : decode cX4_greatest 11 = .ok (.ifCond .ne 13, 3) := by decide +kernel
theorem dX4_greatest_14 : decode cX4_greatest 14 = .ok (.new 41, 3) := by decide +kernel
theorem dX4_greatest_17 : decode cX4_greatest 17 = .ok (.dup, 1) := by decide +kernel
theorem dX4_greatest_18 : decode cX4_greatest 18 = .ok (.ldc 75, 2) := by decide +kernel
theorem dX4_greatest_20 : decode cX4_greatest 20 = .ok (.invokespecial 45, 3) := by decide +kernel
theorem dX4_greatest_23 : decode cX4_greatest 23 = .ok (.athrow, 1) := by decide +kernel
theorem dX4_greatest_24 : decode cX4_greatest 24 = .ok (.aload_n 0, 1) := by decide +kernel
theorem dX4_greatest_25 : decode cX4_greatest 25 = .ok (.getfield 10, 3) := by decide +kernel
theorem dX4_greatest_28 : decode cX4_greatest 28 = .ok (.iload_n 1, 1) := by decide +kernel
theorem dX4_greatest_29 : decode cX4_greatest 29 = .ok (.iload_n 2, 1) := by decide +kernel
theorem dX4_greatest_30 : decode cX4_greatest 30 = .ok (.invokevirtual 77, 3) := by decide +kernel
theorem dX4_greatest_33 : decode cX4_greatest 33 = .ok (.ireturn, 1) := by decide +kernel
set_option maxRecDepth 20000 in
theorem ggX4_write_X4_isClock : GoodIn wsX4_write wsX4_isClock := goodIn_r _ [10, 11, 12, 9, 13] (by decide +kernel) (by decide +kernel)
set_option maxRecDepth 20000 in
theorem gX4_write_X4_isClock : GoodIn wsX4_write (va_wsS RX4 37 yX4_isClock wsX4_isClock) := goodIn_app (goodIn_of _ (by decide +kernel)) ggX4_write_X4_isClock
set_option maxRecDepth 20000 in
theorem ggX4_write_X4_isReading : GoodIn wsX4_write wsX4_isReading := goodIn_r _ [16, 11, 12, 9, 13] (by decide +kernel) (by decide +kernel)
set_option maxRecDepth 20000 in
theorem gX4_write_X4_isReading : GoodIn wsX4_write (va_wsS RX4 48 yX4_isReading wsX4_isReading) := goodIn_app (goodIn_of _ (by decide +kernel)) ggX4_write_X4_isReading
set_option maxRecDepth 20000 in
theorem ggX4_write_X4_isService : GoodIn wsX4_write wsX4_isService := goodIn_r _ [19, 11, 12, 9, 13] (by decide +kernel) (by decide +kernel)
set_option maxRecDepth 20000 in
theorem gX4_write_X4_isService : GoodIn wsX4_write (va_wsS RX4 81 yX4_isService wsX4_isService) := goodIn_app (goodIn_of _ (by decide +kernel)) ggX4_write_X4_isService
set_option maxRecDepth 20000 in
theorem ggX4_write_X1_size : GoodIn wsX4_write wsX1_size := goodIn_r _ [24, 25, 73, 74, 75, 76, 77, 78, 79, 80, 81] (by decide +kernel) (by decide +kernel)
set_option maxRecDepth 20000 in
theorem gX4_write_X1_size : GoodIn wsX4_write (wsV RX4 86 RX1 yX1_size wsX1_size) := goodIn_app (goodIn_of _ (by decide +kernel)) ggX4_write_X1_size
set_option maxRecDepth 20000 in
theorem ggX4_write_X1_add : GoodIn wsX4_write wsX1_add := goodIn_r _ [29, 25, 30, 31, 32, 33, 73, 74, 75, 76, 77, 78, 79, 80, 81] (by decide +kernel) (by decide +kernel)
set_option maxRecDepth 20000 in
theorem gX4_write_X1_add : GoodIn wsX4_write (wsV RX4 92 RX1 yX1_add wsX1_add) := goodIn_app (goodIn_of _ (by decide +kernel)) ggX4_write_X1_add
set_option maxRecDepth 20000 in
theorem ggX4_write_X1_arrange : GoodIn wsX4_write wsX1_arrange := goodIn_r _ [37, 25, 38, 39, 40, 41, 42, 23, 43, 44, 45, 46, 47, 30, 48, 31, 49, 50, 51, 52, 53, 54, 55, 56, 57, 58, 59, 8, 9, 10, 11, 12, 13, 60, 61, 62, 63, 64, 65, 66, 67, 68, 73, 74, 75, 76, 77, 78, 79, 80, 81, 82] (by decide +kernel) (by decide +kernel)
set_option maxRecDepth 20000 in
theorem gX4_write_X1_arrange : GoodIn wsX4_write (wsV RX4 71 RX1 yX1_arrange wsX1_arrange) := goodIn_app (goodIn_of _ (by decide +kernel)) ggX4_write_X1_arrange
theorem dX4_write_0 : decode cX4_write 0 = .ok (.iload_n 1, 1) := by decide +kernel
theorem dX4_write_1 : decode cX4_write 1 = .ok (.invokestatic 37, 3) := by decide +kernel
theorem dX4_write_4 : decode cX4_write 4 = .ok (.ifCond .eq 17, 3) := by decide +kernel
theorem dX4_write_7 : decode cX4_write 7 = .ok (.iload_n 2, 1) := by decide +kernel
theorem dX4_write_8 : decode cX4_write 8 = .ok (.invokestatic 48, 3) := by decide +kernel
theorem dX4_write_11 : decode cX4_write 11 = .ok (.ifCond .eq 10, 3) := by decide +kernel
theorem dX4_write_14 : decode cX4_write 14 = .ok (.iload_n 3, 1) := by decide +kernel
theorem dX4_write_15 : decode cX4_write 15 = .ok (.invokestatic 81, 3) := by decide +kernel
theorem dX4_write_18 : decode cX4_write 18 = .ok (.ifCond .ne 13, 3) := by decide +kernel
theorem dX4_write_21 : decode cX4_write 21 = .ok (.new 41, 3) := by decide +kernel
theorem dX4_write_24 : decode cX4_write 24 = .ok (.dup, 1) := by decide +kernel
theorem dX4_write_25 : decode cX4_write 25 = .ok (.ldc 84, 2) := by decide +kernel
theorem dX4_write_27 : decode cX4_write 27 = .ok (.invokespecial 45, 3) := by decide +kernel
theorem dX4_write_30 : decode cX4_write 30 = .ok (.athrow, 1) := by decide +kernel
theorem dX4_write_31 : decode cX4_write 31 = .ok (.aload_n 0, 1) := by decide +kernel
theorem dX4_write_32 : decode cX4_write 32 = .ok (.getfield 19, 3) := by decide +kernel
theorem dX4_write_35 : decode cX4_write 35 = .ok (.invokevirtual 86, 3) := by decide +kernel
theorem dX4_write_38 : decode cX4_write 38 = .ok (.bipush 30, 2) := by decide +kernel
theorem dX4_write_40 : decode cX4_write 40 = .ok (.if_icmp .lt 13, 3) := by decide +kernel
theorem dX4_write_43 : decode cX4_write 43 = .ok (.new 62, 3) := by decide +kernel
theorem dX4_write_46 : decode cX4_write 46 = .ok (.dup, 1) := by decide +kernel
theorem dX4_write_47 : decode cX4_write 47 = .ok (.ldc 90, 2) := by decide +kernel
theorem dX4_write_49 : decode cX4_write 49 = .ok (.invokespecial 66, 3) := by decide +kernel
theorem dX4_write_52 : decode cX4_write 52 = .ok (.athrow, 1) := by decide +kernel
theorem dX4_write_53 : decode cX4_write 53 = .ok (.aload_n 0, 1) := by decide +kernel
theorem dX4_write_54 : decode cX4_write 54 = .ok (.getfield 19, 3) := by decide +kernel
theorem dX4_write_57 : decode cX4_write 57 = .ok (.iload_n 1, 1) := by decide +kernel
theorem dX4_write_58 : decode cX4_write 58 = .ok (.iload_n 2, 1) := by decide +kernel
theorem dX4_write_59 : decode cX4_write 59 = .ok (.iload_n 3, 1) := by decide +kernel
theorem dX4_write_60 : decode cX4_write 60 = .ok (.iload 4, 2) := by decide +kernel
theorem dX4_write_62 : decode cX4_write 62 = .ok (.invokevirtual 92, 3) := by decide +kernel
theorem dX4_write_65 : decode cX4_write 65 = .ok (.istore 5, 2) := by decide +kernel
theorem dX4_write_67 : decode cX4_write 67 = .ok (.aload_n 0, 1) := by decide +kernel
theorem dX4_write_68 : decode cX4_write 68 = .ok (.getfield 19, 3) := by decide +kernel
theorem dX4_write_71 : decode cX4_write 71 = .ok (.aload_n 0, 1) := by decide +kernel
theorem dX4_write_72 : decode cX4_write 72 = .ok (.getfield 10, 3) := by decide +kernel
theorem dX4_write_75 : decode cX4_write 75 = .ok (.invokevirtual 71, 3) := by decide +kernel
theorem dX4_write_78 : decode cX4_write 78 = .ok (.iload 5, 2) := by decide +kernel
theorem dX4_write_80 : decode cX4_write 80 = .ok (.ireturn, 1) := by decide +kernel
set_option maxRecDepth 20000 in
theorem ggX4_lines_X1_size : GoodIn wsX4_lines wsX1_size := goodIn_r _ [6, 7, 12, 13, 14, 15, 16, 17, 18, 19, 20] (by decide +kernel) (by decide +kernel)
set_option maxRecDepth 20000 in
theorem gX4_lines_X1_size : GoodIn wsX4_lines (wsV RX4 86 RX1 yX1_size wsX1_size) := goodIn_app (goodIn_of _ (by decide +kernel)) ggX4_lines_X1_size
theorem dX4_lines_0 : decode cX4_lines 0 = .ok (.aload_n 0, 1) := by decide +kernel
theorem dX4_lines_1 : decode cX4_lines 1 = .ok (.getfield 19, 3) := by decide +kernel
theorem dX4_lines_4 : decode cX4_lines 4 = .ok (.invokevirtual 86, 3) := by decide +kernel
theorem dX4_lines_7 : decode cX4_lines 7 = .ok (.ireturn, 1) := by decide +kernel
set_option maxRecDepth 20000 in
theorem ggX4_mustComeBefore_X1_holds : GoodIn wsX4_mustComeBefore wsX1_holds := goodIn_r _ [8, 9, 26, 27, 28, 29, 30, 31, 32, 33, 34] (by decide +kernel) (by decide +kernel)
set_option maxRecDepth 20000 in
theorem gX4_mustComeBefore_X1_holds : GoodIn wsX4_mustComeBefore (wsV RX4 96 RX1 yX1_holds wsX1_holds) := goodIn_app (goodIn_of _ (by decide +kernel)) ggX4_mustComeBefore_X1_holds
set_option maxRecDepth 20000 in
theorem ggX4_mustComeBefore_X1_isBefore : GoodIn wsX4_mustComeBefore wsX1_isBefore := goodIn_r _ [13, 14, 15, 5, 6, 7, 8, 9, 16, 17, 18, 19, 20, 21, 26, 27, 28, 29, 30, 31, 32, 33, 34] (by decide +kernel) (by decide +kernel)
set_option maxRecDepth 20000 in
theorem gX4_mustComeBefore_X1_isBefore : GoodIn wsX4_mustComeBefore (wsV RX4 104 RX1 yX1_isBefore wsX1_isBefore) := goodIn_app (goodIn_of _ (by decide +kernel)) ggX4_mustComeBefore_X1_isBefore
theorem dX4_mustComeBefore_0 : decode cX4_mustComeBefore 0 = .ok (.aload_n 0, 1) := by decide +kernel
theorem dX4_mustComeBefore_1 : decode cX4_mustComeBefore 1 = .ok (.getfield 19, 3) := by decide +kernel
theorem dX4_mustComeBefore_4 : decode cX4_mustComeBefore 4 = .ok (.iload_n 1, 1) := by decide +kernel
theorem dX4_mustComeBefore_5 : decode cX4_mustComeBefore 5 = .ok (.invokevirtual 96, 3) := by decide +kernel
theorem dX4_mustComeBefore_8 : decode cX4_mustComeBefore 8 = .ok (.ifCond .eq 14, 3) := by decide +kernel
theorem dX4_mustComeBefore_11 : decode cX4_mustComeBefore 11 = .ok (.aload_n 0, 1) := by decide +kernel
theorem dX4_mustComeBefore_12 : decode cX4_mustComeBefore 12 = .ok (.getfield 19, 3) := by decide +kernel
theorem dX4_mustComeBefore_15 : decode cX4_mustComeBefore 15 = .ok (.iload_n 2, 1) := by decide +kernel
theorem dX4_mustComeBefore_16 : decode cX4_mustComeBefore 16 = .ok (.invokevirtual 96, 3) := by decide +kernel
theorem dX4_mustComeBefore_19 : decode cX4_mustComeBefore 19 = .ok (.ifCond .ne 13, 3) := by decide +kernel
theorem dX4_mustComeBefore_22 : decode cX4_mustComeBefore 22 = .ok (.new 99, 3) := by decide +kernel
theorem dX4_mustComeBefore_25 : decode cX4_mustComeBefore 25 = .ok (.dup, 1) := by decide +kernel
theorem dX4_mustComeBefore_26 : decode cX4_mustComeBefore 26 = .ok (.ldc 101, 2) := by decide +kernel
theorem dX4_mustComeBefore_28 : decode cX4_mustComeBefore 28 = .ok (.invokespecial 103, 3) := by decide +kernel
theorem dX4_mustComeBefore_31 : decode cX4_mustComeBefore 31 = .ok (.athrow, 1) := by decide +kernel
theorem dX4_mustComeBefore_32 : decode cX4_mustComeBefore 32 = .ok (.aload_n 0, 1) := by decide +kernel
theorem dX4_mustComeBefore_33 : decode cX4_mustComeBefore 33 = .ok (.getfield 19, 3) := by decide +kernel
theorem dX4_mustComeBefore_36 : decode cX4_mustComeBefore 36 = .ok (.iload_n 1, 1) := by decide +kernel
theorem dX4_mustComeBefore_37 : decode cX4_mustComeBefore 37 = .ok (.iload_n 2, 1) := by decide +kernel
theorem dX4_mustComeBefore_38 : decode cX4_mustComeBefore 38 = .ok (.invokevirtual 104, 3) := by decide +kernel
theorem dX4_mustComeBefore_41 : decode cX4_mustComeBefore 41 = .ok (.ireturn, 1) := by decide +kernel
set_option maxRecDepth 20000 in
theorem ggX4_lineAt_X1_holds : GoodIn wsX4_lineAt wsX1_holds := goodIn_r _ [8, 9, 20, 21, 22, 23, 24, 25, 26, 27, 28] (by decide +kernel) (by decide +kernel)
set_option maxRecDepth 20000 in
theorem gX4_lineAt_X1_holds : GoodIn wsX4_lineAt (wsV RX4 96 RX1 yX1_holds wsX1_holds) := goodIn_app (goodIn_of _ (by decide +kernel)) ggX4_lineAt_X1_holds
set_option maxRecDepth 20000 in
theorem ggX4_lineAt_X1_at : GoodIn wsX4_lineAt wsX1_at := goodIn_r _ [13, 14, 15, 5, 6, 7, 8, 9, 20, 21, 22, 23, 24, 25, 26, 27, 28] (by decide +kernel) (by decide +kernel)
set_option maxRecDepth 20000 in
theorem gX4_lineAt_X1_at : GoodIn wsX4_lineAt (wsV RX4 110 RX1 yX1_at wsX1_at) := goodIn_app (goodIn_of _ (by decide +kernel)) ggX4_lineAt_X1_at
theorem dX4_lineAt_0 : decode cX4_lineAt 0 = .ok (.aload_n 0, 1) := by decide +kernel
theorem dX4_lineAt_1 : decode cX4_lineAt 1 = .ok (.getfield 19, 3) := by decide +kernel
theorem dX4_lineAt_4 : decode cX4_lineAt 4 = .ok (.iload_n 1, 1) := by decide +kernel
theorem dX4_lineAt_5 : decode cX4_lineAt 5 = .ok (.invokevirtual 96, 3) := by decide +kernel
theorem dX4_lineAt_8 : decode cX4_lineAt 8 = .ok (.ifCond .ne 13, 3) := by decide +kernel
theorem dX4_lineAt_11 : decode cX4_lineAt 11 = .ok (.new 99, 3) := by decide +kernel
theorem dX4_lineAt_14 : decode cX4_lineAt 14 = .ok (.dup, 1) := by decide +kernel
theorem dX4_lineAt_15 : decode cX4_lineAt 15 = .ok (.ldc 108, 2) := by decide +kernel
theorem dX4_lineAt_17 : decode cX4_lineAt 17 = .ok (.invokespecial 103, 3) := by decide +kernel
theorem dX4_lineAt_20 : decode cX4_lineAt 20 = .ok (.athrow, 1) := by decide +kernel
theorem dX4_lineAt_21 : decode cX4_lineAt 21 = .ok (.aload_n 0, 1) := by decide +kernel
theorem dX4_lineAt_22 : decode cX4_lineAt 22 = .ok (.getfield 19, 3) := by decide +kernel
theorem dX4_lineAt_25 : decode cX4_lineAt 25 = .ok (.iload_n 1, 1) := by decide +kernel
theorem dX4_lineAt_26 : decode cX4_lineAt 26 = .ok (.invokevirtual 110, 3) := by decide +kernel
theorem dX4_lineAt_29 : decode cX4_lineAt 29 = .ok (.ireturn, 1) := by decide +kernel
set_option maxRecDepth 20000 in
theorem ggX4_orders_X1_size : GoodIn wsX4_orders wsX1_size := goodIn_r _ [8, 9, 27, 28, 29, 30, 31, 32, 33, 34, 35] (by decide +kernel) (by decide +kernel)
set_option maxRecDepth 20000 in
theorem gX4_orders_X1_size : GoodIn wsX4_orders (wsV RX4 86 RX1 yX1_size wsX1_size) := goodIn_app (goodIn_of _ (by decide +kernel)) ggX4_orders_X1_size
set_option maxRecDepth 20000 in
theorem ggX4_orders_X1_countOrders : GoodIn wsX4_orders wsX1_countOrders := goodIn_r _ [13, 9, 14, 15, 16, 17, 18, 19, 20, 7, 21, 22, 27, 28, 29, 30, 31, 32, 33, 34, 35] (by decide +kernel) (by decide +kernel)
set_option maxRecDepth 20000 in
theorem gX4_orders_X1_countOrders : GoodIn wsX4_orders (wsV RX4 116 RX1 yX1_countOrders wsX1_countOrders) := goodIn_app (goodIn_of _ (by decide +kernel)) ggX4_orders_X1_countOrders
theorem dX4_orders_0 : decode cX4_orders 0 = .ok (.aload_n 0, 1) := by decide +kernel
theorem dX4_orders_1 : decode cX4_orders 1 = .ok (.getfield 19, 3) := by decide +kernel
theorem dX4_orders_4 : decode cX4_orders 4 = .ok (.invokevirtual 86, 3) := by decide +kernel
theorem dX4_orders_7 : decode cX4_orders 7 = .ok (.bipush 12, 2) := by decide +kernel
theorem dX4_orders_9 : decode cX4_orders 9 = .ok (.if_icmp .le 13, 3) := by decide +kernel
theorem dX4_orders_12 : decode cX4_orders 12 = .ok (.new 62, 3) := by decide +kernel
theorem dX4_orders_15 : decode cX4_orders 15 = .ok (.dup, 1) := by decide +kernel
theorem dX4_orders_16 : decode cX4_orders 16 = .ok (.ldc 114, 2) := by decide +kernel
theorem dX4_orders_18 : decode cX4_orders 18 = .ok (.invokespecial 66, 3) := by decide +kernel
theorem dX4_orders_21 : decode cX4_orders 21 = .ok (.athrow, 1) := by decide +kernel
theorem dX4_orders_22 : decode cX4_orders 22 = .ok (.aload_n 0, 1) := by decide +kernel
theorem dX4_orders_23 : decode cX4_orders 23 = .ok (.getfield 19, 3) := by decide +kernel
theorem dX4_orders_26 : decode cX4_orders 26 = .ok (.invokevirtual 116, 3) := by decide +kernel
theorem dX4_orders_29 : decode cX4_orders 29 = .ok (.lreturn, 1) := by decide +kernel
set_option maxRecDepth 20000 in
theorem ggX4_argue_X1_holds : GoodIn wsX4_argue wsX1_holds := goodIn_r _ [10, 11, 26, 27, 28, 29, 30, 31, 32, 33, 34] (by decide +kernel) (by decide +kernel)
set_option maxRecDepth 20000 in
theorem gX4_argue_X1_holds : GoodIn wsX4_argue (wsV RX4 96 RX1 yX1_holds wsX1_holds) := goodIn_app (goodIn_of _ (by decide +kernel)) ggX4_argue_X1_holds
set_option maxRecDepth 20000 in
theorem ggX4_argue_X4_isWithin : GoodIn wsX4_argue wsX4_isWithin := goodIn_r _ [15] (by decide +kernel) (by decide +kernel)
set_option maxRecDepth 20000 in
theorem gX4_argue_X4_isWithin : GoodIn wsX4_argue (va_wsS RX4 53 yX4_isWithin wsX4_isWithin) := goodIn_app (goodIn_of _ (by decide +kernel)) ggX4_argue_X4_isWithin
set_option maxRecDepth 20000 in
theorem ggX4_argue_X1_weigh : GoodIn wsX4_argue wsX1_weigh := goodIn_r _ [19, 20, 21, 7, 8, 9, 10, 11, 26, 27, 28, 29, 30, 31, 32, 33, 34] (by decide +kernel) (by decide +kernel)
set_option maxRecDepth 20000 in
theorem gX4_argue_X1_weigh : GoodIn wsX4_argue (wsV RX4 122 RX1 yX1_weigh wsX1_weigh) := goodIn_app (goodIn_of _ (by decide +kernel)) ggX4_argue_X1_weigh
theorem dX4_argue_0 : decode cX4_argue 0 = .ok (.aload_n 0, 1) := by decide +kernel
theorem dX4_argue_1 : decode cX4_argue 1 = .ok (.getfield 19, 3) := by decide +kernel
theorem dX4_argue_4 : decode cX4_argue 4 = .ok (.iload_n 1, 1) := by decide +kernel
theorem dX4_argue_5 : decode cX4_argue 5 = .ok (.invokevirtual 96, 3) := by decide +kernel
theorem dX4_argue_8 : decode cX4_argue 8 = .ok (.ifCond .ne 13, 3) := by decide +kernel
theorem dX4_argue_11 : decode cX4_argue 11 = .ok (.new 99, 3) := by decide +kernel
theorem dX4_argue_14 : decode cX4_argue 14 = .ok (.dup, 1) := by decide +kernel
theorem dX4_argue_15 : decode cX4_argue 15 = .ok (.ldc 101, 2) := by decide +kernel
theorem dX4_argue_17 : decode cX4_argue 17 = .ok (.invokespecial 103, 3) := by decide +kernel
theorem dX4_argue_20 : decode cX4_argue 20 = .ok (.athrow, 1) := by decide +kernel
theorem dX4_argue_21 : decode cX4_argue 21 = .ok (.iload_n 2, 1) := by decide +kernel
theorem dX4_argue_22 : decode cX4_argue 22 = .ok (.iconst 1, 1) := by decide +kernel
theorem dX4_argue_23 : decode cX4_argue 23 = .ok (.bipush 100, 2) := by decide +kernel
theorem dX4_argue_25 : decode cX4_argue 25 = .ok (.invokestatic 53, 3) := by decide +kernel
theorem dX4_argue_28 : decode cX4_argue 28 = .ok (.ifCond .ne 13, 3) := by decide +kernel
theorem dX4_argue_31 : decode cX4_argue 31 = .ok (.new 41, 3) := by decide +kernel
theorem dX4_argue_34 : decode cX4_argue 34 = .ok (.dup, 1) := by decide +kernel
theorem dX4_argue_35 : decode cX4_argue 35 = .ok (.ldc 120, 2) := by decide +kernel
theorem dX4_argue_37 : decode cX4_argue 37 = .ok (.invokespecial 45, 3) := by decide +kernel
theorem dX4_argue_40 : decode cX4_argue 40 = .ok (.athrow, 1) := by decide +kernel
theorem dX4_argue_41 : decode cX4_argue 41 = .ok (.aload_n 0, 1) := by decide +kernel
theorem dX4_argue_42 : decode cX4_argue 42 = .ok (.getfield 19, 3) := by decide +kernel
theorem dX4_argue_45 : decode cX4_argue 45 = .ok (.iload_n 1, 1) := by decide +kernel
theorem dX4_argue_46 : decode cX4_argue 46 = .ok (.iload_n 3, 1) := by decide +kernel
theorem dX4_argue_47 : decode cX4_argue 47 = .ok (.ifCond .eq 7, 3) := by decide +kernel
theorem dX4_argue_50 : decode cX4_argue 50 = .ok (.iload_n 2, 1) := by decide +kernel
theorem dX4_argue_51 : decode cX4_argue 51 = .ok (.goto 5, 3) := by decide +kernel
theorem dX4_argue_54 : decode cX4_argue 54 = .ok (.iload_n 2, 1) := by decide +kernel
theorem dX4_argue_55 : decode cX4_argue 55 = .ok (.ineg, 1) := by decide +kernel
theorem dX4_argue_56 : decode cX4_argue 56 = .ok (.invokevirtual 122, 3) := by decide +kernel
theorem dX4_argue_59 : decode cX4_argue 59 = .ok (.ireturn, 1) := by decide +kernel
set_option maxRecDepth 20000 in
theorem ggX4_isDoubtful_X1_holds : GoodIn wsX4_isDoubtful wsX1_holds := goodIn_r _ [8, 9, 20, 21, 22, 23, 24, 25, 26, 27, 28] (by decide +kernel) (by decide +kernel)
set_option maxRecDepth 20000 in
theorem gX4_isDoubtful_X1_holds : GoodIn wsX4_isDoubtful (wsV RX4 96 RX1 yX1_holds wsX1_holds) := goodIn_app (goodIn_of _ (by decide +kernel)) ggX4_isDoubtful_X1_holds
set_option maxRecDepth 20000 in
theorem ggX4_isDoubtful_X1_isDoubted : GoodIn wsX4_isDoubtful wsX1_isDoubted := goodIn_r _ [13, 14, 15, 5, 6, 7, 8, 9, 20, 21, 22, 23, 24, 25, 26, 27, 28] (by decide +kernel) (by decide +kernel)
set_option maxRecDepth 20000 in
theorem gX4_isDoubtful_X1_isDoubted : GoodIn wsX4_isDoubtful (wsV RX4 125 RX1 yX1_isDoubted wsX1_isDoubted) := goodIn_app (goodIn_of _ (by decide +kernel)) ggX4_isDoubtful_X1_isDoubted
theorem dX4_isDoubtful_0 : decode cX4_isDoubtful 0 = .ok (.aload_n 0, 1) := by decide +kernel
theorem dX4_isDoubtful_1 : decode cX4_isDoubtful 1 = .ok (.getfield 19, 3) := by decide +kernel
theorem dX4_isDoubtful_4 : decode cX4_isDoubtful 4 = .ok (.iload_n 1, 1) := by decide +kernel
theorem dX4_isDoubtful_5 : decode cX4_isDoubtful 5 = .ok (.invokevirtual 96, 3) := by decide +kernel
theorem dX4_isDoubtful_8 : decode cX4_isDoubtful 8 = .ok (.ifCond .ne 13, 3) := by decide +kernel
theorem dX4_isDoubtful_11 : decode cX4_isDoubtful 11 = .ok (.new 99, 3) := by decide +kernel
theorem dX4_isDoubtful_14 : decode cX4_isDoubtful 14 = .ok (.dup, 1) := by decide +kernel
theorem dX4_isDoubtful_15 : decode cX4_isDoubtful 15 = .ok (.ldc 101, 2) := by decide +kernel
theorem dX4_isDoubtful_17 : decode cX4_isDoubtful 17 = .ok (.invokespecial 103, 3) := by decide +kernel
theorem dX4_isDoubtful_20 : decode cX4_isDoubtful 20 = .ok (.athrow, 1) := by decide +kernel
theorem dX4_isDoubtful_21 : decode cX4_isDoubtful 21 = .ok (.aload_n 0, 1) := by decide +kernel
theorem dX4_isDoubtful_22 : decode cX4_isDoubtful 22 = .ok (.getfield 19, 3) := by decide +kernel
theorem dX4_isDoubtful_25 : decode cX4_isDoubtful 25 = .ok (.iload_n 1, 1) := by decide +kernel
theorem dX4_isDoubtful_26 : decode cX4_isDoubtful 26 = .ok (.invokevirtual 125, 3) := by decide +kernel
theorem dX4_isDoubtful_29 : decode cX4_isDoubtful 29 = .ok (.ireturn, 1) := by decide +kernel
set_option maxRecDepth 20000 in
theorem ggX4_story_X1_storySize : GoodIn wsX4_story wsX1_storySize := goodIn_r _ [6, 7, 8, 9, 10, 5, 11, 12, 13, 14, 15, 16, 17, 18, 19, 20, 21, 22, 27, 28, 29, 30, 31, 32, 33, 34, 35] (by decide +kernel) (by decide +kernel)
set_option maxRecDepth 20000 in
theorem gX4_story_X1_storySize : GoodIn wsX4_story (wsV RX4 128 RX1 yX1_storySize wsX1_storySize) := goodIn_app (goodIn_of _ (by decide +kernel)) ggX4_story_X1_storySize
theorem dX4_story_0 : decode cX4_story 0 = .ok (.aload_n 0, 1) := by decide +kernel
theorem dX4_story_1 : decode cX4_story 1 = .ok (.getfield 19, 3) := by decide +kernel
theorem dX4_story_4 : decode cX4_story 4 = .ok (.invokevirtual 128, 3) := by decide +kernel
theorem dX4_story_7 : decode cX4_story 7 = .ok (.ireturn, 1) := by decide +kernel
set_option maxRecDepth 20000 in
theorem ggX4_storyAt_X1_storyLine : GoodIn wsX4_storyAt wsX1_storyLine := goodIn_r _ [8, 9, 10, 11, 12, 7, 13, 14, 15, 16, 17, 18, 19, 20, 21, 22, 23, 24, 29, 30, 31, 32, 33, 34, 35, 36, 37] (by decide +kernel) (by decide +kernel)
set_option maxRecDepth 20000 in
theorem gX4_storyAt_X1_storyLine : GoodIn wsX4_storyAt (wsV RX4 131 RX1 yX1_storyLine wsX1_storyLine) := goodIn_app (goodIn_of _ (by decide +kernel)) ggX4_storyAt_X1_storyLine
theorem dX4_storyAt_0 : decode cX4_storyAt 0 = .ok (.aload_n 0, 1) := by decide +kernel
theorem dX4_storyAt_1 : decode cX4_storyAt 1 = .ok (.getfield 19, 3) := by decide +kernel
theorem dX4_storyAt_4 : decode cX4_storyAt 4 = .ok (.iload_n 1, 1) := by decide +kernel
theorem dX4_storyAt_5 : decode cX4_storyAt 5 = .ok (.invokevirtual 131, 3) := by decide +kernel
theorem dX4_storyAt_8 : decode cX4_storyAt 8 = .ok (.istore_n 2, 1) := by decide +kernel
theorem dX4_storyAt_9 : decode cX4_storyAt 9 = .ok (.iload_n 2, 1) := by decide +kernel
theorem dX4_storyAt_10 : decode cX4_storyAt 10 = .ok (.iconst (-1), 1) := by decide +kernel
theorem dX4_storyAt_11 : decode cX4_storyAt 11 = .ok (.if_icmp .ne 13, 3) := by decide +kernel
theorem dX4_storyAt_14 : decode cX4_storyAt 14 = .ok (.new 99, 3) := by decide +kernel
theorem dX4_storyAt_17 : decode cX4_storyAt 17 = .ok (.dup, 1) := by decide +kernel
theorem dX4_storyAt_18 : decode cX4_storyAt 18 = .ok (.ldc 108, 2) := by decide +kernel
theorem dX4_storyAt_20 : decode cX4_storyAt 20 = .ok (.invokespecial 103, 3) := by decide +kernel
theorem dX4_storyAt_23 : decode cX4_storyAt 23 = .ok (.athrow, 1) := by decide +kernel
theorem dX4_storyAt_24 : decode cX4_storyAt 24 = .ok (.iload_n 2, 1) := by decide +kernel
theorem dX4_storyAt_25 : decode cX4_storyAt 25 = .ok (.ireturn, 1) := by decide +kernel
set_option maxRecDepth 20000 in
theorem ggX4_earliest_X1_holds : GoodIn wsX4_earliest wsX1_holds := goodIn_r _ [9, 10, 37, 38, 39, 40, 41, 42, 43, 44, 45] (by decide +kernel) (by decide +kernel)
set_option maxRecDepth 20000 in
theorem gX4_earliest_X1_holds : GoodIn wsX4_earliest (wsV RX4 96 RX1 yX1_holds wsX1_holds) := goodIn_app (goodIn_of _ (by decide +kernel)) ggX4_earliest_X1_holds
set_option maxRecDepth 20000 in
theorem ggX4_earliest_X1_earliestTime : GoodIn wsX4_earliest wsX1_earliestTime := goodIn_r _ [14, 15, 16, 17, 18, 19, 6, 7, 8, 9, 10, 20, 21, 22, 23, 24, 25, 26, 27, 28, 29, 30, 31, 32, 37, 38, 39, 40, 41, 42, 43, 44, 45, 46] (by decide +kernel) (by decide +kernel)
set_option maxRecDepth 20000 in
theorem gX4_earliest_X1_earliestTime : GoodIn wsX4_earliest (wsV RX4 134 RX1 yX1_earliestTime wsX1_earliestTime) := goodIn_app (goodIn_of _ (by decide +kernel)) ggX4_earliest_X1_earliestTime
theorem dX4_earliest_0 : decode cX4_earliest 0 = .ok (.aload_n 0, 1) := by decide +kernel
theorem dX4_earliest_1 : decode cX4_earliest 1 = .ok (.getfield 19, 3) := by decide +kernel
theorem dX4_earliest_4 : decode cX4_earliest 4 = .ok (.iload_n 1, 1) := by decide +kernel
theorem dX4_earliest_5 : decode cX4_earliest 5 = .ok (.invokevirtual 96, 3) := by decide +kernel
theorem dX4_earliest_8 : decode cX4_earliest 8 = .ok (.ifCond .ne 13, 3) := by decide +kernel
theorem dX4_earliest_11 : decode cX4_earliest 11 = .ok (.new 99, 3) := by decide +kernel
theorem dX4_earliest_14 : decode cX4_earliest 14 = .ok (.dup, 1) := by decide +kernel
theorem dX4_earliest_15 : decode cX4_earliest 15 = .ok (.ldc 101, 2) := by decide +kernel
theorem dX4_earliest_17 : decode cX4_earliest 17 = .ok (.invokespecial 103, 3) := by decide +kernel
theorem dX4_earliest_20 : decode cX4_earliest 20 = .ok (.athrow, 1) := by decide +kernel
theorem dX4_earliest_21 : decode cX4_earliest 21 = .ok (.aload_n 0, 1) := by decide +kernel
theorem dX4_earliest_22 : decode cX4_earliest 22 = .ok (.getfield 19, 3) := by decide +kernel
theorem dX4_earliest_25 : decode cX4_earliest 25 = .ok (.iload_n 1, 1) := by decide +kernel
theorem dX4_earliest_26 : decode cX4_earliest 26 = .ok (.aload_n 0, 1) := by decide +kernel
theorem dX4_earliest_27 : decode cX4_earliest 27 = .ok (.getfield 10, 3) := by decide +kernel
theorem dX4_earliest_30 : decode cX4_earliest 30 = .ok (.invokevirtual 134, 3) := by decide +kernel
theorem dX4_earliest_33 : decode cX4_earliest 33 = .ok (.ireturn, 1) := by decide +kernel
set_option maxRecDepth 20000 in
theorem ggX4_firstOf_X4_isService : GoodIn wsX4_firstOf wsX4_isService := goodIn_r _ [7, 8, 9, 6, 10] (by decide +kernel) (by decide +kernel)
set_option maxRecDepth 20000 in
theorem gX4_firstOf_X4_isService : GoodIn wsX4_firstOf (va_wsS RX4 81 yX4_isService wsX4_isService) := goodIn_app (goodIn_of _ (by decide +kernel)) ggX4_firstOf_X4_isService
set_option maxRecDepth 20000 in
theorem ggX4_firstOf_X1_firstLine : GoodIn wsX4_firstOf wsX1_firstLine := goodIn_r _ [15, 16, 17, 18, 19, 20, 14, 21, 22, 23, 24, 25, 26, 31, 32, 33, 34, 35, 36, 37, 38, 39] (by decide +kernel) (by decide +kernel)
set_option maxRecDepth 20000 in
theorem gX4_firstOf_X1_firstLine : GoodIn wsX4_firstOf (wsV RX4 140 RX1 yX1_firstLine wsX1_firstLine) := goodIn_app (goodIn_of _ (by decide +kernel)) ggX4_firstOf_X1_firstLine
theorem dX4_firstOf_0 : decode cX4_firstOf 0 = .ok (.iload_n 1, 1) := by decide +kernel
theorem dX4_firstOf_1 : decode cX4_firstOf 1 = .ok (.invokestatic 81, 3) := by decide +kernel
theorem dX4_firstOf_4 : decode cX4_firstOf 4 = .ok (.ifCond .ne 13, 3) := by decide +kernel
theorem dX4_firstOf_7 : decode cX4_firstOf 7 = .ok (.new 41, 3) := by decide +kernel
theorem dX4_firstOf_10 : decode cX4_firstOf 10 = .ok (.dup, 1) := by decide +kernel
theorem dX4_firstOf_11 : decode cX4_firstOf 11 = .ok (.ldc 138, 2) := by decide +kernel
theorem dX4_firstOf_13 : decode cX4_firstOf 13 = .ok (.invokespecial 45, 3) := by decide +kernel
theorem dX4_firstOf_16 : decode cX4_firstOf 16 = .ok (.athrow, 1) := by decide +kernel
theorem dX4_firstOf_17 : decode cX4_firstOf 17 = .ok (.aload_n 0, 1) := by decide +kernel
theorem dX4_firstOf_18 : decode cX4_firstOf 18 = .ok (.getfield 19, 3) := by decide +kernel
theorem dX4_firstOf_21 : decode cX4_firstOf 21 = .ok (.iload_n 1, 1) := by decide +kernel
theorem dX4_firstOf_22 : decode cX4_firstOf 22 = .ok (.invokevirtual 140, 3) := by decide +kernel
theorem dX4_firstOf_25 : decode cX4_firstOf 25 = .ok (.ireturn, 1) := by decide +kernel
set_option maxRecDepth 20000 in
theorem ggX4_measure_X4_isService : GoodIn wsX4_measure wsX4_isService := goodIn_r _ [9, 10, 11, 8, 12] (by decide +kernel) (by decide +kernel)
set_option maxRecDepth 20000 in
theorem gX4_measure_X4_isService : GoodIn wsX4_measure (va_wsS RX4 81 yX4_isService wsX4_isService) := goodIn_app (goodIn_of _ (by decide +kernel)) ggX4_measure_X4_isService
set_option maxRecDepth 20000 in
theorem ggX4_measure_X4_isWithin : GoodIn wsX4_measure wsX4_isWithin := goodIn_r _ [12] (by decide +kernel) (by decide +kernel)
set_option maxRecDepth 20000 in
theorem gX4_measure_X4_isWithin : GoodIn wsX4_measure (va_wsS RX4 53 yX4_isWithin wsX4_isWithin) := goodIn_app (goodIn_of _ (by decide +kernel)) ggX4_measure_X4_isWithin
set_option maxRecDepth 20000 in
theorem ggX4_measure_X2_size : GoodIn wsX4_measure wsX2_size := goodIn_r _ [17, 18, 31, 32, 33, 34, 35] (by decide +kernel) (by decide +kernel)
set_option maxRecDepth 20000 in
theorem gX4_measure_X2_size : GoodIn wsX4_measure (wsV RX4 147 RX2 yX2_size wsX2_size) := goodIn_app (goodIn_of _ (by decide +kernel)) ggX4_measure_X2_size
set_option maxRecDepth 20000 in
theorem ggX4_measure_X2_add : GoodIn wsX4_measure wsX2_add := goodIn_r _ [22, 18, 23, 24, 25, 26, 31, 32, 33, 34, 35] (by decide +kernel) (by decide +kernel)
set_option maxRecDepth 20000 in
theorem gX4_measure_X2_add : GoodIn wsX4_measure (wsV RX4 150 RX2 yX2_add wsX2_add) := goodIn_app (goodIn_of _ (by decide +kernel)) ggX4_measure_X2_add
theorem dX4_measure_0 : decode cX4_measure 0 = .ok (.iload_n 1, 1) := by decide +kernel
theorem dX4_measure_1 : decode cX4_measure 1 = .ok (.invokestatic 81, 3) := by decide +kernel
theorem dX4_measure_4 : decode cX4_measure 4 = .ok (.ifCond .eq 14, 3) := by decide +kernel
theorem dX4_measure_7 : decode cX4_measure 7 = .ok (.iload 4, 2) := by decide +kernel
theorem dX4_measure_9 : decode cX4_measure 9 = .ok (.iconst 0, 1) := by decide +kernel
theorem dX4_measure_10 : decode cX4_measure 10 = .ok (.bipush 100, 2) := by decide +kernel
theorem dX4_measure_12 : decode cX4_measure 12 = .ok (.invokestatic 53, 3) := by decide +kernel
theorem dX4_measure_15 : decode cX4_measure 15 = .ok (.ifCond .ne 13, 3) := by decide +kernel
theorem dX4_measure_18 : decode cX4_measure 18 = .ok (.new 41, 3) := by decide +kernel
theorem dX4_measure_21 : decode cX4_measure 21 = .ok (.dup, 1) := by decide +kernel
theorem dX4_measure_22 : decode cX4_measure 22 = .ok (.ldc 143, 2) := by decide +kernel
theorem dX4_measure_24 : decode cX4_measure 24 = .ok (.invokespecial 45, 3) := by decide +kernel
theorem dX4_measure_27 : decode cX4_measure 27 = .ok (.athrow, 1) := by decide +kernel
theorem dX4_measure_28 : decode cX4_measure 28 = .ok (.iload_n 2, 1) := by decide +kernel
theorem dX4_measure_29 : decode cX4_measure 29 = .ok (.iconst 0, 1) := by decide +kernel
theorem dX4_measure_30 : decode cX4_measure 30 = .ok (.sipush 10000, 3) := by decide +kernel
theorem dX4_measure_33 : decode cX4_measure 33 = .ok (.invokestatic 53, 3) := by decide +kernel
theorem dX4_measure_36 : decode cX4_measure 36 = .ok (.ifCond .eq 14, 3) := by decide +kernel
theorem dX4_measure_39 : decode cX4_measure 39 = .ok (.iload_n 3, 1) := by decide +kernel
theorem dX4_measure_40 : decode cX4_measure 40 = .ok (.iload_n 2, 1) := by decide +kernel
theorem dX4_measure_41 : decode cX4_measure 41 = .ok (.sipush 10000, 3) := by decide +kernel
theorem dX4_measure_44 : decode cX4_measure 44 = .ok (.invokestatic 53, 3) := by decide +kernel
theorem dX4_measure_47 : decode cX4_measure 47 = .ok (.ifCond .ne 13, 3) := by decide +kernel
theorem dX4_measure_50 : decode cX4_measure 50 = .ok (.new 41, 3) := by decide +kernel
theorem dX4_measure_53 : decode cX4_measure 53 = .ok (.dup, 1) := by decide +kernel
theorem dX4_measure_54 : decode cX4_measure 54 = .ok (.ldc 145, 2) := by decide +kernel
theorem dX4_measure_56 : decode cX4_measure 56 = .ok (.invokespecial 45, 3) := by decide +kernel
theorem dX4_measure_59 : decode cX4_measure 59 = .ok (.athrow, 1) := by decide +kernel
theorem dX4_measure_60 : decode cX4_measure 60 = .ok (.aload_n 0, 1) := by decide +kernel
theorem dX4_measure_61 : decode cX4_measure 61 = .ok (.getfield 26, 3) := by decide +kernel
theorem dX4_measure_64 : decode cX4_measure 64 = .ok (.invokevirtual 147, 3) := by decide +kernel
theorem dX4_measure_67 : decode cX4_measure 67 = .ok (.bipush 40, 2) := by decide +kernel
theorem dX4_measure_69 : decode cX4_measure 69 = .ok (.if_icmp .lt 13, 3) := by decide +kernel
theorem dX4_measure_72 : decode cX4_measure 72 = .ok (.new 62, 3) := by decide +kernel
theorem dX4_measure_75 : decode cX4_measure 75 = .ok (.dup, 1) := by decide +kernel
theorem dX4_measure_76 : decode cX4_measure 76 = .ok (.ldc 148, 2) := by decide +kernel
theorem dX4_measure_78 : decode cX4_measure 78 = .ok (.invokespecial 66, 3) := by decide +kernel
theorem dX4_measure_81 : decode cX4_measure 81 = .ok (.athrow, 1) := by decide +kernel
theorem dX4_measure_82 : decode cX4_measure 82 = .ok (.aload_n 0, 1) := by decide +kernel
theorem dX4_measure_83 : decode cX4_measure 83 = .ok (.getfield 26, 3) := by decide +kernel
theorem dX4_measure_86 : decode cX4_measure 86 = .ok (.iload_n 1, 1) := by decide +kernel
theorem dX4_measure_87 : decode cX4_measure 87 = .ok (.iload_n 2, 1) := by decide +kernel
theorem dX4_measure_88 : decode cX4_measure 88 = .ok (.iload_n 3, 1) := by decide +kernel
theorem dX4_measure_89 : decode cX4_measure 89 = .ok (.iload 4, 2) := by decide +kernel
theorem dX4_measure_91 : decode cX4_measure 91 = .ok (.invokevirtual 150, 3) := by decide +kernel
theorem dX4_measure_94 : decode cX4_measure 94 = .ok (.ireturn, 1) := by decide +kernel
set_option maxRecDepth 20000 in
theorem ggX4_impact_X4_isService : GoodIn wsX4_impact wsX4_isService := goodIn_r _ [7, 8, 9, 6, 10] (by decide +kernel) (by decide +kernel)
set_option maxRecDepth 20000 in
theorem gX4_impact_X4_isService : GoodIn wsX4_impact (va_wsS RX4 81 yX4_isService wsX4_isService) := goodIn_app (goodIn_of _ (by decide +kernel)) ggX4_impact_X4_isService
set_option maxRecDepth 20000 in
theorem ggX4_impact_X2_sumOfWorst : GoodIn wsX4_impact wsX2_sumOfWorst := goodIn_r _ [15, 16, 17, 18, 19, 14, 20, 21, 22, 23, 24, 25, 26, 27, 28, 29, 30, 31, 32, 33, 34, 35, 9, 6, 10, 40, 41, 42, 43, 44] (by decide +kernel) (by decide +kernel)
set_option maxRecDepth 20000 in
theorem gX4_impact_X2_sumOfWorst : GoodIn wsX4_impact (wsV RX4 153 RX2 yX2_sumOfWorst wsX2_sumOfWorst) := goodIn_app (goodIn_of _ (by decide +kernel)) ggX4_impact_X2_sumOfWorst
theorem dX4_impact_0 : decode cX4_impact 0 = .ok (.iload_n 1, 1) := by decide +kernel
theorem dX4_impact_1 : decode cX4_impact 1 = .ok (.invokestatic 81, 3) := by decide +kernel
theorem dX4_impact_4 : decode cX4_impact 4 = .ok (.ifCond .ne 13, 3) := by decide +kernel
theorem dX4_impact_7 : decode cX4_impact 7 = .ok (.new 41, 3) := by decide +kernel
theorem dX4_impact_10 : decode cX4_impact 10 = .ok (.dup, 1) := by decide +kernel
theorem dX4_impact_11 : decode cX4_impact 11 = .ok (.ldc 138, 2) := by decide +kernel
theorem dX4_impact_13 : decode cX4_impact 13 = .ok (.invokespecial 45, 3) := by decide +kernel
theorem dX4_impact_16 : decode cX4_impact 16 = .ok (.athrow, 1) := by decide +kernel
theorem dX4_impact_17 : decode cX4_impact 17 = .ok (.aload_n 0, 1) := by decide +kernel
theorem dX4_impact_18 : decode cX4_impact 18 = .ok (.getfield 26, 3) := by decide +kernel
theorem dX4_impact_21 : decode cX4_impact 21 = .ok (.iload_n 1, 1) := by decide +kernel
theorem dX4_impact_22 : decode cX4_impact 22 = .ok (.invokevirtual 153, 3) := by decide +kernel
theorem dX4_impact_25 : decode cX4_impact 25 = .ok (.ireturn, 1) := by decide +kernel
set_option maxRecDepth 20000 in
theorem ggX4_minutes_X2_failedMinutes : GoodIn wsX4_minutes wsX2_failedMinutes := goodIn_r _ [6, 7, 8, 9, 10, 5, 11, 12, 13, 14, 15, 16, 17, 18, 19, 20, 21, 22, 23, 24, 25, 26, 27, 28, 29, 34, 35, 36, 37, 38] (by decide +kernel) (by decide +kernel)
set_option maxRecDepth 20000 in
theorem gX4_minutes_X2_failedMinutes : GoodIn wsX4_minutes (wsV RX4 156 RX2 yX2_failedMinutes wsX2_failedMinutes) := goodIn_app (goodIn_of _ (by decide +kernel)) ggX4_minutes_X2_failedMinutes
theorem dX4_minutes_0 : decode cX4_minutes 0 = .ok (.aload_n 0, 1) := by decide +kernel
theorem dX4_minutes_1 : decode cX4_minutes 1 = .ok (.getfield 26, 3) := by decide +kernel
theorem dX4_minutes_4 : decode cX4_minutes 4 = .ok (.invokevirtual 156, 3) := by decide +kernel
theorem dX4_minutes_7 : decode cX4_minutes 7 = .ok (.ireturn, 1) := by decide +kernel
set_option maxRecDepth 20000 in
theorem ggX4_addCause_X0_size : GoodIn wsX4_addCause wsX0_size := goodIn_r _ [8, 9, 22, 23, 24] (by decide +kernel) (by decide +kernel)
set_option maxRecDepth 20000 in
theorem gX4_addCause_X0_size : GoodIn wsX4_addCause (wsV RX4 159 RX0 yX0_size wsX0_size) := goodIn_app (goodIn_of _ (by decide +kernel)) ggX4_addCause_X0_size
set_option maxRecDepth 20000 in
theorem ggX4_addCause_X0_add : GoodIn wsX4_addCause wsX0_add := goodIn_r _ [13, 9, 14, 15, 16, 17, 22, 23, 24] (by decide +kernel) (by decide +kernel)
set_option maxRecDepth 20000 in
theorem gX4_addCause_X0_add : GoodIn wsX4_addCause (wsV RX4 162 RX0 yX0_add wsX0_add) := goodIn_app (goodIn_of _ (by decide +kernel)) ggX4_addCause_X0_add
theorem dX4_addCause_0 : decode cX4_addCause 0 = .ok (.aload_n 0, 1) := by decide +kernel
theorem dX4_addCause_1 : decode cX4_addCause 1 = .ok (.getfield 33, 3) := by decide +kernel
theorem dX4_addCause_4 : decode cX4_addCause 4 = .ok (.invokevirtual 159, 3) := by decide +kernel
theorem dX4_addCause_7 : decode cX4_addCause 7 = .ok (.bipush 16, 2) := by decide +kernel
theorem dX4_addCause_9 : decode cX4_addCause 9 = .ok (.if_icmp .lt 13, 3) := by decide +kernel
theorem dX4_addCause_12 : decode cX4_addCause 12 = .ok (.new 62, 3) := by decide +kernel
theorem dX4_addCause_15 : decode cX4_addCause 15 = .ok (.dup, 1) := by decide +kernel
theorem dX4_addCause_16 : decode cX4_addCause 16 = .ok (.ldc 160, 2) := by decide +kernel
theorem dX4_addCause_18 : decode cX4_addCause 18 = .ok (.invokespecial 66, 3) := by decide +kernel
theorem dX4_addCause_21 : decode cX4_addCause 21 = .ok (.athrow, 1) := by decide +kernel
theorem dX4_addCause_22 : decode cX4_addCause 22 = .ok (.aload_n 0, 1) := by decide +kernel
theorem dX4_addCause_23 : decode cX4_addCause 23 = .ok (.getfield 33, 3) := by decide +kernel
theorem dX4_addCause_26 : decode cX4_addCause 26 = .ok (.invokevirtual 162, 3) := by decide +kernel
theorem dX4_addCause_29 : decode cX4_addCause 29 = .ok (.ireturn, 1) := by decide +kernel
set_option maxRecDepth 20000 in
theorem ggX4_argueReason_X0_holds : GoodIn wsX4_argueReason wsX0_holds := goodIn_r _ [12, 13, 49, 50, 51] (by decide +kernel) (by decide +kernel)
set_option maxRecDepth 20000 in
theorem gX4_argueReason_X0_holds : GoodIn wsX4_argueReason (wsV RX4 164 RX0 yX0_holds wsX0_holds) := goodIn_app (goodIn_of _ (by decide +kernel)) ggX4_argueReason_X0_holds
set_option maxRecDepth 20000 in
theorem ggX4_argueReason_X4_isWithin : GoodIn wsX4_argueReason wsX4_isWithin := goodIn_r _ [17] (by decide +kernel) (by decide +kernel)
set_option maxRecDepth 20000 in
theorem gX4_argueReason_X4_isWithin : GoodIn wsX4_argueReason (va_wsS RX4 53 yX4_isWithin wsX4_isWithin) := goodIn_app (goodIn_of _ (by decide +kernel)) ggX4_argueReason_X4_isWithin
set_option maxRecDepth 20000 in
theorem ggX4_argueReason_X0_isBecauseOf : GoodIn wsX4_argueReason wsX0_isBecauseOf := goodIn_r _ [21, 13, 22, 16, 23, 24, 25, 26, 11, 27, 28, 29, 30, 31, 32, 33, 34, 35, 36, 37, 38, 39, 40, 9, 10, 12, 49, 50, 51] (by decide +kernel) (by decide +kernel)
set_option maxRecDepth 20000 in
theorem gX4_argueReason_X0_isBecauseOf : GoodIn wsX4_argueReason (wsV RX4 169 RX0 yX0_isBecauseOf wsX0_isBecauseOf) := goodIn_app (goodIn_of _ (by decide +kernel)) ggX4_argueReason_X0_isBecauseOf
set_option maxRecDepth 20000 in
theorem ggX4_argueReason_X0_replaceWeight : GoodIn wsX4_argueReason wsX0_replaceWeight := goodIn_r _ [44, 39, 40, 9, 10, 11, 12, 13, 49, 50, 51] (by decide +kernel) (by decide +kernel)
set_option maxRecDepth 20000 in
theorem gX4_argueReason_X0_replaceWeight : GoodIn wsX4_argueReason (wsV RX4 174 RX0 yX0_replaceWeight wsX0_replaceWeight) := goodIn_app (goodIn_of _ (by decide +kernel)) ggX4_argueReason_X0_replaceWeight
theorem dX4_argueReason_0 : decode cX4_argueReason 0 = .ok (.aload_n 0, 1) := by decide +kernel
theorem dX4_argueReason_1 : decode cX4_argueReason 1 = .ok (.getfield 33, 3) := by decide +kernel
theorem dX4_argueReason_4 : decode cX4_argueReason 4 = .ok (.iload_n 1, 1) := by decide +kernel
theorem dX4_argueReason_5 : decode cX4_argueReason 5 = .ok (.invokevirtual 164, 3) := by decide +kernel
theorem dX4_argueReason_8 : decode cX4_argueReason 8 = .ok (.ifCond .eq 14, 3) := by decide +kernel
theorem dX4_argueReason_11 : decode cX4_argueReason 11 = .ok (.aload_n 0, 1) := by decide +kernel
theorem dX4_argueReason_12 : decode cX4_argueReason 12 = .ok (.getfield 33, 3) := by decide +kernel
theorem dX4_argueReason_15 : decode cX4_argueReason 15 = .ok (.iload_n 2, 1) := by decide +kernel
theorem dX4_argueReason_16 : decode cX4_argueReason 16 = .ok (.invokevirtual 164, 3) := by decide +kernel
theorem dX4_argueReason_19 : decode cX4_argueReason 19 = .ok (.ifCond .ne 13, 3) := by decide +kernel
theorem dX4_argueReason_22 : decode cX4_argueReason 22 = .ok (.new 99, 3) := by decide +kernel
theorem dX4_argueReason_25 : decode cX4_argueReason 25 = .ok (.dup, 1) := by decide +kernel
theorem dX4_argueReason_26 : decode cX4_argueReason 26 = .ok (.ldc 165, 2) := by decide +kernel
theorem dX4_argueReason_28 : decode cX4_argueReason 28 = .ok (.invokespecial 103, 3) := by decide +kernel
theorem dX4_argueReason_31 : decode cX4_argueReason 31 = .ok (.athrow, 1) := by decide +kernel
theorem dX4_argueReason_32 : decode cX4_argueReason 32 = .ok (.iload_n 1, 1) := by decide +kernel
theorem dX4_argueReason_33 : decode cX4_argueReason 33 = .ok (.iload_n 2, 1) := by decide +kernel
theorem dX4_argueReason_34 : decode cX4_argueReason 34 = .ok (.if_icmp .eq 13, 3) := by decide +kernel
theorem dX4_argueReason_37 : decode cX4_argueReason 37 = .ok (.iload_n 3, 1) := by decide +kernel
theorem dX4_argueReason_38 : decode cX4_argueReason 38 = .ok (.iconst 0, 1) := by decide +kernel
theorem dX4_argueReason_39 : decode cX4_argueReason 39 = .ok (.bipush 100, 2) := by decide +kernel
theorem dX4_argueReason_41 : decode cX4_argueReason 41 = .ok (.invokestatic 53, 3) := by decide +kernel
theorem dX4_argueReason_44 : decode cX4_argueReason 44 = .ok (.ifCond .ne 13, 3) := by decide +kernel
theorem dX4_argueReason_47 : decode cX4_argueReason 47 = .ok (.new 41, 3) := by decide +kernel
theorem dX4_argueReason_50 : decode cX4_argueReason 50 = .ok (.dup, 1) := by decide +kernel
theorem dX4_argueReason_51 : decode cX4_argueReason 51 = .ok (.ldc 167, 2) := by decide +kernel
theorem dX4_argueReason_53 : decode cX4_argueReason 53 = .ok (.invokespecial 45, 3) := by decide +kernel
theorem dX4_argueReason_56 : decode cX4_argueReason 56 = .ok (.athrow, 1) := by decide +kernel
theorem dX4_argueReason_57 : decode cX4_argueReason 57 = .ok (.iload_n 3, 1) := by decide +kernel
theorem dX4_argueReason_58 : decode cX4_argueReason 58 = .ok (.ifCond .le 25, 3) := by decide +kernel
theorem dX4_argueReason_61 : decode cX4_argueReason 61 = .ok (.aload_n 0, 1) := by decide +kernel
theorem dX4_argueReason_62 : decode cX4_argueReason 62 = .ok (.getfield 33, 3) := by decide +kernel
theorem dX4_argueReason_65 : decode cX4_argueReason 65 = .ok (.iload_n 2, 1) := by decide +kernel
theorem dX4_argueReason_66 : decode cX4_argueReason 66 = .ok (.iload_n 1, 1) := by decide +kernel
theorem dX4_argueReason_67 : decode cX4_argueReason 67 = .ok (.invokevirtual 169, 3) := by decide +kernel
theorem dX4_argueReason_70 : decode cX4_argueReason 70 = .ok (.ifCond .eq 13, 3) := by decide +kernel
theorem dX4_argueReason_73 : decode cX4_argueReason 73 = .ok (.new 62, 3) := by decide +kernel
theorem dX4_argueReason_76 : decode cX4_argueReason 76 = .ok (.dup, 1) := by decide +kernel
theorem dX4_argueReason_77 : decode cX4_argueReason 77 = .ok (.ldc 172, 2) := by decide +kernel
theorem dX4_argueReason_79 : decode cX4_argueReason 79 = .ok (.invokespecial 66, 3) := by decide +kernel
theorem dX4_argueReason_82 : decode cX4_argueReason 82 = .ok (.athrow, 1) := by decide +kernel
theorem dX4_argueReason_83 : decode cX4_argueReason 83 = .ok (.aload_n 0, 1) := by decide +kernel
theorem dX4_argueReason_84 : decode cX4_argueReason 84 = .ok (.getfield 33, 3) := by decide +kernel
theorem dX4_argueReason_87 : decode cX4_argueReason 87 = .ok (.iload_n 1, 1) := by decide +kernel
theorem dX4_argueReason_88 : decode cX4_argueReason 88 = .ok (.iload_n 2, 1) := by decide +kernel
theorem dX4_argueReason_89 : decode cX4_argueReason 89 = .ok (.iload_n 3, 1) := by decide +kernel
theorem dX4_argueReason_90 : decode cX4_argueReason 90 = .ok (.invokevirtual 174, 3) := by decide +kernel
theorem dX4_argueReason_93 : decode cX4_argueReason 93 = .ok (.ireturn, 1) := by decide +kernel
set_option maxRecDepth 20000 in
theorem ggX4_setStanding_X0_holds : GoodIn wsX4_setStanding wsX0_holds := goodIn_r _ [8, 9, 25, 26, 27] (by decide +kernel) (by decide +kernel)
set_option maxRecDepth 20000 in
theorem gX4_setStanding_X0_holds : GoodIn wsX4_setStanding (wsV RX4 164 RX0 yX0_holds wsX0_holds) := goodIn_app (goodIn_of _ (by decide +kernel)) ggX4_setStanding_X0_holds
set_option maxRecDepth 20000 in
theorem ggX4_setStanding_X0_replaceStanding : GoodIn wsX4_setStanding wsX0_replaceStanding := goodIn_r _ [13, 14, 15, 16, 17, 18, 19, 20, 25, 26, 27] (by decide +kernel) (by decide +kernel)
set_option maxRecDepth 20000 in
theorem gX4_setStanding_X0_replaceStanding : GoodIn wsX4_setStanding (wsV RX4 178 RX0 yX0_replaceStanding wsX0_replaceStanding) := goodIn_app (goodIn_of _ (by decide +kernel)) ggX4_setStanding_X0_replaceStanding
theorem dX4_setStanding_0 : decode cX4_setStanding 0 = .ok (.aload_n 0, 1) := by decide +kernel
theorem dX4_setStanding_1 : decode cX4_setStanding 1 = .ok (.getfield 33, 3) := by decide +kernel
theorem dX4_setStanding_4 : decode cX4_setStanding 4 = .ok (.iload_n 1, 1) := by decide +kernel
theorem dX4_setStanding_5 : decode cX4_setStanding 5 = .ok (.invokevirtual 164, 3) := by decide +kernel
theorem dX4_setStanding_8 : decode cX4_setStanding 8 = .ok (.ifCond .ne 13, 3) := by decide +kernel
theorem dX4_setStanding_11 : decode cX4_setStanding 11 = .ok (.new 99, 3) := by decide +kernel
theorem dX4_setStanding_14 : decode cX4_setStanding 14 = .ok (.dup, 1) := by decide +kernel
theorem dX4_setStanding_15 : decode cX4_setStanding 15 = .ok (.ldc 165, 2) := by decide +kernel
theorem dX4_setStanding_17 : decode cX4_setStanding 17 = .ok (.invokespecial 103, 3) := by decide +kernel
theorem dX4_setStanding_20 : decode cX4_setStanding 20 = .ok (.athrow, 1) := by decide +kernel
theorem dX4_setStanding_21 : decode cX4_setStanding 21 = .ok (.aload_n 0, 1) := by decide +kernel
theorem dX4_setStanding_22 : decode cX4_setStanding 22 = .ok (.getfield 33, 3) := by decide +kernel
theorem dX4_setStanding_25 : decode cX4_setStanding 25 = .ok (.iload_n 1, 1) := by decide +kernel
theorem dX4_setStanding_26 : decode cX4_setStanding 26 = .ok (.iload_n 2, 1) := by decide +kernel
theorem dX4_setStanding_27 : decode cX4_setStanding 27 = .ok (.invokevirtual 178, 3) := by decide +kernel
theorem dX4_setStanding_30 : decode cX4_setStanding 30 = .ok (.ireturn, 1) := by decide +kernel
set_option maxRecDepth 20000 in
theorem ggX4_roots_X0_holds : GoodIn wsX4_roots wsX0_holds := goodIn_r _ [8, 9, 39, 40, 41] (by decide +kernel) (by decide +kernel)
set_option maxRecDepth 20000 in
theorem gX4_roots_X0_holds : GoodIn wsX4_roots (wsV RX4 164 RX0 yX0_holds wsX0_holds) := goodIn_app (goodIn_of _ (by decide +kernel)) ggX4_roots_X0_holds
set_option maxRecDepth 20000 in
theorem ggX4_roots_X0_rootsUnder : GoodIn wsX4_roots wsX0_rootsUnder := goodIn_r _ [13, 14, 9, 15, 16, 17, 18, 19, 20, 21, 22, 23, 7, 24, 25, 26, 27, 28, 29, 30, 31, 32, 33, 34, 5, 6, 8, 39, 40, 41] (by decide +kernel) (by decide +kernel)
set_option maxRecDepth 20000 in
theorem gX4_roots_X0_rootsUnder : GoodIn wsX4_roots (wsV RX4 182 RX0 yX0_rootsUnder wsX0_rootsUnder) := goodIn_app (goodIn_of _ (by decide +kernel)) ggX4_roots_X0_rootsUnder
theorem dX4_roots_0 : decode cX4_roots 0 = .ok (.aload_n 0, 1) := by decide +kernel
theorem dX4_roots_1 : decode cX4_roots 1 = .ok (.getfield 33, 3) := by decide +kernel
theorem dX4_roots_4 : decode cX4_roots 4 = .ok (.iload_n 1, 1) := by decide +kernel
theorem dX4_roots_5 : decode cX4_roots 5 = .ok (.invokevirtual 164, 3) := by decide +kernel
theorem dX4_roots_8 : decode cX4_roots 8 = .ok (.ifCond .ne 13, 3) := by decide +kernel
theorem dX4_roots_11 : decode cX4_roots 11 = .ok (.new 99, 3) := by decide +kernel
theorem dX4_roots_14 : decode cX4_roots 14 = .ok (.dup, 1) := by decide +kernel
theorem dX4_roots_15 : decode cX4_roots 15 = .ok (.ldc 165, 2) := by decide +kernel
theorem dX4_roots_17 : decode cX4_roots 17 = .ok (.invokespecial 103, 3) := by decide +kernel
theorem dX4_roots_20 : decode cX4_roots 20 = .ok (.athrow, 1) := by decide +kernel
theorem dX4_roots_21 : decode cX4_roots 21 = .ok (.aload_n 0, 1) := by decide +kernel
theorem dX4_roots_22 : decode cX4_roots 22 = .ok (.getfield 33, 3) := by decide +kernel
theorem dX4_roots_25 : decode cX4_roots 25 = .ok (.iload_n 1, 1) := by decide +kernel
theorem dX4_roots_26 : decode cX4_roots 26 = .ok (.invokevirtual 182, 3) := by decide +kernel
theorem dX4_roots_29 : decode cX4_roots 29 = .ok (.ireturn, 1) := by decide +kernel
set_option maxRecDepth 20000 in
theorem ggX4_mainReason_X0_holds : GoodIn wsX4_mainReason wsX0_holds := goodIn_r _ [8, 9, 31, 32, 33] (by decide +kernel) (by decide +kernel)
set_option maxRecDepth 20000 in
theorem gX4_mainReason_X0_holds : GoodIn wsX4_mainReason (wsV RX4 164 RX0 yX0_holds wsX0_holds) := goodIn_app (goodIn_of _ (by decide +kernel)) ggX4_mainReason_X0_holds
set_option maxRecDepth 20000 in
theorem ggX4_mainReason_X0_weightiestReason : GoodIn wsX4_mainReason wsX0_weightiestReason := goodIn_r _ [13, 9, 14, 15, 16, 17, 7, 18, 19, 20, 5, 6, 8, 21, 22, 23, 24, 25, 26, 31, 32, 33] (by decide +kernel) (by decide +kernel)
set_option maxRecDepth 20000 in
theorem gX4_mainReason_X0_weightiestReason : GoodIn wsX4_mainReason (wsV RX4 185 RX0 yX0_weightiestReason wsX0_weightiestReason) := goodIn_app (goodIn_of _ (by decide +kernel)) ggX4_mainReason_X0_weightiestReason
theorem dX4_mainReason_0 : decode cX4_mainReason 0 = .ok (.aload_n 0, 1) := by decide +kernel
theorem dX4_mainReason_1 : decode cX4_mainReason 1 = .ok (.getfield 33, 3) := by decide +kernel
theorem dX4_mainReason_4 : decode cX4_mainReason 4 = .ok (.iload_n 1, 1) := by decide +kernel
theorem dX4_mainReason_5 : decode cX4_mainReason 5 = .ok (.invokevirtual 164, 3) := by decide +kernel
theorem dX4_mainReason_8 : decode cX4_mainReason 8 = .ok (.ifCond .ne 13, 3) := by decide +kernel
theorem dX4_mainReason_11 : decode cX4_mainReason 11 = .ok (.new 99, 3) := by decide +kernel
theorem dX4_mainReason_14 : decode cX4_mainReason 14 = .ok (.dup, 1) := by decide +kernel
theorem dX4_mainReason_15 : decode cX4_mainReason 15 = .ok (.ldc 165, 2) := by decide +kernel
theorem dX4_mainReason_17 : decode cX4_mainReason 17 = .ok (.invokespecial 103, 3) := by decide +kernel
theorem dX4_mainReason_20 : decode cX4_mainReason 20 = .ok (.athrow, 1) := by decide +kernel
theorem dX4_mainReason_21 : decode cX4_mainReason 21 = .ok (.aload_n 0, 1) := by decide +kernel
theorem dX4_mainReason_22 : decode cX4_mainReason 22 = .ok (.getfield 33, 3) := by decide +kernel
theorem dX4_mainReason_25 : decode cX4_mainReason 25 = .ok (.iload_n 1, 1) := by decide +kernel
theorem dX4_mainReason_26 : decode cX4_mainReason 26 = .ok (.invokevirtual 185, 3) := by decide +kernel
theorem dX4_mainReason_29 : decode cX4_mainReason 29 = .ok (.ireturn, 1) := by decide +kernel
theorem dX4_isWithin_0 : decode cX4_isWithin 0 = .ok (.iload_n 0, 1) := by decide +kernel
theorem dX4_isWithin_1 : decode cX4_isWithin 1 = .ok (.iload_n 1, 1) := by decide +kernel
theorem dX4_isWithin_2 : decode cX4_isWithin 2 = .ok (.if_icmp .lt 12, 3) := by decide +kernel
theorem dX4_isWithin_5 : decode cX4_isWithin 5 = .ok (.iload_n 0, 1) := by decide +kernel
theorem dX4_isWithin_6 : decode cX4_isWithin 6 = .ok (.iload_n 2, 1) := by decide +kernel
theorem dX4_isWithin_7 : decode cX4_isWithin 7 = .ok (.if_icmp .gt 7, 3) := by decide +kernel
theorem dX4_isWithin_10 : decode cX4_isWithin 10 = .ok (.iconst 1, 1) := by decide +kernel
theorem dX4_isWithin_11 : decode cX4_isWithin 11 = .ok (.goto 4, 3) := by decide +kernel
theorem dX4_isWithin_14 : decode cX4_isWithin 14 = .ok (.iconst 0, 1) := by decide +kernel
theorem dX4_isWithin_15 : decode cX4_isWithin 15 = .ok (.ireturn, 1) := by decide +kernel
set_option maxRecDepth 20000 in
theorem ggX4_isClock_X4_isWithin : GoodIn wsX4_isClock wsX4_isWithin := goodIn_r _ [4] (by decide +kernel) (by decide +kernel)
set_option maxRecDepth 20000 in
theorem gX4_isClock_X4_isWithin : GoodIn wsX4_isClock (va_wsS RX4 53 yX4_isWithin wsX4_isWithin) := goodIn_app (goodIn_of _ (by decide +kernel)) ggX4_isClock_X4_isWithin
theorem dX4_isClock_0 : decode cX4_isClock 0 = .ok (.iload_n 0, 1) := by decide +kernel
theorem dX4_isClock_1 : decode cX4_isClock 1 = .ok (.iconst 0, 1) := by decide +kernel
theorem dX4_isClock_2 : decode cX4_isClock 2 = .ok (.iconst 4, 1) := by decide +kernel
theorem dX4_isClock_3 : decode cX4_isClock 3 = .ok (.invokestatic 53, 3) := by decide +kernel
theorem dX4_isClock_6 : decode cX4_isClock 6 = .ok (.ireturn, 1) := by decide +kernel
set_option maxRecDepth 20000 in
theorem ggX4_isReading_X4_isWithin : GoodIn wsX4_isReading wsX4_isWithin := goodIn_r _ [4] (by decide +kernel) (by decide +kernel)
set_option maxRecDepth 20000 in
theorem gX4_isReading_X4_isWithin : GoodIn wsX4_isReading (va_wsS RX4 53 yX4_isWithin wsX4_isWithin) := goodIn_app (goodIn_of _ (by decide +kernel)) ggX4_isReading_X4_isWithin
theorem dX4_isReading_0 : decode cX4_isReading 0 = .ok (.iload_n 0, 1) := by decide +kernel
theorem dX4_isReading_1 : decode cX4_isReading 1 = .ok (.iconst 0, 1) := by decide +kernel
theorem dX4_isReading_2 : decode cX4_isReading 2 = .ok (.sipush 10000, 3) := by decide +kernel
theorem dX4_isReading_5 : decode cX4_isReading 5 = .ok (.invokestatic 53, 3) := by decide +kernel
theorem dX4_isReading_8 : decode cX4_isReading 8 = .ok (.ireturn, 1) := by decide +kernel
set_option maxRecDepth 20000 in
theorem ggX4_isService_X4_isWithin : GoodIn wsX4_isService wsX4_isWithin := goodIn_r _ [4] (by decide +kernel) (by decide +kernel)
set_option maxRecDepth 20000 in
theorem gX4_isService_X4_isWithin : GoodIn wsX4_isService (va_wsS RX4 53 yX4_isWithin wsX4_isWithin) := goodIn_app (goodIn_of _ (by decide +kernel)) ggX4_isService_X4_isWithin
theorem dX4_isService_0 : decode cX4_isService 0 = .ok (.iload_n 0, 1) := by decide +kernel
theorem dX4_isService_1 : decode cX4_isService 1 = .ok (.iconst 0, 1) := by decide +kernel
theorem dX4_isService_2 : decode cX4_isService 2 = .ok (.iconst 5, 1) := by decide +kernel
theorem dX4_isService_3 : decode cX4_isService 3 = .ok (.invokestatic 53, 3) := by decide +kernel
theorem dX4_isService_6 : decode cX4_isService 6 = .ok (.ireturn, 1) := by decide +kernel
theorem dX4_bit_0 : decode cX4_bit 0 = .ok (.iconst 1, 1) := by decide +kernel
theorem dX4_bit_1 : decode cX4_bit 1 = .ok (.iload_n 0, 1) := by decide +kernel
theorem dX4_bit_2 : decode cX4_bit 2 = .ok (.ishl, 1) := by decide +kernel
theorem dX4_bit_3 : decode cX4_bit 3 = .ok (.ireturn, 1) := by decide +kernel
set_option maxRecDepth 20000 in
theorem ggX4_hasBit_X4_bit : GoodIn wsX4_hasBit wsX4_bit := goodIn_r _ [4] (by decide +kernel) (by decide +kernel)
set_option maxRecDepth 20000 in
theorem gX4_hasBit_X4_bit : GoodIn wsX4_hasBit (va_wsS RX4 188 yX4_bit wsX4_bit) := goodIn_app (goodIn_of _ (by decide +kernel)) ggX4_hasBit_X4_bit
theorem dX4_hasBit_0 : decode cX4_hasBit 0 = .ok (.iload_n 0, 1) := by decide +kernel
theorem dX4_hasBit_1 : decode cX4_hasBit 1 = .ok (.iload_n 1, 1) := by decide +kernel
theorem dX4_hasBit_2 : decode cX4_hasBit 2 = .ok (.invokestatic 188, 3) := by decide +kernel
theorem dX4_hasBit_5 : decode cX4_hasBit 5 = .ok (.iand, 1) := by decide +kernel
theorem dX4_hasBit_6 : decode cX4_hasBit 6 = .ok (.ifCond .eq 7, 3) := by decide +kernel
theorem dX4_hasBit_9 : decode cX4_hasBit 9 = .ok (.iconst 1, 1) := by decide +kernel
theorem dX4_hasBit_10 : decode cX4_hasBit 10 = .ok (.goto 4, 3) := by decide +kernel
theorem dX4_hasBit_13 : decode cX4_hasBit 13 = .ok (.iconst 0, 1) := by decide +kernel
theorem dX4_hasBit_14 : decode cX4_hasBit 14 = .ok (.ireturn, 1) := by decide +kernel
theorem dX5_init_0 : decode cX5_init 0 = .ok (.aload_n 0, 1) := by decide +kernel
theorem dX5_init_1 : decode cX5_init 1 = .ok (.invokespecial 1, 3) := by decide +kernel
theorem dX5_init_4 : decode cX5_init 4 = .ok (.aload_n 0, 1) := by decide +kernel
theorem dX5_init_5 : decode cX5_init 5 = .ok (.bipush 25, 2) := by decide +kernel
theorem dX5_init_7 : decode cX5_init 7 = .ok (.newarray .int, 2) := by decide +kernel
theorem dX5_init_9 : decode cX5_init 9 = .ok (.putfield 7, 3) := by decide +kernel
theorem dX5_init_12 : decode cX5_init 12 = .ok (.aload_n 0, 1) := by decide +kernel
theorem dX5_init_13 : decode cX5_init 13 = .ok (.bipush 25, 2) := by decide +kernel
theorem dX5_init_15 : decode cX5_init 15 = .ok (.newarray .int, 2) := by decide +kernel
theorem dX5_init_17 : decode cX5_init 17 = .ok (.putfield 13, 3) := by decide +kernel
theorem dX5_init_20 : decode cX5_init 20 = .ok (.aload_n 0, 1) := by decide +kernel
theorem dX5_init_21 : decode cX5_init 21 = .ok (.bipush 30, 2) := by decide +kernel
theorem dX5_init_23 : decode cX5_init 23 = .ok (.newarray .int, 2) := by decide +kernel
theorem dX5_init_25 : decode cX5_init 25 = .ok (.putfield 16, 3) := by decide +kernel
theorem dX5_init_28 : decode cX5_init 28 = .ok (.aload_n 0, 1) := by decide +kernel
theorem dX5_init_29 : decode cX5_init 29 = .ok (.bipush 30, 2) := by decide +kernel
theorem dX5_init_31 : decode cX5_init 31 = .ok (.newarray .int, 2) := by decide +kernel
theorem dX5_init_33 : decode cX5_init 33 = .ok (.putfield 19, 3) := by decide +kernel
theorem dX5_init_36 : decode cX5_init 36 = .ok (.aload_n 0, 1) := by decide +kernel
theorem dX5_init_37 : decode cX5_init 37 = .ok (.bipush 30, 2) := by decide +kernel
theorem dX5_init_39 : decode cX5_init 39 = .ok (.newarray .int, 2) := by decide +kernel
theorem dX5_init_41 : decode cX5_init 41 = .ok (.putfield 22, 3) := by decide +kernel
theorem dX5_init_44 : decode cX5_init 44 = .ok (.aload_n 0, 1) := by decide +kernel
theorem dX5_init_45 : decode cX5_init 45 = .ok (.bipush 30, 2) := by decide +kernel
theorem dX5_init_47 : decode cX5_init 47 = .ok (.newarray .boolean, 2) := by decide +kernel
theorem dX5_init_49 : decode cX5_init 49 = .ok (.putfield 25, 3) := by decide +kernel
theorem dX5_init_52 : decode cX5_init 52 = .ok (.aload_n 0, 1) := by decide +kernel
theorem dX5_init_53 : decode cX5_init 53 = .ok (.bipush 30, 2) := by decide +kernel
theorem dX5_init_55 : decode cX5_init 55 = .ok (.newarray .int, 2) := by decide +kernel
theorem dX5_init_57 : decode cX5_init 57 = .ok (.putfield 29, 3) := by decide +kernel
theorem dX5_init_60 : decode cX5_init 60 = .ok (.aload_n 0, 1) := by decide +kernel
theorem dX5_init_61 : decode cX5_init 61 = .ok (.bipush 30, 2) := by decide +kernel
theorem dX5_init_63 : decode cX5_init 63 = .ok (.newarray .int, 2) := by decide +kernel
theorem dX5_init_65 : decode cX5_init 65 = .ok (.putfield 32, 3) := by decide +kernel
theorem dX5_init_68 : decode cX5_init 68 = .ok (.aload_n 0, 1) := by decide +kernel
theorem dX5_init_69 : decode cX5_init 69 = .ok (.bipush 30, 2) := by decide +kernel
theorem dX5_init_71 : decode cX5_init 71 = .ok (.newarray .int, 2) := by decide +kernel
theorem dX5_init_73 : decode cX5_init 73 = .ok (.putfield 35, 3) := by decide +kernel
theorem dX5_init_76 : decode cX5_init 76 = .ok (.aload_n 0, 1) := by decide +kernel
theorem dX5_init_77 : decode cX5_init 77 = .ok (.bipush 12, 2) := by decide +kernel
theorem dX5_init_79 : decode cX5_init 79 = .ok (.newarray .int, 2) := by decide +kernel
theorem dX5_init_81 : decode cX5_init 81 = .ok (.putfield 38, 3) := by decide +kernel
theorem dX5_init_84 : decode cX5_init 84 = .ok (.aload_n 0, 1) := by decide +kernel
theorem dX5_init_85 : decode cX5_init 85 = .ok (.sipush 4096, 3) := by decide +kernel
theorem dX5_init_88 : decode cX5_init 88 = .ok (.newarray .long, 2) := by decide +kernel
theorem dX5_init_90 : decode cX5_init 90 = .ok (.putfield 41, 3) := by decide +kernel
theorem dX5_init_93 : decode cX5_init 93 = .ok (.aload_n 0, 1) := by decide +kernel
theorem dX5_init_94 : decode cX5_init 94 = .ok (.bipush 40, 2) := by decide +kernel
theorem dX5_init_96 : decode cX5_init 96 = .ok (.newarray .int, 2) := by decide +kernel
theorem dX5_init_98 : decode cX5_init 98 = .ok (.putfield 45, 3) := by decide +kernel
theorem dX5_init_101 : decode cX5_init 101 = .ok (.aload_n 0, 1) := by decide +kernel
theorem dX5_init_102 : decode cX5_init 102 = .ok (.bipush 40, 2) := by decide +kernel
theorem dX5_init_104 : decode cX5_init 104 = .ok (.newarray .int, 2) := by decide +kernel
theorem dX5_init_106 : decode cX5_init 106 = .ok (.putfield 48, 3) := by decide +kernel
theorem dX5_init_109 : decode cX5_init 109 = .ok (.aload_n 0, 1) := by decide +kernel
theorem dX5_init_110 : decode cX5_init 110 = .ok (.bipush 40, 2) := by decide +kernel
theorem dX5_init_112 : decode cX5_init 112 = .ok (.newarray .int, 2) := by decide +kernel
theorem dX5_init_114 : decode cX5_init 114 = .ok (.putfield 51, 3) := by decide +kernel
theorem dX5_init_117 : decode cX5_init 117 = .ok (.aload_n 0, 1) := by decide +kernel
theorem dX5_init_118 : decode cX5_init 118 = .ok (.bipush 40, 2) := by decide +kernel
theorem dX5_init_120 : decode cX5_init 120 = .ok (.newarray .int, 2) := by decide +kernel
theorem dX5_init_122 : decode cX5_init 122 = .ok (.putfield 54, 3) := by decide +kernel
theorem dX5_init_125 : decode cX5_init 125 = .ok (.aload_n 0, 1) := by decide +kernel
theorem dX5_init_126 : decode cX5_init 126 = .ok (.bipush 16, 2) := by decide +kernel
theorem dX5_init_128 : decode cX5_init 128 = .ok (.newarray .boolean, 2) := by decide +kernel
theorem dX5_init_130 : decode cX5_init 130 = .ok (.putfield 57, 3) := by decide +kernel
theorem dX5_init_133 : decode cX5_init 133 = .ok (.aload_n 0, 1) := by decide +kernel
theorem dX5_init_134 : decode cX5_init 134 = .ok (.sipush 256, 3) := by decide +kernel
theorem dX5_init_137 : decode cX5_init 137 = .ok (.newarray .int, 2) := by decide +kernel
theorem dX5_init_139 : decode cX5_init 139 = .ok (.putfield 60, 3) := by decide +kernel
theorem dX5_init_142 : decode cX5_init 142 = .ok (.iconst 0, 1) := by decide +kernel
theorem dX5_init_143 : decode cX5_init 143 = .ok (.istore_n 1, 1) := by decide +kernel
theorem dX5_init_144 : decode cX5_init 144 = .ok (.iload_n 1, 1) := by decide +kernel
theorem dX5_init_145 : decode cX5_init 145 = .ok (.bipush 25, 2) := by decide +kernel
theorem dX5_init_147 : decode cX5_init 147 = .ok (.if_icmp .ge 28, 3) := by decide +kernel
theorem dX5_init_150 : decode cX5_init 150 = .ok (.aload_n 0, 1) := by decide +kernel
theorem dX5_init_151 : decode cX5_init 151 = .ok (.getfield 7, 3) := by decide +kernel
theorem dX5_init_154 : decode cX5_init 154 = .ok (.iload_n 1, 1) := by decide +kernel
theorem dX5_init_155 : decode cX5_init 155 = .ok (.iload_n 1, 1) := by decide +kernel
theorem dX5_init_156 : decode cX5_init 156 = .ok (.bipush 6, 2) := by decide +kernel
theorem dX5_init_158 : decode cX5_init 158 = .ok (.irem, 1) := by decide +kernel
theorem dX5_init_159 : decode cX5_init 159 = .ok (.ifCond .ne 7, 3) := by decide +kernel
theorem dX5_init_162 : decode cX5_init 162 = .ok (.iconst 0, 1) := by decide +kernel
theorem dX5_init_163 : decode cX5_init 163 = .ok (.goto 5, 3) := by decide +kernel
theorem dX5_init_166 : decode cX5_init 166 = .ok (.ldc 63, 2) := by decide +kernel
theorem dX5_init_168 : decode cX5_init 168 = .ok (.iastore, 1) := by decide +kernel
theorem dX5_init_169 : decode cX5_init 169 = .ok (.iinc 1 1, 3) := by decide +kernel
theorem dX5_init_172 : decode cX5_init 172 = .ok (.goto (-28), 3) := by decide +kernel
theorem dX5_init_175 : decode cX5_init 175 = .ok (.return_, 1) := by decide +kernel
theorem dX5_thrown_0 : decode cX5_thrown 0 = .ok (.aload_n 0, 1) := by decide +kernel
theorem dX5_thrown_1 : decode cX5_thrown 1 = .ok (.getfield 64, 3) := by decide +kernel
theorem dX5_thrown_4 : decode cX5_thrown 4 = .ok (.ireturn, 1) := by decide +kernel
theorem dX5_goes_0 : decode cX5_goes 0 = .ok (.aload_n 0, 1) := by decide +kernel
theorem dX5_goes_1 : decode cX5_goes 1 = .ok (.iload_n 1, 1) := by decide +kernel
theorem dX5_goes_2 : decode cX5_goes 2 = .ok (.putfield 64, 3) := by decide +kernel
theorem dX5_goes_5 : decode cX5_goes 5 = .ok (.iload_n 1, 1) := by decide +kernel
theorem dX5_goes_6 : decode cX5_goes 6 = .ok (.ifCond .ne 7, 3) := by decide +kernel
theorem dX5_goes_9 : decode cX5_goes 9 = .ok (.iconst 1, 1) := by decide +kernel
theorem dX5_goes_10 : decode cX5_goes 10 = .ok (.goto 4, 3) := by decide +kernel
theorem dX5_goes_13 : decode cX5_goes 13 = .ok (.iconst 0, 1) := by decide +kernel
theorem dX5_goes_14 : decode cX5_goes 14 = .ok (.ireturn, 1) := by decide +kernel
theorem dX5_isIn_0 : decode cX5_isIn 0 = .ok (.iload_n 0, 1) := by decide +kernel
theorem dX5_isIn_1 : decode cX5_isIn 1 = .ok (.iload_n 1, 1) := by decide +kernel
theorem dX5_isIn_2 : decode cX5_isIn 2 = .ok (.if_icmp .lt 12, 3) := by decide +kernel
theorem dX5_isIn_5 : decode cX5_isIn 5 = .ok (.iload_n 0, 1) := by decide +kernel
theorem dX5_isIn_6 : decode cX5_isIn 6 = .ok (.iload_n 2, 1) := by decide +kernel
theorem dX5_isIn_7 : decode cX5_isIn 7 = .ok (.if_icmp .gt 7, 3) := by decide +kernel
theorem dX5_isIn_10 : decode cX5_isIn 10 = .ok (.iconst 1, 1) := by decide +kernel
theorem dX5_isIn_11 : decode cX5_isIn 11 = .ok (.goto 4, 3) := by decide +kernel
theorem dX5_isIn_14 : decode cX5_isIn 14 = .ok (.iconst 0, 1) := by decide +kernel
theorem dX5_isIn_15 : decode cX5_isIn 15 = .ok (.ireturn, 1) := by decide +kernel
set_option maxRecDepth 20000 in
theorem ggX5_isClock_X5_isIn : GoodIn wsX5_isClock wsX5_isIn := goodIn_r _ [4] (by decide +kernel) (by decide +kernel)
set_option maxRecDepth 20000 in
theorem gX5_isClock_X5_isIn : GoodIn wsX5_isClock (va_wsS RX5 68 yX5_isIn wsX5_isIn) := goodIn_app (goodIn_of _ (by decide +kernel)) ggX5_isClock_X5_isIn
theorem dX5_isClock_0 : decode cX5_isClock 0 = .ok (.iload_n 0, 1) := by decide +kernel
theorem dX5_isClock_1 : decode cX5_isClock 1 = .ok (.iconst 0, 1) := by decide +kernel
theorem dX5_isClock_2 : decode cX5_isClock 2 = .ok (.iconst 4, 1) := by decide +kernel
theorem dX5_isClock_3 : decode cX5_isClock 3 = .ok (.invokestatic 68, 3) := by decide +kernel
theorem dX5_isClock_6 : decode cX5_isClock 6 = .ok (.ireturn, 1) := by decide +kernel
set_option maxRecDepth 20000 in
theorem ggX5_isService_X5_isIn : GoodIn wsX5_isService wsX5_isIn := goodIn_r _ [4] (by decide +kernel) (by decide +kernel)
set_option maxRecDepth 20000 in
theorem gX5_isService_X5_isIn : GoodIn wsX5_isService (va_wsS RX5 68 yX5_isIn wsX5_isIn) := goodIn_app (goodIn_of _ (by decide +kernel)) ggX5_isService_X5_isIn
theorem dX5_isService_0 : decode cX5_isService 0 = .ok (.iload_n 0, 1) := by decide +kernel
theorem dX5_isService_1 : decode cX5_isService 1 = .ok (.iconst 0, 1) := by decide +kernel
theorem dX5_isService_2 : decode cX5_isService 2 = .ok (.iconst 5, 1) := by decide +kernel
theorem dX5_isService_3 : decode cX5_isService 3 = .ok (.invokestatic 68, 3) := by decide +kernel
theorem dX5_isService_6 : decode cX5_isService 6 = .ok (.ireturn, 1) := by decide +kernel
set_option maxRecDepth 20000 in
theorem ggX5_isTime_X5_isIn : GoodIn wsX5_isTime wsX5_isIn := goodIn_r _ [4] (by decide +kernel) (by decide +kernel)
set_option maxRecDepth 20000 in
theorem gX5_isTime_X5_isIn : GoodIn wsX5_isTime (va_wsS RX5 68 yX5_isIn wsX5_isIn) := goodIn_app (goodIn_of _ (by decide +kernel)) ggX5_isTime_X5_isIn
theorem dX5_isTime_0 : decode cX5_isTime 0 = .ok (.iload_n 0, 1) := by decide +kernel
theorem dX5_isTime_1 : decode cX5_isTime 1 = .ok (.iconst 0, 1) := by decide +kernel
theorem dX5_isTime_2 : decode cX5_isTime 2 = .ok (.sipush 10000, 3) := by decide +kernel
theorem dX5_isTime_5 : decode cX5_isTime 5 = .ok (.invokestatic 68, 3) := by decide +kernel
theorem dX5_isTime_8 : decode cX5_isTime 8 = .ok (.ireturn, 1) := by decide +kernel
theorem dX5_binds_0 : decode cX5_binds 0 = .ok (.aload_n 0, 1) := by decide +kernel
theorem dX5_binds_1 : decode cX5_binds 1 = .ok (.getfield 13, 3) := by decide +kernel
theorem dX5_binds_4 : decode cX5_binds 4 = .ok (.iconst 5, 1) := by decide +kernel
theorem dX5_binds_5 : decode cX5_binds 5 = .ok (.iload_n 1, 1) := by decide +kernel
theorem dX5_binds_6 : decode cX5_binds 6 = .ok (.imul, 1) := by decide +kernel
theorem dX5_binds_7 : decode cX5_binds 7 = .ok (.iload_n 2, 1) := by decide +kernel
theorem dX5_binds_8 : decode cX5_binds 8 = .ok (.iadd, 1) := by decide +kernel
theorem dX5_binds_9 : decode cX5_binds 9 = .ok (.iload_n 3, 1) := by decide +kernel
theorem dX5_binds_10 : decode cX5_binds 10 = .ok (.aload_n 0, 1) := by decide +kernel
theorem dX5_binds_11 : decode cX5_binds 11 = .ok (.getfield 13, 3) := by decide +kernel
theorem dX5_binds_14 : decode cX5_binds 14 = .ok (.iconst 5, 1) := by decide +kernel
theorem dX5_binds_15 : decode cX5_binds 15 = .ok (.iload_n 1, 1) := by decide +kernel
theorem dX5_binds_16 : decode cX5_binds 16 = .ok (.imul, 1) := by decide +kernel
theorem dX5_binds_17 : decode cX5_binds 17 = .ok (.iload_n 2, 1) := by decide +kernel
theorem dX5_binds_18 : decode cX5_binds 18 = .ok (.iadd, 1) := by decide +kernel
theorem dX5_binds_19 : decode cX5_binds 19 = .ok (.iaload, 1) := by decide +kernel
theorem dX5_binds_20 : decode cX5_binds 20 = .ok (.if_icmp .ge 7, 3) := by decide +kernel
theorem dX5_binds_23 : decode cX5_binds 23 = .ok (.iload_n 3, 1) := by decide +kernel
theorem dX5_binds_24 : decode cX5_binds 24 = .ok (.goto 13, 3) := by decide +kernel
theorem dX5_binds_27 : decode cX5_binds 27 = .ok (.aload_n 0, 1) := by decide +kernel
theorem dX5_binds_28 : decode cX5_binds 28 = .ok (.getfield 13, 3) := by decide +kernel
theorem dX5_binds_31 : decode cX5_binds 31 = .ok (.iconst 5, 1) := by decide +kernel
theorem dX5_binds_32 : decode cX5_binds 32 = .ok (.iload_n 1, 1) := by decide +kernel
theorem dX5_binds_33 : decode cX5_binds 33 = .ok (.imul, 1) := by decide +kernel
theorem dX5_binds_34 : decode cX5_binds 34 = .ok (.iload_n 2, 1) := by decide +kernel
theorem dX5_binds_35 : decode cX5_binds 35 = .ok (.iadd, 1) := by decide +kernel
theorem dX5_binds_36 : decode cX5_binds 36 = .ok (.iaload, 1) := by decide +kernel
theorem dX5_binds_37 : decode cX5_binds 37 = .ok (.iastore, 1) := by decide +kernel
theorem dX5_binds_38 : decode cX5_binds 38 = .ok (.return_, 1) := by decide +kernel
set_option maxRecDepth 20000 in
theorem ggX5_mark_X5_isClock : GoodIn wsX5_mark wsX5_isClock := goodIn_r _ [7, 8, 9, 6, 10] (by decide +kernel) (by decide +kernel)
set_option maxRecDepth 20000 in
theorem gX5_mark_X5_isClock : GoodIn wsX5_mark (va_wsS RX5 72 yX5_isClock wsX5_isClock) := goodIn_app (goodIn_of _ (by decide +kernel)) ggX5_mark_X5_isClock
set_option maxRecDepth 20000 in
theorem ggX5_mark_X5_isTime : GoodIn wsX5_mark wsX5_isTime := goodIn_r _ [13, 8, 9, 6, 10] (by decide +kernel) (by decide +kernel)
set_option maxRecDepth 20000 in
theorem gX5_mark_X5_isTime : GoodIn wsX5_mark (va_wsS RX5 76 yX5_isTime wsX5_isTime) := goodIn_app (goodIn_of _ (by decide +kernel)) ggX5_mark_X5_isTime
set_option maxRecDepth 20000 in
theorem ggX5_mark_X5_isIn : GoodIn wsX5_mark wsX5_isIn := goodIn_r _ [10] (by decide +kernel) (by decide +kernel)
set_option maxRecDepth 20000 in
theorem gX5_mark_X5_isIn : GoodIn wsX5_mark (va_wsS RX5 68 yX5_isIn wsX5_isIn) := goodIn_app (goodIn_of _ (by decide +kernel)) ggX5_mark_X5_isIn
set_option maxRecDepth 20000 in
theorem ggX5_mark_X5_goes : GoodIn wsX5_mark wsX5_goes := goodIn_r _ [17, 18, 23, 24, 25, 26, 27, 28, 29, 30, 31, 32, 33, 34, 35, 36, 37, 38, 39, 40, 41, 42, 43] (by decide +kernel) (by decide +kernel)
set_option maxRecDepth 20000 in
theorem gX5_mark_X5_goes : GoodIn wsX5_mark (wsV RX5 79 RX5 yX5_goes wsX5_goes) := goodIn_app (goodIn_of _ (by decide +kernel)) ggX5_mark_X5_goes
set_option maxRecDepth 20000 in
theorem ggX5_mark_X5_binds : GoodIn wsX5_mark wsX5_binds := goodIn_r _ [22, 1, 23, 24, 25, 26, 27, 28, 29, 30, 31, 32, 33, 34, 35, 36, 37, 38, 39, 40, 41, 42, 43] (by decide +kernel) (by decide +kernel)
set_option maxRecDepth 20000 in
theorem gX5_mark_X5_binds : GoodIn wsX5_mark (wsV RX5 82 RX5 yX5_binds wsX5_binds) := goodIn_app (goodIn_of _ (by decide +kernel)) ggX5_mark_X5_binds
theorem dX5_mark_0 : decode cX5_mark 0 = .ok (.iload_n 1, 1) := by decide +kernel
theorem dX5_mark_1 : decode cX5_mark 1 = .ok (.invokestatic 72, 3) := by decide +kernel
theorem dX5_mark_4 : decode cX5_mark 4 = .ok (.ifCond .eq 46, 3) := by decide +kernel
theorem dX5_mark_7 : decode cX5_mark 7 = .ok (.iload_n 2, 1) := by decide +kernel
theorem dX5_mark_8 : decode cX5_mark 8 = .ok (.invokestatic 76, 3) := by decide +kernel
theorem dX5_mark_11 : decode cX5_mark 11 = .ok (.ifCond .eq 39, 3) := by decide +kernel
theorem dX5_mark_14 : decode cX5_mark 14 = .ok (.iload_n 3, 1) := by decide +kernel
theorem dX5_mark_15 : decode cX5_mark 15 = .ok (.invokestatic 72, 3) := by decide +kernel
theorem dX5_mark_18 : decode cX5_mark 18 = .ok (.ifCond .eq 32, 3) := by decide +kernel
theorem dX5_mark_21 : decode cX5_mark 21 = .ok (.iload 4, 2) := by decide +kernel
theorem dX5_mark_23 : decode cX5_mark 23 = .ok (.invokestatic 76, 3) := by decide +kernel
theorem dX5_mark_26 : decode cX5_mark 26 = .ok (.ifCond .eq 24, 3) := by decide +kernel
theorem dX5_mark_29 : decode cX5_mark 29 = .ok (.iload 5, 2) := by decide +kernel
theorem dX5_mark_31 : decode cX5_mark 31 = .ok (.iconst 0, 1) := by decide +kernel
theorem dX5_mark_32 : decode cX5_mark 32 = .ok (.sipush 1000, 3) := by decide +kernel
theorem dX5_mark_35 : decode cX5_mark 35 = .ok (.invokestatic 68, 3) := by decide +kernel
theorem dX5_mark_38 : decode cX5_mark 38 = .ok (.ifCond .eq 12, 3) := by decide +kernel
theorem dX5_mark_41 : decode cX5_mark 41 = .ok (.iload_n 1, 1) := by decide +kernel
theorem dX5_mark_42 : decode cX5_mark 42 = .ok (.iload_n 3, 1) := by decide +kernel
theorem dX5_mark_43 : decode cX5_mark 43 = .ok (.if_icmp .eq 7, 3) := by decide +kernel
theorem dX5_mark_46 : decode cX5_mark 46 = .ok (.iconst 1, 1) := by decide +kernel
theorem dX5_mark_47 : decode cX5_mark 47 = .ok (.goto 4, 3) := by decide +kernel
theorem dX5_mark_50 : decode cX5_mark 50 = .ok (.iconst 0, 1) := by decide +kernel
theorem dX5_mark_51 : decode cX5_mark 51 = .ok (.istore 6, 2) := by decide +kernel
theorem dX5_mark_53 : decode cX5_mark 53 = .ok (.aload_n 0, 1) := by decide +kernel
theorem dX5_mark_54 : decode cX5_mark 54 = .ok (.iload 6, 2) := by decide +kernel
theorem dX5_mark_56 : decode cX5_mark 56 = .ok (.ifCond .eq 7, 3) := by decide +kernel
theorem dX5_mark_59 : decode cX5_mark 59 = .ok (.iconst 0, 1) := by decide +kernel
theorem dX5_mark_60 : decode cX5_mark 60 = .ok (.goto 4, 3) := by decide +kernel
theorem dX5_mark_63 : decode cX5_mark 63 = .ok (.iconst 1, 1) := by decide +kernel
theorem dX5_mark_64 : decode cX5_mark 64 = .ok (.invokevirtual 79, 3) := by decide +kernel
theorem dX5_mark_67 : decode cX5_mark 67 = .ok (.ifCond .ne 4, 3) := by decide +kernel
theorem dX5_mark_70 : decode cX5_mark 70 = .ok (.return_, 1) := by decide +kernel
theorem dX5_mark_71 : decode cX5_mark 71 = .ok (.iconst 0, 1) := by decide +kernel
theorem dX5_mark_72 : decode cX5_mark 72 = .ok (.istore 7, 2) := by decide +kernel
theorem dX5_mark_74 : decode cX5_mark 74 = .ok (.iload 7, 2) := by decide +kernel
theorem dX5_mark_76 : decode cX5_mark 76 = .ok (.bipush 25, 2) := by decide +kernel
theorem dX5_mark_78 : decode cX5_mark 78 = .ok (.if_icmp .ge 23, 3) := by decide +kernel
theorem dX5_mark_81 : decode cX5_mark 81 = .ok (.aload_n 0, 1) := by decide +kernel
theorem dX5_mark_82 : decode cX5_mark 82 = .ok (.getfield 13, 3) := by decide +kernel
theorem dX5_mark_85 : decode cX5_mark 85 = .ok (.iload 7, 2) := by decide +kernel
theorem dX5_mark_87 : decode cX5_mark 87 = .ok (.aload_n 0, 1) := by decide +kernel
theorem dX5_mark_88 : decode cX5_mark 88 = .ok (.getfield 7, 3) := by decide +kernel
theorem dX5_mark_91 : decode cX5_mark 91 = .ok (.iload 7, 2) := by decide +kernel
theorem dX5_mark_93 : decode cX5_mark 93 = .ok (.iaload, 1) := by decide +kernel
theorem dX5_mark_94 : decode cX5_mark 94 = .ok (.iastore, 1) := by decide +kernel
theorem dX5_mark_95 : decode cX5_mark 95 = .ok (.iinc 7 1, 3) := by decide +kernel
theorem dX5_mark_98 : decode cX5_mark 98 = .ok (.goto (-24), 3) := by decide +kernel
theorem dX5_mark_101 : decode cX5_mark 101 = .ok (.aload_n 0, 1) := by decide +kernel
theorem dX5_mark_102 : decode cX5_mark 102 = .ok (.iload_n 1, 1) := by decide +kernel
theorem dX5_mark_103 : decode cX5_mark 103 = .ok (.iload_n 3, 1) := by decide +kernel
theorem dX5_mark_104 : decode cX5_mark 104 = .ok (.iload 5, 2) := by decide +kernel
theorem dX5_mark_106 : decode cX5_mark 106 = .ok (.iload_n 2, 1) := by decide +kernel
theorem dX5_mark_107 : decode cX5_mark 107 = .ok (.isub, 1) := by decide +kernel
theorem dX5_mark_108 : decode cX5_mark 108 = .ok (.iload 4, 2) := by decide +kernel
theorem dX5_mark_110 : decode cX5_mark 110 = .ok (.iadd, 1) := by decide +kernel
theorem dX5_mark_111 : decode cX5_mark 111 = .ok (.invokevirtual 82, 3) := by decide +kernel
theorem dX5_mark_114 : decode cX5_mark 114 = .ok (.aload_n 0, 1) := by decide +kernel
theorem dX5_mark_115 : decode cX5_mark 115 = .ok (.iload_n 3, 1) := by decide +kernel
theorem dX5_mark_116 : decode cX5_mark 116 = .ok (.iload_n 1, 1) := by decide +kernel
theorem dX5_mark_117 : decode cX5_mark 117 = .ok (.iload 5, 2) := by decide +kernel
theorem dX5_mark_119 : decode cX5_mark 119 = .ok (.iload_n 2, 1) := by decide +kernel
theorem dX5_mark_120 : decode cX5_mark 120 = .ok (.iadd, 1) := by decide +kernel
theorem dX5_mark_121 : decode cX5_mark 121 = .ok (.iload 4, 2) := by decide +kernel
theorem dX5_mark_123 : decode cX5_mark 123 = .ok (.isub, 1) := by decide +kernel
theorem dX5_mark_124 : decode cX5_mark 124 = .ok (.invokevirtual 82, 3) := by decide +kernel
theorem dX5_mark_127 : decode cX5_mark 127 = .ok (.iconst 0, 1) := by decide +kernel
theorem dX5_mark_128 : decode cX5_mark 128 = .ok (.istore 7, 2) := by decide +kernel
theorem dX5_mark_130 : decode cX5_mark 130 = .ok (.iload 7, 2) := by decide +kernel
theorem dX5_mark_132 : decode cX5_mark 132 = .ok (.iconst 5, 1) := by decide +kernel
theorem dX5_mark_133 : decode cX5_mark 133 = .ok (.if_icmp .ge 120, 3) := by decide +kernel
theorem dX5_mark_136 : decode cX5_mark 136 = .ok (.iconst 0, 1) := by decide +kernel
theorem dX5_mark_137 : decode cX5_mark 137 = .ok (.istore 8, 2) := by decide +kernel
theorem dX5_mark_139 : decode cX5_mark 139 = .ok (.iload 8, 2) := by decide +kernel
theorem dX5_mark_141 : decode cX5_mark 141 = .ok (.bipush 25, 2) := by decide +kernel
theorem dX5_mark_143 : decode cX5_mark 143 = .ok (.if_icmp .ge 104, 3) := by decide +kernel
theorem dX5_mark_146 : decode cX5_mark 146 = .ok (.aload_n 0, 1) := by decide +kernel
theorem dX5_mark_147 : decode cX5_mark 147 = .ok (.getfield 13, 3) := by decide +kernel
theorem dX5_mark_150 : decode cX5_mark 150 = .ok (.iconst 5, 1) := by decide +kernel
theorem dX5_mark_151 : decode cX5_mark 151 = .ok (.iload 8, 2) := by decide +kernel
theorem dX5_mark_153 : decode cX5_mark 153 = .ok (.iconst 5, 1) := by decide +kernel
theorem dX5_mark_154 : decode cX5_mark 154 = .ok (.idiv, 1) := by decide +kernel
theorem dX5_mark_155 : decode cX5_mark 155 = .ok (.imul, 1) := by decide +kernel
theorem dX5_mark_156 : decode cX5_mark 156 = .ok (.iload 7, 2) := by decide +kernel
theorem dX5_mark_158 : decode cX5_mark 158 = .ok (.iadd, 1) := by decide +kernel
theorem dX5_mark_159 : decode cX5_mark 159 = .ok (.iaload, 1) := by decide +kernel
theorem dX5_mark_160 : decode cX5_mark 160 = .ok (.istore 9, 2) := by decide +kernel
theorem dX5_mark_162 : decode cX5_mark 162 = .ok (.aload_n 0, 1) := by decide +kernel
theorem dX5_mark_163 : decode cX5_mark 163 = .ok (.getfield 13, 3) := by decide +kernel
theorem dX5_mark_166 : decode cX5_mark 166 = .ok (.iconst 5, 1) := by decide +kernel
theorem dX5_mark_167 : decode cX5_mark 167 = .ok (.iload 7, 2) := by decide +kernel
theorem dX5_mark_169 : decode cX5_mark 169 = .ok (.imul, 1) := by decide +kernel
theorem dX5_mark_170 : decode cX5_mark 170 = .ok (.iload 8, 2) := by decide +kernel
theorem dX5_mark_172 : decode cX5_mark 172 = .ok (.iconst 5, 1) := by decide +kernel
theorem dX5_mark_173 : decode cX5_mark 173 = .ok (.irem, 1) := by decide +kernel
theorem dX5_mark_174 : decode cX5_mark 174 = .ok (.iadd, 1) := by decide +kernel
theorem dX5_mark_175 : decode cX5_mark 175 = .ok (.iaload, 1) := by decide +kernel
theorem dX5_mark_176 : decode cX5_mark 176 = .ok (.istore 10, 2) := by decide +kernel
theorem dX5_mark_178 : decode cX5_mark 178 = .ok (.iload 9, 2) := by decide +kernel
theorem dX5_mark_180 : decode cX5_mark 180 = .ok (.ldc 63, 2) := by decide +kernel
theorem dX5_mark_182 : decode cX5_mark 182 = .ok (.if_icmp .eq 14, 3) := by decide +kernel
theorem dX5_mark_185 : decode cX5_mark 185 = .ok (.iload 10, 2) := by decide +kernel
theorem dX5_mark_187 : decode cX5_mark 187 = .ok (.ldc 63, 2) := by decide +kernel
theorem dX5_mark_189 : decode cX5_mark 189 = .ok (.if_icmp .eq 7, 3) := by decide +kernel
theorem dX5_mark_192 : decode cX5_mark 192 = .ok (.iconst 1, 1) := by decide +kernel
theorem dX5_mark_193 : decode cX5_mark 193 = .ok (.goto 4, 3) := by decide +kernel
theorem dX5_mark_196 : decode cX5_mark 196 = .ok (.iconst 0, 1) := by decide +kernel
theorem dX5_mark_197 : decode cX5_mark 197 = .ok (.istore 11, 2) := by decide +kernel
theorem dX5_mark_199 : decode cX5_mark 199 = .ok (.aload_n 0, 1) := by decide +kernel
theorem dX5_mark_200 : decode cX5_mark 200 = .ok (.getfield 13, 3) := by decide +kernel
theorem dX5_mark_203 : decode cX5_mark 203 = .ok (.iload 8, 2) := by decide +kernel
theorem dX5_mark_205 : decode cX5_mark 205 = .ok (.iload 11, 2) := by decide +kernel
theorem dX5_mark_207 : decode cX5_mark 207 = .ok (.ifCond .eq 26, 3) := by decide +kernel
theorem dX5_mark_210 : decode cX5_mark 210 = .ok (.iload 9, 2) := by decide +kernel
theorem dX5_mark_212 : decode cX5_mark 212 = .ok (.iload 10, 2) := by decide +kernel
theorem dX5_mark_214 : decode cX5_mark 214 = .ok (.iadd, 1) := by decide +kernel
theorem dX5_mark_215 : decode cX5_mark 215 = .ok (.aload_n 0, 1) := by decide +kernel
