theorem dX2_size_4 : decode cX2_size 4 = .ok (.ireturn, 1) := by decide +kernel
theorem dX2_add_0 : decode cX2_add 0 = .ok (.aload_n 0, 1) := by decide +kernel
theorem dX2_add_1 : decode cX2_add 1 = .ok (.getfield 24, 3) := by decide +kernel
theorem dX2_add_4 : decode cX2_add 4 = .ok (.istore 5, 2) := by decide +kernel
theorem dX2_add_6 : decode cX2_add 6 = .ok (.iload 5, 2) := by decide +kernel
theorem dX2_add_8 : decode cX2_add 8 = .ok (.bipush 40, 2) := by decide +kernel
theorem dX2_add_10 : decode cX2_add 10 = .ok (.if_icmp .lt 5, 3) := by decide +kernel
theorem dX2_add_13 : decode cX2_add 13 = .ok (.iconst (-1), 1) := by decide +kernel
theorem dX2_add_14 : decode cX2_add 14 = .ok (.ireturn, 1) := by decide +kernel
theorem dX2_add_15 : decode cX2_add 15 = .ok (.aload_n 0, 1) := by decide +kernel
theorem dX2_add_16 : decode cX2_add 16 = .ok (.getfield 9, 3) := by decide +kernel
theorem dX2_add_19 : decode cX2_add 19 = .ok (.iload 5, 2) := by decide +kernel
theorem dX2_add_21 : decode cX2_add 21 = .ok (.iload_n 1, 1) := by decide +kernel
theorem dX2_add_22 : decode cX2_add 22 = .ok (.iastore, 1) := by decide +kernel
theorem dX2_add_23 : decode cX2_add 23 = .ok (.aload_n 0, 1) := by decide +kernel
theorem dX2_add_24 : decode cX2_add 24 = .ok (.getfield 15, 3) := by decide +kernel
theorem dX2_add_27 : decode cX2_add 27 = .ok (.iload 5, 2) := by decide +kernel
theorem dX2_add_29 : decode cX2_add 29 = .ok (.iload_n 2, 1) := by decide +kernel
theorem dX2_add_30 : decode cX2_add 30 = .ok (.iastore, 1) := by decide +kernel
theorem dX2_add_31 : decode cX2_add 31 = .ok (.aload_n 0, 1) := by decide +kernel
theorem dX2_add_32 : decode cX2_add 32 = .ok (.getfield 18, 3) := by decide +kernel
theorem dX2_add_35 : decode cX2_add 35 = .ok (.iload 5, 2) := by decide +kernel
theorem dX2_add_37 : decode cX2_add 37 = .ok (.iload_n 3, 1) := by decide +kernel
theorem dX2_add_38 : decode cX2_add 38 = .ok (.iastore, 1) := by decide +kernel
theorem dX2_add_39 : decode cX2_add 39 = .ok (.aload_n 0, 1) := by decide +kernel
theorem dX2_add_40 : decode cX2_add 40 = .ok (.getfield 21, 3) := by decide +kernel
theorem dX2_add_43 : decode cX2_add 43 = .ok (.iload 5, 2) := by decide +kernel
theorem dX2_add_45 : decode cX2_add 45 = .ok (.iload 4, 2) := by decide +kernel
theorem dX2_add_47 : decode cX2_add 47 = .ok (.iastore, 1) := by decide +kernel
theorem dX2_add_48 : decode cX2_add 48 = .ok (.aload_n 0, 1) := by decide +kernel
theorem dX2_add_49 : decode cX2_add 49 = .ok (.iload 5, 2) := by decide +kernel
theorem dX2_add_51 : decode cX2_add 51 = .ok (.iconst 1, 1) := by decide +kernel
theorem dX2_add_52 : decode cX2_add 52 = .ok (.iadd, 1) := by decide +kernel
theorem dX2_add_53 : decode cX2_add 53 = .ok (.putfield 24, 3) := by decide +kernel
theorem dX2_add_56 : decode cX2_add 56 = .ok (.iload 5, 2) := by decide +kernel
theorem dX2_add_58 : decode cX2_add 58 = .ok (.ireturn, 1) := by decide +kernel
set_option maxRecDepth 20000 in
theorem ggX2_sumOfWorst_X2_nextChange : GoodIn wsX2_sumOfWorst wsX2_nextChange := goodIn_r _ [6, 1, 7, 8, 9, 10, 11, 12, 25, 26, 27, 28, 29] (by decide +kernel) (by decide +kernel)
set_option maxRecDepth 20000 in
theorem gX2_sumOfWorst_X2_nextChange : GoodIn wsX2_sumOfWorst (wsV RX2 28 RX2 yX2_nextChange wsX2_nextChange) := goodIn_app (goodIn_of _ (by decide +kernel)) ggX2_sumOfWorst_X2_nextChange
set_option maxRecDepth 20000 in
theorem ggX2_sumOfWorst_X2_worst : GoodIn wsX2_sumOfWorst wsX2_worst := goodIn_r _ [16, 1, 17, 8, 7, 18, 19, 20, 11, 21, 22, 23, 24, 25, 26, 27, 28, 29] (by decide +kernel) (by decide +kernel)
set_option maxRecDepth 20000 in
theorem gX2_sumOfWorst_X2_worst : GoodIn wsX2_sumOfWorst (wsV RX2 32 RX2 yX2_worst wsX2_worst) := goodIn_app (goodIn_of _ (by decide +kernel)) ggX2_sumOfWorst_X2_worst
theorem dX2_sumOfWorst_0 : decode cX2_sumOfWorst 0 = .ok (.iconst 0, 1) := by decide +kernel
theorem dX2_sumOfWorst_1 : decode cX2_sumOfWorst 1 = .ok (.istore_n 2, 1) := by decide +kernel
theorem dX2_sumOfWorst_2 : decode cX2_sumOfWorst 2 = .ok (.iconst 0, 1) := by decide +kernel
theorem dX2_sumOfWorst_3 : decode cX2_sumOfWorst 3 = .ok (.istore_n 3, 1) := by decide +kernel
theorem dX2_sumOfWorst_4 : decode cX2_sumOfWorst 4 = .ok (.iconst 0, 1) := by decide +kernel
theorem dX2_sumOfWorst_5 : decode cX2_sumOfWorst 5 = .ok (.istore 4, 2) := by decide +kernel
theorem dX2_sumOfWorst_7 : decode cX2_sumOfWorst 7 = .ok (.iload 4, 2) := by decide +kernel
theorem dX2_sumOfWorst_9 : decode cX2_sumOfWorst 9 = .ok (.iconst 2, 1) := by decide +kernel
theorem dX2_sumOfWorst_10 : decode cX2_sumOfWorst 10 = .ok (.aload_n 0, 1) := by decide +kernel
theorem dX2_sumOfWorst_11 : decode cX2_sumOfWorst 11 = .ok (.getfield 24, 3) := by decide +kernel
theorem dX2_sumOfWorst_14 : decode cX2_sumOfWorst 14 = .ok (.imul, 1) := by decide +kernel
theorem dX2_sumOfWorst_15 : decode cX2_sumOfWorst 15 = .ok (.if_icmp .gt 33, 3) := by decide +kernel
theorem dX2_sumOfWorst_18 : decode cX2_sumOfWorst 18 = .ok (.aload_n 0, 1) := by decide +kernel
theorem dX2_sumOfWorst_19 : decode cX2_sumOfWorst 19 = .ok (.iload_n 3, 1) := by decide +kernel
theorem dX2_sumOfWorst_20 : decode cX2_sumOfWorst 20 = .ok (.invokevirtual 28, 3) := by decide +kernel
theorem dX2_sumOfWorst_23 : decode cX2_sumOfWorst 23 = .ok (.istore 5, 2) := by decide +kernel
theorem dX2_sumOfWorst_25 : decode cX2_sumOfWorst 25 = .ok (.iload_n 2, 1) := by decide +kernel
theorem dX2_sumOfWorst_26 : decode cX2_sumOfWorst 26 = .ok (.iload 5, 2) := by decide +kernel
theorem dX2_sumOfWorst_28 : decode cX2_sumOfWorst 28 = .ok (.iload_n 3, 1) := by decide +kernel
theorem dX2_sumOfWorst_29 : decode cX2_sumOfWorst 29 = .ok (.isub, 1) := by decide +kernel
theorem dX2_sumOfWorst_30 : decode cX2_sumOfWorst 30 = .ok (.aload_n 0, 1) := by decide +kernel
theorem dX2_sumOfWorst_31 : decode cX2_sumOfWorst 31 = .ok (.iload_n 1, 1) := by decide +kernel
theorem dX2_sumOfWorst_32 : decode cX2_sumOfWorst 32 = .ok (.iload_n 3, 1) := by decide +kernel
theorem dX2_sumOfWorst_33 : decode cX2_sumOfWorst 33 = .ok (.invokevirtual 32, 3) := by decide +kernel
theorem dX2_sumOfWorst_36 : decode cX2_sumOfWorst 36 = .ok (.imul, 1) := by decide +kernel
theorem dX2_sumOfWorst_37 : decode cX2_sumOfWorst 37 = .ok (.iadd, 1) := by decide +kernel
theorem dX2_sumOfWorst_38 : decode cX2_sumOfWorst 38 = .ok (.istore_n 2, 1) := by decide +kernel
theorem dX2_sumOfWorst_39 : decode cX2_sumOfWorst 39 = .ok (.iload 5, 2) := by decide +kernel
theorem dX2_sumOfWorst_41 : decode cX2_sumOfWorst 41 = .ok (.istore_n 3, 1) := by decide +kernel
theorem dX2_sumOfWorst_42 : decode cX2_sumOfWorst 42 = .ok (.iinc 4 1, 3) := by decide +kernel
theorem dX2_sumOfWorst_45 : decode cX2_sumOfWorst 45 = .ok (.goto (-38), 3) := by decide +kernel
theorem dX2_sumOfWorst_48 : decode cX2_sumOfWorst 48 = .ok (.iload_n 2, 1) := by decide +kernel
theorem dX2_sumOfWorst_49 : decode cX2_sumOfWorst 49 = .ok (.ireturn, 1) := by decide +kernel
set_option maxRecDepth 20000 in
theorem ggX2_failedMinutes_X2_nextChange : GoodIn wsX2_failedMinutes wsX2_nextChange := goodIn_r _ [6, 1, 7, 8, 9, 10, 11, 12, 25, 26, 27, 28, 29] (by decide +kernel) (by decide +kernel)
set_option maxRecDepth 20000 in
theorem gX2_failedMinutes_X2_nextChange : GoodIn wsX2_failedMinutes (wsV RX2 28 RX2 yX2_nextChange wsX2_nextChange) := goodIn_app (goodIn_of _ (by decide +kernel)) ggX2_failedMinutes_X2_nextChange
set_option maxRecDepth 20000 in
theorem ggX2_failedMinutes_X2_worst : GoodIn wsX2_failedMinutes wsX2_worst := goodIn_r _ [16, 1, 17, 8, 7, 18, 19, 20, 11, 21, 22, 23, 24, 25, 26, 27, 28, 29] (by decide +kernel) (by decide +kernel)
set_option maxRecDepth 20000 in
theorem gX2_failedMinutes_X2_worst : GoodIn wsX2_failedMinutes (wsV RX2 32 RX2 yX2_worst wsX2_worst) := goodIn_app (goodIn_of _ (by decide +kernel)) ggX2_failedMinutes_X2_worst
theorem dX2_failedMinutes_0 : decode cX2_failedMinutes 0 = .ok (.iconst 0, 1) := by decide +kernel
theorem dX2_failedMinutes_1 : decode cX2_failedMinutes 1 = .ok (.istore_n 1, 1) := by decide +kernel
theorem dX2_failedMinutes_2 : decode cX2_failedMinutes 2 = .ok (.iconst 0, 1) := by decide +kernel
theorem dX2_failedMinutes_3 : decode cX2_failedMinutes 3 = .ok (.istore_n 2, 1) := by decide +kernel
theorem dX2_failedMinutes_4 : decode cX2_failedMinutes 4 = .ok (.iconst 0, 1) := by decide +kernel
theorem dX2_failedMinutes_5 : decode cX2_failedMinutes 5 = .ok (.istore_n 3, 1) := by decide +kernel
theorem dX2_failedMinutes_6 : decode cX2_failedMinutes 6 = .ok (.iload_n 3, 1) := by decide +kernel
theorem dX2_failedMinutes_7 : decode cX2_failedMinutes 7 = .ok (.iconst 2, 1) := by decide +kernel
theorem dX2_failedMinutes_8 : decode cX2_failedMinutes 8 = .ok (.aload_n 0, 1) := by decide +kernel
theorem dX2_failedMinutes_9 : decode cX2_failedMinutes 9 = .ok (.getfield 24, 3) := by decide +kernel
theorem dX2_failedMinutes_12 : decode cX2_failedMinutes 12 = .ok (.imul, 1) := by decide +kernel
theorem dX2_failedMinutes_13 : decode cX2_failedMinutes 13 = .ok (.if_icmp .gt 35, 3) := by decide +kernel
theorem dX2_failedMinutes_16 : decode cX2_failedMinutes 16 = .ok (.aload_n 0, 1) := by decide +kernel
theorem dX2_failedMinutes_17 : decode cX2_failedMinutes 17 = .ok (.iload_n 2, 1) := by decide +kernel
theorem dX2_failedMinutes_18 : decode cX2_failedMinutes 18 = .ok (.invokevirtual 28, 3) := by decide +kernel
theorem dX2_failedMinutes_21 : decode cX2_failedMinutes 21 = .ok (.istore 4, 2) := by decide +kernel
theorem dX2_failedMinutes_23 : decode cX2_failedMinutes 23 = .ok (.aload_n 0, 1) := by decide +kernel
theorem dX2_failedMinutes_24 : decode cX2_failedMinutes 24 = .ok (.iconst (-1), 1) := by decide +kernel
theorem dX2_failedMinutes_25 : decode cX2_failedMinutes 25 = .ok (.iload_n 2, 1) := by decide +kernel
theorem dX2_failedMinutes_26 : decode cX2_failedMinutes 26 = .ok (.invokevirtual 32, 3) := by decide +kernel
theorem dX2_failedMinutes_29 : decode cX2_failedMinutes 29 = .ok (.ifCond .le 10, 3) := by decide +kernel
theorem dX2_failedMinutes_32 : decode cX2_failedMinutes 32 = .ok (.iload_n 1, 1) := by decide +kernel
theorem dX2_failedMinutes_33 : decode cX2_failedMinutes 33 = .ok (.iload 4, 2) := by decide +kernel
theorem dX2_failedMinutes_35 : decode cX2_failedMinutes 35 = .ok (.iload_n 2, 1) := by decide +kernel
theorem dX2_failedMinutes_36 : decode cX2_failedMinutes 36 = .ok (.isub, 1) := by decide +kernel
theorem dX2_failedMinutes_37 : decode cX2_failedMinutes 37 = .ok (.iadd, 1) := by decide +kernel
theorem dX2_failedMinutes_38 : decode cX2_failedMinutes 38 = .ok (.istore_n 1, 1) := by decide +kernel
theorem dX2_failedMinutes_39 : decode cX2_failedMinutes 39 = .ok (.iload 4, 2) := by decide +kernel
theorem dX2_failedMinutes_41 : decode cX2_failedMinutes 41 = .ok (.istore_n 2, 1) := by decide +kernel
theorem dX2_failedMinutes_42 : decode cX2_failedMinutes 42 = .ok (.iinc 3 1, 3) := by decide +kernel
theorem dX2_failedMinutes_45 : decode cX2_failedMinutes 45 = .ok (.goto (-39), 3) := by decide +kernel
theorem dX2_failedMinutes_48 : decode cX2_failedMinutes 48 = .ok (.iload_n 1, 1) := by decide +kernel
theorem dX2_failedMinutes_49 : decode cX2_failedMinutes 49 = .ok (.ireturn, 1) := by decide +kernel
theorem dX2_nextChange_0 : decode cX2_nextChange 0 = .ok (.sipush 10001, 3) := by decide +kernel
theorem dX2_nextChange_3 : decode cX2_nextChange 3 = .ok (.istore_n 2, 1) := by decide +kernel
theorem dX2_nextChange_4 : decode cX2_nextChange 4 = .ok (.iconst 0, 1) := by decide +kernel
theorem dX2_nextChange_5 : decode cX2_nextChange 5 = .ok (.istore_n 3, 1) := by decide +kernel
theorem dX2_nextChange_6 : decode cX2_nextChange 6 = .ok (.iload_n 3, 1) := by decide +kernel
theorem dX2_nextChange_7 : decode cX2_nextChange 7 = .ok (.aload_n 0, 1) := by decide +kernel
theorem dX2_nextChange_8 : decode cX2_nextChange 8 = .ok (.getfield 24, 3) := by decide +kernel
theorem dX2_nextChange_11 : decode cX2_nextChange 11 = .ok (.if_icmp .ge 62, 3) := by decide +kernel
theorem dX2_nextChange_14 : decode cX2_nextChange 14 = .ok (.iload_n 3, 1) := by decide +kernel
theorem dX2_nextChange_15 : decode cX2_nextChange 15 = .ok (.bipush 40, 2) := by decide +kernel
theorem dX2_nextChange_17 : decode cX2_nextChange 17 = .ok (.if_icmp .ge 56, 3) := by decide +kernel
theorem dX2_nextChange_20 : decode cX2_nextChange 20 = .ok (.aload_n 0, 1) := by decide +kernel
theorem dX2_nextChange_21 : decode cX2_nextChange 21 = .ok (.getfield 18, 3) := by decide +kernel
theorem dX2_nextChange_24 : decode cX2_nextChange 24 = .ok (.iload_n 3, 1) := by decide +kernel
theorem dX2_nextChange_25 : decode cX2_nextChange 25 = .ok (.iaload, 1) := by decide +kernel
theorem dX2_nextChange_26 : decode cX2_nextChange 26 = .ok (.iconst 1, 1) := by decide +kernel
theorem dX2_nextChange_27 : decode cX2_nextChange 27 = .ok (.iadd, 1) := by decide +kernel
theorem dX2_nextChange_28 : decode cX2_nextChange 28 = .ok (.istore 4, 2) := by decide +kernel
theorem dX2_nextChange_30 : decode cX2_nextChange 30 = .ok (.aload_n 0, 1) := by decide +kernel
theorem dX2_nextChange_31 : decode cX2_nextChange 31 = .ok (.getfield 15, 3) := by decide +kernel
theorem dX2_nextChange_34 : decode cX2_nextChange 34 = .ok (.iload_n 3, 1) := by decide +kernel
theorem dX2_nextChange_35 : decode cX2_nextChange 35 = .ok (.iaload, 1) := by decide +kernel
theorem dX2_nextChange_36 : decode cX2_nextChange 36 = .ok (.iload_n 1, 1) := by decide +kernel
theorem dX2_nextChange_37 : decode cX2_nextChange 37 = .ok (.if_icmp .le 17, 3) := by decide +kernel
theorem dX2_nextChange_40 : decode cX2_nextChange 40 = .ok (.iload_n 2, 1) := by decide +kernel
theorem dX2_nextChange_41 : decode cX2_nextChange 41 = .ok (.aload_n 0, 1) := by decide +kernel
theorem dX2_nextChange_42 : decode cX2_nextChange 42 = .ok (.getfield 15, 3) := by decide +kernel
theorem dX2_nextChange_45 : decode cX2_nextChange 45 = .ok (.iload_n 3, 1) := by decide +kernel
theorem dX2_nextChange_46 : decode cX2_nextChange 46 = .ok (.iaload, 1) := by decide +kernel
theorem dX2_nextChange_47 : decode cX2_nextChange 47 = .ok (.invokestatic 36, 3) := by decide +kernel
theorem dX2_nextChange_50 : decode cX2_nextChange 50 = .ok (.istore_n 2, 1) := by decide +kernel
theorem dX2_nextChange_51 : decode cX2_nextChange 51 = .ok (.goto 16, 3) := by decide +kernel
theorem dX2_nextChange_54 : decode cX2_nextChange 54 = .ok (.iload 4, 2) := by decide +kernel
theorem dX2_nextChange_56 : decode cX2_nextChange 56 = .ok (.iload_n 1, 1) := by decide +kernel
theorem dX2_nextChange_57 : decode cX2_nextChange 57 = .ok (.if_icmp .le 10, 3) := by decide +kernel
theorem dX2_nextChange_60 : decode cX2_nextChange 60 = .ok (.iload_n 2, 1) := by decide +kernel
theorem dX2_nextChange_61 : decode cX2_nextChange 61 = .ok (.iload 4, 2) := by decide +kernel
theorem dX2_nextChange_63 : decode cX2_nextChange 63 = .ok (.invokestatic 36, 3) := by decide +kernel
theorem dX2_nextChange_66 : decode cX2_nextChange 66 = .ok (.istore_n 2, 1) := by decide +kernel
theorem dX2_nextChange_67 : decode cX2_nextChange 67 = .ok (.iinc 3 1, 3) := by decide +kernel
theorem dX2_nextChange_70 : decode cX2_nextChange 70 = .ok (.goto (-64), 3) := by decide +kernel
theorem dX2_nextChange_73 : decode cX2_nextChange 73 = .ok (.iload_n 2, 1) := by decide +kernel
theorem dX2_nextChange_74 : decode cX2_nextChange 74 = .ok (.ireturn, 1) := by decide +kernel
set_option maxRecDepth 20000 in
theorem ggX2_worst_X4_isWithin : GoodIn wsX2_worst wsX4_isWithin := goodIn_r _ [12] (by decide +kernel) (by decide +kernel)
set_option maxRecDepth 20000 in
theorem gX2_worst_X4_isWithin_n41 : GoodIn wsX2_worst (wsX4_isWithin) := ggX2_worst_X4_isWithin
theorem dX2_worst_0 : decode cX2_worst 0 = .ok (.iconst 0, 1) := by decide +kernel
theorem dX2_worst_1 : decode cX2_worst 1 = .ok (.istore_n 3, 1) := by decide +kernel
theorem dX2_worst_2 : decode cX2_worst 2 = .ok (.iconst 0, 1) := by decide +kernel
theorem dX2_worst_3 : decode cX2_worst 3 = .ok (.istore 4, 2) := by decide +kernel
theorem dX2_worst_5 : decode cX2_worst 5 = .ok (.iload 4, 2) := by decide +kernel
theorem dX2_worst_7 : decode cX2_worst 7 = .ok (.aload_n 0, 1) := by decide +kernel
theorem dX2_worst_8 : decode cX2_worst 8 = .ok (.getfield 24, 3) := by decide +kernel
theorem dX2_worst_11 : decode cX2_worst 11 = .ok (.if_icmp .ge 77, 3) := by decide +kernel
theorem dX2_worst_14 : decode cX2_worst 14 = .ok (.iload 4, 2) := by decide +kernel
theorem dX2_worst_16 : decode cX2_worst 16 = .ok (.bipush 40, 2) := by decide +kernel
theorem dX2_worst_18 : decode cX2_worst 18 = .ok (.if_icmp .ge 70, 3) := by decide +kernel
theorem dX2_worst_21 : decode cX2_worst 21 = .ok (.iload_n 1, 1) := by decide +kernel
theorem dX2_worst_22 : decode cX2_worst 22 = .ok (.iconst (-1), 1) := by decide +kernel
theorem dX2_worst_23 : decode cX2_worst 23 = .ok (.if_icmp .eq 14, 3) := by decide +kernel
theorem dX2_worst_26 : decode cX2_worst 26 = .ok (.aload_n 0, 1) := by decide +kernel
theorem dX2_worst_27 : decode cX2_worst 27 = .ok (.getfield 9, 3) := by decide +kernel
theorem dX2_worst_30 : decode cX2_worst 30 = .ok (.iload 4, 2) := by decide +kernel
theorem dX2_worst_32 : decode cX2_worst 32 = .ok (.iaload, 1) := by decide +kernel
theorem dX2_worst_33 : decode cX2_worst 33 = .ok (.iload_n 1, 1) := by decide +kernel
theorem dX2_worst_34 : decode cX2_worst 34 = .ok (.if_icmp .ne 7, 3) := by decide +kernel
theorem dX2_worst_37 : decode cX2_worst 37 = .ok (.iconst 1, 1) := by decide +kernel
theorem dX2_worst_38 : decode cX2_worst 38 = .ok (.goto 4, 3) := by decide +kernel
theorem dX2_worst_41 : decode cX2_worst 41 = .ok (.iconst 0, 1) := by decide +kernel
theorem dX2_worst_42 : decode cX2_worst 42 = .ok (.istore 5, 2) := by decide +kernel
theorem dX2_worst_44 : decode cX2_worst 44 = .ok (.iload 5, 2) := by decide +kernel
theorem dX2_worst_46 : decode cX2_worst 46 = .ok (.ifCond .eq 36, 3) := by decide +kernel
theorem dX2_worst_49 : decode cX2_worst 49 = .ok (.iload_n 2, 1) := by decide +kernel
theorem dX2_worst_50 : decode cX2_worst 50 = .ok (.aload_n 0, 1) := by decide +kernel
theorem dX2_worst_51 : decode cX2_worst 51 = .ok (.getfield 15, 3) := by decide +kernel
theorem dX2_worst_54 : decode cX2_worst 54 = .ok (.iload 4, 2) := by decide +kernel
theorem dX2_worst_56 : decode cX2_worst 56 = .ok (.iaload, 1) := by decide +kernel
theorem dX2_worst_57 : decode cX2_worst 57 = .ok (.aload_n 0, 1) := by decide +kernel
theorem dX2_worst_58 : decode cX2_worst 58 = .ok (.getfield 18, 3) := by decide +kernel
theorem dX2_worst_61 : decode cX2_worst 61 = .ok (.iload 4, 2) := by decide +kernel
theorem dX2_worst_63 : decode cX2_worst 63 = .ok (.iaload, 1) := by decide +kernel
theorem dX2_worst_64 : decode cX2_worst 64 = .ok (.invokestatic 41, 3) := by decide +kernel
theorem dX2_worst_67 : decode cX2_worst 67 = .ok (.ifCond .eq 15, 3) := by decide +kernel
theorem dX2_worst_70 : decode cX2_worst 70 = .ok (.iload_n 3, 1) := by decide +kernel
theorem dX2_worst_71 : decode cX2_worst 71 = .ok (.aload_n 0, 1) := by decide +kernel
theorem dX2_worst_72 : decode cX2_worst 72 = .ok (.getfield 21, 3) := by decide +kernel
theorem dX2_worst_75 : decode cX2_worst 75 = .ok (.iload 4, 2) := by decide +kernel
theorem dX2_worst_77 : decode cX2_worst 77 = .ok (.iaload, 1) := by decide +kernel
theorem dX2_worst_78 : decode cX2_worst 78 = .ok (.invokestatic 45, 3) := by decide +kernel
theorem dX2_worst_81 : decode cX2_worst 81 = .ok (.istore_n 3, 1) := by decide +kernel
theorem dX2_worst_82 : decode cX2_worst 82 = .ok (.iinc 4 1, 3) := by decide +kernel
theorem dX2_worst_85 : decode cX2_worst 85 = .ok (.goto (-80), 3) := by decide +kernel
theorem dX2_worst_88 : decode cX2_worst 88 = .ok (.iload_n 3, 1) := by decide +kernel
theorem dX2_worst_89 : decode cX2_worst 89 = .ok (.ireturn, 1) := by decide +kernel
theorem dX3_init_0 : decode cX3_init 0 = .ok (.aload_n 0, 1) := by decide +kernel
theorem dX3_init_1 : decode cX3_init 1 = .ok (.invokespecial 3, 3) := by decide +kernel
theorem dX3_init_4 : decode cX3_init 4 = .ok (.aload_n 0, 1) := by decide +kernel
theorem dX3_init_5 : decode cX3_init 5 = .ok (.iconst 5, 1) := by decide +kernel
theorem dX3_init_6 : decode cX3_init 6 = .ok (.iconst 5, 1) := by decide +kernel
theorem dX3_init_7 : decode cX3_init 7 = .ok (.multianewarray 9 2, 4) := by decide +kernel
theorem dX3_init_11 : decode cX3_init 11 = .ok (.putfield 11, 3) := by decide +kernel
theorem dX3_init_14 : decode cX3_init 14 = .ok (.iconst 0, 1) := by decide +kernel
theorem dX3_init_15 : decode cX3_init 15 = .ok (.istore_n 1, 1) := by decide +kernel
theorem dX3_init_16 : decode cX3_init 16 = .ok (.iload_n 1, 1) := by decide +kernel
theorem dX3_init_17 : decode cX3_init 17 = .ok (.iconst 5, 1) := by decide +kernel
theorem dX3_init_18 : decode cX3_init 18 = .ok (.if_icmp .ge 41, 3) := by decide +kernel
theorem dX3_init_21 : decode cX3_init 21 = .ok (.iconst 0, 1) := by decide +kernel
theorem dX3_init_22 : decode cX3_init 22 = .ok (.istore_n 2, 1) := by decide +kernel
theorem dX3_init_23 : decode cX3_init 23 = .ok (.iload_n 2, 1) := by decide +kernel
theorem dX3_init_24 : decode cX3_init 24 = .ok (.iconst 5, 1) := by decide +kernel
theorem dX3_init_25 : decode cX3_init 25 = .ok (.if_icmp .ge 28, 3) := by decide +kernel
theorem dX3_init_28 : decode cX3_init 28 = .ok (.aload_n 0, 1) := by decide +kernel
theorem dX3_init_29 : decode cX3_init 29 = .ok (.getfield 11, 3) := by decide +kernel
theorem dX3_init_32 : decode cX3_init 32 = .ok (.iload_n 1, 1) := by decide +kernel
theorem dX3_init_33 : decode cX3_init 33 = .ok (.aaload, 1) := by decide +kernel
theorem dX3_init_34 : decode cX3_init 34 = .ok (.iload_n 2, 1) := by decide +kernel
theorem dX3_init_35 : decode cX3_init 35 = .ok (.iload_n 1, 1) := by decide +kernel
theorem dX3_init_36 : decode cX3_init 36 = .ok (.iload_n 2, 1) := by decide +kernel
theorem dX3_init_37 : decode cX3_init 37 = .ok (.if_icmp .ne 7, 3) := by decide +kernel
theorem dX3_init_40 : decode cX3_init 40 = .ok (.iconst 0, 1) := by decide +kernel
theorem dX3_init_41 : decode cX3_init 41 = .ok (.goto 5, 3) := by decide +kernel
theorem dX3_init_44 : decode cX3_init 44 = .ok (.ldc 16, 2) := by decide +kernel
theorem dX3_init_46 : decode cX3_init 46 = .ok (.iastore, 1) := by decide +kernel
theorem dX3_init_47 : decode cX3_init 47 = .ok (.iinc 2 1, 3) := by decide +kernel
theorem dX3_init_50 : decode cX3_init 50 = .ok (.goto (-27), 3) := by decide +kernel
theorem dX3_init_53 : decode cX3_init 53 = .ok (.iinc 1 1, 3) := by decide +kernel
theorem dX3_init_56 : decode cX3_init 56 = .ok (.goto (-40), 3) := by decide +kernel
theorem dX3_init_59 : decode cX3_init 59 = .ok (.return_, 1) := by decide +kernel
set_option maxRecDepth 20000 in
theorem ggX3_most_X4_isClock : GoodIn wsX3_most wsX4_isClock := goodIn_r _ [5, 6, 7, 4, 8] (by decide +kernel) (by decide +kernel)
set_option maxRecDepth 20000 in
theorem gX3_most_X4_isClock_n17 : GoodIn wsX3_most (wsX4_isClock) := ggX3_most_X4_isClock
theorem dX3_most_0 : decode cX3_most 0 = .ok (.iload_n 1, 1) := by decide +kernel
theorem dX3_most_1 : decode cX3_most 1 = .ok (.invokestatic 17, 3) := by decide +kernel
theorem dX3_most_4 : decode cX3_most 4 = .ok (.ifCond .eq 10, 3) := by decide +kernel
theorem dX3_most_7 : decode cX3_most 7 = .ok (.iload_n 2, 1) := by decide +kernel
theorem dX3_most_8 : decode cX3_most 8 = .ok (.invokestatic 17, 3) := by decide +kernel
theorem dX3_most_11 : decode cX3_most 11 = .ok (.ifCond .ne 6, 3) := by decide +kernel
theorem dX3_most_14 : decode cX3_most 14 = .ok (.ldc 16, 2) := by decide +kernel
theorem dX3_most_16 : decode cX3_most 16 = .ok (.ireturn, 1) := by decide +kernel
theorem dX3_most_17 : decode cX3_most 17 = .ok (.aload_n 0, 1) := by decide +kernel
theorem dX3_most_18 : decode cX3_most 18 = .ok (.getfield 11, 3) := by decide +kernel
theorem dX3_most_21 : decode cX3_most 21 = .ok (.iload_n 1, 1) := by decide +kernel
theorem dX3_most_22 : decode cX3_most 22 = .ok (.aaload, 1) := by decide +kernel
theorem dX3_most_23 : decode cX3_most 23 = .ok (.iload_n 2, 1) := by decide +kernel
theorem dX3_most_24 : decode cX3_most 24 = .ok (.iaload, 1) := by decide +kernel
theorem dX3_most_25 : decode cX3_most 25 = .ok (.ireturn, 1) := by decide +kernel
set_option maxRecDepth 20000 in
theorem ggX3_allows_X3_most : GoodIn wsX3_allows wsX3_most := goodIn_r _ [5, 6, 7, 8, 9, 10, 11, 12, 13, 14] (by decide +kernel) (by decide +kernel)
set_option maxRecDepth 20000 in
theorem gX3_allows_X3_most : GoodIn wsX3_allows (wsV RX3 21 RX3 yX3_most wsX3_most) := goodIn_app (goodIn_of _ (by decide +kernel)) ggX3_allows_X3_most
theorem dX3_allows_0 : decode cX3_allows 0 = .ok (.iload_n 3, 1) := by decide +kernel
theorem dX3_allows_1 : decode cX3_allows 1 = .ok (.ineg, 1) := by decide +kernel
theorem dX3_allows_2 : decode cX3_allows 2 = .ok (.aload_n 0, 1) := by decide +kernel
theorem dX3_allows_3 : decode cX3_allows 3 = .ok (.iload_n 2, 1) := by decide +kernel
theorem dX3_allows_4 : decode cX3_allows 4 = .ok (.iload_n 1, 1) := by decide +kernel
theorem dX3_allows_5 : decode cX3_allows 5 = .ok (.invokevirtual 21, 3) := by decide +kernel
theorem dX3_allows_8 : decode cX3_allows 8 = .ok (.if_icmp .gt 7, 3) := by decide +kernel
theorem dX3_allows_11 : decode cX3_allows 11 = .ok (.iconst 1, 1) := by decide +kernel
theorem dX3_allows_12 : decode cX3_allows 12 = .ok (.goto 4, 3) := by decide +kernel
theorem dX3_allows_15 : decode cX3_allows 15 = .ok (.iconst 0, 1) := by decide +kernel
theorem dX3_allows_16 : decode cX3_allows 16 = .ok (.ireturn, 1) := by decide +kernel
set_option maxRecDepth 20000 in
theorem ggX3_bound_X3_most : GoodIn wsX3_bound wsX3_most := goodIn_r _ [11, 1, 2, 12, 13, 14, 15, 16, 17, 18] (by decide +kernel) (by decide +kernel)
set_option maxRecDepth 20000 in
theorem gX3_bound_X3_most : GoodIn wsX3_bound (wsV RX3 21 RX3 yX3_most wsX3_most) := goodIn_app (goodIn_of _ (by decide +kernel)) ggX3_bound_X3_most
theorem dX3_bound_0 : decode cX3_bound 0 = .ok (.iconst 0, 1) := by decide +kernel
theorem dX3_bound_1 : decode cX3_bound 1 = .ok (.istore 4, 2) := by decide +kernel
theorem dX3_bound_3 : decode cX3_bound 3 = .ok (.iload 4, 2) := by decide +kernel
theorem dX3_bound_5 : decode cX3_bound 5 = .ok (.iconst 5, 1) := by decide +kernel
theorem dX3_bound_6 : decode cX3_bound 6 = .ok (.if_icmp .ge 90, 3) := by decide +kernel
theorem dX3_bound_9 : decode cX3_bound 9 = .ok (.iconst 0, 1) := by decide +kernel
theorem dX3_bound_10 : decode cX3_bound 10 = .ok (.istore 5, 2) := by decide +kernel
theorem dX3_bound_12 : decode cX3_bound 12 = .ok (.iload 5, 2) := by decide +kernel
theorem dX3_bound_14 : decode cX3_bound 14 = .ok (.iconst 5, 1) := by decide +kernel
theorem dX3_bound_15 : decode cX3_bound 15 = .ok (.if_icmp .ge 75, 3) := by decide +kernel
theorem dX3_bound_18 : decode cX3_bound 18 = .ok (.aload_n 0, 1) := by decide +kernel
theorem dX3_bound_19 : decode cX3_bound 19 = .ok (.iload 4, 2) := by decide +kernel
theorem dX3_bound_21 : decode cX3_bound 21 = .ok (.iload_n 1, 1) := by decide +kernel
theorem dX3_bound_22 : decode cX3_bound 22 = .ok (.invokevirtual 21, 3) := by decide +kernel
theorem dX3_bound_25 : decode cX3_bound 25 = .ok (.istore 6, 2) := by decide +kernel
theorem dX3_bound_27 : decode cX3_bound 27 = .ok (.aload_n 0, 1) := by decide +kernel
theorem dX3_bound_28 : decode cX3_bound 28 = .ok (.iload_n 2, 1) := by decide +kernel
theorem dX3_bound_29 : decode cX3_bound 29 = .ok (.iload 5, 2) := by decide +kernel
theorem dX3_bound_31 : decode cX3_bound 31 = .ok (.invokevirtual 21, 3) := by decide +kernel
theorem dX3_bound_34 : decode cX3_bound 34 = .ok (.istore 7, 2) := by decide +kernel
theorem dX3_bound_36 : decode cX3_bound 36 = .ok (.iload 6, 2) := by decide +kernel
theorem dX3_bound_38 : decode cX3_bound 38 = .ok (.ldc 16, 2) := by decide +kernel
theorem dX3_bound_40 : decode cX3_bound 40 = .ok (.if_icmp .ge 44, 3) := by decide +kernel
theorem dX3_bound_43 : decode cX3_bound 43 = .ok (.iload 7, 2) := by decide +kernel
theorem dX3_bound_45 : decode cX3_bound 45 = .ok (.ldc 16, 2) := by decide +kernel
theorem dX3_bound_47 : decode cX3_bound 47 = .ok (.if_icmp .ge 37, 3) := by decide +kernel
theorem dX3_bound_50 : decode cX3_bound 50 = .ok (.iload 6, 2) := by decide +kernel
theorem dX3_bound_52 : decode cX3_bound 52 = .ok (.iload_n 3, 1) := by decide +kernel
theorem dX3_bound_53 : decode cX3_bound 53 = .ok (.iadd, 1) := by decide +kernel
theorem dX3_bound_54 : decode cX3_bound 54 = .ok (.iload 7, 2) := by decide +kernel
theorem dX3_bound_56 : decode cX3_bound 56 = .ok (.iadd, 1) := by decide +kernel
theorem dX3_bound_57 : decode cX3_bound 57 = .ok (.istore 8, 2) := by decide +kernel
theorem dX3_bound_59 : decode cX3_bound 59 = .ok (.aload_n 0, 1) := by decide +kernel
theorem dX3_bound_60 : decode cX3_bound 60 = .ok (.getfield 11, 3) := by decide +kernel
theorem dX3_bound_63 : decode cX3_bound 63 = .ok (.iload 4, 2) := by decide +kernel
theorem dX3_bound_65 : decode cX3_bound 65 = .ok (.aaload, 1) := by decide +kernel
theorem dX3_bound_66 : decode cX3_bound 66 = .ok (.iload 5, 2) := by decide +kernel
theorem dX3_bound_68 : decode cX3_bound 68 = .ok (.aload_n 0, 1) := by decide +kernel
theorem dX3_bound_69 : decode cX3_bound 69 = .ok (.getfield 11, 3) := by decide +kernel
theorem dX3_bound_72 : decode cX3_bound 72 = .ok (.iload 4, 2) := by decide +kernel
theorem dX3_bound_74 : decode cX3_bound 74 = .ok (.aaload, 1) := by decide +kernel
theorem dX3_bound_75 : decode cX3_bound 75 = .ok (.iload 5, 2) := by decide +kernel
theorem dX3_bound_77 : decode cX3_bound 77 = .ok (.iaload, 1) := by decide +kernel
theorem dX3_bound_78 : decode cX3_bound 78 = .ok (.iload 8, 2) := by decide +kernel
theorem dX3_bound_80 : decode cX3_bound 80 = .ok (.invokestatic 25, 3) := by decide +kernel
theorem dX3_bound_83 : decode cX3_bound 83 = .ok (.iastore, 1) := by decide +kernel
theorem dX3_bound_84 : decode cX3_bound 84 = .ok (.iinc 5 1, 3) := by decide +kernel
theorem dX3_bound_87 : decode cX3_bound 87 = .ok (.goto (-75), 3) := by decide +kernel
theorem dX3_bound_90 : decode cX3_bound 90 = .ok (.iinc 4 1, 3) := by decide +kernel
theorem dX3_bound_93 : decode cX3_bound 93 = .ok (.goto (-90), 3) := by decide +kernel
theorem dX3_bound_96 : decode cX3_bound 96 = .ok (.return_, 1) := by decide +kernel
set_option maxRecDepth 20000 in
theorem ggX4_init_X3_init : GoodIn wsX4_init wsX3_init := goodIn_r _ [22, 23, 2, 3, 24, 25, 26, 27, 57] (by decide +kernel) (by decide +kernel)
set_option maxRecDepth 20000 in
theorem gX4_init_X3_init : GoodIn wsX4_init (wsX3_init) := ggX4_init_X3_init
set_option maxRecDepth 20000 in
theorem ggX4_init_X1_init : GoodIn wsX4_init wsX1_init := goodIn_r _ [29, 30, 2, 3, 25, 31, 32, 33, 34, 35, 36, 37, 38, 39, 40, 41, 62, 63, 64, 65, 66, 67, 68, 69, 70] (by decide +kernel) (by decide +kernel)
set_option maxRecDepth 20000 in
theorem gX4_init_X1_init_n18 : GoodIn wsX4_init (wsX1_init) := ggX4_init_X1_init
set_option maxRecDepth 20000 in
theorem ggX4_init_X2_init : GoodIn wsX4_init wsX2_init := goodIn_r _ [43, 44, 2, 3, 25, 45, 46, 47, 48, 49, 71, 72, 73, 74, 75] (by decide +kernel) (by decide +kernel)
set_option maxRecDepth 20000 in
theorem gX4_init_X2_init_n25 : GoodIn wsX4_init (wsX2_init) := ggX4_init_X2_init
set_option maxRecDepth 20000 in
theorem ggX4_init_X0_init : GoodIn wsX4_init wsX0_init := goodIn_r _ [51, 52, 2, 3, 53, 25, 54, 55, 56, 76, 77, 78] (by decide +kernel) (by decide +kernel)
set_option maxRecDepth 20000 in
theorem gX4_init_X0_init_n32 : GoodIn wsX4_init (wsX0_init) := ggX4_init_X0_init
theorem dX4_init_0 : decode cX4_init 0 = .ok (.aload_n 0, 1) := by decide +kernel
theorem dX4_init_1 : decode cX4_init 1 = .ok (.invokespecial 1, 3) := by decide +kernel
theorem dX4_init_4 : decode cX4_init 4 = .ok (.aload_n 0, 1) := by decide +kernel
theorem dX4_init_5 : decode cX4_init 5 = .ok (.new 7, 3) := by decide +kernel
theorem dX4_init_8 : decode cX4_init 8 = .ok (.dup, 1) := by decide +kernel
theorem dX4_init_9 : decode cX4_init 9 = .ok (.invokespecial 9, 3) := by decide +kernel
theorem dX4_init_12 : decode cX4_init 12 = .ok (.putfield 10, 3) := by decide +kernel
theorem dX4_init_15 : decode cX4_init 15 = .ok (.aload_n 0, 1) := by decide +kernel
theorem dX4_init_16 : decode cX4_init 16 = .ok (.new 16, 3) := by decide +kernel
theorem dX4_init_19 : decode cX4_init 19 = .ok (.dup, 1) := by decide +kernel
theorem dX4_init_20 : decode cX4_init 20 = .ok (.invokespecial 18, 3) := by decide +kernel
theorem dX4_init_23 : decode cX4_init 23 = .ok (.putfield 19, 3) := by decide +kernel
theorem dX4_init_26 : decode cX4_init 26 = .ok (.aload_n 0, 1) := by decide +kernel
theorem dX4_init_27 : decode cX4_init 27 = .ok (.new 23, 3) := by decide +kernel
theorem dX4_init_30 : decode cX4_init 30 = .ok (.dup, 1) := by decide +kernel
theorem dX4_init_31 : decode cX4_init 31 = .ok (.invokespecial 25, 3) := by decide +kernel
theorem dX4_init_34 : decode cX4_init 34 = .ok (.putfield 26, 3) := by decide +kernel
theorem dX4_init_37 : decode cX4_init 37 = .ok (.aload_n 0, 1) := by decide +kernel
theorem dX4_init_38 : decode cX4_init 38 = .ok (.new 30, 3) := by decide +kernel
theorem dX4_init_41 : decode cX4_init 41 = .ok (.dup, 1) := by decide +kernel
theorem dX4_init_42 : decode cX4_init 42 = .ok (.invokespecial 32, 3) := by decide +kernel
theorem dX4_init_45 : decode cX4_init 45 = .ok (.putfield 33, 3) := by decide +kernel
theorem dX4_init_48 : decode cX4_init 48 = .ok (.return_, 1) := by decide +kernel
set_option maxRecDepth 20000 in
theorem ggX4_mark_X4_isClock : GoodIn wsX4_mark wsX4_isClock := goodIn_r _ [10, 11, 12, 9, 13] (by decide +kernel) (by decide +kernel)
set_option maxRecDepth 20000 in
theorem gX4_mark_X4_isClock : GoodIn wsX4_mark (va_wsS RX4 37 yX4_isClock wsX4_isClock) := goodIn_app (goodIn_of _ (by decide +kernel)) ggX4_mark_X4_isClock
set_option maxRecDepth 20000 in
theorem ggX4_mark_X4_isReading : GoodIn wsX4_mark wsX4_isReading := goodIn_r _ [16, 11, 12, 9, 13] (by decide +kernel) (by decide +kernel)
set_option maxRecDepth 20000 in
theorem gX4_mark_X4_isReading : GoodIn wsX4_mark (va_wsS RX4 48 yX4_isReading wsX4_isReading) := goodIn_app (goodIn_of _ (by decide +kernel)) ggX4_mark_X4_isReading
set_option maxRecDepth 20000 in
theorem ggX4_mark_X4_isWithin : GoodIn wsX4_mark wsX4_isWithin := goodIn_r _ [13] (by decide +kernel) (by decide +kernel)
set_option maxRecDepth 20000 in
theorem gX4_mark_X4_isWithin : GoodIn wsX4_mark (va_wsS RX4 53 yX4_isWithin wsX4_isWithin) := goodIn_app (goodIn_of _ (by decide +kernel)) ggX4_mark_X4_isWithin
set_option maxRecDepth 20000 in
theorem ggX4_mark_X3_allows : GoodIn wsX4_mark wsX3_allows := goodIn_r _ [21, 22, 23, 24, 20, 25, 26, 27, 8, 9, 10, 11, 12, 13, 73] (by decide +kernel) (by decide +kernel)
set_option maxRecDepth 20000 in
theorem gX4_mark_X3_allows : GoodIn wsX4_mark (wsV RX4 59 RX3 yX3_allows wsX3_allows) := goodIn_app (goodIn_of _ (by decide +kernel)) ggX4_mark_X3_allows
set_option maxRecDepth 20000 in
theorem ggX4_mark_X3_bound : GoodIn wsX4_mark wsX3_bound := goodIn_r _ [31, 26, 27, 32, 33, 34, 35, 22, 23, 24, 20, 25, 8, 9, 10, 11, 12, 13, 73] (by decide +kernel) (by decide +kernel)
set_option maxRecDepth 20000 in
theorem gX4_mark_X3_bound : GoodIn wsX4_mark (wsV RX4 67 RX3 yX3_bound wsX3_bound) := goodIn_app (goodIn_of _ (by decide +kernel)) ggX4_mark_X3_bound
set_option maxRecDepth 20000 in
theorem ggX4_mark_X1_arrange : GoodIn wsX4_mark wsX1_arrange := goodIn_r _ [40, 41, 42, 43, 44, 45, 46, 39, 47, 48, 49, 50, 51, 52, 53, 54, 55, 56, 57, 58, 59, 23, 24, 20, 25, 26, 27, 8, 9, 10, 11, 12, 13, 60, 61, 62, 63, 64, 65, 66, 67, 68, 74, 75, 76, 77, 78, 79, 80, 81, 82, 73] (by decide +kernel) (by decide +kernel)
set_option maxRecDepth 20000 in
theorem gX4_mark_X1_arrange : GoodIn wsX4_mark (wsV RX4 71 RX1 yX1_arrange wsX1_arrange) := goodIn_app (goodIn_of _ (by decide +kernel)) ggX4_mark_X1_arrange
theorem dX4_mark_0 : decode cX4_mark 0 = .ok (.iload_n 1, 1) := by decide +kernel
theorem dX4_mark_1 : decode cX4_mark 1 = .ok (.invokestatic 37, 3) := by decide +kernel
theorem dX4_mark_4 : decode cX4_mark 4 = .ok (.ifCond .eq 15, 3) := by decide +kernel
theorem dX4_mark_7 : decode cX4_mark 7 = .ok (.iload_n 3, 1) := by decide +kernel
theorem dX4_mark_8 : decode cX4_mark 8 = .ok (.invokestatic 37, 3) := by decide +kernel
theorem dX4_mark_11 : decode cX4_mark 11 = .ok (.ifCond .eq 8, 3) := by decide +kernel
theorem dX4_mark_14 : decode cX4_mark 14 = .ok (.iload_n 1, 1) := by decide +kernel
theorem dX4_mark_15 : decode cX4_mark 15 = .ok (.iload_n 3, 1) := by decide +kernel
theorem dX4_mark_16 : decode cX4_mark 16 = .ok (.if_icmp .ne 13, 3) := by decide +kernel
theorem dX4_mark_19 : decode cX4_mark 19 = .ok (.new 41, 3) := by decide +kernel
theorem dX4_mark_22 : decode cX4_mark 22 = .ok (.dup, 1) := by decide +kernel
theorem dX4_mark_23 : decode cX4_mark 23 = .ok (.ldc 43, 2) := by decide +kernel
theorem dX4_mark_25 : decode cX4_mark 25 = .ok (.invokespecial 45, 3) := by decide +kernel
theorem dX4_mark_28 : decode cX4_mark 28 = .ok (.athrow, 1) := by decide +kernel
theorem dX4_mark_29 : decode cX4_mark 29 = .ok (.iload_n 2, 1) := by decide +kernel
theorem dX4_mark_30 : decode cX4_mark 30 = .ok (.invokestatic 48, 3) := by decide +kernel
theorem dX4_mark_33 : decode cX4_mark 33 = .ok (.ifCond .eq 11, 3) := by decide +kernel
theorem dX4_mark_36 : decode cX4_mark 36 = .ok (.iload 4, 2) := by decide +kernel
theorem dX4_mark_38 : decode cX4_mark 38 = .ok (.invokestatic 48, 3) := by decide +kernel
theorem dX4_mark_41 : decode cX4_mark 41 = .ok (.ifCond .ne 13, 3) := by decide +kernel
theorem dX4_mark_44 : decode cX4_mark 44 = .ok (.new 41, 3) := by decide +kernel
theorem dX4_mark_47 : decode cX4_mark 47 = .ok (.dup, 1) := by decide +kernel
theorem dX4_mark_48 : decode cX4_mark 48 = .ok (.ldc 51, 2) := by decide +kernel
theorem dX4_mark_50 : decode cX4_mark 50 = .ok (.invokespecial 45, 3) := by decide +kernel
theorem dX4_mark_53 : decode cX4_mark 53 = .ok (.athrow, 1) := by decide +kernel
theorem dX4_mark_54 : decode cX4_mark 54 = .ok (.iload 5, 2) := by decide +kernel
theorem dX4_mark_56 : decode cX4_mark 56 = .ok (.iconst 0, 1) := by decide +kernel
theorem dX4_mark_57 : decode cX4_mark 57 = .ok (.sipush 1000, 3) := by decide +kernel
theorem dX4_mark_60 : decode cX4_mark 60 = .ok (.invokestatic 53, 3) := by decide +kernel
theorem dX4_mark_63 : decode cX4_mark 63 = .ok (.ifCond .ne 13, 3) := by decide +kernel
theorem dX4_mark_66 : decode cX4_mark 66 = .ok (.new 41, 3) := by decide +kernel
theorem dX4_mark_69 : decode cX4_mark 69 = .ok (.dup, 1) := by decide +kernel
theorem dX4_mark_70 : decode cX4_mark 70 = .ok (.ldc 57, 2) := by decide +kernel
theorem dX4_mark_72 : decode cX4_mark 72 = .ok (.invokespecial 45, 3) := by decide +kernel
theorem dX4_mark_75 : decode cX4_mark 75 = .ok (.athrow, 1) := by decide +kernel
theorem dX4_mark_76 : decode cX4_mark 76 = .ok (.iload 4, 2) := by decide +kernel
theorem dX4_mark_78 : decode cX4_mark 78 = .ok (.iload_n 2, 1) := by decide +kernel
theorem dX4_mark_79 : decode cX4_mark 79 = .ok (.isub, 1) := by decide +kernel
theorem dX4_mark_80 : decode cX4_mark 80 = .ok (.istore 6, 2) := by decide +kernel
theorem dX4_mark_82 : decode cX4_mark 82 = .ok (.aload_n 0, 1) := by decide +kernel
theorem dX4_mark_83 : decode cX4_mark 83 = .ok (.getfield 10, 3) := by decide +kernel
theorem dX4_mark_86 : decode cX4_mark 86 = .ok (.iload_n 1, 1) := by decide +kernel
theorem dX4_mark_87 : decode cX4_mark 87 = .ok (.iload_n 3, 1) := by decide +kernel
theorem dX4_mark_88 : decode cX4_mark 88 = .ok (.iload 6, 2) := by decide +kernel
theorem dX4_mark_90 : decode cX4_mark 90 = .ok (.iload 5, 2) := by decide +kernel
theorem dX4_mark_92 : decode cX4_mark 92 = .ok (.iadd, 1) := by decide +kernel
theorem dX4_mark_93 : decode cX4_mark 93 = .ok (.invokevirtual 59, 3) := by decide +kernel
theorem dX4_mark_96 : decode cX4_mark 96 = .ok (.ifCond .eq 20, 3) := by decide +kernel
theorem dX4_mark_99 : decode cX4_mark 99 = .ok (.aload_n 0, 1) := by decide +kernel
theorem dX4_mark_100 : decode cX4_mark 100 = .ok (.getfield 10, 3) := by decide +kernel
theorem dX4_mark_103 : decode cX4_mark 103 = .ok (.iload_n 3, 1) := by decide +kernel
theorem dX4_mark_104 : decode cX4_mark 104 = .ok (.iload_n 1, 1) := by decide +kernel
theorem dX4_mark_105 : decode cX4_mark 105 = .ok (.iload 5, 2) := by decide +kernel
theorem dX4_mark_107 : decode cX4_mark 107 = .ok (.iload 6, 2) := by decide +kernel
theorem dX4_mark_109 : decode cX4_mark 109 = .ok (.isub, 1) := by decide +kernel
theorem dX4_mark_110 : decode cX4_mark 110 = .ok (.invokevirtual 59, 3) := by decide +kernel
theorem dX4_mark_113 : decode cX4_mark 113 = .ok (.ifCond .ne 13, 3) := by decide +kernel
theorem dX4_mark_116 : decode cX4_mark 116 = .ok (.new 62, 3) := by decide +kernel
theorem dX4_mark_119 : decode cX4_mark 119 = .ok (.dup, 1) := by decide +kernel
theorem dX4_mark_120 : decode cX4_mark 120 = .ok (.ldc 64, 2) := by decide +kernel
theorem dX4_mark_122 : decode cX4_mark 122 = .ok (.invokespecial 66, 3) := by decide +kernel
theorem dX4_mark_125 : decode cX4_mark 125 = .ok (.athrow, 1) := by decide +kernel
theorem dX4_mark_126 : decode cX4_mark 126 = .ok (.aload_n 0, 1) := by decide +kernel
theorem dX4_mark_127 : decode cX4_mark 127 = .ok (.getfield 10, 3) := by decide +kernel
theorem dX4_mark_130 : decode cX4_mark 130 = .ok (.iload_n 1, 1) := by decide +kernel
theorem dX4_mark_131 : decode cX4_mark 131 = .ok (.iload_n 3, 1) := by decide +kernel
theorem dX4_mark_132 : decode cX4_mark 132 = .ok (.iload 6, 2) := by decide +kernel
theorem dX4_mark_134 : decode cX4_mark 134 = .ok (.iload 5, 2) := by decide +kernel
theorem dX4_mark_136 : decode cX4_mark 136 = .ok (.iadd, 1) := by decide +kernel
theorem dX4_mark_137 : decode cX4_mark 137 = .ok (.invokevirtual 67, 3) := by decide +kernel
theorem dX4_mark_140 : decode cX4_mark 140 = .ok (.aload_n 0, 1) := by decide +kernel
theorem dX4_mark_141 : decode cX4_mark 141 = .ok (.getfield 10, 3) := by decide +kernel
theorem dX4_mark_144 : decode cX4_mark 144 = .ok (.iload_n 3, 1) := by decide +kernel
theorem dX4_mark_145 : decode cX4_mark 145 = .ok (.iload_n 1, 1) := by decide +kernel
theorem dX4_mark_146 : decode cX4_mark 146 = .ok (.iload 5, 2) := by decide +kernel
theorem dX4_mark_148 : decode cX4_mark 148 = .ok (.iload 6, 2) := by decide +kernel
theorem dX4_mark_150 : decode cX4_mark 150 = .ok (.isub, 1) := by decide +kernel
theorem dX4_mark_151 : decode cX4_mark 151 = .ok (.invokevirtual 67, 3) := by decide +kernel
theorem dX4_mark_154 : decode cX4_mark 154 = .ok (.aload_n 0, 1) := by decide +kernel
theorem dX4_mark_155 : decode cX4_mark 155 = .ok (.getfield 19, 3) := by decide +kernel
theorem dX4_mark_158 : decode cX4_mark 158 = .ok (.aload_n 0, 1) := by decide +kernel
theorem dX4_mark_159 : decode cX4_mark 159 = .ok (.getfield 10, 3) := by decide +kernel
theorem dX4_mark_162 : decode cX4_mark 162 = .ok (.invokevirtual 71, 3) := by decide +kernel
theorem dX4_mark_165 : decode cX4_mark 165 = .ok (.return_, 1) := by decide +kernel
set_option maxRecDepth 20000 in
theorem ggX4_greatest_X4_isClock : GoodIn wsX4_greatest wsX4_isClock := goodIn_r _ [7, 8, 9, 6, 10] (by decide +kernel) (by decide +kernel)
set_option maxRecDepth 20000 in
theorem gX4_greatest_X4_isClock : GoodIn wsX4_greatest (va_wsS RX4 37 yX4_isClock wsX4_isClock) := goodIn_app (goodIn_of _ (by decide +kernel)) ggX4_greatest_X4_isClock
set_option maxRecDepth 20000 in
theorem ggX4_greatest_X3_most : GoodIn wsX4_greatest wsX3_most := goodIn_r _ [15, 16, 17, 5, 6, 7, 8, 9, 10, 22] (by decide +kernel) (by decide +kernel)
set_option maxRecDepth 20000 in
theorem gX4_greatest_X3_most : GoodIn wsX4_greatest (wsV RX4 77 RX3 yX3_most wsX3_most) := goodIn_app (goodIn_of _ (by decide +kernel)) ggX4_greatest_X3_most
theorem dX4_greatest_0 : decode cX4_greatest 0 = .ok (.iload_n 1, 1) := by decide +kernel
theorem dX4_greatest_1 : decode cX4_greatest 1 = .ok (.invokestatic 37, 3) := by decide +kernel
theorem dX4_greatest_4 : decode cX4_greatest 4 = .ok (.ifCond .eq 10, 3) := by decide +kernel
theorem dX4_greatest_7 : decode cX4_greatest 7 = .ok (.iload_n 2, 1) := by decide +kernel
theorem dX4_greatest_8 : decode cX4_greatest 8 = .ok (.invokestatic 37, 3) := by decide +kernel
theorem dX4_greatest_11 : decode cX4_greatest 11 = .ok (.ifCond .ne 13, 3) := by decide +kernel
theorem dX4_greatest_14 : decode cX4_greatest 14 = .ok (.new 41, 3) := by decide +kernel
theorem dX4_greatest_17 : decode cX4_greatest 17 = .ok (.dup, 1) := by decide +kernel
theorem dX4_greatest_18 : decode cX4_greatest 18 = .ok (.ldc 75, 2) := by decide +kernel
theorem dX4_greatest_20 : decode cX4_greatest 20 = .ok (.invokespecial 45, 3) := by decide +kernel
theorem dX4_greatest_23 : decode cX4_greatest 23 = .ok (.athrow, 1) := by decide +kernel
theorem dX4_greatest_24 : decode cX4_greatest 24 = .ok (.aload_n 0, 1) := by decide +kernel
theorem dX4_greatest_25 : decode cX4_greatest 25 = .ok (.getfield 10, 3) := by decide +kernel
theorem dX4_greatest_28 : decode cX4_greatest 28 = .ok (.iload_n 1, 1) := by decide +kernel
theorem dX4_greatest_29 : decode cX4_greatest 29 = .ok (.iload_n 2, 1) := by decide +kernel
theorem dX4_greatest_30 : decode cX4_greatest 30 = .ok (.invokevirtual 77, 3) := by decide +kernel
theorem dX4_greatest_33 : decode cX4_greatest 33 = .ok (.ireturn, 1) := by decide +kernel
set_option maxRecDepth 20000 in
theorem ggX4_write_X4_isClock : GoodIn wsX4_write wsX4_isClock := goodIn_r _ [10, 11, 12, 9, 13] (by decide +kernel) (by decide +kernel)
set_option maxRecDepth 20000 in
theorem gX4_write_X4_isClock : GoodIn wsX4_write (va_wsS RX4 37 yX4_isClock wsX4_isClock) := goodIn_app (goodIn_of _ (by decide +kernel)) ggX4_write_X4_isClock
set_option maxRecDepth 20000 in
theorem ggX4_write_X4_isReading : GoodIn wsX4_write wsX4_isReading := goodIn_r _ [16, 11, 12, 9, 13] (by decide +kernel) (by decide +kernel)
set_option maxRecDepth 20000 in
theorem gX4_write_X4_isReading : GoodIn wsX4_write (va_wsS RX4 48 yX4_isReading wsX4_isReading) := goodIn_app (goodIn_of _ (by decide +kernel)) ggX4_write_X4_isReading
set_option maxRecDepth 20000 in
theorem ggX4_write_X4_isService : GoodIn wsX4_write wsX4_isService := goodIn_r _ [19, 11, 12, 9, 13] (by decide +kernel) (by decide +kernel)
set_option maxRecDepth 20000 in
theorem gX4_write_X4_isService : GoodIn wsX4_write (va_wsS RX4 81 yX4_isService wsX4_isService) := goodIn_app (goodIn_of _ (by decide +kernel)) ggX4_write_X4_isService
set_option maxRecDepth 20000 in
theorem ggX4_write_X1_size : GoodIn wsX4_write wsX1_size := goodIn_r _ [24, 25, 73, 74, 75, 76, 77, 78, 79, 80, 81] (by decide +kernel) (by decide +kernel)
set_option maxRecDepth 20000 in
theorem gX4_write_X1_size : GoodIn wsX4_write (wsV RX4 86 RX1 yX1_size wsX1_size) := goodIn_app (goodIn_of _ (by decide +kernel)) ggX4_write_X1_size
set_option maxRecDepth 20000 in
theorem ggX4_write_X1_add : GoodIn wsX4_write wsX1_add := goodIn_r _ [29, 25, 30, 31, 32, 33, 73, 74, 75, 76, 77, 78, 79, 80, 81] (by decide +kernel) (by decide +kernel)
set_option maxRecDepth 20000 in
theorem gX4_write_X1_add : GoodIn wsX4_write (wsV RX4 92 RX1 yX1_add wsX1_add) := goodIn_app (goodIn_of _ (by decide +kernel)) ggX4_write_X1_add
set_option maxRecDepth 20000 in
theorem ggX4_write_X1_arrange : GoodIn wsX4_write wsX1_arrange := goodIn_r _ [37, 25, 38, 39, 40, 41, 42, 23, 43, 44, 45, 46, 47, 30, 48, 31, 49, 50, 51, 52, 53, 54, 55, 56, 57, 58, 59, 8, 9, 10, 11, 12, 13, 60, 61, 62, 63, 64, 65, 66, 67, 68, 73, 74, 75, 76, 77, 78, 79, 80, 81, 82] (by decide +kernel) (by decide +kernel)
set_option maxRecDepth 20000 in
theorem gX4_write_X1_arrange : GoodIn wsX4_write (wsV RX4 71 RX1 yX1_arrange wsX1_arrange) := goodIn_app (goodIn_of _ (by decide +kernel)) ggX4_write_X1_arrange
theorem dX4_write_0 : decode cX4_write 0 = .ok (.iload_n 1, 1) := by decide +kernel
theorem dX4_write_1 : decode cX4_write 1 = .ok (.invokestatic 37, 3) := by decide +kernel
theorem dX4_write_4 : decode cX4_write 4 = .ok (.ifCond .eq 17, 3) := by decide +kernel
theorem dX4_write_7 : decode cX4_write 7 = .ok (.iload_n 2, 1) := by decide +kernel
theorem dX4_write_8 : decode cX4_write 8 = .ok (.invokestatic 48, 3) := by decide +kernel
theorem dX4_write_11 : decode cX4_write 11 = .ok (.ifCond .eq 10, 3) := by decide +kernel
theorem dX4_write_14 : decode cX4_write 14 = .ok (.iload_n 3, 1) := by decide +kernel
theorem dX4_write_15 : decode cX4_write 15 = .ok (.invokestatic 81, 3) := by decide +kernel
theorem dX4_write_18 : decode cX4_write 18 = .ok (.ifCond .ne 13, 3) := by decide +kernel
theorem dX4_write_21 : decode cX4_write 21 = .ok (.new 41, 3) := by decide +kernel
theorem dX4_write_24 : decode cX4_write 24 = .ok (.dup, 1) := by decide +kernel
theorem dX4_write_25 : decode cX4_write 25 = .ok (.ldc 84, 2) := by decide +kernel
theorem dX4_write_27 : decode cX4_write 27 = .ok (.invokespecial 45, 3) := by decide +kernel
theorem dX4_write_30 : decode cX4_write 30 = .ok (.athrow, 1) := by decide +kernel
theorem dX4_write_31 : decode cX4_write 31 = .ok (.aload_n 0, 1) := by decide +kernel
theorem dX4_write_32 : decode cX4_write 32 = .ok (.getfield 19, 3) := by decide +kernel
theorem dX4_write_35 : decode cX4_write 35 = .ok (.invokevirtual 86, 3) := by decide +kernel
theorem dX4_write_38 : decode cX4_write 38 = .ok (.bipush 30, 2) := by decide +kernel
theorem dX4_write_40 : decode cX4_write 40 = .ok (.if_icmp .lt 13, 3) := by decide +kernel
theorem dX4_write_43 : decode cX4_write 43 = .ok (.new 62, 3) := by decide +kernel
theorem dX4_write_46 : decode cX4_write 46 = .ok (.dup, 1) := by decide +kernel
theorem dX4_write_47 : decode cX4_write 47 = .ok (.ldc 90, 2) := by decide +kernel
theorem dX4_write_49 : decode cX4_write 49 = .ok (.invokespecial 66, 3) := by decide +kernel
theorem dX4_write_52 : decode cX4_write 52 = .ok (.athrow, 1) := by decide +kernel
theorem dX4_write_53 : decode cX4_write 53 = .ok (.aload_n 0, 1) := by decide +kernel
theorem dX4_write_54 : decode cX4_write 54 = .ok (.getfield 19, 3) := by decide +kernel
theorem dX4_write_57 : decode cX4_write 57 = .ok (.iload_n 1, 1) := by decide +kernel
theorem dX4_write_58 : decode cX4_write 58 = .ok (.iload_n 2, 1) := by decide +kernel
theorem dX4_write_59 : decode cX4_write 59 = .ok (.iload_n 3, 1) := by decide +kernel
theorem dX4_write_60 : decode cX4_write 60 = .ok (.iload 4, 2) := by decide +kernel
theorem dX4_write_62 : decode cX4_write 62 = .ok (.invokevirtual 92, 3) := by decide +kernel
theorem dX4_write_65 : decode cX4_write 65 = .ok (.istore 5, 2) := by decide +kernel
theorem dX4_write_67 : decode cX4_write 67 = .ok (.aload_n 0, 1) := by decide +kernel
theorem dX4_write_68 : decode cX4_write 68 = .ok (.getfield 19, 3) := by decide +kernel
theorem dX4_write_71 : decode cX4_write 71 = .ok (.aload_n 0, 1) := by decide +kernel
theorem dX4_write_72 : decode cX4_write 72 = .ok (.getfield 10, 3) := by decide +kernel
theorem dX4_write_75 : decode cX4_write 75 = .ok (.invokevirtual 71, 3) := by decide +kernel
theorem dX4_write_78 : decode cX4_write 78 = .ok (.iload 5, 2) := by decide +kernel
theorem dX4_write_80 : decode cX4_write 80 = .ok (.ireturn, 1) := by decide +kernel
set_option maxRecDepth 20000 in
theorem ggX4_lines_X1_size : GoodIn wsX4_lines wsX1_size := goodIn_r _ [6, 7, 12, 13, 14, 15, 16, 17, 18, 19, 20] (by decide +kernel) (by decide +kernel)
set_option maxRecDepth 20000 in
theorem gX4_lines_X1_size : GoodIn wsX4_lines (wsV RX4 86 RX1 yX1_size wsX1_size) := goodIn_app (goodIn_of _ (by decide +kernel)) ggX4_lines_X1_size
theorem dX4_lines_0 : decode cX4_lines 0 = .ok (.aload_n 0, 1) := by decide +kernel
theorem dX4_lines_1 : decode cX4_lines 1 = .ok (.getfield 19, 3) := by decide +kernel
theorem dX4_lines_4 : decode cX4_lines 4 = .ok (.invokevirtual 86, 3) := by decide +kernel
theorem dX4_lines_7 : decode cX4_lines 7 = .ok (.ireturn, 1) := by decide +kernel
set_option maxRecDepth 20000 in
theorem ggX4_mustComeBefore_X1_holds : GoodIn wsX4_mustComeBefore wsX1_holds := goodIn_r _ [8, 9, 26, 27, 28, 29, 30, 31, 32, 33, 34] (by decide +kernel) (by decide +kernel)
set_option maxRecDepth 20000 in
theorem gX4_mustComeBefore_X1_holds : GoodIn wsX4_mustComeBefore (wsV RX4 96 RX1 yX1_holds wsX1_holds) := goodIn_app (goodIn_of _ (by decide +kernel)) ggX4_mustComeBefore_X1_holds
set_option maxRecDepth 20000 in
theorem ggX4_mustComeBefore_X1_isBefore : GoodIn wsX4_mustComeBefore wsX1_isBefore := goodIn_r _ [13, 14, 15, 5, 6, 7, 8, 9, 16, 17, 18, 19, 20, 21, 26, 27, 28, 29, 30, 31, 32, 33, 34] (by decide +kernel) (by decide +kernel)
set_option maxRecDepth 20000 in
theorem gX4_mustComeBefore_X1_isBefore : GoodIn wsX4_mustComeBefore (wsV RX4 104 RX1 yX1_isBefore wsX1_isBefore) := goodIn_app (goodIn_of _ (by decide +kernel)) ggX4_mustComeBefore_X1_isBefore
theorem dX4_mustComeBefore_0 : decode cX4_mustComeBefore 0 = .ok (.aload_n 0, 1) := by decide +kernel
theorem dX4_mustComeBefore_1 : decode cX4_mustComeBefore 1 = .ok (.getfield 19, 3) := by decide +kernel
theorem dX4_mustComeBefore_4 : decode cX4_mustComeBefore 4 = .ok (.iload_n 1, 1) := by decide +kernel
theorem dX4_mustComeBefore_5 : decode cX4_mustComeBefore 5 = .ok (.invokevirtual 96, 3) := by decide +kernel
theorem dX4_mustComeBefore_8 : decode cX4_mustComeBefore 8 = .ok (.ifCond .eq 14, 3) := by decide +kernel
theorem dX4_mustComeBefore_11 : decode cX4_mustComeBefore 11 = .ok (.aload_n 0, 1) := by decide +kernel
theorem dX4_mustComeBefore_12 : decode cX4_mustComeBefore 12 = .ok (.getfield 19, 3) := by decide +kernel
theorem dX4_mustComeBefore_15 : decode cX4_mustComeBefore 15 = .ok (.iload_n 2, 1) := by decide +kernel
theorem dX4_mustComeBefore_16 : decode cX4_mustComeBefore 16 = .ok (.invokevirtual 96, 3) := by decide +kernel
theorem dX4_mustComeBefore_19 : decode cX4_mustComeBefore 19 = .ok (.ifCond .ne 13, 3) := by decide +kernel
theorem dX4_mustComeBefore_22 : decode cX4_mustComeBefore 22 = .ok (.new 99, 3) := by decide +kernel
theorem dX4_mustComeBefore_25 : decode cX4_mustComeBefore 25 = .ok (.dup, 1) := by decide +kernel
theorem dX4_mustComeBefore_26 : decode cX4_mustComeBefore 26 = .ok (.ldc 101, 2) := by decide +kernel
theorem dX4_mustComeBefore_28 : decode cX4_mustComeBefore 28 = .ok (.invokespecial 103, 3) := by decide +kernel
theorem dX4_mustComeBefore_31 : decode cX4_mustComeBefore 31 = .ok (.athrow, 1) := by decide +kernel
theorem dX4_mustComeBefore_32 : decode cX4_mustComeBefore 32 = .ok (.aload_n 0, 1) := by decide +kernel
theorem dX4_mustComeBefore_33 : decode cX4_mustComeBefore 33 = .ok (.getfield 19, 3) := by decide +kernel
theorem dX4_mustComeBefore_36 : decode cX4_mustComeBefore 36 = .ok (.iload_n 1, 1) := by decide +kernel
theorem dX4_mustComeBefore_37 : decode cX4_mustComeBefore 37 = .ok (.iload_n 2, 1) := by decide +kernel
theorem dX4_mustComeBefore_38 : decode cX4_mustComeBefore 38 = .ok (.invokevirtual 104, 3) := by decide +kernel
theorem dX4_mustComeBefore_41 : decode cX4_mustComeBefore 41 = .ok (.ireturn, 1) := by decide +kernel
set_option maxRecDepth 20000 in
theorem ggX4_lineAt_X1_holds : GoodIn wsX4_lineAt wsX1_holds := goodIn_r _ [8, 9, 20, 21, 22, 23, 24, 25, 26, 27, 28] (by decide +kernel) (by decide +kernel)
set_option maxRecDepth 20000 in
theorem gX4_lineAt_X1_holds : GoodIn wsX4_lineAt (wsV RX4 96 RX1 yX1_holds wsX1_holds) := goodIn_app (goodIn_of _ (by decide +kernel)) ggX4_lineAt_X1_holds
set_option maxRecDepth 20000 in
theorem ggX4_lineAt_X1_at : GoodIn wsX4_lineAt wsX1_at := goodIn_r _ [13, 14, 15, 5, 6, 7, 8, 9, 20, 21, 22, 23, 24, 25, 26, 27, 28] (by decide +kernel) (by decide +kernel)
set_option maxRecDepth 20000 in
theorem gX4_lineAt_X1_at : GoodIn wsX4_lineAt (wsV RX4 110 RX1 yX1_at wsX1_at) := goodIn_app (goodIn_of _ (by decide +kernel)) ggX4_lineAt_X1_at
theorem dX4_lineAt_0 : decode cX4_lineAt 0 = .ok (.aload_n 0, 1) := by decide +kernel
theorem dX4_lineAt_1 : decode cX4_lineAt 1 = .ok (.getfield 19, 3) := by decide +kernel
theorem dX4_lineAt_4 : decode cX4_lineAt 4 = .ok (.iload_n 1, 1) := by decide +kernel
theorem dX4_lineAt_5 : decode cX4_lineAt 5 = .ok (.invokevirtual 96, 3) := by decide +kernel
theorem dX4_lineAt_8 : decode cX4_lineAt 8 = .ok (.ifCond .ne 13, 3) := by decide +kernel
theorem dX4_lineAt_11 : decode cX4_lineAt 11 = .ok (.new 99, 3) := by decide +kernel
theorem dX4_lineAt_14 : decode cX4_lineAt 14 = .ok (.dup, 1) := by decide +kernel
theorem dX4_lineAt_15 : decode cX4_lineAt 15 = .ok (.ldc 108, 2) := by decide +kernel
theorem dX4_lineAt_17 : decode cX4_lineAt 17 = .ok (.invokespecial 103, 3) := by decide +kernel
theorem dX4_lineAt_20 : decode cX4_lineAt 20 = .ok (.athrow, 1) := by decide +kernel
theorem dX4_lineAt_21 : decode cX4_lineAt 21 = .ok (.aload_n 0, 1) := by decide +kernel
theorem dX4_lineAt_22 : decode cX4_lineAt 22 = .ok (.getfield 19, 3) := by decide +kernel
theorem dX4_lineAt_25 : decode cX4_lineAt 25 = .ok (.iload_n 1, 1) := by decide +kernel
theorem dX4_lineAt_26 : decode cX4_lineAt 26 = .ok (.invokevirtual 110, 3) := by decide +kernel
theorem dX4_lineAt_29 : decode cX4_lineAt 29 = .ok (.ireturn, 1) := by decide +kernel
set_option maxRecDepth 20000 in
theorem ggX4_orders_X1_size : GoodIn wsX4_orders wsX1_size := goodIn_r _ [8, 9, 27, 28, 29, 30, 31, 32, 33, 34, 35] (by decide +kernel) (by decide +kernel)
set_option maxRecDepth 20000 in
theorem gX4_orders_X1_size : GoodIn wsX4_orders (wsV RX4 86 RX1 yX1_size wsX1_size) := goodIn_app (goodIn_of _ (by decide +kernel)) ggX4_orders_X1_size
set_option maxRecDepth 20000 in
theorem ggX4_orders_X1_countOrders : GoodIn wsX4_orders wsX1_countOrders := goodIn_r _ [13, 9, 14, 15, 16, 17, 18, 19, 20, 7, 21, 22, 27, 28, 29, 30, 31, 32, 33, 34, 35] (by decide +kernel) (by decide +kernel)
set_option maxRecDepth 20000 in
theorem gX4_orders_X1_countOrders : GoodIn wsX4_orders (wsV RX4 116 RX1 yX1_countOrders wsX1_countOrders) := goodIn_app (goodIn_of _ (by decide +kernel)) ggX4_orders_X1_countOrders
theorem dX4_orders_0 : decode cX4_orders 0 = .ok (.aload_n 0, 1) := by decide +kernel
theorem dX4_orders_1 : decode cX4_orders 1 = .ok (.getfield 19, 3) := by decide +kernel
theorem dX4_orders_4 : decode cX4_orders 4 = .ok (.invokevirtual 86, 3) := by decide +kernel
theorem dX4_orders_7 : decode cX4_orders 7 = .ok (.bipush 12, 2) := by decide +kernel
theorem dX4_orders_9 : decode cX4_orders 9 = .ok (.if_icmp .le 13, 3) := by decide +kernel
theorem dX4_orders_12 : decode cX4_orders 12 = .ok (.new 62, 3) := by decide +kernel
theorem dX4_orders_15 : decode cX4_orders 15 = .ok (.dup, 1) := by decide +kernel
theorem dX4_orders_16 : decode cX4_orders 16 = .ok (.ldc 114, 2) := by decide +kernel
theorem dX4_orders_18 : decode cX4_orders 18 = .ok (.invokespecial 66, 3) := by decide +kernel
theorem dX4_orders_21 : decode cX4_orders 21 = .ok (.athrow, 1) := by decide +kernel
theorem dX4_orders_22 : decode cX4_orders 22 = .ok (.aload_n 0, 1) := by decide +kernel
theorem dX4_orders_23 : decode cX4_orders 23 = .ok (.getfield 19, 3) := by decide +kernel
theorem dX4_orders_26 : decode cX4_orders 26 = .ok (.invokevirtual 116, 3) := by decide +kernel
theorem dX4_orders_29 : decode cX4_orders 29 = .ok (.lreturn, 1) := by decide +kernel
set_option maxRecDepth 20000 in
theorem ggX4_argue_X1_holds : GoodIn wsX4_argue wsX1_holds := goodIn_r _ [10, 11, 26, 27, 28, 29, 30, 31, 32, 33, 34] (by decide +kernel) (by decide +kernel)
set_option maxRecDepth 20000 in
theorem gX4_argue_X1_holds : GoodIn wsX4_argue (wsV RX4 96 RX1 yX1_holds wsX1_holds) := goodIn_app (goodIn_of _ (by decide +kernel)) ggX4_argue_X1_holds
set_option maxRecDepth 20000 in
theorem ggX4_argue_X4_isWithin : GoodIn wsX4_argue wsX4_isWithin := goodIn_r _ [15] (by decide +kernel) (by decide +kernel)
set_option maxRecDepth 20000 in
theorem gX4_argue_X4_isWithin : GoodIn wsX4_argue (va_wsS RX4 53 yX4_isWithin wsX4_isWithin) := goodIn_app (goodIn_of _ (by decide +kernel)) ggX4_argue_X4_isWithin
set_option maxRecDepth 20000 in
theorem ggX4_argue_X1_weigh : GoodIn wsX4_argue wsX1_weigh := goodIn_r _ [19, 20, 21, 7, 8, 9, 10, 11, 26, 27, 28, 29, 30, 31, 32, 33, 34] (by decide +kernel) (by decide +kernel)
set_option maxRecDepth 20000 in
theorem gX4_argue_X1_weigh : GoodIn wsX4_argue (wsV RX4 122 RX1 yX1_weigh wsX1_weigh) := goodIn_app (goodIn_of _ (by decide +kernel)) ggX4_argue_X1_weigh
theorem dX4_argue_0 : decode cX4_argue 0 = .ok (.aload_n 0, 1) := by decide +kernel
theorem dX4_argue_1 : decode cX4_argue 1 = .ok (.getfield 19, 3) := by decide +kernel
theorem dX4_argue_4 : decode cX4_argue 4 = .ok (.iload_n 1, 1) := by decide +kernel
theorem dX4_argue_5 : decode cX4_argue 5 = .ok (.invokevirtual 96, 3) := by decide +kernel
theorem dX4_argue_8 : decode cX4_argue 8 = .ok (.ifCond .ne 13, 3) := by decide +kernel
theorem dX4_argue_11 : decode cX4_argue 11 = .ok (.new 99, 3) := by decide +kernel
theorem dX4_argue_14 : decode cX4_argue 14 = .ok (.dup, 1) := by decide +kernel
theorem dX4_argue_15 : decode cX4_argue 15 = .ok (.ldc 101, 2) := by decide +kernel
theorem dX4_argue_17 : decode cX4_argue 17 = .ok (.invokespecial 103, 3) := by decide +kernel
theorem dX4_argue_20 : decode cX4_argue 20 = .ok (.athrow, 1) := by decide +kernel
theorem dX4_argue_21 : decode cX4_argue 21 = .ok (.iload_n 2, 1) := by decide +kernel
theorem dX4_argue_22 : decode cX4_argue 22 = .ok (.iconst 1, 1) := by decide +kernel
theorem dX4_argue_23 : decode cX4_argue 23 = .ok (.bipush 100, 2) := by decide +kernel
theorem dX4_argue_25 : decode cX4_argue 25 = .ok (.invokestatic 53, 3) := by decide +kernel
theorem dX4_argue_28 : decode cX4_argue 28 = .ok (.ifCond .ne 13, 3) := by decide +kernel
theorem dX4_argue_31 : decode cX4_argue 31 = .ok (.new 41, 3) := by decide +kernel
theorem dX4_argue_34 : decode cX4_argue 34 = .ok (.dup, 1) := by decide +kernel
theorem dX4_argue_35 : decode cX4_argue 35 = .ok (.ldc 120, 2) := by decide +kernel
theorem dX4_argue_37 : decode cX4_argue 37 = .ok (.invokespecial 45, 3) := by decide +kernel
theorem dX4_argue_40 : decode cX4_argue 40 = .ok (.athrow, 1) := by decide +kernel
theorem dX4_argue_41 : decode cX4_argue 41 = .ok (.aload_n 0, 1) := by decide +kernel
theorem dX4_argue_42 : decode cX4_argue 42 = .ok (.getfield 19, 3) := by decide +kernel
theorem dX4_argue_45 : decode cX4_argue 45 = .ok (.iload_n 1, 1) := by decide +kernel
theorem dX4_argue_46 : decode cX4_argue 46 = .ok (.iload_n 3, 1) := by decide +kernel
theorem dX4_argue_47 : decode cX4_argue 47 = .ok (.ifCond .eq 7, 3) := by decide +kernel
theorem dX4_argue_50 : decode cX4_argue 50 = .ok (.iload_n 2, 1) := by decide +kernel
theorem dX4_argue_51 : decode cX4_argue 51 = .ok (.goto 5, 3) := by decide +kernel
theorem dX4_argue_54 : decode cX4_argue 54 = .ok (.iload_n 2, 1) := by decide +kernel
theorem dX4_argue_55 : decode cX4_argue 55 = .ok (.ineg, 1) := by decide +kernel
theorem dX4_argue_56 : decode cX4_argue 56 = .ok (.invokevirtual 122, 3) := by decide +kernel
theorem dX4_argue_59 : decode cX4_argue 59 = .ok (.ireturn, 1) := by decide +kernel
set_option maxRecDepth 20000 in
theorem ggX4_isDoubtful_X1_holds : GoodIn wsX4_isDoubtful wsX1_holds := goodIn_r _ [8, 9, 20, 21, 22, 23, 24, 25, 26, 27, 28] (by decide +kernel) (by decide +kernel)
set_option maxRecDepth 20000 in
theorem gX4_isDoubtful_X1_holds : GoodIn wsX4_isDoubtful (wsV RX4 96 RX1 yX1_holds wsX1_holds) := goodIn_app (goodIn_of _ (by decide +kernel)) ggX4_isDoubtful_X1_holds
set_option maxRecDepth 20000 in
theorem ggX4_isDoubtful_X1_isDoubted : GoodIn wsX4_isDoubtful wsX1_isDoubted := goodIn_r _ [13, 14, 15, 5, 6, 7, 8, 9, 20, 21, 22, 23, 24, 25, 26, 27, 28] (by decide +kernel) (by decide +kernel)
set_option maxRecDepth 20000 in
theorem gX4_isDoubtful_X1_isDoubted : GoodIn wsX4_isDoubtful (wsV RX4 125 RX1 yX1_isDoubted wsX1_isDoubted) := goodIn_app (goodIn_of _ (by decide +kernel)) ggX4_isDoubtful_X1_isDoubted
theorem dX4_isDoubtful_0 : decode cX4_isDoubtful 0 = .ok (.aload_n 0, 1) := by decide +kernel
theorem dX4_isDoubtful_1 : decode cX4_isDoubtful 1 = .ok (.getfield 19, 3) := by decide +kernel
theorem dX4_isDoubtful_4 : decode cX4_isDoubtful 4 = .ok (.iload_n 1, 1) := by decide +kernel
theorem dX4_isDoubtful_5 : decode cX4_isDoubtful 5 = .ok (.invokevirtual 96, 3) := by decide +kernel
theorem dX4_isDoubtful_8 : decode cX4_isDoubtful 8 = .ok (.ifCond .ne 13, 3) := by decide +kernel
theorem dX4_isDoubtful_11 : decode cX4_isDoubtful 11 = .ok (.new 99, 3) := by decide +kernel
theorem dX4_isDoubtful_14 : decode cX4_isDoubtful 14 = .ok (.dup, 1) := by decide +kernel
theorem dX4_isDoubtful_15 : decode cX4_isDoubtful 15 = .ok (.ldc 101, 2) := by decide +kernel
theorem dX4_isDoubtful_17 : decode cX4_isDoubtful 17 = .ok (.invokespecial 103, 3) := by decide +kernel
theorem dX4_isDoubtful_20 : decode cX4_isDoubtful 20 = .ok (.athrow, 1) := by decide +kernel
theorem dX4_isDoubtful_21 : decode cX4_isDoubtful 21 = .ok (.aload_n 0, 1) := by decide +kernel
theorem dX4_isDoubtful_22 : decode cX4_isDoubtful 22 = .ok (.getfield 19, 3) := by decide +kernel
theorem dX4_isDoubtful_25 : decode cX4_isDoubtful 25 = .ok (.iload_n 1, 1) := by decide +kernel
theorem dX4_isDoubtful_26 : decode cX4_isDoubtful 26 = .ok (.invokevirtual 125, 3) := by decide +kernel
theorem dX4_isDoubtful_29 : decode cX4_isDoubtful 29 = .ok (.ireturn, 1) := by decide +kernel
set_option maxRecDepth 20000 in
theorem ggX4_story_X1_storySize : GoodIn wsX4_story wsX1_storySize := goodIn_r _ [6, 7, 8, 9, 10, 5, 11, 12, 13, 14, 15, 16, 17, 18, 19, 20, 21, 22, 27, 28, 29, 30, 31, 32, 33, 34, 35] (by decide +kernel) (by decide +kernel)
set_option maxRecDepth 20000 in
theorem gX4_story_X1_storySize : GoodIn wsX4_story (wsV RX4 128 RX1 yX1_storySize wsX1_storySize) := goodIn_app (goodIn_of _ (by decide +kernel)) ggX4_story_X1_storySize
theorem dX4_story_0 : decode cX4_story 0 = .ok (.aload_n 0, 1) := by decide +kernel
theorem dX4_story_1 : decode cX4_story 1 = .ok (.getfield 19, 3) := by decide +kernel
theorem dX4_story_4 : decode cX4_story 4 = .ok (.invokevirtual 128, 3) := by decide +kernel
theorem dX4_story_7 : decode cX4_story 7 = .ok (.ireturn, 1) := by decide +kernel
set_option maxRecDepth 20000 in
theorem ggX4_storyAt_X1_storyLine : GoodIn wsX4_storyAt wsX1_storyLine := goodIn_r _ [8, 9, 10, 11, 12, 7, 13, 14, 15, 16, 17, 18, 19, 20, 21, 22, 23, 24, 29, 30, 31, 32, 33, 34, 35, 36, 37] (by decide +kernel) (by decide +kernel)
set_option maxRecDepth 20000 in
theorem gX4_storyAt_X1_storyLine : GoodIn wsX4_storyAt (wsV RX4 131 RX1 yX1_storyLine wsX1_storyLine) := goodIn_app (goodIn_of _ (by decide +kernel)) ggX4_storyAt_X1_storyLine
theorem dX4_storyAt_0 : decode cX4_storyAt 0 = .ok (.aload_n 0, 1) := by decide +kernel
theorem dX4_storyAt_1 : decode cX4_storyAt 1 = .ok (.getfield 19, 3) := by decide +kernel
theorem dX4_storyAt_4 : decode cX4_storyAt 4 = .ok (.iload_n 1, 1) := by decide +kernel
theorem dX4_storyAt_5 : decode cX4_storyAt 5 = .ok (.invokevirtual 131, 3) := by decide +kernel
theorem dX4_storyAt_8 : decode cX4_storyAt 8 = .ok (.istore_n 2, 1) := by decide +kernel
theorem dX4_storyAt_9 : decode cX4_storyAt 9 = .ok (.iload_n 2, 1) := by decide +kernel
theorem dX4_storyAt_10 : decode cX4_storyAt 10 = .ok (.iconst (-1), 1) := by decide +kernel
theorem dX4_storyAt_11 : decode cX4_storyAt 11 = .ok (.if_icmp .ne 13, 3) := by decide +kernel
theorem dX4_storyAt_14 : decode cX4_storyAt 14 = .ok (.new 99, 3) := by decide +kernel
theorem dX4_storyAt_17 : decode cX4_storyAt 17 = .ok (.dup, 1) := by decide +kernel
theorem dX4_storyAt_18 : decode cX4_storyAt 18 = .ok (.ldc 108, 2) := by decide +kernel
theorem dX4_storyAt_20 : decode cX4_storyAt 20 = .ok (.invokespecial 103, 3) := by decide +kernel
theorem dX4_storyAt_23 : decode cX4_storyAt 23 = .ok (.athrow, 1) := by decide +kernel
theorem dX4_storyAt_24 : decode cX4_storyAt 24 = .ok (.iload_n 2, 1) := by decide +kernel
theorem dX4_storyAt_25 : decode cX4_storyAt 25 = .ok (.ireturn, 1) := by decide +kernel
set_option maxRecDepth 20000 in
theorem ggX4_earliest_X1_holds : GoodIn wsX4_earliest wsX1_holds := goodIn_r _ [9, 10, 37, 38, 39, 40, 41, 42, 43, 44, 45] (by decide +kernel) (by decide +kernel)
set_option maxRecDepth 20000 in
theorem gX4_earliest_X1_holds : GoodIn wsX4_earliest (wsV RX4 96 RX1 yX1_holds wsX1_holds) := goodIn_app (goodIn_of _ (by decide +kernel)) ggX4_earliest_X1_holds
set_option maxRecDepth 20000 in
theorem ggX4_earliest_X1_earliestTime : GoodIn wsX4_earliest wsX1_earliestTime := goodIn_r _ [14, 15, 16, 17, 18, 19, 6, 7, 8, 9, 10, 20, 21, 22, 23, 24, 25, 26, 27, 28, 29, 30, 31, 32, 37, 38, 39, 40, 41, 42, 43, 44, 45, 46] (by decide +kernel) (by decide +kernel)
set_option maxRecDepth 20000 in
theorem gX4_earliest_X1_earliestTime : GoodIn wsX4_earliest (wsV RX4 134 RX1 yX1_earliestTime wsX1_earliestTime) := goodIn_app (goodIn_of _ (by decide +kernel)) ggX4_earliest_X1_earliestTime
theorem dX4_earliest_0 : decode cX4_earliest 0 = .ok (.aload_n 0, 1) := by decide +kernel
theorem dX4_earliest_1 : decode cX4_earliest 1 = .ok (.getfield 19, 3) := by decide +kernel
theorem dX4_earliest_4 : decode cX4_earliest 4 = .ok (.iload_n 1, 1) := by decide +kernel
theorem dX4_earliest_5 : decode cX4_earliest 5 = .ok (.invokevirtual 96, 3) := by decide +kernel
theorem dX4_earliest_8 : decode cX4_earliest 8 = .ok (.ifCond .ne 13, 3) := by decide +kernel
theorem dX4_earliest_11 : decode cX4_earliest 11 = .ok (.new 99, 3) := by decide +kernel
theorem dX4_earliest_14 : decode cX4_earliest 14 = .ok (.dup, 1) := by decide +kernel
theorem dX4_earliest_15 : decode cX4_earliest 15 = .ok (.ldc 101, 2) := by decide +kernel
theorem dX4_earliest_17 : decode cX4_earliest 17 = .ok (.invokespecial 103, 3) := by decide +kernel
theorem dX4_earliest_20 : decode cX4_earliest 20 = .ok (.athrow, 1) := by decide +kernel
theorem dX4_earliest_21 : decode cX4_earliest 21 = .ok (.aload_n 0, 1) := by decide +kernel
theorem dX4_earliest_22 : decode cX4_earliest 22 = .ok (.getfield 19, 3) := by decide +kernel
theorem dX4_earliest_25 : decode cX4_earliest 25 = .ok (.iload_n 1, 1) := by decide +kernel
theorem dX4_earliest_26 : decode cX4_earliest 26 = .ok (.aload_n 0, 1) := by decide +kernel
theorem dX4_earliest_27 : decode cX4_earliest 27 = .ok (.getfield 10, 3) := by decide +kernel
theorem dX4_earliest_30 : decode cX4_earliest 30 = .ok (.invokevirtual 134, 3) := by decide +kernel
theorem dX4_earliest_33 : decode cX4_earliest 33 = .ok (.ireturn, 1) := by decide +kernel
set_option maxRecDepth 20000 in
theorem ggX4_firstOf_X4_isService : GoodIn wsX4_firstOf wsX4_isService := goodIn_r _ [7, 8, 9, 6, 10] (by decide +kernel) (by decide +kernel)
set_option maxRecDepth 20000 in
theorem gX4_firstOf_X4_isService : GoodIn wsX4_firstOf (va_wsS RX4 81 yX4_isService wsX4_isService) := goodIn_app (goodIn_of _ (by decide +kernel)) ggX4_firstOf_X4_isService
set_option maxRecDepth 20000 in
theorem ggX4_firstOf_X1_firstLine : GoodIn wsX4_firstOf wsX1_firstLine := goodIn_r _ [15, 16, 17, 18, 19, 20, 14, 21, 22, 23, 24, 25, 26, 31, 32, 33, 34, 35, 36, 37, 38, 39] (by decide +kernel) (by decide +kernel)
set_option maxRecDepth 20000 in
theorem gX4_firstOf_X1_firstLine : GoodIn wsX4_firstOf (wsV RX4 140 RX1 yX1_firstLine wsX1_firstLine) := goodIn_app (goodIn_of _ (by decide +kernel)) ggX4_firstOf_X1_firstLine
theorem dX4_firstOf_0 : decode cX4_firstOf 0 = .ok (.iload_n 1, 1) := by decide +kernel
theorem dX4_firstOf_1 : decode cX4_firstOf 1 = .ok (.invokestatic 81, 3) := by decide +kernel
theorem dX4_firstOf_4 : decode cX4_firstOf 4 = .ok (.ifCond .ne 13, 3) := by decide +kernel
theorem dX4_firstOf_7 : decode cX4_firstOf 7 = .ok (.new 41, 3) := by decide +kernel
theorem dX4_firstOf_10 : decode cX4_firstOf 10 = .ok (.dup, 1) := by decide +kernel
theorem dX4_firstOf_11 : decode cX4_firstOf 11 = .ok (.ldc 138, 2) := by decide +kernel
theorem dX4_firstOf_13 : decode cX4_firstOf 13 = .ok (.invokespecial 45, 3) := by decide +kernel
theorem dX4_firstOf_16 : decode cX4_firstOf 16 = .ok (.athrow, 1) := by decide +kernel
theorem dX4_firstOf_17 : decode cX4_firstOf 17 = .ok (.aload_n 0, 1) := by decide +kernel
theorem dX4_firstOf_18 : decode cX4_firstOf 18 = .ok (.getfield 19, 3) := by decide +kernel
theorem dX4_firstOf_21 : decode cX4_firstOf 21 = .ok (.iload_n 1, 1) := by decide +kernel
theorem dX4_firstOf_22 : decode cX4_firstOf 22 = .ok (.invokevirtual 140, 3) := by decide +kernel
theorem dX4_firstOf_25 : decode cX4_firstOf 25 = .ok (.ireturn, 1) := by decide +kernel
set_option maxRecDepth 20000 in
theorem ggX4_measure_X4_isService : GoodIn wsX4_measure wsX4_isService := goodIn_r _ [9, 10, 11, 8, 12] (by decide +kernel) (by decide +kernel)
set_option maxRecDepth 20000 in
theorem gX4_measure_X4_isService : GoodIn wsX4_measure (va_wsS RX4 81 yX4_isService wsX4_isService) := goodIn_app (goodIn_of _ (by decide +kernel)) ggX4_measure_X4_isService
set_option maxRecDepth 20000 in
theorem ggX4_measure_X4_isWithin : GoodIn wsX4_measure wsX4_isWithin := goodIn_r _ [12] (by decide +kernel) (by decide +kernel)
set_option maxRecDepth 20000 in
theorem gX4_measure_X4_isWithin : GoodIn wsX4_measure (va_wsS RX4 53 yX4_isWithin wsX4_isWithin) := goodIn_app (goodIn_of _ (by decide +kernel)) ggX4_measure_X4_isWithin
set_option maxRecDepth 20000 in
theorem ggX4_measure_X2_size : GoodIn wsX4_measure wsX2_size := goodIn_r _ [17, 18, 31, 32, 33, 34, 35] (by decide +kernel) (by decide +kernel)
set_option maxRecDepth 20000 in
theorem gX4_measure_X2_size : GoodIn wsX4_measure (wsV RX4 147 RX2 yX2_size wsX2_size) := goodIn_app (goodIn_of _ (by decide +kernel)) ggX4_measure_X2_size
set_option maxRecDepth 20000 in
theorem ggX4_measure_X2_add : GoodIn wsX4_measure wsX2_add := goodIn_r _ [22, 18, 23, 24, 25, 26, 31, 32, 33, 34, 35] (by decide +kernel) (by decide +kernel)
set_option maxRecDepth 20000 in
theorem gX4_measure_X2_add : GoodIn wsX4_measure (wsV RX4 150 RX2 yX2_add wsX2_add) := goodIn_app (goodIn_of _ (by decide +kernel)) ggX4_measure_X2_add
theorem dX4_measure_0 : decode cX4_measure 0 = .ok (.iload_n 1, 1) := by decide +kernel
theorem dX4_measure_1 : decode cX4_measure 1 = .ok (.invokestatic 81, 3) := by decide +kernel
theorem dX4_measure_4 : decode cX4_measure 4 = .ok (.ifCond .eq 14, 3) := by decide +kernel
theorem dX4_measure_7 : decode cX4_measure 7 = .ok (.iload 4, 2) := by decide +kernel
theorem dX4_measure_9 : decode cX4_measure 9 = .ok (.iconst 0, 1) := by decide +kernel
theorem dX4_measure_10 : decode cX4_measure 10 = .ok (.bipush 100, 2) := by decide +kernel
theorem dX4_measure_12 : decode cX4_measure 12 = .ok (.invokestatic 53, 3) := by decide +kernel
theorem dX4_measure_15 : decode cX4_measure 15 = .ok (.ifCond .ne 13, 3) := by decide +kernel
theorem dX4_measure_18 : decode cX4_measure 18 = .ok (.new 41, 3) := by decide +kernel
theorem dX4_measure_21 : decode cX4_measure 21 = .ok (.dup, 1) := by decide +kernel
theorem dX4_measure_22 : decode cX4_measure 22 = .ok (.ldc 143, 2) := by decide +kernel
theorem dX4_measure_24 : decode cX4_measure 24 = .ok (.invokespecial 45, 3) := by decide +kernel
theorem dX4_measure_27 : decode cX4_measure 27 = .ok (.athrow, 1) := by decide +kernel
theorem dX4_measure_28 : decode cX4_measure 28 = .ok (.iload_n 2, 1) := by decide +kernel
theorem dX4_measure_29 : decode cX4_measure 29 = .ok (.iconst 0, 1) := by decide +kernel
theorem dX4_measure_30 : decode cX4_measure 30 = .ok (.sipush 10000, 3) := by decide +kernel
theorem dX4_measure_33 : decode cX4_measure 33 = .ok (.invokestatic 53, 3) := by decide +kernel
theorem dX4_measure_36 : decode cX4_measure 36 = .ok (.ifCond .eq 14, 3) := by decide +kernel
theorem dX4_measure_39 : decode cX4_measure 39 = .ok (.iload_n 3, 1) := by decide +kernel
theorem dX4_measure_40 : decode cX4_measure 40 = .ok (.iload_n 2, 1) := by decide +kernel
theorem dX4_measure_41 : decode cX4_measure 41 = .ok (.sipush 10000, 3) := by decide +kernel
theorem dX4_measure_44 : decode cX4_measure 44 = .ok (.invokestatic 53, 3) := by decide +kernel
theorem dX4_measure_47 : decode cX4_measure 47 = .ok (.ifCond .ne 13, 3) := by decide +kernel
theorem dX4_measure_50 : decode cX4_measure 50 = .ok (.new 41, 3) := by decide +kernel
theorem dX4_measure_53 : decode cX4_measure 53 = .ok (.dup, 1) := by decide +kernel
theorem dX4_measure_54 : decode cX4_measure 54 = .ok (.ldc 145, 2) := by decide +kernel
theorem dX4_measure_56 : decode cX4_measure 56 = .ok (.invokespecial 45, 3) := by decide +kernel
theorem dX4_measure_59 : decode cX4_measure 59 = .ok (.athrow, 1) := by decide +kernel
theorem dX4_measure_60 : decode cX4_measure 60 = .ok (.aload_n 0, 1) := by decide +kernel
theorem dX4_measure_61 : decode cX4_measure 61 = .ok (.getfield 26, 3) := by decide +kernel
theorem dX4_measure_64 : decode cX4_measure 64 = .ok (.invokevirtual 147, 3) := by decide +kernel
theorem dX4_measure_67 : decode cX4_measure 67 = .ok (.bipush 40, 2) := by decide +kernel
theorem dX4_measure_69 : decode cX4_measure 69 = .ok (.if_icmp .lt 13, 3) := by decide +kernel
theorem dX4_measure_72 : decode cX4_measure 72 = .ok (.new 62, 3) := by decide +kernel
theorem dX4_measure_75 : decode cX4_measure 75 = .ok (.dup, 1) := by decide +kernel
theorem dX4_measure_76 : decode cX4_measure 76 = .ok (.ldc 148, 2) := by decide +kernel
theorem dX4_measure_78 : decode cX4_measure 78 = .ok (.invokespecial 66, 3) := by decide +kernel
theorem dX4_measure_81 : decode cX4_measure 81 = .ok (.athrow, 1) := by decide +kernel
theorem dX4_measure_82 : decode cX4_measure 82 = .ok (.aload_n 0, 1) := by decide +kernel
theorem dX4_measure_83 : decode cX4_measure 83 = .ok (.getfield 26, 3) := by decide +kernel
theorem dX4_measure_86 : decode cX4_measure 86 = .ok (.iload_n 1, 1) := by decide +kernel
theorem dX4_measure_87 : decode cX4_measure 87 = .ok (.iload_n 2, 1) := by decide +kernel
theorem dX4_measure_88 : decode cX4_measure 88 = .ok (.iload_n 3, 1) := by decide +kernel
theorem dX4_measure_89 : decode cX4_measure 89 = .ok (.iload 4, 2) := by decide +kernel
theorem dX4_measure_91 : decode cX4_measure 91 = .ok (.invokevirtual 150, 3) := by decide +kernel
theorem dX4_measure_94 : decode cX4_measure 94 = .ok (.ireturn, 1) := by decide +kernel
set_option maxRecDepth 20000 in
theorem ggX4_impact_X4_isService : GoodIn wsX4_impact wsX4_isService := goodIn_r _ [7, 8, 9, 6, 10] (by decide +kernel) (by decide +kernel)
set_option maxRecDepth 20000 in
theorem gX4_impact_X4_isService : GoodIn wsX4_impact (va_wsS RX4 81 yX4_isService wsX4_isService) := goodIn_app (goodIn_of _ (by decide +kernel)) ggX4_impact_X4_isService
set_option maxRecDepth 20000 in
theorem ggX4_impact_X2_sumOfWorst : GoodIn wsX4_impact wsX2_sumOfWorst := goodIn_r _ [15, 16, 17, 18, 19, 14, 20, 21, 22, 23, 24, 25, 26, 27, 28, 29, 30, 31, 32, 33, 34, 35, 9, 6, 10, 40, 41, 42, 43, 44] (by decide +kernel) (by decide +kernel)
set_option maxRecDepth 20000 in
theorem gX4_impact_X2_sumOfWorst : GoodIn wsX4_impact (wsV RX4 153 RX2 yX2_sumOfWorst wsX2_sumOfWorst) := goodIn_app (goodIn_of _ (by decide +kernel)) ggX4_impact_X2_sumOfWorst
theorem dX4_impact_0 : decode cX4_impact 0 = .ok (.iload_n 1, 1) := by decide +kernel
theorem dX4_impact_1 : decode cX4_impact 1 = .ok (.invokestatic 81, 3) := by decide +kernel
theorem dX4_impact_4 : decode cX4_impact 4 = .ok (.ifCond .ne 13, 3) := by decide +kernel
theorem dX4_impact_7 : decode cX4_impact 7 = .ok (.new 41, 3) := by decide +kernel
theorem dX4_impact_10 : decode cX4_impact 10 = .ok (.dup, 1) := by decide +kernel
theorem dX4_impact_11 : decode cX4_impact 11 = .ok (.ldc 138, 2) := by decide +kernel
theorem dX4_impact_13 : decode cX4_impact 13 = .ok (.invokespecial 45, 3) := by decide +kernel
theorem dX4_impact_16 : decode cX4_impact 16 = .ok (.athrow, 1) := by decide +kernel
theorem dX4_impact_17 : decode cX4_impact 17 = .ok (.aload_n 0, 1) := by decide +kernel
theorem dX4_impact_18 : decode cX4_impact 18 = .ok (.getfield 26, 3) := by decide +kernel
theorem dX4_impact_21 : decode cX4_impact 21 = .ok (.iload_n 1, 1) := by decide +kernel
theorem dX4_impact_22 : decode cX4_impact 22 = .ok (.invokevirtual 153, 3) := by decide +kernel
theorem dX4_impact_25 : decode cX4_impact 25 = .ok (.ireturn, 1) := by decide +kernel
set_option maxRecDepth 20000 in
theorem ggX4_minutes_X2_failedMinutes : GoodIn wsX4_minutes wsX2_failedMinutes := goodIn_r _ [6, 7, 8, 9, 10, 5, 11, 12, 13, 14, 15, 16, 17, 18, 19, 20, 21, 22, 23, 24, 25, 26, 27, 28, 29, 34, 35, 36, 37, 38] (by decide +kernel) (by decide +kernel)
set_option maxRecDepth 20000 in
theorem gX4_minutes_X2_failedMinutes : GoodIn wsX4_minutes (wsV RX4 156 RX2 yX2_failedMinutes wsX2_failedMinutes) := goodIn_app (goodIn_of _ (by decide +kernel)) ggX4_minutes_X2_failedMinutes
theorem dX4_minutes_0 : decode cX4_minutes 0 = .ok (.aload_n 0, 1) := by decide +kernel
theorem dX4_minutes_1 : decode cX4_minutes 1 = .ok (.getfield 26, 3) := by decide +kernel
theorem dX4_minutes_4 : decode cX4_minutes 4 = .ok (.invokevirtual 156, 3) := by decide +kernel
theorem dX4_minutes_7 : decode cX4_minutes 7 = .ok (.ireturn, 1) := by decide +kernel
set_option maxRecDepth 20000 in
theorem ggX4_addCause_X0_size : GoodIn wsX4_addCause wsX0_size := goodIn_r _ [8, 9, 22, 23, 24] (by decide +kernel) (by decide +kernel)
set_option maxRecDepth 20000 in
theorem gX4_addCause_X0_size : GoodIn wsX4_addCause (wsV RX4 159 RX0 yX0_size wsX0_size) := goodIn_app (goodIn_of _ (by decide +kernel)) ggX4_addCause_X0_size
set_option maxRecDepth 20000 in
theorem ggX4_addCause_X0_add : GoodIn wsX4_addCause wsX0_add := goodIn_r _ [13, 9, 14, 15, 16, 17, 22, 23, 24] (by decide +kernel) (by decide +kernel)
set_option maxRecDepth 20000 in
theorem gX4_addCause_X0_add : GoodIn wsX4_addCause (wsV RX4 162 RX0 yX0_add wsX0_add) := goodIn_app (goodIn_of _ (by decide +kernel)) ggX4_addCause_X0_add
theorem dX4_addCause_0 : decode cX4_addCause 0 = .ok (.aload_n 0, 1) := by decide +kernel
theorem dX4_addCause_1 : decode cX4_addCause 1 = .ok (.getfield 33, 3) := by decide +kernel
theorem dX4_addCause_4 : decode cX4_addCause 4 = .ok (.invokevirtual 159, 3) := by decide +kernel
theorem dX4_addCause_7 : decode cX4_addCause 7 = .ok (.bipush 16, 2) := by decide +kernel
theorem dX4_addCause_9 : decode cX4_addCause 9 = .ok (.if_icmp .lt 13, 3) := by decide +kernel
theorem dX4_addCause_12 : decode cX4_addCause 12 = .ok (.new 62, 3) := by decide +kernel
theorem dX4_addCause_15 : decode cX4_addCause 15 = .ok (.dup, 1) := by decide +kernel
theorem dX4_addCause_16 : decode cX4_addCause 16 = .ok (.ldc 160, 2) := by decide +kernel
theorem dX4_addCause_18 : decode cX4_addCause 18 = .ok (.invokespecial 66, 3) := by decide +kernel
theorem dX4_addCause_21 : decode cX4_addCause 21 = .ok (.athrow, 1) := by decide +kernel
theorem dX4_addCause_22 : decode cX4_addCause 22 = .ok (.aload_n 0, 1) := by decide +kernel
theorem dX4_addCause_23 : decode cX4_addCause 23 = .ok (.getfield 33, 3) := by decide +kernel
theorem dX4_addCause_26 : decode cX4_addCause 26 = .ok (.invokevirtual 162, 3) := by decide +kernel
theorem dX4_addCause_29 : decode cX4_addCause 29 = .ok (.ireturn, 1) := by decide +kernel
set_option maxRecDepth 20000 in
theorem ggX4_argueReason_X0_holds : GoodIn wsX4_argueReason wsX0_holds := goodIn_r _ [12, 13, 49, 50, 51] (by decide +kernel) (by decide +kernel)
set_option maxRecDepth 20000 in
theorem gX4_argueReason_X0_holds : GoodIn wsX4_argueReason (wsV RX4 164 RX0 yX0_holds wsX0_holds) := goodIn_app (goodIn_of _ (by decide +kernel)) ggX4_argueReason_X0_holds
set_option maxRecDepth 20000 in
theorem ggX4_argueReason_X4_isWithin : GoodIn wsX4_argueReason wsX4_isWithin := goodIn_r _ [17] (by decide +kernel) (by decide +kernel)
set_option maxRecDepth 20000 in
theorem gX4_argueReason_X4_isWithin : GoodIn wsX4_argueReason (va_wsS RX4 53 yX4_isWithin wsX4_isWithin) := goodIn_app (goodIn_of _ (by decide +kernel)) ggX4_argueReason_X4_isWithin
set_option maxRecDepth 20000 in
theorem ggX4_argueReason_X0_isBecauseOf : GoodIn wsX4_argueReason wsX0_isBecauseOf := goodIn_r _ [21, 13, 22, 16, 23, 24, 25, 26, 11, 27, 28, 29, 30, 31, 32, 33, 34, 35, 36, 37, 38, 39, 40, 9, 10, 12, 49, 50, 51] (by decide +kernel) (by decide +kernel)
set_option maxRecDepth 20000 in
theorem gX4_argueReason_X0_isBecauseOf : GoodIn wsX4_argueReason (wsV RX4 169 RX0 yX0_isBecauseOf wsX0_isBecauseOf) := goodIn_app (goodIn_of _ (by decide +kernel)) ggX4_argueReason_X0_isBecauseOf
set_option maxRecDepth 20000 in
theorem ggX4_argueReason_X0_replaceWeight : GoodIn wsX4_argueReason wsX0_replaceWeight := goodIn_r _ [44, 39, 40, 9, 10, 11, 12, 13, 49, 50, 51] (by decide +kernel) (by decide +kernel)
set_option maxRecDepth 20000 in
theorem gX4_argueReason_X0_replaceWeight : GoodIn wsX4_argueReason (wsV RX4 174 RX0 yX0_replaceWeight wsX0_replaceWeight) := goodIn_app (goodIn_of _ (by decide +kernel)) ggX4_argueReason_X0_replaceWeight
theorem dX4_argueReason_0 : decode cX4_argueReason 0 = .ok (.aload_n 0, 1) := by decide +kernel
theorem dX4_argueReason_1 : decode cX4_argueReason 1 = .ok (.getfield 33, 3) := by decide +kernel
theorem dX4_argueReason_4 : decode cX4_argueReason 4 = .ok (.iload_n 1, 1) := by decide +kernel
theorem dX4_argueReason_5 : decode cX4_argueReason 5 = .ok (.invokevirtual 164, 3) := by decide +kernel
theorem dX4_argueReason_8 : decode cX4_argueReason 8 = .ok (.ifCond .eq 14, 3) := by decide +kernel
theorem dX4_argueReason_11 : decode cX4_argueReason 11 = .ok (.aload_n 0, 1) := by decide +kernel
theorem dX4_argueReason_12 : decode cX4_argueReason 12 = .ok (.getfield 33, 3) := by decide +kernel
theorem dX4_argueReason_15 : decode cX4_argueReason 15 = .ok (.iload_n 2, 1) := by decide +kernel
theorem dX4_argueReason_16 : decode cX4_argueReason 16 = .ok (.invokevirtual 164, 3) := by decide +kernel
theorem dX4_argueReason_19 : decode cX4_argueReason 19 = .ok (.ifCond .ne 13, 3) := by decide +kernel
theorem dX4_argueReason_22 : decode cX4_argueReason 22 = .ok (.new 99, 3) := by decide +kernel
theorem dX4_argueReason_25 : decode cX4_argueReason 25 = .ok (.dup, 1) := by decide +kernel
theorem dX4_argueReason_26 : decode cX4_argueReason 26 = .ok (.ldc 165, 2) := by decide +kernel
theorem dX4_argueReason_28 : decode cX4_argueReason 28 = .ok (.invokespecial 103, 3) := by decide +kernel
theorem dX4_argueReason_31 : decode cX4_argueReason 31 = .ok (.athrow, 1) := by decide +kernel
theorem dX4_argueReason_32 : decode cX4_argueReason 32 = .ok (.iload_n 1, 1) := by decide +kernel
theorem dX4_argueReason_33 : decode cX4_argueReason 33 = .ok (.iload_n 2, 1) := by decide +kernel
theorem dX4_argueReason_34 : decode cX4_argueReason 34 = .ok (.if_icmp .eq 13, 3) := by decide +kernel
theorem dX4_argueReason_37 : decode cX4_argueReason 37 = .ok (.iload_n 3, 1) := by decide +kernel
theorem dX4_argueReason_38 : decode cX4_argueReason 38 = .ok (.iconst 0, 1) := by decide +kernel
theorem dX4_argueReason_39 : decode cX4_argueReason 39 = .ok (.bipush 100, 2) := by decide +kernel
theorem dX4_argueReason_41 : decode cX4_argueReason 41 = .ok (.invokestatic 53, 3) := by decide +kernel
theorem dX4_argueReason_44 : decode cX4_argueReason 44 = .ok (.ifCond .ne 13, 3) := by decide +kernel
theorem dX4_argueReason_47 : decode cX4_argueReason 47 = .ok (.new 41, 3) := by decide +kernel
theorem dX4_argueReason_50 : decode cX4_argueReason 50 = .ok (.dup, 1) := by decide +kernel
theorem dX4_argueReason_51 : decode cX4_argueReason 51 = .ok (.ldc 167, 2) := by decide +kernel
theorem dX4_argueReason_53 : decode cX4_argueReason 53 = .ok (.invokespecial 45, 3) := by decide +kernel
theorem dX4_argueReason_56 : decode cX4_argueReason 56 = .ok (.athrow, 1) := by decide +kernel
theorem dX4_argueReason_57 : decode cX4_argueReason 57 = .ok (.iload_n 3, 1) := by decide +kernel
theorem dX4_argueReason_58 : decode cX4_argueReason 58 = .ok (.ifCond .le 25, 3) := by decide +kernel
theorem dX4_argueReason_61 : decode cX4_argueReason 61 = .ok (.aload_n 0, 1) := by decide +kernel
theorem dX4_argueReason_62 : decode cX4_argueReason 62 = .ok (.getfield 33, 3) := by decide +kernel
theorem dX4_argueReason_65 : decode cX4_argueReason 65 = .ok (.iload_n 2, 1) := by decide +kernel
theorem dX4_argueReason_66 : decode cX4_argueReason 66 = .ok (.iload_n 1, 1) := by decide +kernel
theorem dX4_argueReason_67 : decode cX4_argueReason 67 = .ok (.invokevirtual 169, 3) := by decide +kernel
theorem dX4_argueReason_70 : decode cX4_argueReason 70 = .ok (.ifCond .eq 13, 3) := by decide +kernel
theorem dX4_argueReason_73 : decode cX4_argueReason 73 = .ok (.new 62, 3) := by decide +kernel
theorem dX4_argueReason_76 : decode cX4_argueReason 76 = .ok (.dup, 1) := by decide +kernel
theorem dX4_argueReason_77 : decode cX4_argueReason 77 = .ok (.ldc 172, 2) := by decide +kernel
theorem dX4_argueReason_79 : decode cX4_argueReason 79 = .ok (.invokespecial 66, 3) := by decide +kernel
theorem dX4_argueReason_82 : decode cX4_argueReason 82 = .ok (.athrow, 1) := by decide +kernel
theorem dX4_argueReason_83 : decode cX4_argueReason 83 = .ok (.aload_n 0, 1) := by decide +kernel
theorem dX4_argueReason_84 : decode cX4_argueReason 84 = .ok (.getfield 33, 3) := by decide +kernel
theorem dX4_argueReason_87 : decode cX4_argueReason 87 = .ok (.iload_n 1, 1) := by decide +kernel
theorem dX4_argueReason_88 : decode cX4_argueReason 88 = .ok (.iload_n 2, 1) := by decide +kernel
theorem dX4_argueReason_89 : decode cX4_argueReason 89 = .ok (.iload_n 3, 1) := by decide +kernel
theorem dX4_argueReason_90 : decode cX4_argueReason 90 = .ok (.invokevirtual 174, 3) := by decide +kernel
theorem dX4_argueReason_93 : decode cX4_argueReason 93 = .ok (.ireturn, 1) := by decide +kernel
set_option maxRecDepth 20000 in
theorem ggX4_setStanding_X0_holds : GoodIn wsX4_setStanding wsX0_holds := goodIn_r _ [8, 9, 25, 26, 27] (by decide +kernel) (by decide +kernel)
set_option maxRecDepth 20000 in
theorem gX4_setStanding_X0_holds : GoodIn wsX4_setStanding (wsV RX4 164 RX0 yX0_holds wsX0_holds) := goodIn_app (goodIn_of _ (by decide +kernel)) ggX4_setStanding_X0_holds
set_option maxRecDepth 20000 in
theorem ggX4_setStanding_X0_replaceStanding : GoodIn wsX4_setStanding wsX0_replaceStanding := goodIn_r _ [13, 14, 15, 16, 17, 18, 19, 20, 25, 26, 27] (by decide +kernel) (by decide +kernel)
set_option maxRecDepth 20000 in
theorem gX4_setStanding_X0_replaceStanding : GoodIn wsX4_setStanding (wsV RX4 178 RX0 yX0_replaceStanding wsX0_replaceStanding) := goodIn_app (goodIn_of _ (by decide +kernel)) ggX4_setStanding_X0_replaceStanding
theorem dX4_setStanding_0 : decode cX4_setStanding 0 = .ok (.aload_n 0, 1) := by decide +kernel
theorem dX4_setStanding_1 : decode cX4_setStanding 1 = .ok (.getfield 33, 3) := by decide +kernel
theorem dX4_setStanding_4 : decode cX4_setStanding 4 = .ok (.iload_n 1, 1) := by decide +kernel
theorem dX4_setStanding_5 : decode cX4_setStanding 5 = .ok (.invokevirtual 164, 3) := by decide +kernel
theorem dX4_setStanding_8 : decode cX4_setStanding 8 = .ok (.ifCond .ne 13, 3) := by decide +kernel
theorem dX4_setStanding_11 : decode cX4_setStanding 11 = .ok (.new 99, 3) := by decide +kernel
