theorem dX7_greatest_8 : decode cX7_greatest 8 = .ok (.iload_n 1, 1) := by decide +kernel
theorem dX7_greatest_9 : decode cX7_greatest 9 = .ok (.invokevirtual 80, 3) := by decide +kernel
theorem dX7_greatest_12 : decode cX7_greatest 12 = .ok (.goto 5, 3) := by decide +kernel
theorem dX7_greatest_15 : decode cX7_greatest 15 = .ok (.bipush (-101), 2) := by decide +kernel
theorem dX7_greatest_17 : decode cX7_greatest 17 = .ok (.ireturn, 1) := by decide +kernel
set_option maxRecDepth 20000 in
theorem ggX7_clear_X7_isSign : GoodIn wsX7_clear wsX7_isSign := goodIn_r _ [7, 8, 9, 6, 10] (by decide +kernel) (by decide +kernel)
set_option maxRecDepth 20000 in
theorem gX7_clear_X7_isSign : GoodIn wsX7_clear (va_wsS RX7 42 yX7_isSign wsX7_isSign) := goodIn_app (goodIn_of _ (by decide +kernel)) ggX7_clear_X7_isSign
set_option maxRecDepth 20000 in
theorem ggX7_clear_X7_greatestOf : GoodIn wsX7_clear wsX7_greatestOf := goodIn_r _ [14, 1, 2, 15, 16, 17, 6, 18, 19, 20, 21, 22, 8, 9, 10, 23, 24, 25, 26, 27, 28, 29, 30, 31, 32, 33, 34, 35, 36, 37, 38, 39, 40, 41, 42] (by decide +kernel) (by decide +kernel)
set_option maxRecDepth 20000 in
theorem gX7_clear_X7_greatestOf : GoodIn wsX7_clear (wsV RX7 80 RX7 yX7_greatestOf wsX7_greatestOf) := goodIn_app (goodIn_of _ (by decide +kernel)) ggX7_clear_X7_greatestOf
set_option maxRecDepth 20000 in
theorem ggX7_clear_X7_answers : GoodIn wsX7_clear wsX7_answers := goodIn_r _ [18, 19, 20, 2, 1, 21, 22, 8, 9, 6, 10, 23, 24, 25, 26, 27, 28, 29, 30, 31, 32, 33, 34, 35, 36, 37, 38, 39, 40, 41, 42] (by decide +kernel) (by decide +kernel)
set_option maxRecDepth 20000 in
theorem gX7_clear_X7_answers : GoodIn wsX7_clear (wsV RX7 76 RX7 yX7_answers wsX7_answers) := goodIn_app (goodIn_of _ (by decide +kernel)) ggX7_clear_X7_answers
theorem dX7_clear_0 : decode cX7_clear 0 = .ok (.iload_n 1, 1) := by decide +kernel
theorem dX7_clear_1 : decode cX7_clear 1 = .ok (.invokestatic 42, 3) := by decide +kernel
theorem dX7_clear_4 : decode cX7_clear 4 = .ok (.ifCond .ne 6, 3) := by decide +kernel
theorem dX7_clear_7 : decode cX7_clear 7 = .ok (.bipush (-101), 2) := by decide +kernel
theorem dX7_clear_9 : decode cX7_clear 9 = .ok (.ireturn, 1) := by decide +kernel
theorem dX7_clear_10 : decode cX7_clear 10 = .ok (.aload_n 0, 1) := by decide +kernel
theorem dX7_clear_11 : decode cX7_clear 11 = .ok (.iload_n 1, 1) := by decide +kernel
theorem dX7_clear_12 : decode cX7_clear 12 = .ok (.invokevirtual 80, 3) := by decide +kernel
theorem dX7_clear_15 : decode cX7_clear 15 = .ok (.istore_n 2, 1) := by decide +kernel
theorem dX7_clear_16 : decode cX7_clear 16 = .ok (.aload_n 0, 1) := by decide +kernel
theorem dX7_clear_17 : decode cX7_clear 17 = .ok (.iload_n 1, 1) := by decide +kernel
theorem dX7_clear_18 : decode cX7_clear 18 = .ok (.iload_n 2, 1) := by decide +kernel
theorem dX7_clear_19 : decode cX7_clear 19 = .ok (.invokevirtual 76, 3) := by decide +kernel
theorem dX7_clear_22 : decode cX7_clear 22 = .ok (.istore_n 3, 1) := by decide +kernel
theorem dX7_clear_23 : decode cX7_clear 23 = .ok (.iconst 0, 1) := by decide +kernel
theorem dX7_clear_24 : decode cX7_clear 24 = .ok (.istore 4, 2) := by decide +kernel
theorem dX7_clear_26 : decode cX7_clear 26 = .ok (.iconst 0, 1) := by decide +kernel
theorem dX7_clear_27 : decode cX7_clear 27 = .ok (.istore 5, 2) := by decide +kernel
theorem dX7_clear_29 : decode cX7_clear 29 = .ok (.iload 5, 2) := by decide +kernel
theorem dX7_clear_31 : decode cX7_clear 31 = .ok (.aload_n 0, 1) := by decide +kernel
theorem dX7_clear_32 : decode cX7_clear 32 = .ok (.getfield 7, 3) := by decide +kernel
theorem dX7_clear_35 : decode cX7_clear 35 = .ok (.iload_n 1, 1) := by decide +kernel
theorem dX7_clear_36 : decode cX7_clear 36 = .ok (.iaload, 1) := by decide +kernel
theorem dX7_clear_37 : decode cX7_clear 37 = .ok (.aload_n 0, 1) := by decide +kernel
theorem dX7_clear_38 : decode cX7_clear 38 = .ok (.getfield 16, 3) := by decide +kernel
theorem dX7_clear_41 : decode cX7_clear 41 = .ok (.iadd, 1) := by decide +kernel
theorem dX7_clear_42 : decode cX7_clear 42 = .ok (.iconst 1, 1) := by decide +kernel
theorem dX7_clear_43 : decode cX7_clear 43 = .ok (.isub, 1) := by decide +kernel
theorem dX7_clear_44 : decode cX7_clear 44 = .ok (.if_icmp .ge 44, 3) := by decide +kernel
theorem dX7_clear_47 : decode cX7_clear 47 = .ok (.iload 5, 2) := by decide +kernel
theorem dX7_clear_49 : decode cX7_clear 49 = .ok (.iload_n 2, 1) := by decide +kernel
theorem dX7_clear_50 : decode cX7_clear 50 = .ok (.if_icmp .ne 7, 3) := by decide +kernel
theorem dX7_clear_53 : decode cX7_clear 53 = .ok (.iconst 0, 1) := by decide +kernel
theorem dX7_clear_54 : decode cX7_clear 54 = .ok (.goto 10, 3) := by decide +kernel
theorem dX7_clear_57 : decode cX7_clear 57 = .ok (.aload_n 0, 1) := by decide +kernel
theorem dX7_clear_58 : decode cX7_clear 58 = .ok (.iload_n 1, 1) := by decide +kernel
theorem dX7_clear_59 : decode cX7_clear 59 = .ok (.iload 5, 2) := by decide +kernel
theorem dX7_clear_61 : decode cX7_clear 61 = .ok (.invokevirtual 76, 3) := by decide +kernel
theorem dX7_clear_64 : decode cX7_clear 64 = .ok (.istore 6, 2) := by decide +kernel
theorem dX7_clear_66 : decode cX7_clear 66 = .ok (.iload 6, 2) := by decide +kernel
theorem dX7_clear_68 : decode cX7_clear 68 = .ok (.iload 4, 2) := by decide +kernel
theorem dX7_clear_70 : decode cX7_clear 70 = .ok (.if_icmp .le 8, 3) := by decide +kernel
theorem dX7_clear_73 : decode cX7_clear 73 = .ok (.iload 6, 2) := by decide +kernel
theorem dX7_clear_75 : decode cX7_clear 75 = .ok (.goto 5, 3) := by decide +kernel
theorem dX7_clear_78 : decode cX7_clear 78 = .ok (.iload 4, 2) := by decide +kernel
theorem dX7_clear_80 : decode cX7_clear 80 = .ok (.istore 4, 2) := by decide +kernel
theorem dX7_clear_82 : decode cX7_clear 82 = .ok (.iinc 5 1, 3) := by decide +kernel
theorem dX7_clear_85 : decode cX7_clear 85 = .ok (.goto (-56), 3) := by decide +kernel
theorem dX7_clear_88 : decode cX7_clear 88 = .ok (.iload_n 3, 1) := by decide +kernel
theorem dX7_clear_89 : decode cX7_clear 89 = .ok (.ifCond .ne 7, 3) := by decide +kernel
theorem dX7_clear_92 : decode cX7_clear 92 = .ok (.iconst 0, 1) := by decide +kernel
theorem dX7_clear_93 : decode cX7_clear 93 = .ok (.goto 20, 3) := by decide +kernel
theorem dX7_clear_96 : decode cX7_clear 96 = .ok (.iload 4, 2) := by decide +kernel
theorem dX7_clear_98 : decode cX7_clear 98 = .ok (.ifCond .ne 8, 3) := by decide +kernel
theorem dX7_clear_101 : decode cX7_clear 101 = .ok (.ldc 83, 2) := by decide +kernel
theorem dX7_clear_103 : decode cX7_clear 103 = .ok (.goto 10, 3) := by decide +kernel
theorem dX7_clear_106 : decode cX7_clear 106 = .ok (.bipush 10, 2) := by decide +kernel
theorem dX7_clear_108 : decode cX7_clear 108 = .ok (.iload_n 3, 1) := by decide +kernel
theorem dX7_clear_109 : decode cX7_clear 109 = .ok (.imul, 1) := by decide +kernel
theorem dX7_clear_110 : decode cX7_clear 110 = .ok (.iload 4, 2) := by decide +kernel
theorem dX7_clear_112 : decode cX7_clear 112 = .ok (.idiv, 1) := by decide +kernel
theorem dX7_clear_113 : decode cX7_clear 113 = .ok (.ireturn, 1) := by decide +kernel
set_option maxRecDepth 20000 in
theorem ggX7_rests_X7_in : GoodIn wsX7_rests wsX7_in := goodIn_r _ [7] (by decide +kernel) (by decide +kernel)
set_option maxRecDepth 20000 in
theorem gX7_rests_X7_in : GoodIn wsX7_rests (va_wsS RX7 38 yX7_in wsX7_in) := goodIn_app (goodIn_of _ (by decide +kernel)) ggX7_rests_X7_in
theorem dX7_rests_0 : decode cX7_rests 0 = .ok (.iload_n 1, 1) := by decide +kernel
theorem dX7_rests_1 : decode cX7_rests 1 = .ok (.iconst 1, 1) := by decide +kernel
theorem dX7_rests_2 : decode cX7_rests 2 = .ok (.iconst 4, 1) := by decide +kernel
theorem dX7_rests_3 : decode cX7_rests 3 = .ok (.invokestatic 38, 3) := by decide +kernel
theorem dX7_rests_6 : decode cX7_rests 6 = .ok (.ifCond .ne 6, 3) := by decide +kernel
theorem dX7_rests_9 : decode cX7_rests 9 = .ok (.bipush (-102), 2) := by decide +kernel
theorem dX7_rests_11 : decode cX7_rests 11 = .ok (.ireturn, 1) := by decide +kernel
theorem dX7_rests_12 : decode cX7_rests 12 = .ok (.aload_n 0, 1) := by decide +kernel
theorem dX7_rests_13 : decode cX7_rests 13 = .ok (.iload_n 1, 1) := by decide +kernel
theorem dX7_rests_14 : decode cX7_rests 14 = .ok (.putfield 23, 3) := by decide +kernel
theorem dX7_rests_17 : decode cX7_rests 17 = .ok (.iconst 0, 1) := by decide +kernel
theorem dX7_rests_18 : decode cX7_rests 18 = .ok (.istore_n 2, 1) := by decide +kernel
theorem dX7_rests_19 : decode cX7_rests 19 = .ok (.iload_n 2, 1) := by decide +kernel
theorem dX7_rests_20 : decode cX7_rests 20 = .ok (.iload_n 1, 1) := by decide +kernel
theorem dX7_rests_21 : decode cX7_rests 21 = .ok (.if_icmp .ge 23, 3) := by decide +kernel
theorem dX7_rests_24 : decode cX7_rests 24 = .ok (.aload_n 0, 1) := by decide +kernel
theorem dX7_rests_25 : decode cX7_rests 25 = .ok (.getfield 26, 3) := by decide +kernel
theorem dX7_rests_28 : decode cX7_rests 28 = .ok (.iload_n 2, 1) := by decide +kernel
theorem dX7_rests_29 : decode cX7_rests 29 = .ok (.iconst 2, 1) := by decide +kernel
theorem dX7_rests_30 : decode cX7_rests 30 = .ok (.iastore, 1) := by decide +kernel
theorem dX7_rests_31 : decode cX7_rests 31 = .ok (.aload_n 0, 1) := by decide +kernel
theorem dX7_rests_32 : decode cX7_rests 32 = .ok (.getfield 29, 3) := by decide +kernel
theorem dX7_rests_35 : decode cX7_rests 35 = .ok (.iload_n 2, 1) := by decide +kernel
theorem dX7_rests_36 : decode cX7_rests 36 = .ok (.iconst (-1), 1) := by decide +kernel
theorem dX7_rests_37 : decode cX7_rests 37 = .ok (.iastore, 1) := by decide +kernel
theorem dX7_rests_38 : decode cX7_rests 38 = .ok (.iinc 2 1, 3) := by decide +kernel
theorem dX7_rests_41 : decode cX7_rests 41 = .ok (.goto (-22), 3) := by decide +kernel
theorem dX7_rests_44 : decode cX7_rests 44 = .ok (.iload_n 1, 1) := by decide +kernel
theorem dX7_rests_45 : decode cX7_rests 45 = .ok (.ireturn, 1) := by decide +kernel
set_option maxRecDepth 20000 in
theorem ggX7_isRest_X7_in : GoodIn wsX7_isRest wsX7_in := goodIn_r _ [5] (by decide +kernel) (by decide +kernel)
set_option maxRecDepth 20000 in
theorem gX7_isRest_X7_in : GoodIn wsX7_isRest (va_wsS RX7 38 yX7_in wsX7_in) := goodIn_app (goodIn_of _ (by decide +kernel)) ggX7_isRest_X7_in
theorem dX7_isRest_0 : decode cX7_isRest 0 = .ok (.iload_n 1, 1) := by decide +kernel
theorem dX7_isRest_1 : decode cX7_isRest 1 = .ok (.iconst 0, 1) := by decide +kernel
theorem dX7_isRest_2 : decode cX7_isRest 2 = .ok (.aload_n 0, 1) := by decide +kernel
theorem dX7_isRest_3 : decode cX7_isRest 3 = .ok (.getfield 23, 3) := by decide +kernel
theorem dX7_isRest_6 : decode cX7_isRest 6 = .ok (.iconst 1, 1) := by decide +kernel
theorem dX7_isRest_7 : decode cX7_isRest 7 = .ok (.isub, 1) := by decide +kernel
theorem dX7_isRest_8 : decode cX7_isRest 8 = .ok (.invokestatic 38, 3) := by decide +kernel
theorem dX7_isRest_11 : decode cX7_isRest 11 = .ok (.ireturn, 1) := by decide +kernel
set_option maxRecDepth 20000 in
theorem ggX7_rest_X7_isRest : GoodIn wsX7_rest wsX7_isRest := goodIn_r _ [7, 8, 9, 10, 6, 11, 12, 13, 14, 15, 16, 17, 18, 19, 20, 21, 22, 23, 24, 25, 26, 27] (by decide +kernel) (by decide +kernel)
set_option maxRecDepth 20000 in
theorem gX7_rest_X7_isRest : GoodIn wsX7_rest (wsV RX7 84 RX7 yX7_isRest wsX7_isRest) := goodIn_app (goodIn_of _ (by decide +kernel)) ggX7_rest_X7_isRest
set_option maxRecDepth 20000 in
theorem ggX7_rest_X7_in : GoodIn wsX7_rest wsX7_in := goodIn_r _ [11] (by decide +kernel) (by decide +kernel)
set_option maxRecDepth 20000 in
theorem gX7_rest_X7_in : GoodIn wsX7_rest (va_wsS RX7 38 yX7_in wsX7_in) := goodIn_app (goodIn_of _ (by decide +kernel)) ggX7_rest_X7_in
theorem dX7_rest_0 : decode cX7_rest 0 = .ok (.aload_n 0, 1) := by decide +kernel
theorem dX7_rest_1 : decode cX7_rest 1 = .ok (.iload_n 1, 1) := by decide +kernel
theorem dX7_rest_2 : decode cX7_rest 2 = .ok (.invokevirtual 84, 3) := by decide +kernel
theorem dX7_rest_5 : decode cX7_rest 5 = .ok (.ifCond .ne 6, 3) := by decide +kernel
theorem dX7_rest_8 : decode cX7_rest 8 = .ok (.bipush (-101), 2) := by decide +kernel
theorem dX7_rest_10 : decode cX7_rest 10 = .ok (.ireturn, 1) := by decide +kernel
theorem dX7_rest_11 : decode cX7_rest 11 = .ok (.iload_n 2, 1) := by decide +kernel
theorem dX7_rest_12 : decode cX7_rest 12 = .ok (.iconst 2, 1) := by decide +kernel
theorem dX7_rest_13 : decode cX7_rest 13 = .ok (.bipush 60, 2) := by decide +kernel
theorem dX7_rest_15 : decode cX7_rest 15 = .ok (.invokestatic 38, 3) := by decide +kernel
theorem dX7_rest_18 : decode cX7_rest 18 = .ok (.ifCond .ne 6, 3) := by decide +kernel
theorem dX7_rest_21 : decode cX7_rest 21 = .ok (.bipush (-102), 2) := by decide +kernel
theorem dX7_rest_23 : decode cX7_rest 23 = .ok (.ireturn, 1) := by decide +kernel
theorem dX7_rest_24 : decode cX7_rest 24 = .ok (.aload_n 0, 1) := by decide +kernel
theorem dX7_rest_25 : decode cX7_rest 25 = .ok (.getfield 26, 3) := by decide +kernel
theorem dX7_rest_28 : decode cX7_rest 28 = .ok (.iload_n 1, 1) := by decide +kernel
theorem dX7_rest_29 : decode cX7_rest 29 = .ok (.iaload, 1) := by decide +kernel
theorem dX7_rest_30 : decode cX7_rest 30 = .ok (.istore_n 3, 1) := by decide +kernel
theorem dX7_rest_31 : decode cX7_rest 31 = .ok (.aload_n 0, 1) := by decide +kernel
theorem dX7_rest_32 : decode cX7_rest 32 = .ok (.getfield 26, 3) := by decide +kernel
theorem dX7_rest_35 : decode cX7_rest 35 = .ok (.iload_n 1, 1) := by decide +kernel
theorem dX7_rest_36 : decode cX7_rest 36 = .ok (.iload_n 2, 1) := by decide +kernel
theorem dX7_rest_37 : decode cX7_rest 37 = .ok (.iastore, 1) := by decide +kernel
theorem dX7_rest_38 : decode cX7_rest 38 = .ok (.aload_n 0, 1) := by decide +kernel
theorem dX7_rest_39 : decode cX7_rest 39 = .ok (.getfield 29, 3) := by decide +kernel
theorem dX7_rest_42 : decode cX7_rest 42 = .ok (.iload_n 1, 1) := by decide +kernel
theorem dX7_rest_43 : decode cX7_rest 43 = .ok (.iconst (-1), 1) := by decide +kernel
theorem dX7_rest_44 : decode cX7_rest 44 = .ok (.iastore, 1) := by decide +kernel
theorem dX7_rest_45 : decode cX7_rest 45 = .ok (.iload_n 3, 1) := by decide +kernel
theorem dX7_rest_46 : decode cX7_rest 46 = .ok (.ireturn, 1) := by decide +kernel
set_option maxRecDepth 20000 in
theorem ggX7_read_X7_isRest : GoodIn wsX7_read wsX7_isRest := goodIn_r _ [7, 8, 9, 10, 6, 11, 12, 13, 14, 15, 16, 17, 18, 19, 20, 21, 22, 23, 24, 25, 26, 27] (by decide +kernel) (by decide +kernel)
set_option maxRecDepth 20000 in
theorem gX7_read_X7_isRest : GoodIn wsX7_read (wsV RX7 84 RX7 yX7_isRest wsX7_isRest) := goodIn_app (goodIn_of _ (by decide +kernel)) ggX7_read_X7_isRest
set_option maxRecDepth 20000 in
theorem ggX7_read_X7_in : GoodIn wsX7_read wsX7_in := goodIn_r _ [11] (by decide +kernel) (by decide +kernel)
set_option maxRecDepth 20000 in
theorem gX7_read_X7_in : GoodIn wsX7_read (va_wsS RX7 38 yX7_in wsX7_in) := goodIn_app (goodIn_of _ (by decide +kernel)) ggX7_read_X7_in
theorem dX7_read_0 : decode cX7_read 0 = .ok (.aload_n 0, 1) := by decide +kernel
theorem dX7_read_1 : decode cX7_read 1 = .ok (.iload_n 1, 1) := by decide +kernel
theorem dX7_read_2 : decode cX7_read 2 = .ok (.invokevirtual 84, 3) := by decide +kernel
theorem dX7_read_5 : decode cX7_read 5 = .ok (.ifCond .ne 6, 3) := by decide +kernel
theorem dX7_read_8 : decode cX7_read 8 = .ok (.bipush (-101), 2) := by decide +kernel
theorem dX7_read_10 : decode cX7_read 10 = .ok (.ireturn, 1) := by decide +kernel
theorem dX7_read_11 : decode cX7_read 11 = .ok (.iload_n 2, 1) := by decide +kernel
theorem dX7_read_12 : decode cX7_read 12 = .ok (.iconst (-1), 1) := by decide +kernel
theorem dX7_read_13 : decode cX7_read 13 = .ok (.aload_n 0, 1) := by decide +kernel
theorem dX7_read_14 : decode cX7_read 14 = .ok (.getfield 26, 3) := by decide +kernel
theorem dX7_read_17 : decode cX7_read 17 = .ok (.iload_n 1, 1) := by decide +kernel
theorem dX7_read_18 : decode cX7_read 18 = .ok (.iaload, 1) := by decide +kernel
theorem dX7_read_19 : decode cX7_read 19 = .ok (.iconst 1, 1) := by decide +kernel
theorem dX7_read_20 : decode cX7_read 20 = .ok (.isub, 1) := by decide +kernel
theorem dX7_read_21 : decode cX7_read 21 = .ok (.invokestatic 38, 3) := by decide +kernel
theorem dX7_read_24 : decode cX7_read 24 = .ok (.ifCond .ne 6, 3) := by decide +kernel
theorem dX7_read_27 : decode cX7_read 27 = .ok (.bipush (-102), 2) := by decide +kernel
theorem dX7_read_29 : decode cX7_read 29 = .ok (.ireturn, 1) := by decide +kernel
theorem dX7_read_30 : decode cX7_read 30 = .ok (.aload_n 0, 1) := by decide +kernel
theorem dX7_read_31 : decode cX7_read 31 = .ok (.getfield 29, 3) := by decide +kernel
theorem dX7_read_34 : decode cX7_read 34 = .ok (.iload_n 1, 1) := by decide +kernel
theorem dX7_read_35 : decode cX7_read 35 = .ok (.iaload, 1) := by decide +kernel
theorem dX7_read_36 : decode cX7_read 36 = .ok (.istore_n 3, 1) := by decide +kernel
theorem dX7_read_37 : decode cX7_read 37 = .ok (.aload_n 0, 1) := by decide +kernel
theorem dX7_read_38 : decode cX7_read 38 = .ok (.getfield 29, 3) := by decide +kernel
theorem dX7_read_41 : decode cX7_read 41 = .ok (.iload_n 1, 1) := by decide +kernel
theorem dX7_read_42 : decode cX7_read 42 = .ok (.iload_n 2, 1) := by decide +kernel
theorem dX7_read_43 : decode cX7_read 43 = .ok (.iastore, 1) := by decide +kernel
theorem dX7_read_44 : decode cX7_read 44 = .ok (.iload_n 3, 1) := by decide +kernel
theorem dX7_read_45 : decode cX7_read 45 = .ok (.ireturn, 1) := by decide +kernel
set_option maxRecDepth 20000 in
theorem ggX7_fold_X7_in : GoodIn wsX7_fold wsX7_in := goodIn_r _ [8] (by decide +kernel) (by decide +kernel)
set_option maxRecDepth 20000 in
theorem gX7_fold_X7_in : GoodIn wsX7_fold (va_wsS RX7 38 yX7_in wsX7_in) := goodIn_app (goodIn_of _ (by decide +kernel)) ggX7_fold_X7_in
theorem dX7_fold_0 : decode cX7_fold 0 = .ok (.iload_n 1, 1) := by decide +kernel
theorem dX7_fold_1 : decode cX7_fold 1 = .ok (.iconst 0, 1) := by decide +kernel
theorem dX7_fold_2 : decode cX7_fold 2 = .ok (.ldc 83, 2) := by decide +kernel
theorem dX7_fold_4 : decode cX7_fold 4 = .ok (.invokestatic 38, 3) := by decide +kernel
theorem dX7_fold_7 : decode cX7_fold 7 = .ok (.ifCond .ne 6, 3) := by decide +kernel
theorem dX7_fold_10 : decode cX7_fold 10 = .ok (.bipush (-102), 2) := by decide +kernel
theorem dX7_fold_12 : decode cX7_fold 12 = .ok (.ireturn, 1) := by decide +kernel
theorem dX7_fold_13 : decode cX7_fold 13 = .ok (.iconst 0, 1) := by decide +kernel
theorem dX7_fold_14 : decode cX7_fold 14 = .ok (.istore_n 2, 1) := by decide +kernel
theorem dX7_fold_15 : decode cX7_fold 15 = .ok (.iload_n 2, 1) := by decide +kernel
theorem dX7_fold_16 : decode cX7_fold 16 = .ok (.aload_n 0, 1) := by decide +kernel
theorem dX7_fold_17 : decode cX7_fold 17 = .ok (.getfield 23, 3) := by decide +kernel
theorem dX7_fold_20 : decode cX7_fold 20 = .ok (.if_icmp .ge 23, 3) := by decide +kernel
theorem dX7_fold_23 : decode cX7_fold 23 = .ok (.aload_n 0, 1) := by decide +kernel
theorem dX7_fold_24 : decode cX7_fold 24 = .ok (.getfield 29, 3) := by decide +kernel
theorem dX7_fold_27 : decode cX7_fold 27 = .ok (.iload_n 2, 1) := by decide +kernel
theorem dX7_fold_28 : decode cX7_fold 28 = .ok (.iload_n 1, 1) := by decide +kernel
theorem dX7_fold_29 : decode cX7_fold 29 = .ok (.aload_n 0, 1) := by decide +kernel
theorem dX7_fold_30 : decode cX7_fold 30 = .ok (.getfield 26, 3) := by decide +kernel
theorem dX7_fold_33 : decode cX7_fold 33 = .ok (.iload_n 2, 1) := by decide +kernel
theorem dX7_fold_34 : decode cX7_fold 34 = .ok (.iaload, 1) := by decide +kernel
theorem dX7_fold_35 : decode cX7_fold 35 = .ok (.irem, 1) := by decide +kernel
theorem dX7_fold_36 : decode cX7_fold 36 = .ok (.iastore, 1) := by decide +kernel
theorem dX7_fold_37 : decode cX7_fold 37 = .ok (.iinc 2 1, 3) := by decide +kernel
theorem dX7_fold_40 : decode cX7_fold 40 = .ok (.goto (-25), 3) := by decide +kernel
theorem dX7_fold_43 : decode cX7_fold 43 = .ok (.aload_n 0, 1) := by decide +kernel
theorem dX7_fold_44 : decode cX7_fold 44 = .ok (.getfield 23, 3) := by decide +kernel
theorem dX7_fold_47 : decode cX7_fold 47 = .ok (.ireturn, 1) := by decide +kernel
theorem dX7_fits_0 : decode cX7_fits 0 = .ok (.iconst 0, 1) := by decide +kernel
theorem dX7_fits_1 : decode cX7_fits 1 = .ok (.istore 4, 2) := by decide +kernel
theorem dX7_fits_3 : decode cX7_fits 3 = .ok (.iconst 0, 1) := by decide +kernel
theorem dX7_fits_4 : decode cX7_fits 4 = .ok (.istore 5, 2) := by decide +kernel
theorem dX7_fits_6 : decode cX7_fits 6 = .ok (.iload 5, 2) := by decide +kernel
theorem dX7_fits_8 : decode cX7_fits 8 = .ok (.aload_n 0, 1) := by decide +kernel
theorem dX7_fits_9 : decode cX7_fits 9 = .ok (.getfield 23, 3) := by decide +kernel
theorem dX7_fits_12 : decode cX7_fits 12 = .ok (.if_icmp .ge 84, 3) := by decide +kernel
theorem dX7_fits_15 : decode cX7_fits 15 = .ok (.aload_n 0, 1) := by decide +kernel
theorem dX7_fits_16 : decode cX7_fits 16 = .ok (.getfield 29, 3) := by decide +kernel
theorem dX7_fits_19 : decode cX7_fits 19 = .ok (.iload 5, 2) := by decide +kernel
theorem dX7_fits_21 : decode cX7_fits 21 = .ok (.iaload, 1) := by decide +kernel
theorem dX7_fits_22 : decode cX7_fits 22 = .ok (.iconst (-1), 1) := by decide +kernel
theorem dX7_fits_23 : decode cX7_fits 23 = .ok (.if_icmp .eq 67, 3) := by decide +kernel
theorem dX7_fits_26 : decode cX7_fits 26 = .ok (.iload_n 1, 1) := by decide +kernel
theorem dX7_fits_27 : decode cX7_fits 27 = .ok (.aload_n 0, 1) := by decide +kernel
theorem dX7_fits_28 : decode cX7_fits 28 = .ok (.getfield 26, 3) := by decide +kernel
theorem dX7_fits_31 : decode cX7_fits 31 = .ok (.iload 5, 2) := by decide +kernel
theorem dX7_fits_33 : decode cX7_fits 33 = .ok (.iaload, 1) := by decide +kernel
theorem dX7_fits_34 : decode cX7_fits 34 = .ok (.irem, 1) := by decide +kernel
theorem dX7_fits_35 : decode cX7_fits 35 = .ok (.aload_n 0, 1) := by decide +kernel
theorem dX7_fits_36 : decode cX7_fits 36 = .ok (.getfield 29, 3) := by decide +kernel
theorem dX7_fits_39 : decode cX7_fits 39 = .ok (.iload 5, 2) := by decide +kernel
theorem dX7_fits_41 : decode cX7_fits 41 = .ok (.iaload, 1) := by decide +kernel
theorem dX7_fits_42 : decode cX7_fits 42 = .ok (.isub, 1) := by decide +kernel
theorem dX7_fits_43 : decode cX7_fits 43 = .ok (.istore 6, 2) := by decide +kernel
theorem dX7_fits_45 : decode cX7_fits 45 = .ok (.iload 6, 2) := by decide +kernel
theorem dX7_fits_47 : decode cX7_fits 47 = .ok (.ifCond .ge 9, 3) := by decide +kernel
theorem dX7_fits_50 : decode cX7_fits 50 = .ok (.iload 6, 2) := by decide +kernel
theorem dX7_fits_52 : decode cX7_fits 52 = .ok (.ineg, 1) := by decide +kernel
theorem dX7_fits_53 : decode cX7_fits 53 = .ok (.goto 5, 3) := by decide +kernel
theorem dX7_fits_56 : decode cX7_fits 56 = .ok (.iload 6, 2) := by decide +kernel
theorem dX7_fits_58 : decode cX7_fits 58 = .ok (.istore 6, 2) := by decide +kernel
theorem dX7_fits_60 : decode cX7_fits 60 = .ok (.iload 4, 2) := by decide +kernel
theorem dX7_fits_62 : decode cX7_fits 62 = .ok (.iload 6, 2) := by decide +kernel
theorem dX7_fits_64 : decode cX7_fits 64 = .ok (.iload_n 2, 1) := by decide +kernel
theorem dX7_fits_65 : decode cX7_fits 65 = .ok (.if_icmp .le 17, 3) := by decide +kernel
theorem dX7_fits_68 : decode cX7_fits 68 = .ok (.aload_n 0, 1) := by decide +kernel
theorem dX7_fits_69 : decode cX7_fits 69 = .ok (.getfield 26, 3) := by decide +kernel
theorem dX7_fits_72 : decode cX7_fits 72 = .ok (.iload 5, 2) := by decide +kernel
theorem dX7_fits_74 : decode cX7_fits 74 = .ok (.iaload, 1) := by decide +kernel
theorem dX7_fits_75 : decode cX7_fits 75 = .ok (.iload 6, 2) := by decide +kernel
theorem dX7_fits_77 : decode cX7_fits 77 = .ok (.isub, 1) := by decide +kernel
theorem dX7_fits_78 : decode cX7_fits 78 = .ok (.iload_n 2, 1) := by decide +kernel
theorem dX7_fits_79 : decode cX7_fits 79 = .ok (.if_icmp .gt 7, 3) := by decide +kernel
theorem dX7_fits_82 : decode cX7_fits 82 = .ok (.iconst 1, 1) := by decide +kernel
theorem dX7_fits_83 : decode cX7_fits 83 = .ok (.goto 4, 3) := by decide +kernel
theorem dX7_fits_86 : decode cX7_fits 86 = .ok (.iconst 0, 1) := by decide +kernel
theorem dX7_fits_87 : decode cX7_fits 87 = .ok (.iadd, 1) := by decide +kernel
theorem dX7_fits_88 : decode cX7_fits 88 = .ok (.istore 4, 2) := by decide +kernel
theorem dX7_fits_90 : decode cX7_fits 90 = .ok (.iinc 5 1, 3) := by decide +kernel
theorem dX7_fits_93 : decode cX7_fits 93 = .ok (.goto (-87), 3) := by decide +kernel
theorem dX7_fits_96 : decode cX7_fits 96 = .ok (.iload 4, 2) := by decide +kernel
theorem dX7_fits_98 : decode cX7_fits 98 = .ok (.iload_n 3, 1) := by decide +kernel
theorem dX7_fits_99 : decode cX7_fits 99 = .ok (.if_icmp .lt 7, 3) := by decide +kernel
theorem dX7_fits_102 : decode cX7_fits 102 = .ok (.iconst 1, 1) := by decide +kernel
theorem dX7_fits_103 : decode cX7_fits 103 = .ok (.goto 4, 3) := by decide +kernel
theorem dX7_fits_106 : decode cX7_fits 106 = .ok (.iconst 0, 1) := by decide +kernel
theorem dX7_fits_107 : decode cX7_fits 107 = .ok (.ireturn, 1) := by decide +kernel
set_option maxRecDepth 20000 in
theorem ggX7_isAsked_X7_in : GoodIn wsX7_isAsked wsX7_in := goodIn_r _ [4] (by decide +kernel) (by decide +kernel)
set_option maxRecDepth 20000 in
theorem gX7_isAsked_X7_in : GoodIn wsX7_isAsked (va_wsS RX7 38 yX7_in wsX7_in) := goodIn_app (goodIn_of _ (by decide +kernel)) ggX7_isAsked_X7_in
theorem dX7_isAsked_0 : decode cX7_isAsked 0 = .ok (.iload_n 0, 1) := by decide +kernel
theorem dX7_isAsked_1 : decode cX7_isAsked 1 = .ok (.iconst 0, 1) := by decide +kernel
theorem dX7_isAsked_2 : decode cX7_isAsked 2 = .ok (.iconst 5, 1) := by decide +kernel
theorem dX7_isAsked_3 : decode cX7_isAsked 3 = .ok (.invokestatic 38, 3) := by decide +kernel
theorem dX7_isAsked_6 : decode cX7_isAsked 6 = .ok (.ifCond .eq 27, 3) := by decide +kernel
theorem dX7_isAsked_9 : decode cX7_isAsked 9 = .ok (.iload_n 1, 1) := by decide +kernel
theorem dX7_isAsked_10 : decode cX7_isAsked 10 = .ok (.iconst 1, 1) := by decide +kernel
theorem dX7_isAsked_11 : decode cX7_isAsked 11 = .ok (.iconst 4, 1) := by decide +kernel
theorem dX7_isAsked_12 : decode cX7_isAsked 12 = .ok (.invokestatic 38, 3) := by decide +kernel
theorem dX7_isAsked_15 : decode cX7_isAsked 15 = .ok (.ifCond .eq 18, 3) := by decide +kernel
theorem dX7_isAsked_18 : decode cX7_isAsked 18 = .ok (.iload_n 2, 1) := by decide +kernel
theorem dX7_isAsked_19 : decode cX7_isAsked 19 = .ok (.iconst 1, 1) := by decide +kernel
theorem dX7_isAsked_20 : decode cX7_isAsked 20 = .ok (.sipush 5000, 3) := by decide +kernel
theorem dX7_isAsked_23 : decode cX7_isAsked 23 = .ok (.invokestatic 38, 3) := by decide +kernel
theorem dX7_isAsked_26 : decode cX7_isAsked 26 = .ok (.ifCond .eq 7, 3) := by decide +kernel
theorem dX7_isAsked_29 : decode cX7_isAsked 29 = .ok (.iconst 1, 1) := by decide +kernel
theorem dX7_isAsked_30 : decode cX7_isAsked 30 = .ok (.goto 4, 3) := by decide +kernel
theorem dX7_isAsked_33 : decode cX7_isAsked 33 = .ok (.iconst 0, 1) := by decide +kernel
theorem dX7_isAsked_34 : decode cX7_isAsked 34 = .ok (.ireturn, 1) := by decide +kernel
set_option maxRecDepth 20000 in
theorem ggX7_unfold_X7_isAsked : GoodIn wsX7_unfold wsX7_isAsked := goodIn_r _ [4, 5, 6, 3, 7] (by decide +kernel) (by decide +kernel)
set_option maxRecDepth 20000 in
theorem gX7_unfold_X7_isAsked : GoodIn wsX7_unfold (va_wsS RX7 87 yX7_isAsked wsX7_isAsked) := goodIn_app (goodIn_of _ (by decide +kernel)) ggX7_unfold_X7_isAsked
set_option maxRecDepth 20000 in
theorem ggX7_unfold_X7_fits : GoodIn wsX7_unfold wsX7_fits := goodIn_r _ [11, 12, 13, 14, 15, 16, 17, 18, 19, 20, 21, 22, 23, 24, 25, 26, 27, 28, 29, 30] (by decide +kernel) (by decide +kernel)
set_option maxRecDepth 20000 in
theorem gX7_unfold_X7_fits : GoodIn wsX7_unfold (wsV RX7 90 RX7 yX7_fits wsX7_fits) := goodIn_app (goodIn_of _ (by decide +kernel)) ggX7_unfold_X7_fits
theorem dX7_unfold_0 : decode cX7_unfold 0 = .ok (.iload_n 1, 1) := by decide +kernel
theorem dX7_unfold_1 : decode cX7_unfold 1 = .ok (.iload_n 2, 1) := by decide +kernel
theorem dX7_unfold_2 : decode cX7_unfold 2 = .ok (.iload_n 3, 1) := by decide +kernel
theorem dX7_unfold_3 : decode cX7_unfold 3 = .ok (.invokestatic 87, 3) := by decide +kernel
theorem dX7_unfold_6 : decode cX7_unfold 6 = .ok (.ifCond .ne 6, 3) := by decide +kernel
theorem dX7_unfold_9 : decode cX7_unfold 9 = .ok (.bipush (-102), 2) := by decide +kernel
theorem dX7_unfold_11 : decode cX7_unfold 11 = .ok (.ireturn, 1) := by decide +kernel
theorem dX7_unfold_12 : decode cX7_unfold 12 = .ok (.iconst 0, 1) := by decide +kernel
theorem dX7_unfold_13 : decode cX7_unfold 13 = .ok (.istore 4, 2) := by decide +kernel
theorem dX7_unfold_15 : decode cX7_unfold 15 = .ok (.iconst 0, 1) := by decide +kernel
theorem dX7_unfold_16 : decode cX7_unfold 16 = .ok (.istore 5, 2) := by decide +kernel
theorem dX7_unfold_18 : decode cX7_unfold 18 = .ok (.iload 5, 2) := by decide +kernel
theorem dX7_unfold_20 : decode cX7_unfold 20 = .ok (.iload_n 3, 1) := by decide +kernel
theorem dX7_unfold_21 : decode cX7_unfold 21 = .ok (.if_icmp .ge 30, 3) := by decide +kernel
theorem dX7_unfold_24 : decode cX7_unfold 24 = .ok (.iload 4, 2) := by decide +kernel
theorem dX7_unfold_26 : decode cX7_unfold 26 = .ok (.aload_n 0, 1) := by decide +kernel
theorem dX7_unfold_27 : decode cX7_unfold 27 = .ok (.iload 5, 2) := by decide +kernel
theorem dX7_unfold_29 : decode cX7_unfold 29 = .ok (.iload_n 1, 1) := by decide +kernel
theorem dX7_unfold_30 : decode cX7_unfold 30 = .ok (.iload_n 2, 1) := by decide +kernel
theorem dX7_unfold_31 : decode cX7_unfold 31 = .ok (.invokevirtual 90, 3) := by decide +kernel
theorem dX7_unfold_34 : decode cX7_unfold 34 = .ok (.ifCond .eq 7, 3) := by decide +kernel
theorem dX7_unfold_37 : decode cX7_unfold 37 = .ok (.iconst 1, 1) := by decide +kernel
theorem dX7_unfold_38 : decode cX7_unfold 38 = .ok (.goto 4, 3) := by decide +kernel
theorem dX7_unfold_41 : decode cX7_unfold 41 = .ok (.iconst 0, 1) := by decide +kernel
theorem dX7_unfold_42 : decode cX7_unfold 42 = .ok (.iadd, 1) := by decide +kernel
theorem dX7_unfold_43 : decode cX7_unfold 43 = .ok (.istore 4, 2) := by decide +kernel
theorem dX7_unfold_45 : decode cX7_unfold 45 = .ok (.iinc 5 1, 3) := by decide +kernel
theorem dX7_unfold_48 : decode cX7_unfold 48 = .ok (.goto (-30), 3) := by decide +kernel
theorem dX7_unfold_51 : decode cX7_unfold 51 = .ok (.iload 4, 2) := by decide +kernel
theorem dX7_unfold_53 : decode cX7_unfold 53 = .ok (.ireturn, 1) := by decide +kernel
set_option maxRecDepth 20000 in
theorem ggX7_unfolded_X7_isAsked : GoodIn wsX7_unfolded wsX7_isAsked := goodIn_r _ [4, 5, 6, 3, 7] (by decide +kernel) (by decide +kernel)
set_option maxRecDepth 20000 in
theorem gX7_unfolded_X7_isAsked : GoodIn wsX7_unfolded (va_wsS RX7 87 yX7_isAsked wsX7_isAsked) := goodIn_app (goodIn_of _ (by decide +kernel)) ggX7_unfolded_X7_isAsked
set_option maxRecDepth 20000 in
theorem ggX7_unfolded_X7_fits : GoodIn wsX7_unfolded wsX7_fits := goodIn_r _ [11, 12, 13, 14, 15, 16, 17, 18, 19, 20, 21, 22, 23, 24, 25, 26, 27, 28, 29, 30] (by decide +kernel) (by decide +kernel)
set_option maxRecDepth 20000 in
theorem gX7_unfolded_X7_fits : GoodIn wsX7_unfolded (wsV RX7 90 RX7 yX7_fits wsX7_fits) := goodIn_app (goodIn_of _ (by decide +kernel)) ggX7_unfolded_X7_fits
theorem dX7_unfolded_0 : decode cX7_unfolded 0 = .ok (.iload_n 1, 1) := by decide +kernel
theorem dX7_unfolded_1 : decode cX7_unfolded 1 = .ok (.iload_n 2, 1) := by decide +kernel
theorem dX7_unfolded_2 : decode cX7_unfolded 2 = .ok (.iload_n 3, 1) := by decide +kernel
theorem dX7_unfolded_3 : decode cX7_unfolded 3 = .ok (.invokestatic 87, 3) := by decide +kernel
theorem dX7_unfolded_6 : decode cX7_unfolded 6 = .ok (.ifCond .ne 6, 3) := by decide +kernel
theorem dX7_unfolded_9 : decode cX7_unfolded 9 = .ok (.bipush (-102), 2) := by decide +kernel
theorem dX7_unfolded_11 : decode cX7_unfolded 11 = .ok (.ireturn, 1) := by decide +kernel
theorem dX7_unfolded_12 : decode cX7_unfolded 12 = .ok (.iconst 0, 1) := by decide +kernel
theorem dX7_unfolded_13 : decode cX7_unfolded 13 = .ok (.istore 5, 2) := by decide +kernel
theorem dX7_unfolded_15 : decode cX7_unfolded 15 = .ok (.iconst 0, 1) := by decide +kernel
theorem dX7_unfolded_16 : decode cX7_unfolded 16 = .ok (.istore 6, 2) := by decide +kernel
theorem dX7_unfolded_18 : decode cX7_unfolded 18 = .ok (.iload 6, 2) := by decide +kernel
theorem dX7_unfolded_20 : decode cX7_unfolded 20 = .ok (.iload_n 3, 1) := by decide +kernel
theorem dX7_unfolded_21 : decode cX7_unfolded 21 = .ok (.if_icmp .ge 33, 3) := by decide +kernel
theorem dX7_unfolded_24 : decode cX7_unfolded 24 = .ok (.aload_n 0, 1) := by decide +kernel
theorem dX7_unfolded_25 : decode cX7_unfolded 25 = .ok (.iload 6, 2) := by decide +kernel
theorem dX7_unfolded_27 : decode cX7_unfolded 27 = .ok (.iload_n 1, 1) := by decide +kernel
theorem dX7_unfolded_28 : decode cX7_unfolded 28 = .ok (.iload_n 2, 1) := by decide +kernel
theorem dX7_unfolded_29 : decode cX7_unfolded 29 = .ok (.invokevirtual 90, 3) := by decide +kernel
theorem dX7_unfolded_32 : decode cX7_unfolded 32 = .ok (.ifCond .eq 16, 3) := by decide +kernel
theorem dX7_unfolded_35 : decode cX7_unfolded 35 = .ok (.iload 5, 2) := by decide +kernel
theorem dX7_unfolded_37 : decode cX7_unfolded 37 = .ok (.iload 4, 2) := by decide +kernel
theorem dX7_unfolded_39 : decode cX7_unfolded 39 = .ok (.if_icmp .ne 6, 3) := by decide +kernel
theorem dX7_unfolded_42 : decode cX7_unfolded 42 = .ok (.iload 6, 2) := by decide +kernel
theorem dX7_unfolded_44 : decode cX7_unfolded 44 = .ok (.ireturn, 1) := by decide +kernel
theorem dX7_unfolded_45 : decode cX7_unfolded 45 = .ok (.iinc 5 1, 3) := by decide +kernel
theorem dX7_unfolded_48 : decode cX7_unfolded 48 = .ok (.iinc 6 1, 3) := by decide +kernel
theorem dX7_unfolded_51 : decode cX7_unfolded 51 = .ok (.goto (-33), 3) := by decide +kernel
theorem dX7_unfolded_54 : decode cX7_unfolded 54 = .ok (.iconst (-1), 1) := by decide +kernel
theorem dX7_unfolded_55 : decode cX7_unfolded 55 = .ok (.ireturn, 1) := by decide +kernel
theorem dX7_shared_0 : decode cX7_shared 0 = .ok (.lload_n 0, 1) := by decide +kernel
theorem dX7_shared_1 : decode cX7_shared 1 = .ok (.lstore 4, 2) := by decide +kernel
theorem dX7_shared_3 : decode cX7_shared 3 = .ok (.lload_n 2, 1) := by decide +kernel
theorem dX7_shared_4 : decode cX7_shared 4 = .ok (.lstore 6, 2) := by decide +kernel
theorem dX7_shared_6 : decode cX7_shared 6 = .ok (.lload 6, 2) := by decide +kernel
theorem dX7_shared_8 : decode cX7_shared 8 = .ok (.lconst 0, 1) := by decide +kernel
theorem dX7_shared_9 : decode cX7_shared 9 = .ok (.lcmp, 1) := by decide +kernel
theorem dX7_shared_10 : decode cX7_shared 10 = .ok (.ifCond .eq 21, 3) := by decide +kernel
theorem dX7_shared_13 : decode cX7_shared 13 = .ok (.lload 4, 2) := by decide +kernel
theorem dX7_shared_15 : decode cX7_shared 15 = .ok (.lload 6, 2) := by decide +kernel
theorem dX7_shared_17 : decode cX7_shared 17 = .ok (.lrem, 1) := by decide +kernel
theorem dX7_shared_18 : decode cX7_shared 18 = .ok (.lstore 8, 2) := by decide +kernel
theorem dX7_shared_20 : decode cX7_shared 20 = .ok (.lload 6, 2) := by decide +kernel
theorem dX7_shared_22 : decode cX7_shared 22 = .ok (.lstore 4, 2) := by decide +kernel
theorem dX7_shared_24 : decode cX7_shared 24 = .ok (.lload 8, 2) := by decide +kernel
theorem dX7_shared_26 : decode cX7_shared 26 = .ok (.lstore 6, 2) := by decide +kernel
theorem dX7_shared_28 : decode cX7_shared 28 = .ok (.goto (-22), 3) := by decide +kernel
theorem dX7_shared_31 : decode cX7_shared 31 = .ok (.lload 4, 2) := by decide +kernel
theorem dX7_shared_33 : decode cX7_shared 33 = .ok (.lreturn, 1) := by decide +kernel
set_option maxRecDepth 20000 in
theorem ggX7_common_X7_shared : GoodIn wsX7_common wsX7_shared := goodIn_r _ [6] (by decide +kernel) (by decide +kernel)
set_option maxRecDepth 20000 in
theorem gX7_common_X7_shared : GoodIn wsX7_common (va_wsS RX7 93 yX7_shared wsX7_shared) := goodIn_app (goodIn_of _ (by decide +kernel)) ggX7_common_X7_shared
theorem dX7_common_0 : decode cX7_common 0 = .ok (.lconst 1, 1) := by decide +kernel
theorem dX7_common_1 : decode cX7_common 1 = .ok (.lstore_n 1, 1) := by decide +kernel
theorem dX7_common_2 : decode cX7_common 2 = .ok (.iconst 0, 1) := by decide +kernel
theorem dX7_common_3 : decode cX7_common 3 = .ok (.istore_n 3, 1) := by decide +kernel
theorem dX7_common_4 : decode cX7_common 4 = .ok (.iload_n 3, 1) := by decide +kernel
theorem dX7_common_5 : decode cX7_common 5 = .ok (.aload_n 0, 1) := by decide +kernel
theorem dX7_common_6 : decode cX7_common 6 = .ok (.getfield 23, 3) := by decide +kernel
theorem dX7_common_9 : decode cX7_common 9 = .ok (.if_icmp .ge 31, 3) := by decide +kernel
theorem dX7_common_12 : decode cX7_common 12 = .ok (.lload_n 1, 1) := by decide +kernel
theorem dX7_common_13 : decode cX7_common 13 = .ok (.lload_n 1, 1) := by decide +kernel
theorem dX7_common_14 : decode cX7_common 14 = .ok (.aload_n 0, 1) := by decide +kernel
theorem dX7_common_15 : decode cX7_common 15 = .ok (.getfield 26, 3) := by decide +kernel
theorem dX7_common_18 : decode cX7_common 18 = .ok (.iload_n 3, 1) := by decide +kernel
theorem dX7_common_19 : decode cX7_common 19 = .ok (.iaload, 1) := by decide +kernel
theorem dX7_common_20 : decode cX7_common 20 = .ok (.i2l, 1) := by decide +kernel
theorem dX7_common_21 : decode cX7_common 21 = .ok (.invokestatic 93, 3) := by decide +kernel
theorem dX7_common_24 : decode cX7_common 24 = .ok (.ldiv, 1) := by decide +kernel
theorem dX7_common_25 : decode cX7_common 25 = .ok (.aload_n 0, 1) := by decide +kernel
theorem dX7_common_26 : decode cX7_common 26 = .ok (.getfield 26, 3) := by decide +kernel
theorem dX7_common_29 : decode cX7_common 29 = .ok (.iload_n 3, 1) := by decide +kernel
theorem dX7_common_30 : decode cX7_common 30 = .ok (.iaload, 1) := by decide +kernel
theorem dX7_common_31 : decode cX7_common 31 = .ok (.i2l, 1) := by decide +kernel
theorem dX7_common_32 : decode cX7_common 32 = .ok (.lmul, 1) := by decide +kernel
theorem dX7_common_33 : decode cX7_common 33 = .ok (.lstore_n 1, 1) := by decide +kernel
theorem dX7_common_34 : decode cX7_common 34 = .ok (.iinc 3 1, 3) := by decide +kernel
theorem dX7_common_37 : decode cX7_common 37 = .ok (.goto (-33), 3) := by decide +kernel
theorem dX7_common_40 : decode cX7_common 40 = .ok (.lload_n 1, 1) := by decide +kernel
theorem dX7_common_41 : decode cX7_common 41 = .ok (.l2i, 1) := by decide +kernel
theorem dX7_common_42 : decode cX7_common 42 = .ok (.ireturn, 1) := by decide +kernel
set_option maxRecDepth 20000 in
theorem ggX7_blind_X7_isRest : GoodIn wsX7_blind wsX7_isRest := goodIn_r _ [7, 1, 8, 9, 6, 10, 11, 12, 13, 14, 15, 16, 17, 18, 19, 20, 21, 22, 23, 24, 25, 26] (by decide +kernel) (by decide +kernel)
set_option maxRecDepth 20000 in
theorem gX7_blind_X7_isRest : GoodIn wsX7_blind (wsV RX7 84 RX7 yX7_isRest wsX7_isRest) := goodIn_app (goodIn_of _ (by decide +kernel)) ggX7_blind_X7_isRest
set_option maxRecDepth 20000 in
theorem ggX7_blind_X7_in : GoodIn wsX7_blind wsX7_in := goodIn_r _ [10] (by decide +kernel) (by decide +kernel)
set_option maxRecDepth 20000 in
theorem gX7_blind_X7_in : GoodIn wsX7_blind (va_wsS RX7 38 yX7_in wsX7_in) := goodIn_app (goodIn_of _ (by decide +kernel)) ggX7_blind_X7_in
theorem dX7_blind_0 : decode cX7_blind 0 = .ok (.iload_n 1, 1) := by decide +kernel
theorem dX7_blind_1 : decode cX7_blind 1 = .ok (.iconst (-1), 1) := by decide +kernel
theorem dX7_blind_2 : decode cX7_blind 2 = .ok (.if_icmp .eq 14, 3) := by decide +kernel
theorem dX7_blind_5 : decode cX7_blind 5 = .ok (.aload_n 0, 1) := by decide +kernel
theorem dX7_blind_6 : decode cX7_blind 6 = .ok (.iload_n 1, 1) := by decide +kernel
theorem dX7_blind_7 : decode cX7_blind 7 = .ok (.invokevirtual 84, 3) := by decide +kernel
theorem dX7_blind_10 : decode cX7_blind 10 = .ok (.ifCond .ne 6, 3) := by decide +kernel
theorem dX7_blind_13 : decode cX7_blind 13 = .ok (.bipush (-101), 2) := by decide +kernel
theorem dX7_blind_15 : decode cX7_blind 15 = .ok (.ireturn, 1) := by decide +kernel
theorem dX7_blind_16 : decode cX7_blind 16 = .ok (.iload_n 2, 1) := by decide +kernel
theorem dX7_blind_17 : decode cX7_blind 17 = .ok (.iconst 1, 1) := by decide +kernel
theorem dX7_blind_18 : decode cX7_blind 18 = .ok (.sipush 3600, 3) := by decide +kernel
theorem dX7_blind_21 : decode cX7_blind 21 = .ok (.invokestatic 38, 3) := by decide +kernel
theorem dX7_blind_24 : decode cX7_blind 24 = .ok (.ifCond .ne 6, 3) := by decide +kernel
theorem dX7_blind_27 : decode cX7_blind 27 = .ok (.bipush (-102), 2) := by decide +kernel
theorem dX7_blind_29 : decode cX7_blind 29 = .ok (.ireturn, 1) := by decide +kernel
theorem dX7_blind_30 : decode cX7_blind 30 = .ok (.iconst 0, 1) := by decide +kernel
theorem dX7_blind_31 : decode cX7_blind 31 = .ok (.istore_n 3, 1) := by decide +kernel
theorem dX7_blind_32 : decode cX7_blind 32 = .ok (.iconst 0, 1) := by decide +kernel
theorem dX7_blind_33 : decode cX7_blind 33 = .ok (.istore 4, 2) := by decide +kernel
theorem dX7_blind_35 : decode cX7_blind 35 = .ok (.iload 4, 2) := by decide +kernel
theorem dX7_blind_37 : decode cX7_blind 37 = .ok (.iload_n 2, 1) := by decide +kernel
theorem dX7_blind_38 : decode cX7_blind 38 = .ok (.if_icmp .ge 81, 3) := by decide +kernel
theorem dX7_blind_41 : decode cX7_blind 41 = .ok (.iconst 1, 1) := by decide +kernel
theorem dX7_blind_42 : decode cX7_blind 42 = .ok (.istore 5, 2) := by decide +kernel
theorem dX7_blind_44 : decode cX7_blind 44 = .ok (.iconst 0, 1) := by decide +kernel
theorem dX7_blind_45 : decode cX7_blind 45 = .ok (.istore 6, 2) := by decide +kernel
theorem dX7_blind_47 : decode cX7_blind 47 = .ok (.iload 6, 2) := by decide +kernel
theorem dX7_blind_49 : decode cX7_blind 49 = .ok (.aload_n 0, 1) := by decide +kernel
theorem dX7_blind_50 : decode cX7_blind 50 = .ok (.getfield 23, 3) := by decide +kernel
theorem dX7_blind_53 : decode cX7_blind 53 = .ok (.if_icmp .ge 47, 3) := by decide +kernel
theorem dX7_blind_56 : decode cX7_blind 56 = .ok (.iload 5, 2) := by decide +kernel
theorem dX7_blind_58 : decode cX7_blind 58 = .ok (.ifCond .eq 33, 3) := by decide +kernel
theorem dX7_blind_61 : decode cX7_blind 61 = .ok (.iload_n 1, 1) := by decide +kernel
theorem dX7_blind_62 : decode cX7_blind 62 = .ok (.iconst (-1), 1) := by decide +kernel
theorem dX7_blind_63 : decode cX7_blind 63 = .ok (.if_icmp .eq 9, 3) := by decide +kernel
theorem dX7_blind_66 : decode cX7_blind 66 = .ok (.iload 6, 2) := by decide +kernel
theorem dX7_blind_68 : decode cX7_blind 68 = .ok (.iload_n 1, 1) := by decide +kernel
theorem dX7_blind_69 : decode cX7_blind 69 = .ok (.if_icmp .ne 18, 3) := by decide +kernel
theorem dX7_blind_72 : decode cX7_blind 72 = .ok (.iload 4, 2) := by decide +kernel
theorem dX7_blind_74 : decode cX7_blind 74 = .ok (.aload_n 0, 1) := by decide +kernel
theorem dX7_blind_75 : decode cX7_blind 75 = .ok (.getfield 26, 3) := by decide +kernel
theorem dX7_blind_78 : decode cX7_blind 78 = .ok (.iload 6, 2) := by decide +kernel
theorem dX7_blind_80 : decode cX7_blind 80 = .ok (.iaload, 1) := by decide +kernel
theorem dX7_blind_81 : decode cX7_blind 81 = .ok (.imul, 1) := by decide +kernel
theorem dX7_blind_82 : decode cX7_blind 82 = .ok (.iload_n 2, 1) := by decide +kernel
theorem dX7_blind_83 : decode cX7_blind 83 = .ok (.irem, 1) := by decide +kernel
theorem dX7_blind_84 : decode cX7_blind 84 = .ok (.ifCond .ne 7, 3) := by decide +kernel
theorem dX7_blind_87 : decode cX7_blind 87 = .ok (.iconst 1, 1) := by decide +kernel
theorem dX7_blind_88 : decode cX7_blind 88 = .ok (.goto 4, 3) := by decide +kernel
theorem dX7_blind_91 : decode cX7_blind 91 = .ok (.iconst 0, 1) := by decide +kernel
theorem dX7_blind_92 : decode cX7_blind 92 = .ok (.istore 5, 2) := by decide +kernel
theorem dX7_blind_94 : decode cX7_blind 94 = .ok (.iinc 6 1, 3) := by decide +kernel
theorem dX7_blind_97 : decode cX7_blind 97 = .ok (.goto (-50), 3) := by decide +kernel
theorem dX7_blind_100 : decode cX7_blind 100 = .ok (.iload_n 3, 1) := by decide +kernel
theorem dX7_blind_101 : decode cX7_blind 101 = .ok (.iload 5, 2) := by decide +kernel
theorem dX7_blind_103 : decode cX7_blind 103 = .ok (.ifCond .eq 7, 3) := by decide +kernel
theorem dX7_blind_106 : decode cX7_blind 106 = .ok (.iconst 1, 1) := by decide +kernel
theorem dX7_blind_107 : decode cX7_blind 107 = .ok (.goto 4, 3) := by decide +kernel
theorem dX7_blind_110 : decode cX7_blind 110 = .ok (.iconst 0, 1) := by decide +kernel
theorem dX7_blind_111 : decode cX7_blind 111 = .ok (.iadd, 1) := by decide +kernel
theorem dX7_blind_112 : decode cX7_blind 112 = .ok (.istore_n 3, 1) := by decide +kernel
theorem dX7_blind_113 : decode cX7_blind 113 = .ok (.iinc 4 1, 3) := by decide +kernel
theorem dX7_blind_116 : decode cX7_blind 116 = .ok (.goto (-81), 3) := by decide +kernel
theorem dX7_blind_119 : decode cX7_blind 119 = .ok (.iload_n 3, 1) := by decide +kernel
theorem dX7_blind_120 : decode cX7_blind 120 = .ok (.ireturn, 1) := by decide +kernel
set_option maxRecDepth 20000 in
theorem ggX7_put_X7_in : GoodIn wsX7_put wsX7_in := goodIn_r _ [6] (by decide +kernel) (by decide +kernel)
set_option maxRecDepth 20000 in
theorem gX7_put_X7_in : GoodIn wsX7_put (va_wsS RX7 38 yX7_in wsX7_in) := goodIn_app (goodIn_of _ (by decide +kernel)) ggX7_put_X7_in
theorem dX7_put_0 : decode cX7_put 0 = .ok (.iload_n 1, 1) := by decide +kernel
theorem dX7_put_1 : decode cX7_put 1 = .ok (.iconst 0, 1) := by decide +kernel
theorem dX7_put_2 : decode cX7_put 2 = .ok (.sipush 10000, 3) := by decide +kernel
theorem dX7_put_5 : decode cX7_put 5 = .ok (.invokestatic 38, 3) := by decide +kernel
theorem dX7_put_8 : decode cX7_put 8 = .ok (.ifCond .ne 6, 3) := by decide +kernel
theorem dX7_put_11 : decode cX7_put 11 = .ok (.bipush (-102), 2) := by decide +kernel
theorem dX7_put_13 : decode cX7_put 13 = .ok (.ireturn, 1) := by decide +kernel
theorem dX7_put_14 : decode cX7_put 14 = .ok (.aload_n 0, 1) := by decide +kernel
theorem dX7_put_15 : decode cX7_put 15 = .ok (.getfield 97, 3) := by decide +kernel
theorem dX7_put_18 : decode cX7_put 18 = .ok (.bipush 64, 2) := by decide +kernel
theorem dX7_put_20 : decode cX7_put 20 = .ok (.if_icmp .ne 6, 3) := by decide +kernel
theorem dX7_put_23 : decode cX7_put 23 = .ok (.bipush (-104), 2) := by decide +kernel
theorem dX7_put_25 : decode cX7_put 25 = .ok (.ireturn, 1) := by decide +kernel
theorem dX7_put_26 : decode cX7_put 26 = .ok (.aload_n 0, 1) := by decide +kernel
theorem dX7_put_27 : decode cX7_put 27 = .ok (.getfield 32, 3) := by decide +kernel
theorem dX7_put_30 : decode cX7_put 30 = .ok (.aload_n 0, 1) := by decide +kernel
theorem dX7_put_31 : decode cX7_put 31 = .ok (.getfield 97, 3) := by decide +kernel
theorem dX7_put_34 : decode cX7_put 34 = .ok (.iload_n 1, 1) := by decide +kernel
theorem dX7_put_35 : decode cX7_put 35 = .ok (.iastore, 1) := by decide +kernel
theorem dX7_put_36 : decode cX7_put 36 = .ok (.aload_n 0, 1) := by decide +kernel
theorem dX7_put_37 : decode cX7_put 37 = .ok (.dup, 1) := by decide +kernel
theorem dX7_put_38 : decode cX7_put 38 = .ok (.getfield 97, 3) := by decide +kernel
theorem dX7_put_41 : decode cX7_put 41 = .ok (.iconst 1, 1) := by decide +kernel
theorem dX7_put_42 : decode cX7_put 42 = .ok (.iadd, 1) := by decide +kernel
theorem dX7_put_43 : decode cX7_put 43 = .ok (.putfield 97, 3) := by decide +kernel
theorem dX7_put_46 : decode cX7_put 46 = .ok (.aload_n 0, 1) := by decide +kernel
theorem dX7_put_47 : decode cX7_put 47 = .ok (.getfield 97, 3) := by decide +kernel
theorem dX7_put_50 : decode cX7_put 50 = .ok (.ireturn, 1) := by decide +kernel
theorem dX7_empty_0 : decode cX7_empty 0 = .ok (.aload_n 0, 1) := by decide +kernel
theorem dX7_empty_1 : decode cX7_empty 1 = .ok (.getfield 97, 3) := by decide +kernel
theorem dX7_empty_4 : decode cX7_empty 4 = .ok (.istore_n 1, 1) := by decide +kernel
theorem dX7_empty_5 : decode cX7_empty 5 = .ok (.aload_n 0, 1) := by decide +kernel
theorem dX7_empty_6 : decode cX7_empty 6 = .ok (.iconst 0, 1) := by decide +kernel
theorem dX7_empty_7 : decode cX7_empty 7 = .ok (.putfield 97, 3) := by decide +kernel
theorem dX7_empty_10 : decode cX7_empty 10 = .ok (.iload_n 1, 1) := by decide +kernel
theorem dX7_empty_11 : decode cX7_empty 11 = .ok (.ireturn, 1) := by decide +kernel
set_option maxRecDepth 20000 in
theorem ggX7_isNear_X7_in : GoodIn wsX7_isNear wsX7_in := goodIn_r _ [4] (by decide +kernel) (by decide +kernel)
set_option maxRecDepth 20000 in
theorem gX7_isNear_X7_in : GoodIn wsX7_isNear (va_wsS RX7 38 yX7_in wsX7_in) := goodIn_app (goodIn_of _ (by decide +kernel)) ggX7_isNear_X7_in
theorem dX7_isNear_0 : decode cX7_isNear 0 = .ok (.iload_n 1, 1) := by decide +kernel
theorem dX7_isNear_1 : decode cX7_isNear 1 = .ok (.iload_n 2, 1) := by decide +kernel
theorem dX7_isNear_2 : decode cX7_isNear 2 = .ok (.if_icmp .ge 9, 3) := by decide +kernel
theorem dX7_isNear_5 : decode cX7_isNear 5 = .ok (.iload_n 2, 1) := by decide +kernel
theorem dX7_isNear_6 : decode cX7_isNear 6 = .ok (.iload_n 1, 1) := by decide +kernel
theorem dX7_isNear_7 : decode cX7_isNear 7 = .ok (.isub, 1) := by decide +kernel
theorem dX7_isNear_8 : decode cX7_isNear 8 = .ok (.goto 6, 3) := by decide +kernel
theorem dX7_isNear_11 : decode cX7_isNear 11 = .ok (.iload_n 1, 1) := by decide +kernel
theorem dX7_isNear_12 : decode cX7_isNear 12 = .ok (.iload_n 2, 1) := by decide +kernel
theorem dX7_isNear_13 : decode cX7_isNear 13 = .ok (.isub, 1) := by decide +kernel
theorem dX7_isNear_14 : decode cX7_isNear 14 = .ok (.istore 5, 2) := by decide +kernel
theorem dX7_isNear_16 : decode cX7_isNear 16 = .ok (.iload 5, 2) := by decide +kernel
theorem dX7_isNear_18 : decode cX7_isNear 18 = .ok (.iload 4, 2) := by decide +kernel
theorem dX7_isNear_20 : decode cX7_isNear 20 = .ok (.iconst 1, 1) := by decide +kernel
theorem dX7_isNear_21 : decode cX7_isNear 21 = .ok (.iadd, 1) := by decide +kernel
theorem dX7_isNear_22 : decode cX7_isNear 22 = .ok (.iload 4, 2) := by decide +kernel
theorem dX7_isNear_24 : decode cX7_isNear 24 = .ok (.iload_n 3, 1) := by decide +kernel
theorem dX7_isNear_25 : decode cX7_isNear 25 = .ok (.iadd, 1) := by decide +kernel
theorem dX7_isNear_26 : decode cX7_isNear 26 = .ok (.invokestatic 38, 3) := by decide +kernel
theorem dX7_isNear_29 : decode cX7_isNear 29 = .ok (.ireturn, 1) := by decide +kernel
set_option maxRecDepth 20000 in
theorem ggX7_least_X7_isNear : GoodIn wsX7_least wsX7_isNear := goodIn_r _ [7, 8, 9, 6, 10] (by decide +kernel) (by decide +kernel)
set_option maxRecDepth 20000 in
theorem gX7_least_X7_isNear : GoodIn wsX7_least (wsV RX7 100 RX7 yX7_isNear wsX7_isNear) := goodIn_app (goodIn_of _ (by decide +kernel)) ggX7_least_X7_isNear
theorem dX7_least_0 : decode cX7_least 0 = .ok (.iconst 0, 1) := by decide +kernel
theorem dX7_least_1 : decode cX7_least 1 = .ok (.istore 5, 2) := by decide +kernel
theorem dX7_least_3 : decode cX7_least 3 = .ok (.iload 5, 2) := by decide +kernel
theorem dX7_least_5 : decode cX7_least 5 = .ok (.aload_n 0, 1) := by decide +kernel
theorem dX7_least_6 : decode cX7_least 6 = .ok (.getfield 97, 3) := by decide +kernel
theorem dX7_least_9 : decode cX7_least 9 = .ok (.if_icmp .ge 122, 3) := by decide +kernel
theorem dX7_least_12 : decode cX7_least 12 = .ok (.aload_n 0, 1) := by decide +kernel
theorem dX7_least_13 : decode cX7_least 13 = .ok (.iload_n 1, 1) := by decide +kernel
theorem dX7_least_14 : decode cX7_least 14 = .ok (.iload 5, 2) := by decide +kernel
theorem dX7_least_16 : decode cX7_least 16 = .ok (.iload_n 2, 1) := by decide +kernel
theorem dX7_least_17 : decode cX7_least 17 = .ok (.iload_n 3, 1) := by decide +kernel
theorem dX7_least_18 : decode cX7_least 18 = .ok (.invokevirtual 100, 3) := by decide +kernel
theorem dX7_least_21 : decode cX7_least 21 = .ok (.ifCond .eq 104, 3) := by decide +kernel
theorem dX7_least_24 : decode cX7_least 24 = .ok (.iconst 0, 1) := by decide +kernel
theorem dX7_least_25 : decode cX7_least 25 = .ok (.istore 6, 2) := by decide +kernel
theorem dX7_least_27 : decode cX7_least 27 = .ok (.iconst 0, 1) := by decide +kernel
theorem dX7_least_28 : decode cX7_least 28 = .ok (.istore 7, 2) := by decide +kernel
theorem dX7_least_30 : decode cX7_least 30 = .ok (.iload 7, 2) := by decide +kernel
theorem dX7_least_32 : decode cX7_least 32 = .ok (.aload_n 0, 1) := by decide +kernel
theorem dX7_least_33 : decode cX7_least 33 = .ok (.getfield 97, 3) := by decide +kernel
theorem dX7_least_36 : decode cX7_least 36 = .ok (.if_icmp .ge 72, 3) := by decide +kernel
theorem dX7_least_39 : decode cX7_least 39 = .ok (.iload 6, 2) := by decide +kernel
theorem dX7_least_41 : decode cX7_least 41 = .ok (.aload_n 0, 1) := by decide +kernel
theorem dX7_least_42 : decode cX7_least 42 = .ok (.iload_n 1, 1) := by decide +kernel
theorem dX7_least_43 : decode cX7_least 43 = .ok (.iload 7, 2) := by decide +kernel
theorem dX7_least_45 : decode cX7_least 45 = .ok (.iload_n 2, 1) := by decide +kernel
theorem dX7_least_46 : decode cX7_least 46 = .ok (.iload_n 3, 1) := by decide +kernel
theorem dX7_least_47 : decode cX7_least 47 = .ok (.invokevirtual 100, 3) := by decide +kernel
theorem dX7_least_50 : decode cX7_least 50 = .ok (.ifCond .eq 48, 3) := by decide +kernel
theorem dX7_least_53 : decode cX7_least 53 = .ok (.aload_n 0, 1) := by decide +kernel
theorem dX7_least_54 : decode cX7_least 54 = .ok (.getfield 32, 3) := by decide +kernel
theorem dX7_least_57 : decode cX7_least 57 = .ok (.iload 7, 2) := by decide +kernel
theorem dX7_least_59 : decode cX7_least 59 = .ok (.iaload, 1) := by decide +kernel
theorem dX7_least_60 : decode cX7_least 60 = .ok (.aload_n 0, 1) := by decide +kernel
theorem dX7_least_61 : decode cX7_least 61 = .ok (.getfield 32, 3) := by decide +kernel
theorem dX7_least_64 : decode cX7_least 64 = .ok (.iload 5, 2) := by decide +kernel
theorem dX7_least_66 : decode cX7_least 66 = .ok (.iaload, 1) := by decide +kernel
theorem dX7_least_67 : decode cX7_least 67 = .ok (.if_icmp .lt 27, 3) := by decide +kernel
theorem dX7_least_70 : decode cX7_least 70 = .ok (.aload_n 0, 1) := by decide +kernel
theorem dX7_least_71 : decode cX7_least 71 = .ok (.getfield 32, 3) := by decide +kernel
theorem dX7_least_74 : decode cX7_least 74 = .ok (.iload 7, 2) := by decide +kernel
theorem dX7_least_76 : decode cX7_least 76 = .ok (.iaload, 1) := by decide +kernel
theorem dX7_least_77 : decode cX7_least 77 = .ok (.aload_n 0, 1) := by decide +kernel
theorem dX7_least_78 : decode cX7_least 78 = .ok (.getfield 32, 3) := by decide +kernel
theorem dX7_least_81 : decode cX7_least 81 = .ok (.iload 5, 2) := by decide +kernel
theorem dX7_least_83 : decode cX7_least 83 = .ok (.iaload, 1) := by decide +kernel
theorem dX7_least_84 : decode cX7_least 84 = .ok (.if_icmp .ne 14, 3) := by decide +kernel
theorem dX7_least_87 : decode cX7_least 87 = .ok (.iload 7, 2) := by decide +kernel
theorem dX7_least_89 : decode cX7_least 89 = .ok (.iload 5, 2) := by decide +kernel
theorem dX7_least_91 : decode cX7_least 91 = .ok (.if_icmp .ge 7, 3) := by decide +kernel
theorem dX7_least_94 : decode cX7_least 94 = .ok (.iconst 1, 1) := by decide +kernel
theorem dX7_least_95 : decode cX7_least 95 = .ok (.goto 4, 3) := by decide +kernel
theorem dX7_least_98 : decode cX7_least 98 = .ok (.iconst 0, 1) := by decide +kernel
theorem dX7_least_99 : decode cX7_least 99 = .ok (.iadd, 1) := by decide +kernel
theorem dX7_least_100 : decode cX7_least 100 = .ok (.istore 6, 2) := by decide +kernel
theorem dX7_least_102 : decode cX7_least 102 = .ok (.iinc 7 1, 3) := by decide +kernel
theorem dX7_least_105 : decode cX7_least 105 = .ok (.goto (-75), 3) := by decide +kernel
theorem dX7_least_108 : decode cX7_least 108 = .ok (.iload 6, 2) := by decide +kernel
theorem dX7_least_110 : decode cX7_least 110 = .ok (.iload 4, 2) := by decide +kernel
theorem dX7_least_112 : decode cX7_least 112 = .ok (.iconst 1, 1) := by decide +kernel
theorem dX7_least_113 : decode cX7_least 113 = .ok (.isub, 1) := by decide +kernel
theorem dX7_least_114 : decode cX7_least 114 = .ok (.if_icmp .ne 11, 3) := by decide +kernel
theorem dX7_least_117 : decode cX7_least 117 = .ok (.aload_n 0, 1) := by decide +kernel
theorem dX7_least_118 : decode cX7_least 118 = .ok (.getfield 32, 3) := by decide +kernel
theorem dX7_least_121 : decode cX7_least 121 = .ok (.iload 5, 2) := by decide +kernel
theorem dX7_least_123 : decode cX7_least 123 = .ok (.iaload, 1) := by decide +kernel
theorem dX7_least_124 : decode cX7_least 124 = .ok (.ireturn, 1) := by decide +kernel
theorem dX7_least_125 : decode cX7_least 125 = .ok (.iinc 5 1, 3) := by decide +kernel
theorem dX7_least_128 : decode cX7_least 128 = .ok (.goto (-125), 3) := by decide +kernel
theorem dX7_least_131 : decode cX7_least 131 = .ok (.iconst (-1), 1) := by decide +kernel
theorem dX7_least_132 : decode cX7_least 132 = .ok (.ireturn, 1) := by decide +kernel
set_option maxRecDepth 20000 in
theorem ggX7_isFound_X7_least : GoodIn wsX7_isFound wsX7_least := goodIn_r _ [6, 7, 1, 8, 9, 10, 5, 11, 12, 13, 14, 15, 16, 17, 18, 19, 20, 21, 22, 23, 24, 25, 26, 27, 28, 29, 30] (by decide +kernel) (by decide +kernel)
set_option maxRecDepth 20000 in
theorem gX7_isFound_X7_least : GoodIn wsX7_isFound (wsV RX7 104 RX7 yX7_least wsX7_least) := goodIn_app (goodIn_of _ (by decide +kernel)) ggX7_isFound_X7_least
theorem dX7_isFound_0 : decode cX7_isFound 0 = .ok (.aload_n 0, 1) := by decide +kernel
theorem dX7_isFound_1 : decode cX7_isFound 1 = .ok (.iload_n 1, 1) := by decide +kernel
theorem dX7_isFound_2 : decode cX7_isFound 2 = .ok (.iload_n 2, 1) := by decide +kernel
theorem dX7_isFound_3 : decode cX7_isFound 3 = .ok (.iload_n 3, 1) := by decide +kernel
theorem dX7_isFound_4 : decode cX7_isFound 4 = .ok (.iload 4, 2) := by decide +kernel
theorem dX7_isFound_6 : decode cX7_isFound 6 = .ok (.invokevirtual 104, 3) := by decide +kernel
theorem dX7_isFound_9 : decode cX7_isFound 9 = .ok (.istore 6, 2) := by decide +kernel
theorem dX7_isFound_11 : decode cX7_isFound 11 = .ok (.iload 6, 2) := by decide +kernel
theorem dX7_isFound_13 : decode cX7_isFound 13 = .ok (.iconst (-1), 1) := by decide +kernel
theorem dX7_isFound_14 : decode cX7_isFound 14 = .ok (.if_icmp .eq 24, 3) := by decide +kernel
theorem dX7_isFound_17 : decode cX7_isFound 17 = .ok (.bipush 10, 2) := by decide +kernel
theorem dX7_isFound_19 : decode cX7_isFound 19 = .ok (.aload_n 0, 1) := by decide +kernel
theorem dX7_isFound_20 : decode cX7_isFound 20 = .ok (.getfield 32, 3) := by decide +kernel
theorem dX7_isFound_23 : decode cX7_isFound 23 = .ok (.iload_n 1, 1) := by decide +kernel
theorem dX7_isFound_24 : decode cX7_isFound 24 = .ok (.iaload, 1) := by decide +kernel
theorem dX7_isFound_25 : decode cX7_isFound 25 = .ok (.imul, 1) := by decide +kernel
theorem dX7_isFound_26 : decode cX7_isFound 26 = .ok (.iload 5, 2) := by decide +kernel
theorem dX7_isFound_28 : decode cX7_isFound 28 = .ok (.iload 6, 2) := by decide +kernel
theorem dX7_isFound_30 : decode cX7_isFound 30 = .ok (.imul, 1) := by decide +kernel
theorem dX7_isFound_31 : decode cX7_isFound 31 = .ok (.if_icmp .le 7, 3) := by decide +kernel
theorem dX7_isFound_34 : decode cX7_isFound 34 = .ok (.iconst 1, 1) := by decide +kernel
theorem dX7_isFound_35 : decode cX7_isFound 35 = .ok (.goto 4, 3) := by decide +kernel
theorem dX7_isFound_38 : decode cX7_isFound 38 = .ok (.iconst 0, 1) := by decide +kernel
theorem dX7_isFound_39 : decode cX7_isFound 39 = .ok (.ireturn, 1) := by decide +kernel
set_option maxRecDepth 20000 in
theorem ggX7_isScaled_X7_in : GoodIn wsX7_isScaled wsX7_in := goodIn_r _ [4] (by decide +kernel) (by decide +kernel)
set_option maxRecDepth 20000 in
theorem gX7_isScaled_X7_in : GoodIn wsX7_isScaled (va_wsS RX7 38 yX7_in wsX7_in) := goodIn_app (goodIn_of _ (by decide +kernel)) ggX7_isScaled_X7_in
theorem dX7_isScaled_0 : decode cX7_isScaled 0 = .ok (.iload_n 0, 1) := by decide +kernel
theorem dX7_isScaled_1 : decode cX7_isScaled 1 = .ok (.iconst 1, 1) := by decide +kernel
theorem dX7_isScaled_2 : decode cX7_isScaled 2 = .ok (.bipush 8, 2) := by decide +kernel
theorem dX7_isScaled_4 : decode cX7_isScaled 4 = .ok (.invokestatic 38, 3) := by decide +kernel
theorem dX7_isScaled_7 : decode cX7_isScaled 7 = .ok (.ifCond .eq 37, 3) := by decide +kernel
theorem dX7_isScaled_10 : decode cX7_isScaled 10 = .ok (.iload_n 1, 1) := by decide +kernel
theorem dX7_isScaled_11 : decode cX7_isScaled 11 = .ok (.iconst 0, 1) := by decide +kernel
theorem dX7_isScaled_12 : decode cX7_isScaled 12 = .ok (.iconst 3, 1) := by decide +kernel
theorem dX7_isScaled_13 : decode cX7_isScaled 13 = .ok (.invokestatic 38, 3) := by decide +kernel
theorem dX7_isScaled_16 : decode cX7_isScaled 16 = .ok (.ifCond .eq 28, 3) := by decide +kernel
theorem dX7_isScaled_19 : decode cX7_isScaled 19 = .ok (.iload_n 2, 1) := by decide +kernel
theorem dX7_isScaled_20 : decode cX7_isScaled 20 = .ok (.iconst 1, 1) := by decide +kernel
theorem dX7_isScaled_21 : decode cX7_isScaled 21 = .ok (.bipush 8, 2) := by decide +kernel
theorem dX7_isScaled_23 : decode cX7_isScaled 23 = .ok (.invokestatic 38, 3) := by decide +kernel
theorem dX7_isScaled_26 : decode cX7_isScaled 26 = .ok (.ifCond .eq 18, 3) := by decide +kernel
theorem dX7_isScaled_29 : decode cX7_isScaled 29 = .ok (.iload_n 3, 1) := by decide +kernel
theorem dX7_isScaled_30 : decode cX7_isScaled 30 = .ok (.iconst 1, 1) := by decide +kernel
theorem dX7_isScaled_31 : decode cX7_isScaled 31 = .ok (.sipush 500, 3) := by decide +kernel
theorem dX7_isScaled_34 : decode cX7_isScaled 34 = .ok (.invokestatic 38, 3) := by decide +kernel
theorem dX7_isScaled_37 : decode cX7_isScaled 37 = .ok (.ifCond .eq 7, 3) := by decide +kernel
theorem dX7_isScaled_40 : decode cX7_isScaled 40 = .ok (.iconst 1, 1) := by decide +kernel
theorem dX7_isScaled_41 : decode cX7_isScaled 41 = .ok (.goto 4, 3) := by decide +kernel
theorem dX7_isScaled_44 : decode cX7_isScaled 44 = .ok (.iconst 0, 1) := by decide +kernel
theorem dX7_isScaled_45 : decode cX7_isScaled 45 = .ok (.ireturn, 1) := by decide +kernel
set_option maxRecDepth 20000 in
theorem ggX7_found_X7_in : GoodIn wsX7_found wsX7_in := goodIn_r _ [5] (by decide +kernel) (by decide +kernel)
set_option maxRecDepth 20000 in
theorem gX7_found_X7_in : GoodIn wsX7_found (va_wsS RX7 38 yX7_in wsX7_in) := goodIn_app (goodIn_of _ (by decide +kernel)) ggX7_found_X7_in
set_option maxRecDepth 20000 in
theorem ggX7_found_X7_isScaled : GoodIn wsX7_found wsX7_isScaled := goodIn_r _ [8, 2, 3, 4, 5] (by decide +kernel) (by decide +kernel)
set_option maxRecDepth 20000 in
theorem gX7_found_X7_isScaled : GoodIn wsX7_found (va_wsS RX7 107 yX7_isScaled wsX7_isScaled) := goodIn_app (goodIn_of _ (by decide +kernel)) ggX7_found_X7_isScaled
set_option maxRecDepth 20000 in
theorem ggX7_found_X7_isFound : GoodIn wsX7_found wsX7_isFound := goodIn_r _ [12, 13, 14, 15, 16, 4, 17, 1, 18, 19, 20, 21, 2, 3, 5, 22, 23, 24, 25, 26, 27, 28, 29, 30, 31, 32, 33, 34, 35, 36, 37] (by decide +kernel) (by decide +kernel)
set_option maxRecDepth 20000 in
theorem gX7_found_X7_isFound : GoodIn wsX7_found (wsV RX7 110 RX7 yX7_isFound wsX7_isFound) := goodIn_app (goodIn_of _ (by decide +kernel)) ggX7_found_X7_isFound
theorem dX7_found_0 : decode cX7_found 0 = .ok (.iload_n 1, 1) := by decide +kernel
theorem dX7_found_1 : decode cX7_found 1 = .ok (.iconst 0, 1) := by decide +kernel
theorem dX7_found_2 : decode cX7_found 2 = .ok (.aload_n 0, 1) := by decide +kernel
theorem dX7_found_3 : decode cX7_found 3 = .ok (.getfield 97, 3) := by decide +kernel
theorem dX7_found_6 : decode cX7_found 6 = .ok (.iconst 1, 1) := by decide +kernel
theorem dX7_found_7 : decode cX7_found 7 = .ok (.isub, 1) := by decide +kernel
theorem dX7_found_8 : decode cX7_found 8 = .ok (.invokestatic 38, 3) := by decide +kernel
theorem dX7_found_11 : decode cX7_found 11 = .ok (.ifCond .ne 6, 3) := by decide +kernel
theorem dX7_found_14 : decode cX7_found 14 = .ok (.bipush (-101), 2) := by decide +kernel
theorem dX7_found_16 : decode cX7_found 16 = .ok (.ireturn, 1) := by decide +kernel
theorem dX7_found_17 : decode cX7_found 17 = .ok (.iload_n 2, 1) := by decide +kernel
theorem dX7_found_18 : decode cX7_found 18 = .ok (.iload_n 3, 1) := by decide +kernel
theorem dX7_found_19 : decode cX7_found 19 = .ok (.iload 4, 2) := by decide +kernel
theorem dX7_found_21 : decode cX7_found 21 = .ok (.iload 5, 2) := by decide +kernel
theorem dX7_found_23 : decode cX7_found 23 = .ok (.invokestatic 107, 3) := by decide +kernel
theorem dX7_found_26 : decode cX7_found 26 = .ok (.ifCond .ne 6, 3) := by decide +kernel
theorem dX7_found_29 : decode cX7_found 29 = .ok (.bipush (-102), 2) := by decide +kernel
theorem dX7_found_31 : decode cX7_found 31 = .ok (.ireturn, 1) := by decide +kernel
theorem dX7_found_32 : decode cX7_found 32 = .ok (.aload_n 0, 1) := by decide +kernel
theorem dX7_found_33 : decode cX7_found 33 = .ok (.iload_n 1, 1) := by decide +kernel
theorem dX7_found_34 : decode cX7_found 34 = .ok (.iload_n 2, 1) := by decide +kernel
theorem dX7_found_35 : decode cX7_found 35 = .ok (.iload_n 3, 1) := by decide +kernel
theorem dX7_found_36 : decode cX7_found 36 = .ok (.iload 4, 2) := by decide +kernel
theorem dX7_found_38 : decode cX7_found 38 = .ok (.iload 5, 2) := by decide +kernel
theorem dX7_found_40 : decode cX7_found 40 = .ok (.invokevirtual 110, 3) := by decide +kernel
theorem dX7_found_43 : decode cX7_found 43 = .ok (.ifCond .eq 7, 3) := by decide +kernel
theorem dX7_found_46 : decode cX7_found 46 = .ok (.iconst 1, 1) := by decide +kernel
theorem dX7_found_47 : decode cX7_found 47 = .ok (.goto 4, 3) := by decide +kernel
theorem dX7_found_50 : decode cX7_found 50 = .ok (.iconst 0, 1) := by decide +kernel
theorem dX7_found_51 : decode cX7_found 51 = .ok (.ireturn, 1) := by decide +kernel
set_option maxRecDepth 20000 in
theorem ggX7_count_X7_isScaled : GoodIn wsX7_count wsX7_isScaled := goodIn_r _ [5, 6, 7, 4, 8] (by decide +kernel) (by decide +kernel)
set_option maxRecDepth 20000 in
theorem gX7_count_X7_isScaled : GoodIn wsX7_count (va_wsS RX7 107 yX7_isScaled wsX7_isScaled) := goodIn_app (goodIn_of _ (by decide +kernel)) ggX7_count_X7_isScaled
set_option maxRecDepth 20000 in
theorem ggX7_count_X7_isFound : GoodIn wsX7_count wsX7_isFound := goodIn_r _ [12, 13, 14, 15, 16, 4, 17, 1, 18, 19, 20, 21, 6, 7, 8, 22, 23, 24, 25, 26, 27, 28, 29, 30, 31, 32, 33, 34, 35, 36, 37] (by decide +kernel) (by decide +kernel)
set_option maxRecDepth 20000 in
theorem gX7_count_X7_isFound : GoodIn wsX7_count (wsV RX7 110 RX7 yX7_isFound wsX7_isFound) := goodIn_app (goodIn_of _ (by decide +kernel)) ggX7_count_X7_isFound
theorem dX7_count_0 : decode cX7_count 0 = .ok (.iload_n 1, 1) := by decide +kernel
theorem dX7_count_1 : decode cX7_count 1 = .ok (.iload_n 2, 1) := by decide +kernel
theorem dX7_count_2 : decode cX7_count 2 = .ok (.iload_n 3, 1) := by decide +kernel
theorem dX7_count_3 : decode cX7_count 3 = .ok (.iload 4, 2) := by decide +kernel
theorem dX7_count_5 : decode cX7_count 5 = .ok (.invokestatic 107, 3) := by decide +kernel
theorem dX7_count_8 : decode cX7_count 8 = .ok (.ifCond .ne 6, 3) := by decide +kernel
theorem dX7_count_11 : decode cX7_count 11 = .ok (.bipush (-102), 2) := by decide +kernel
theorem dX7_count_13 : decode cX7_count 13 = .ok (.ireturn, 1) := by decide +kernel
theorem dX7_count_14 : decode cX7_count 14 = .ok (.iconst 0, 1) := by decide +kernel
theorem dX7_count_15 : decode cX7_count 15 = .ok (.istore 5, 2) := by decide +kernel
theorem dX7_count_17 : decode cX7_count 17 = .ok (.iconst 0, 1) := by decide +kernel
theorem dX7_count_18 : decode cX7_count 18 = .ok (.istore 6, 2) := by decide +kernel
theorem dX7_count_20 : decode cX7_count 20 = .ok (.iload 6, 2) := by decide +kernel
theorem dX7_count_22 : decode cX7_count 22 = .ok (.aload_n 0, 1) := by decide +kernel
theorem dX7_count_23 : decode cX7_count 23 = .ok (.getfield 97, 3) := by decide +kernel
theorem dX7_count_26 : decode cX7_count 26 = .ok (.if_icmp .ge 33, 3) := by decide +kernel
theorem dX7_count_29 : decode cX7_count 29 = .ok (.iload 5, 2) := by decide +kernel
theorem dX7_count_31 : decode cX7_count 31 = .ok (.aload_n 0, 1) := by decide +kernel
theorem dX7_count_32 : decode cX7_count 32 = .ok (.iload 6, 2) := by decide +kernel
theorem dX7_count_34 : decode cX7_count 34 = .ok (.iload_n 1, 1) := by decide +kernel
theorem dX7_count_35 : decode cX7_count 35 = .ok (.iload_n 2, 1) := by decide +kernel
theorem dX7_count_36 : decode cX7_count 36 = .ok (.iload_n 3, 1) := by decide +kernel
theorem dX7_count_37 : decode cX7_count 37 = .ok (.iload 4, 2) := by decide +kernel
theorem dX7_count_39 : decode cX7_count 39 = .ok (.invokevirtual 110, 3) := by decide +kernel
theorem dX7_count_42 : decode cX7_count 42 = .ok (.ifCond .eq 7, 3) := by decide +kernel
theorem dX7_count_45 : decode cX7_count 45 = .ok (.iconst 1, 1) := by decide +kernel
theorem dX7_count_46 : decode cX7_count 46 = .ok (.goto 4, 3) := by decide +kernel
theorem dX7_count_49 : decode cX7_count 49 = .ok (.iconst 0, 1) := by decide +kernel
theorem dX7_count_50 : decode cX7_count 50 = .ok (.iadd, 1) := by decide +kernel
theorem dX7_count_51 : decode cX7_count 51 = .ok (.istore 5, 2) := by decide +kernel
theorem dX7_count_53 : decode cX7_count 53 = .ok (.iinc 6 1, 3) := by decide +kernel
theorem dX7_count_56 : decode cX7_count 56 = .ok (.goto (-36), 3) := by decide +kernel
theorem dX7_count_59 : decode cX7_count 59 = .ok (.iload 5, 2) := by decide +kernel
theorem dX7_count_61 : decode cX7_count 61 = .ok (.ireturn, 1) := by decide +kernel
theorem dX7_falses_0 : decode cX7_falses 0 = .ok (.aload_n 0, 1) := by decide +kernel
theorem dX7_falses_1 : decode cX7_falses 1 = .ok (.lconst 1, 1) := by decide +kernel
theorem dX7_falses_2 : decode cX7_falses 2 = .ok (.putfield 114, 3) := by decide +kernel
theorem dX7_falses_5 : decode cX7_falses 5 = .ok (.aload_n 0, 1) := by decide +kernel
theorem dX7_falses_6 : decode cX7_falses 6 = .ok (.lconst 1, 1) := by decide +kernel
theorem dX7_falses_7 : decode cX7_falses 7 = .ok (.putfield 118, 3) := by decide +kernel
theorem dX7_falses_10 : decode cX7_falses 10 = .ok (.iconst 0, 1) := by decide +kernel
theorem dX7_falses_11 : decode cX7_falses 11 = .ok (.istore 4, 2) := by decide +kernel
theorem dX7_falses_13 : decode cX7_falses 13 = .ok (.iload 4, 2) := by decide +kernel
theorem dX7_falses_15 : decode cX7_falses 15 = .ok (.iload_n 2, 1) := by decide +kernel
theorem dX7_falses_16 : decode cX7_falses 16 = .ok (.if_icmp .ge 39, 3) := by decide +kernel
theorem dX7_falses_19 : decode cX7_falses 19 = .ok (.aload_n 0, 1) := by decide +kernel
theorem dX7_falses_20 : decode cX7_falses 20 = .ok (.dup, 1) := by decide +kernel
theorem dX7_falses_21 : decode cX7_falses 21 = .ok (.getfield 114, 3) := by decide +kernel
theorem dX7_falses_24 : decode cX7_falses 24 = .ok (.iload_n 1, 1) := by decide +kernel
theorem dX7_falses_25 : decode cX7_falses 25 = .ok (.iload 4, 2) := by decide +kernel
theorem dX7_falses_27 : decode cX7_falses 27 = .ok (.isub, 1) := by decide +kernel
theorem dX7_falses_28 : decode cX7_falses 28 = .ok (.i2l, 1) := by decide +kernel
theorem dX7_falses_29 : decode cX7_falses 29 = .ok (.lmul, 1) := by decide +kernel
theorem dX7_falses_30 : decode cX7_falses 30 = .ok (.putfield 114, 3) := by decide +kernel
theorem dX7_falses_33 : decode cX7_falses 33 = .ok (.aload_n 0, 1) := by decide +kernel
theorem dX7_falses_34 : decode cX7_falses 34 = .ok (.dup, 1) := by decide +kernel
theorem dX7_falses_35 : decode cX7_falses 35 = .ok (.getfield 118, 3) := by decide +kernel
theorem dX7_falses_38 : decode cX7_falses 38 = .ok (.iload_n 1, 1) := by decide +kernel
theorem dX7_falses_39 : decode cX7_falses 39 = .ok (.iload 4, 2) := by decide +kernel
theorem dX7_falses_41 : decode cX7_falses 41 = .ok (.isub, 1) := by decide +kernel
theorem dX7_falses_42 : decode cX7_falses 42 = .ok (.iload_n 3, 1) := by decide +kernel
theorem dX7_falses_43 : decode cX7_falses 43 = .ok (.iadd, 1) := by decide +kernel
theorem dX7_falses_44 : decode cX7_falses 44 = .ok (.i2l, 1) := by decide +kernel
theorem dX7_falses_45 : decode cX7_falses 45 = .ok (.lmul, 1) := by decide +kernel
theorem dX7_falses_46 : decode cX7_falses 46 = .ok (.putfield 118, 3) := by decide +kernel
theorem dX7_falses_49 : decode cX7_falses 49 = .ok (.iinc 4 1, 3) := by decide +kernel
theorem dX7_falses_52 : decode cX7_falses 52 = .ok (.goto (-39), 3) := by decide +kernel
theorem dX7_falses_55 : decode cX7_falses 55 = .ok (.return_, 1) := by decide +kernel
set_option maxRecDepth 20000 in
theorem ggX7_share_X7_in : GoodIn wsX7_share wsX7_in := goodIn_r _ [7] (by decide +kernel) (by decide +kernel)
set_option maxRecDepth 20000 in
theorem gX7_share_X7_in : GoodIn wsX7_share (va_wsS RX7 38 yX7_in wsX7_in) := goodIn_app (goodIn_of _ (by decide +kernel)) ggX7_share_X7_in
set_option maxRecDepth 20000 in
theorem ggX7_share_X7_falses : GoodIn wsX7_share wsX7_falses := goodIn_r _ [11, 2, 3, 15, 16, 17, 18, 19, 20, 21, 22, 23, 24, 25, 26, 27, 28, 29, 30] (by decide +kernel) (by decide +kernel)
set_option maxRecDepth 20000 in
theorem gX7_share_X7_falses : GoodIn wsX7_share (wsV RX7 123 RX7 yX7_falses wsX7_falses) := goodIn_app (goodIn_of _ (by decide +kernel)) ggX7_share_X7_falses
set_option maxRecDepth 20000 in
theorem ggX7_share_X7_shared : GoodIn wsX7_share wsX7_shared := goodIn_r _ [14] (by decide +kernel) (by decide +kernel)
set_option maxRecDepth 20000 in
theorem gX7_share_X7_shared : GoodIn wsX7_share (va_wsS RX7 93 yX7_shared wsX7_shared) := goodIn_app (goodIn_of _ (by decide +kernel)) ggX7_share_X7_shared
theorem dX7_share_0 : decode cX7_share 0 = .ok (.iload_n 1, 1) := by decide +kernel
theorem dX7_share_1 : decode cX7_share 1 = .ok (.iconst 1, 1) := by decide +kernel
theorem dX7_share_2 : decode cX7_share 2 = .ok (.bipush 8, 2) := by decide +kernel
theorem dX7_share_4 : decode cX7_share 4 = .ok (.invokestatic 38, 3) := by decide +kernel
theorem dX7_share_7 : decode cX7_share 7 = .ok (.ifCond .eq 32, 3) := by decide +kernel
theorem dX7_share_10 : decode cX7_share 10 = .ok (.iload_n 2, 1) := by decide +kernel
theorem dX7_share_11 : decode cX7_share 11 = .ok (.iconst 1, 1) := by decide +kernel
theorem dX7_share_12 : decode cX7_share 12 = .ok (.iload_n 1, 1) := by decide +kernel
theorem dX7_share_13 : decode cX7_share 13 = .ok (.invokestatic 38, 3) := by decide +kernel
theorem dX7_share_16 : decode cX7_share 16 = .ok (.ifCond .eq 23, 3) := by decide +kernel
theorem dX7_share_19 : decode cX7_share 19 = .ok (.iload_n 3, 1) := by decide +kernel
theorem dX7_share_20 : decode cX7_share 20 = .ok (.iconst 1, 1) := by decide +kernel
theorem dX7_share_21 : decode cX7_share 21 = .ok (.bipush 40, 2) := by decide +kernel
theorem dX7_share_23 : decode cX7_share 23 = .ok (.invokestatic 38, 3) := by decide +kernel
theorem dX7_share_26 : decode cX7_share 26 = .ok (.ifCond .eq 13, 3) := by decide +kernel
theorem dX7_share_29 : decode cX7_share 29 = .ok (.iload 4, 2) := by decide +kernel
theorem dX7_share_31 : decode cX7_share 31 = .ok (.iconst 0, 1) := by decide +kernel
theorem dX7_share_32 : decode cX7_share 32 = .ok (.iconst 1, 1) := by decide +kernel
theorem dX7_share_33 : decode cX7_share 33 = .ok (.invokestatic 38, 3) := by decide +kernel
theorem dX7_share_36 : decode cX7_share 36 = .ok (.ifCond .ne 7, 3) := by decide +kernel
theorem dX7_share_39 : decode cX7_share 39 = .ok (.ldc2_w 121, 3) := by decide +kernel
theorem dX7_share_42 : decode cX7_share 42 = .ok (.lreturn, 1) := by decide +kernel
theorem dX7_share_43 : decode cX7_share 43 = .ok (.aload_n 0, 1) := by decide +kernel
theorem dX7_share_44 : decode cX7_share 44 = .ok (.iload_n 1, 1) := by decide +kernel
theorem dX7_share_45 : decode cX7_share 45 = .ok (.iload_n 2, 1) := by decide +kernel
theorem dX7_share_46 : decode cX7_share 46 = .ok (.iload_n 3, 1) := by decide +kernel
theorem dX7_share_47 : decode cX7_share 47 = .ok (.invokevirtual 123, 3) := by decide +kernel
theorem dX7_share_50 : decode cX7_share 50 = .ok (.aload_n 0, 1) := by decide +kernel
theorem dX7_share_51 : decode cX7_share 51 = .ok (.getfield 114, 3) := by decide +kernel
theorem dX7_share_54 : decode cX7_share 54 = .ok (.aload_n 0, 1) := by decide +kernel
theorem dX7_share_55 : decode cX7_share 55 = .ok (.getfield 118, 3) := by decide +kernel
theorem dX7_share_58 : decode cX7_share 58 = .ok (.invokestatic 93, 3) := by decide +kernel
theorem dX7_share_61 : decode cX7_share 61 = .ok (.lstore 5, 2) := by decide +kernel
theorem dX7_share_63 : decode cX7_share 63 = .ok (.iload 4, 2) := by decide +kernel
theorem dX7_share_65 : decode cX7_share 65 = .ok (.ifCond .ne 13, 3) := by decide +kernel
theorem dX7_share_68 : decode cX7_share 68 = .ok (.aload_n 0, 1) := by decide +kernel
theorem dX7_share_69 : decode cX7_share 69 = .ok (.getfield 114, 3) := by decide +kernel
theorem dX7_share_72 : decode cX7_share 72 = .ok (.lload 5, 2) := by decide +kernel
theorem dX7_share_74 : decode cX7_share 74 = .ok (.ldiv, 1) := by decide +kernel
theorem dX7_share_75 : decode cX7_share 75 = .ok (.goto 10, 3) := by decide +kernel
theorem dX7_share_78 : decode cX7_share 78 = .ok (.aload_n 0, 1) := by decide +kernel
theorem dX7_share_79 : decode cX7_share 79 = .ok (.getfield 118, 3) := by decide +kernel
theorem dX7_share_82 : decode cX7_share 82 = .ok (.lload 5, 2) := by decide +kernel
theorem dX7_share_84 : decode cX7_share 84 = .ok (.ldiv, 1) := by decide +kernel
theorem dX7_share_85 : decode cX7_share 85 = .ok (.lreturn, 1) := by decide +kernel
set_option maxRecDepth 20000 in
theorem ggX7_scale_X7_in : GoodIn wsX7_scale wsX7_in := goodIn_r _ [7] (by decide +kernel) (by decide +kernel)
set_option maxRecDepth 20000 in
theorem gX7_scale_X7_in : GoodIn wsX7_scale (va_wsS RX7 38 yX7_in wsX7_in) := goodIn_app (goodIn_of _ (by decide +kernel)) ggX7_scale_X7_in
set_option maxRecDepth 20000 in
theorem ggX7_scale_X7_falses : GoodIn wsX7_scale wsX7_falses := goodIn_r _ [11, 2, 3, 12, 13, 14, 15, 16, 17, 18, 19, 20, 21, 22, 23, 24, 25, 26, 27] (by decide +kernel) (by decide +kernel)
set_option maxRecDepth 20000 in
theorem gX7_scale_X7_falses : GoodIn wsX7_scale (wsV RX7 123 RX7 yX7_falses wsX7_falses) := goodIn_app (goodIn_of _ (by decide +kernel)) ggX7_scale_X7_falses
theorem dX7_scale_0 : decode cX7_scale 0 = .ok (.iload_n 1, 1) := by decide +kernel
theorem dX7_scale_1 : decode cX7_scale 1 = .ok (.iconst 1, 1) := by decide +kernel
theorem dX7_scale_2 : decode cX7_scale 2 = .ok (.bipush 8, 2) := by decide +kernel
theorem dX7_scale_4 : decode cX7_scale 4 = .ok (.invokestatic 38, 3) := by decide +kernel
theorem dX7_scale_7 : decode cX7_scale 7 = .ok (.ifCond .eq 22, 3) := by decide +kernel
theorem dX7_scale_10 : decode cX7_scale 10 = .ok (.iload_n 2, 1) := by decide +kernel
theorem dX7_scale_11 : decode cX7_scale 11 = .ok (.iconst 1, 1) := by decide +kernel
theorem dX7_scale_12 : decode cX7_scale 12 = .ok (.iload_n 1, 1) := by decide +kernel
theorem dX7_scale_13 : decode cX7_scale 13 = .ok (.invokestatic 38, 3) := by decide +kernel
theorem dX7_scale_16 : decode cX7_scale 16 = .ok (.ifCond .eq 13, 3) := by decide +kernel
theorem dX7_scale_19 : decode cX7_scale 19 = .ok (.iload_n 3, 1) := by decide +kernel
theorem dX7_scale_20 : decode cX7_scale 20 = .ok (.iconst 1, 1) := by decide +kernel
theorem dX7_scale_21 : decode cX7_scale 21 = .ok (.ldc 126, 2) := by decide +kernel
theorem dX7_scale_23 : decode cX7_scale 23 = .ok (.invokestatic 38, 3) := by decide +kernel
theorem dX7_scale_26 : decode cX7_scale 26 = .ok (.ifCond .ne 6, 3) := by decide +kernel
theorem dX7_scale_29 : decode cX7_scale 29 = .ok (.bipush (-102), 2) := by decide +kernel
theorem dX7_scale_31 : decode cX7_scale 31 = .ok (.ireturn, 1) := by decide +kernel
theorem dX7_scale_32 : decode cX7_scale 32 = .ok (.iconst 1, 1) := by decide +kernel
theorem dX7_scale_33 : decode cX7_scale 33 = .ok (.istore 4, 2) := by decide +kernel
theorem dX7_scale_35 : decode cX7_scale 35 = .ok (.iload 4, 2) := by decide +kernel
theorem dX7_scale_37 : decode cX7_scale 37 = .ok (.bipush 40, 2) := by decide +kernel
theorem dX7_scale_39 : decode cX7_scale 39 = .ok (.if_icmp .gt 35, 3) := by decide +kernel
theorem dX7_scale_42 : decode cX7_scale 42 = .ok (.aload_n 0, 1) := by decide +kernel
theorem dX7_scale_43 : decode cX7_scale 43 = .ok (.iload_n 1, 1) := by decide +kernel
theorem dX7_scale_44 : decode cX7_scale 44 = .ok (.iload_n 2, 1) := by decide +kernel
theorem dX7_scale_45 : decode cX7_scale 45 = .ok (.iload 4, 2) := by decide +kernel
theorem dX7_scale_47 : decode cX7_scale 47 = .ok (.invokevirtual 123, 3) := by decide +kernel
theorem dX7_scale_50 : decode cX7_scale 50 = .ok (.aload_n 0, 1) := by decide +kernel
theorem dX7_scale_51 : decode cX7_scale 51 = .ok (.getfield 114, 3) := by decide +kernel
theorem dX7_scale_54 : decode cX7_scale 54 = .ok (.iload_n 3, 1) := by decide +kernel
theorem dX7_scale_55 : decode cX7_scale 55 = .ok (.i2l, 1) := by decide +kernel
theorem dX7_scale_56 : decode cX7_scale 56 = .ok (.lmul, 1) := by decide +kernel
theorem dX7_scale_57 : decode cX7_scale 57 = .ok (.aload_n 0, 1) := by decide +kernel
theorem dX7_scale_58 : decode cX7_scale 58 = .ok (.getfield 118, 3) := by decide +kernel
theorem dX7_scale_61 : decode cX7_scale 61 = .ok (.lcmp, 1) := by decide +kernel
theorem dX7_scale_62 : decode cX7_scale 62 = .ok (.ifCond .gt 6, 3) := by decide +kernel
theorem dX7_scale_65 : decode cX7_scale 65 = .ok (.iload 4, 2) := by decide +kernel
theorem dX7_scale_67 : decode cX7_scale 67 = .ok (.ireturn, 1) := by decide +kernel
theorem dX7_scale_68 : decode cX7_scale 68 = .ok (.iinc 4 1, 3) := by decide +kernel
theorem dX7_scale_71 : decode cX7_scale 71 = .ok (.goto (-36), 3) := by decide +kernel
theorem dX7_scale_74 : decode cX7_scale 74 = .ok (.iconst (-1), 1) := by decide +kernel
theorem dX7_scale_75 : decode cX7_scale 75 = .ok (.ireturn, 1) := by decide +kernel
theorem dX7_told_0 : decode cX7_told 0 = .ok (.iload_n 1, 1) := by decide +kernel
theorem dX7_told_1 : decode cX7_told 1 = .ok (.ifCond .ne 10, 3) := by decide +kernel
theorem dX7_told_4 : decode cX7_told 4 = .ok (.aload_n 0, 1) := by decide +kernel
theorem dX7_told_5 : decode cX7_told 5 = .ok (.getfield 16, 3) := by decide +kernel
theorem dX7_told_8 : decode cX7_told 8 = .ok (.goto 41, 3) := by decide +kernel
theorem dX7_told_11 : decode cX7_told 11 = .ok (.iload_n 1, 1) := by decide +kernel
theorem dX7_told_12 : decode cX7_told 12 = .ok (.iconst 1, 1) := by decide +kernel
theorem dX7_told_13 : decode cX7_told 13 = .ok (.if_icmp .ne 10, 3) := by decide +kernel
theorem dX7_told_16 : decode cX7_told 16 = .ok (.aload_n 0, 1) := by decide +kernel
theorem dX7_told_17 : decode cX7_told 17 = .ok (.getfield 23, 3) := by decide +kernel
theorem dX7_told_20 : decode cX7_told 20 = .ok (.goto 29, 3) := by decide +kernel
theorem dX7_told_23 : decode cX7_told 23 = .ok (.iload_n 1, 1) := by decide +kernel
theorem dX7_told_24 : decode cX7_told 24 = .ok (.iconst 2, 1) := by decide +kernel
theorem dX7_told_25 : decode cX7_told 25 = .ok (.if_icmp .ne 10, 3) := by decide +kernel
theorem dX7_told_28 : decode cX7_told 28 = .ok (.aload_n 0, 1) := by decide +kernel
theorem dX7_told_29 : decode cX7_told 29 = .ok (.getfield 97, 3) := by decide +kernel
theorem dX7_told_32 : decode cX7_told 32 = .ok (.goto 17, 3) := by decide +kernel
theorem dX7_told_35 : decode cX7_told 35 = .ok (.iload_n 1, 1) := by decide +kernel
theorem dX7_told_36 : decode cX7_told 36 = .ok (.iconst 3, 1) := by decide +kernel
theorem dX7_told_37 : decode cX7_told 37 = .ok (.if_icmp .ne 10, 3) := by decide +kernel
theorem dX7_told_40 : decode cX7_told 40 = .ok (.aload_n 0, 1) := by decide +kernel
theorem dX7_told_41 : decode cX7_told 41 = .ok (.getfield 67, 3) := by decide +kernel
theorem dX7_told_44 : decode cX7_told 44 = .ok (.goto 5, 3) := by decide +kernel
theorem dX7_told_47 : decode cX7_told 47 = .ok (.bipush (-102), 2) := by decide +kernel
theorem dX7_told_49 : decode cX7_told 49 = .ok (.ireturn, 1) := by decide +kernel
theorem dX7_mix_0 : decode cX7_mix 0 = .ok (.aload_n 0, 1) := by decide +kernel
theorem dX7_mix_1 : decode cX7_mix 1 = .ok (.ldc2_w 127, 3) := by decide +kernel
theorem dX7_mix_4 : decode cX7_mix 4 = .ok (.aload_n 0, 1) := by decide +kernel
theorem dX7_mix_5 : decode cX7_mix 5 = .ok (.getfield 129, 3) := by decide +kernel
theorem dX7_mix_8 : decode cX7_mix 8 = .ok (.lmul, 1) := by decide +kernel
theorem dX7_mix_9 : decode cX7_mix 9 = .ok (.lload_n 1, 1) := by decide +kernel
theorem dX7_mix_10 : decode cX7_mix 10 = .ok (.ladd, 1) := by decide +kernel
theorem dX7_mix_11 : decode cX7_mix 11 = .ok (.putfield 129, 3) := by decide +kernel
theorem dX7_mix_14 : decode cX7_mix 14 = .ok (.return_, 1) := by decide +kernel
set_option maxRecDepth 20000 in
theorem ggX7_digest_X7_mix : GoodIn wsX7_digest wsX7_mix := goodIn_r _ [17, 18, 2, 19, 20, 21, 22, 23, 24, 25, 26, 27, 28, 29, 30, 31, 32, 33, 34] (by decide +kernel) (by decide +kernel)
set_option maxRecDepth 20000 in
theorem gX7_digest_X7_mix : GoodIn wsX7_digest (wsV RX7 134 RX7 yX7_mix wsX7_mix) := goodIn_app (goodIn_of _ (by decide +kernel)) ggX7_digest_X7_mix
theorem dX7_digest_0 : decode cX7_digest 0 = .ok (.aload_n 0, 1) := by decide +kernel
theorem dX7_digest_1 : decode cX7_digest 1 = .ok (.ldc2_w 132, 3) := by decide +kernel
theorem dX7_digest_4 : decode cX7_digest 4 = .ok (.putfield 129, 3) := by decide +kernel
theorem dX7_digest_7 : decode cX7_digest 7 = .ok (.iconst 0, 1) := by decide +kernel
theorem dX7_digest_8 : decode cX7_digest 8 = .ok (.istore_n 1, 1) := by decide +kernel
theorem dX7_digest_9 : decode cX7_digest 9 = .ok (.iload_n 1, 1) := by decide +kernel
theorem dX7_digest_10 : decode cX7_digest 10 = .ok (.bipush 6, 2) := by decide +kernel
theorem dX7_digest_12 : decode cX7_digest 12 = .ok (.if_icmp .ge 54, 3) := by decide +kernel
theorem dX7_digest_15 : decode cX7_digest 15 = .ok (.aload_n 0, 1) := by decide +kernel
theorem dX7_digest_16 : decode cX7_digest 16 = .ok (.aload_n 0, 1) := by decide +kernel
theorem dX7_digest_17 : decode cX7_digest 17 = .ok (.getfield 7, 3) := by decide +kernel
theorem dX7_digest_20 : decode cX7_digest 20 = .ok (.iload_n 1, 1) := by decide +kernel
theorem dX7_digest_21 : decode cX7_digest 21 = .ok (.iaload, 1) := by decide +kernel
theorem dX7_digest_22 : decode cX7_digest 22 = .ok (.i2l, 1) := by decide +kernel
theorem dX7_digest_23 : decode cX7_digest 23 = .ok (.invokevirtual 134, 3) := by decide +kernel
theorem dX7_digest_26 : decode cX7_digest 26 = .ok (.iconst 0, 1) := by decide +kernel
theorem dX7_digest_27 : decode cX7_digest 27 = .ok (.istore_n 2, 1) := by decide +kernel
theorem dX7_digest_28 : decode cX7_digest 28 = .ok (.iload_n 2, 1) := by decide +kernel
theorem dX7_digest_29 : decode cX7_digest 29 = .ok (.aload_n 0, 1) := by decide +kernel
theorem dX7_digest_30 : decode cX7_digest 30 = .ok (.getfield 7, 3) := by decide +kernel
theorem dX7_digest_33 : decode cX7_digest 33 = .ok (.iload_n 1, 1) := by decide +kernel
theorem dX7_digest_34 : decode cX7_digest 34 = .ok (.iaload, 1) := by decide +kernel
theorem dX7_digest_35 : decode cX7_digest 35 = .ok (.if_icmp .ge 25, 3) := by decide +kernel
theorem dX7_digest_38 : decode cX7_digest 38 = .ok (.aload_n 0, 1) := by decide +kernel
theorem dX7_digest_39 : decode cX7_digest 39 = .ok (.aload_n 0, 1) := by decide +kernel
theorem dX7_digest_40 : decode cX7_digest 40 = .ok (.getfield 13, 3) := by decide +kernel
theorem dX7_digest_43 : decode cX7_digest 43 = .ok (.bipush 16, 2) := by decide +kernel
theorem dX7_digest_45 : decode cX7_digest 45 = .ok (.iload_n 1, 1) := by decide +kernel
theorem dX7_digest_46 : decode cX7_digest 46 = .ok (.imul, 1) := by decide +kernel
theorem dX7_digest_47 : decode cX7_digest 47 = .ok (.iload_n 2, 1) := by decide +kernel
theorem dX7_digest_48 : decode cX7_digest 48 = .ok (.iadd, 1) := by decide +kernel
theorem dX7_digest_49 : decode cX7_digest 49 = .ok (.iaload, 1) := by decide +kernel
theorem dX7_digest_50 : decode cX7_digest 50 = .ok (.i2l, 1) := by decide +kernel
theorem dX7_digest_51 : decode cX7_digest 51 = .ok (.invokevirtual 134, 3) := by decide +kernel
theorem dX7_digest_54 : decode cX7_digest 54 = .ok (.iinc 2 1, 3) := by decide +kernel
theorem dX7_digest_57 : decode cX7_digest 57 = .ok (.goto (-29), 3) := by decide +kernel
theorem dX7_digest_60 : decode cX7_digest 60 = .ok (.iinc 1 1, 3) := by decide +kernel
theorem dX7_digest_63 : decode cX7_digest 63 = .ok (.goto (-54), 3) := by decide +kernel
theorem dX7_digest_66 : decode cX7_digest 66 = .ok (.aload_n 0, 1) := by decide +kernel
theorem dX7_digest_67 : decode cX7_digest 67 = .ok (.aload_n 0, 1) := by decide +kernel
theorem dX7_digest_68 : decode cX7_digest 68 = .ok (.getfield 16, 3) := by decide +kernel
theorem dX7_digest_71 : decode cX7_digest 71 = .ok (.i2l, 1) := by decide +kernel
theorem dX7_digest_72 : decode cX7_digest 72 = .ok (.invokevirtual 134, 3) := by decide +kernel
theorem dX7_digest_75 : decode cX7_digest 75 = .ok (.iconst 0, 1) := by decide +kernel
theorem dX7_digest_76 : decode cX7_digest 76 = .ok (.istore_n 1, 1) := by decide +kernel
theorem dX7_digest_77 : decode cX7_digest 77 = .ok (.iload_n 1, 1) := by decide +kernel
theorem dX7_digest_78 : decode cX7_digest 78 = .ok (.aload_n 0, 1) := by decide +kernel
theorem dX7_digest_79 : decode cX7_digest 79 = .ok (.getfield 16, 3) := by decide +kernel
theorem dX7_digest_82 : decode cX7_digest 82 = .ok (.if_icmp .ge 20, 3) := by decide +kernel
theorem dX7_digest_85 : decode cX7_digest 85 = .ok (.aload_n 0, 1) := by decide +kernel
theorem dX7_digest_86 : decode cX7_digest 86 = .ok (.aload_n 0, 1) := by decide +kernel
theorem dX7_digest_87 : decode cX7_digest 87 = .ok (.getfield 20, 3) := by decide +kernel
theorem dX7_digest_90 : decode cX7_digest 90 = .ok (.iload_n 1, 1) := by decide +kernel
theorem dX7_digest_91 : decode cX7_digest 91 = .ok (.iaload, 1) := by decide +kernel
theorem dX7_digest_92 : decode cX7_digest 92 = .ok (.i2l, 1) := by decide +kernel
theorem dX7_digest_93 : decode cX7_digest 93 = .ok (.invokevirtual 134, 3) := by decide +kernel
theorem dX7_digest_96 : decode cX7_digest 96 = .ok (.iinc 1 1, 3) := by decide +kernel
theorem dX7_digest_99 : decode cX7_digest 99 = .ok (.goto (-22), 3) := by decide +kernel
theorem dX7_digest_102 : decode cX7_digest 102 = .ok (.aload_n 0, 1) := by decide +kernel
theorem dX7_digest_103 : decode cX7_digest 103 = .ok (.aload_n 0, 1) := by decide +kernel
theorem dX7_digest_104 : decode cX7_digest 104 = .ok (.getfield 23, 3) := by decide +kernel
theorem dX7_digest_107 : decode cX7_digest 107 = .ok (.i2l, 1) := by decide +kernel
theorem dX7_digest_108 : decode cX7_digest 108 = .ok (.invokevirtual 134, 3) := by decide +kernel
theorem dX7_digest_111 : decode cX7_digest 111 = .ok (.iconst 0, 1) := by decide +kernel
theorem dX7_digest_112 : decode cX7_digest 112 = .ok (.istore_n 1, 1) := by decide +kernel
theorem dX7_digest_113 : decode cX7_digest 113 = .ok (.iload_n 1, 1) := by decide +kernel
theorem dX7_digest_114 : decode cX7_digest 114 = .ok (.aload_n 0, 1) := by decide +kernel
theorem dX7_digest_115 : decode cX7_digest 115 = .ok (.getfield 23, 3) := by decide +kernel
theorem dX7_digest_118 : decode cX7_digest 118 = .ok (.if_icmp .ge 31, 3) := by decide +kernel
theorem dX7_digest_121 : decode cX7_digest 121 = .ok (.aload_n 0, 1) := by decide +kernel
theorem dX7_digest_122 : decode cX7_digest 122 = .ok (.aload_n 0, 1) := by decide +kernel
theorem dX7_digest_123 : decode cX7_digest 123 = .ok (.getfield 26, 3) := by decide +kernel
theorem dX7_digest_126 : decode cX7_digest 126 = .ok (.iload_n 1, 1) := by decide +kernel
theorem dX7_digest_127 : decode cX7_digest 127 = .ok (.iaload, 1) := by decide +kernel
theorem dX7_digest_128 : decode cX7_digest 128 = .ok (.i2l, 1) := by decide +kernel
theorem dX7_digest_129 : decode cX7_digest 129 = .ok (.invokevirtual 134, 3) := by decide +kernel
theorem dX7_digest_132 : decode cX7_digest 132 = .ok (.aload_n 0, 1) := by decide +kernel
theorem dX7_digest_133 : decode cX7_digest 133 = .ok (.aload_n 0, 1) := by decide +kernel
theorem dX7_digest_134 : decode cX7_digest 134 = .ok (.getfield 29, 3) := by decide +kernel
theorem dX7_digest_137 : decode cX7_digest 137 = .ok (.iload_n 1, 1) := by decide +kernel
theorem dX7_digest_138 : decode cX7_digest 138 = .ok (.iaload, 1) := by decide +kernel
theorem dX7_digest_139 : decode cX7_digest 139 = .ok (.i2l, 1) := by decide +kernel
theorem dX7_digest_140 : decode cX7_digest 140 = .ok (.invokevirtual 134, 3) := by decide +kernel
theorem dX7_digest_143 : decode cX7_digest 143 = .ok (.iinc 1 1, 3) := by decide +kernel
theorem dX7_digest_146 : decode cX7_digest 146 = .ok (.goto (-33), 3) := by decide +kernel
theorem dX7_digest_149 : decode cX7_digest 149 = .ok (.iconst 0, 1) := by decide +kernel
theorem dX7_digest_150 : decode cX7_digest 150 = .ok (.istore_n 1, 1) := by decide +kernel
theorem dX7_digest_151 : decode cX7_digest 151 = .ok (.iload_n 1, 1) := by decide +kernel
theorem dX7_digest_152 : decode cX7_digest 152 = .ok (.aload_n 0, 1) := by decide +kernel
theorem dX7_digest_153 : decode cX7_digest 153 = .ok (.getfield 97, 3) := by decide +kernel
theorem dX7_digest_156 : decode cX7_digest 156 = .ok (.if_icmp .ge 20, 3) := by decide +kernel
theorem dX7_digest_159 : decode cX7_digest 159 = .ok (.aload_n 0, 1) := by decide +kernel
theorem dX7_digest_160 : decode cX7_digest 160 = .ok (.aload_n 0, 1) := by decide +kernel
theorem dX7_digest_161 : decode cX7_digest 161 = .ok (.getfield 32, 3) := by decide +kernel
theorem dX7_digest_164 : decode cX7_digest 164 = .ok (.iload_n 1, 1) := by decide +kernel
theorem dX7_digest_165 : decode cX7_digest 165 = .ok (.iaload, 1) := by decide +kernel
theorem dX7_digest_166 : decode cX7_digest 166 = .ok (.i2l, 1) := by decide +kernel
theorem dX7_digest_167 : decode cX7_digest 167 = .ok (.invokevirtual 134, 3) := by decide +kernel
theorem dX7_digest_170 : decode cX7_digest 170 = .ok (.iinc 1 1, 3) := by decide +kernel
theorem dX7_digest_173 : decode cX7_digest 173 = .ok (.goto (-22), 3) := by decide +kernel
theorem dX7_digest_176 : decode cX7_digest 176 = .ok (.aload_n 0, 1) := by decide +kernel
theorem dX7_digest_177 : decode cX7_digest 177 = .ok (.aload_n 0, 1) := by decide +kernel
theorem dX7_digest_178 : decode cX7_digest 178 = .ok (.getfield 67, 3) := by decide +kernel
theorem dX7_digest_181 : decode cX7_digest 181 = .ok (.i2l, 1) := by decide +kernel
theorem dX7_digest_182 : decode cX7_digest 182 = .ok (.invokevirtual 134, 3) := by decide +kernel
theorem dX7_digest_185 : decode cX7_digest 185 = .ok (.aload_n 0, 1) := by decide +kernel
theorem dX7_digest_186 : decode cX7_digest 186 = .ok (.getfield 129, 3) := by decide +kernel
theorem dX7_digest_189 : decode cX7_digest 189 = .ok (.lreturn, 1) := by decide +kernel
theorem dJ6_bitCount_0f7a4_0 : decode cJ6_bitCount_0f7a4 0 = .ok (.iload_n 0, 1) := by decide +kernel
theorem dJ6_bitCount_0f7a4_1 : decode cJ6_bitCount_0f7a4 1 = .ok (.iload_n 0, 1) := by decide +kernel
theorem dJ6_bitCount_0f7a4_2 : decode cJ6_bitCount_0f7a4 2 = .ok (.iconst 1, 1) := by decide +kernel
theorem dJ6_bitCount_0f7a4_3 : decode cJ6_bitCount_0f7a4 3 = .ok (.iushr, 1) := by decide +kernel
theorem dJ6_bitCount_0f7a4_4 : decode cJ6_bitCount_0f7a4 4 = .ok (.ldc_w 265, 3) := by decide +kernel
theorem dJ6_bitCount_0f7a4_7 : decode cJ6_bitCount_0f7a4 7 = .ok (.iand, 1) := by decide +kernel
theorem dJ6_bitCount_0f7a4_8 : decode cJ6_bitCount_0f7a4 8 = .ok (.isub, 1) := by decide +kernel
theorem dJ6_bitCount_0f7a4_9 : decode cJ6_bitCount_0f7a4 9 = .ok (.istore_n 0, 1) := by decide +kernel
theorem dJ6_bitCount_0f7a4_10 : decode cJ6_bitCount_0f7a4 10 = .ok (.iload_n 0, 1) := by decide +kernel
theorem dJ6_bitCount_0f7a4_11 : decode cJ6_bitCount_0f7a4 11 = .ok (.ldc_w 266, 3) := by decide +kernel
theorem dJ6_bitCount_0f7a4_14 : decode cJ6_bitCount_0f7a4 14 = .ok (.iand, 1) := by decide +kernel
theorem dJ6_bitCount_0f7a4_15 : decode cJ6_bitCount_0f7a4 15 = .ok (.iload_n 0, 1) := by decide +kernel
theorem dJ6_bitCount_0f7a4_16 : decode cJ6_bitCount_0f7a4 16 = .ok (.iconst 2, 1) := by decide +kernel
theorem dJ6_bitCount_0f7a4_17 : decode cJ6_bitCount_0f7a4 17 = .ok (.iushr, 1) := by decide +kernel
theorem dJ6_bitCount_0f7a4_18 : decode cJ6_bitCount_0f7a4 18 = .ok (.ldc_w 266, 3) := by decide +kernel
theorem dJ6_bitCount_0f7a4_21 : decode cJ6_bitCount_0f7a4 21 = .ok (.iand, 1) := by decide +kernel
theorem dJ6_bitCount_0f7a4_22 : decode cJ6_bitCount_0f7a4 22 = .ok (.iadd, 1) := by decide +kernel
theorem dJ6_bitCount_0f7a4_23 : decode cJ6_bitCount_0f7a4 23 = .ok (.istore_n 0, 1) := by decide +kernel
theorem dJ6_bitCount_0f7a4_24 : decode cJ6_bitCount_0f7a4 24 = .ok (.iload_n 0, 1) := by decide +kernel
theorem dJ6_bitCount_0f7a4_25 : decode cJ6_bitCount_0f7a4 25 = .ok (.iload_n 0, 1) := by decide +kernel
theorem dJ6_bitCount_0f7a4_26 : decode cJ6_bitCount_0f7a4 26 = .ok (.iconst 4, 1) := by decide +kernel
theorem dJ6_bitCount_0f7a4_27 : decode cJ6_bitCount_0f7a4 27 = .ok (.iushr, 1) := by decide +kernel
theorem dJ6_bitCount_0f7a4_28 : decode cJ6_bitCount_0f7a4 28 = .ok (.iadd, 1) := by decide +kernel
theorem dJ6_bitCount_0f7a4_29 : decode cJ6_bitCount_0f7a4 29 = .ok (.ldc_w 267, 3) := by decide +kernel
theorem dJ6_bitCount_0f7a4_32 : decode cJ6_bitCount_0f7a4 32 = .ok (.iand, 1) := by decide +kernel
theorem dJ6_bitCount_0f7a4_33 : decode cJ6_bitCount_0f7a4 33 = .ok (.istore_n 0, 1) := by decide +kernel
theorem dJ6_bitCount_0f7a4_34 : decode cJ6_bitCount_0f7a4 34 = .ok (.iload_n 0, 1) := by decide +kernel
theorem dJ6_bitCount_0f7a4_35 : decode cJ6_bitCount_0f7a4 35 = .ok (.iload_n 0, 1) := by decide +kernel
theorem dJ6_bitCount_0f7a4_36 : decode cJ6_bitCount_0f7a4 36 = .ok (.bipush 8, 2) := by decide +kernel
theorem dJ6_bitCount_0f7a4_38 : decode cJ6_bitCount_0f7a4 38 = .ok (.iushr, 1) := by decide +kernel
theorem dJ6_bitCount_0f7a4_39 : decode cJ6_bitCount_0f7a4 39 = .ok (.iadd, 1) := by decide +kernel
theorem dJ6_bitCount_0f7a4_40 : decode cJ6_bitCount_0f7a4 40 = .ok (.istore_n 0, 1) := by decide +kernel
theorem dJ6_bitCount_0f7a4_41 : decode cJ6_bitCount_0f7a4 41 = .ok (.iload_n 0, 1) := by decide +kernel
theorem dJ6_bitCount_0f7a4_42 : decode cJ6_bitCount_0f7a4 42 = .ok (.iload_n 0, 1) := by decide +kernel
theorem dJ6_bitCount_0f7a4_43 : decode cJ6_bitCount_0f7a4 43 = .ok (.bipush 16, 2) := by decide +kernel
theorem dJ6_bitCount_0f7a4_45 : decode cJ6_bitCount_0f7a4 45 = .ok (.iushr, 1) := by decide +kernel
theorem dJ6_bitCount_0f7a4_46 : decode cJ6_bitCount_0f7a4 46 = .ok (.iadd, 1) := by decide +kernel
theorem dJ6_bitCount_0f7a4_47 : decode cJ6_bitCount_0f7a4 47 = .ok (.istore_n 0, 1) := by decide +kernel
theorem dJ6_bitCount_0f7a4_48 : decode cJ6_bitCount_0f7a4 48 = .ok (.iload_n 0, 1) := by decide +kernel
theorem dJ6_bitCount_0f7a4_49 : decode cJ6_bitCount_0f7a4 49 = .ok (.bipush 63, 2) := by decide +kernel
theorem dJ6_bitCount_0f7a4_51 : decode cJ6_bitCount_0f7a4 51 = .ok (.iand, 1) := by decide +kernel
theorem dJ6_bitCount_0f7a4_52 : decode cJ6_bitCount_0f7a4 52 = .ok (.ireturn, 1) := by decide +kernel
theorem dJ9_abs_0f7a4_0 : decode cJ9_abs_0f7a4 0 = .ok (.iload_n 0, 1) := by decide +kernel
theorem dJ9_abs_0f7a4_1 : decode cJ9_abs_0f7a4 1 = .ok (.ifCond .ge 8, 3) := by decide +kernel
theorem dJ9_abs_0f7a4_4 : decode cJ9_abs_0f7a4 4 = .ok (.iload_n 0, 1) := by decide +kernel
theorem dJ9_abs_0f7a4_5 : decode cJ9_abs_0f7a4 5 = .ok (.ineg, 1) := by decide +kernel
theorem dJ9_abs_0f7a4_6 : decode cJ9_abs_0f7a4 6 = .ok (.goto 4, 3) := by decide +kernel
theorem dJ9_abs_0f7a4_9 : decode cJ9_abs_0f7a4 9 = .ok (.iload_n 0, 1) := by decide +kernel
theorem dJ9_abs_0f7a4_10 : decode cJ9_abs_0f7a4 10 = .ok (.ireturn, 1) := by decide +kernel
theorem dJ9_max_7cf53_0 : decode cJ9_max_7cf53 0 = .ok (.iload_n 0, 1) := by decide +kernel
theorem dJ9_max_7cf53_1 : decode cJ9_max_7cf53 1 = .ok (.iload_n 1, 1) := by decide +kernel
theorem dJ9_max_7cf53_2 : decode cJ9_max_7cf53 2 = .ok (.if_icmp .lt 7, 3) := by decide +kernel
theorem dJ9_max_7cf53_5 : decode cJ9_max_7cf53 5 = .ok (.iload_n 0, 1) := by decide +kernel
theorem dJ9_max_7cf53_6 : decode cJ9_max_7cf53 6 = .ok (.goto 4, 3) := by decide +kernel
theorem dJ9_max_7cf53_9 : decode cJ9_max_7cf53 9 = .ok (.iload_n 1, 1) := by decide +kernel
theorem dJ9_max_7cf53_10 : decode cJ9_max_7cf53 10 = .ok (.ireturn, 1) := by decide +kernel
theorem dJ9_min_7cf53_0 : decode cJ9_min_7cf53 0 = .ok (.iload_n 0, 1) := by decide +kernel
theorem dJ9_min_7cf53_1 : decode cJ9_min_7cf53 1 = .ok (.iload_n 1, 1) := by decide +kernel
theorem dJ9_min_7cf53_2 : decode cJ9_min_7cf53 2 = .ok (.if_icmp .gt 7, 3) := by decide +kernel
theorem dJ9_min_7cf53_5 : decode cJ9_min_7cf53 5 = .ok (.iload_n 0, 1) := by decide +kernel
theorem dJ9_min_7cf53_6 : decode cJ9_min_7cf53 6 = .ok (.goto 4, 3) := by decide +kernel
theorem dJ9_min_7cf53_9 : decode cJ9_min_7cf53 9 = .ok (.iload_n 1, 1) := by decide +kernel
theorem dJ9_min_7cf53_10 : decode cJ9_min_7cf53 10 = .ok (.ireturn, 1) := by decide +kernel
