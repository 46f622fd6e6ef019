set_option maxRecDepth 20000 in
theorem gX6_isSign_X6_within : GoodIn wsX6_isSign (va_wsS RX6 45 yX6_within wsX6_within) := goodIn_app (goodIn_of _ (by decide +kernel)) ggX6_isSign_X6_within
theorem dX6_isSign_0 : decode cX6_isSign 0 = .ok (.iload_n 0, 1) := by decide +kernel
theorem dX6_isSign_1 : decode cX6_isSign 1 = .ok (.iconst 0, 1) := by decide +kernel
theorem dX6_isSign_2 : decode cX6_isSign 2 = .ok (.iconst 5, 1) := by decide +kernel
theorem dX6_isSign_3 : decode cX6_isSign 3 = .ok (.invokestatic 45, 3) := by decide +kernel
theorem dX6_isSign_6 : decode cX6_isSign 6 = .ok (.ireturn, 1) := by decide +kernel
set_option maxRecDepth 20000 in
theorem ggX6_isPart_X6_within : GoodIn wsX6_isPart wsX6_within := goodIn_r _ [4] (by decide +kernel) (by decide +kernel)
set_option maxRecDepth 20000 in
theorem gX6_isPart_X6_within : GoodIn wsX6_isPart (va_wsS RX6 45 yX6_within wsX6_within) := goodIn_app (goodIn_of _ (by decide +kernel)) ggX6_isPart_X6_within
theorem dX6_isPart_0 : decode cX6_isPart 0 = .ok (.iload_n 0, 1) := by decide +kernel
theorem dX6_isPart_1 : decode cX6_isPart 1 = .ok (.iconst 0, 1) := by decide +kernel
theorem dX6_isPart_2 : decode cX6_isPart 2 = .ok (.iconst 1, 1) := by decide +kernel
theorem dX6_isPart_3 : decode cX6_isPart 3 = .ok (.invokestatic 45, 3) := by decide +kernel
theorem dX6_isPart_6 : decode cX6_isPart 6 = .ok (.ireturn, 1) := by decide +kernel
theorem dX6_partOfTurn_0 : decode cX6_partOfTurn 0 = .ok (.iload_n 0, 1) := by decide +kernel
theorem dX6_partOfTurn_1 : decode cX6_partOfTurn 1 = .ok (.iload_n 1, 1) := by decide +kernel
theorem dX6_partOfTurn_2 : decode cX6_partOfTurn 2 = .ok (.isub, 1) := by decide +kernel
theorem dX6_partOfTurn_3 : decode cX6_partOfTurn 3 = .ok (.iconst 3, 1) := by decide +kernel
theorem dX6_partOfTurn_4 : decode cX6_partOfTurn 4 = .ok (.iand, 1) := by decide +kernel
theorem dX6_partOfTurn_5 : decode cX6_partOfTurn 5 = .ok (.istore_n 2, 1) := by decide +kernel
theorem dX6_partOfTurn_6 : decode cX6_partOfTurn 6 = .ok (.iload_n 2, 1) := by decide +kernel
theorem dX6_partOfTurn_7 : decode cX6_partOfTurn 7 = .ok (.ifCond .ne 5, 3) := by decide +kernel
theorem dX6_partOfTurn_10 : decode cX6_partOfTurn 10 = .ok (.iconst 1, 1) := by decide +kernel
theorem dX6_partOfTurn_11 : decode cX6_partOfTurn 11 = .ok (.ireturn, 1) := by decide +kernel
theorem dX6_partOfTurn_12 : decode cX6_partOfTurn 12 = .ok (.iload_n 2, 1) := by decide +kernel
theorem dX6_partOfTurn_13 : decode cX6_partOfTurn 13 = .ok (.iconst 2, 1) := by decide +kernel
theorem dX6_partOfTurn_14 : decode cX6_partOfTurn 14 = .ok (.if_icmp .ne 7, 3) := by decide +kernel
theorem dX6_partOfTurn_17 : decode cX6_partOfTurn 17 = .ok (.iconst (-1), 1) := by decide +kernel
theorem dX6_partOfTurn_18 : decode cX6_partOfTurn 18 = .ok (.goto 4, 3) := by decide +kernel
theorem dX6_partOfTurn_21 : decode cX6_partOfTurn 21 = .ok (.iconst 0, 1) := by decide +kernel
theorem dX6_partOfTurn_22 : decode cX6_partOfTurn 22 = .ok (.ireturn, 1) := by decide +kernel
theorem dX6_commonDivisor_0 : decode cX6_commonDivisor 0 = .ok (.lload_n 0, 1) := by decide +kernel
theorem dX6_commonDivisor_1 : decode cX6_commonDivisor 1 = .ok (.lstore 4, 2) := by decide +kernel
theorem dX6_commonDivisor_3 : decode cX6_commonDivisor 3 = .ok (.lload_n 2, 1) := by decide +kernel
theorem dX6_commonDivisor_4 : decode cX6_commonDivisor 4 = .ok (.lstore 6, 2) := by decide +kernel
theorem dX6_commonDivisor_6 : decode cX6_commonDivisor 6 = .ok (.iconst 0, 1) := by decide +kernel
theorem dX6_commonDivisor_7 : decode cX6_commonDivisor 7 = .ok (.istore 8, 2) := by decide +kernel
theorem dX6_commonDivisor_9 : decode cX6_commonDivisor 9 = .ok (.iload 8, 2) := by decide +kernel
theorem dX6_commonDivisor_11 : decode cX6_commonDivisor 11 = .ok (.sipush 1000, 3) := by decide +kernel
theorem dX6_commonDivisor_14 : decode cX6_commonDivisor 14 = .ok (.if_icmp .ge 31, 3) := by decide +kernel
theorem dX6_commonDivisor_17 : decode cX6_commonDivisor 17 = .ok (.lload 6, 2) := by decide +kernel
theorem dX6_commonDivisor_19 : decode cX6_commonDivisor 19 = .ok (.lconst 0, 1) := by decide +kernel
theorem dX6_commonDivisor_20 : decode cX6_commonDivisor 20 = .ok (.lcmp, 1) := by decide +kernel
theorem dX6_commonDivisor_21 : decode cX6_commonDivisor 21 = .ok (.ifCond .eq 24, 3) := by decide +kernel
theorem dX6_commonDivisor_24 : decode cX6_commonDivisor 24 = .ok (.lload 4, 2) := by decide +kernel
theorem dX6_commonDivisor_26 : decode cX6_commonDivisor 26 = .ok (.lload 6, 2) := by decide +kernel
theorem dX6_commonDivisor_28 : decode cX6_commonDivisor 28 = .ok (.lrem, 1) := by decide +kernel
theorem dX6_commonDivisor_29 : decode cX6_commonDivisor 29 = .ok (.lstore 9, 2) := by decide +kernel
theorem dX6_commonDivisor_31 : decode cX6_commonDivisor 31 = .ok (.lload 6, 2) := by decide +kernel
theorem dX6_commonDivisor_33 : decode cX6_commonDivisor 33 = .ok (.lstore 4, 2) := by decide +kernel
theorem dX6_commonDivisor_35 : decode cX6_commonDivisor 35 = .ok (.lload 9, 2) := by decide +kernel
theorem dX6_commonDivisor_37 : decode cX6_commonDivisor 37 = .ok (.lstore 6, 2) := by decide +kernel
theorem dX6_commonDivisor_39 : decode cX6_commonDivisor 39 = .ok (.iinc 8 1, 3) := by decide +kernel
theorem dX6_commonDivisor_42 : decode cX6_commonDivisor 42 = .ok (.goto (-33), 3) := by decide +kernel
theorem dX6_commonDivisor_45 : decode cX6_commonDivisor 45 = .ok (.lload 4, 2) := by decide +kernel
theorem dX6_commonDivisor_47 : decode cX6_commonDivisor 47 = .ok (.lconst 1, 1) := by decide +kernel
theorem dX6_commonDivisor_48 : decode cX6_commonDivisor 48 = .ok (.lcmp, 1) := by decide +kernel
theorem dX6_commonDivisor_49 : decode cX6_commonDivisor 49 = .ok (.ifCond .lt 8, 3) := by decide +kernel
theorem dX6_commonDivisor_52 : decode cX6_commonDivisor 52 = .ok (.lload 4, 2) := by decide +kernel
theorem dX6_commonDivisor_54 : decode cX6_commonDivisor 54 = .ok (.goto 4, 3) := by decide +kernel
theorem dX6_commonDivisor_57 : decode cX6_commonDivisor 57 = .ok (.lconst 1, 1) := by decide +kernel
theorem dX6_commonDivisor_58 : decode cX6_commonDivisor 58 = .ok (.lreturn, 1) := by decide +kernel
theorem dX7_init_0 : decode cX7_init 0 = .ok (.aload_n 0, 1) := by decide +kernel
theorem dX7_init_1 : decode cX7_init 1 = .ok (.invokespecial 1, 3) := by decide +kernel
theorem dX7_init_4 : decode cX7_init 4 = .ok (.aload_n 0, 1) := by decide +kernel
theorem dX7_init_5 : decode cX7_init 5 = .ok (.bipush 6, 2) := by decide +kernel
theorem dX7_init_7 : decode cX7_init 7 = .ok (.newarray .int, 2) := by decide +kernel
theorem dX7_init_9 : decode cX7_init 9 = .ok (.putfield 7, 3) := by decide +kernel
theorem dX7_init_12 : decode cX7_init 12 = .ok (.aload_n 0, 1) := by decide +kernel
theorem dX7_init_13 : decode cX7_init 13 = .ok (.bipush 96, 2) := by decide +kernel
theorem dX7_init_15 : decode cX7_init 15 = .ok (.newarray .int, 2) := by decide +kernel
theorem dX7_init_17 : decode cX7_init 17 = .ok (.putfield 13, 3) := by decide +kernel
theorem dX7_init_20 : decode cX7_init 20 = .ok (.aload_n 0, 1) := by decide +kernel
theorem dX7_init_21 : decode cX7_init 21 = .ok (.iconst 1, 1) := by decide +kernel
theorem dX7_init_22 : decode cX7_init 22 = .ok (.putfield 16, 3) := by decide +kernel
theorem dX7_init_25 : decode cX7_init 25 = .ok (.aload_n 0, 1) := by decide +kernel
theorem dX7_init_26 : decode cX7_init 26 = .ok (.bipush 24, 2) := by decide +kernel
theorem dX7_init_28 : decode cX7_init 28 = .ok (.newarray .int, 2) := by decide +kernel
theorem dX7_init_30 : decode cX7_init 30 = .ok (.putfield 20, 3) := by decide +kernel
theorem dX7_init_33 : decode cX7_init 33 = .ok (.aload_n 0, 1) := by decide +kernel
theorem dX7_init_34 : decode cX7_init 34 = .ok (.iconst 1, 1) := by decide +kernel
theorem dX7_init_35 : decode cX7_init 35 = .ok (.putfield 23, 3) := by decide +kernel
theorem dX7_init_38 : decode cX7_init 38 = .ok (.aload_n 0, 1) := by decide +kernel
theorem dX7_init_39 : decode cX7_init 39 = .ok (.iconst 4, 1) := by decide +kernel
theorem dX7_init_40 : decode cX7_init 40 = .ok (.newarray .int, 2) := by decide +kernel
theorem dX7_init_42 : decode cX7_init 42 = .ok (.putfield 26, 3) := by decide +kernel
theorem dX7_init_45 : decode cX7_init 45 = .ok (.aload_n 0, 1) := by decide +kernel
theorem dX7_init_46 : decode cX7_init 46 = .ok (.iconst 4, 1) := by decide +kernel
theorem dX7_init_47 : decode cX7_init 47 = .ok (.newarray .int, 2) := by decide +kernel
theorem dX7_init_49 : decode cX7_init 49 = .ok (.putfield 29, 3) := by decide +kernel
theorem dX7_init_52 : decode cX7_init 52 = .ok (.aload_n 0, 1) := by decide +kernel
theorem dX7_init_53 : decode cX7_init 53 = .ok (.bipush 64, 2) := by decide +kernel
theorem dX7_init_55 : decode cX7_init 55 = .ok (.newarray .int, 2) := by decide +kernel
theorem dX7_init_57 : decode cX7_init 57 = .ok (.putfield 32, 3) := by decide +kernel
theorem dX7_init_60 : decode cX7_init 60 = .ok (.aload_n 0, 1) := by decide +kernel
theorem dX7_init_61 : decode cX7_init 61 = .ok (.bipush 16, 2) := by decide +kernel
theorem dX7_init_63 : decode cX7_init 63 = .ok (.newarray .int, 2) := by decide +kernel
theorem dX7_init_65 : decode cX7_init 65 = .ok (.putfield 35, 3) := by decide +kernel
theorem dX7_init_68 : decode cX7_init 68 = .ok (.iconst 0, 1) := by decide +kernel
theorem dX7_init_69 : decode cX7_init 69 = .ok (.istore_n 1, 1) := by decide +kernel
theorem dX7_init_70 : decode cX7_init 70 = .ok (.iload_n 1, 1) := by decide +kernel
theorem dX7_init_71 : decode cX7_init 71 = .ok (.bipush 6, 2) := by decide +kernel
theorem dX7_init_73 : decode cX7_init 73 = .ok (.if_icmp .ge 16, 3) := by decide +kernel
theorem dX7_init_76 : decode cX7_init 76 = .ok (.aload_n 0, 1) := by decide +kernel
theorem dX7_init_77 : decode cX7_init 77 = .ok (.getfield 7, 3) := by decide +kernel
theorem dX7_init_80 : decode cX7_init 80 = .ok (.iload_n 1, 1) := by decide +kernel
theorem dX7_init_81 : decode cX7_init 81 = .ok (.iconst 1, 1) := by decide +kernel
theorem dX7_init_82 : decode cX7_init 82 = .ok (.iastore, 1) := by decide +kernel
theorem dX7_init_83 : decode cX7_init 83 = .ok (.iinc 1 1, 3) := by decide +kernel
theorem dX7_init_86 : decode cX7_init 86 = .ok (.goto (-16), 3) := by decide +kernel
theorem dX7_init_89 : decode cX7_init 89 = .ok (.aload_n 0, 1) := by decide +kernel
theorem dX7_init_90 : decode cX7_init 90 = .ok (.getfield 20, 3) := by decide +kernel
theorem dX7_init_93 : decode cX7_init 93 = .ok (.iconst 0, 1) := by decide +kernel
theorem dX7_init_94 : decode cX7_init 94 = .ok (.iconst 1, 1) := by decide +kernel
theorem dX7_init_95 : decode cX7_init 95 = .ok (.iastore, 1) := by decide +kernel
theorem dX7_init_96 : decode cX7_init 96 = .ok (.aload_n 0, 1) := by decide +kernel
theorem dX7_init_97 : decode cX7_init 97 = .ok (.getfield 26, 3) := by decide +kernel
theorem dX7_init_100 : decode cX7_init 100 = .ok (.iconst 0, 1) := by decide +kernel
theorem dX7_init_101 : decode cX7_init 101 = .ok (.iconst 2, 1) := by decide +kernel
theorem dX7_init_102 : decode cX7_init 102 = .ok (.iastore, 1) := by decide +kernel
theorem dX7_init_103 : decode cX7_init 103 = .ok (.aload_n 0, 1) := by decide +kernel
theorem dX7_init_104 : decode cX7_init 104 = .ok (.getfield 29, 3) := by decide +kernel
theorem dX7_init_107 : decode cX7_init 107 = .ok (.iconst 0, 1) := by decide +kernel
theorem dX7_init_108 : decode cX7_init 108 = .ok (.iconst (-1), 1) := by decide +kernel
theorem dX7_init_109 : decode cX7_init 109 = .ok (.iastore, 1) := by decide +kernel
theorem dX7_init_110 : decode cX7_init 110 = .ok (.return_, 1) := by decide +kernel
theorem dX7_in_0 : decode cX7_in 0 = .ok (.iload_n 0, 1) := by decide +kernel
theorem dX7_in_1 : decode cX7_in 1 = .ok (.iload_n 1, 1) := by decide +kernel
theorem dX7_in_2 : decode cX7_in 2 = .ok (.if_icmp .lt 12, 3) := by decide +kernel
theorem dX7_in_5 : decode cX7_in 5 = .ok (.iload_n 0, 1) := by decide +kernel
theorem dX7_in_6 : decode cX7_in 6 = .ok (.iload_n 2, 1) := by decide +kernel
theorem dX7_in_7 : decode cX7_in 7 = .ok (.if_icmp .gt 7, 3) := by decide +kernel
theorem dX7_in_10 : decode cX7_in 10 = .ok (.iconst 1, 1) := by decide +kernel
theorem dX7_in_11 : decode cX7_in 11 = .ok (.goto 4, 3) := by decide +kernel
theorem dX7_in_14 : decode cX7_in 14 = .ok (.iconst 0, 1) := by decide +kernel
theorem dX7_in_15 : decode cX7_in 15 = .ok (.ireturn, 1) := by decide +kernel
set_option maxRecDepth 20000 in
theorem ggX7_isSign_X7_in : GoodIn wsX7_isSign wsX7_in := goodIn_r _ [4] (by decide +kernel) (by decide +kernel)
set_option maxRecDepth 20000 in
theorem gX7_isSign_X7_in : GoodIn wsX7_isSign (va_wsS RX7 38 yX7_in wsX7_in) := goodIn_app (goodIn_of _ (by decide +kernel)) ggX7_isSign_X7_in
theorem dX7_isSign_0 : decode cX7_isSign 0 = .ok (.iload_n 0, 1) := by decide +kernel
theorem dX7_isSign_1 : decode cX7_isSign 1 = .ok (.iconst 0, 1) := by decide +kernel
theorem dX7_isSign_2 : decode cX7_isSign 2 = .ok (.iconst 5, 1) := by decide +kernel
theorem dX7_isSign_3 : decode cX7_isSign 3 = .ok (.invokestatic 38, 3) := by decide +kernel
theorem dX7_isSign_6 : decode cX7_isSign 6 = .ok (.ireturn, 1) := by decide +kernel
set_option maxRecDepth 20000 in
theorem ggX7_size_X7_isSign : GoodIn wsX7_size wsX7_isSign := goodIn_r _ [6, 7, 8, 5, 9] (by decide +kernel) (by decide +kernel)
set_option maxRecDepth 20000 in
theorem gX7_size_X7_isSign : GoodIn wsX7_size (va_wsS RX7 42 yX7_isSign wsX7_isSign) := goodIn_app (goodIn_of _ (by decide +kernel)) ggX7_size_X7_isSign
set_option maxRecDepth 20000 in
theorem ggX7_size_X7_in : GoodIn wsX7_size wsX7_in := goodIn_r _ [9] (by decide +kernel) (by decide +kernel)
set_option maxRecDepth 20000 in
theorem gX7_size_X7_in : GoodIn wsX7_size (va_wsS RX7 38 yX7_in wsX7_in) := goodIn_app (goodIn_of _ (by decide +kernel)) ggX7_size_X7_in
theorem dX7_size_0 : decode cX7_size 0 = .ok (.iload_n 1, 1) := by decide +kernel
theorem dX7_size_1 : decode cX7_size 1 = .ok (.invokestatic 42, 3) := by decide +kernel
theorem dX7_size_4 : decode cX7_size 4 = .ok (.ifCond .ne 6, 3) := by decide +kernel
theorem dX7_size_7 : decode cX7_size 7 = .ok (.bipush (-101), 2) := by decide +kernel
theorem dX7_size_9 : decode cX7_size 9 = .ok (.ireturn, 1) := by decide +kernel
theorem dX7_size_10 : decode cX7_size 10 = .ok (.iload_n 2, 1) := by decide +kernel
theorem dX7_size_11 : decode cX7_size 11 = .ok (.iconst 1, 1) := by decide +kernel
theorem dX7_size_12 : decode cX7_size 12 = .ok (.bipush 16, 2) := by decide +kernel
theorem dX7_size_14 : decode cX7_size 14 = .ok (.invokestatic 38, 3) := by decide +kernel
theorem dX7_size_17 : decode cX7_size 17 = .ok (.ifCond .ne 6, 3) := by decide +kernel
theorem dX7_size_20 : decode cX7_size 20 = .ok (.bipush (-102), 2) := by decide +kernel
theorem dX7_size_22 : decode cX7_size 22 = .ok (.ireturn, 1) := by decide +kernel
theorem dX7_size_23 : decode cX7_size 23 = .ok (.aload_n 0, 1) := by decide +kernel
theorem dX7_size_24 : decode cX7_size 24 = .ok (.getfield 7, 3) := by decide +kernel
theorem dX7_size_27 : decode cX7_size 27 = .ok (.iload_n 1, 1) := by decide +kernel
theorem dX7_size_28 : decode cX7_size 28 = .ok (.iload_n 2, 1) := by decide +kernel
theorem dX7_size_29 : decode cX7_size 29 = .ok (.iastore, 1) := by decide +kernel
theorem dX7_size_30 : decode cX7_size 30 = .ok (.iconst 0, 1) := by decide +kernel
theorem dX7_size_31 : decode cX7_size 31 = .ok (.istore_n 3, 1) := by decide +kernel
theorem dX7_size_32 : decode cX7_size 32 = .ok (.iload_n 3, 1) := by decide +kernel
theorem dX7_size_33 : decode cX7_size 33 = .ok (.bipush 16, 2) := by decide +kernel
theorem dX7_size_35 : decode cX7_size 35 = .ok (.if_icmp .ge 21, 3) := by decide +kernel
theorem dX7_size_38 : decode cX7_size 38 = .ok (.aload_n 0, 1) := by decide +kernel
theorem dX7_size_39 : decode cX7_size 39 = .ok (.getfield 13, 3) := by decide +kernel
theorem dX7_size_42 : decode cX7_size 42 = .ok (.bipush 16, 2) := by decide +kernel
theorem dX7_size_44 : decode cX7_size 44 = .ok (.iload_n 1, 1) := by decide +kernel
theorem dX7_size_45 : decode cX7_size 45 = .ok (.imul, 1) := by decide +kernel
theorem dX7_size_46 : decode cX7_size 46 = .ok (.iload_n 3, 1) := by decide +kernel
theorem dX7_size_47 : decode cX7_size 47 = .ok (.iadd, 1) := by decide +kernel
theorem dX7_size_48 : decode cX7_size 48 = .ok (.iconst 0, 1) := by decide +kernel
theorem dX7_size_49 : decode cX7_size 49 = .ok (.iastore, 1) := by decide +kernel
theorem dX7_size_50 : decode cX7_size 50 = .ok (.iinc 3 1, 3) := by decide +kernel
theorem dX7_size_53 : decode cX7_size 53 = .ok (.goto (-21), 3) := by decide +kernel
theorem dX7_size_56 : decode cX7_size 56 = .ok (.iload_n 2, 1) := by decide +kernel
theorem dX7_size_57 : decode cX7_size 57 = .ok (.ireturn, 1) := by decide +kernel
set_option maxRecDepth 20000 in
theorem ggX7_turn_X7_isSign : GoodIn wsX7_turn wsX7_isSign := goodIn_r _ [6, 7, 8, 5, 9] (by decide +kernel) (by decide +kernel)
set_option maxRecDepth 20000 in
theorem gX7_turn_X7_isSign : GoodIn wsX7_turn (va_wsS RX7 42 yX7_isSign wsX7_isSign) := goodIn_app (goodIn_of _ (by decide +kernel)) ggX7_turn_X7_isSign
set_option maxRecDepth 20000 in
theorem ggX7_turn_X7_in : GoodIn wsX7_turn wsX7_in := goodIn_r _ [9] (by decide +kernel) (by decide +kernel)
set_option maxRecDepth 20000 in
theorem gX7_turn_X7_in : GoodIn wsX7_turn (va_wsS RX7 38 yX7_in wsX7_in) := goodIn_app (goodIn_of _ (by decide +kernel)) ggX7_turn_X7_in
theorem dX7_turn_0 : decode cX7_turn 0 = .ok (.iload_n 1, 1) := by decide +kernel
theorem dX7_turn_1 : decode cX7_turn 1 = .ok (.invokestatic 42, 3) := by decide +kernel
theorem dX7_turn_4 : decode cX7_turn 4 = .ok (.ifCond .eq 19, 3) := by decide +kernel
theorem dX7_turn_7 : decode cX7_turn 7 = .ok (.iload_n 2, 1) := by decide +kernel
theorem dX7_turn_8 : decode cX7_turn 8 = .ok (.iconst 0, 1) := by decide +kernel
theorem dX7_turn_9 : decode cX7_turn 9 = .ok (.aload_n 0, 1) := by decide +kernel
theorem dX7_turn_10 : decode cX7_turn 10 = .ok (.getfield 7, 3) := by decide +kernel
theorem dX7_turn_13 : decode cX7_turn 13 = .ok (.iload_n 1, 1) := by decide +kernel
theorem dX7_turn_14 : decode cX7_turn 14 = .ok (.iaload, 1) := by decide +kernel
theorem dX7_turn_15 : decode cX7_turn 15 = .ok (.iconst 1, 1) := by decide +kernel
theorem dX7_turn_16 : decode cX7_turn 16 = .ok (.isub, 1) := by decide +kernel
theorem dX7_turn_17 : decode cX7_turn 17 = .ok (.invokestatic 38, 3) := by decide +kernel
theorem dX7_turn_20 : decode cX7_turn 20 = .ok (.ifCond .ne 6, 3) := by decide +kernel
theorem dX7_turn_23 : decode cX7_turn 23 = .ok (.bipush (-101), 2) := by decide +kernel
theorem dX7_turn_25 : decode cX7_turn 25 = .ok (.ireturn, 1) := by decide +kernel
theorem dX7_turn_26 : decode cX7_turn 26 = .ok (.iload_n 3, 1) := by decide +kernel
theorem dX7_turn_27 : decode cX7_turn 27 = .ok (.iconst 0, 1) := by decide +kernel
theorem dX7_turn_28 : decode cX7_turn 28 = .ok (.iconst 3, 1) := by decide +kernel
theorem dX7_turn_29 : decode cX7_turn 29 = .ok (.invokestatic 38, 3) := by decide +kernel
theorem dX7_turn_32 : decode cX7_turn 32 = .ok (.ifCond .ne 6, 3) := by decide +kernel
theorem dX7_turn_35 : decode cX7_turn 35 = .ok (.bipush (-102), 2) := by decide +kernel
theorem dX7_turn_37 : decode cX7_turn 37 = .ok (.ireturn, 1) := by decide +kernel
theorem dX7_turn_38 : decode cX7_turn 38 = .ok (.aload_n 0, 1) := by decide +kernel
theorem dX7_turn_39 : decode cX7_turn 39 = .ok (.getfield 13, 3) := by decide +kernel
theorem dX7_turn_42 : decode cX7_turn 42 = .ok (.bipush 16, 2) := by decide +kernel
theorem dX7_turn_44 : decode cX7_turn 44 = .ok (.iload_n 1, 1) := by decide +kernel
theorem dX7_turn_45 : decode cX7_turn 45 = .ok (.imul, 1) := by decide +kernel
theorem dX7_turn_46 : decode cX7_turn 46 = .ok (.iload_n 2, 1) := by decide +kernel
theorem dX7_turn_47 : decode cX7_turn 47 = .ok (.iadd, 1) := by decide +kernel
theorem dX7_turn_48 : decode cX7_turn 48 = .ok (.iaload, 1) := by decide +kernel
theorem dX7_turn_49 : decode cX7_turn 49 = .ok (.istore 4, 2) := by decide +kernel
theorem dX7_turn_51 : decode cX7_turn 51 = .ok (.aload_n 0, 1) := by decide +kernel
theorem dX7_turn_52 : decode cX7_turn 52 = .ok (.getfield 13, 3) := by decide +kernel
theorem dX7_turn_55 : decode cX7_turn 55 = .ok (.bipush 16, 2) := by decide +kernel
theorem dX7_turn_57 : decode cX7_turn 57 = .ok (.iload_n 1, 1) := by decide +kernel
theorem dX7_turn_58 : decode cX7_turn 58 = .ok (.imul, 1) := by decide +kernel
theorem dX7_turn_59 : decode cX7_turn 59 = .ok (.iload_n 2, 1) := by decide +kernel
theorem dX7_turn_60 : decode cX7_turn 60 = .ok (.iadd, 1) := by decide +kernel
theorem dX7_turn_61 : decode cX7_turn 61 = .ok (.iload_n 3, 1) := by decide +kernel
theorem dX7_turn_62 : decode cX7_turn 62 = .ok (.iastore, 1) := by decide +kernel
theorem dX7_turn_63 : decode cX7_turn 63 = .ok (.iload 4, 2) := by decide +kernel
theorem dX7_turn_65 : decode cX7_turn 65 = .ok (.ireturn, 1) := by decide +kernel
set_option maxRecDepth 20000 in
theorem ggX7_turned_X7_isSign : GoodIn wsX7_turned wsX7_isSign := goodIn_r _ [6, 7, 8, 5, 9] (by decide +kernel) (by decide +kernel)
set_option maxRecDepth 20000 in
theorem gX7_turned_X7_isSign : GoodIn wsX7_turned (va_wsS RX7 42 yX7_isSign wsX7_isSign) := goodIn_app (goodIn_of _ (by decide +kernel)) ggX7_turned_X7_isSign
set_option maxRecDepth 20000 in
theorem ggX7_turned_X7_in : GoodIn wsX7_turned wsX7_in := goodIn_r _ [9] (by decide +kernel) (by decide +kernel)
set_option maxRecDepth 20000 in
theorem gX7_turned_X7_in : GoodIn wsX7_turned (va_wsS RX7 38 yX7_in wsX7_in) := goodIn_app (goodIn_of _ (by decide +kernel)) ggX7_turned_X7_in
theorem dX7_turned_0 : decode cX7_turned 0 = .ok (.iload_n 1, 1) := by decide +kernel
theorem dX7_turned_1 : decode cX7_turned 1 = .ok (.invokestatic 42, 3) := by decide +kernel
theorem dX7_turned_4 : decode cX7_turned 4 = .ok (.ifCond .ne 6, 3) := by decide +kernel
theorem dX7_turned_7 : decode cX7_turned 7 = .ok (.bipush (-101), 2) := by decide +kernel
theorem dX7_turned_9 : decode cX7_turned 9 = .ok (.ireturn, 1) := by decide +kernel
theorem dX7_turned_10 : decode cX7_turned 10 = .ok (.iload_n 2, 1) := by decide +kernel
theorem dX7_turned_11 : decode cX7_turned 11 = .ok (.iconst 0, 1) := by decide +kernel
theorem dX7_turned_12 : decode cX7_turned 12 = .ok (.aload_n 0, 1) := by decide +kernel
theorem dX7_turned_13 : decode cX7_turned 13 = .ok (.getfield 7, 3) := by decide +kernel
theorem dX7_turned_16 : decode cX7_turned 16 = .ok (.iload_n 1, 1) := by decide +kernel
theorem dX7_turned_17 : decode cX7_turned 17 = .ok (.iaload, 1) := by decide +kernel
theorem dX7_turned_18 : decode cX7_turned 18 = .ok (.iconst 1, 1) := by decide +kernel
theorem dX7_turned_19 : decode cX7_turned 19 = .ok (.isub, 1) := by decide +kernel
theorem dX7_turned_20 : decode cX7_turned 20 = .ok (.invokestatic 38, 3) := by decide +kernel
theorem dX7_turned_23 : decode cX7_turned 23 = .ok (.ifCond .eq 17, 3) := by decide +kernel
theorem dX7_turned_26 : decode cX7_turned 26 = .ok (.aload_n 0, 1) := by decide +kernel
theorem dX7_turned_27 : decode cX7_turned 27 = .ok (.getfield 13, 3) := by decide +kernel
theorem dX7_turned_30 : decode cX7_turned 30 = .ok (.bipush 16, 2) := by decide +kernel
theorem dX7_turned_32 : decode cX7_turned 32 = .ok (.iload_n 1, 1) := by decide +kernel
theorem dX7_turned_33 : decode cX7_turned 33 = .ok (.imul, 1) := by decide +kernel
theorem dX7_turned_34 : decode cX7_turned 34 = .ok (.iload_n 2, 1) := by decide +kernel
theorem dX7_turned_35 : decode cX7_turned 35 = .ok (.iadd, 1) := by decide +kernel
theorem dX7_turned_36 : decode cX7_turned 36 = .ok (.iaload, 1) := by decide +kernel
theorem dX7_turned_37 : decode cX7_turned 37 = .ok (.goto 4, 3) := by decide +kernel
theorem dX7_turned_40 : decode cX7_turned 40 = .ok (.iconst (-1), 1) := by decide +kernel
theorem dX7_turned_41 : decode cX7_turned 41 = .ok (.ireturn, 1) := by decide +kernel
set_option maxRecDepth 20000 in
theorem ggX7_made_X7_isSign : GoodIn wsX7_made wsX7_isSign := goodIn_r _ [7, 8, 9, 6, 10] (by decide +kernel) (by decide +kernel)
set_option maxRecDepth 20000 in
theorem gX7_made_X7_isSign : GoodIn wsX7_made (va_wsS RX7 42 yX7_isSign wsX7_isSign) := goodIn_app (goodIn_of _ (by decide +kernel)) ggX7_made_X7_isSign
set_option maxRecDepth 20000 in
theorem ggX7_made_X7_in : GoodIn wsX7_made wsX7_in := goodIn_r _ [10] (by decide +kernel) (by decide +kernel)
set_option maxRecDepth 20000 in
theorem gX7_made_X7_in : GoodIn wsX7_made (va_wsS RX7 38 yX7_in wsX7_in) := goodIn_app (goodIn_of _ (by decide +kernel)) ggX7_made_X7_in
theorem dX7_made_0 : decode cX7_made 0 = .ok (.iload_n 2, 1) := by decide +kernel
theorem dX7_made_1 : decode cX7_made 1 = .ok (.invokestatic 42, 3) := by decide +kernel
theorem dX7_made_4 : decode cX7_made 4 = .ok (.ifCond .eq 10, 3) := by decide +kernel
theorem dX7_made_7 : decode cX7_made 7 = .ok (.iload_n 1, 1) := by decide +kernel
theorem dX7_made_8 : decode cX7_made 8 = .ok (.invokestatic 42, 3) := by decide +kernel
theorem dX7_made_11 : decode cX7_made 11 = .ok (.ifCond .ne 6, 3) := by decide +kernel
theorem dX7_made_14 : decode cX7_made 14 = .ok (.bipush (-101), 2) := by decide +kernel
theorem dX7_made_16 : decode cX7_made 16 = .ok (.ireturn, 1) := by decide +kernel
theorem dX7_made_17 : decode cX7_made 17 = .ok (.iload_n 3, 1) := by decide +kernel
theorem dX7_made_18 : decode cX7_made 18 = .ok (.iconst 0, 1) := by decide +kernel
theorem dX7_made_19 : decode cX7_made 19 = .ok (.iconst 2, 1) := by decide +kernel
theorem dX7_made_20 : decode cX7_made 20 = .ok (.invokestatic 38, 3) := by decide +kernel
theorem dX7_made_23 : decode cX7_made 23 = .ok (.ifCond .ne 6, 3) := by decide +kernel
theorem dX7_made_26 : decode cX7_made 26 = .ok (.bipush (-102), 2) := by decide +kernel
theorem dX7_made_28 : decode cX7_made 28 = .ok (.ireturn, 1) := by decide +kernel
theorem dX7_made_29 : decode cX7_made 29 = .ok (.aload_n 0, 1) := by decide +kernel
theorem dX7_made_30 : decode cX7_made 30 = .ok (.getfield 7, 3) := by decide +kernel
theorem dX7_made_33 : decode cX7_made 33 = .ok (.iload_n 2, 1) := by decide +kernel
theorem dX7_made_34 : decode cX7_made 34 = .ok (.iaload, 1) := by decide +kernel
theorem dX7_made_35 : decode cX7_made 35 = .ok (.istore 4, 2) := by decide +kernel
theorem dX7_made_37 : decode cX7_made 37 = .ok (.iconst 0, 1) := by decide +kernel
theorem dX7_made_38 : decode cX7_made 38 = .ok (.istore 5, 2) := by decide +kernel
theorem dX7_made_40 : decode cX7_made 40 = .ok (.iload 5, 2) := by decide +kernel
theorem dX7_made_42 : decode cX7_made 42 = .ok (.iload 4, 2) := by decide +kernel
theorem dX7_made_44 : decode cX7_made 44 = .ok (.if_icmp .ge 73, 3) := by decide +kernel
theorem dX7_made_47 : decode cX7_made 47 = .ok (.aload_n 0, 1) := by decide +kernel
theorem dX7_made_48 : decode cX7_made 48 = .ok (.getfield 13, 3) := by decide +kernel
theorem dX7_made_51 : decode cX7_made 51 = .ok (.bipush 16, 2) := by decide +kernel
theorem dX7_made_53 : decode cX7_made 53 = .ok (.iload_n 2, 1) := by decide +kernel
theorem dX7_made_54 : decode cX7_made 54 = .ok (.imul, 1) := by decide +kernel
theorem dX7_made_55 : decode cX7_made 55 = .ok (.iload_n 3, 1) := by decide +kernel
theorem dX7_made_56 : decode cX7_made 56 = .ok (.ifCond .ne 13, 3) := by decide +kernel
theorem dX7_made_59 : decode cX7_made 59 = .ok (.iload 4, 2) := by decide +kernel
theorem dX7_made_61 : decode cX7_made 61 = .ok (.iconst 1, 1) := by decide +kernel
theorem dX7_made_62 : decode cX7_made 62 = .ok (.isub, 1) := by decide +kernel
theorem dX7_made_63 : decode cX7_made 63 = .ok (.iload 5, 2) := by decide +kernel
theorem dX7_made_65 : decode cX7_made 65 = .ok (.isub, 1) := by decide +kernel
theorem dX7_made_66 : decode cX7_made 66 = .ok (.goto 5, 3) := by decide +kernel
theorem dX7_made_69 : decode cX7_made 69 = .ok (.iload 5, 2) := by decide +kernel
theorem dX7_made_71 : decode cX7_made 71 = .ok (.iadd, 1) := by decide +kernel
theorem dX7_made_72 : decode cX7_made 72 = .ok (.iaload, 1) := by decide +kernel
theorem dX7_made_73 : decode cX7_made 73 = .ok (.istore 6, 2) := by decide +kernel
theorem dX7_made_75 : decode cX7_made 75 = .ok (.aload_n 0, 1) := by decide +kernel
theorem dX7_made_76 : decode cX7_made 76 = .ok (.getfield 35, 3) := by decide +kernel
theorem dX7_made_79 : decode cX7_made 79 = .ok (.iload 5, 2) := by decide +kernel
theorem dX7_made_81 : decode cX7_made 81 = .ok (.iload_n 3, 1) := by decide +kernel
theorem dX7_made_82 : decode cX7_made 82 = .ok (.ifCond .ne 8, 3) := by decide +kernel
theorem dX7_made_85 : decode cX7_made 85 = .ok (.iload 6, 2) := by decide +kernel
theorem dX7_made_87 : decode cX7_made 87 = .ok (.goto 23, 3) := by decide +kernel
theorem dX7_made_90 : decode cX7_made 90 = .ok (.iload_n 3, 1) := by decide +kernel
theorem dX7_made_91 : decode cX7_made 91 = .ok (.iconst 1, 1) := by decide +kernel
theorem dX7_made_92 : decode cX7_made 92 = .ok (.if_icmp .ne 12, 3) := by decide +kernel
theorem dX7_made_95 : decode cX7_made 95 = .ok (.iconst 4, 1) := by decide +kernel
theorem dX7_made_96 : decode cX7_made 96 = .ok (.iload 6, 2) := by decide +kernel
theorem dX7_made_98 : decode cX7_made 98 = .ok (.isub, 1) := by decide +kernel
theorem dX7_made_99 : decode cX7_made 99 = .ok (.iconst 4, 1) := by decide +kernel
theorem dX7_made_100 : decode cX7_made 100 = .ok (.irem, 1) := by decide +kernel
theorem dX7_made_101 : decode cX7_made 101 = .ok (.goto 9, 3) := by decide +kernel
theorem dX7_made_104 : decode cX7_made 104 = .ok (.iload 6, 2) := by decide +kernel
theorem dX7_made_106 : decode cX7_made 106 = .ok (.iconst 1, 1) := by decide +kernel
theorem dX7_made_107 : decode cX7_made 107 = .ok (.iadd, 1) := by decide +kernel
theorem dX7_made_108 : decode cX7_made 108 = .ok (.iconst 4, 1) := by decide +kernel
theorem dX7_made_109 : decode cX7_made 109 = .ok (.irem, 1) := by decide +kernel
theorem dX7_made_110 : decode cX7_made 110 = .ok (.iastore, 1) := by decide +kernel
theorem dX7_made_111 : decode cX7_made 111 = .ok (.iinc 5 1, 3) := by decide +kernel
theorem dX7_made_114 : decode cX7_made 114 = .ok (.goto (-74), 3) := by decide +kernel
theorem dX7_made_117 : decode cX7_made 117 = .ok (.aload_n 0, 1) := by decide +kernel
theorem dX7_made_118 : decode cX7_made 118 = .ok (.getfield 7, 3) := by decide +kernel
theorem dX7_made_121 : decode cX7_made 121 = .ok (.iload_n 1, 1) := by decide +kernel
theorem dX7_made_122 : decode cX7_made 122 = .ok (.iload 4, 2) := by decide +kernel
theorem dX7_made_124 : decode cX7_made 124 = .ok (.iastore, 1) := by decide +kernel
theorem dX7_made_125 : decode cX7_made 125 = .ok (.iconst 0, 1) := by decide +kernel
theorem dX7_made_126 : decode cX7_made 126 = .ok (.istore 5, 2) := by decide +kernel
theorem dX7_made_128 : decode cX7_made 128 = .ok (.iload 5, 2) := by decide +kernel
theorem dX7_made_130 : decode cX7_made 130 = .ok (.bipush 16, 2) := by decide +kernel
theorem dX7_made_132 : decode cX7_made 132 = .ok (.if_icmp .ge 39, 3) := by decide +kernel
theorem dX7_made_135 : decode cX7_made 135 = .ok (.aload_n 0, 1) := by decide +kernel
theorem dX7_made_136 : decode cX7_made 136 = .ok (.getfield 13, 3) := by decide +kernel
theorem dX7_made_139 : decode cX7_made 139 = .ok (.bipush 16, 2) := by decide +kernel
theorem dX7_made_141 : decode cX7_made 141 = .ok (.iload_n 1, 1) := by decide +kernel
theorem dX7_made_142 : decode cX7_made 142 = .ok (.imul, 1) := by decide +kernel
theorem dX7_made_143 : decode cX7_made 143 = .ok (.iload 5, 2) := by decide +kernel
theorem dX7_made_145 : decode cX7_made 145 = .ok (.iadd, 1) := by decide +kernel
theorem dX7_made_146 : decode cX7_made 146 = .ok (.iload 5, 2) := by decide +kernel
theorem dX7_made_148 : decode cX7_made 148 = .ok (.iload 4, 2) := by decide +kernel
theorem dX7_made_150 : decode cX7_made 150 = .ok (.if_icmp .ge 13, 3) := by decide +kernel
theorem dX7_made_153 : decode cX7_made 153 = .ok (.aload_n 0, 1) := by decide +kernel
theorem dX7_made_154 : decode cX7_made 154 = .ok (.getfield 35, 3) := by decide +kernel
theorem dX7_made_157 : decode cX7_made 157 = .ok (.iload 5, 2) := by decide +kernel
theorem dX7_made_159 : decode cX7_made 159 = .ok (.iaload, 1) := by decide +kernel
theorem dX7_made_160 : decode cX7_made 160 = .ok (.goto 4, 3) := by decide +kernel
theorem dX7_made_163 : decode cX7_made 163 = .ok (.iconst 0, 1) := by decide +kernel
theorem dX7_made_164 : decode cX7_made 164 = .ok (.iastore, 1) := by decide +kernel
theorem dX7_made_165 : decode cX7_made 165 = .ok (.iinc 5 1, 3) := by decide +kernel
theorem dX7_made_168 : decode cX7_made 168 = .ok (.goto (-40), 3) := by decide +kernel
theorem dX7_made_171 : decode cX7_made 171 = .ok (.iload 4, 2) := by decide +kernel
theorem dX7_made_173 : decode cX7_made 173 = .ok (.ireturn, 1) := by decide +kernel
theorem dX7_add_0 : decode cX7_add 0 = .ok (.aload_n 0, 1) := by decide +kernel
theorem dX7_add_1 : decode cX7_add 1 = .ok (.dup, 1) := by decide +kernel
theorem dX7_add_2 : decode cX7_add 2 = .ok (.getfield 46, 3) := by decide +kernel
theorem dX7_add_5 : decode cX7_add 5 = .ok (.iload_n 1, 1) := by decide +kernel
theorem dX7_add_6 : decode cX7_add 6 = .ok (.ifCond .ne 7, 3) := by decide +kernel
theorem dX7_add_9 : decode cX7_add 9 = .ok (.iload_n 2, 1) := by decide +kernel
theorem dX7_add_10 : decode cX7_add 10 = .ok (.goto 14, 3) := by decide +kernel
theorem dX7_add_13 : decode cX7_add 13 = .ok (.iload_n 1, 1) := by decide +kernel
theorem dX7_add_14 : decode cX7_add 14 = .ok (.iconst 2, 1) := by decide +kernel
theorem dX7_add_15 : decode cX7_add 15 = .ok (.if_icmp .ne 8, 3) := by decide +kernel
theorem dX7_add_18 : decode cX7_add 18 = .ok (.iload_n 2, 1) := by decide +kernel
theorem dX7_add_19 : decode cX7_add 19 = .ok (.ineg, 1) := by decide +kernel
theorem dX7_add_20 : decode cX7_add 20 = .ok (.goto 4, 3) := by decide +kernel
theorem dX7_add_23 : decode cX7_add 23 = .ok (.iconst 0, 1) := by decide +kernel
theorem dX7_add_24 : decode cX7_add 24 = .ok (.iadd, 1) := by decide +kernel
theorem dX7_add_25 : decode cX7_add 25 = .ok (.putfield 46, 3) := by decide +kernel
theorem dX7_add_28 : decode cX7_add 28 = .ok (.aload_n 0, 1) := by decide +kernel
theorem dX7_add_29 : decode cX7_add 29 = .ok (.dup, 1) := by decide +kernel
theorem dX7_add_30 : decode cX7_add 30 = .ok (.getfield 49, 3) := by decide +kernel
theorem dX7_add_33 : decode cX7_add 33 = .ok (.iload_n 1, 1) := by decide +kernel
theorem dX7_add_34 : decode cX7_add 34 = .ok (.iconst 1, 1) := by decide +kernel
theorem dX7_add_35 : decode cX7_add 35 = .ok (.if_icmp .ne 7, 3) := by decide +kernel
theorem dX7_add_38 : decode cX7_add 38 = .ok (.iload_n 2, 1) := by decide +kernel
theorem dX7_add_39 : decode cX7_add 39 = .ok (.goto 14, 3) := by decide +kernel
theorem dX7_add_42 : decode cX7_add 42 = .ok (.iload_n 1, 1) := by decide +kernel
theorem dX7_add_43 : decode cX7_add 43 = .ok (.iconst 3, 1) := by decide +kernel
theorem dX7_add_44 : decode cX7_add 44 = .ok (.if_icmp .ne 8, 3) := by decide +kernel
theorem dX7_add_47 : decode cX7_add 47 = .ok (.iload_n 2, 1) := by decide +kernel
theorem dX7_add_48 : decode cX7_add 48 = .ok (.ineg, 1) := by decide +kernel
theorem dX7_add_49 : decode cX7_add 49 = .ok (.goto 4, 3) := by decide +kernel
theorem dX7_add_52 : decode cX7_add 52 = .ok (.iconst 0, 1) := by decide +kernel
theorem dX7_add_53 : decode cX7_add 53 = .ok (.iadd, 1) := by decide +kernel
theorem dX7_add_54 : decode cX7_add 54 = .ok (.putfield 49, 3) := by decide +kernel
theorem dX7_add_57 : decode cX7_add 57 = .ok (.return_, 1) := by decide +kernel
set_option maxRecDepth 20000 in
theorem ggX7_looks_X7_in : GoodIn wsX7_looks wsX7_in := goodIn_r _ [8] (by decide +kernel) (by decide +kernel)
set_option maxRecDepth 20000 in
theorem gX7_looks_X7_in : GoodIn wsX7_looks (va_wsS RX7 38 yX7_in wsX7_in) := goodIn_app (goodIn_of _ (by decide +kernel)) ggX7_looks_X7_in
set_option maxRecDepth 20000 in
theorem ggX7_looks_X7_add : GoodIn wsX7_looks wsX7_add := goodIn_r _ [12, 1, 2, 13, 14, 15, 16, 17, 18, 19, 20, 21, 22, 23, 24, 25, 26, 27, 28] (by decide +kernel) (by decide +kernel)
set_option maxRecDepth 20000 in
theorem gX7_looks_X7_add : GoodIn wsX7_looks (wsV RX7 52 RX7 yX7_add wsX7_add) := goodIn_app (goodIn_of _ (by decide +kernel)) ggX7_looks_X7_add
theorem dX7_looks_0 : decode cX7_looks 0 = .ok (.aload_n 0, 1) := by decide +kernel
theorem dX7_looks_1 : decode cX7_looks 1 = .ok (.iconst 0, 1) := by decide +kernel
theorem dX7_looks_2 : decode cX7_looks 2 = .ok (.putfield 46, 3) := by decide +kernel
theorem dX7_looks_5 : decode cX7_looks 5 = .ok (.aload_n 0, 1) := by decide +kernel
theorem dX7_looks_6 : decode cX7_looks 6 = .ok (.iconst 0, 1) := by decide +kernel
theorem dX7_looks_7 : decode cX7_looks 7 = .ok (.putfield 49, 3) := by decide +kernel
theorem dX7_looks_10 : decode cX7_looks 10 = .ok (.iconst 0, 1) := by decide +kernel
theorem dX7_looks_11 : decode cX7_looks 11 = .ok (.istore 5, 2) := by decide +kernel
theorem dX7_looks_13 : decode cX7_looks 13 = .ok (.iload 5, 2) := by decide +kernel
theorem dX7_looks_15 : decode cX7_looks 15 = .ok (.aload_n 0, 1) := by decide +kernel
theorem dX7_looks_16 : decode cX7_looks 16 = .ok (.getfield 7, 3) := by decide +kernel
theorem dX7_looks_19 : decode cX7_looks 19 = .ok (.iload_n 1, 1) := by decide +kernel
theorem dX7_looks_20 : decode cX7_looks 20 = .ok (.iaload, 1) := by decide +kernel
theorem dX7_looks_21 : decode cX7_looks 21 = .ok (.if_icmp .ge 70, 3) := by decide +kernel
theorem dX7_looks_24 : decode cX7_looks 24 = .ok (.iload 5, 2) := by decide +kernel
theorem dX7_looks_26 : decode cX7_looks 26 = .ok (.iload_n 3, 1) := by decide +kernel
theorem dX7_looks_27 : decode cX7_looks 27 = .ok (.iadd, 1) := by decide +kernel
theorem dX7_looks_28 : decode cX7_looks 28 = .ok (.iconst 0, 1) := by decide +kernel
theorem dX7_looks_29 : decode cX7_looks 29 = .ok (.aload_n 0, 1) := by decide +kernel
theorem dX7_looks_30 : decode cX7_looks 30 = .ok (.getfield 7, 3) := by decide +kernel
theorem dX7_looks_33 : decode cX7_looks 33 = .ok (.iload_n 2, 1) := by decide +kernel
theorem dX7_looks_34 : decode cX7_looks 34 = .ok (.iaload, 1) := by decide +kernel
theorem dX7_looks_35 : decode cX7_looks 35 = .ok (.iconst 1, 1) := by decide +kernel
theorem dX7_looks_36 : decode cX7_looks 36 = .ok (.isub, 1) := by decide +kernel
theorem dX7_looks_37 : decode cX7_looks 37 = .ok (.invokestatic 38, 3) := by decide +kernel
theorem dX7_looks_40 : decode cX7_looks 40 = .ok (.ifCond .eq 45, 3) := by decide +kernel
theorem dX7_looks_43 : decode cX7_looks 43 = .ok (.aload_n 0, 1) := by decide +kernel
theorem dX7_looks_44 : decode cX7_looks 44 = .ok (.aload_n 0, 1) := by decide +kernel
theorem dX7_looks_45 : decode cX7_looks 45 = .ok (.getfield 13, 3) := by decide +kernel
theorem dX7_looks_48 : decode cX7_looks 48 = .ok (.bipush 16, 2) := by decide +kernel
theorem dX7_looks_50 : decode cX7_looks 50 = .ok (.iload_n 1, 1) := by decide +kernel
theorem dX7_looks_51 : decode cX7_looks 51 = .ok (.imul, 1) := by decide +kernel
theorem dX7_looks_52 : decode cX7_looks 52 = .ok (.iload 5, 2) := by decide +kernel
theorem dX7_looks_54 : decode cX7_looks 54 = .ok (.iadd, 1) := by decide +kernel
theorem dX7_looks_55 : decode cX7_looks 55 = .ok (.iaload, 1) := by decide +kernel
theorem dX7_looks_56 : decode cX7_looks 56 = .ok (.iconst 4, 1) := by decide +kernel
theorem dX7_looks_57 : decode cX7_looks 57 = .ok (.iadd, 1) := by decide +kernel
theorem dX7_looks_58 : decode cX7_looks 58 = .ok (.aload_n 0, 1) := by decide +kernel
theorem dX7_looks_59 : decode cX7_looks 59 = .ok (.getfield 13, 3) := by decide +kernel
theorem dX7_looks_62 : decode cX7_looks 62 = .ok (.bipush 16, 2) := by decide +kernel
theorem dX7_looks_64 : decode cX7_looks 64 = .ok (.iload_n 2, 1) := by decide +kernel
theorem dX7_looks_65 : decode cX7_looks 65 = .ok (.imul, 1) := by decide +kernel
theorem dX7_looks_66 : decode cX7_looks 66 = .ok (.iload 5, 2) := by decide +kernel
theorem dX7_looks_68 : decode cX7_looks 68 = .ok (.iadd, 1) := by decide +kernel
theorem dX7_looks_69 : decode cX7_looks 69 = .ok (.iload_n 3, 1) := by decide +kernel
theorem dX7_looks_70 : decode cX7_looks 70 = .ok (.iadd, 1) := by decide +kernel
theorem dX7_looks_71 : decode cX7_looks 71 = .ok (.iaload, 1) := by decide +kernel
theorem dX7_looks_72 : decode cX7_looks 72 = .ok (.isub, 1) := by decide +kernel
theorem dX7_looks_73 : decode cX7_looks 73 = .ok (.iload 4, 2) := by decide +kernel
theorem dX7_looks_75 : decode cX7_looks 75 = .ok (.iload 5, 2) := by decide +kernel
theorem dX7_looks_77 : decode cX7_looks 77 = .ok (.imul, 1) := by decide +kernel
theorem dX7_looks_78 : decode cX7_looks 78 = .ok (.iadd, 1) := by decide +kernel
theorem dX7_looks_79 : decode cX7_looks 79 = .ok (.iconst 4, 1) := by decide +kernel
theorem dX7_looks_80 : decode cX7_looks 80 = .ok (.irem, 1) := by decide +kernel
theorem dX7_looks_81 : decode cX7_looks 81 = .ok (.iconst 1, 1) := by decide +kernel
theorem dX7_looks_82 : decode cX7_looks 82 = .ok (.invokevirtual 52, 3) := by decide +kernel
theorem dX7_looks_85 : decode cX7_looks 85 = .ok (.iinc 5 1, 3) := by decide +kernel
theorem dX7_looks_88 : decode cX7_looks 88 = .ok (.goto (-75), 3) := by decide +kernel
theorem dX7_looks_91 : decode cX7_looks 91 = .ok (.aload_n 0, 1) := by decide +kernel
theorem dX7_looks_92 : decode cX7_looks 92 = .ok (.getfield 46, 3) := by decide +kernel
theorem dX7_looks_95 : decode cX7_looks 95 = .ok (.aload_n 0, 1) := by decide +kernel
theorem dX7_looks_96 : decode cX7_looks 96 = .ok (.getfield 46, 3) := by decide +kernel
theorem dX7_looks_99 : decode cX7_looks 99 = .ok (.imul, 1) := by decide +kernel
theorem dX7_looks_100 : decode cX7_looks 100 = .ok (.aload_n 0, 1) := by decide +kernel
theorem dX7_looks_101 : decode cX7_looks 101 = .ok (.getfield 49, 3) := by decide +kernel
theorem dX7_looks_104 : decode cX7_looks 104 = .ok (.aload_n 0, 1) := by decide +kernel
theorem dX7_looks_105 : decode cX7_looks 105 = .ok (.getfield 49, 3) := by decide +kernel
theorem dX7_looks_108 : decode cX7_looks 108 = .ok (.imul, 1) := by decide +kernel
theorem dX7_looks_109 : decode cX7_looks 109 = .ok (.iadd, 1) := by decide +kernel
theorem dX7_looks_110 : decode cX7_looks 110 = .ok (.ireturn, 1) := by decide +kernel
set_option maxRecDepth 20000 in
theorem ggX7_look_X7_isSign : GoodIn wsX7_look wsX7_isSign := goodIn_r _ [6, 7, 8, 5, 9] (by decide +kernel) (by decide +kernel)
set_option maxRecDepth 20000 in
theorem gX7_look_X7_isSign : GoodIn wsX7_look (va_wsS RX7 42 yX7_isSign wsX7_isSign) := goodIn_app (goodIn_of _ (by decide +kernel)) ggX7_look_X7_isSign
set_option maxRecDepth 20000 in
theorem ggX7_look_X7_in : GoodIn wsX7_look wsX7_in := goodIn_r _ [9] (by decide +kernel) (by decide +kernel)
set_option maxRecDepth 20000 in
theorem gX7_look_X7_in : GoodIn wsX7_look (va_wsS RX7 38 yX7_in wsX7_in) := goodIn_app (goodIn_of _ (by decide +kernel)) ggX7_look_X7_in
set_option maxRecDepth 20000 in
theorem ggX7_look_X7_looks : GoodIn wsX7_look wsX7_looks := goodIn_r _ [13, 1, 2, 14, 15, 7, 8, 5, 9, 16, 17, 18, 19, 20, 21, 22, 23, 24, 25, 26, 27, 28, 29, 30, 31, 32, 33, 34, 35] (by decide +kernel) (by decide +kernel)
set_option maxRecDepth 20000 in
theorem gX7_look_X7_looks : GoodIn wsX7_look (wsV RX7 56 RX7 yX7_looks wsX7_looks) := goodIn_app (goodIn_of _ (by decide +kernel)) ggX7_look_X7_looks
theorem dX7_look_0 : decode cX7_look 0 = .ok (.iload_n 1, 1) := by decide +kernel
theorem dX7_look_1 : decode cX7_look 1 = .ok (.invokestatic 42, 3) := by decide +kernel
theorem dX7_look_4 : decode cX7_look 4 = .ok (.ifCond .eq 10, 3) := by decide +kernel
theorem dX7_look_7 : decode cX7_look 7 = .ok (.iload_n 2, 1) := by decide +kernel
theorem dX7_look_8 : decode cX7_look 8 = .ok (.invokestatic 42, 3) := by decide +kernel
theorem dX7_look_11 : decode cX7_look 11 = .ok (.ifCond .ne 7, 3) := by decide +kernel
theorem dX7_look_14 : decode cX7_look 14 = .ok (.sipush (-1000), 3) := by decide +kernel
theorem dX7_look_17 : decode cX7_look 17 = .ok (.ireturn, 1) := by decide +kernel
theorem dX7_look_18 : decode cX7_look 18 = .ok (.iload_n 3, 1) := by decide +kernel
theorem dX7_look_19 : decode cX7_look 19 = .ok (.bipush (-15), 2) := by decide +kernel
theorem dX7_look_21 : decode cX7_look 21 = .ok (.bipush 15, 2) := by decide +kernel
theorem dX7_look_23 : decode cX7_look 23 = .ok (.invokestatic 38, 3) := by decide +kernel
theorem dX7_look_26 : decode cX7_look 26 = .ok (.ifCond .eq 23, 3) := by decide +kernel
theorem dX7_look_29 : decode cX7_look 29 = .ok (.iload 4, 2) := by decide +kernel
theorem dX7_look_31 : decode cX7_look 31 = .ok (.iconst 0, 1) := by decide +kernel
theorem dX7_look_32 : decode cX7_look 32 = .ok (.iconst 3, 1) := by decide +kernel
theorem dX7_look_33 : decode cX7_look 33 = .ok (.invokestatic 38, 3) := by decide +kernel
theorem dX7_look_36 : decode cX7_look 36 = .ok (.ifCond .eq 13, 3) := by decide +kernel
theorem dX7_look_39 : decode cX7_look 39 = .ok (.iload 5, 2) := by decide +kernel
theorem dX7_look_41 : decode cX7_look 41 = .ok (.iconst 0, 1) := by decide +kernel
theorem dX7_look_42 : decode cX7_look 42 = .ok (.iconst 1, 1) := by decide +kernel
theorem dX7_look_43 : decode cX7_look 43 = .ok (.invokestatic 38, 3) := by decide +kernel
theorem dX7_look_46 : decode cX7_look 46 = .ok (.ifCond .ne 7, 3) := by decide +kernel
theorem dX7_look_49 : decode cX7_look 49 = .ok (.sipush (-1001), 3) := by decide +kernel
theorem dX7_look_52 : decode cX7_look 52 = .ok (.ireturn, 1) := by decide +kernel
theorem dX7_look_53 : decode cX7_look 53 = .ok (.aload_n 0, 1) := by decide +kernel
theorem dX7_look_54 : decode cX7_look 54 = .ok (.iload_n 1, 1) := by decide +kernel
theorem dX7_look_55 : decode cX7_look 55 = .ok (.iload_n 2, 1) := by decide +kernel
theorem dX7_look_56 : decode cX7_look 56 = .ok (.iload_n 3, 1) := by decide +kernel
theorem dX7_look_57 : decode cX7_look 57 = .ok (.iload 4, 2) := by decide +kernel
theorem dX7_look_59 : decode cX7_look 59 = .ok (.invokevirtual 56, 3) := by decide +kernel
theorem dX7_look_62 : decode cX7_look 62 = .ok (.pop, 1) := by decide +kernel
theorem dX7_look_63 : decode cX7_look 63 = .ok (.iload 5, 2) := by decide +kernel
theorem dX7_look_65 : decode cX7_look 65 = .ok (.ifCond .ne 10, 3) := by decide +kernel
theorem dX7_look_68 : decode cX7_look 68 = .ok (.aload_n 0, 1) := by decide +kernel
theorem dX7_look_69 : decode cX7_look 69 = .ok (.getfield 46, 3) := by decide +kernel
theorem dX7_look_72 : decode cX7_look 72 = .ok (.goto 7, 3) := by decide +kernel
theorem dX7_look_75 : decode cX7_look 75 = .ok (.aload_n 0, 1) := by decide +kernel
theorem dX7_look_76 : decode cX7_look 76 = .ok (.getfield 49, 3) := by decide +kernel
theorem dX7_look_79 : decode cX7_look 79 = .ok (.ireturn, 1) := by decide +kernel
set_option maxRecDepth 20000 in
theorem ggX7_peakOf_X7_looks : GoodIn wsX7_peakOf wsX7_looks := goodIn_r _ [6, 7, 8, 1, 9, 10, 11, 5, 12, 13, 14, 15, 16, 17, 18, 19, 20, 21, 22, 23, 24, 25, 26, 27, 28, 29, 30, 31, 32] (by decide +kernel) (by decide +kernel)
set_option maxRecDepth 20000 in
theorem gX7_peakOf_X7_looks : GoodIn wsX7_peakOf (wsV RX7 56 RX7 yX7_looks wsX7_looks) := goodIn_app (goodIn_of _ (by decide +kernel)) ggX7_peakOf_X7_looks
theorem dX7_peakOf_0 : decode cX7_peakOf 0 = .ok (.iconst 0, 1) := by decide +kernel
theorem dX7_peakOf_1 : decode cX7_peakOf 1 = .ok (.istore_n 2, 1) := by decide +kernel
theorem dX7_peakOf_2 : decode cX7_peakOf 2 = .ok (.iconst 1, 1) := by decide +kernel
theorem dX7_peakOf_3 : decode cX7_peakOf 3 = .ok (.istore_n 3, 1) := by decide +kernel
theorem dX7_peakOf_4 : decode cX7_peakOf 4 = .ok (.iload_n 3, 1) := by decide +kernel
theorem dX7_peakOf_5 : decode cX7_peakOf 5 = .ok (.aload_n 0, 1) := by decide +kernel
theorem dX7_peakOf_6 : decode cX7_peakOf 6 = .ok (.getfield 7, 3) := by decide +kernel
theorem dX7_peakOf_9 : decode cX7_peakOf 9 = .ok (.iload_n 1, 1) := by decide +kernel
theorem dX7_peakOf_10 : decode cX7_peakOf 10 = .ok (.iaload, 1) := by decide +kernel
theorem dX7_peakOf_11 : decode cX7_peakOf 11 = .ok (.if_icmp .ge 32, 3) := by decide +kernel
theorem dX7_peakOf_14 : decode cX7_peakOf 14 = .ok (.aload_n 0, 1) := by decide +kernel
theorem dX7_peakOf_15 : decode cX7_peakOf 15 = .ok (.iload_n 1, 1) := by decide +kernel
theorem dX7_peakOf_16 : decode cX7_peakOf 16 = .ok (.iload_n 1, 1) := by decide +kernel
theorem dX7_peakOf_17 : decode cX7_peakOf 17 = .ok (.iload_n 3, 1) := by decide +kernel
theorem dX7_peakOf_18 : decode cX7_peakOf 18 = .ok (.iconst 0, 1) := by decide +kernel
theorem dX7_peakOf_19 : decode cX7_peakOf 19 = .ok (.invokevirtual 56, 3) := by decide +kernel
theorem dX7_peakOf_22 : decode cX7_peakOf 22 = .ok (.istore 4, 2) := by decide +kernel
theorem dX7_peakOf_24 : decode cX7_peakOf 24 = .ok (.iload 4, 2) := by decide +kernel
theorem dX7_peakOf_26 : decode cX7_peakOf 26 = .ok (.iload_n 2, 1) := by decide +kernel
theorem dX7_peakOf_27 : decode cX7_peakOf 27 = .ok (.if_icmp .le 8, 3) := by decide +kernel
theorem dX7_peakOf_30 : decode cX7_peakOf 30 = .ok (.iload 4, 2) := by decide +kernel
theorem dX7_peakOf_32 : decode cX7_peakOf 32 = .ok (.goto 4, 3) := by decide +kernel
theorem dX7_peakOf_35 : decode cX7_peakOf 35 = .ok (.iload_n 2, 1) := by decide +kernel
theorem dX7_peakOf_36 : decode cX7_peakOf 36 = .ok (.istore_n 2, 1) := by decide +kernel
theorem dX7_peakOf_37 : decode cX7_peakOf 37 = .ok (.iinc 3 1, 3) := by decide +kernel
theorem dX7_peakOf_40 : decode cX7_peakOf 40 = .ok (.goto (-36), 3) := by decide +kernel
theorem dX7_peakOf_43 : decode cX7_peakOf 43 = .ok (.iload_n 2, 1) := by decide +kernel
theorem dX7_peakOf_44 : decode cX7_peakOf 44 = .ok (.ireturn, 1) := by decide +kernel
set_option maxRecDepth 20000 in
theorem ggX7_flankOf_X7_looks : GoodIn wsX7_flankOf wsX7_looks := goodIn_r _ [6, 7, 8, 1, 9, 10, 11, 5, 12, 13, 14, 15, 16, 17, 18, 19, 20, 21, 22, 23, 24, 25, 26, 27, 28, 29, 30, 31, 32] (by decide +kernel) (by decide +kernel)
set_option maxRecDepth 20000 in
theorem gX7_flankOf_X7_looks : GoodIn wsX7_flankOf (wsV RX7 56 RX7 yX7_looks wsX7_looks) := goodIn_app (goodIn_of _ (by decide +kernel)) ggX7_flankOf_X7_looks
theorem dX7_flankOf_0 : decode cX7_flankOf 0 = .ok (.iconst 0, 1) := by decide +kernel
theorem dX7_flankOf_1 : decode cX7_flankOf 1 = .ok (.istore_n 2, 1) := by decide +kernel
theorem dX7_flankOf_2 : decode cX7_flankOf 2 = .ok (.iconst 1, 1) := by decide +kernel
theorem dX7_flankOf_3 : decode cX7_flankOf 3 = .ok (.istore_n 3, 1) := by decide +kernel
theorem dX7_flankOf_4 : decode cX7_flankOf 4 = .ok (.iload_n 3, 1) := by decide +kernel
theorem dX7_flankOf_5 : decode cX7_flankOf 5 = .ok (.aload_n 0, 1) := by decide +kernel
theorem dX7_flankOf_6 : decode cX7_flankOf 6 = .ok (.getfield 7, 3) := by decide +kernel
theorem dX7_flankOf_9 : decode cX7_flankOf 9 = .ok (.iload_n 1, 1) := by decide +kernel
theorem dX7_flankOf_10 : decode cX7_flankOf 10 = .ok (.iaload, 1) := by decide +kernel
theorem dX7_flankOf_11 : decode cX7_flankOf 11 = .ok (.if_icmp .ge 20, 3) := by decide +kernel
theorem dX7_flankOf_14 : decode cX7_flankOf 14 = .ok (.iload_n 2, 1) := by decide +kernel
theorem dX7_flankOf_15 : decode cX7_flankOf 15 = .ok (.aload_n 0, 1) := by decide +kernel
theorem dX7_flankOf_16 : decode cX7_flankOf 16 = .ok (.iload_n 1, 1) := by decide +kernel
theorem dX7_flankOf_17 : decode cX7_flankOf 17 = .ok (.iload_n 1, 1) := by decide +kernel
theorem dX7_flankOf_18 : decode cX7_flankOf 18 = .ok (.iload_n 3, 1) := by decide +kernel
theorem dX7_flankOf_19 : decode cX7_flankOf 19 = .ok (.iconst 0, 1) := by decide +kernel
theorem dX7_flankOf_20 : decode cX7_flankOf 20 = .ok (.invokevirtual 56, 3) := by decide +kernel
theorem dX7_flankOf_23 : decode cX7_flankOf 23 = .ok (.iadd, 1) := by decide +kernel
theorem dX7_flankOf_24 : decode cX7_flankOf 24 = .ok (.istore_n 2, 1) := by decide +kernel
theorem dX7_flankOf_25 : decode cX7_flankOf 25 = .ok (.iinc 3 1, 3) := by decide +kernel
theorem dX7_flankOf_28 : decode cX7_flankOf 28 = .ok (.goto (-24), 3) := by decide +kernel
theorem dX7_flankOf_31 : decode cX7_flankOf 31 = .ok (.iload_n 2, 1) := by decide +kernel
theorem dX7_flankOf_32 : decode cX7_flankOf 32 = .ok (.ireturn, 1) := by decide +kernel
set_option maxRecDepth 20000 in
theorem ggX7_peak_X7_isSign : GoodIn wsX7_peak wsX7_isSign := goodIn_r _ [4, 5, 6, 3, 7] (by decide +kernel) (by decide +kernel)
set_option maxRecDepth 20000 in
theorem gX7_peak_X7_isSign : GoodIn wsX7_peak (va_wsS RX7 42 yX7_isSign wsX7_isSign) := goodIn_app (goodIn_of _ (by decide +kernel)) ggX7_peak_X7_isSign
set_option maxRecDepth 20000 in
theorem ggX7_peak_X7_peakOf : GoodIn wsX7_peak wsX7_peakOf := goodIn_r _ [11, 12, 13, 14, 15, 3, 16, 17, 18, 19, 5, 6, 7, 20, 21, 22, 23, 24, 25, 26, 27, 28, 29, 30, 31, 32, 33, 34, 35, 36, 37, 38, 39] (by decide +kernel) (by decide +kernel)
set_option maxRecDepth 20000 in
theorem gX7_peak_X7_peakOf : GoodIn wsX7_peak (wsV RX7 60 RX7 yX7_peakOf wsX7_peakOf) := goodIn_app (goodIn_of _ (by decide +kernel)) ggX7_peak_X7_peakOf
theorem dX7_peak_0 : decode cX7_peak 0 = .ok (.iload_n 1, 1) := by decide +kernel
theorem dX7_peak_1 : decode cX7_peak 1 = .ok (.invokestatic 42, 3) := by decide +kernel
theorem dX7_peak_4 : decode cX7_peak 4 = .ok (.ifCond .eq 11, 3) := by decide +kernel
theorem dX7_peak_7 : decode cX7_peak 7 = .ok (.aload_n 0, 1) := by decide +kernel
theorem dX7_peak_8 : decode cX7_peak 8 = .ok (.iload_n 1, 1) := by decide +kernel
theorem dX7_peak_9 : decode cX7_peak 9 = .ok (.invokevirtual 60, 3) := by decide +kernel
theorem dX7_peak_12 : decode cX7_peak 12 = .ok (.goto 5, 3) := by decide +kernel
theorem dX7_peak_15 : decode cX7_peak 15 = .ok (.bipush (-101), 2) := by decide +kernel
theorem dX7_peak_17 : decode cX7_peak 17 = .ok (.ireturn, 1) := by decide +kernel
set_option maxRecDepth 20000 in
theorem ggX7_flank_X7_isSign : GoodIn wsX7_flank wsX7_isSign := goodIn_r _ [4, 5, 6, 3, 7] (by decide +kernel) (by decide +kernel)
set_option maxRecDepth 20000 in
theorem gX7_flank_X7_isSign : GoodIn wsX7_flank (va_wsS RX7 42 yX7_isSign wsX7_isSign) := goodIn_app (goodIn_of _ (by decide +kernel)) ggX7_flank_X7_isSign
set_option maxRecDepth 20000 in
theorem ggX7_flank_X7_flankOf : GoodIn wsX7_flank wsX7_flankOf := goodIn_r _ [11, 12, 13, 14, 15, 3, 16, 17, 18, 19, 5, 6, 7, 20, 21, 22, 23, 24, 25, 26, 27, 28, 29, 30, 31, 32, 33, 34, 35, 36, 37, 38, 39] (by decide +kernel) (by decide +kernel)
set_option maxRecDepth 20000 in
theorem gX7_flank_X7_flankOf : GoodIn wsX7_flank (wsV RX7 64 RX7 yX7_flankOf wsX7_flankOf) := goodIn_app (goodIn_of _ (by decide +kernel)) ggX7_flank_X7_flankOf
theorem dX7_flank_0 : decode cX7_flank 0 = .ok (.iload_n 1, 1) := by decide +kernel
theorem dX7_flank_1 : decode cX7_flank 1 = .ok (.invokestatic 42, 3) := by decide +kernel
theorem dX7_flank_4 : decode cX7_flank 4 = .ok (.ifCond .eq 11, 3) := by decide +kernel
theorem dX7_flank_7 : decode cX7_flank 7 = .ok (.aload_n 0, 1) := by decide +kernel
theorem dX7_flank_8 : decode cX7_flank 8 = .ok (.iload_n 1, 1) := by decide +kernel
theorem dX7_flank_9 : decode cX7_flank 9 = .ok (.invokevirtual 64, 3) := by decide +kernel
theorem dX7_flank_12 : decode cX7_flank 12 = .ok (.goto 5, 3) := by decide +kernel
theorem dX7_flank_15 : decode cX7_flank 15 = .ok (.bipush (-101), 2) := by decide +kernel
theorem dX7_flank_17 : decode cX7_flank 17 = .ok (.ireturn, 1) := by decide +kernel
set_option maxRecDepth 20000 in
theorem ggX7_worst_X7_isSign : GoodIn wsX7_worst wsX7_isSign := goodIn_r _ [4, 5, 6, 3, 7] (by decide +kernel) (by decide +kernel)
set_option maxRecDepth 20000 in
theorem gX7_worst_X7_isSign : GoodIn wsX7_worst (va_wsS RX7 42 yX7_isSign wsX7_isSign) := goodIn_app (goodIn_of _ (by decide +kernel)) ggX7_worst_X7_isSign
set_option maxRecDepth 20000 in
theorem ggX7_worst_X7_looks : GoodIn wsX7_worst wsX7_looks := goodIn_r _ [11, 12, 13, 14, 15, 5, 6, 3, 7, 16, 17, 18, 19, 20, 21, 22, 23, 24, 25, 26, 27, 28, 29, 30, 31, 32, 33, 34, 35] (by decide +kernel) (by decide +kernel)
set_option maxRecDepth 20000 in
theorem gX7_worst_X7_looks : GoodIn wsX7_worst (wsV RX7 56 RX7 yX7_looks wsX7_looks) := goodIn_app (goodIn_of _ (by decide +kernel)) ggX7_worst_X7_looks
theorem dX7_worst_0 : decode cX7_worst 0 = .ok (.iload_n 1, 1) := by decide +kernel
theorem dX7_worst_1 : decode cX7_worst 1 = .ok (.invokestatic 42, 3) := by decide +kernel
theorem dX7_worst_4 : decode cX7_worst 4 = .ok (.ifCond .ne 6, 3) := by decide +kernel
theorem dX7_worst_7 : decode cX7_worst 7 = .ok (.bipush (-101), 2) := by decide +kernel
theorem dX7_worst_9 : decode cX7_worst 9 = .ok (.ireturn, 1) := by decide +kernel
theorem dX7_worst_10 : decode cX7_worst 10 = .ok (.iconst 0, 1) := by decide +kernel
theorem dX7_worst_11 : decode cX7_worst 11 = .ok (.istore_n 2, 1) := by decide +kernel
theorem dX7_worst_12 : decode cX7_worst 12 = .ok (.bipush (-15), 2) := by decide +kernel
theorem dX7_worst_14 : decode cX7_worst 14 = .ok (.istore_n 3, 1) := by decide +kernel
theorem dX7_worst_15 : decode cX7_worst 15 = .ok (.iload_n 3, 1) := by decide +kernel
theorem dX7_worst_16 : decode cX7_worst 16 = .ok (.bipush 15, 2) := by decide +kernel
theorem dX7_worst_18 : decode cX7_worst 18 = .ok (.if_icmp .gt 61, 3) := by decide +kernel
theorem dX7_worst_21 : decode cX7_worst 21 = .ok (.iconst 0, 1) := by decide +kernel
theorem dX7_worst_22 : decode cX7_worst 22 = .ok (.istore 4, 2) := by decide +kernel
theorem dX7_worst_24 : decode cX7_worst 24 = .ok (.iload 4, 2) := by decide +kernel
theorem dX7_worst_26 : decode cX7_worst 26 = .ok (.iconst 4, 1) := by decide +kernel
theorem dX7_worst_27 : decode cX7_worst 27 = .ok (.if_icmp .ge 46, 3) := by decide +kernel
theorem dX7_worst_30 : decode cX7_worst 30 = .ok (.iload_n 3, 1) := by decide +kernel
theorem dX7_worst_31 : decode cX7_worst 31 = .ok (.ifCond .ne 12, 3) := by decide +kernel
theorem dX7_worst_34 : decode cX7_worst 34 = .ok (.iload 4, 2) := by decide +kernel
theorem dX7_worst_36 : decode cX7_worst 36 = .ok (.ifCond .ne 7, 3) := by decide +kernel
theorem dX7_worst_39 : decode cX7_worst 39 = .ok (.iconst 0, 1) := by decide +kernel
theorem dX7_worst_40 : decode cX7_worst 40 = .ok (.goto 12, 3) := by decide +kernel
theorem dX7_worst_43 : decode cX7_worst 43 = .ok (.aload_n 0, 1) := by decide +kernel
theorem dX7_worst_44 : decode cX7_worst 44 = .ok (.iload_n 1, 1) := by decide +kernel
theorem dX7_worst_45 : decode cX7_worst 45 = .ok (.iload_n 1, 1) := by decide +kernel
theorem dX7_worst_46 : decode cX7_worst 46 = .ok (.iload_n 3, 1) := by decide +kernel
theorem dX7_worst_47 : decode cX7_worst 47 = .ok (.iload 4, 2) := by decide +kernel
theorem dX7_worst_49 : decode cX7_worst 49 = .ok (.invokevirtual 56, 3) := by decide +kernel
theorem dX7_worst_52 : decode cX7_worst 52 = .ok (.istore 5, 2) := by decide +kernel
theorem dX7_worst_54 : decode cX7_worst 54 = .ok (.iload 5, 2) := by decide +kernel
theorem dX7_worst_56 : decode cX7_worst 56 = .ok (.iload_n 2, 1) := by decide +kernel
theorem dX7_worst_57 : decode cX7_worst 57 = .ok (.if_icmp .le 8, 3) := by decide +kernel
theorem dX7_worst_60 : decode cX7_worst 60 = .ok (.iload 5, 2) := by decide +kernel
theorem dX7_worst_62 : decode cX7_worst 62 = .ok (.goto 4, 3) := by decide +kernel
theorem dX7_worst_65 : decode cX7_worst 65 = .ok (.iload_n 2, 1) := by decide +kernel
theorem dX7_worst_66 : decode cX7_worst 66 = .ok (.istore_n 2, 1) := by decide +kernel
theorem dX7_worst_67 : decode cX7_worst 67 = .ok (.iinc 4 1, 3) := by decide +kernel
theorem dX7_worst_70 : decode cX7_worst 70 = .ok (.goto (-46), 3) := by decide +kernel
theorem dX7_worst_73 : decode cX7_worst 73 = .ok (.iinc 3 1, 3) := by decide +kernel
theorem dX7_worst_76 : decode cX7_worst 76 = .ok (.goto (-61), 3) := by decide +kernel
theorem dX7_worst_79 : decode cX7_worst 79 = .ok (.iload_n 2, 1) := by decide +kernel
theorem dX7_worst_80 : decode cX7_worst 80 = .ok (.ireturn, 1) := by decide +kernel
theorem dX7_lay_0 : decode cX7_lay 0 = .ok (.iconst 0, 1) := by decide +kernel
theorem dX7_lay_1 : decode cX7_lay 1 = .ok (.istore 4, 2) := by decide +kernel
theorem dX7_lay_3 : decode cX7_lay 3 = .ok (.iload 4, 2) := by decide +kernel
theorem dX7_lay_5 : decode cX7_lay 5 = .ok (.bipush 16, 2) := by decide +kernel
theorem dX7_lay_7 : decode cX7_lay 7 = .ok (.if_icmp .ge 43, 3) := by decide +kernel
theorem dX7_lay_10 : decode cX7_lay 10 = .ok (.aload_n 0, 1) := by decide +kernel
theorem dX7_lay_11 : decode cX7_lay 11 = .ok (.getfield 13, 3) := by decide +kernel
theorem dX7_lay_14 : decode cX7_lay 14 = .ok (.bipush 16, 2) := by decide +kernel
theorem dX7_lay_16 : decode cX7_lay 16 = .ok (.iload_n 1, 1) := by decide +kernel
theorem dX7_lay_17 : decode cX7_lay 17 = .ok (.imul, 1) := by decide +kernel
theorem dX7_lay_18 : decode cX7_lay 18 = .ok (.iload 4, 2) := by decide +kernel
theorem dX7_lay_20 : decode cX7_lay 20 = .ok (.iadd, 1) := by decide +kernel
theorem dX7_lay_21 : decode cX7_lay 21 = .ok (.iload 4, 2) := by decide +kernel
theorem dX7_lay_23 : decode cX7_lay 23 = .ok (.iload_n 2, 1) := by decide +kernel
theorem dX7_lay_24 : decode cX7_lay 24 = .ok (.if_icmp .ge 18, 3) := by decide +kernel
theorem dX7_lay_27 : decode cX7_lay 27 = .ok (.iconst 2, 1) := by decide +kernel
theorem dX7_lay_28 : decode cX7_lay 28 = .ok (.iload_n 3, 1) := by decide +kernel
theorem dX7_lay_29 : decode cX7_lay 29 = .ok (.iload_n 2, 1) := by decide +kernel
theorem dX7_lay_30 : decode cX7_lay 30 = .ok (.iconst 1, 1) := by decide +kernel
theorem dX7_lay_31 : decode cX7_lay 31 = .ok (.isub, 1) := by decide +kernel
theorem dX7_lay_32 : decode cX7_lay 32 = .ok (.iload 4, 2) := by decide +kernel
theorem dX7_lay_34 : decode cX7_lay 34 = .ok (.isub, 1) := by decide +kernel
theorem dX7_lay_35 : decode cX7_lay 35 = .ok (.ishr, 1) := by decide +kernel
theorem dX7_lay_36 : decode cX7_lay 36 = .ok (.iconst 1, 1) := by decide +kernel
theorem dX7_lay_37 : decode cX7_lay 37 = .ok (.iand, 1) := by decide +kernel
theorem dX7_lay_38 : decode cX7_lay 38 = .ok (.imul, 1) := by decide +kernel
theorem dX7_lay_39 : decode cX7_lay 39 = .ok (.goto 4, 3) := by decide +kernel
theorem dX7_lay_42 : decode cX7_lay 42 = .ok (.iconst 0, 1) := by decide +kernel
theorem dX7_lay_43 : decode cX7_lay 43 = .ok (.iastore, 1) := by decide +kernel
theorem dX7_lay_44 : decode cX7_lay 44 = .ok (.iinc 4 1, 3) := by decide +kernel
theorem dX7_lay_47 : decode cX7_lay 47 = .ok (.goto (-44), 3) := by decide +kernel
theorem dX7_lay_50 : decode cX7_lay 50 = .ok (.return_, 1) := by decide +kernel
set_option maxRecDepth 20000 in
theorem ggX7_best_X7_isSign : GoodIn wsX7_best wsX7_isSign := goodIn_r _ [6, 7, 8, 5, 9] (by decide +kernel) (by decide +kernel)
set_option maxRecDepth 20000 in
theorem gX7_best_X7_isSign : GoodIn wsX7_best (va_wsS RX7 42 yX7_isSign wsX7_isSign) := goodIn_app (goodIn_of _ (by decide +kernel)) ggX7_best_X7_isSign
set_option maxRecDepth 20000 in
theorem ggX7_best_X7_in : GoodIn wsX7_best wsX7_in := goodIn_r _ [9] (by decide +kernel) (by decide +kernel)
set_option maxRecDepth 20000 in
theorem gX7_best_X7_in : GoodIn wsX7_best (va_wsS RX7 38 yX7_in wsX7_in) := goodIn_app (goodIn_of _ (by decide +kernel)) ggX7_best_X7_in
set_option maxRecDepth 20000 in
theorem ggX7_best_X7_lay : GoodIn wsX7_best wsX7_lay := goodIn_r _ [13, 14, 33, 34, 35, 36, 37, 38, 39, 40, 41, 42, 43, 44, 45, 46, 47, 48] (by decide +kernel) (by decide +kernel)
set_option maxRecDepth 20000 in
theorem gX7_best_X7_lay : GoodIn wsX7_best (wsV RX7 70 RX7 yX7_lay wsX7_lay) := goodIn_app (goodIn_of _ (by decide +kernel)) ggX7_best_X7_lay
set_option maxRecDepth 20000 in
theorem ggX7_best_X7_peakOf : GoodIn wsX7_best wsX7_peakOf := goodIn_r _ [18, 2, 19, 20, 21, 5, 22, 23, 24, 14, 7, 8, 9, 25, 26, 27, 28, 33, 34, 35, 36, 37, 38, 39, 40, 41, 42, 43, 44, 45, 46, 47, 48] (by decide +kernel) (by decide +kernel)
set_option maxRecDepth 20000 in
theorem gX7_best_X7_peakOf : GoodIn wsX7_best (wsV RX7 60 RX7 yX7_peakOf wsX7_peakOf) := goodIn_app (goodIn_of _ (by decide +kernel)) ggX7_best_X7_peakOf
set_option maxRecDepth 20000 in
theorem ggX7_best_X7_flankOf : GoodIn wsX7_best wsX7_flankOf := goodIn_r _ [32, 2, 19, 20, 21, 5, 22, 23, 24, 14, 7, 8, 9, 25, 26, 27, 28, 33, 34, 35, 36, 37, 38, 39, 40, 41, 42, 43, 44, 45, 46, 47, 48] (by decide +kernel) (by decide +kernel)
set_option maxRecDepth 20000 in
theorem gX7_best_X7_flankOf : GoodIn wsX7_best (wsV RX7 64 RX7 yX7_flankOf wsX7_flankOf) := goodIn_app (goodIn_of _ (by decide +kernel)) ggX7_best_X7_flankOf
theorem dX7_best_0 : decode cX7_best 0 = .ok (.iload_n 1, 1) := by decide +kernel
theorem dX7_best_1 : decode cX7_best 1 = .ok (.invokestatic 42, 3) := by decide +kernel
theorem dX7_best_4 : decode cX7_best 4 = .ok (.ifCond .ne 6, 3) := by decide +kernel
theorem dX7_best_7 : decode cX7_best 7 = .ok (.bipush (-101), 2) := by decide +kernel
theorem dX7_best_9 : decode cX7_best 9 = .ok (.ireturn, 1) := by decide +kernel
theorem dX7_best_10 : decode cX7_best 10 = .ok (.iload_n 2, 1) := by decide +kernel
theorem dX7_best_11 : decode cX7_best 11 = .ok (.iconst 1, 1) := by decide +kernel
theorem dX7_best_12 : decode cX7_best 12 = .ok (.bipush 12, 2) := by decide +kernel
theorem dX7_best_14 : decode cX7_best 14 = .ok (.invokestatic 38, 3) := by decide +kernel
theorem dX7_best_17 : decode cX7_best 17 = .ok (.ifCond .ne 6, 3) := by decide +kernel
theorem dX7_best_20 : decode cX7_best 20 = .ok (.bipush (-102), 2) := by decide +kernel
theorem dX7_best_22 : decode cX7_best 22 = .ok (.ireturn, 1) := by decide +kernel
theorem dX7_best_23 : decode cX7_best 23 = .ok (.aload_n 0, 1) := by decide +kernel
theorem dX7_best_24 : decode cX7_best 24 = .ok (.getfield 67, 3) := by decide +kernel
theorem dX7_best_27 : decode cX7_best 27 = .ok (.bipush 30, 2) := by decide +kernel
theorem dX7_best_29 : decode cX7_best 29 = .ok (.if_icmp .ne 6, 3) := by decide +kernel
theorem dX7_best_32 : decode cX7_best 32 = .ok (.bipush (-104), 2) := by decide +kernel
theorem dX7_best_34 : decode cX7_best 34 = .ok (.ireturn, 1) := by decide +kernel
theorem dX7_best_35 : decode cX7_best 35 = .ok (.aload_n 0, 1) := by decide +kernel
theorem dX7_best_36 : decode cX7_best 36 = .ok (.dup, 1) := by decide +kernel
theorem dX7_best_37 : decode cX7_best 37 = .ok (.getfield 67, 3) := by decide +kernel
theorem dX7_best_40 : decode cX7_best 40 = .ok (.iconst 1, 1) := by decide +kernel
theorem dX7_best_41 : decode cX7_best 41 = .ok (.iadd, 1) := by decide +kernel
theorem dX7_best_42 : decode cX7_best 42 = .ok (.putfield 67, 3) := by decide +kernel
theorem dX7_best_45 : decode cX7_best 45 = .ok (.aload_n 0, 1) := by decide +kernel
theorem dX7_best_46 : decode cX7_best 46 = .ok (.getfield 7, 3) := by decide +kernel
theorem dX7_best_49 : decode cX7_best 49 = .ok (.iload_n 1, 1) := by decide +kernel
theorem dX7_best_50 : decode cX7_best 50 = .ok (.iload_n 2, 1) := by decide +kernel
theorem dX7_best_51 : decode cX7_best 51 = .ok (.iastore, 1) := by decide +kernel
theorem dX7_best_52 : decode cX7_best 52 = .ok (.iconst (-1), 1) := by decide +kernel
theorem dX7_best_53 : decode cX7_best 53 = .ok (.istore_n 3, 1) := by decide +kernel
theorem dX7_best_54 : decode cX7_best 54 = .ok (.iconst 0, 1) := by decide +kernel
theorem dX7_best_55 : decode cX7_best 55 = .ok (.istore 4, 2) := by decide +kernel
theorem dX7_best_57 : decode cX7_best 57 = .ok (.iconst 0, 1) := by decide +kernel
theorem dX7_best_58 : decode cX7_best 58 = .ok (.istore 5, 2) := by decide +kernel
theorem dX7_best_60 : decode cX7_best 60 = .ok (.iconst 0, 1) := by decide +kernel
theorem dX7_best_61 : decode cX7_best 61 = .ok (.istore 6, 2) := by decide +kernel
theorem dX7_best_63 : decode cX7_best 63 = .ok (.iload 6, 2) := by decide +kernel
theorem dX7_best_65 : decode cX7_best 65 = .ok (.iconst 1, 1) := by decide +kernel
theorem dX7_best_66 : decode cX7_best 66 = .ok (.iload_n 2, 1) := by decide +kernel
theorem dX7_best_67 : decode cX7_best 67 = .ok (.ishl, 1) := by decide +kernel
theorem dX7_best_68 : decode cX7_best 68 = .ok (.if_icmp .ge 71, 3) := by decide +kernel
theorem dX7_best_71 : decode cX7_best 71 = .ok (.aload_n 0, 1) := by decide +kernel
theorem dX7_best_72 : decode cX7_best 72 = .ok (.iload_n 1, 1) := by decide +kernel
theorem dX7_best_73 : decode cX7_best 73 = .ok (.iload_n 2, 1) := by decide +kernel
theorem dX7_best_74 : decode cX7_best 74 = .ok (.iload 6, 2) := by decide +kernel
theorem dX7_best_76 : decode cX7_best 76 = .ok (.invokevirtual 70, 3) := by decide +kernel
theorem dX7_best_79 : decode cX7_best 79 = .ok (.aload_n 0, 1) := by decide +kernel
theorem dX7_best_80 : decode cX7_best 80 = .ok (.iload_n 1, 1) := by decide +kernel
theorem dX7_best_81 : decode cX7_best 81 = .ok (.invokevirtual 60, 3) := by decide +kernel
theorem dX7_best_84 : decode cX7_best 84 = .ok (.istore 7, 2) := by decide +kernel
theorem dX7_best_86 : decode cX7_best 86 = .ok (.iload_n 3, 1) := by decide +kernel
theorem dX7_best_87 : decode cX7_best 87 = .ok (.iconst (-1), 1) := by decide +kernel
theorem dX7_best_88 : decode cX7_best 88 = .ok (.if_icmp .eq 9, 3) := by decide +kernel
theorem dX7_best_91 : decode cX7_best 91 = .ok (.iload 7, 2) := by decide +kernel
theorem dX7_best_93 : decode cX7_best 93 = .ok (.iload_n 3, 1) := by decide +kernel
theorem dX7_best_94 : decode cX7_best 94 = .ok (.if_icmp .gt 39, 3) := by decide +kernel
theorem dX7_best_97 : decode cX7_best 97 = .ok (.aload_n 0, 1) := by decide +kernel
theorem dX7_best_98 : decode cX7_best 98 = .ok (.iload_n 1, 1) := by decide +kernel
theorem dX7_best_99 : decode cX7_best 99 = .ok (.invokevirtual 64, 3) := by decide +kernel
theorem dX7_best_102 : decode cX7_best 102 = .ok (.istore 8, 2) := by decide +kernel
theorem dX7_best_104 : decode cX7_best 104 = .ok (.iload_n 3, 1) := by decide +kernel
theorem dX7_best_105 : decode cX7_best 105 = .ok (.iconst (-1), 1) := by decide +kernel
theorem dX7_best_106 : decode cX7_best 106 = .ok (.if_icmp .eq 16, 3) := by decide +kernel
theorem dX7_best_109 : decode cX7_best 109 = .ok (.iload 7, 2) := by decide +kernel
theorem dX7_best_111 : decode cX7_best 111 = .ok (.iload_n 3, 1) := by decide +kernel
theorem dX7_best_112 : decode cX7_best 112 = .ok (.if_icmp .lt 10, 3) := by decide +kernel
theorem dX7_best_115 : decode cX7_best 115 = .ok (.iload 8, 2) := by decide +kernel
theorem dX7_best_117 : decode cX7_best 117 = .ok (.iload 4, 2) := by decide +kernel
theorem dX7_best_119 : decode cX7_best 119 = .ok (.if_icmp .ge 14, 3) := by decide +kernel
theorem dX7_best_122 : decode cX7_best 122 = .ok (.iload 7, 2) := by decide +kernel
theorem dX7_best_124 : decode cX7_best 124 = .ok (.istore_n 3, 1) := by decide +kernel
theorem dX7_best_125 : decode cX7_best 125 = .ok (.iload 8, 2) := by decide +kernel
theorem dX7_best_127 : decode cX7_best 127 = .ok (.istore 4, 2) := by decide +kernel
theorem dX7_best_129 : decode cX7_best 129 = .ok (.iload 6, 2) := by decide +kernel
theorem dX7_best_131 : decode cX7_best 131 = .ok (.istore 5, 2) := by decide +kernel
theorem dX7_best_133 : decode cX7_best 133 = .ok (.iinc 6 1, 3) := by decide +kernel
theorem dX7_best_136 : decode cX7_best 136 = .ok (.goto (-73), 3) := by decide +kernel
theorem dX7_best_139 : decode cX7_best 139 = .ok (.aload_n 0, 1) := by decide +kernel
theorem dX7_best_140 : decode cX7_best 140 = .ok (.iload_n 1, 1) := by decide +kernel
theorem dX7_best_141 : decode cX7_best 141 = .ok (.iload_n 2, 1) := by decide +kernel
theorem dX7_best_142 : decode cX7_best 142 = .ok (.iload 5, 2) := by decide +kernel
theorem dX7_best_144 : decode cX7_best 144 = .ok (.invokevirtual 70, 3) := by decide +kernel
theorem dX7_best_147 : decode cX7_best 147 = .ok (.iload_n 3, 1) := by decide +kernel
theorem dX7_best_148 : decode cX7_best 148 = .ok (.ireturn, 1) := by decide +kernel
set_option maxRecDepth 20000 in
theorem ggX7_pair_X7_isSign : GoodIn wsX7_pair wsX7_isSign := goodIn_r _ [7, 8, 9, 6, 10] (by decide +kernel) (by decide +kernel)
set_option maxRecDepth 20000 in
theorem gX7_pair_X7_isSign : GoodIn wsX7_pair (va_wsS RX7 42 yX7_isSign wsX7_isSign) := goodIn_app (goodIn_of _ (by decide +kernel)) ggX7_pair_X7_isSign
set_option maxRecDepth 20000 in
theorem ggX7_pair_X7_looks : GoodIn wsX7_pair wsX7_looks := goodIn_r _ [14, 2, 3, 1, 15, 8, 9, 6, 10, 16, 17, 18, 19, 20, 21, 22, 23, 24, 25, 26, 27, 28, 29, 30, 31, 32, 33, 34, 35] (by decide +kernel) (by decide +kernel)
set_option maxRecDepth 20000 in
theorem gX7_pair_X7_looks : GoodIn wsX7_pair (wsV RX7 56 RX7 yX7_looks wsX7_looks) := goodIn_app (goodIn_of _ (by decide +kernel)) ggX7_pair_X7_looks
theorem dX7_pair_0 : decode cX7_pair 0 = .ok (.iload_n 1, 1) := by decide +kernel
theorem dX7_pair_1 : decode cX7_pair 1 = .ok (.invokestatic 42, 3) := by decide +kernel
theorem dX7_pair_4 : decode cX7_pair 4 = .ok (.ifCond .eq 10, 3) := by decide +kernel
theorem dX7_pair_7 : decode cX7_pair 7 = .ok (.iload_n 2, 1) := by decide +kernel
theorem dX7_pair_8 : decode cX7_pair 8 = .ok (.invokestatic 42, 3) := by decide +kernel
theorem dX7_pair_11 : decode cX7_pair 11 = .ok (.ifCond .ne 6, 3) := by decide +kernel
theorem dX7_pair_14 : decode cX7_pair 14 = .ok (.bipush (-101), 2) := by decide +kernel
theorem dX7_pair_16 : decode cX7_pair 16 = .ok (.ireturn, 1) := by decide +kernel
theorem dX7_pair_17 : decode cX7_pair 17 = .ok (.aload_n 0, 1) := by decide +kernel
theorem dX7_pair_18 : decode cX7_pair 18 = .ok (.getfield 7, 3) := by decide +kernel
theorem dX7_pair_21 : decode cX7_pair 21 = .ok (.iload_n 1, 1) := by decide +kernel
theorem dX7_pair_22 : decode cX7_pair 22 = .ok (.iaload, 1) := by decide +kernel
theorem dX7_pair_23 : decode cX7_pair 23 = .ok (.aload_n 0, 1) := by decide +kernel
theorem dX7_pair_24 : decode cX7_pair 24 = .ok (.getfield 7, 3) := by decide +kernel
theorem dX7_pair_27 : decode cX7_pair 27 = .ok (.iload_n 2, 1) := by decide +kernel
theorem dX7_pair_28 : decode cX7_pair 28 = .ok (.iaload, 1) := by decide +kernel
theorem dX7_pair_29 : decode cX7_pair 29 = .ok (.if_icmp .eq 5, 3) := by decide +kernel
theorem dX7_pair_32 : decode cX7_pair 32 = .ok (.iconst 0, 1) := by decide +kernel
theorem dX7_pair_33 : decode cX7_pair 33 = .ok (.ireturn, 1) := by decide +kernel
theorem dX7_pair_34 : decode cX7_pair 34 = .ok (.iconst 1, 1) := by decide +kernel
theorem dX7_pair_35 : decode cX7_pair 35 = .ok (.istore_n 3, 1) := by decide +kernel
theorem dX7_pair_36 : decode cX7_pair 36 = .ok (.iconst 1, 1) := by decide +kernel
theorem dX7_pair_37 : decode cX7_pair 37 = .ok (.istore 4, 2) := by decide +kernel
theorem dX7_pair_39 : decode cX7_pair 39 = .ok (.iload 4, 2) := by decide +kernel
theorem dX7_pair_41 : decode cX7_pair 41 = .ok (.aload_n 0, 1) := by decide +kernel
theorem dX7_pair_42 : decode cX7_pair 42 = .ok (.getfield 7, 3) := by decide +kernel
theorem dX7_pair_45 : decode cX7_pair 45 = .ok (.iload_n 1, 1) := by decide +kernel
theorem dX7_pair_46 : decode cX7_pair 46 = .ok (.iaload, 1) := by decide +kernel
theorem dX7_pair_47 : decode cX7_pair 47 = .ok (.if_icmp .ge 71, 3) := by decide +kernel
theorem dX7_pair_50 : decode cX7_pair 50 = .ok (.iload_n 3, 1) := by decide +kernel
theorem dX7_pair_51 : decode cX7_pair 51 = .ok (.ifCond .eq 67, 3) := by decide +kernel
theorem dX7_pair_54 : decode cX7_pair 54 = .ok (.aload_n 0, 1) := by decide +kernel
theorem dX7_pair_55 : decode cX7_pair 55 = .ok (.iload_n 1, 1) := by decide +kernel
theorem dX7_pair_56 : decode cX7_pair 56 = .ok (.iload_n 1, 1) := by decide +kernel
theorem dX7_pair_57 : decode cX7_pair 57 = .ok (.iload 4, 2) := by decide +kernel
theorem dX7_pair_59 : decode cX7_pair 59 = .ok (.iconst 0, 1) := by decide +kernel
theorem dX7_pair_60 : decode cX7_pair 60 = .ok (.invokevirtual 56, 3) := by decide +kernel
theorem dX7_pair_63 : decode cX7_pair 63 = .ok (.pop, 1) := by decide +kernel
theorem dX7_pair_64 : decode cX7_pair 64 = .ok (.aload_n 0, 1) := by decide +kernel
theorem dX7_pair_65 : decode cX7_pair 65 = .ok (.getfield 46, 3) := by decide +kernel
theorem dX7_pair_68 : decode cX7_pair 68 = .ok (.istore 5, 2) := by decide +kernel
theorem dX7_pair_70 : decode cX7_pair 70 = .ok (.aload_n 0, 1) := by decide +kernel
theorem dX7_pair_71 : decode cX7_pair 71 = .ok (.getfield 49, 3) := by decide +kernel
theorem dX7_pair_74 : decode cX7_pair 74 = .ok (.istore 6, 2) := by decide +kernel
theorem dX7_pair_76 : decode cX7_pair 76 = .ok (.aload_n 0, 1) := by decide +kernel
theorem dX7_pair_77 : decode cX7_pair 77 = .ok (.iload_n 2, 1) := by decide +kernel
theorem dX7_pair_78 : decode cX7_pair 78 = .ok (.iload_n 2, 1) := by decide +kernel
theorem dX7_pair_79 : decode cX7_pair 79 = .ok (.iload 4, 2) := by decide +kernel
theorem dX7_pair_81 : decode cX7_pair 81 = .ok (.iconst 0, 1) := by decide +kernel
theorem dX7_pair_82 : decode cX7_pair 82 = .ok (.invokevirtual 56, 3) := by decide +kernel
theorem dX7_pair_85 : decode cX7_pair 85 = .ok (.pop, 1) := by decide +kernel
theorem dX7_pair_86 : decode cX7_pair 86 = .ok (.iload 5, 2) := by decide +kernel
theorem dX7_pair_88 : decode cX7_pair 88 = .ok (.aload_n 0, 1) := by decide +kernel
theorem dX7_pair_89 : decode cX7_pair 89 = .ok (.getfield 46, 3) := by decide +kernel
theorem dX7_pair_92 : decode cX7_pair 92 = .ok (.iadd, 1) := by decide +kernel
theorem dX7_pair_93 : decode cX7_pair 93 = .ok (.ifCond .ne 17, 3) := by decide +kernel
theorem dX7_pair_96 : decode cX7_pair 96 = .ok (.iload 6, 2) := by decide +kernel
theorem dX7_pair_98 : decode cX7_pair 98 = .ok (.aload_n 0, 1) := by decide +kernel
theorem dX7_pair_99 : decode cX7_pair 99 = .ok (.getfield 49, 3) := by decide +kernel
theorem dX7_pair_102 : decode cX7_pair 102 = .ok (.iadd, 1) := by decide +kernel
theorem dX7_pair_103 : decode cX7_pair 103 = .ok (.ifCond .ne 7, 3) := by decide +kernel
theorem dX7_pair_106 : decode cX7_pair 106 = .ok (.iconst 1, 1) := by decide +kernel
theorem dX7_pair_107 : decode cX7_pair 107 = .ok (.goto 4, 3) := by decide +kernel
theorem dX7_pair_110 : decode cX7_pair 110 = .ok (.iconst 0, 1) := by decide +kernel
theorem dX7_pair_111 : decode cX7_pair 111 = .ok (.istore_n 3, 1) := by decide +kernel
theorem dX7_pair_112 : decode cX7_pair 112 = .ok (.iinc 4 1, 3) := by decide +kernel
theorem dX7_pair_115 : decode cX7_pair 115 = .ok (.goto (-76), 3) := by decide +kernel
theorem dX7_pair_118 : decode cX7_pair 118 = .ok (.iload_n 3, 1) := by decide +kernel
theorem dX7_pair_119 : decode cX7_pair 119 = .ok (.ifCond .eq 7, 3) := by decide +kernel
theorem dX7_pair_122 : decode cX7_pair 122 = .ok (.iconst 1, 1) := by decide +kernel
theorem dX7_pair_123 : decode cX7_pair 123 = .ok (.goto 4, 3) := by decide +kernel
theorem dX7_pair_126 : decode cX7_pair 126 = .ok (.iconst 0, 1) := by decide +kernel
theorem dX7_pair_127 : decode cX7_pair 127 = .ok (.ireturn, 1) := by decide +kernel
set_option maxRecDepth 20000 in
theorem ggX7_filter_X7_in : GoodIn wsX7_filter wsX7_in := goodIn_r _ [6] (by decide +kernel) (by decide +kernel)
set_option maxRecDepth 20000 in
theorem gX7_filter_X7_in : GoodIn wsX7_filter (va_wsS RX7 38 yX7_in wsX7_in) := goodIn_app (goodIn_of _ (by decide +kernel)) ggX7_filter_X7_in
theorem dX7_filter_0 : decode cX7_filter 0 = .ok (.iload_n 1, 1) := by decide +kernel
theorem dX7_filter_1 : decode cX7_filter 1 = .ok (.iconst 1, 1) := by decide +kernel
theorem dX7_filter_2 : decode cX7_filter 2 = .ok (.bipush 24, 2) := by decide +kernel
theorem dX7_filter_4 : decode cX7_filter 4 = .ok (.invokestatic 38, 3) := by decide +kernel
theorem dX7_filter_7 : decode cX7_filter 7 = .ok (.ifCond .ne 6, 3) := by decide +kernel
theorem dX7_filter_10 : decode cX7_filter 10 = .ok (.bipush (-102), 2) := by decide +kernel
theorem dX7_filter_12 : decode cX7_filter 12 = .ok (.ireturn, 1) := by decide +kernel
theorem dX7_filter_13 : decode cX7_filter 13 = .ok (.aload_n 0, 1) := by decide +kernel
theorem dX7_filter_14 : decode cX7_filter 14 = .ok (.iload_n 1, 1) := by decide +kernel
theorem dX7_filter_15 : decode cX7_filter 15 = .ok (.putfield 16, 3) := by decide +kernel
theorem dX7_filter_18 : decode cX7_filter 18 = .ok (.iconst 0, 1) := by decide +kernel
theorem dX7_filter_19 : decode cX7_filter 19 = .ok (.istore_n 2, 1) := by decide +kernel
theorem dX7_filter_20 : decode cX7_filter 20 = .ok (.iload_n 2, 1) := by decide +kernel
theorem dX7_filter_21 : decode cX7_filter 21 = .ok (.bipush 24, 2) := by decide +kernel
theorem dX7_filter_23 : decode cX7_filter 23 = .ok (.if_icmp .ge 16, 3) := by decide +kernel
theorem dX7_filter_26 : decode cX7_filter 26 = .ok (.aload_n 0, 1) := by decide +kernel
theorem dX7_filter_27 : decode cX7_filter 27 = .ok (.getfield 20, 3) := by decide +kernel
theorem dX7_filter_30 : decode cX7_filter 30 = .ok (.iload_n 2, 1) := by decide +kernel
theorem dX7_filter_31 : decode cX7_filter 31 = .ok (.iconst 0, 1) := by decide +kernel
theorem dX7_filter_32 : decode cX7_filter 32 = .ok (.iastore, 1) := by decide +kernel
theorem dX7_filter_33 : decode cX7_filter 33 = .ok (.iinc 2 1, 3) := by decide +kernel
theorem dX7_filter_36 : decode cX7_filter 36 = .ok (.goto (-16), 3) := by decide +kernel
theorem dX7_filter_39 : decode cX7_filter 39 = .ok (.iload_n 1, 1) := by decide +kernel
theorem dX7_filter_40 : decode cX7_filter 40 = .ok (.ireturn, 1) := by decide +kernel
set_option maxRecDepth 20000 in
theorem ggX7_weight_X7_in : GoodIn wsX7_weight wsX7_in := goodIn_r _ [6] (by decide +kernel) (by decide +kernel)
set_option maxRecDepth 20000 in
theorem gX7_weight_X7_in : GoodIn wsX7_weight (va_wsS RX7 38 yX7_in wsX7_in) := goodIn_app (goodIn_of _ (by decide +kernel)) ggX7_weight_X7_in
theorem dX7_weight_0 : decode cX7_weight 0 = .ok (.iload_n 1, 1) := by decide +kernel
theorem dX7_weight_1 : decode cX7_weight 1 = .ok (.iconst 0, 1) := by decide +kernel
theorem dX7_weight_2 : decode cX7_weight 2 = .ok (.aload_n 0, 1) := by decide +kernel
theorem dX7_weight_3 : decode cX7_weight 3 = .ok (.getfield 16, 3) := by decide +kernel
theorem dX7_weight_6 : decode cX7_weight 6 = .ok (.iconst 1, 1) := by decide +kernel
theorem dX7_weight_7 : decode cX7_weight 7 = .ok (.isub, 1) := by decide +kernel
theorem dX7_weight_8 : decode cX7_weight 8 = .ok (.invokestatic 38, 3) := by decide +kernel
theorem dX7_weight_11 : decode cX7_weight 11 = .ok (.ifCond .ne 7, 3) := by decide +kernel
theorem dX7_weight_14 : decode cX7_weight 14 = .ok (.sipush (-1000), 3) := by decide +kernel
theorem dX7_weight_17 : decode cX7_weight 17 = .ok (.ireturn, 1) := by decide +kernel
theorem dX7_weight_18 : decode cX7_weight 18 = .ok (.iload_n 2, 1) := by decide +kernel
theorem dX7_weight_19 : decode cX7_weight 19 = .ok (.bipush (-50), 2) := by decide +kernel
theorem dX7_weight_21 : decode cX7_weight 21 = .ok (.bipush 50, 2) := by decide +kernel
theorem dX7_weight_23 : decode cX7_weight 23 = .ok (.invokestatic 38, 3) := by decide +kernel
theorem dX7_weight_26 : decode cX7_weight 26 = .ok (.ifCond .ne 7, 3) := by decide +kernel
theorem dX7_weight_29 : decode cX7_weight 29 = .ok (.sipush (-1001), 3) := by decide +kernel
theorem dX7_weight_32 : decode cX7_weight 32 = .ok (.ireturn, 1) := by decide +kernel
theorem dX7_weight_33 : decode cX7_weight 33 = .ok (.aload_n 0, 1) := by decide +kernel
theorem dX7_weight_34 : decode cX7_weight 34 = .ok (.getfield 20, 3) := by decide +kernel
theorem dX7_weight_37 : decode cX7_weight 37 = .ok (.iload_n 1, 1) := by decide +kernel
theorem dX7_weight_38 : decode cX7_weight 38 = .ok (.iaload, 1) := by decide +kernel
theorem dX7_weight_39 : decode cX7_weight 39 = .ok (.istore_n 3, 1) := by decide +kernel
theorem dX7_weight_40 : decode cX7_weight 40 = .ok (.aload_n 0, 1) := by decide +kernel
theorem dX7_weight_41 : decode cX7_weight 41 = .ok (.getfield 20, 3) := by decide +kernel
theorem dX7_weight_44 : decode cX7_weight 44 = .ok (.iload_n 1, 1) := by decide +kernel
theorem dX7_weight_45 : decode cX7_weight 45 = .ok (.iload_n 2, 1) := by decide +kernel
theorem dX7_weight_46 : decode cX7_weight 46 = .ok (.iastore, 1) := by decide +kernel
theorem dX7_weight_47 : decode cX7_weight 47 = .ok (.iload_n 3, 1) := by decide +kernel
theorem dX7_weight_48 : decode cX7_weight 48 = .ok (.ireturn, 1) := by decide +kernel
set_option maxRecDepth 20000 in
theorem ggX7_own_X7_isSign : GoodIn wsX7_own wsX7_isSign := goodIn_r _ [8, 9, 10, 7, 11] (by decide +kernel) (by decide +kernel)
set_option maxRecDepth 20000 in
theorem gX7_own_X7_isSign : GoodIn wsX7_own (va_wsS RX7 42 yX7_isSign wsX7_isSign) := goodIn_app (goodIn_of _ (by decide +kernel)) ggX7_own_X7_isSign
theorem dX7_own_0 : decode cX7_own 0 = .ok (.iload_n 1, 1) := by decide +kernel
theorem dX7_own_1 : decode cX7_own 1 = .ok (.invokestatic 42, 3) := by decide +kernel
theorem dX7_own_4 : decode cX7_own 4 = .ok (.ifCond .ne 6, 3) := by decide +kernel
theorem dX7_own_7 : decode cX7_own 7 = .ok (.bipush (-101), 2) := by decide +kernel
theorem dX7_own_9 : decode cX7_own 9 = .ok (.ireturn, 1) := by decide +kernel
theorem dX7_own_10 : decode cX7_own 10 = .ok (.aload_n 0, 1) := by decide +kernel
theorem dX7_own_11 : decode cX7_own 11 = .ok (.aload_n 0, 1) := by decide +kernel
theorem dX7_own_12 : decode cX7_own 12 = .ok (.getfield 7, 3) := by decide +kernel
theorem dX7_own_15 : decode cX7_own 15 = .ok (.iload_n 1, 1) := by decide +kernel
theorem dX7_own_16 : decode cX7_own 16 = .ok (.iaload, 1) := by decide +kernel
theorem dX7_own_17 : decode cX7_own 17 = .ok (.putfield 16, 3) := by decide +kernel
theorem dX7_own_20 : decode cX7_own 20 = .ok (.iconst 0, 1) := by decide +kernel
theorem dX7_own_21 : decode cX7_own 21 = .ok (.istore_n 2, 1) := by decide +kernel
theorem dX7_own_22 : decode cX7_own 22 = .ok (.iload_n 2, 1) := by decide +kernel
theorem dX7_own_23 : decode cX7_own 23 = .ok (.bipush 24, 2) := by decide +kernel
theorem dX7_own_25 : decode cX7_own 25 = .ok (.if_icmp .ge 64, 3) := by decide +kernel
theorem dX7_own_28 : decode cX7_own 28 = .ok (.iload_n 2, 1) := by decide +kernel
theorem dX7_own_29 : decode cX7_own 29 = .ok (.aload_n 0, 1) := by decide +kernel
theorem dX7_own_30 : decode cX7_own 30 = .ok (.getfield 16, 3) := by decide +kernel
theorem dX7_own_33 : decode cX7_own 33 = .ok (.if_icmp .ge 24, 3) := by decide +kernel
theorem dX7_own_36 : decode cX7_own 36 = .ok (.aload_n 0, 1) := by decide +kernel
theorem dX7_own_37 : decode cX7_own 37 = .ok (.getfield 13, 3) := by decide +kernel
theorem dX7_own_40 : decode cX7_own 40 = .ok (.bipush 16, 2) := by decide +kernel
theorem dX7_own_42 : decode cX7_own 42 = .ok (.iload_n 1, 1) := by decide +kernel
theorem dX7_own_43 : decode cX7_own 43 = .ok (.imul, 1) := by decide +kernel
theorem dX7_own_44 : decode cX7_own 44 = .ok (.aload_n 0, 1) := by decide +kernel
theorem dX7_own_45 : decode cX7_own 45 = .ok (.getfield 16, 3) := by decide +kernel
theorem dX7_own_48 : decode cX7_own 48 = .ok (.iadd, 1) := by decide +kernel
theorem dX7_own_49 : decode cX7_own 49 = .ok (.iconst 1, 1) := by decide +kernel
theorem dX7_own_50 : decode cX7_own 50 = .ok (.isub, 1) := by decide +kernel
theorem dX7_own_51 : decode cX7_own 51 = .ok (.iload_n 2, 1) := by decide +kernel
theorem dX7_own_52 : decode cX7_own 52 = .ok (.isub, 1) := by decide +kernel
theorem dX7_own_53 : decode cX7_own 53 = .ok (.iaload, 1) := by decide +kernel
theorem dX7_own_54 : decode cX7_own 54 = .ok (.goto 4, 3) := by decide +kernel
theorem dX7_own_57 : decode cX7_own 57 = .ok (.iconst 1, 1) := by decide +kernel
theorem dX7_own_58 : decode cX7_own 58 = .ok (.istore_n 3, 1) := by decide +kernel
theorem dX7_own_59 : decode cX7_own 59 = .ok (.aload_n 0, 1) := by decide +kernel
theorem dX7_own_60 : decode cX7_own 60 = .ok (.getfield 20, 3) := by decide +kernel
theorem dX7_own_63 : decode cX7_own 63 = .ok (.iload_n 2, 1) := by decide +kernel
theorem dX7_own_64 : decode cX7_own 64 = .ok (.iload_n 3, 1) := by decide +kernel
theorem dX7_own_65 : decode cX7_own 65 = .ok (.ifCond .ne 7, 3) := by decide +kernel
theorem dX7_own_68 : decode cX7_own 68 = .ok (.iconst 1, 1) := by decide +kernel
theorem dX7_own_69 : decode cX7_own 69 = .ok (.goto 13, 3) := by decide +kernel
theorem dX7_own_72 : decode cX7_own 72 = .ok (.iload_n 3, 1) := by decide +kernel
theorem dX7_own_73 : decode cX7_own 73 = .ok (.iconst 2, 1) := by decide +kernel
theorem dX7_own_74 : decode cX7_own 74 = .ok (.if_icmp .ne 7, 3) := by decide +kernel
theorem dX7_own_77 : decode cX7_own 77 = .ok (.iconst (-1), 1) := by decide +kernel
theorem dX7_own_78 : decode cX7_own 78 = .ok (.goto 4, 3) := by decide +kernel
theorem dX7_own_81 : decode cX7_own 81 = .ok (.iconst 0, 1) := by decide +kernel
theorem dX7_own_82 : decode cX7_own 82 = .ok (.iastore, 1) := by decide +kernel
theorem dX7_own_83 : decode cX7_own 83 = .ok (.iinc 2 1, 3) := by decide +kernel
theorem dX7_own_86 : decode cX7_own 86 = .ok (.goto (-64), 3) := by decide +kernel
theorem dX7_own_89 : decode cX7_own 89 = .ok (.aload_n 0, 1) := by decide +kernel
theorem dX7_own_90 : decode cX7_own 90 = .ok (.getfield 16, 3) := by decide +kernel
theorem dX7_own_93 : decode cX7_own 93 = .ok (.ireturn, 1) := by decide +kernel
set_option maxRecDepth 20000 in
theorem ggX7_answers_X7_in : GoodIn wsX7_answers wsX7_in := goodIn_r _ [10] (by decide +kernel) (by decide +kernel)
set_option maxRecDepth 20000 in
theorem gX7_answers_X7_in : GoodIn wsX7_answers (va_wsS RX7 38 yX7_in wsX7_in) := goodIn_app (goodIn_of _ (by decide +kernel)) ggX7_answers_X7_in
set_option maxRecDepth 20000 in
theorem ggX7_answers_X7_add : GoodIn wsX7_answers wsX7_add := goodIn_r _ [14, 1, 2, 15, 16, 17, 18, 19, 20, 21, 22, 23, 24, 25, 26, 27, 28, 29, 30] (by decide +kernel) (by decide +kernel)
set_option maxRecDepth 20000 in
theorem gX7_answers_X7_add : GoodIn wsX7_answers (wsV RX7 52 RX7 yX7_add wsX7_add) := goodIn_app (goodIn_of _ (by decide +kernel)) ggX7_answers_X7_add
theorem dX7_answers_0 : decode cX7_answers 0 = .ok (.aload_n 0, 1) := by decide +kernel
theorem dX7_answers_1 : decode cX7_answers 1 = .ok (.iconst 0, 1) := by decide +kernel
theorem dX7_answers_2 : decode cX7_answers 2 = .ok (.putfield 46, 3) := by decide +kernel
theorem dX7_answers_5 : decode cX7_answers 5 = .ok (.aload_n 0, 1) := by decide +kernel
theorem dX7_answers_6 : decode cX7_answers 6 = .ok (.iconst 0, 1) := by decide +kernel
theorem dX7_answers_7 : decode cX7_answers 7 = .ok (.putfield 49, 3) := by decide +kernel
theorem dX7_answers_10 : decode cX7_answers 10 = .ok (.iconst 0, 1) := by decide +kernel
theorem dX7_answers_11 : decode cX7_answers 11 = .ok (.istore_n 3, 1) := by decide +kernel
theorem dX7_answers_12 : decode cX7_answers 12 = .ok (.iload_n 3, 1) := by decide +kernel
theorem dX7_answers_13 : decode cX7_answers 13 = .ok (.aload_n 0, 1) := by decide +kernel
theorem dX7_answers_14 : decode cX7_answers 14 = .ok (.getfield 16, 3) := by decide +kernel
theorem dX7_answers_17 : decode cX7_answers 17 = .ok (.if_icmp .ge 50, 3) := by decide +kernel
theorem dX7_answers_20 : decode cX7_answers 20 = .ok (.iload_n 2, 1) := by decide +kernel
theorem dX7_answers_21 : decode cX7_answers 21 = .ok (.iload_n 3, 1) := by decide +kernel
theorem dX7_answers_22 : decode cX7_answers 22 = .ok (.isub, 1) := by decide +kernel
theorem dX7_answers_23 : decode cX7_answers 23 = .ok (.iconst 0, 1) := by decide +kernel
theorem dX7_answers_24 : decode cX7_answers 24 = .ok (.aload_n 0, 1) := by decide +kernel
theorem dX7_answers_25 : decode cX7_answers 25 = .ok (.getfield 7, 3) := by decide +kernel
theorem dX7_answers_28 : decode cX7_answers 28 = .ok (.iload_n 1, 1) := by decide +kernel
theorem dX7_answers_29 : decode cX7_answers 29 = .ok (.iaload, 1) := by decide +kernel
theorem dX7_answers_30 : decode cX7_answers 30 = .ok (.iconst 1, 1) := by decide +kernel
theorem dX7_answers_31 : decode cX7_answers 31 = .ok (.isub, 1) := by decide +kernel
theorem dX7_answers_32 : decode cX7_answers 32 = .ok (.invokestatic 38, 3) := by decide +kernel
theorem dX7_answers_35 : decode cX7_answers 35 = .ok (.ifCond .eq 26, 3) := by decide +kernel
theorem dX7_answers_38 : decode cX7_answers 38 = .ok (.aload_n 0, 1) := by decide +kernel
theorem dX7_answers_39 : decode cX7_answers 39 = .ok (.aload_n 0, 1) := by decide +kernel
theorem dX7_answers_40 : decode cX7_answers 40 = .ok (.getfield 13, 3) := by decide +kernel
theorem dX7_answers_43 : decode cX7_answers 43 = .ok (.bipush 16, 2) := by decide +kernel
theorem dX7_answers_45 : decode cX7_answers 45 = .ok (.iload_n 1, 1) := by decide +kernel
theorem dX7_answers_46 : decode cX7_answers 46 = .ok (.imul, 1) := by decide +kernel
theorem dX7_answers_47 : decode cX7_answers 47 = .ok (.iload_n 2, 1) := by decide +kernel
theorem dX7_answers_48 : decode cX7_answers 48 = .ok (.iadd, 1) := by decide +kernel
theorem dX7_answers_49 : decode cX7_answers 49 = .ok (.iload_n 3, 1) := by decide +kernel
theorem dX7_answers_50 : decode cX7_answers 50 = .ok (.isub, 1) := by decide +kernel
theorem dX7_answers_51 : decode cX7_answers 51 = .ok (.iaload, 1) := by decide +kernel
theorem dX7_answers_52 : decode cX7_answers 52 = .ok (.aload_n 0, 1) := by decide +kernel
theorem dX7_answers_53 : decode cX7_answers 53 = .ok (.getfield 20, 3) := by decide +kernel
theorem dX7_answers_56 : decode cX7_answers 56 = .ok (.iload_n 3, 1) := by decide +kernel
theorem dX7_answers_57 : decode cX7_answers 57 = .ok (.iaload, 1) := by decide +kernel
theorem dX7_answers_58 : decode cX7_answers 58 = .ok (.invokevirtual 52, 3) := by decide +kernel
theorem dX7_answers_61 : decode cX7_answers 61 = .ok (.iinc 3 1, 3) := by decide +kernel
theorem dX7_answers_64 : decode cX7_answers 64 = .ok (.goto (-52), 3) := by decide +kernel
theorem dX7_answers_67 : decode cX7_answers 67 = .ok (.aload_n 0, 1) := by decide +kernel
theorem dX7_answers_68 : decode cX7_answers 68 = .ok (.getfield 46, 3) := by decide +kernel
theorem dX7_answers_71 : decode cX7_answers 71 = .ok (.aload_n 0, 1) := by decide +kernel
theorem dX7_answers_72 : decode cX7_answers 72 = .ok (.getfield 46, 3) := by decide +kernel
theorem dX7_answers_75 : decode cX7_answers 75 = .ok (.imul, 1) := by decide +kernel
theorem dX7_answers_76 : decode cX7_answers 76 = .ok (.aload_n 0, 1) := by decide +kernel
theorem dX7_answers_77 : decode cX7_answers 77 = .ok (.getfield 49, 3) := by decide +kernel
theorem dX7_answers_80 : decode cX7_answers 80 = .ok (.aload_n 0, 1) := by decide +kernel
theorem dX7_answers_81 : decode cX7_answers 81 = .ok (.getfield 49, 3) := by decide +kernel
theorem dX7_answers_84 : decode cX7_answers 84 = .ok (.imul, 1) := by decide +kernel
theorem dX7_answers_85 : decode cX7_answers 85 = .ok (.iadd, 1) := by decide +kernel
theorem dX7_answers_86 : decode cX7_answers 86 = .ok (.ireturn, 1) := by decide +kernel
set_option maxRecDepth 20000 in
theorem ggX7_answer_X7_isSign : GoodIn wsX7_answer wsX7_isSign := goodIn_r _ [8, 9, 10, 7, 11] (by decide +kernel) (by decide +kernel)
set_option maxRecDepth 20000 in
theorem gX7_answer_X7_isSign : GoodIn wsX7_answer (va_wsS RX7 42 yX7_isSign wsX7_isSign) := goodIn_app (goodIn_of _ (by decide +kernel)) ggX7_answer_X7_isSign
set_option maxRecDepth 20000 in
theorem ggX7_answer_X7_in : GoodIn wsX7_answer wsX7_in := goodIn_r _ [11] (by decide +kernel) (by decide +kernel)
set_option maxRecDepth 20000 in
theorem gX7_answer_X7_in : GoodIn wsX7_answer (va_wsS RX7 38 yX7_in wsX7_in) := goodIn_app (goodIn_of _ (by decide +kernel)) ggX7_answer_X7_in
set_option maxRecDepth 20000 in
theorem ggX7_answer_X7_answers : GoodIn wsX7_answer wsX7_answers := goodIn_r _ [15, 3, 4, 16, 17, 18, 19, 9, 10, 7, 11, 20, 21, 22, 23, 24, 25, 26, 27, 28, 29, 30, 31, 32, 33, 34, 35, 36, 37, 38, 39] (by decide +kernel) (by decide +kernel)
set_option maxRecDepth 20000 in
theorem gX7_answer_X7_answers : GoodIn wsX7_answer (wsV RX7 76 RX7 yX7_answers wsX7_answers) := goodIn_app (goodIn_of _ (by decide +kernel)) ggX7_answer_X7_answers
theorem dX7_answer_0 : decode cX7_answer 0 = .ok (.iload_n 1, 1) := by decide +kernel
theorem dX7_answer_1 : decode cX7_answer 1 = .ok (.invokestatic 42, 3) := by decide +kernel
theorem dX7_answer_4 : decode cX7_answer 4 = .ok (.ifCond .ne 6, 3) := by decide +kernel
theorem dX7_answer_7 : decode cX7_answer 7 = .ok (.ldc 74, 2) := by decide +kernel
theorem dX7_answer_9 : decode cX7_answer 9 = .ok (.ireturn, 1) := by decide +kernel
theorem dX7_answer_10 : decode cX7_answer 10 = .ok (.iload_n 2, 1) := by decide +kernel
theorem dX7_answer_11 : decode cX7_answer 11 = .ok (.ifCond .lt 12, 3) := by decide +kernel
theorem dX7_answer_14 : decode cX7_answer 14 = .ok (.iload_n 3, 1) := by decide +kernel
theorem dX7_answer_15 : decode cX7_answer 15 = .ok (.iconst 0, 1) := by decide +kernel
theorem dX7_answer_16 : decode cX7_answer 16 = .ok (.iconst 1, 1) := by decide +kernel
theorem dX7_answer_17 : decode cX7_answer 17 = .ok (.invokestatic 38, 3) := by decide +kernel
theorem dX7_answer_20 : decode cX7_answer 20 = .ok (.ifCond .ne 6, 3) := by decide +kernel
theorem dX7_answer_23 : decode cX7_answer 23 = .ok (.ldc 75, 2) := by decide +kernel
theorem dX7_answer_25 : decode cX7_answer 25 = .ok (.ireturn, 1) := by decide +kernel
theorem dX7_answer_26 : decode cX7_answer 26 = .ok (.aload_n 0, 1) := by decide +kernel
theorem dX7_answer_27 : decode cX7_answer 27 = .ok (.iload_n 1, 1) := by decide +kernel
theorem dX7_answer_28 : decode cX7_answer 28 = .ok (.iload_n 2, 1) := by decide +kernel
theorem dX7_answer_29 : decode cX7_answer 29 = .ok (.bipush 100, 2) := by decide +kernel
theorem dX7_answer_31 : decode cX7_answer 31 = .ok (.if_icmp .ge 7, 3) := by decide +kernel
theorem dX7_answer_34 : decode cX7_answer 34 = .ok (.iload_n 2, 1) := by decide +kernel
theorem dX7_answer_35 : decode cX7_answer 35 = .ok (.goto 5, 3) := by decide +kernel
theorem dX7_answer_38 : decode cX7_answer 38 = .ok (.bipush 100, 2) := by decide +kernel
theorem dX7_answer_40 : decode cX7_answer 40 = .ok (.invokevirtual 76, 3) := by decide +kernel
theorem dX7_answer_43 : decode cX7_answer 43 = .ok (.pop, 1) := by decide +kernel
theorem dX7_answer_44 : decode cX7_answer 44 = .ok (.iload_n 3, 1) := by decide +kernel
theorem dX7_answer_45 : decode cX7_answer 45 = .ok (.ifCond .ne 10, 3) := by decide +kernel
theorem dX7_answer_48 : decode cX7_answer 48 = .ok (.aload_n 0, 1) := by decide +kernel
theorem dX7_answer_49 : decode cX7_answer 49 = .ok (.getfield 46, 3) := by decide +kernel
theorem dX7_answer_52 : decode cX7_answer 52 = .ok (.goto 7, 3) := by decide +kernel
theorem dX7_answer_55 : decode cX7_answer 55 = .ok (.aload_n 0, 1) := by decide +kernel
theorem dX7_answer_56 : decode cX7_answer 56 = .ok (.getfield 49, 3) := by decide +kernel
theorem dX7_answer_59 : decode cX7_answer 59 = .ok (.ireturn, 1) := by decide +kernel
set_option maxRecDepth 20000 in
theorem ggX7_greatestOf_X7_answers : GoodIn wsX7_greatestOf wsX7_answers := goodIn_r _ [7, 8, 9, 2, 1, 10, 11, 12, 13, 6, 14, 15, 16, 17, 18, 19, 20, 21, 22, 23, 24, 25, 26, 27, 28, 29, 30, 31, 32, 33, 34] (by decide +kernel) (by decide +kernel)
set_option maxRecDepth 20000 in
theorem gX7_greatestOf_X7_answers : GoodIn wsX7_greatestOf (wsV RX7 76 RX7 yX7_answers wsX7_answers) := goodIn_app (goodIn_of _ (by decide +kernel)) ggX7_greatestOf_X7_answers
theorem dX7_greatestOf_0 : decode cX7_greatestOf 0 = .ok (.iconst 0, 1) := by decide +kernel
theorem dX7_greatestOf_1 : decode cX7_greatestOf 1 = .ok (.istore_n 2, 1) := by decide +kernel
theorem dX7_greatestOf_2 : decode cX7_greatestOf 2 = .ok (.aload_n 0, 1) := by decide +kernel
theorem dX7_greatestOf_3 : decode cX7_greatestOf 3 = .ok (.iload_n 1, 1) := by decide +kernel
theorem dX7_greatestOf_4 : decode cX7_greatestOf 4 = .ok (.iconst 0, 1) := by decide +kernel
theorem dX7_greatestOf_5 : decode cX7_greatestOf 5 = .ok (.invokevirtual 76, 3) := by decide +kernel
theorem dX7_greatestOf_8 : decode cX7_greatestOf 8 = .ok (.istore_n 3, 1) := by decide +kernel
theorem dX7_greatestOf_9 : decode cX7_greatestOf 9 = .ok (.iconst 1, 1) := by decide +kernel
theorem dX7_greatestOf_10 : decode cX7_greatestOf 10 = .ok (.istore 4, 2) := by decide +kernel
theorem dX7_greatestOf_12 : decode cX7_greatestOf 12 = .ok (.iload 4, 2) := by decide +kernel
theorem dX7_greatestOf_14 : decode cX7_greatestOf 14 = .ok (.aload_n 0, 1) := by decide +kernel
theorem dX7_greatestOf_15 : decode cX7_greatestOf 15 = .ok (.getfield 7, 3) := by decide +kernel
theorem dX7_greatestOf_18 : decode cX7_greatestOf 18 = .ok (.iload_n 1, 1) := by decide +kernel
theorem dX7_greatestOf_19 : decode cX7_greatestOf 19 = .ok (.iaload, 1) := by decide +kernel
theorem dX7_greatestOf_20 : decode cX7_greatestOf 20 = .ok (.aload_n 0, 1) := by decide +kernel
theorem dX7_greatestOf_21 : decode cX7_greatestOf 21 = .ok (.getfield 16, 3) := by decide +kernel
theorem dX7_greatestOf_24 : decode cX7_greatestOf 24 = .ok (.iadd, 1) := by decide +kernel
theorem dX7_greatestOf_25 : decode cX7_greatestOf 25 = .ok (.iconst 1, 1) := by decide +kernel
theorem dX7_greatestOf_26 : decode cX7_greatestOf 26 = .ok (.isub, 1) := by decide +kernel
theorem dX7_greatestOf_27 : decode cX7_greatestOf 27 = .ok (.if_icmp .ge 30, 3) := by decide +kernel
theorem dX7_greatestOf_30 : decode cX7_greatestOf 30 = .ok (.aload_n 0, 1) := by decide +kernel
theorem dX7_greatestOf_31 : decode cX7_greatestOf 31 = .ok (.iload_n 1, 1) := by decide +kernel
theorem dX7_greatestOf_32 : decode cX7_greatestOf 32 = .ok (.iload 4, 2) := by decide +kernel
theorem dX7_greatestOf_34 : decode cX7_greatestOf 34 = .ok (.invokevirtual 76, 3) := by decide +kernel
theorem dX7_greatestOf_37 : decode cX7_greatestOf 37 = .ok (.istore 5, 2) := by decide +kernel
theorem dX7_greatestOf_39 : decode cX7_greatestOf 39 = .ok (.iload 5, 2) := by decide +kernel
theorem dX7_greatestOf_41 : decode cX7_greatestOf 41 = .ok (.iload_n 3, 1) := by decide +kernel
theorem dX7_greatestOf_42 : decode cX7_greatestOf 42 = .ok (.if_icmp .le 9, 3) := by decide +kernel
theorem dX7_greatestOf_45 : decode cX7_greatestOf 45 = .ok (.iload 5, 2) := by decide +kernel
theorem dX7_greatestOf_47 : decode cX7_greatestOf 47 = .ok (.istore_n 3, 1) := by decide +kernel
theorem dX7_greatestOf_48 : decode cX7_greatestOf 48 = .ok (.iload 4, 2) := by decide +kernel
theorem dX7_greatestOf_50 : decode cX7_greatestOf 50 = .ok (.istore_n 2, 1) := by decide +kernel
theorem dX7_greatestOf_51 : decode cX7_greatestOf 51 = .ok (.iinc 4 1, 3) := by decide +kernel
theorem dX7_greatestOf_54 : decode cX7_greatestOf 54 = .ok (.goto (-42), 3) := by decide +kernel
theorem dX7_greatestOf_57 : decode cX7_greatestOf 57 = .ok (.iload_n 2, 1) := by decide +kernel
theorem dX7_greatestOf_58 : decode cX7_greatestOf 58 = .ok (.ireturn, 1) := by decide +kernel
set_option maxRecDepth 20000 in
theorem ggX7_greatest_X7_isSign : GoodIn wsX7_greatest wsX7_isSign := goodIn_r _ [4, 5, 6, 3, 7] (by decide +kernel) (by decide +kernel)
set_option maxRecDepth 20000 in
theorem gX7_greatest_X7_isSign : GoodIn wsX7_greatest (va_wsS RX7 42 yX7_isSign wsX7_isSign) := goodIn_app (goodIn_of _ (by decide +kernel)) ggX7_greatest_X7_isSign
set_option maxRecDepth 20000 in
theorem ggX7_greatest_X7_greatestOf : GoodIn wsX7_greatest wsX7_greatestOf := goodIn_r _ [11, 12, 13, 14, 15, 16, 3, 17, 18, 19, 20, 21, 5, 6, 7, 22, 23, 24, 25, 26, 27, 28, 29, 30, 31, 32, 33, 34, 35, 36, 37, 38, 39, 40, 41] (by decide +kernel) (by decide +kernel)
set_option maxRecDepth 20000 in
theorem gX7_greatest_X7_greatestOf : GoodIn wsX7_greatest (wsV RX7 80 RX7 yX7_greatestOf wsX7_greatestOf) := goodIn_app (goodIn_of _ (by decide +kernel)) ggX7_greatest_X7_greatestOf
theorem dX7_greatest_0 : decode cX7_greatest 0 = .ok (.iload_n 1, 1) := by decide +kernel
theorem dX7_greatest_1 : decode cX7_greatest 1 = .ok (.invokestatic 42, 3) := by decide +kernel
theorem dX7_greatest_4 : decode cX7_greatest 4 = .ok (.ifCond .eq 11, 3) := by decide +kernel
theorem dX7_greatest_7 : decode cX7_greatest 7 = .ok (.aload_n 0, 1) := by decide +kernel
