set_option maxRecDepth 20000 in
theorem ggX0_mayOrder_X6_within : GoodIn wsX0_mayOrder wsX6_within := goodIn_r _ [3] (by decide +kernel) (by decide +kernel)
set_option maxRecDepth 20000 in
theorem gX0_mayOrder_X6_within_n11 : GoodIn wsX0_mayOrder (wsX6_within) := ggX0_mayOrder_X6_within
theorem dX0_mayOrder_0 : decode cX0_mayOrder 0 = .ok (.iload_n 0, 1) := by decide +kernel
theorem dX0_mayOrder_1 : decode cX0_mayOrder 1 = .ok (.iconst 1, 1) := by decide +kernel
theorem dX0_mayOrder_2 : decode cX0_mayOrder 2 = .ok (.bipush 8, 2) := by decide +kernel
theorem dX0_mayOrder_4 : decode cX0_mayOrder 4 = .ok (.invokestatic 11, 3) := by decide +kernel
theorem dX0_mayOrder_7 : decode cX0_mayOrder 7 = .ok (.ifCond .eq 16, 3) := by decide +kernel
theorem dX0_mayOrder_10 : decode cX0_mayOrder 10 = .ok (.iload_n 1, 1) := by decide +kernel
theorem dX0_mayOrder_11 : decode cX0_mayOrder 11 = .ok (.iconst 1, 1) := by decide +kernel
theorem dX0_mayOrder_12 : decode cX0_mayOrder 12 = .ok (.iload_n 0, 1) := by decide +kernel
theorem dX0_mayOrder_13 : decode cX0_mayOrder 13 = .ok (.invokestatic 11, 3) := by decide +kernel
theorem dX0_mayOrder_16 : decode cX0_mayOrder 16 = .ok (.ifCond .eq 7, 3) := by decide +kernel
theorem dX0_mayOrder_19 : decode cX0_mayOrder 19 = .ok (.iconst 1, 1) := by decide +kernel
theorem dX0_mayOrder_20 : decode cX0_mayOrder 20 = .ok (.goto 4, 3) := by decide +kernel
theorem dX0_mayOrder_23 : decode cX0_mayOrder 23 = .ok (.iconst 0, 1) := by decide +kernel
theorem dX0_mayOrder_24 : decode cX0_mayOrder 24 = .ok (.ireturn, 1) := by decide +kernel
theorem dX0_product_0 : decode cX0_product 0 = .ok (.lconst 1, 1) := by decide +kernel
theorem dX0_product_1 : decode cX0_product 1 = .ok (.lstore_n 3, 1) := by decide +kernel
theorem dX0_product_2 : decode cX0_product 2 = .ok (.iconst 0, 1) := by decide +kernel
theorem dX0_product_3 : decode cX0_product 3 = .ok (.istore 5, 2) := by decide +kernel
theorem dX0_product_5 : decode cX0_product 5 = .ok (.iload 5, 2) := by decide +kernel
theorem dX0_product_7 : decode cX0_product 7 = .ok (.iload_n 1, 1) := by decide +kernel
theorem dX0_product_8 : decode cX0_product 8 = .ok (.if_icmp .ge 19, 3) := by decide +kernel
theorem dX0_product_11 : decode cX0_product 11 = .ok (.lload_n 3, 1) := by decide +kernel
theorem dX0_product_12 : decode cX0_product 12 = .ok (.iload_n 0, 1) := by decide +kernel
theorem dX0_product_13 : decode cX0_product 13 = .ok (.iload 5, 2) := by decide +kernel
theorem dX0_product_15 : decode cX0_product 15 = .ok (.isub, 1) := by decide +kernel
theorem dX0_product_16 : decode cX0_product 16 = .ok (.iload_n 2, 1) := by decide +kernel
theorem dX0_product_17 : decode cX0_product 17 = .ok (.iadd, 1) := by decide +kernel
theorem dX0_product_18 : decode cX0_product 18 = .ok (.i2l, 1) := by decide +kernel
theorem dX0_product_19 : decode cX0_product 19 = .ok (.lmul, 1) := by decide +kernel
theorem dX0_product_20 : decode cX0_product 20 = .ok (.lstore_n 3, 1) := by decide +kernel
theorem dX0_product_21 : decode cX0_product 21 = .ok (.iinc 5 1, 3) := by decide +kernel
theorem dX0_product_24 : decode cX0_product 24 = .ok (.goto (-19), 3) := by decide +kernel
theorem dX0_product_27 : decode cX0_product 27 = .ok (.lload_n 3, 1) := by decide +kernel
theorem dX0_product_28 : decode cX0_product 28 = .ok (.lreturn, 1) := by decide +kernel
set_option maxRecDepth 20000 in
theorem ggX0_leastScale_X0_product : GoodIn wsX0_leastScale wsX0_product := goodIn_r _ [4] (by decide +kernel) (by decide +kernel)
set_option maxRecDepth 20000 in
theorem gX0_leastScale_X0_product : GoodIn wsX0_leastScale (va_wsS RX0 15 yX0_product wsX0_product) := goodIn_app (goodIn_of _ (by decide +kernel)) ggX0_leastScale_X0_product
theorem dX0_leastScale_0 : decode cX0_leastScale 0 = .ok (.iload_n 0, 1) := by decide +kernel
theorem dX0_leastScale_1 : decode cX0_leastScale 1 = .ok (.iload_n 1, 1) := by decide +kernel
theorem dX0_leastScale_2 : decode cX0_leastScale 2 = .ok (.iconst 0, 1) := by decide +kernel
theorem dX0_leastScale_3 : decode cX0_leastScale 3 = .ok (.invokestatic 15, 3) := by decide +kernel
theorem dX0_leastScale_6 : decode cX0_leastScale 6 = .ok (.lstore_n 3, 1) := by decide +kernel
theorem dX0_leastScale_7 : decode cX0_leastScale 7 = .ok (.iconst 1, 1) := by decide +kernel
theorem dX0_leastScale_8 : decode cX0_leastScale 8 = .ok (.istore 5, 2) := by decide +kernel
theorem dX0_leastScale_10 : decode cX0_leastScale 10 = .ok (.iload 5, 2) := by decide +kernel
theorem dX0_leastScale_12 : decode cX0_leastScale 12 = .ok (.bipush 40, 2) := by decide +kernel
theorem dX0_leastScale_14 : decode cX0_leastScale 14 = .ok (.if_icmp .gt 27, 3) := by decide +kernel
theorem dX0_leastScale_17 : decode cX0_leastScale 17 = .ok (.lload_n 3, 1) := by decide +kernel
theorem dX0_leastScale_18 : decode cX0_leastScale 18 = .ok (.iload_n 2, 1) := by decide +kernel
theorem dX0_leastScale_19 : decode cX0_leastScale 19 = .ok (.i2l, 1) := by decide +kernel
theorem dX0_leastScale_20 : decode cX0_leastScale 20 = .ok (.lmul, 1) := by decide +kernel
theorem dX0_leastScale_21 : decode cX0_leastScale 21 = .ok (.iload_n 0, 1) := by decide +kernel
theorem dX0_leastScale_22 : decode cX0_leastScale 22 = .ok (.iload_n 1, 1) := by decide +kernel
theorem dX0_leastScale_23 : decode cX0_leastScale 23 = .ok (.iload 5, 2) := by decide +kernel
theorem dX0_leastScale_25 : decode cX0_leastScale 25 = .ok (.invokestatic 15, 3) := by decide +kernel
theorem dX0_leastScale_28 : decode cX0_leastScale 28 = .ok (.lcmp, 1) := by decide +kernel
theorem dX0_leastScale_29 : decode cX0_leastScale 29 = .ok (.ifCond .gt 6, 3) := by decide +kernel
theorem dX0_leastScale_32 : decode cX0_leastScale 32 = .ok (.iload 5, 2) := by decide +kernel
theorem dX0_leastScale_34 : decode cX0_leastScale 34 = .ok (.ireturn, 1) := by decide +kernel
theorem dX0_leastScale_35 : decode cX0_leastScale 35 = .ok (.iinc 5 1, 3) := by decide +kernel
theorem dX0_leastScale_38 : decode cX0_leastScale 38 = .ok (.goto (-28), 3) := by decide +kernel
theorem dX0_leastScale_41 : decode cX0_leastScale 41 = .ok (.iconst (-1), 1) := by decide +kernel
theorem dX0_leastScale_42 : decode cX0_leastScale 42 = .ok (.ireturn, 1) := by decide +kernel
theorem dX1_init_0 : decode cX1_init 0 = .ok (.aload_n 0, 1) := by decide +kernel
theorem dX1_init_1 : decode cX1_init 1 = .ok (.invokespecial 1, 3) := by decide +kernel
theorem dX1_init_4 : decode cX1_init 4 = .ok (.aload_n 0, 1) := by decide +kernel
theorem dX1_init_5 : decode cX1_init 5 = .ok (.bipush 24, 2) := by decide +kernel
theorem dX1_init_7 : decode cX1_init 7 = .ok (.newarray .int, 2) := by decide +kernel
theorem dX1_init_9 : decode cX1_init 9 = .ok (.putfield 9, 3) := by decide +kernel
theorem dX1_init_12 : decode cX1_init 12 = .ok (.aload_n 0, 1) := by decide +kernel
theorem dX1_init_13 : decode cX1_init 13 = .ok (.iconst 1, 1) := by decide +kernel
theorem dX1_init_14 : decode cX1_init 14 = .ok (.putfield 13, 3) := by decide +kernel
theorem dX1_init_17 : decode cX1_init 17 = .ok (.aload_n 0, 1) := by decide +kernel
theorem dX1_init_18 : decode cX1_init 18 = .ok (.getfield 9, 3) := by decide +kernel
theorem dX1_init_21 : decode cX1_init 21 = .ok (.iconst 0, 1) := by decide +kernel
theorem dX1_init_22 : decode cX1_init 22 = .ok (.iconst 1, 1) := by decide +kernel
theorem dX1_init_23 : decode cX1_init 23 = .ok (.iastore, 1) := by decide +kernel
theorem dX1_init_24 : decode cX1_init 24 = .ok (.return_, 1) := by decide +kernel
theorem dX1_reset_0 : decode cX1_reset 0 = .ok (.aload_n 0, 1) := by decide +kernel
theorem dX1_reset_1 : decode cX1_reset 1 = .ok (.iload_n 1, 1) := by decide +kernel
theorem dX1_reset_2 : decode cX1_reset 2 = .ok (.putfield 13, 3) := by decide +kernel
theorem dX1_reset_5 : decode cX1_reset 5 = .ok (.iconst 0, 1) := by decide +kernel
theorem dX1_reset_6 : decode cX1_reset 6 = .ok (.istore_n 2, 1) := by decide +kernel
theorem dX1_reset_7 : decode cX1_reset 7 = .ok (.iload_n 2, 1) := by decide +kernel
theorem dX1_reset_8 : decode cX1_reset 8 = .ok (.iload_n 1, 1) := by decide +kernel
theorem dX1_reset_9 : decode cX1_reset 9 = .ok (.if_icmp .ge 16, 3) := by decide +kernel
theorem dX1_reset_12 : decode cX1_reset 12 = .ok (.aload_n 0, 1) := by decide +kernel
theorem dX1_reset_13 : decode cX1_reset 13 = .ok (.getfield 9, 3) := by decide +kernel
theorem dX1_reset_16 : decode cX1_reset 16 = .ok (.iload_n 2, 1) := by decide +kernel
theorem dX1_reset_17 : decode cX1_reset 17 = .ok (.iconst 0, 1) := by decide +kernel
theorem dX1_reset_18 : decode cX1_reset 18 = .ok (.iastore, 1) := by decide +kernel
theorem dX1_reset_19 : decode cX1_reset 19 = .ok (.iinc 2 1, 3) := by decide +kernel
theorem dX1_reset_22 : decode cX1_reset 22 = .ok (.goto (-15), 3) := by decide +kernel
theorem dX1_reset_25 : decode cX1_reset 25 = .ok (.return_, 1) := by decide +kernel
set_option maxRecDepth 20000 in
theorem ggX1_matchTo_X6_partOfTurn : GoodIn wsX1_matchTo wsX6_partOfTurn := goodIn_r _ [7] (by decide +kernel) (by decide +kernel)
set_option maxRecDepth 20000 in
theorem gX1_matchTo_X6_partOfTurn_n23 : GoodIn wsX1_matchTo (wsX6_partOfTurn) := ggX1_matchTo_X6_partOfTurn
theorem dX1_matchTo_0 : decode cX1_matchTo 0 = .ok (.aload_n 0, 1) := by decide +kernel
theorem dX1_matchTo_1 : decode cX1_matchTo 1 = .ok (.aload_n 1, 1) := by decide +kernel
theorem dX1_matchTo_2 : decode cX1_matchTo 2 = .ok (.getfield 17, 3) := by decide +kernel
theorem dX1_matchTo_5 : decode cX1_matchTo 5 = .ok (.putfield 13, 3) := by decide +kernel
theorem dX1_matchTo_8 : decode cX1_matchTo 8 = .ok (.iconst 0, 1) := by decide +kernel
theorem dX1_matchTo_9 : decode cX1_matchTo 9 = .ok (.istore_n 2, 1) := by decide +kernel
theorem dX1_matchTo_10 : decode cX1_matchTo 10 = .ok (.iload_n 2, 1) := by decide +kernel
theorem dX1_matchTo_11 : decode cX1_matchTo 11 = .ok (.aload_n 1, 1) := by decide +kernel
theorem dX1_matchTo_12 : decode cX1_matchTo 12 = .ok (.getfield 17, 3) := by decide +kernel
theorem dX1_matchTo_15 : decode cX1_matchTo 15 = .ok (.if_icmp .ge 33, 3) := by decide +kernel
theorem dX1_matchTo_18 : decode cX1_matchTo 18 = .ok (.aload_n 0, 1) := by decide +kernel
theorem dX1_matchTo_19 : decode cX1_matchTo 19 = .ok (.getfield 9, 3) := by decide +kernel
theorem dX1_matchTo_22 : decode cX1_matchTo 22 = .ok (.iload_n 2, 1) := by decide +kernel
theorem dX1_matchTo_23 : decode cX1_matchTo 23 = .ok (.aload_n 1, 1) := by decide +kernel
theorem dX1_matchTo_24 : decode cX1_matchTo 24 = .ok (.getfield 20, 3) := by decide +kernel
theorem dX1_matchTo_27 : decode cX1_matchTo 27 = .ok (.aload_n 1, 1) := by decide +kernel
theorem dX1_matchTo_28 : decode cX1_matchTo 28 = .ok (.getfield 17, 3) := by decide +kernel
theorem dX1_matchTo_31 : decode cX1_matchTo 31 = .ok (.iconst 1, 1) := by decide +kernel
theorem dX1_matchTo_32 : decode cX1_matchTo 32 = .ok (.isub, 1) := by decide +kernel
theorem dX1_matchTo_33 : decode cX1_matchTo 33 = .ok (.iload_n 2, 1) := by decide +kernel
theorem dX1_matchTo_34 : decode cX1_matchTo 34 = .ok (.isub, 1) := by decide +kernel
theorem dX1_matchTo_35 : decode cX1_matchTo 35 = .ok (.iaload, 1) := by decide +kernel
theorem dX1_matchTo_36 : decode cX1_matchTo 36 = .ok (.ineg, 1) := by decide +kernel
theorem dX1_matchTo_37 : decode cX1_matchTo 37 = .ok (.iconst 0, 1) := by decide +kernel
theorem dX1_matchTo_38 : decode cX1_matchTo 38 = .ok (.invokestatic 23, 3) := by decide +kernel
theorem dX1_matchTo_41 : decode cX1_matchTo 41 = .ok (.iastore, 1) := by decide +kernel
theorem dX1_matchTo_42 : decode cX1_matchTo 42 = .ok (.iinc 2 1, 3) := by decide +kernel
theorem dX1_matchTo_45 : decode cX1_matchTo 45 = .ok (.goto (-35), 3) := by decide +kernel
theorem dX1_matchTo_48 : decode cX1_matchTo 48 = .ok (.return_, 1) := by decide +kernel
set_option maxRecDepth 20000 in
theorem ggX1_answerPart_X5_has : GoodIn wsX1_answerPart wsX5_has := goodIn_r _ [8, 9, 10, 11, 12, 17, 18] (by decide +kernel) (by decide +kernel)
set_option maxRecDepth 20000 in
theorem gX1_answerPart_X5_has : GoodIn wsX1_answerPart (wsV RX1 29 RX5 yX5_has wsX5_has) := goodIn_app (goodIn_of _ (by decide +kernel)) ggX1_answerPart_X5_has
set_option maxRecDepth 20000 in
theorem ggX1_answerPart_X6_partOfTurn : GoodIn wsX1_answerPart wsX6_partOfTurn := goodIn_r _ [14] (by decide +kernel) (by decide +kernel)
set_option maxRecDepth 20000 in
theorem gX1_answerPart_X6_partOfTurn_n23 : GoodIn wsX1_answerPart (wsX6_partOfTurn) := ggX1_answerPart_X6_partOfTurn
theorem dX1_answerPart_0 : decode cX1_answerPart 0 = .ok (.iconst 0, 1) := by decide +kernel
theorem dX1_answerPart_1 : decode cX1_answerPart 1 = .ok (.istore 4, 2) := by decide +kernel
theorem dX1_answerPart_3 : decode cX1_answerPart 3 = .ok (.iconst 0, 1) := by decide +kernel
theorem dX1_answerPart_4 : decode cX1_answerPart 4 = .ok (.istore 5, 2) := by decide +kernel
theorem dX1_answerPart_6 : decode cX1_answerPart 6 = .ok (.iload 5, 2) := by decide +kernel
theorem dX1_answerPart_8 : decode cX1_answerPart 8 = .ok (.aload_n 0, 1) := by decide +kernel
theorem dX1_answerPart_9 : decode cX1_answerPart 9 = .ok (.getfield 13, 3) := by decide +kernel
theorem dX1_answerPart_12 : decode cX1_answerPart 12 = .ok (.if_icmp .ge 46, 3) := by decide +kernel
theorem dX1_answerPart_15 : decode cX1_answerPart 15 = .ok (.aload_n 1, 1) := by decide +kernel
theorem dX1_answerPart_16 : decode cX1_answerPart 16 = .ok (.iload_n 2, 1) := by decide +kernel
theorem dX1_answerPart_17 : decode cX1_answerPart 17 = .ok (.iload 5, 2) := by decide +kernel
theorem dX1_answerPart_19 : decode cX1_answerPart 19 = .ok (.isub, 1) := by decide +kernel
theorem dX1_answerPart_20 : decode cX1_answerPart 20 = .ok (.invokevirtual 29, 3) := by decide +kernel
theorem dX1_answerPart_23 : decode cX1_answerPart 23 = .ok (.ifCond .eq 29, 3) := by decide +kernel
theorem dX1_answerPart_26 : decode cX1_answerPart 26 = .ok (.iload 4, 2) := by decide +kernel
theorem dX1_answerPart_28 : decode cX1_answerPart 28 = .ok (.aload_n 0, 1) := by decide +kernel
theorem dX1_answerPart_29 : decode cX1_answerPart 29 = .ok (.getfield 9, 3) := by decide +kernel
theorem dX1_answerPart_32 : decode cX1_answerPart 32 = .ok (.iload 5, 2) := by decide +kernel
theorem dX1_answerPart_34 : decode cX1_answerPart 34 = .ok (.iaload, 1) := by decide +kernel
theorem dX1_answerPart_35 : decode cX1_answerPart 35 = .ok (.aload_n 1, 1) := by decide +kernel
theorem dX1_answerPart_36 : decode cX1_answerPart 36 = .ok (.getfield 20, 3) := by decide +kernel
theorem dX1_answerPart_39 : decode cX1_answerPart 39 = .ok (.iload_n 2, 1) := by decide +kernel
theorem dX1_answerPart_40 : decode cX1_answerPart 40 = .ok (.iload 5, 2) := by decide +kernel
theorem dX1_answerPart_42 : decode cX1_answerPart 42 = .ok (.isub, 1) := by decide +kernel
theorem dX1_answerPart_43 : decode cX1_answerPart 43 = .ok (.iaload, 1) := by decide +kernel
theorem dX1_answerPart_44 : decode cX1_answerPart 44 = .ok (.iload_n 3, 1) := by decide +kernel
theorem dX1_answerPart_45 : decode cX1_answerPart 45 = .ok (.invokestatic 23, 3) := by decide +kernel
theorem dX1_answerPart_48 : decode cX1_answerPart 48 = .ok (.imul, 1) := by decide +kernel
theorem dX1_answerPart_49 : decode cX1_answerPart 49 = .ok (.iadd, 1) := by decide +kernel
theorem dX1_answerPart_50 : decode cX1_answerPart 50 = .ok (.istore 4, 2) := by decide +kernel
theorem dX1_answerPart_52 : decode cX1_answerPart 52 = .ok (.iinc 5 1, 3) := by decide +kernel
theorem dX1_answerPart_55 : decode cX1_answerPart 55 = .ok (.goto (-49), 3) := by decide +kernel
theorem dX1_answerPart_58 : decode cX1_answerPart 58 = .ok (.iload 4, 2) := by decide +kernel
theorem dX1_answerPart_60 : decode cX1_answerPart 60 = .ok (.ireturn, 1) := by decide +kernel
set_option maxRecDepth 20000 in
theorem ggX1_answerSize_X1_answerPart : GoodIn wsX1_answerSize wsX1_answerPart := goodIn_r _ [5, 6, 7, 8, 9, 10, 11, 12, 13, 14, 15, 16, 17, 18, 19, 20, 21, 22, 23] (by decide +kernel) (by decide +kernel)
set_option maxRecDepth 20000 in
theorem gX1_answerSize_X1_answerPart : GoodIn wsX1_answerSize (wsV RX1 33 RX1 yX1_answerPart wsX1_answerPart) := goodIn_app (goodIn_of _ (by decide +kernel)) ggX1_answerSize_X1_answerPart
theorem dX1_answerSize_0 : decode cX1_answerSize 0 = .ok (.aload_n 0, 1) := by decide +kernel
theorem dX1_answerSize_1 : decode cX1_answerSize 1 = .ok (.aload_n 1, 1) := by decide +kernel
theorem dX1_answerSize_2 : decode cX1_answerSize 2 = .ok (.iload_n 2, 1) := by decide +kernel
theorem dX1_answerSize_3 : decode cX1_answerSize 3 = .ok (.iconst 0, 1) := by decide +kernel
theorem dX1_answerSize_4 : decode cX1_answerSize 4 = .ok (.invokevirtual 33, 3) := by decide +kernel
theorem dX1_answerSize_7 : decode cX1_answerSize 7 = .ok (.istore_n 3, 1) := by decide +kernel
theorem dX1_answerSize_8 : decode cX1_answerSize 8 = .ok (.aload_n 0, 1) := by decide +kernel
theorem dX1_answerSize_9 : decode cX1_answerSize 9 = .ok (.aload_n 1, 1) := by decide +kernel
theorem dX1_answerSize_10 : decode cX1_answerSize 10 = .ok (.iload_n 2, 1) := by decide +kernel
theorem dX1_answerSize_11 : decode cX1_answerSize 11 = .ok (.iconst 1, 1) := by decide +kernel
theorem dX1_answerSize_12 : decode cX1_answerSize 12 = .ok (.invokevirtual 33, 3) := by decide +kernel
theorem dX1_answerSize_15 : decode cX1_answerSize 15 = .ok (.istore 4, 2) := by decide +kernel
theorem dX1_answerSize_17 : decode cX1_answerSize 17 = .ok (.iload_n 3, 1) := by decide +kernel
theorem dX1_answerSize_18 : decode cX1_answerSize 18 = .ok (.iload_n 3, 1) := by decide +kernel
theorem dX1_answerSize_19 : decode cX1_answerSize 19 = .ok (.imul, 1) := by decide +kernel
theorem dX1_answerSize_20 : decode cX1_answerSize 20 = .ok (.iload 4, 2) := by decide +kernel
theorem dX1_answerSize_22 : decode cX1_answerSize 22 = .ok (.iload 4, 2) := by decide +kernel
theorem dX1_answerSize_24 : decode cX1_answerSize 24 = .ok (.imul, 1) := by decide +kernel
theorem dX1_answerSize_25 : decode cX1_answerSize 25 = .ok (.iadd, 1) := by decide +kernel
theorem dX1_answerSize_26 : decode cX1_answerSize 26 = .ok (.ireturn, 1) := by decide +kernel
set_option maxRecDepth 20000 in
theorem ggX1_greatestPlace_X1_answerSize : GoodIn wsX1_greatestPlace wsX1_answerSize := goodIn_r _ [7, 8, 9, 10, 6, 11, 1, 12, 13, 14, 15, 16, 17, 18, 19, 20, 21, 22, 23, 24, 25, 26, 27, 28] (by decide +kernel) (by decide +kernel)
set_option maxRecDepth 20000 in
theorem gX1_greatestPlace_X1_answerSize : GoodIn wsX1_greatestPlace (wsV RX1 37 RX1 yX1_answerSize wsX1_answerSize) := goodIn_app (goodIn_of _ (by decide +kernel)) ggX1_greatestPlace_X1_answerSize
theorem dX1_greatestPlace_0 : decode cX1_greatestPlace 0 = .ok (.iconst 0, 1) := by decide +kernel
theorem dX1_greatestPlace_1 : decode cX1_greatestPlace 1 = .ok (.istore_n 2, 1) := by decide +kernel
theorem dX1_greatestPlace_2 : decode cX1_greatestPlace 2 = .ok (.aload_n 0, 1) := by decide +kernel
theorem dX1_greatestPlace_3 : decode cX1_greatestPlace 3 = .ok (.aload_n 1, 1) := by decide +kernel
theorem dX1_greatestPlace_4 : decode cX1_greatestPlace 4 = .ok (.iconst 0, 1) := by decide +kernel
theorem dX1_greatestPlace_5 : decode cX1_greatestPlace 5 = .ok (.invokevirtual 37, 3) := by decide +kernel
theorem dX1_greatestPlace_8 : decode cX1_greatestPlace 8 = .ok (.istore_n 3, 1) := by decide +kernel
theorem dX1_greatestPlace_9 : decode cX1_greatestPlace 9 = .ok (.iconst 1, 1) := by decide +kernel
theorem dX1_greatestPlace_10 : decode cX1_greatestPlace 10 = .ok (.istore 4, 2) := by decide +kernel
theorem dX1_greatestPlace_12 : decode cX1_greatestPlace 12 = .ok (.iload 4, 2) := by decide +kernel
theorem dX1_greatestPlace_14 : decode cX1_greatestPlace 14 = .ok (.aload_n 0, 1) := by decide +kernel
theorem dX1_greatestPlace_15 : decode cX1_greatestPlace 15 = .ok (.getfield 13, 3) := by decide +kernel
theorem dX1_greatestPlace_18 : decode cX1_greatestPlace 18 = .ok (.aload_n 1, 1) := by decide +kernel
theorem dX1_greatestPlace_19 : decode cX1_greatestPlace 19 = .ok (.getfield 17, 3) := by decide +kernel
theorem dX1_greatestPlace_22 : decode cX1_greatestPlace 22 = .ok (.iadd, 1) := by decide +kernel
theorem dX1_greatestPlace_23 : decode cX1_greatestPlace 23 = .ok (.iconst 1, 1) := by decide +kernel
theorem dX1_greatestPlace_24 : decode cX1_greatestPlace 24 = .ok (.isub, 1) := by decide +kernel
theorem dX1_greatestPlace_25 : decode cX1_greatestPlace 25 = .ok (.if_icmp .ge 30, 3) := by decide +kernel
theorem dX1_greatestPlace_28 : decode cX1_greatestPlace 28 = .ok (.aload_n 0, 1) := by decide +kernel
theorem dX1_greatestPlace_29 : decode cX1_greatestPlace 29 = .ok (.aload_n 1, 1) := by decide +kernel
theorem dX1_greatestPlace_30 : decode cX1_greatestPlace 30 = .ok (.iload 4, 2) := by decide +kernel
theorem dX1_greatestPlace_32 : decode cX1_greatestPlace 32 = .ok (.invokevirtual 37, 3) := by decide +kernel
theorem dX1_greatestPlace_35 : decode cX1_greatestPlace 35 = .ok (.istore 5, 2) := by decide +kernel
theorem dX1_greatestPlace_37 : decode cX1_greatestPlace 37 = .ok (.iload 5, 2) := by decide +kernel
theorem dX1_greatestPlace_39 : decode cX1_greatestPlace 39 = .ok (.iload_n 3, 1) := by decide +kernel
theorem dX1_greatestPlace_40 : decode cX1_greatestPlace 40 = .ok (.if_icmp .le 9, 3) := by decide +kernel
theorem dX1_greatestPlace_43 : decode cX1_greatestPlace 43 = .ok (.iload 4, 2) := by decide +kernel
theorem dX1_greatestPlace_45 : decode cX1_greatestPlace 45 = .ok (.istore_n 2, 1) := by decide +kernel
theorem dX1_greatestPlace_46 : decode cX1_greatestPlace 46 = .ok (.iload 5, 2) := by decide +kernel
theorem dX1_greatestPlace_48 : decode cX1_greatestPlace 48 = .ok (.istore_n 3, 1) := by decide +kernel
theorem dX1_greatestPlace_49 : decode cX1_greatestPlace 49 = .ok (.iinc 4 1, 3) := by decide +kernel
theorem dX1_greatestPlace_52 : decode cX1_greatestPlace 52 = .ok (.goto (-40), 3) := by decide +kernel
theorem dX1_greatestPlace_55 : decode cX1_greatestPlace 55 = .ok (.iload_n 2, 1) := by decide +kernel
theorem dX1_greatestPlace_56 : decode cX1_greatestPlace 56 = .ok (.ireturn, 1) := by decide +kernel
set_option maxRecDepth 20000 in
theorem ggX1_clearness_X1_greatestPlace : GoodIn wsX1_clearness wsX1_greatestPlace := goodIn_r _ [12, 1, 2, 13, 14, 15, 11, 16, 17, 18, 19, 20, 21, 22, 23, 24, 25, 26, 27, 28, 29, 30, 31, 32, 33, 34, 35, 36, 37] (by decide +kernel) (by decide +kernel)
set_option maxRecDepth 20000 in
theorem gX1_clearness_X1_greatestPlace : GoodIn wsX1_clearness (wsV RX1 41 RX1 yX1_greatestPlace wsX1_greatestPlace) := goodIn_app (goodIn_of _ (by decide +kernel)) ggX1_clearness_X1_greatestPlace
set_option maxRecDepth 20000 in
theorem ggX1_clearness_X1_answerSize : GoodIn wsX1_clearness wsX1_answerSize := goodIn_r _ [16, 17, 18, 19, 11, 20, 1, 21, 22, 23, 24, 25, 26, 27, 28, 29, 30, 31, 32, 33, 34, 35, 36, 37] (by decide +kernel) (by decide +kernel)
set_option maxRecDepth 20000 in
theorem gX1_clearness_X1_answerSize : GoodIn wsX1_clearness (wsV RX1 37 RX1 yX1_answerSize wsX1_answerSize) := goodIn_app (goodIn_of _ (by decide +kernel)) ggX1_clearness_X1_answerSize
theorem dX1_clearness_0 : decode cX1_clearness 0 = .ok (.aload_n 0, 1) := by decide +kernel
theorem dX1_clearness_1 : decode cX1_clearness 1 = .ok (.aload_n 1, 1) := by decide +kernel
theorem dX1_clearness_2 : decode cX1_clearness 2 = .ok (.invokevirtual 41, 3) := by decide +kernel
theorem dX1_clearness_5 : decode cX1_clearness 5 = .ok (.istore_n 2, 1) := by decide +kernel
theorem dX1_clearness_6 : decode cX1_clearness 6 = .ok (.aload_n 0, 1) := by decide +kernel
theorem dX1_clearness_7 : decode cX1_clearness 7 = .ok (.aload_n 1, 1) := by decide +kernel
theorem dX1_clearness_8 : decode cX1_clearness 8 = .ok (.iload_n 2, 1) := by decide +kernel
theorem dX1_clearness_9 : decode cX1_clearness 9 = .ok (.invokevirtual 37, 3) := by decide +kernel
theorem dX1_clearness_12 : decode cX1_clearness 12 = .ok (.istore_n 3, 1) := by decide +kernel
theorem dX1_clearness_13 : decode cX1_clearness 13 = .ok (.iload_n 3, 1) := by decide +kernel
theorem dX1_clearness_14 : decode cX1_clearness 14 = .ok (.ifCond .ne 5, 3) := by decide +kernel
theorem dX1_clearness_17 : decode cX1_clearness 17 = .ok (.iconst 0, 1) := by decide +kernel
theorem dX1_clearness_18 : decode cX1_clearness 18 = .ok (.ireturn, 1) := by decide +kernel
theorem dX1_clearness_19 : decode cX1_clearness 19 = .ok (.iconst 0, 1) := by decide +kernel
theorem dX1_clearness_20 : decode cX1_clearness 20 = .ok (.istore 4, 2) := by decide +kernel
theorem dX1_clearness_22 : decode cX1_clearness 22 = .ok (.iconst 0, 1) := by decide +kernel
theorem dX1_clearness_23 : decode cX1_clearness 23 = .ok (.istore 5, 2) := by decide +kernel
theorem dX1_clearness_25 : decode cX1_clearness 25 = .ok (.iload 5, 2) := by decide +kernel
theorem dX1_clearness_27 : decode cX1_clearness 27 = .ok (.aload_n 0, 1) := by decide +kernel
theorem dX1_clearness_28 : decode cX1_clearness 28 = .ok (.getfield 13, 3) := by decide +kernel
theorem dX1_clearness_31 : decode cX1_clearness 31 = .ok (.aload_n 1, 1) := by decide +kernel
theorem dX1_clearness_32 : decode cX1_clearness 32 = .ok (.getfield 17, 3) := by decide +kernel
theorem dX1_clearness_35 : decode cX1_clearness 35 = .ok (.iadd, 1) := by decide +kernel
theorem dX1_clearness_36 : decode cX1_clearness 36 = .ok (.iconst 1, 1) := by decide +kernel
theorem dX1_clearness_37 : decode cX1_clearness 37 = .ok (.isub, 1) := by decide +kernel
theorem dX1_clearness_38 : decode cX1_clearness 38 = .ok (.if_icmp .ge 29, 3) := by decide +kernel
theorem dX1_clearness_41 : decode cX1_clearness 41 = .ok (.iload 5, 2) := by decide +kernel
theorem dX1_clearness_43 : decode cX1_clearness 43 = .ok (.iload_n 2, 1) := by decide +kernel
theorem dX1_clearness_44 : decode cX1_clearness 44 = .ok (.if_icmp .eq 17, 3) := by decide +kernel
theorem dX1_clearness_47 : decode cX1_clearness 47 = .ok (.iload 4, 2) := by decide +kernel
theorem dX1_clearness_49 : decode cX1_clearness 49 = .ok (.aload_n 0, 1) := by decide +kernel
theorem dX1_clearness_50 : decode cX1_clearness 50 = .ok (.aload_n 1, 1) := by decide +kernel
theorem dX1_clearness_51 : decode cX1_clearness 51 = .ok (.iload 5, 2) := by decide +kernel
theorem dX1_clearness_53 : decode cX1_clearness 53 = .ok (.invokevirtual 37, 3) := by decide +kernel
theorem dX1_clearness_56 : decode cX1_clearness 56 = .ok (.invokestatic 45, 3) := by decide +kernel
theorem dX1_clearness_59 : decode cX1_clearness 59 = .ok (.istore 4, 2) := by decide +kernel
theorem dX1_clearness_61 : decode cX1_clearness 61 = .ok (.iinc 5 1, 3) := by decide +kernel
theorem dX1_clearness_64 : decode cX1_clearness 64 = .ok (.goto (-39), 3) := by decide +kernel
theorem dX1_clearness_67 : decode cX1_clearness 67 = .ok (.iload 4, 2) := by decide +kernel
theorem dX1_clearness_69 : decode cX1_clearness 69 = .ok (.ifCond .ne 8, 3) := by decide +kernel
theorem dX1_clearness_72 : decode cX1_clearness 72 = .ok (.ldc 50, 2) := by decide +kernel
theorem dX1_clearness_74 : decode cX1_clearness 74 = .ok (.goto 10, 3) := by decide +kernel
theorem dX1_clearness_77 : decode cX1_clearness 77 = .ok (.bipush 10, 2) := by decide +kernel
theorem dX1_clearness_79 : decode cX1_clearness 79 = .ok (.iload_n 3, 1) := by decide +kernel
theorem dX1_clearness_80 : decode cX1_clearness 80 = .ok (.imul, 1) := by decide +kernel
theorem dX1_clearness_81 : decode cX1_clearness 81 = .ok (.iload 4, 2) := by decide +kernel
theorem dX1_clearness_83 : decode cX1_clearness 83 = .ok (.idiv, 1) := by decide +kernel
theorem dX1_clearness_84 : decode cX1_clearness 84 = .ok (.ireturn, 1) := by decide +kernel
set_option maxRecDepth 20000 in
theorem ggX2_init_X2_reset : GoodIn wsX2_init wsX2_reset := goodIn_r _ [11, 12, 5, 6, 13, 14, 15] (by decide +kernel) (by decide +kernel)
set_option maxRecDepth 20000 in
theorem gX2_init_X2_reset : GoodIn wsX2_init (wsV RX2 18 RX2 yX2_reset wsX2_reset) := goodIn_app (goodIn_of _ (by decide +kernel)) ggX2_init_X2_reset
theorem dX2_init_0 : decode cX2_init 0 = .ok (.aload_n 0, 1) := by decide +kernel
theorem dX2_init_1 : decode cX2_init 1 = .ok (.invokespecial 3, 3) := by decide +kernel
theorem dX2_init_4 : decode cX2_init 4 = .ok (.aload_n 0, 1) := by decide +kernel
theorem dX2_init_5 : decode cX2_init 5 = .ok (.iconst 4, 1) := by decide +kernel
theorem dX2_init_6 : decode cX2_init 6 = .ok (.newarray .int, 2) := by decide +kernel
theorem dX2_init_8 : decode cX2_init 8 = .ok (.putfield 11, 3) := by decide +kernel
theorem dX2_init_11 : decode cX2_init 11 = .ok (.aload_n 0, 1) := by decide +kernel
theorem dX2_init_12 : decode cX2_init 12 = .ok (.iconst 4, 1) := by decide +kernel
theorem dX2_init_13 : decode cX2_init 13 = .ok (.newarray .int, 2) := by decide +kernel
theorem dX2_init_15 : decode cX2_init 15 = .ok (.putfield 15, 3) := by decide +kernel
theorem dX2_init_18 : decode cX2_init 18 = .ok (.aload_n 0, 1) := by decide +kernel
theorem dX2_init_19 : decode cX2_init 19 = .ok (.iconst 1, 1) := by decide +kernel
theorem dX2_init_20 : decode cX2_init 20 = .ok (.invokevirtual 18, 3) := by decide +kernel
theorem dX2_init_23 : decode cX2_init 23 = .ok (.return_, 1) := by decide +kernel
set_option maxRecDepth 20000 in
theorem ggX2_mayUnfold_X6_within : GoodIn wsX2_mayUnfold wsX6_within := goodIn_r _ [3] (by decide +kernel) (by decide +kernel)
set_option maxRecDepth 20000 in
theorem gX2_mayUnfold_X6_within_n22 : GoodIn wsX2_mayUnfold (wsX6_within) := ggX2_mayUnfold_X6_within
theorem dX2_mayUnfold_0 : decode cX2_mayUnfold 0 = .ok (.iload_n 0, 1) := by decide +kernel
theorem dX2_mayUnfold_1 : decode cX2_mayUnfold 1 = .ok (.iconst 0, 1) := by decide +kernel
theorem dX2_mayUnfold_2 : decode cX2_mayUnfold 2 = .ok (.iconst 5, 1) := by decide +kernel
theorem dX2_mayUnfold_3 : decode cX2_mayUnfold 3 = .ok (.invokestatic 22, 3) := by decide +kernel
theorem dX2_mayUnfold_6 : decode cX2_mayUnfold 6 = .ok (.ifCond .eq 27, 3) := by decide +kernel
theorem dX2_mayUnfold_9 : decode cX2_mayUnfold 9 = .ok (.iload_n 1, 1) := by decide +kernel
theorem dX2_mayUnfold_10 : decode cX2_mayUnfold 10 = .ok (.iconst 1, 1) := by decide +kernel
theorem dX2_mayUnfold_11 : decode cX2_mayUnfold 11 = .ok (.iconst 4, 1) := by decide +kernel
theorem dX2_mayUnfold_12 : decode cX2_mayUnfold 12 = .ok (.invokestatic 22, 3) := by decide +kernel
theorem dX2_mayUnfold_15 : decode cX2_mayUnfold 15 = .ok (.ifCond .eq 18, 3) := by decide +kernel
theorem dX2_mayUnfold_18 : decode cX2_mayUnfold 18 = .ok (.iload_n 2, 1) := by decide +kernel
theorem dX2_mayUnfold_19 : decode cX2_mayUnfold 19 = .ok (.iconst 1, 1) := by decide +kernel
theorem dX2_mayUnfold_20 : decode cX2_mayUnfold 20 = .ok (.sipush 5000, 3) := by decide +kernel
theorem dX2_mayUnfold_23 : decode cX2_mayUnfold 23 = .ok (.invokestatic 22, 3) := by decide +kernel
theorem dX2_mayUnfold_26 : decode cX2_mayUnfold 26 = .ok (.ifCond .eq 7, 3) := by decide +kernel
theorem dX2_mayUnfold_29 : decode cX2_mayUnfold 29 = .ok (.iconst 1, 1) := by decide +kernel
theorem dX2_mayUnfold_30 : decode cX2_mayUnfold 30 = .ok (.goto 4, 3) := by decide +kernel
theorem dX2_mayUnfold_33 : decode cX2_mayUnfold 33 = .ok (.iconst 0, 1) := by decide +kernel
theorem dX2_mayUnfold_34 : decode cX2_mayUnfold 34 = .ok (.ireturn, 1) := by decide +kernel
set_option maxRecDepth 20000 in
theorem ggX2_has_X6_within : GoodIn wsX2_has wsX6_within := goodIn_r _ [4] (by decide +kernel) (by decide +kernel)
set_option maxRecDepth 20000 in
theorem gX2_has_X6_within_n22 : GoodIn wsX2_has (wsX6_within) := ggX2_has_X6_within
theorem dX2_has_0 : decode cX2_has 0 = .ok (.iload_n 1, 1) := by decide +kernel
theorem dX2_has_1 : decode cX2_has 1 = .ok (.iconst 0, 1) := by decide +kernel
theorem dX2_has_2 : decode cX2_has 2 = .ok (.aload_n 0, 1) := by decide +kernel
theorem dX2_has_3 : decode cX2_has 3 = .ok (.getfield 26, 3) := by decide +kernel
theorem dX2_has_6 : decode cX2_has 6 = .ok (.iconst 1, 1) := by decide +kernel
theorem dX2_has_7 : decode cX2_has 7 = .ok (.isub, 1) := by decide +kernel
theorem dX2_has_8 : decode cX2_has 8 = .ok (.invokestatic 22, 3) := by decide +kernel
theorem dX2_has_11 : decode cX2_has 11 = .ok (.ireturn, 1) := by decide +kernel
theorem dX2_reset_0 : decode cX2_reset 0 = .ok (.aload_n 0, 1) := by decide +kernel
theorem dX2_reset_1 : decode cX2_reset 1 = .ok (.iload_n 1, 1) := by decide +kernel
theorem dX2_reset_2 : decode cX2_reset 2 = .ok (.putfield 26, 3) := by decide +kernel
theorem dX2_reset_5 : decode cX2_reset 5 = .ok (.iconst 0, 1) := by decide +kernel
theorem dX2_reset_6 : decode cX2_reset 6 = .ok (.istore_n 2, 1) := by decide +kernel
theorem dX2_reset_7 : decode cX2_reset 7 = .ok (.iload_n 2, 1) := by decide +kernel
theorem dX2_reset_8 : decode cX2_reset 8 = .ok (.iconst 4, 1) := by decide +kernel
theorem dX2_reset_9 : decode cX2_reset 9 = .ok (.if_icmp .ge 23, 3) := by decide +kernel
theorem dX2_reset_12 : decode cX2_reset 12 = .ok (.aload_n 0, 1) := by decide +kernel
theorem dX2_reset_13 : decode cX2_reset 13 = .ok (.getfield 11, 3) := by decide +kernel
theorem dX2_reset_16 : decode cX2_reset 16 = .ok (.iload_n 2, 1) := by decide +kernel
theorem dX2_reset_17 : decode cX2_reset 17 = .ok (.iconst 2, 1) := by decide +kernel
theorem dX2_reset_18 : decode cX2_reset 18 = .ok (.iastore, 1) := by decide +kernel
theorem dX2_reset_19 : decode cX2_reset 19 = .ok (.aload_n 0, 1) := by decide +kernel
theorem dX2_reset_20 : decode cX2_reset 20 = .ok (.getfield 15, 3) := by decide +kernel
theorem dX2_reset_23 : decode cX2_reset 23 = .ok (.iload_n 2, 1) := by decide +kernel
theorem dX2_reset_24 : decode cX2_reset 24 = .ok (.iconst (-1), 1) := by decide +kernel
theorem dX2_reset_25 : decode cX2_reset 25 = .ok (.iastore, 1) := by decide +kernel
theorem dX2_reset_26 : decode cX2_reset 26 = .ok (.iinc 2 1, 3) := by decide +kernel
theorem dX2_reset_29 : decode cX2_reset 29 = .ok (.goto (-22), 3) := by decide +kernel
theorem dX2_reset_32 : decode cX2_reset 32 = .ok (.return_, 1) := by decide +kernel
theorem dX2_foldedBy_0 : decode cX2_foldedBy 0 = .ok (.aload_n 0, 1) := by decide +kernel
theorem dX2_foldedBy_1 : decode cX2_foldedBy 1 = .ok (.getfield 11, 3) := by decide +kernel
theorem dX2_foldedBy_4 : decode cX2_foldedBy 4 = .ok (.iload_n 1, 1) := by decide +kernel
theorem dX2_foldedBy_5 : decode cX2_foldedBy 5 = .ok (.iaload, 1) := by decide +kernel
theorem dX2_foldedBy_6 : decode cX2_foldedBy 6 = .ok (.istore_n 3, 1) := by decide +kernel
theorem dX2_foldedBy_7 : decode cX2_foldedBy 7 = .ok (.iload_n 3, 1) := by decide +kernel
theorem dX2_foldedBy_8 : decode cX2_foldedBy 8 = .ok (.iconst 2, 1) := by decide +kernel
theorem dX2_foldedBy_9 : decode cX2_foldedBy 9 = .ok (.if_icmp .lt 9, 3) := by decide +kernel
theorem dX2_foldedBy_12 : decode cX2_foldedBy 12 = .ok (.iload_n 2, 1) := by decide +kernel
theorem dX2_foldedBy_13 : decode cX2_foldedBy 13 = .ok (.iload_n 3, 1) := by decide +kernel
theorem dX2_foldedBy_14 : decode cX2_foldedBy 14 = .ok (.irem, 1) := by decide +kernel
theorem dX2_foldedBy_15 : decode cX2_foldedBy 15 = .ok (.goto 4, 3) := by decide +kernel
theorem dX2_foldedBy_18 : decode cX2_foldedBy 18 = .ok (.iconst 0, 1) := by decide +kernel
theorem dX2_foldedBy_19 : decode cX2_foldedBy 19 = .ok (.ireturn, 1) := by decide +kernel
set_option maxRecDepth 20000 in
theorem ggX2_readAll_X2_foldedBy : GoodIn wsX2_readAll wsX2_foldedBy := goodIn_r _ [7, 8, 9, 10, 11] (by decide +kernel) (by decide +kernel)
set_option maxRecDepth 20000 in
theorem gX2_readAll_X2_foldedBy : GoodIn wsX2_readAll (wsV RX2 30 RX2 yX2_foldedBy wsX2_foldedBy) := goodIn_app (goodIn_of _ (by decide +kernel)) ggX2_readAll_X2_foldedBy
theorem dX2_readAll_0 : decode cX2_readAll 0 = .ok (.iconst 0, 1) := by decide +kernel
theorem dX2_readAll_1 : decode cX2_readAll 1 = .ok (.istore_n 2, 1) := by decide +kernel
theorem dX2_readAll_2 : decode cX2_readAll 2 = .ok (.iload_n 2, 1) := by decide +kernel
theorem dX2_readAll_3 : decode cX2_readAll 3 = .ok (.aload_n 0, 1) := by decide +kernel
theorem dX2_readAll_4 : decode cX2_readAll 4 = .ok (.getfield 26, 3) := by decide +kernel
theorem dX2_readAll_7 : decode cX2_readAll 7 = .ok (.if_icmp .ge 21, 3) := by decide +kernel
theorem dX2_readAll_10 : decode cX2_readAll 10 = .ok (.aload_n 0, 1) := by decide +kernel
theorem dX2_readAll_11 : decode cX2_readAll 11 = .ok (.getfield 15, 3) := by decide +kernel
theorem dX2_readAll_14 : decode cX2_readAll 14 = .ok (.iload_n 2, 1) := by decide +kernel
theorem dX2_readAll_15 : decode cX2_readAll 15 = .ok (.aload_n 0, 1) := by decide +kernel
theorem dX2_readAll_16 : decode cX2_readAll 16 = .ok (.iload_n 2, 1) := by decide +kernel
theorem dX2_readAll_17 : decode cX2_readAll 17 = .ok (.iload_n 1, 1) := by decide +kernel
theorem dX2_readAll_18 : decode cX2_readAll 18 = .ok (.invokevirtual 30, 3) := by decide +kernel
theorem dX2_readAll_21 : decode cX2_readAll 21 = .ok (.iastore, 1) := by decide +kernel
theorem dX2_readAll_22 : decode cX2_readAll 22 = .ok (.iinc 2 1, 3) := by decide +kernel
theorem dX2_readAll_25 : decode cX2_readAll 25 = .ok (.goto (-23), 3) := by decide +kernel
theorem dX2_readAll_28 : decode cX2_readAll 28 = .ok (.return_, 1) := by decide +kernel
set_option maxRecDepth 20000 in
theorem ggX2_isNear_X2_foldedBy : GoodIn wsX2_isNear wsX2_foldedBy := goodIn_r _ [14, 6, 15, 16, 17] (by decide +kernel) (by decide +kernel)
set_option maxRecDepth 20000 in
theorem gX2_isNear_X2_foldedBy : GoodIn wsX2_isNear (wsV RX2 30 RX2 yX2_foldedBy wsX2_foldedBy) := goodIn_app (goodIn_of _ (by decide +kernel)) ggX2_isNear_X2_foldedBy
theorem dX2_isNear_0 : decode cX2_isNear 0 = .ok (.aload_n 0, 1) := by decide +kernel
theorem dX2_isNear_1 : decode cX2_isNear 1 = .ok (.getfield 15, 3) := by decide +kernel
theorem dX2_isNear_4 : decode cX2_isNear 4 = .ok (.iload_n 1, 1) := by decide +kernel
theorem dX2_isNear_5 : decode cX2_isNear 5 = .ok (.iaload, 1) := by decide +kernel
theorem dX2_isNear_6 : decode cX2_isNear 6 = .ok (.iconst (-1), 1) := by decide +kernel
theorem dX2_isNear_7 : decode cX2_isNear 7 = .ok (.if_icmp .ne 5, 3) := by decide +kernel
theorem dX2_isNear_10 : decode cX2_isNear 10 = .ok (.iconst 0, 1) := by decide +kernel
theorem dX2_isNear_11 : decode cX2_isNear 11 = .ok (.ireturn, 1) := by decide +kernel
theorem dX2_isNear_12 : decode cX2_isNear 12 = .ok (.aload_n 0, 1) := by decide +kernel
theorem dX2_isNear_13 : decode cX2_isNear 13 = .ok (.getfield 15, 3) := by decide +kernel
theorem dX2_isNear_16 : decode cX2_isNear 16 = .ok (.iload_n 1, 1) := by decide +kernel
theorem dX2_isNear_17 : decode cX2_isNear 17 = .ok (.iaload, 1) := by decide +kernel
theorem dX2_isNear_18 : decode cX2_isNear 18 = .ok (.aload_n 0, 1) := by decide +kernel
theorem dX2_isNear_19 : decode cX2_isNear 19 = .ok (.iload_n 1, 1) := by decide +kernel
theorem dX2_isNear_20 : decode cX2_isNear 20 = .ok (.iload_n 2, 1) := by decide +kernel
theorem dX2_isNear_21 : decode cX2_isNear 21 = .ok (.invokevirtual 30, 3) := by decide +kernel
theorem dX2_isNear_24 : decode cX2_isNear 24 = .ok (.isub, 1) := by decide +kernel
theorem dX2_isNear_25 : decode cX2_isNear 25 = .ok (.invokestatic 34, 3) := by decide +kernel
theorem dX2_isNear_28 : decode cX2_isNear 28 = .ok (.istore 4, 2) := by decide +kernel
theorem dX2_isNear_30 : decode cX2_isNear 30 = .ok (.iload 4, 2) := by decide +kernel
theorem dX2_isNear_32 : decode cX2_isNear 32 = .ok (.aload_n 0, 1) := by decide +kernel
theorem dX2_isNear_33 : decode cX2_isNear 33 = .ok (.getfield 11, 3) := by decide +kernel
theorem dX2_isNear_36 : decode cX2_isNear 36 = .ok (.iload_n 1, 1) := by decide +kernel
theorem dX2_isNear_37 : decode cX2_isNear 37 = .ok (.iaload, 1) := by decide +kernel
theorem dX2_isNear_38 : decode cX2_isNear 38 = .ok (.iload 4, 2) := by decide +kernel
theorem dX2_isNear_40 : decode cX2_isNear 40 = .ok (.isub, 1) := by decide +kernel
theorem dX2_isNear_41 : decode cX2_isNear 41 = .ok (.invokestatic 40, 3) := by decide +kernel
theorem dX2_isNear_44 : decode cX2_isNear 44 = .ok (.iload_n 3, 1) := by decide +kernel
theorem dX2_isNear_45 : decode cX2_isNear 45 = .ok (.if_icmp .gt 7, 3) := by decide +kernel
theorem dX2_isNear_48 : decode cX2_isNear 48 = .ok (.iconst 1, 1) := by decide +kernel
theorem dX2_isNear_49 : decode cX2_isNear 49 = .ok (.goto 4, 3) := by decide +kernel
theorem dX2_isNear_52 : decode cX2_isNear 52 = .ok (.iconst 0, 1) := by decide +kernel
theorem dX2_isNear_53 : decode cX2_isNear 53 = .ok (.ireturn, 1) := by decide +kernel
set_option maxRecDepth 20000 in
theorem ggX2_fits_X2_isNear : GoodIn wsX2_fits wsX2_isNear := goodIn_r _ [6, 7, 8, 9, 10, 11, 12, 13, 14, 15, 16, 17, 18, 5, 19, 20, 21, 22] (by decide +kernel) (by decide +kernel)
set_option maxRecDepth 20000 in
theorem gX2_fits_X2_isNear : GoodIn wsX2_fits (wsV RX2 43 RX2 yX2_isNear wsX2_isNear) := goodIn_app (goodIn_of _ (by decide +kernel)) ggX2_fits_X2_isNear
theorem dX2_fits_0 : decode cX2_fits 0 = .ok (.iconst 0, 1) := by decide +kernel
theorem dX2_fits_1 : decode cX2_fits 1 = .ok (.istore 4, 2) := by decide +kernel
theorem dX2_fits_3 : decode cX2_fits 3 = .ok (.iconst 0, 1) := by decide +kernel
theorem dX2_fits_4 : decode cX2_fits 4 = .ok (.istore 5, 2) := by decide +kernel
theorem dX2_fits_6 : decode cX2_fits 6 = .ok (.iload 5, 2) := by decide +kernel
theorem dX2_fits_8 : decode cX2_fits 8 = .ok (.aload_n 0, 1) := by decide +kernel
theorem dX2_fits_9 : decode cX2_fits 9 = .ok (.getfield 26, 3) := by decide +kernel
theorem dX2_fits_12 : decode cX2_fits 12 = .ok (.if_icmp .ge 23, 3) := by decide +kernel
theorem dX2_fits_15 : decode cX2_fits 15 = .ok (.aload_n 0, 1) := by decide +kernel
theorem dX2_fits_16 : decode cX2_fits 16 = .ok (.iload 5, 2) := by decide +kernel
theorem dX2_fits_18 : decode cX2_fits 18 = .ok (.iload_n 1, 1) := by decide +kernel
theorem dX2_fits_19 : decode cX2_fits 19 = .ok (.iload_n 2, 1) := by decide +kernel
theorem dX2_fits_20 : decode cX2_fits 20 = .ok (.invokevirtual 43, 3) := by decide +kernel
theorem dX2_fits_23 : decode cX2_fits 23 = .ok (.ifCond .eq 6, 3) := by decide +kernel
theorem dX2_fits_26 : decode cX2_fits 26 = .ok (.iinc 4 1, 3) := by decide +kernel
theorem dX2_fits_29 : decode cX2_fits 29 = .ok (.iinc 5 1, 3) := by decide +kernel
theorem dX2_fits_32 : decode cX2_fits 32 = .ok (.goto (-26), 3) := by decide +kernel
theorem dX2_fits_35 : decode cX2_fits 35 = .ok (.iload 4, 2) := by decide +kernel
theorem dX2_fits_37 : decode cX2_fits 37 = .ok (.iload_n 3, 1) := by decide +kernel
theorem dX2_fits_38 : decode cX2_fits 38 = .ok (.if_icmp .lt 7, 3) := by decide +kernel
theorem dX2_fits_41 : decode cX2_fits 41 = .ok (.iconst 1, 1) := by decide +kernel
theorem dX2_fits_42 : decode cX2_fits 42 = .ok (.goto 4, 3) := by decide +kernel
theorem dX2_fits_45 : decode cX2_fits 45 = .ok (.iconst 0, 1) := by decide +kernel
theorem dX2_fits_46 : decode cX2_fits 46 = .ok (.ireturn, 1) := by decide +kernel
set_option maxRecDepth 20000 in
theorem ggX2_fitting_X2_fits : GoodIn wsX2_fitting wsX2_fits := goodIn_r _ [5, 6, 7, 8, 9, 4, 10, 11, 12, 13, 14, 15, 16, 17, 18, 19, 20, 21, 22, 23, 24, 25, 26] (by decide +kernel) (by decide +kernel)
set_option maxRecDepth 20000 in
theorem gX2_fitting_X2_fits : GoodIn wsX2_fitting (wsV RX2 46 RX2 yX2_fits wsX2_fits) := goodIn_app (goodIn_of _ (by decide +kernel)) ggX2_fitting_X2_fits
theorem dX2_fitting_0 : decode cX2_fitting 0 = .ok (.iconst 0, 1) := by decide +kernel
theorem dX2_fitting_1 : decode cX2_fitting 1 = .ok (.istore 4, 2) := by decide +kernel
theorem dX2_fitting_3 : decode cX2_fitting 3 = .ok (.iconst 0, 1) := by decide +kernel
theorem dX2_fitting_4 : decode cX2_fitting 4 = .ok (.istore 5, 2) := by decide +kernel
theorem dX2_fitting_6 : decode cX2_fitting 6 = .ok (.iload 5, 2) := by decide +kernel
theorem dX2_fitting_8 : decode cX2_fitting 8 = .ok (.iload_n 3, 1) := by decide +kernel
theorem dX2_fitting_9 : decode cX2_fitting 9 = .ok (.if_icmp .ge 23, 3) := by decide +kernel
theorem dX2_fitting_12 : decode cX2_fitting 12 = .ok (.aload_n 0, 1) := by decide +kernel
theorem dX2_fitting_13 : decode cX2_fitting 13 = .ok (.iload 5, 2) := by decide +kernel
theorem dX2_fitting_15 : decode cX2_fitting 15 = .ok (.iload_n 1, 1) := by decide +kernel
theorem dX2_fitting_16 : decode cX2_fitting 16 = .ok (.iload_n 2, 1) := by decide +kernel
theorem dX2_fitting_17 : decode cX2_fitting 17 = .ok (.invokevirtual 46, 3) := by decide +kernel
theorem dX2_fitting_20 : decode cX2_fitting 20 = .ok (.ifCond .eq 6, 3) := by decide +kernel
theorem dX2_fitting_23 : decode cX2_fitting 23 = .ok (.iinc 4 1, 3) := by decide +kernel
theorem dX2_fitting_26 : decode cX2_fitting 26 = .ok (.iinc 5 1, 3) := by decide +kernel
theorem dX2_fitting_29 : decode cX2_fitting 29 = .ok (.goto (-23), 3) := by decide +kernel
theorem dX2_fitting_32 : decode cX2_fitting 32 = .ok (.iload 4, 2) := by decide +kernel
theorem dX2_fitting_34 : decode cX2_fitting 34 = .ok (.ireturn, 1) := by decide +kernel
set_option maxRecDepth 20000 in
theorem ggX2_fittingAt_X2_fits : GoodIn wsX2_fittingAt wsX2_fits := goodIn_r _ [5, 6, 7, 8, 9, 4, 10, 11, 12, 13, 14, 15, 16, 17, 18, 19, 20, 21, 22, 23, 24, 25, 26] (by decide +kernel) (by decide +kernel)
set_option maxRecDepth 20000 in
theorem gX2_fittingAt_X2_fits : GoodIn wsX2_fittingAt (wsV RX2 46 RX2 yX2_fits wsX2_fits) := goodIn_app (goodIn_of _ (by decide +kernel)) ggX2_fittingAt_X2_fits
theorem dX2_fittingAt_0 : decode cX2_fittingAt 0 = .ok (.iconst 0, 1) := by decide +kernel
theorem dX2_fittingAt_1 : decode cX2_fittingAt 1 = .ok (.istore 5, 2) := by decide +kernel
theorem dX2_fittingAt_3 : decode cX2_fittingAt 3 = .ok (.iconst 0, 1) := by decide +kernel
theorem dX2_fittingAt_4 : decode cX2_fittingAt 4 = .ok (.istore 6, 2) := by decide +kernel
theorem dX2_fittingAt_6 : decode cX2_fittingAt 6 = .ok (.iload 6, 2) := by decide +kernel
theorem dX2_fittingAt_8 : decode cX2_fittingAt 8 = .ok (.iload_n 3, 1) := by decide +kernel
theorem dX2_fittingAt_9 : decode cX2_fittingAt 9 = .ok (.if_icmp .ge 33, 3) := by decide +kernel
theorem dX2_fittingAt_12 : decode cX2_fittingAt 12 = .ok (.aload_n 0, 1) := by decide +kernel
theorem dX2_fittingAt_13 : decode cX2_fittingAt 13 = .ok (.iload 6, 2) := by decide +kernel
theorem dX2_fittingAt_15 : decode cX2_fittingAt 15 = .ok (.iload_n 1, 1) := by decide +kernel
theorem dX2_fittingAt_16 : decode cX2_fittingAt 16 = .ok (.iload_n 2, 1) := by decide +kernel
theorem dX2_fittingAt_17 : decode cX2_fittingAt 17 = .ok (.invokevirtual 46, 3) := by decide +kernel
theorem dX2_fittingAt_20 : decode cX2_fittingAt 20 = .ok (.ifCond .eq 16, 3) := by decide +kernel
theorem dX2_fittingAt_23 : decode cX2_fittingAt 23 = .ok (.iload 5, 2) := by decide +kernel
theorem dX2_fittingAt_25 : decode cX2_fittingAt 25 = .ok (.iload 4, 2) := by decide +kernel
theorem dX2_fittingAt_27 : decode cX2_fittingAt 27 = .ok (.if_icmp .ne 6, 3) := by decide +kernel
theorem dX2_fittingAt_30 : decode cX2_fittingAt 30 = .ok (.iload 6, 2) := by decide +kernel
theorem dX2_fittingAt_32 : decode cX2_fittingAt 32 = .ok (.ireturn, 1) := by decide +kernel
theorem dX2_fittingAt_33 : decode cX2_fittingAt 33 = .ok (.iinc 5 1, 3) := by decide +kernel
theorem dX2_fittingAt_36 : decode cX2_fittingAt 36 = .ok (.iinc 6 1, 3) := by decide +kernel
theorem dX2_fittingAt_39 : decode cX2_fittingAt 39 = .ok (.goto (-33), 3) := by decide +kernel
theorem dX2_fittingAt_42 : decode cX2_fittingAt 42 = .ok (.iconst (-1), 1) := by decide +kernel
theorem dX2_fittingAt_43 : decode cX2_fittingAt 43 = .ok (.ireturn, 1) := by decide +kernel
set_option maxRecDepth 20000 in
theorem ggX2_leastCommon_X6_commonDivisor : GoodIn wsX2_leastCommon wsX6_commonDivisor := goodIn_r _ [5] (by decide +kernel) (by decide +kernel)
set_option maxRecDepth 20000 in
theorem gX2_leastCommon_X6_commonDivisor_n49 : GoodIn wsX2_leastCommon (wsX6_commonDivisor) := ggX2_leastCommon_X6_commonDivisor
theorem dX2_leastCommon_0 : decode cX2_leastCommon 0 = .ok (.lconst 1, 1) := by decide +kernel
theorem dX2_leastCommon_1 : decode cX2_leastCommon 1 = .ok (.lstore_n 1, 1) := by decide +kernel
theorem dX2_leastCommon_2 : decode cX2_leastCommon 2 = .ok (.iconst 0, 1) := by decide +kernel
theorem dX2_leastCommon_3 : decode cX2_leastCommon 3 = .ok (.istore_n 3, 1) := by decide +kernel
theorem dX2_leastCommon_4 : decode cX2_leastCommon 4 = .ok (.iload_n 3, 1) := by decide +kernel
theorem dX2_leastCommon_5 : decode cX2_leastCommon 5 = .ok (.aload_n 0, 1) := by decide +kernel
theorem dX2_leastCommon_6 : decode cX2_leastCommon 6 = .ok (.getfield 26, 3) := by decide +kernel
theorem dX2_leastCommon_9 : decode cX2_leastCommon 9 = .ok (.if_icmp .ge 31, 3) := by decide +kernel
theorem dX2_leastCommon_12 : decode cX2_leastCommon 12 = .ok (.lload_n 1, 1) := by decide +kernel
theorem dX2_leastCommon_13 : decode cX2_leastCommon 13 = .ok (.aload_n 0, 1) := by decide +kernel
theorem dX2_leastCommon_14 : decode cX2_leastCommon 14 = .ok (.getfield 11, 3) := by decide +kernel
theorem dX2_leastCommon_17 : decode cX2_leastCommon 17 = .ok (.iload_n 3, 1) := by decide +kernel
theorem dX2_leastCommon_18 : decode cX2_leastCommon 18 = .ok (.iaload, 1) := by decide +kernel
theorem dX2_leastCommon_19 : decode cX2_leastCommon 19 = .ok (.i2l, 1) := by decide +kernel
theorem dX2_leastCommon_20 : decode cX2_leastCommon 20 = .ok (.lload_n 1, 1) := by decide +kernel
theorem dX2_leastCommon_21 : decode cX2_leastCommon 21 = .ok (.aload_n 0, 1) := by decide +kernel
theorem dX2_leastCommon_22 : decode cX2_leastCommon 22 = .ok (.getfield 11, 3) := by decide +kernel
theorem dX2_leastCommon_25 : decode cX2_leastCommon 25 = .ok (.iload_n 3, 1) := by decide +kernel
theorem dX2_leastCommon_26 : decode cX2_leastCommon 26 = .ok (.iaload, 1) := by decide +kernel
theorem dX2_leastCommon_27 : decode cX2_leastCommon 27 = .ok (.i2l, 1) := by decide +kernel
theorem dX2_leastCommon_28 : decode cX2_leastCommon 28 = .ok (.invokestatic 49, 3) := by decide +kernel
theorem dX2_leastCommon_31 : decode cX2_leastCommon 31 = .ok (.ldiv, 1) := by decide +kernel
theorem dX2_leastCommon_32 : decode cX2_leastCommon 32 = .ok (.lmul, 1) := by decide +kernel
theorem dX2_leastCommon_33 : decode cX2_leastCommon 33 = .ok (.lstore_n 1, 1) := by decide +kernel
theorem dX2_leastCommon_34 : decode cX2_leastCommon 34 = .ok (.iinc 3 1, 3) := by decide +kernel
theorem dX2_leastCommon_37 : decode cX2_leastCommon 37 = .ok (.goto (-33), 3) := by decide +kernel
theorem dX2_leastCommon_40 : decode cX2_leastCommon 40 = .ok (.lload_n 1, 1) := by decide +kernel
theorem dX2_leastCommon_41 : decode cX2_leastCommon 41 = .ok (.l2i, 1) := by decide +kernel
theorem dX2_leastCommon_42 : decode cX2_leastCommon 42 = .ok (.ireturn, 1) := by decide +kernel
set_option maxRecDepth 20000 in
theorem ggX2_unseen_X6_commonDivisor : GoodIn wsX2_unseen wsX6_commonDivisor := goodIn_r _ [4] (by decide +kernel) (by decide +kernel)
set_option maxRecDepth 20000 in
theorem gX2_unseen_X6_commonDivisor_n49 : GoodIn wsX2_unseen (wsX6_commonDivisor) := ggX2_unseen_X6_commonDivisor
theorem dX2_unseen_0 : decode cX2_unseen 0 = .ok (.iload_n 3, 1) := by decide +kernel
theorem dX2_unseen_1 : decode cX2_unseen 1 = .ok (.i2l, 1) := by decide +kernel
theorem dX2_unseen_2 : decode cX2_unseen 2 = .ok (.lstore 4, 2) := by decide +kernel
theorem dX2_unseen_4 : decode cX2_unseen 4 = .ok (.iload_n 1, 1) := by decide +kernel
theorem dX2_unseen_5 : decode cX2_unseen 5 = .ok (.istore 6, 2) := by decide +kernel
theorem dX2_unseen_7 : decode cX2_unseen 7 = .ok (.iload 6, 2) := by decide +kernel
theorem dX2_unseen_9 : decode cX2_unseen 9 = .ok (.iload_n 2, 1) := by decide +kernel
theorem dX2_unseen_10 : decode cX2_unseen 10 = .ok (.if_icmp .gt 24, 3) := by decide +kernel
theorem dX2_unseen_13 : decode cX2_unseen 13 = .ok (.lload 4, 2) := by decide +kernel
theorem dX2_unseen_15 : decode cX2_unseen 15 = .ok (.aload_n 0, 1) := by decide +kernel
theorem dX2_unseen_16 : decode cX2_unseen 16 = .ok (.getfield 11, 3) := by decide +kernel
theorem dX2_unseen_19 : decode cX2_unseen 19 = .ok (.iload 6, 2) := by decide +kernel
theorem dX2_unseen_21 : decode cX2_unseen 21 = .ok (.iaload, 1) := by decide +kernel
theorem dX2_unseen_22 : decode cX2_unseen 22 = .ok (.i2l, 1) := by decide +kernel
theorem dX2_unseen_23 : decode cX2_unseen 23 = .ok (.invokestatic 49, 3) := by decide +kernel
theorem dX2_unseen_26 : decode cX2_unseen 26 = .ok (.lstore 4, 2) := by decide +kernel
theorem dX2_unseen_28 : decode cX2_unseen 28 = .ok (.iinc 6 1, 3) := by decide +kernel
theorem dX2_unseen_31 : decode cX2_unseen 31 = .ok (.goto (-24), 3) := by decide +kernel
theorem dX2_unseen_34 : decode cX2_unseen 34 = .ok (.lload 4, 2) := by decide +kernel
theorem dX2_unseen_36 : decode cX2_unseen 36 = .ok (.l2i, 1) := by decide +kernel
theorem dX2_unseen_37 : decode cX2_unseen 37 = .ok (.ireturn, 1) := by decide +kernel
theorem dX3_init_0 : decode cX3_init 0 = .ok (.aload_n 0, 1) := by decide +kernel
theorem dX3_init_1 : decode cX3_init 1 = .ok (.invokespecial 1, 3) := by decide +kernel
theorem dX3_init_4 : decode cX3_init 4 = .ok (.aload_n 0, 1) := by decide +kernel
theorem dX3_init_5 : decode cX3_init 5 = .ok (.bipush 64, 2) := by decide +kernel
theorem dX3_init_7 : decode cX3_init 7 = .ok (.newarray .int, 2) := by decide +kernel
theorem dX3_init_9 : decode cX3_init 9 = .ok (.putfield 9, 3) := by decide +kernel
theorem dX3_init_12 : decode cX3_init 12 = .ok (.aload_n 0, 1) := by decide +kernel
theorem dX3_init_13 : decode cX3_init 13 = .ok (.iconst 0, 1) := by decide +kernel
theorem dX3_init_14 : decode cX3_init 14 = .ok (.putfield 13, 3) := by decide +kernel
theorem dX3_init_17 : decode cX3_init 17 = .ok (.aload_n 0, 1) := by decide +kernel
theorem dX3_init_18 : decode cX3_init 18 = .ok (.bipush 16, 2) := by decide +kernel
theorem dX3_init_20 : decode cX3_init 20 = .ok (.newarray .int, 2) := by decide +kernel
theorem dX3_init_22 : decode cX3_init 22 = .ok (.putfield 17, 3) := by decide +kernel
theorem dX3_init_25 : decode cX3_init 25 = .ok (.return_, 1) := by decide +kernel
set_option maxRecDepth 20000 in
theorem ggX3_maySeek_X6_within : GoodIn wsX3_maySeek wsX6_within := goodIn_r _ [3] (by decide +kernel) (by decide +kernel)
set_option maxRecDepth 20000 in
theorem gX3_maySeek_X6_within_n20 : GoodIn wsX3_maySeek (wsX6_within) := ggX3_maySeek_X6_within
theorem dX3_maySeek_0 : decode cX3_maySeek 0 = .ok (.iload_n 0, 1) := by decide +kernel
theorem dX3_maySeek_1 : decode cX3_maySeek 1 = .ok (.iconst 1, 1) := by decide +kernel
theorem dX3_maySeek_2 : decode cX3_maySeek 2 = .ok (.bipush 8, 2) := by decide +kernel
theorem dX3_maySeek_4 : decode cX3_maySeek 4 = .ok (.invokestatic 20, 3) := by decide +kernel
theorem dX3_maySeek_7 : decode cX3_maySeek 7 = .ok (.ifCond .eq 37, 3) := by decide +kernel
theorem dX3_maySeek_10 : decode cX3_maySeek 10 = .ok (.iload_n 1, 1) := by decide +kernel
theorem dX3_maySeek_11 : decode cX3_maySeek 11 = .ok (.iconst 0, 1) := by decide +kernel
theorem dX3_maySeek_12 : decode cX3_maySeek 12 = .ok (.iconst 3, 1) := by decide +kernel
theorem dX3_maySeek_13 : decode cX3_maySeek 13 = .ok (.invokestatic 20, 3) := by decide +kernel
theorem dX3_maySeek_16 : decode cX3_maySeek 16 = .ok (.ifCond .eq 28, 3) := by decide +kernel
theorem dX3_maySeek_19 : decode cX3_maySeek 19 = .ok (.iload_n 2, 1) := by decide +kernel
theorem dX3_maySeek_20 : decode cX3_maySeek 20 = .ok (.iconst 1, 1) := by decide +kernel
theorem dX3_maySeek_21 : decode cX3_maySeek 21 = .ok (.bipush 8, 2) := by decide +kernel
theorem dX3_maySeek_23 : decode cX3_maySeek 23 = .ok (.invokestatic 20, 3) := by decide +kernel
theorem dX3_maySeek_26 : decode cX3_maySeek 26 = .ok (.ifCond .eq 18, 3) := by decide +kernel
theorem dX3_maySeek_29 : decode cX3_maySeek 29 = .ok (.iload_n 3, 1) := by decide +kernel
theorem dX3_maySeek_30 : decode cX3_maySeek 30 = .ok (.iconst 1, 1) := by decide +kernel
theorem dX3_maySeek_31 : decode cX3_maySeek 31 = .ok (.sipush 500, 3) := by decide +kernel
theorem dX3_maySeek_34 : decode cX3_maySeek 34 = .ok (.invokestatic 20, 3) := by decide +kernel
theorem dX3_maySeek_37 : decode cX3_maySeek 37 = .ok (.ifCond .eq 7, 3) := by decide +kernel
theorem dX3_maySeek_40 : decode cX3_maySeek 40 = .ok (.iconst 1, 1) := by decide +kernel
theorem dX3_maySeek_41 : decode cX3_maySeek 41 = .ok (.goto 4, 3) := by decide +kernel
theorem dX3_maySeek_44 : decode cX3_maySeek 44 = .ok (.iconst 0, 1) := by decide +kernel
theorem dX3_maySeek_45 : decode cX3_maySeek 45 = .ok (.ireturn, 1) := by decide +kernel
theorem dX3_append_0 : decode cX3_append 0 = .ok (.aload_n 0, 1) := by decide +kernel
theorem dX3_append_1 : decode cX3_append 1 = .ok (.getfield 13, 3) := by decide +kernel
theorem dX3_append_4 : decode cX3_append 4 = .ok (.bipush 64, 2) := by decide +kernel
theorem dX3_append_6 : decode cX3_append 6 = .ok (.if_icmp .lt 5, 3) := by decide +kernel
theorem dX3_append_9 : decode cX3_append 9 = .ok (.iconst 0, 1) := by decide +kernel
theorem dX3_append_10 : decode cX3_append 10 = .ok (.ireturn, 1) := by decide +kernel
theorem dX3_append_11 : decode cX3_append 11 = .ok (.aload_n 0, 1) := by decide +kernel
theorem dX3_append_12 : decode cX3_append 12 = .ok (.getfield 9, 3) := by decide +kernel
theorem dX3_append_15 : decode cX3_append 15 = .ok (.aload_n 0, 1) := by decide +kernel
theorem dX3_append_16 : decode cX3_append 16 = .ok (.getfield 13, 3) := by decide +kernel
theorem dX3_append_19 : decode cX3_append 19 = .ok (.iload_n 1, 1) := by decide +kernel
theorem dX3_append_20 : decode cX3_append 20 = .ok (.iastore, 1) := by decide +kernel
theorem dX3_append_21 : decode cX3_append 21 = .ok (.aload_n 0, 1) := by decide +kernel
theorem dX3_append_22 : decode cX3_append 22 = .ok (.dup, 1) := by decide +kernel
theorem dX3_append_23 : decode cX3_append 23 = .ok (.getfield 13, 3) := by decide +kernel
theorem dX3_append_26 : decode cX3_append 26 = .ok (.iconst 1, 1) := by decide +kernel
theorem dX3_append_27 : decode cX3_append 27 = .ok (.iadd, 1) := by decide +kernel
theorem dX3_append_28 : decode cX3_append 28 = .ok (.putfield 13, 3) := by decide +kernel
theorem dX3_append_31 : decode cX3_append 31 = .ok (.iconst 1, 1) := by decide +kernel
theorem dX3_append_32 : decode cX3_append 32 = .ok (.ireturn, 1) := by decide +kernel
set_option maxRecDepth 20000 in
theorem ggX3_standsOut_X3_orderNeighbours : GoodIn wsX3_standsOut wsX3_orderNeighbours := goodIn_r _ [7, 1, 8, 9, 10, 11, 6, 12, 2, 13, 14, 15] (by decide +kernel) (by decide +kernel)
set_option maxRecDepth 20000 in
theorem gX3_standsOut_X3_orderNeighbours : GoodIn wsX3_standsOut (wsV RX3 26 RX3 yX3_orderNeighbours wsX3_orderNeighbours) := goodIn_app (goodIn_of _ (by decide +kernel)) ggX3_standsOut_X3_orderNeighbours
theorem dX3_standsOut_0 : decode cX3_standsOut 0 = .ok (.aload_n 0, 1) := by decide +kernel
theorem dX3_standsOut_1 : decode cX3_standsOut 1 = .ok (.iload_n 1, 1) := by decide +kernel
theorem dX3_standsOut_2 : decode cX3_standsOut 2 = .ok (.iload_n 2, 1) := by decide +kernel
theorem dX3_standsOut_3 : decode cX3_standsOut 3 = .ok (.iload_n 3, 1) := by decide +kernel
theorem dX3_standsOut_4 : decode cX3_standsOut 4 = .ok (.invokevirtual 26, 3) := by decide +kernel
theorem dX3_standsOut_7 : decode cX3_standsOut 7 = .ok (.istore 6, 2) := by decide +kernel
theorem dX3_standsOut_9 : decode cX3_standsOut 9 = .ok (.iload 6, 2) := by decide +kernel
theorem dX3_standsOut_11 : decode cX3_standsOut 11 = .ok (.iload 4, 2) := by decide +kernel
theorem dX3_standsOut_13 : decode cX3_standsOut 13 = .ok (.if_icmp .lt 31, 3) := by decide +kernel
theorem dX3_standsOut_16 : decode cX3_standsOut 16 = .ok (.bipush 10, 2) := by decide +kernel
theorem dX3_standsOut_18 : decode cX3_standsOut 18 = .ok (.aload_n 0, 1) := by decide +kernel
theorem dX3_standsOut_19 : decode cX3_standsOut 19 = .ok (.getfield 9, 3) := by decide +kernel
theorem dX3_standsOut_22 : decode cX3_standsOut 22 = .ok (.iload_n 1, 1) := by decide +kernel
theorem dX3_standsOut_23 : decode cX3_standsOut 23 = .ok (.iaload, 1) := by decide +kernel
theorem dX3_standsOut_24 : decode cX3_standsOut 24 = .ok (.imul, 1) := by decide +kernel
theorem dX3_standsOut_25 : decode cX3_standsOut 25 = .ok (.iload 5, 2) := by decide +kernel
theorem dX3_standsOut_27 : decode cX3_standsOut 27 = .ok (.aload_n 0, 1) := by decide +kernel
theorem dX3_standsOut_28 : decode cX3_standsOut 28 = .ok (.getfield 17, 3) := by decide +kernel
theorem dX3_standsOut_31 : decode cX3_standsOut 31 = .ok (.iload 4, 2) := by decide +kernel
theorem dX3_standsOut_33 : decode cX3_standsOut 33 = .ok (.iconst 1, 1) := by decide +kernel
theorem dX3_standsOut_34 : decode cX3_standsOut 34 = .ok (.isub, 1) := by decide +kernel
theorem dX3_standsOut_35 : decode cX3_standsOut 35 = .ok (.iaload, 1) := by decide +kernel
theorem dX3_standsOut_36 : decode cX3_standsOut 36 = .ok (.imul, 1) := by decide +kernel
theorem dX3_standsOut_37 : decode cX3_standsOut 37 = .ok (.if_icmp .le 7, 3) := by decide +kernel
theorem dX3_standsOut_40 : decode cX3_standsOut 40 = .ok (.iconst 1, 1) := by decide +kernel
theorem dX3_standsOut_41 : decode cX3_standsOut 41 = .ok (.goto 4, 3) := by decide +kernel
theorem dX3_standsOut_44 : decode cX3_standsOut 44 = .ok (.iconst 0, 1) := by decide +kernel
theorem dX3_standsOut_45 : decode cX3_standsOut 45 = .ok (.ireturn, 1) := by decide +kernel
set_option maxRecDepth 20000 in
theorem ggX3_standingOut_X3_standsOut : GoodIn wsX3_standingOut wsX3_standsOut := goodIn_r _ [6, 7, 8, 9, 10, 11, 5, 12, 1, 13, 14, 15, 16, 17, 18, 19] (by decide +kernel) (by decide +kernel)
set_option maxRecDepth 20000 in
theorem gX3_standingOut_X3_standsOut : GoodIn wsX3_standingOut (wsV RX3 30 RX3 yX3_standsOut wsX3_standsOut) := goodIn_app (goodIn_of _ (by decide +kernel)) ggX3_standingOut_X3_standsOut
theorem dX3_standingOut_0 : decode cX3_standingOut 0 = .ok (.iconst 0, 1) := by decide +kernel
theorem dX3_standingOut_1 : decode cX3_standingOut 1 = .ok (.istore 5, 2) := by decide +kernel
theorem dX3_standingOut_3 : decode cX3_standingOut 3 = .ok (.iconst 0, 1) := by decide +kernel
theorem dX3_standingOut_4 : decode cX3_standingOut 4 = .ok (.istore 6, 2) := by decide +kernel
theorem dX3_standingOut_6 : decode cX3_standingOut 6 = .ok (.iload 6, 2) := by decide +kernel
theorem dX3_standingOut_8 : decode cX3_standingOut 8 = .ok (.aload_n 0, 1) := by decide +kernel
theorem dX3_standingOut_9 : decode cX3_standingOut 9 = .ok (.getfield 13, 3) := by decide +kernel
theorem dX3_standingOut_12 : decode cX3_standingOut 12 = .ok (.if_icmp .ge 26, 3) := by decide +kernel
theorem dX3_standingOut_15 : decode cX3_standingOut 15 = .ok (.aload_n 0, 1) := by decide +kernel
theorem dX3_standingOut_16 : decode cX3_standingOut 16 = .ok (.iload 6, 2) := by decide +kernel
theorem dX3_standingOut_18 : decode cX3_standingOut 18 = .ok (.iload_n 1, 1) := by decide +kernel
theorem dX3_standingOut_19 : decode cX3_standingOut 19 = .ok (.iload_n 2, 1) := by decide +kernel
theorem dX3_standingOut_20 : decode cX3_standingOut 20 = .ok (.iload_n 3, 1) := by decide +kernel
theorem dX3_standingOut_21 : decode cX3_standingOut 21 = .ok (.iload 4, 2) := by decide +kernel
theorem dX3_standingOut_23 : decode cX3_standingOut 23 = .ok (.invokevirtual 30, 3) := by decide +kernel
theorem dX3_standingOut_26 : decode cX3_standingOut 26 = .ok (.ifCond .eq 6, 3) := by decide +kernel
theorem dX3_standingOut_29 : decode cX3_standingOut 29 = .ok (.iinc 5 1, 3) := by decide +kernel
theorem dX3_standingOut_32 : decode cX3_standingOut 32 = .ok (.iinc 6 1, 3) := by decide +kernel
theorem dX3_standingOut_35 : decode cX3_standingOut 35 = .ok (.goto (-29), 3) := by decide +kernel
theorem dX3_standingOut_38 : decode cX3_standingOut 38 = .ok (.iload 5, 2) := by decide +kernel
theorem dX3_standingOut_40 : decode cX3_standingOut 40 = .ok (.ireturn, 1) := by decide +kernel
set_option maxRecDepth 20000 in
theorem ggX3_orderNeighbours_X3_insert : GoodIn wsX3_orderNeighbours wsX3_insert := goodIn_r _ [7, 8, 9, 10, 11] (by decide +kernel) (by decide +kernel)
set_option maxRecDepth 20000 in
theorem gX3_orderNeighbours_X3_insert : GoodIn wsX3_orderNeighbours (wsV RX3 34 RX3 yX3_insert wsX3_insert) := goodIn_app (goodIn_of _ (by decide +kernel)) ggX3_orderNeighbours_X3_insert
theorem dX3_orderNeighbours_0 : decode cX3_orderNeighbours 0 = .ok (.iconst 0, 1) := by decide +kernel
theorem dX3_orderNeighbours_1 : decode cX3_orderNeighbours 1 = .ok (.istore 4, 2) := by decide +kernel
theorem dX3_orderNeighbours_3 : decode cX3_orderNeighbours 3 = .ok (.iload_n 3, 1) := by decide +kernel
theorem dX3_orderNeighbours_4 : decode cX3_orderNeighbours 4 = .ok (.iconst 1, 1) := by decide +kernel
theorem dX3_orderNeighbours_5 : decode cX3_orderNeighbours 5 = .ok (.iadd, 1) := by decide +kernel
theorem dX3_orderNeighbours_6 : decode cX3_orderNeighbours 6 = .ok (.istore 5, 2) := by decide +kernel
theorem dX3_orderNeighbours_8 : decode cX3_orderNeighbours 8 = .ok (.iload 5, 2) := by decide +kernel
theorem dX3_orderNeighbours_10 : decode cX3_orderNeighbours 10 = .ok (.iload_n 3, 1) := by decide +kernel
theorem dX3_orderNeighbours_11 : decode cX3_orderNeighbours 11 = .ok (.iload_n 2, 1) := by decide +kernel
theorem dX3_orderNeighbours_12 : decode cX3_orderNeighbours 12 = .ok (.iadd, 1) := by decide +kernel
theorem dX3_orderNeighbours_13 : decode cX3_orderNeighbours 13 = .ok (.if_icmp .gt 63, 3) := by decide +kernel
theorem dX3_orderNeighbours_16 : decode cX3_orderNeighbours 16 = .ok (.iload_n 1, 1) := by decide +kernel
theorem dX3_orderNeighbours_17 : decode cX3_orderNeighbours 17 = .ok (.iload 5, 2) := by decide +kernel
theorem dX3_orderNeighbours_19 : decode cX3_orderNeighbours 19 = .ok (.isub, 1) := by decide +kernel
theorem dX3_orderNeighbours_20 : decode cX3_orderNeighbours 20 = .ok (.ifCond .lt 21, 3) := by decide +kernel
theorem dX3_orderNeighbours_23 : decode cX3_orderNeighbours 23 = .ok (.aload_n 0, 1) := by decide +kernel
theorem dX3_orderNeighbours_24 : decode cX3_orderNeighbours 24 = .ok (.aload_n 0, 1) := by decide +kernel
theorem dX3_orderNeighbours_25 : decode cX3_orderNeighbours 25 = .ok (.getfield 9, 3) := by decide +kernel
theorem dX3_orderNeighbours_28 : decode cX3_orderNeighbours 28 = .ok (.iload_n 1, 1) := by decide +kernel
theorem dX3_orderNeighbours_29 : decode cX3_orderNeighbours 29 = .ok (.iload 5, 2) := by decide +kernel
theorem dX3_orderNeighbours_31 : decode cX3_orderNeighbours 31 = .ok (.isub, 1) := by decide +kernel
theorem dX3_orderNeighbours_32 : decode cX3_orderNeighbours 32 = .ok (.iaload, 1) := by decide +kernel
theorem dX3_orderNeighbours_33 : decode cX3_orderNeighbours 33 = .ok (.iload 4, 2) := by decide +kernel
theorem dX3_orderNeighbours_35 : decode cX3_orderNeighbours 35 = .ok (.invokevirtual 34, 3) := by decide +kernel
theorem dX3_orderNeighbours_38 : decode cX3_orderNeighbours 38 = .ok (.iinc 4 1, 3) := by decide +kernel
theorem dX3_orderNeighbours_41 : decode cX3_orderNeighbours 41 = .ok (.iload_n 1, 1) := by decide +kernel
theorem dX3_orderNeighbours_42 : decode cX3_orderNeighbours 42 = .ok (.iload 5, 2) := by decide +kernel
theorem dX3_orderNeighbours_44 : decode cX3_orderNeighbours 44 = .ok (.iadd, 1) := by decide +kernel
theorem dX3_orderNeighbours_45 : decode cX3_orderNeighbours 45 = .ok (.aload_n 0, 1) := by decide +kernel
theorem dX3_orderNeighbours_46 : decode cX3_orderNeighbours 46 = .ok (.getfield 13, 3) := by decide +kernel
theorem dX3_orderNeighbours_49 : decode cX3_orderNeighbours 49 = .ok (.if_icmp .ge 21, 3) := by decide +kernel
theorem dX3_orderNeighbours_52 : decode cX3_orderNeighbours 52 = .ok (.aload_n 0, 1) := by decide +kernel
theorem dX3_orderNeighbours_53 : decode cX3_orderNeighbours 53 = .ok (.aload_n 0, 1) := by decide +kernel
theorem dX3_orderNeighbours_54 : decode cX3_orderNeighbours 54 = .ok (.getfield 9, 3) := by decide +kernel
theorem dX3_orderNeighbours_57 : decode cX3_orderNeighbours 57 = .ok (.iload_n 1, 1) := by decide +kernel
theorem dX3_orderNeighbours_58 : decode cX3_orderNeighbours 58 = .ok (.iload 5, 2) := by decide +kernel
theorem dX3_orderNeighbours_60 : decode cX3_orderNeighbours 60 = .ok (.iadd, 1) := by decide +kernel
theorem dX3_orderNeighbours_61 : decode cX3_orderNeighbours 61 = .ok (.iaload, 1) := by decide +kernel
theorem dX3_orderNeighbours_62 : decode cX3_orderNeighbours 62 = .ok (.iload 4, 2) := by decide +kernel
theorem dX3_orderNeighbours_64 : decode cX3_orderNeighbours 64 = .ok (.invokevirtual 34, 3) := by decide +kernel
theorem dX3_orderNeighbours_67 : decode cX3_orderNeighbours 67 = .ok (.iinc 4 1, 3) := by decide +kernel
theorem dX3_orderNeighbours_70 : decode cX3_orderNeighbours 70 = .ok (.iinc 5 1, 3) := by decide +kernel
theorem dX3_orderNeighbours_73 : decode cX3_orderNeighbours 73 = .ok (.goto (-65), 3) := by decide +kernel
theorem dX3_orderNeighbours_76 : decode cX3_orderNeighbours 76 = .ok (.iload 4, 2) := by decide +kernel
theorem dX3_orderNeighbours_78 : decode cX3_orderNeighbours 78 = .ok (.ireturn, 1) := by decide +kernel
theorem dX3_insert_0 : decode cX3_insert 0 = .ok (.iload_n 2, 1) := by decide +kernel
theorem dX3_insert_1 : decode cX3_insert 1 = .ok (.istore_n 3, 1) := by decide +kernel
theorem dX3_insert_2 : decode cX3_insert 2 = .ok (.iload_n 3, 1) := by decide +kernel
theorem dX3_insert_3 : decode cX3_insert 3 = .ok (.ifCond .le 35, 3) := by decide +kernel
theorem dX3_insert_6 : decode cX3_insert 6 = .ok (.aload_n 0, 1) := by decide +kernel
theorem dX3_insert_7 : decode cX3_insert 7 = .ok (.getfield 17, 3) := by decide +kernel
theorem dX3_insert_10 : decode cX3_insert 10 = .ok (.iload_n 3, 1) := by decide +kernel
theorem dX3_insert_11 : decode cX3_insert 11 = .ok (.iconst 1, 1) := by decide +kernel
theorem dX3_insert_12 : decode cX3_insert 12 = .ok (.isub, 1) := by decide +kernel
theorem dX3_insert_13 : decode cX3_insert 13 = .ok (.iaload, 1) := by decide +kernel
theorem dX3_insert_14 : decode cX3_insert 14 = .ok (.iload_n 1, 1) := by decide +kernel
theorem dX3_insert_15 : decode cX3_insert 15 = .ok (.if_icmp .le 23, 3) := by decide +kernel
theorem dX3_insert_18 : decode cX3_insert 18 = .ok (.aload_n 0, 1) := by decide +kernel
theorem dX3_insert_19 : decode cX3_insert 19 = .ok (.getfield 17, 3) := by decide +kernel
theorem dX3_insert_22 : decode cX3_insert 22 = .ok (.iload_n 3, 1) := by decide +kernel
theorem dX3_insert_23 : decode cX3_insert 23 = .ok (.aload_n 0, 1) := by decide +kernel
theorem dX3_insert_24 : decode cX3_insert 24 = .ok (.getfield 17, 3) := by decide +kernel
theorem dX3_insert_27 : decode cX3_insert 27 = .ok (.iload_n 3, 1) := by decide +kernel
theorem dX3_insert_28 : decode cX3_insert 28 = .ok (.iconst 1, 1) := by decide +kernel
theorem dX3_insert_29 : decode cX3_insert 29 = .ok (.isub, 1) := by decide +kernel
theorem dX3_insert_30 : decode cX3_insert 30 = .ok (.iaload, 1) := by decide +kernel
theorem dX3_insert_31 : decode cX3_insert 31 = .ok (.iastore, 1) := by decide +kernel
theorem dX3_insert_32 : decode cX3_insert 32 = .ok (.iinc 3 (-1), 3) := by decide +kernel
theorem dX3_insert_35 : decode cX3_insert 35 = .ok (.goto (-33), 3) := by decide +kernel
theorem dX3_insert_38 : decode cX3_insert 38 = .ok (.aload_n 0, 1) := by decide +kernel
theorem dX3_insert_39 : decode cX3_insert 39 = .ok (.getfield 17, 3) := by decide +kernel
theorem dX3_insert_42 : decode cX3_insert 42 = .ok (.iload_n 3, 1) := by decide +kernel
theorem dX3_insert_43 : decode cX3_insert 43 = .ok (.iload_n 1, 1) := by decide +kernel
theorem dX3_insert_44 : decode cX3_insert 44 = .ok (.iastore, 1) := by decide +kernel
theorem dX3_insert_45 : decode cX3_insert 45 = .ok (.return_, 1) := by decide +kernel
set_option maxRecDepth 20000 in
theorem ggX4_leastSided_X4_peakOf : GoodIn wsX4_leastSided wsX4_peakOf := goodIn_r _ [4, 5, 6, 7, 8, 9, 10, 3, 11, 12, 13, 14, 15, 16, 17, 18] (by decide +kernel) (by decide +kernel)
set_option maxRecDepth 20000 in
theorem gX4_leastSided_X4_peakOf : GoodIn wsX4_leastSided (va_wsS RX4 7 yX4_peakOf wsX4_peakOf) := goodIn_app (goodIn_of _ (by decide +kernel)) ggX4_leastSided_X4_peakOf
set_option maxRecDepth 20000 in
theorem ggX4_leastSided_X4_flankOf : GoodIn wsX4_leastSided wsX4_flankOf := goodIn_r _ [21, 9, 10, 3, 11, 12, 13, 14, 15, 16, 17, 18] (by decide +kernel) (by decide +kernel)
set_option maxRecDepth 20000 in
theorem gX4_leastSided_X4_flankOf : GoodIn wsX4_leastSided (va_wsS RX4 13 yX4_flankOf wsX4_flankOf) := goodIn_app (goodIn_of _ (by decide +kernel)) ggX4_leastSided_X4_flankOf
theorem dX4_leastSided_0 : decode cX4_leastSided 0 = .ok (.iconst 0, 1) := by decide +kernel
theorem dX4_leastSided_1 : decode cX4_leastSided 1 = .ok (.istore_n 1, 1) := by decide +kernel
theorem dX4_leastSided_2 : decode cX4_leastSided 2 = .ok (.iconst 0, 1) := by decide +kernel
theorem dX4_leastSided_3 : decode cX4_leastSided 3 = .ok (.iload_n 0, 1) := by decide +kernel
theorem dX4_leastSided_4 : decode cX4_leastSided 4 = .ok (.iload_n 0, 1) := by decide +kernel
theorem dX4_leastSided_5 : decode cX4_leastSided 5 = .ok (.iload_n 0, 1) := by decide +kernel
theorem dX4_leastSided_6 : decode cX4_leastSided 6 = .ok (.imul, 1) := by decide +kernel
theorem dX4_leastSided_7 : decode cX4_leastSided 7 = .ok (.invokestatic 7, 3) := by decide +kernel
theorem dX4_leastSided_10 : decode cX4_leastSided 10 = .ok (.istore_n 2, 1) := by decide +kernel
theorem dX4_leastSided_11 : decode cX4_leastSided 11 = .ok (.iconst 0, 1) := by decide +kernel
theorem dX4_leastSided_12 : decode cX4_leastSided 12 = .ok (.iload_n 0, 1) := by decide +kernel
theorem dX4_leastSided_13 : decode cX4_leastSided 13 = .ok (.invokestatic 13, 3) := by decide +kernel
theorem dX4_leastSided_16 : decode cX4_leastSided 16 = .ok (.istore_n 3, 1) := by decide +kernel
theorem dX4_leastSided_17 : decode cX4_leastSided 17 = .ok (.iconst 1, 1) := by decide +kernel
theorem dX4_leastSided_18 : decode cX4_leastSided 18 = .ok (.iload_n 0, 1) := by decide +kernel
theorem dX4_leastSided_19 : decode cX4_leastSided 19 = .ok (.iconst 1, 1) := by decide +kernel
theorem dX4_leastSided_20 : decode cX4_leastSided 20 = .ok (.isub, 1) := by decide +kernel
theorem dX4_leastSided_21 : decode cX4_leastSided 21 = .ok (.ishl, 1) := by decide +kernel
theorem dX4_leastSided_22 : decode cX4_leastSided 22 = .ok (.istore 4, 2) := by decide +kernel
theorem dX4_leastSided_24 : decode cX4_leastSided 24 = .ok (.iconst 1, 1) := by decide +kernel
theorem dX4_leastSided_25 : decode cX4_leastSided 25 = .ok (.istore 5, 2) := by decide +kernel
theorem dX4_leastSided_27 : decode cX4_leastSided 27 = .ok (.iload 5, 2) := by decide +kernel
theorem dX4_leastSided_29 : decode cX4_leastSided 29 = .ok (.iload 4, 2) := by decide +kernel
theorem dX4_leastSided_31 : decode cX4_leastSided 31 = .ok (.if_icmp .ge 56, 3) := by decide +kernel
theorem dX4_leastSided_34 : decode cX4_leastSided 34 = .ok (.iload 5, 2) := by decide +kernel
theorem dX4_leastSided_36 : decode cX4_leastSided 36 = .ok (.iload_n 0, 1) := by decide +kernel
theorem dX4_leastSided_37 : decode cX4_leastSided 37 = .ok (.iload_n 2, 1) := by decide +kernel
theorem dX4_leastSided_38 : decode cX4_leastSided 38 = .ok (.invokestatic 7, 3) := by decide +kernel
theorem dX4_leastSided_41 : decode cX4_leastSided 41 = .ok (.istore 6, 2) := by decide +kernel
theorem dX4_leastSided_43 : decode cX4_leastSided 43 = .ok (.iload 6, 2) := by decide +kernel
theorem dX4_leastSided_45 : decode cX4_leastSided 45 = .ok (.iload_n 2, 1) := by decide +kernel
theorem dX4_leastSided_46 : decode cX4_leastSided 46 = .ok (.if_icmp .le 6, 3) := by decide +kernel
theorem dX4_leastSided_49 : decode cX4_leastSided 49 = .ok (.goto 32, 3) := by decide +kernel
theorem dX4_leastSided_52 : decode cX4_leastSided 52 = .ok (.iload 5, 2) := by decide +kernel
theorem dX4_leastSided_54 : decode cX4_leastSided 54 = .ok (.iload_n 0, 1) := by decide +kernel
theorem dX4_leastSided_55 : decode cX4_leastSided 55 = .ok (.invokestatic 13, 3) := by decide +kernel
theorem dX4_leastSided_58 : decode cX4_leastSided 58 = .ok (.istore 7, 2) := by decide +kernel
theorem dX4_leastSided_60 : decode cX4_leastSided 60 = .ok (.iload 6, 2) := by decide +kernel
theorem dX4_leastSided_62 : decode cX4_leastSided 62 = .ok (.iload_n 2, 1) := by decide +kernel
theorem dX4_leastSided_63 : decode cX4_leastSided 63 = .ok (.if_icmp .lt 9, 3) := by decide +kernel
theorem dX4_leastSided_66 : decode cX4_leastSided 66 = .ok (.iload 7, 2) := by decide +kernel
theorem dX4_leastSided_68 : decode cX4_leastSided 68 = .ok (.iload_n 3, 1) := by decide +kernel
theorem dX4_leastSided_69 : decode cX4_leastSided 69 = .ok (.if_icmp .ge 12, 3) := by decide +kernel
theorem dX4_leastSided_72 : decode cX4_leastSided 72 = .ok (.iload 5, 2) := by decide +kernel
theorem dX4_leastSided_74 : decode cX4_leastSided 74 = .ok (.istore_n 1, 1) := by decide +kernel
theorem dX4_leastSided_75 : decode cX4_leastSided 75 = .ok (.iload 6, 2) := by decide +kernel
theorem dX4_leastSided_77 : decode cX4_leastSided 77 = .ok (.istore_n 2, 1) := by decide +kernel
theorem dX4_leastSided_78 : decode cX4_leastSided 78 = .ok (.iload 7, 2) := by decide +kernel
theorem dX4_leastSided_80 : decode cX4_leastSided 80 = .ok (.istore_n 3, 1) := by decide +kernel
theorem dX4_leastSided_81 : decode cX4_leastSided 81 = .ok (.iinc 5 1, 3) := by decide +kernel
theorem dX4_leastSided_84 : decode cX4_leastSided 84 = .ok (.goto (-57), 3) := by decide +kernel
theorem dX4_leastSided_87 : decode cX4_leastSided 87 = .ok (.iload_n 1, 1) := by decide +kernel
theorem dX4_leastSided_88 : decode cX4_leastSided 88 = .ok (.ireturn, 1) := by decide +kernel
set_option maxRecDepth 20000 in
theorem ggX4_peakOf_X4_side : GoodIn wsX4_peakOf wsX4_side := goodIn_r _ [8, 9, 10, 11, 12, 13, 14, 15] (by decide +kernel) (by decide +kernel)
set_option maxRecDepth 20000 in
theorem gX4_peakOf_X4_side : GoodIn wsX4_peakOf (va_wsS RX4 17 yX4_side wsX4_side) := goodIn_app (goodIn_of _ (by decide +kernel)) ggX4_peakOf_X4_side
theorem dX4_peakOf_0 : decode cX4_peakOf 0 = .ok (.iconst 0, 1) := by decide +kernel
theorem dX4_peakOf_1 : decode cX4_peakOf 1 = .ok (.istore_n 3, 1) := by decide +kernel
theorem dX4_peakOf_2 : decode cX4_peakOf 2 = .ok (.iconst 1, 1) := by decide +kernel
theorem dX4_peakOf_3 : decode cX4_peakOf 3 = .ok (.istore 4, 2) := by decide +kernel
theorem dX4_peakOf_5 : decode cX4_peakOf 5 = .ok (.iload 4, 2) := by decide +kernel
theorem dX4_peakOf_7 : decode cX4_peakOf 7 = .ok (.iload_n 1, 1) := by decide +kernel
theorem dX4_peakOf_8 : decode cX4_peakOf 8 = .ok (.if_icmp .ge 26, 3) := by decide +kernel
theorem dX4_peakOf_11 : decode cX4_peakOf 11 = .ok (.iload_n 3, 1) := by decide +kernel
theorem dX4_peakOf_12 : decode cX4_peakOf 12 = .ok (.iload_n 2, 1) := by decide +kernel
theorem dX4_peakOf_13 : decode cX4_peakOf 13 = .ok (.if_icmp .gt 21, 3) := by decide +kernel
theorem dX4_peakOf_16 : decode cX4_peakOf 16 = .ok (.iload_n 3, 1) := by decide +kernel
theorem dX4_peakOf_17 : decode cX4_peakOf 17 = .ok (.iload_n 0, 1) := by decide +kernel
theorem dX4_peakOf_18 : decode cX4_peakOf 18 = .ok (.iload_n 1, 1) := by decide +kernel
theorem dX4_peakOf_19 : decode cX4_peakOf 19 = .ok (.iload 4, 2) := by decide +kernel
theorem dX4_peakOf_21 : decode cX4_peakOf 21 = .ok (.invokestatic 17, 3) := by decide +kernel
theorem dX4_peakOf_24 : decode cX4_peakOf 24 = .ok (.invokestatic 20, 3) := by decide +kernel
theorem dX4_peakOf_27 : decode cX4_peakOf 27 = .ok (.istore_n 3, 1) := by decide +kernel
theorem dX4_peakOf_28 : decode cX4_peakOf 28 = .ok (.iinc 4 1, 3) := by decide +kernel
theorem dX4_peakOf_31 : decode cX4_peakOf 31 = .ok (.goto (-26), 3) := by decide +kernel
theorem dX4_peakOf_34 : decode cX4_peakOf 34 = .ok (.iload_n 3, 1) := by decide +kernel
theorem dX4_peakOf_35 : decode cX4_peakOf 35 = .ok (.ireturn, 1) := by decide +kernel
set_option maxRecDepth 20000 in
theorem ggX4_flankOf_X4_side : GoodIn wsX4_flankOf wsX4_side := goodIn_r _ [4, 5, 6, 7, 8, 9, 10, 11] (by decide +kernel) (by decide +kernel)
set_option maxRecDepth 20000 in
theorem gX4_flankOf_X4_side : GoodIn wsX4_flankOf (va_wsS RX4 17 yX4_side wsX4_side) := goodIn_app (goodIn_of _ (by decide +kernel)) ggX4_flankOf_X4_side
theorem dX4_flankOf_0 : decode cX4_flankOf 0 = .ok (.iconst 0, 1) := by decide +kernel
theorem dX4_flankOf_1 : decode cX4_flankOf 1 = .ok (.istore_n 2, 1) := by decide +kernel
theorem dX4_flankOf_2 : decode cX4_flankOf 2 = .ok (.iconst 1, 1) := by decide +kernel
theorem dX4_flankOf_3 : decode cX4_flankOf 3 = .ok (.istore_n 3, 1) := by decide +kernel
theorem dX4_flankOf_4 : decode cX4_flankOf 4 = .ok (.iload_n 3, 1) := by decide +kernel
theorem dX4_flankOf_5 : decode cX4_flankOf 5 = .ok (.iload_n 1, 1) := by decide +kernel
theorem dX4_flankOf_6 : decode cX4_flankOf 6 = .ok (.if_icmp .ge 18, 3) := by decide +kernel
theorem dX4_flankOf_9 : decode cX4_flankOf 9 = .ok (.iload_n 2, 1) := by decide +kernel
theorem dX4_flankOf_10 : decode cX4_flankOf 10 = .ok (.iload_n 0, 1) := by decide +kernel
theorem dX4_flankOf_11 : decode cX4_flankOf 11 = .ok (.iload_n 1, 1) := by decide +kernel
theorem dX4_flankOf_12 : decode cX4_flankOf 12 = .ok (.iload_n 3, 1) := by decide +kernel
theorem dX4_flankOf_13 : decode cX4_flankOf 13 = .ok (.invokestatic 17, 3) := by decide +kernel
theorem dX4_flankOf_16 : decode cX4_flankOf 16 = .ok (.iadd, 1) := by decide +kernel
theorem dX4_flankOf_17 : decode cX4_flankOf 17 = .ok (.istore_n 2, 1) := by decide +kernel
theorem dX4_flankOf_18 : decode cX4_flankOf 18 = .ok (.iinc 3 1, 3) := by decide +kernel
theorem dX4_flankOf_21 : decode cX4_flankOf 21 = .ok (.goto (-17), 3) := by decide +kernel
theorem dX4_flankOf_24 : decode cX4_flankOf 24 = .ok (.iload_n 2, 1) := by decide +kernel
theorem dX4_flankOf_25 : decode cX4_flankOf 25 = .ok (.ireturn, 1) := by decide +kernel
set_option maxRecDepth 20000 in
theorem ggX4_side_J6_bitCount_0f7a4 : GoodIn wsX4_side wsJ6_bitCount_0f7a4 := goodIn_r _ [4, 5, 6, 7] (by decide +kernel) (by decide +kernel)
set_option maxRecDepth 20000 in
theorem gX4_side_J6_bitCount_0f7a4 : GoodIn wsX4_side (va_wsS RX4 25 yJ6_bitCount_0f7a4 wsJ6_bitCount_0f7a4) := goodIn_app (goodIn_of _ (by decide +kernel)) ggX4_side_J6_bitCount_0f7a4
theorem dX4_side_0 : decode cX4_side 0 = .ok (.iload_n 1, 1) := by decide +kernel
theorem dX4_side_1 : decode cX4_side 1 = .ok (.iload_n 2, 1) := by decide +kernel
theorem dX4_side_2 : decode cX4_side 2 = .ok (.isub, 1) := by decide +kernel
theorem dX4_side_3 : decode cX4_side 3 = .ok (.istore_n 3, 1) := by decide +kernel
theorem dX4_side_4 : decode cX4_side 4 = .ok (.iload_n 0, 1) := by decide +kernel
theorem dX4_side_5 : decode cX4_side 5 = .ok (.iload_n 0, 1) := by decide +kernel
theorem dX4_side_6 : decode cX4_side 6 = .ok (.iload_n 2, 1) := by decide +kernel
theorem dX4_side_7 : decode cX4_side 7 = .ok (.ishr, 1) := by decide +kernel
theorem dX4_side_8 : decode cX4_side 8 = .ok (.ixor, 1) := by decide +kernel
theorem dX4_side_9 : decode cX4_side 9 = .ok (.iconst 1, 1) := by decide +kernel
theorem dX4_side_10 : decode cX4_side 10 = .ok (.iload_n 3, 1) := by decide +kernel
theorem dX4_side_11 : decode cX4_side 11 = .ok (.ishl, 1) := by decide +kernel
theorem dX4_side_12 : decode cX4_side 12 = .ok (.iconst 1, 1) := by decide +kernel
theorem dX4_side_13 : decode cX4_side 13 = .ok (.isub, 1) := by decide +kernel
theorem dX4_side_14 : decode cX4_side 14 = .ok (.iand, 1) := by decide +kernel
theorem dX4_side_15 : decode cX4_side 15 = .ok (.invokestatic 25, 3) := by decide +kernel
theorem dX4_side_18 : decode cX4_side 18 = .ok (.istore 4, 2) := by decide +kernel
theorem dX4_side_20 : decode cX4_side 20 = .ok (.iload_n 3, 1) := by decide +kernel
theorem dX4_side_21 : decode cX4_side 21 = .ok (.iconst 2, 1) := by decide +kernel
theorem dX4_side_22 : decode cX4_side 22 = .ok (.iload 4, 2) := by decide +kernel
theorem dX4_side_24 : decode cX4_side 24 = .ok (.imul, 1) := by decide +kernel
theorem dX4_side_25 : decode cX4_side 25 = .ok (.isub, 1) := by decide +kernel
theorem dX4_side_26 : decode cX4_side 26 = .ok (.istore 5, 2) := by decide +kernel
theorem dX4_side_28 : decode cX4_side 28 = .ok (.iload 5, 2) := by decide +kernel
theorem dX4_side_30 : decode cX4_side 30 = .ok (.iload 5, 2) := by decide +kernel
theorem dX4_side_32 : decode cX4_side 32 = .ok (.imul, 1) := by decide +kernel
theorem dX4_side_33 : decode cX4_side 33 = .ok (.ireturn, 1) := by decide +kernel
theorem dX5_init_0 : decode cX5_init 0 = .ok (.aload_n 0, 1) := by decide +kernel
theorem dX5_init_1 : decode cX5_init 1 = .ok (.invokespecial 1, 3) := by decide +kernel
theorem dX5_init_4 : decode cX5_init 4 = .ok (.aload_n 0, 1) := by decide +kernel
theorem dX5_init_5 : decode cX5_init 5 = .ok (.bipush 16, 2) := by decide +kernel
theorem dX5_init_7 : decode cX5_init 7 = .ok (.newarray .int, 2) := by decide +kernel
theorem dX5_init_9 : decode cX5_init 9 = .ok (.putfield 9, 3) := by decide +kernel
theorem dX5_init_12 : decode cX5_init 12 = .ok (.aload_n 0, 1) := by decide +kernel
theorem dX5_init_13 : decode cX5_init 13 = .ok (.iconst 1, 1) := by decide +kernel
theorem dX5_init_14 : decode cX5_init 14 = .ok (.putfield 13, 3) := by decide +kernel
theorem dX5_init_17 : decode cX5_init 17 = .ok (.return_, 1) := by decide +kernel
set_option maxRecDepth 20000 in
theorem ggX5_has_X6_within : GoodIn wsX5_has wsX6_within := goodIn_r _ [4] (by decide +kernel) (by decide +kernel)
set_option maxRecDepth 20000 in
theorem gX5_has_X6_within_n17 : GoodIn wsX5_has (wsX6_within) := ggX5_has_X6_within
theorem dX5_has_0 : decode cX5_has 0 = .ok (.iload_n 1, 1) := by decide +kernel
theorem dX5_has_1 : decode cX5_has 1 = .ok (.iconst 0, 1) := by decide +kernel
theorem dX5_has_2 : decode cX5_has 2 = .ok (.aload_n 0, 1) := by decide +kernel
theorem dX5_has_3 : decode cX5_has 3 = .ok (.getfield 13, 3) := by decide +kernel
theorem dX5_has_6 : decode cX5_has 6 = .ok (.iconst 1, 1) := by decide +kernel
theorem dX5_has_7 : decode cX5_has 7 = .ok (.isub, 1) := by decide +kernel
theorem dX5_has_8 : decode cX5_has 8 = .ok (.invokestatic 17, 3) := by decide +kernel
theorem dX5_has_11 : decode cX5_has 11 = .ok (.ireturn, 1) := by decide +kernel
theorem dX5_reset_0 : decode cX5_reset 0 = .ok (.aload_n 0, 1) := by decide +kernel
theorem dX5_reset_1 : decode cX5_reset 1 = .ok (.iload_n 1, 1) := by decide +kernel
theorem dX5_reset_2 : decode cX5_reset 2 = .ok (.putfield 13, 3) := by decide +kernel
theorem dX5_reset_5 : decode cX5_reset 5 = .ok (.iconst 0, 1) := by decide +kernel
theorem dX5_reset_6 : decode cX5_reset 6 = .ok (.istore_n 2, 1) := by decide +kernel
theorem dX5_reset_7 : decode cX5_reset 7 = .ok (.iload_n 2, 1) := by decide +kernel
theorem dX5_reset_8 : decode cX5_reset 8 = .ok (.iload_n 1, 1) := by decide +kernel
theorem dX5_reset_9 : decode cX5_reset 9 = .ok (.if_icmp .ge 16, 3) := by decide +kernel
theorem dX5_reset_12 : decode cX5_reset 12 = .ok (.aload_n 0, 1) := by decide +kernel
theorem dX5_reset_13 : decode cX5_reset 13 = .ok (.getfield 9, 3) := by decide +kernel
theorem dX5_reset_16 : decode cX5_reset 16 = .ok (.iload_n 2, 1) := by decide +kernel
theorem dX5_reset_17 : decode cX5_reset 17 = .ok (.iconst 0, 1) := by decide +kernel
theorem dX5_reset_18 : decode cX5_reset 18 = .ok (.iastore, 1) := by decide +kernel
theorem dX5_reset_19 : decode cX5_reset 19 = .ok (.iinc 2 1, 3) := by decide +kernel
theorem dX5_reset_22 : decode cX5_reset 22 = .ok (.goto (-15), 3) := by decide +kernel
theorem dX5_reset_25 : decode cX5_reset 25 = .ok (.return_, 1) := by decide +kernel
theorem dX5_copy_0 : decode cX5_copy 0 = .ok (.aload_n 0, 1) := by decide +kernel
theorem dX5_copy_1 : decode cX5_copy 1 = .ok (.aload_n 1, 1) := by decide +kernel
theorem dX5_copy_2 : decode cX5_copy 2 = .ok (.getfield 13, 3) := by decide +kernel
theorem dX5_copy_5 : decode cX5_copy 5 = .ok (.putfield 13, 3) := by decide +kernel
theorem dX5_copy_8 : decode cX5_copy 8 = .ok (.iconst 0, 1) := by decide +kernel
theorem dX5_copy_9 : decode cX5_copy 9 = .ok (.istore_n 2, 1) := by decide +kernel
theorem dX5_copy_10 : decode cX5_copy 10 = .ok (.iload_n 2, 1) := by decide +kernel
theorem dX5_copy_11 : decode cX5_copy 11 = .ok (.aload_n 1, 1) := by decide +kernel
theorem dX5_copy_12 : decode cX5_copy 12 = .ok (.getfield 13, 3) := by decide +kernel
theorem dX5_copy_15 : decode cX5_copy 15 = .ok (.if_icmp .ge 21, 3) := by decide +kernel
theorem dX5_copy_18 : decode cX5_copy 18 = .ok (.aload_n 0, 1) := by decide +kernel
theorem dX5_copy_19 : decode cX5_copy 19 = .ok (.getfield 9, 3) := by decide +kernel
theorem dX5_copy_22 : decode cX5_copy 22 = .ok (.iload_n 2, 1) := by decide +kernel
theorem dX5_copy_23 : decode cX5_copy 23 = .ok (.aload_n 1, 1) := by decide +kernel
theorem dX5_copy_24 : decode cX5_copy 24 = .ok (.getfield 9, 3) := by decide +kernel
theorem dX5_copy_27 : decode cX5_copy 27 = .ok (.iload_n 2, 1) := by decide +kernel
theorem dX5_copy_28 : decode cX5_copy 28 = .ok (.iaload, 1) := by decide +kernel
theorem dX5_copy_29 : decode cX5_copy 29 = .ok (.iastore, 1) := by decide +kernel
theorem dX5_copy_30 : decode cX5_copy 30 = .ok (.iinc 2 1, 3) := by decide +kernel
theorem dX5_copy_33 : decode cX5_copy 33 = .ok (.goto (-23), 3) := by decide +kernel
theorem dX5_copy_36 : decode cX5_copy 36 = .ok (.return_, 1) := by decide +kernel
theorem dX5_reverse_0 : decode cX5_reverse 0 = .ok (.iconst 0, 1) := by decide +kernel
theorem dX5_reverse_1 : decode cX5_reverse 1 = .ok (.istore_n 1, 1) := by decide +kernel
theorem dX5_reverse_2 : decode cX5_reverse 2 = .ok (.iload_n 1, 1) := by decide +kernel
theorem dX5_reverse_3 : decode cX5_reverse 3 = .ok (.aload_n 0, 1) := by decide +kernel
theorem dX5_reverse_4 : decode cX5_reverse 4 = .ok (.getfield 13, 3) := by decide +kernel
theorem dX5_reverse_7 : decode cX5_reverse 7 = .ok (.iconst 2, 1) := by decide +kernel
theorem dX5_reverse_8 : decode cX5_reverse 8 = .ok (.idiv, 1) := by decide +kernel
theorem dX5_reverse_9 : decode cX5_reverse 9 = .ok (.if_icmp .ge 49, 3) := by decide +kernel
theorem dX5_reverse_12 : decode cX5_reverse 12 = .ok (.aload_n 0, 1) := by decide +kernel
theorem dX5_reverse_13 : decode cX5_reverse 13 = .ok (.getfield 9, 3) := by decide +kernel
theorem dX5_reverse_16 : decode cX5_reverse 16 = .ok (.iload_n 1, 1) := by decide +kernel
theorem dX5_reverse_17 : decode cX5_reverse 17 = .ok (.iaload, 1) := by decide +kernel
theorem dX5_reverse_18 : decode cX5_reverse 18 = .ok (.istore_n 2, 1) := by decide +kernel
theorem dX5_reverse_19 : decode cX5_reverse 19 = .ok (.aload_n 0, 1) := by decide +kernel
theorem dX5_reverse_20 : decode cX5_reverse 20 = .ok (.getfield 9, 3) := by decide +kernel
theorem dX5_reverse_23 : decode cX5_reverse 23 = .ok (.iload_n 1, 1) := by decide +kernel
theorem dX5_reverse_24 : decode cX5_reverse 24 = .ok (.aload_n 0, 1) := by decide +kernel
theorem dX5_reverse_25 : decode cX5_reverse 25 = .ok (.getfield 9, 3) := by decide +kernel
theorem dX5_reverse_28 : decode cX5_reverse 28 = .ok (.aload_n 0, 1) := by decide +kernel
theorem dX5_reverse_29 : decode cX5_reverse 29 = .ok (.getfield 13, 3) := by decide +kernel
theorem dX5_reverse_32 : decode cX5_reverse 32 = .ok (.iconst 1, 1) := by decide +kernel
theorem dX5_reverse_33 : decode cX5_reverse 33 = .ok (.isub, 1) := by decide +kernel
theorem dX5_reverse_34 : decode cX5_reverse 34 = .ok (.iload_n 1, 1) := by decide +kernel
theorem dX5_reverse_35 : decode cX5_reverse 35 = .ok (.isub, 1) := by decide +kernel
theorem dX5_reverse_36 : decode cX5_reverse 36 = .ok (.iaload, 1) := by decide +kernel
theorem dX5_reverse_37 : decode cX5_reverse 37 = .ok (.iastore, 1) := by decide +kernel
theorem dX5_reverse_38 : decode cX5_reverse 38 = .ok (.aload_n 0, 1) := by decide +kernel
theorem dX5_reverse_39 : decode cX5_reverse 39 = .ok (.getfield 9, 3) := by decide +kernel
theorem dX5_reverse_42 : decode cX5_reverse 42 = .ok (.aload_n 0, 1) := by decide +kernel
theorem dX5_reverse_43 : decode cX5_reverse 43 = .ok (.getfield 13, 3) := by decide +kernel
theorem dX5_reverse_46 : decode cX5_reverse 46 = .ok (.iconst 1, 1) := by decide +kernel
theorem dX5_reverse_47 : decode cX5_reverse 47 = .ok (.isub, 1) := by decide +kernel
theorem dX5_reverse_48 : decode cX5_reverse 48 = .ok (.iload_n 1, 1) := by decide +kernel
theorem dX5_reverse_49 : decode cX5_reverse 49 = .ok (.isub, 1) := by decide +kernel
theorem dX5_reverse_50 : decode cX5_reverse 50 = .ok (.iload_n 2, 1) := by decide +kernel
theorem dX5_reverse_51 : decode cX5_reverse 51 = .ok (.iastore, 1) := by decide +kernel
theorem dX5_reverse_52 : decode cX5_reverse 52 = .ok (.iinc 1 1, 3) := by decide +kernel
theorem dX5_reverse_55 : decode cX5_reverse 55 = .ok (.goto (-53), 3) := by decide +kernel
theorem dX5_reverse_58 : decode cX5_reverse 58 = .ok (.return_, 1) := by decide +kernel
theorem dX5_mirror_0 : decode cX5_mirror 0 = .ok (.iconst 0, 1) := by decide +kernel
theorem dX5_mirror_1 : decode cX5_mirror 1 = .ok (.istore_n 1, 1) := by decide +kernel
theorem dX5_mirror_2 : decode cX5_mirror 2 = .ok (.iload_n 1, 1) := by decide +kernel
theorem dX5_mirror_3 : decode cX5_mirror 3 = .ok (.aload_n 0, 1) := by decide +kernel
theorem dX5_mirror_4 : decode cX5_mirror 4 = .ok (.getfield 13, 3) := by decide +kernel
theorem dX5_mirror_7 : decode cX5_mirror 7 = .ok (.if_icmp .ge 24, 3) := by decide +kernel
theorem dX5_mirror_10 : decode cX5_mirror 10 = .ok (.aload_n 0, 1) := by decide +kernel
theorem dX5_mirror_11 : decode cX5_mirror 11 = .ok (.getfield 9, 3) := by decide +kernel
theorem dX5_mirror_14 : decode cX5_mirror 14 = .ok (.iload_n 1, 1) := by decide +kernel
theorem dX5_mirror_15 : decode cX5_mirror 15 = .ok (.aload_n 0, 1) := by decide +kernel
theorem dX5_mirror_16 : decode cX5_mirror 16 = .ok (.getfield 9, 3) := by decide +kernel
theorem dX5_mirror_19 : decode cX5_mirror 19 = .ok (.iload_n 1, 1) := by decide +kernel
theorem dX5_mirror_20 : decode cX5_mirror 20 = .ok (.iaload, 1) := by decide +kernel
theorem dX5_mirror_21 : decode cX5_mirror 21 = .ok (.ineg, 1) := by decide +kernel
theorem dX5_mirror_22 : decode cX5_mirror 22 = .ok (.iconst 3, 1) := by decide +kernel
theorem dX5_mirror_23 : decode cX5_mirror 23 = .ok (.iand, 1) := by decide +kernel
theorem dX5_mirror_24 : decode cX5_mirror 24 = .ok (.iastore, 1) := by decide +kernel
theorem dX5_mirror_25 : decode cX5_mirror 25 = .ok (.iinc 1 1, 3) := by decide +kernel
theorem dX5_mirror_28 : decode cX5_mirror 28 = .ok (.goto (-26), 3) := by decide +kernel
theorem dX5_mirror_31 : decode cX5_mirror 31 = .ok (.return_, 1) := by decide +kernel
theorem dX5_advance_0 : decode cX5_advance 0 = .ok (.iconst 0, 1) := by decide +kernel
theorem dX5_advance_1 : decode cX5_advance 1 = .ok (.istore_n 1, 1) := by decide +kernel
theorem dX5_advance_2 : decode cX5_advance 2 = .ok (.iload_n 1, 1) := by decide +kernel
theorem dX5_advance_3 : decode cX5_advance 3 = .ok (.aload_n 0, 1) := by decide +kernel
theorem dX5_advance_4 : decode cX5_advance 4 = .ok (.getfield 13, 3) := by decide +kernel
theorem dX5_advance_7 : decode cX5_advance 7 = .ok (.if_icmp .ge 25, 3) := by decide +kernel
theorem dX5_advance_10 : decode cX5_advance 10 = .ok (.aload_n 0, 1) := by decide +kernel
theorem dX5_advance_11 : decode cX5_advance 11 = .ok (.getfield 9, 3) := by decide +kernel
theorem dX5_advance_14 : decode cX5_advance 14 = .ok (.iload_n 1, 1) := by decide +kernel
theorem dX5_advance_15 : decode cX5_advance 15 = .ok (.aload_n 0, 1) := by decide +kernel
theorem dX5_advance_16 : decode cX5_advance 16 = .ok (.getfield 9, 3) := by decide +kernel
theorem dX5_advance_19 : decode cX5_advance 19 = .ok (.iload_n 1, 1) := by decide +kernel
theorem dX5_advance_20 : decode cX5_advance 20 = .ok (.iaload, 1) := by decide +kernel
theorem dX5_advance_21 : decode cX5_advance 21 = .ok (.iconst 1, 1) := by decide +kernel
theorem dX5_advance_22 : decode cX5_advance 22 = .ok (.iadd, 1) := by decide +kernel
theorem dX5_advance_23 : decode cX5_advance 23 = .ok (.iconst 3, 1) := by decide +kernel
theorem dX5_advance_24 : decode cX5_advance 24 = .ok (.iand, 1) := by decide +kernel
theorem dX5_advance_25 : decode cX5_advance 25 = .ok (.iastore, 1) := by decide +kernel
theorem dX5_advance_26 : decode cX5_advance 26 = .ok (.iinc 1 1, 3) := by decide +kernel
theorem dX5_advance_29 : decode cX5_advance 29 = .ok (.goto (-27), 3) := by decide +kernel
theorem dX5_advance_32 : decode cX5_advance 32 = .ok (.return_, 1) := by decide +kernel
theorem dX5_takeBits_0 : decode cX5_takeBits 0 = .ok (.aload_n 0, 1) := by decide +kernel
theorem dX5_takeBits_1 : decode cX5_takeBits 1 = .ok (.iload_n 2, 1) := by decide +kernel
theorem dX5_takeBits_2 : decode cX5_takeBits 2 = .ok (.putfield 13, 3) := by decide +kernel
theorem dX5_takeBits_5 : decode cX5_takeBits 5 = .ok (.iconst 0, 1) := by decide +kernel
theorem dX5_takeBits_6 : decode cX5_takeBits 6 = .ok (.istore_n 3, 1) := by decide +kernel
theorem dX5_takeBits_7 : decode cX5_takeBits 7 = .ok (.iload_n 3, 1) := by decide +kernel
theorem dX5_takeBits_8 : decode cX5_takeBits 8 = .ok (.iload_n 2, 1) := by decide +kernel
theorem dX5_takeBits_9 : decode cX5_takeBits 9 = .ok (.if_icmp .ge 26, 3) := by decide +kernel
theorem dX5_takeBits_12 : decode cX5_takeBits 12 = .ok (.aload_n 0, 1) := by decide +kernel
theorem dX5_takeBits_13 : decode cX5_takeBits 13 = .ok (.getfield 9, 3) := by decide +kernel
theorem dX5_takeBits_16 : decode cX5_takeBits 16 = .ok (.iload_n 3, 1) := by decide +kernel
theorem dX5_takeBits_17 : decode cX5_takeBits 17 = .ok (.iload_n 1, 1) := by decide +kernel
theorem dX5_takeBits_18 : decode cX5_takeBits 18 = .ok (.iload_n 2, 1) := by decide +kernel
theorem dX5_takeBits_19 : decode cX5_takeBits 19 = .ok (.iconst 1, 1) := by decide +kernel
theorem dX5_takeBits_20 : decode cX5_takeBits 20 = .ok (.isub, 1) := by decide +kernel
theorem dX5_takeBits_21 : decode cX5_takeBits 21 = .ok (.iload_n 3, 1) := by decide +kernel
theorem dX5_takeBits_22 : decode cX5_takeBits 22 = .ok (.isub, 1) := by decide +kernel
theorem dX5_takeBits_23 : decode cX5_takeBits 23 = .ok (.ishr, 1) := by decide +kernel
theorem dX5_takeBits_24 : decode cX5_takeBits 24 = .ok (.iconst 1, 1) := by decide +kernel
theorem dX5_takeBits_25 : decode cX5_takeBits 25 = .ok (.iand, 1) := by decide +kernel
theorem dX5_takeBits_26 : decode cX5_takeBits 26 = .ok (.iconst 2, 1) := by decide +kernel
theorem dX5_takeBits_27 : decode cX5_takeBits 27 = .ok (.imul, 1) := by decide +kernel
theorem dX5_takeBits_28 : decode cX5_takeBits 28 = .ok (.iastore, 1) := by decide +kernel
theorem dX5_takeBits_29 : decode cX5_takeBits 29 = .ok (.iinc 3 1, 3) := by decide +kernel
theorem dX5_takeBits_32 : decode cX5_takeBits 32 = .ok (.goto (-25), 3) := by decide +kernel
theorem dX5_takeBits_35 : decode cX5_takeBits 35 = .ok (.return_, 1) := by decide +kernel
set_option maxRecDepth 20000 in
theorem ggX5_lookPart_X5_has : GoodIn wsX5_lookPart wsX5_has := goodIn_r _ [7, 1, 8, 9, 10, 13, 14] (by decide +kernel) (by decide +kernel)
set_option maxRecDepth 20000 in
theorem gX5_lookPart_X5_has : GoodIn wsX5_lookPart (wsV RX5 23 RX5 yX5_has wsX5_has) := goodIn_app (goodIn_of _ (by decide +kernel)) ggX5_lookPart_X5_has
set_option maxRecDepth 20000 in
theorem ggX5_lookPart_X6_partOfTurn : GoodIn wsX5_lookPart wsX6_partOfTurn := goodIn_r _ [12] (by decide +kernel) (by decide +kernel)
set_option maxRecDepth 20000 in
theorem gX5_lookPart_X6_partOfTurn_n27 : GoodIn wsX5_lookPart (wsX6_partOfTurn) := ggX5_lookPart_X6_partOfTurn
theorem dX5_lookPart_0 : decode cX5_lookPart 0 = .ok (.iconst 0, 1) := by decide +kernel
theorem dX5_lookPart_1 : decode cX5_lookPart 1 = .ok (.istore 5, 2) := by decide +kernel
theorem dX5_lookPart_3 : decode cX5_lookPart 3 = .ok (.iconst 0, 1) := by decide +kernel
theorem dX5_lookPart_4 : decode cX5_lookPart 4 = .ok (.istore 6, 2) := by decide +kernel
theorem dX5_lookPart_6 : decode cX5_lookPart 6 = .ok (.iload 6, 2) := by decide +kernel
theorem dX5_lookPart_8 : decode cX5_lookPart 8 = .ok (.aload_n 0, 1) := by decide +kernel
theorem dX5_lookPart_9 : decode cX5_lookPart 9 = .ok (.getfield 13, 3) := by decide +kernel
theorem dX5_lookPart_12 : decode cX5_lookPart 12 = .ok (.if_icmp .ge 52, 3) := by decide +kernel
theorem dX5_lookPart_15 : decode cX5_lookPart 15 = .ok (.aload_n 1, 1) := by decide +kernel
theorem dX5_lookPart_16 : decode cX5_lookPart 16 = .ok (.iload 6, 2) := by decide +kernel
theorem dX5_lookPart_18 : decode cX5_lookPart 18 = .ok (.iload_n 2, 1) := by decide +kernel
theorem dX5_lookPart_19 : decode cX5_lookPart 19 = .ok (.iadd, 1) := by decide +kernel
theorem dX5_lookPart_20 : decode cX5_lookPart 20 = .ok (.invokevirtual 23, 3) := by decide +kernel
theorem dX5_lookPart_23 : decode cX5_lookPart 23 = .ok (.ifCond .eq 35, 3) := by decide +kernel
theorem dX5_lookPart_26 : decode cX5_lookPart 26 = .ok (.iload 5, 2) := by decide +kernel
theorem dX5_lookPart_28 : decode cX5_lookPart 28 = .ok (.aload_n 0, 1) := by decide +kernel
theorem dX5_lookPart_29 : decode cX5_lookPart 29 = .ok (.getfield 9, 3) := by decide +kernel
theorem dX5_lookPart_32 : decode cX5_lookPart 32 = .ok (.iload 6, 2) := by decide +kernel
theorem dX5_lookPart_34 : decode cX5_lookPart 34 = .ok (.iaload, 1) := by decide +kernel
theorem dX5_lookPart_35 : decode cX5_lookPart 35 = .ok (.aload_n 1, 1) := by decide +kernel
theorem dX5_lookPart_36 : decode cX5_lookPart 36 = .ok (.getfield 9, 3) := by decide +kernel
theorem dX5_lookPart_39 : decode cX5_lookPart 39 = .ok (.iload 6, 2) := by decide +kernel
theorem dX5_lookPart_41 : decode cX5_lookPart 41 = .ok (.iload_n 2, 1) := by decide +kernel
theorem dX5_lookPart_42 : decode cX5_lookPart 42 = .ok (.iadd, 1) := by decide +kernel
theorem dX5_lookPart_43 : decode cX5_lookPart 43 = .ok (.iaload, 1) := by decide +kernel
theorem dX5_lookPart_44 : decode cX5_lookPart 44 = .ok (.isub, 1) := by decide +kernel
theorem dX5_lookPart_45 : decode cX5_lookPart 45 = .ok (.iload_n 3, 1) := by decide +kernel
theorem dX5_lookPart_46 : decode cX5_lookPart 46 = .ok (.iload 6, 2) := by decide +kernel
theorem dX5_lookPart_48 : decode cX5_lookPart 48 = .ok (.imul, 1) := by decide +kernel
theorem dX5_lookPart_49 : decode cX5_lookPart 49 = .ok (.iadd, 1) := by decide +kernel
theorem dX5_lookPart_50 : decode cX5_lookPart 50 = .ok (.iload 4, 2) := by decide +kernel
theorem dX5_lookPart_52 : decode cX5_lookPart 52 = .ok (.invokestatic 27, 3) := by decide +kernel
theorem dX5_lookPart_55 : decode cX5_lookPart 55 = .ok (.iadd, 1) := by decide +kernel
theorem dX5_lookPart_56 : decode cX5_lookPart 56 = .ok (.istore 5, 2) := by decide +kernel
theorem dX5_lookPart_58 : decode cX5_lookPart 58 = .ok (.iinc 6 1, 3) := by decide +kernel
theorem dX5_lookPart_61 : decode cX5_lookPart 61 = .ok (.goto (-55), 3) := by decide +kernel
theorem dX5_lookPart_64 : decode cX5_lookPart 64 = .ok (.iload 5, 2) := by decide +kernel
theorem dX5_lookPart_66 : decode cX5_lookPart 66 = .ok (.ireturn, 1) := by decide +kernel
set_option maxRecDepth 20000 in
theorem ggX5_ownLookSize_X5_lookPart : GoodIn wsX5_ownLookSize wsX5_lookPart := goodIn_r _ [5, 6, 7, 8, 9, 10, 4, 11, 12, 13, 14, 15, 16, 17, 18] (by decide +kernel) (by decide +kernel)
set_option maxRecDepth 20000 in
theorem gX5_ownLookSize_X5_lookPart : GoodIn wsX5_ownLookSize (wsV RX5 31 RX5 yX5_lookPart wsX5_lookPart) := goodIn_app (goodIn_of _ (by decide +kernel)) ggX5_ownLookSize_X5_lookPart
theorem dX5_ownLookSize_0 : decode cX5_ownLookSize 0 = .ok (.aload_n 0, 1) := by decide +kernel
theorem dX5_ownLookSize_1 : decode cX5_ownLookSize 1 = .ok (.aload_n 0, 1) := by decide +kernel
theorem dX5_ownLookSize_2 : decode cX5_ownLookSize 2 = .ok (.iload_n 1, 1) := by decide +kernel
theorem dX5_ownLookSize_3 : decode cX5_ownLookSize 3 = .ok (.iload_n 2, 1) := by decide +kernel
theorem dX5_ownLookSize_4 : decode cX5_ownLookSize 4 = .ok (.iconst 0, 1) := by decide +kernel
theorem dX5_ownLookSize_5 : decode cX5_ownLookSize 5 = .ok (.invokevirtual 31, 3) := by decide +kernel
theorem dX5_ownLookSize_8 : decode cX5_ownLookSize 8 = .ok (.istore_n 3, 1) := by decide +kernel
theorem dX5_ownLookSize_9 : decode cX5_ownLookSize 9 = .ok (.aload_n 0, 1) := by decide +kernel
theorem dX5_ownLookSize_10 : decode cX5_ownLookSize 10 = .ok (.aload_n 0, 1) := by decide +kernel
theorem dX5_ownLookSize_11 : decode cX5_ownLookSize 11 = .ok (.iload_n 1, 1) := by decide +kernel
theorem dX5_ownLookSize_12 : decode cX5_ownLookSize 12 = .ok (.iload_n 2, 1) := by decide +kernel
theorem dX5_ownLookSize_13 : decode cX5_ownLookSize 13 = .ok (.iconst 1, 1) := by decide +kernel
theorem dX5_ownLookSize_14 : decode cX5_ownLookSize 14 = .ok (.invokevirtual 31, 3) := by decide +kernel
theorem dX5_ownLookSize_17 : decode cX5_ownLookSize 17 = .ok (.istore 4, 2) := by decide +kernel
theorem dX5_ownLookSize_19 : decode cX5_ownLookSize 19 = .ok (.iload_n 3, 1) := by decide +kernel
theorem dX5_ownLookSize_20 : decode cX5_ownLookSize 20 = .ok (.iload_n 3, 1) := by decide +kernel
theorem dX5_ownLookSize_21 : decode cX5_ownLookSize 21 = .ok (.imul, 1) := by decide +kernel
theorem dX5_ownLookSize_22 : decode cX5_ownLookSize 22 = .ok (.iload 4, 2) := by decide +kernel
theorem dX5_ownLookSize_24 : decode cX5_ownLookSize 24 = .ok (.iload 4, 2) := by decide +kernel
theorem dX5_ownLookSize_26 : decode cX5_ownLookSize 26 = .ok (.imul, 1) := by decide +kernel
theorem dX5_ownLookSize_27 : decode cX5_ownLookSize 27 = .ok (.iadd, 1) := by decide +kernel
theorem dX5_ownLookSize_28 : decode cX5_ownLookSize 28 = .ok (.ireturn, 1) := by decide +kernel
set_option maxRecDepth 20000 in
theorem ggX5_greatestSide_X5_ownLookSize : GoodIn wsX5_greatestSide wsX5_ownLookSize := goodIn_r _ [10, 11, 12, 13, 9, 14, 1, 15, 16, 17, 18, 19, 20, 21, 22, 23, 24, 25, 26] (by decide +kernel) (by decide +kernel)
set_option maxRecDepth 20000 in
theorem gX5_greatestSide_X5_ownLookSize : GoodIn wsX5_greatestSide (wsV RX5 35 RX5 yX5_ownLookSize wsX5_ownLookSize) := goodIn_app (goodIn_of _ (by decide +kernel)) ggX5_greatestSide_X5_ownLookSize
theorem dX5_greatestSide_0 : decode cX5_greatestSide 0 = .ok (.iconst 0, 1) := by decide +kernel
theorem dX5_greatestSide_1 : decode cX5_greatestSide 1 = .ok (.istore_n 1, 1) := by decide +kernel
theorem dX5_greatestSide_2 : decode cX5_greatestSide 2 = .ok (.iconst 1, 1) := by decide +kernel
theorem dX5_greatestSide_3 : decode cX5_greatestSide 3 = .ok (.istore_n 2, 1) := by decide +kernel
theorem dX5_greatestSide_4 : decode cX5_greatestSide 4 = .ok (.iload_n 2, 1) := by decide +kernel
theorem dX5_greatestSide_5 : decode cX5_greatestSide 5 = .ok (.aload_n 0, 1) := by decide +kernel
theorem dX5_greatestSide_6 : decode cX5_greatestSide 6 = .ok (.getfield 13, 3) := by decide +kernel
theorem dX5_greatestSide_9 : decode cX5_greatestSide 9 = .ok (.if_icmp .ge 20, 3) := by decide +kernel
theorem dX5_greatestSide_12 : decode cX5_greatestSide 12 = .ok (.iload_n 1, 1) := by decide +kernel
theorem dX5_greatestSide_13 : decode cX5_greatestSide 13 = .ok (.aload_n 0, 1) := by decide +kernel
theorem dX5_greatestSide_14 : decode cX5_greatestSide 14 = .ok (.iload_n 2, 1) := by decide +kernel
theorem dX5_greatestSide_15 : decode cX5_greatestSide 15 = .ok (.iconst 0, 1) := by decide +kernel
theorem dX5_greatestSide_16 : decode cX5_greatestSide 16 = .ok (.invokevirtual 35, 3) := by decide +kernel
theorem dX5_greatestSide_19 : decode cX5_greatestSide 19 = .ok (.invokestatic 38, 3) := by decide +kernel
theorem dX5_greatestSide_22 : decode cX5_greatestSide 22 = .ok (.istore_n 1, 1) := by decide +kernel
