theorem dX5_greatestSide_23 : decode cX5_greatestSide 23 = .ok (.iinc 2 1, 3) := by decide +kernel
theorem dX5_greatestSide_26 : decode cX5_greatestSide 26 = .ok (.goto (-22), 3) := by decide +kernel
theorem dX5_greatestSide_29 : decode cX5_greatestSide 29 = .ok (.iload_n 1, 1) := by decide +kernel
theorem dX5_greatestSide_30 : decode cX5_greatestSide 30 = .ok (.ireturn, 1) := by decide +kernel
set_option maxRecDepth 20000 in
theorem ggX5_sumOfSides_X5_ownLookSize : GoodIn wsX5_sumOfSides wsX5_ownLookSize := goodIn_r _ [6, 7, 8, 9, 5, 10, 1, 11, 12, 13, 14, 15, 16, 17, 18, 19, 20, 21, 22] (by decide +kernel) (by decide +kernel)
set_option maxRecDepth 20000 in
theorem gX5_sumOfSides_X5_ownLookSize : GoodIn wsX5_sumOfSides (wsV RX5 35 RX5 yX5_ownLookSize wsX5_ownLookSize) := goodIn_app (goodIn_of _ (by decide +kernel)) ggX5_sumOfSides_X5_ownLookSize
theorem dX5_sumOfSides_0 : decode cX5_sumOfSides 0 = .ok (.iconst 0, 1) := by decide +kernel
theorem dX5_sumOfSides_1 : decode cX5_sumOfSides 1 = .ok (.istore_n 1, 1) := by decide +kernel
theorem dX5_sumOfSides_2 : decode cX5_sumOfSides 2 = .ok (.iconst 1, 1) := by decide +kernel
theorem dX5_sumOfSides_3 : decode cX5_sumOfSides 3 = .ok (.istore_n 2, 1) := by decide +kernel
theorem dX5_sumOfSides_4 : decode cX5_sumOfSides 4 = .ok (.iload_n 2, 1) := by decide +kernel
theorem dX5_sumOfSides_5 : decode cX5_sumOfSides 5 = .ok (.aload_n 0, 1) := by decide +kernel
theorem dX5_sumOfSides_6 : decode cX5_sumOfSides 6 = .ok (.getfield 13, 3) := by decide +kernel
theorem dX5_sumOfSides_9 : decode cX5_sumOfSides 9 = .ok (.if_icmp .ge 18, 3) := by decide +kernel
theorem dX5_sumOfSides_12 : decode cX5_sumOfSides 12 = .ok (.iload_n 1, 1) := by decide +kernel
theorem dX5_sumOfSides_13 : decode cX5_sumOfSides 13 = .ok (.aload_n 0, 1) := by decide +kernel
theorem dX5_sumOfSides_14 : decode cX5_sumOfSides 14 = .ok (.iload_n 2, 1) := by decide +kernel
theorem dX5_sumOfSides_15 : decode cX5_sumOfSides 15 = .ok (.iconst 0, 1) := by decide +kernel
theorem dX5_sumOfSides_16 : decode cX5_sumOfSides 16 = .ok (.invokevirtual 35, 3) := by decide +kernel
theorem dX5_sumOfSides_19 : decode cX5_sumOfSides 19 = .ok (.iadd, 1) := by decide +kernel
theorem dX5_sumOfSides_20 : decode cX5_sumOfSides 20 = .ok (.istore_n 1, 1) := by decide +kernel
theorem dX5_sumOfSides_21 : decode cX5_sumOfSides 21 = .ok (.iinc 2 1, 3) := by decide +kernel
theorem dX5_sumOfSides_24 : decode cX5_sumOfSides 24 = .ok (.goto (-20), 3) := by decide +kernel
theorem dX5_sumOfSides_27 : decode cX5_sumOfSides 27 = .ok (.iload_n 1, 1) := by decide +kernel
theorem dX5_sumOfSides_28 : decode cX5_sumOfSides 28 = .ok (.ireturn, 1) := by decide +kernel
set_option maxRecDepth 20000 in
theorem ggX5_greatestOwnLook_X5_ownLookSize : GoodIn wsX5_greatestOwnLook wsX5_ownLookSize := goodIn_r _ [9, 10, 11, 12, 8, 13, 14, 15, 16, 17, 18, 19, 20, 21, 22, 23, 24, 25, 26] (by decide +kernel) (by decide +kernel)
set_option maxRecDepth 20000 in
theorem gX5_greatestOwnLook_X5_ownLookSize : GoodIn wsX5_greatestOwnLook (wsV RX5 35 RX5 yX5_ownLookSize wsX5_ownLookSize) := goodIn_app (goodIn_of _ (by decide +kernel)) ggX5_greatestOwnLook_X5_ownLookSize
theorem dX5_greatestOwnLook_0 : decode cX5_greatestOwnLook 0 = .ok (.iconst 0, 1) := by decide +kernel
theorem dX5_greatestOwnLook_1 : decode cX5_greatestOwnLook 1 = .ok (.istore_n 1, 1) := by decide +kernel
theorem dX5_greatestOwnLook_2 : decode cX5_greatestOwnLook 2 = .ok (.bipush (-15), 2) := by decide +kernel
theorem dX5_greatestOwnLook_4 : decode cX5_greatestOwnLook 4 = .ok (.istore_n 2, 1) := by decide +kernel
theorem dX5_greatestOwnLook_5 : decode cX5_greatestOwnLook 5 = .ok (.iload_n 2, 1) := by decide +kernel
theorem dX5_greatestOwnLook_6 : decode cX5_greatestOwnLook 6 = .ok (.bipush 15, 2) := by decide +kernel
theorem dX5_greatestOwnLook_8 : decode cX5_greatestOwnLook 8 = .ok (.if_icmp .gt 41, 3) := by decide +kernel
theorem dX5_greatestOwnLook_11 : decode cX5_greatestOwnLook 11 = .ok (.iconst 0, 1) := by decide +kernel
theorem dX5_greatestOwnLook_12 : decode cX5_greatestOwnLook 12 = .ok (.istore_n 3, 1) := by decide +kernel
theorem dX5_greatestOwnLook_13 : decode cX5_greatestOwnLook 13 = .ok (.iload_n 3, 1) := by decide +kernel
theorem dX5_greatestOwnLook_14 : decode cX5_greatestOwnLook 14 = .ok (.iconst 3, 1) := by decide +kernel
theorem dX5_greatestOwnLook_15 : decode cX5_greatestOwnLook 15 = .ok (.if_icmp .gt 28, 3) := by decide +kernel
theorem dX5_greatestOwnLook_18 : decode cX5_greatestOwnLook 18 = .ok (.iload_n 2, 1) := by decide +kernel
theorem dX5_greatestOwnLook_19 : decode cX5_greatestOwnLook 19 = .ok (.ifCond .ne 7, 3) := by decide +kernel
theorem dX5_greatestOwnLook_22 : decode cX5_greatestOwnLook 22 = .ok (.iload_n 3, 1) := by decide +kernel
theorem dX5_greatestOwnLook_23 : decode cX5_greatestOwnLook 23 = .ok (.ifCond .eq 14, 3) := by decide +kernel
theorem dX5_greatestOwnLook_26 : decode cX5_greatestOwnLook 26 = .ok (.iload_n 1, 1) := by decide +kernel
theorem dX5_greatestOwnLook_27 : decode cX5_greatestOwnLook 27 = .ok (.aload_n 0, 1) := by decide +kernel
theorem dX5_greatestOwnLook_28 : decode cX5_greatestOwnLook 28 = .ok (.iload_n 2, 1) := by decide +kernel
theorem dX5_greatestOwnLook_29 : decode cX5_greatestOwnLook 29 = .ok (.iload_n 3, 1) := by decide +kernel
theorem dX5_greatestOwnLook_30 : decode cX5_greatestOwnLook 30 = .ok (.invokevirtual 35, 3) := by decide +kernel
theorem dX5_greatestOwnLook_33 : decode cX5_greatestOwnLook 33 = .ok (.invokestatic 38, 3) := by decide +kernel
theorem dX5_greatestOwnLook_36 : decode cX5_greatestOwnLook 36 = .ok (.istore_n 1, 1) := by decide +kernel
theorem dX5_greatestOwnLook_37 : decode cX5_greatestOwnLook 37 = .ok (.iinc 3 1, 3) := by decide +kernel
theorem dX5_greatestOwnLook_40 : decode cX5_greatestOwnLook 40 = .ok (.goto (-27), 3) := by decide +kernel
theorem dX5_greatestOwnLook_43 : decode cX5_greatestOwnLook 43 = .ok (.iinc 2 1, 3) := by decide +kernel
theorem dX5_greatestOwnLook_46 : decode cX5_greatestOwnLook 46 = .ok (.goto (-41), 3) := by decide +kernel
theorem dX5_greatestOwnLook_49 : decode cX5_greatestOwnLook 49 = .ok (.iload_n 1, 1) := by decide +kernel
theorem dX5_greatestOwnLook_50 : decode cX5_greatestOwnLook 50 = .ok (.ireturn, 1) := by decide +kernel
set_option maxRecDepth 20000 in
theorem ggX5_sidesGoOutWith_X5_lookPart : GoodIn wsX5_sidesGoOutWith wsX5_lookPart := goodIn_r _ [6, 1, 7, 8, 9, 10, 5, 11, 12, 13, 14, 15, 16, 17, 18] (by decide +kernel) (by decide +kernel)
set_option maxRecDepth 20000 in
theorem gX5_sidesGoOutWith_X5_lookPart : GoodIn wsX5_sidesGoOutWith (wsV RX5 31 RX5 yX5_lookPart wsX5_lookPart) := goodIn_app (goodIn_of _ (by decide +kernel)) ggX5_sidesGoOutWith_X5_lookPart
theorem dX5_sidesGoOutWith_0 : decode cX5_sidesGoOutWith 0 = .ok (.aload_n 0, 1) := by decide +kernel
theorem dX5_sidesGoOutWith_1 : decode cX5_sidesGoOutWith 1 = .ok (.getfield 13, 3) := by decide +kernel
theorem dX5_sidesGoOutWith_4 : decode cX5_sidesGoOutWith 4 = .ok (.aload_n 1, 1) := by decide +kernel
theorem dX5_sidesGoOutWith_5 : decode cX5_sidesGoOutWith 5 = .ok (.getfield 13, 3) := by decide +kernel
theorem dX5_sidesGoOutWith_8 : decode cX5_sidesGoOutWith 8 = .ok (.if_icmp .eq 5, 3) := by decide +kernel
theorem dX5_sidesGoOutWith_11 : decode cX5_sidesGoOutWith 11 = .ok (.iconst 0, 1) := by decide +kernel
theorem dX5_sidesGoOutWith_12 : decode cX5_sidesGoOutWith 12 = .ok (.ireturn, 1) := by decide +kernel
theorem dX5_sidesGoOutWith_13 : decode cX5_sidesGoOutWith 13 = .ok (.iconst 1, 1) := by decide +kernel
theorem dX5_sidesGoOutWith_14 : decode cX5_sidesGoOutWith 14 = .ok (.istore_n 2, 1) := by decide +kernel
theorem dX5_sidesGoOutWith_15 : decode cX5_sidesGoOutWith 15 = .ok (.iload_n 2, 1) := by decide +kernel
theorem dX5_sidesGoOutWith_16 : decode cX5_sidesGoOutWith 16 = .ok (.aload_n 0, 1) := by decide +kernel
theorem dX5_sidesGoOutWith_17 : decode cX5_sidesGoOutWith 17 = .ok (.getfield 13, 3) := by decide +kernel
theorem dX5_sidesGoOutWith_20 : decode cX5_sidesGoOutWith 20 = .ok (.if_icmp .ge 44, 3) := by decide +kernel
theorem dX5_sidesGoOutWith_23 : decode cX5_sidesGoOutWith 23 = .ok (.iconst 0, 1) := by decide +kernel
theorem dX5_sidesGoOutWith_24 : decode cX5_sidesGoOutWith 24 = .ok (.istore_n 3, 1) := by decide +kernel
theorem dX5_sidesGoOutWith_25 : decode cX5_sidesGoOutWith 25 = .ok (.iload_n 3, 1) := by decide +kernel
theorem dX5_sidesGoOutWith_26 : decode cX5_sidesGoOutWith 26 = .ok (.iconst 1, 1) := by decide +kernel
theorem dX5_sidesGoOutWith_27 : decode cX5_sidesGoOutWith 27 = .ok (.if_icmp .gt 31, 3) := by decide +kernel
theorem dX5_sidesGoOutWith_30 : decode cX5_sidesGoOutWith 30 = .ok (.aload_n 0, 1) := by decide +kernel
theorem dX5_sidesGoOutWith_31 : decode cX5_sidesGoOutWith 31 = .ok (.aload_n 0, 1) := by decide +kernel
theorem dX5_sidesGoOutWith_32 : decode cX5_sidesGoOutWith 32 = .ok (.iload_n 2, 1) := by decide +kernel
theorem dX5_sidesGoOutWith_33 : decode cX5_sidesGoOutWith 33 = .ok (.iconst 0, 1) := by decide +kernel
theorem dX5_sidesGoOutWith_34 : decode cX5_sidesGoOutWith 34 = .ok (.iload_n 3, 1) := by decide +kernel
theorem dX5_sidesGoOutWith_35 : decode cX5_sidesGoOutWith 35 = .ok (.invokevirtual 31, 3) := by decide +kernel
theorem dX5_sidesGoOutWith_38 : decode cX5_sidesGoOutWith 38 = .ok (.aload_n 1, 1) := by decide +kernel
theorem dX5_sidesGoOutWith_39 : decode cX5_sidesGoOutWith 39 = .ok (.aload_n 1, 1) := by decide +kernel
theorem dX5_sidesGoOutWith_40 : decode cX5_sidesGoOutWith 40 = .ok (.iload_n 2, 1) := by decide +kernel
theorem dX5_sidesGoOutWith_41 : decode cX5_sidesGoOutWith 41 = .ok (.iconst 0, 1) := by decide +kernel
theorem dX5_sidesGoOutWith_42 : decode cX5_sidesGoOutWith 42 = .ok (.iload_n 3, 1) := by decide +kernel
theorem dX5_sidesGoOutWith_43 : decode cX5_sidesGoOutWith 43 = .ok (.invokevirtual 31, 3) := by decide +kernel
theorem dX5_sidesGoOutWith_46 : decode cX5_sidesGoOutWith 46 = .ok (.iadd, 1) := by decide +kernel
theorem dX5_sidesGoOutWith_47 : decode cX5_sidesGoOutWith 47 = .ok (.ifCond .eq 5, 3) := by decide +kernel
theorem dX5_sidesGoOutWith_50 : decode cX5_sidesGoOutWith 50 = .ok (.iconst 0, 1) := by decide +kernel
theorem dX5_sidesGoOutWith_51 : decode cX5_sidesGoOutWith 51 = .ok (.ireturn, 1) := by decide +kernel
theorem dX5_sidesGoOutWith_52 : decode cX5_sidesGoOutWith 52 = .ok (.iinc 3 1, 3) := by decide +kernel
theorem dX5_sidesGoOutWith_55 : decode cX5_sidesGoOutWith 55 = .ok (.goto (-30), 3) := by decide +kernel
theorem dX5_sidesGoOutWith_58 : decode cX5_sidesGoOutWith 58 = .ok (.iinc 2 1, 3) := by decide +kernel
theorem dX5_sidesGoOutWith_61 : decode cX5_sidesGoOutWith 61 = .ok (.goto (-46), 3) := by decide +kernel
theorem dX5_sidesGoOutWith_64 : decode cX5_sidesGoOutWith 64 = .ok (.iconst 1, 1) := by decide +kernel
theorem dX5_sidesGoOutWith_65 : decode cX5_sidesGoOutWith 65 = .ok (.ireturn, 1) := by decide +kernel
set_option maxRecDepth 20000 in
theorem ggX6_init_X1_init : GoodIn wsX6_init wsX1_init := goodIn_r _ [23, 24, 2, 3, 25, 26, 27, 55, 56] (by decide +kernel) (by decide +kernel)
set_option maxRecDepth 20000 in
theorem gX6_init_X1_init : GoodIn wsX6_init (wsX1_init) := ggX6_init_X1_init
set_option maxRecDepth 20000 in
theorem ggX6_init_X2_init : GoodIn wsX6_init wsX2_init := goodIn_r _ [30, 31, 2, 3, 25, 32, 33, 34, 35, 36, 12, 37, 38, 57, 58, 59] (by decide +kernel) (by decide +kernel)
set_option maxRecDepth 20000 in
theorem gX6_init_X2_init : GoodIn wsX6_init (wsX2_init) := ggX6_init_X2_init
set_option maxRecDepth 20000 in
theorem ggX6_init_X3_init : GoodIn wsX6_init wsX3_init := goodIn_r _ [40, 41, 2, 3, 25, 42, 43, 44, 60, 61, 62] (by decide +kernel) (by decide +kernel)
set_option maxRecDepth 20000 in
theorem gX6_init_X3_init_n31 : GoodIn wsX6_init (wsX3_init) := ggX6_init_X3_init
set_option maxRecDepth 20000 in
theorem ggX6_init_X5_init : GoodIn wsX6_init wsX5_init := goodIn_r _ [46, 47, 2, 3, 25, 48, 49, 63, 64] (by decide +kernel) (by decide +kernel)
set_option maxRecDepth 20000 in
theorem gX6_init_X5_init_n40 : GoodIn wsX6_init (wsX5_init) := ggX6_init_X5_init
theorem dX6_init_0 : decode cX6_init 0 = .ok (.aload_n 0, 1) := by decide +kernel
theorem dX6_init_1 : decode cX6_init 1 = .ok (.invokespecial 1, 3) := by decide +kernel
theorem dX6_init_4 : decode cX6_init 4 = .ok (.aload_n 0, 1) := by decide +kernel
theorem dX6_init_5 : decode cX6_init 5 = .ok (.bipush 6, 2) := by decide +kernel
theorem dX6_init_7 : decode cX6_init 7 = .ok (.anewarray 9, 3) := by decide +kernel
theorem dX6_init_10 : decode cX6_init 10 = .ok (.putfield 11, 3) := by decide +kernel
theorem dX6_init_13 : decode cX6_init 13 = .ok (.aload_n 0, 1) := by decide +kernel
theorem dX6_init_14 : decode cX6_init 14 = .ok (.new 15, 3) := by decide +kernel
theorem dX6_init_17 : decode cX6_init 17 = .ok (.dup, 1) := by decide +kernel
theorem dX6_init_18 : decode cX6_init 18 = .ok (.invokespecial 17, 3) := by decide +kernel
theorem dX6_init_21 : decode cX6_init 21 = .ok (.putfield 18, 3) := by decide +kernel
theorem dX6_init_24 : decode cX6_init 24 = .ok (.aload_n 0, 1) := by decide +kernel
theorem dX6_init_25 : decode cX6_init 25 = .ok (.new 22, 3) := by decide +kernel
theorem dX6_init_28 : decode cX6_init 28 = .ok (.dup, 1) := by decide +kernel
theorem dX6_init_29 : decode cX6_init 29 = .ok (.invokespecial 24, 3) := by decide +kernel
theorem dX6_init_32 : decode cX6_init 32 = .ok (.putfield 25, 3) := by decide +kernel
theorem dX6_init_35 : decode cX6_init 35 = .ok (.aload_n 0, 1) := by decide +kernel
theorem dX6_init_36 : decode cX6_init 36 = .ok (.new 29, 3) := by decide +kernel
theorem dX6_init_39 : decode cX6_init 39 = .ok (.dup, 1) := by decide +kernel
theorem dX6_init_40 : decode cX6_init 40 = .ok (.invokespecial 31, 3) := by decide +kernel
theorem dX6_init_43 : decode cX6_init 43 = .ok (.putfield 32, 3) := by decide +kernel
theorem dX6_init_46 : decode cX6_init 46 = .ok (.aload_n 0, 1) := by decide +kernel
theorem dX6_init_47 : decode cX6_init 47 = .ok (.iconst 0, 1) := by decide +kernel
theorem dX6_init_48 : decode cX6_init 48 = .ok (.putfield 36, 3) := by decide +kernel
theorem dX6_init_51 : decode cX6_init 51 = .ok (.iconst 0, 1) := by decide +kernel
theorem dX6_init_52 : decode cX6_init 52 = .ok (.istore_n 1, 1) := by decide +kernel
theorem dX6_init_53 : decode cX6_init 53 = .ok (.iload_n 1, 1) := by decide +kernel
theorem dX6_init_54 : decode cX6_init 54 = .ok (.bipush 6, 2) := by decide +kernel
theorem dX6_init_56 : decode cX6_init 56 = .ok (.if_icmp .ge 22, 3) := by decide +kernel
theorem dX6_init_59 : decode cX6_init 59 = .ok (.aload_n 0, 1) := by decide +kernel
theorem dX6_init_60 : decode cX6_init 60 = .ok (.getfield 11, 3) := by decide +kernel
theorem dX6_init_63 : decode cX6_init 63 = .ok (.iload_n 1, 1) := by decide +kernel
theorem dX6_init_64 : decode cX6_init 64 = .ok (.new 9, 3) := by decide +kernel
theorem dX6_init_67 : decode cX6_init 67 = .ok (.dup, 1) := by decide +kernel
theorem dX6_init_68 : decode cX6_init 68 = .ok (.invokespecial 40, 3) := by decide +kernel
theorem dX6_init_71 : decode cX6_init 71 = .ok (.aastore, 1) := by decide +kernel
theorem dX6_init_72 : decode cX6_init 72 = .ok (.iinc 1 1, 3) := by decide +kernel
theorem dX6_init_75 : decode cX6_init 75 = .ok (.goto (-22), 3) := by decide +kernel
theorem dX6_init_78 : decode cX6_init 78 = .ok (.return_, 1) := by decide +kernel
set_option maxRecDepth 20000 in
theorem ggX6_size_X6_isSign : GoodIn wsX6_size wsX6_isSign := goodIn_r _ [5, 6, 7, 4, 8] (by decide +kernel) (by decide +kernel)
set_option maxRecDepth 20000 in
theorem gX6_size_X6_isSign : GoodIn wsX6_size (va_wsS RX6 41 yX6_isSign wsX6_isSign) := goodIn_app (goodIn_of _ (by decide +kernel)) ggX6_size_X6_isSign
set_option maxRecDepth 20000 in
theorem ggX6_size_X6_within : GoodIn wsX6_size wsX6_within := goodIn_r _ [8] (by decide +kernel) (by decide +kernel)
set_option maxRecDepth 20000 in
theorem gX6_size_X6_within : GoodIn wsX6_size (va_wsS RX6 45 yX6_within wsX6_within) := goodIn_app (goodIn_of _ (by decide +kernel)) ggX6_size_X6_within
set_option maxRecDepth 20000 in
theorem ggX6_size_X5_reset : GoodIn wsX6_size wsX5_reset := goodIn_r _ [13, 14, 15, 21, 22] (by decide +kernel) (by decide +kernel)
set_option maxRecDepth 20000 in
theorem gX6_size_X5_reset : GoodIn wsX6_size (wsV RX6 49 RX5 yX5_reset wsX5_reset) := goodIn_app (goodIn_of _ (by decide +kernel)) ggX6_size_X5_reset
theorem dX6_size_0 : decode cX6_size 0 = .ok (.iload_n 1, 1) := by decide +kernel
theorem dX6_size_1 : decode cX6_size 1 = .ok (.invokestatic 41, 3) := by decide +kernel
theorem dX6_size_4 : decode cX6_size 4 = .ok (.ifCond .ne 6, 3) := by decide +kernel
theorem dX6_size_7 : decode cX6_size 7 = .ok (.bipush (-101), 2) := by decide +kernel
theorem dX6_size_9 : decode cX6_size 9 = .ok (.ireturn, 1) := by decide +kernel
theorem dX6_size_10 : decode cX6_size 10 = .ok (.iload_n 2, 1) := by decide +kernel
theorem dX6_size_11 : decode cX6_size 11 = .ok (.iconst 1, 1) := by decide +kernel
theorem dX6_size_12 : decode cX6_size 12 = .ok (.bipush 16, 2) := by decide +kernel
theorem dX6_size_14 : decode cX6_size 14 = .ok (.invokestatic 45, 3) := by decide +kernel
theorem dX6_size_17 : decode cX6_size 17 = .ok (.ifCond .ne 6, 3) := by decide +kernel
theorem dX6_size_20 : decode cX6_size 20 = .ok (.bipush (-102), 2) := by decide +kernel
theorem dX6_size_22 : decode cX6_size 22 = .ok (.ireturn, 1) := by decide +kernel
theorem dX6_size_23 : decode cX6_size 23 = .ok (.aload_n 0, 1) := by decide +kernel
theorem dX6_size_24 : decode cX6_size 24 = .ok (.getfield 11, 3) := by decide +kernel
theorem dX6_size_27 : decode cX6_size 27 = .ok (.iload_n 1, 1) := by decide +kernel
theorem dX6_size_28 : decode cX6_size 28 = .ok (.aaload, 1) := by decide +kernel
theorem dX6_size_29 : decode cX6_size 29 = .ok (.iload_n 2, 1) := by decide +kernel
theorem dX6_size_30 : decode cX6_size 30 = .ok (.invokevirtual 49, 3) := by decide +kernel
theorem dX6_size_33 : decode cX6_size 33 = .ok (.iload_n 2, 1) := by decide +kernel
theorem dX6_size_34 : decode cX6_size 34 = .ok (.ireturn, 1) := by decide +kernel
set_option maxRecDepth 20000 in
theorem ggX6_turn_X6_isSign : GoodIn wsX6_turn wsX6_isSign := goodIn_r _ [6, 7, 8, 5, 9] (by decide +kernel) (by decide +kernel)
set_option maxRecDepth 20000 in
theorem gX6_turn_X6_isSign : GoodIn wsX6_turn (va_wsS RX6 41 yX6_isSign wsX6_isSign) := goodIn_app (goodIn_of _ (by decide +kernel)) ggX6_turn_X6_isSign
set_option maxRecDepth 20000 in
theorem ggX6_turn_X5_has : GoodIn wsX6_turn wsX5_has := goodIn_r _ [14, 15, 8, 5, 9, 21, 22] (by decide +kernel) (by decide +kernel)
set_option maxRecDepth 20000 in
theorem gX6_turn_X5_has : GoodIn wsX6_turn (wsV RX6 53 RX5 yX5_has wsX5_has) := goodIn_app (goodIn_of _ (by decide +kernel)) ggX6_turn_X5_has
set_option maxRecDepth 20000 in
theorem ggX6_turn_X6_within : GoodIn wsX6_turn wsX6_within := goodIn_r _ [9] (by decide +kernel) (by decide +kernel)
set_option maxRecDepth 20000 in
theorem gX6_turn_X6_within : GoodIn wsX6_turn (va_wsS RX6 45 yX6_within wsX6_within) := goodIn_app (goodIn_of _ (by decide +kernel)) ggX6_turn_X6_within
theorem dX6_turn_0 : decode cX6_turn 0 = .ok (.iload_n 1, 1) := by decide +kernel
theorem dX6_turn_1 : decode cX6_turn 1 = .ok (.invokestatic 41, 3) := by decide +kernel
theorem dX6_turn_4 : decode cX6_turn 4 = .ok (.ifCond .eq 16, 3) := by decide +kernel
theorem dX6_turn_7 : decode cX6_turn 7 = .ok (.aload_n 0, 1) := by decide +kernel
theorem dX6_turn_8 : decode cX6_turn 8 = .ok (.getfield 11, 3) := by decide +kernel
theorem dX6_turn_11 : decode cX6_turn 11 = .ok (.iload_n 1, 1) := by decide +kernel
theorem dX6_turn_12 : decode cX6_turn 12 = .ok (.aaload, 1) := by decide +kernel
theorem dX6_turn_13 : decode cX6_turn 13 = .ok (.iload_n 2, 1) := by decide +kernel
theorem dX6_turn_14 : decode cX6_turn 14 = .ok (.invokevirtual 53, 3) := by decide +kernel
theorem dX6_turn_17 : decode cX6_turn 17 = .ok (.ifCond .ne 6, 3) := by decide +kernel
theorem dX6_turn_20 : decode cX6_turn 20 = .ok (.bipush (-101), 2) := by decide +kernel
theorem dX6_turn_22 : decode cX6_turn 22 = .ok (.ireturn, 1) := by decide +kernel
theorem dX6_turn_23 : decode cX6_turn 23 = .ok (.iload_n 3, 1) := by decide +kernel
theorem dX6_turn_24 : decode cX6_turn 24 = .ok (.iconst 0, 1) := by decide +kernel
theorem dX6_turn_25 : decode cX6_turn 25 = .ok (.iconst 3, 1) := by decide +kernel
theorem dX6_turn_26 : decode cX6_turn 26 = .ok (.invokestatic 45, 3) := by decide +kernel
theorem dX6_turn_29 : decode cX6_turn 29 = .ok (.ifCond .ne 6, 3) := by decide +kernel
theorem dX6_turn_32 : decode cX6_turn 32 = .ok (.bipush (-102), 2) := by decide +kernel
theorem dX6_turn_34 : decode cX6_turn 34 = .ok (.ireturn, 1) := by decide +kernel
theorem dX6_turn_35 : decode cX6_turn 35 = .ok (.aload_n 0, 1) := by decide +kernel
theorem dX6_turn_36 : decode cX6_turn 36 = .ok (.getfield 11, 3) := by decide +kernel
theorem dX6_turn_39 : decode cX6_turn 39 = .ok (.iload_n 1, 1) := by decide +kernel
theorem dX6_turn_40 : decode cX6_turn 40 = .ok (.aaload, 1) := by decide +kernel
theorem dX6_turn_41 : decode cX6_turn 41 = .ok (.getfield 56, 3) := by decide +kernel
theorem dX6_turn_44 : decode cX6_turn 44 = .ok (.iload_n 2, 1) := by decide +kernel
theorem dX6_turn_45 : decode cX6_turn 45 = .ok (.iaload, 1) := by decide +kernel
theorem dX6_turn_46 : decode cX6_turn 46 = .ok (.istore 4, 2) := by decide +kernel
theorem dX6_turn_48 : decode cX6_turn 48 = .ok (.aload_n 0, 1) := by decide +kernel
theorem dX6_turn_49 : decode cX6_turn 49 = .ok (.getfield 11, 3) := by decide +kernel
theorem dX6_turn_52 : decode cX6_turn 52 = .ok (.iload_n 1, 1) := by decide +kernel
theorem dX6_turn_53 : decode cX6_turn 53 = .ok (.aaload, 1) := by decide +kernel
theorem dX6_turn_54 : decode cX6_turn 54 = .ok (.getfield 56, 3) := by decide +kernel
theorem dX6_turn_57 : decode cX6_turn 57 = .ok (.iload_n 2, 1) := by decide +kernel
theorem dX6_turn_58 : decode cX6_turn 58 = .ok (.iload_n 3, 1) := by decide +kernel
theorem dX6_turn_59 : decode cX6_turn 59 = .ok (.iastore, 1) := by decide +kernel
theorem dX6_turn_60 : decode cX6_turn 60 = .ok (.iload 4, 2) := by decide +kernel
theorem dX6_turn_62 : decode cX6_turn 62 = .ok (.ireturn, 1) := by decide +kernel
set_option maxRecDepth 20000 in
theorem ggX6_turned_X6_isSign : GoodIn wsX6_turned wsX6_isSign := goodIn_r _ [6, 7, 8, 5, 9] (by decide +kernel) (by decide +kernel)
set_option maxRecDepth 20000 in
theorem gX6_turned_X6_isSign : GoodIn wsX6_turned (va_wsS RX6 41 yX6_isSign wsX6_isSign) := goodIn_app (goodIn_of _ (by decide +kernel)) ggX6_turned_X6_isSign
set_option maxRecDepth 20000 in
theorem ggX6_turned_X5_has : GoodIn wsX6_turned wsX5_has := goodIn_r _ [14, 15, 8, 5, 9, 21, 22] (by decide +kernel) (by decide +kernel)
set_option maxRecDepth 20000 in
theorem gX6_turned_X5_has : GoodIn wsX6_turned (wsV RX6 53 RX5 yX5_has wsX5_has) := goodIn_app (goodIn_of _ (by decide +kernel)) ggX6_turned_X5_has
theorem dX6_turned_0 : decode cX6_turned 0 = .ok (.iload_n 1, 1) := by decide +kernel
theorem dX6_turned_1 : decode cX6_turned 1 = .ok (.invokestatic 41, 3) := by decide +kernel
theorem dX6_turned_4 : decode cX6_turned 4 = .ok (.ifCond .ne 6, 3) := by decide +kernel
theorem dX6_turned_7 : decode cX6_turned 7 = .ok (.bipush (-101), 2) := by decide +kernel
theorem dX6_turned_9 : decode cX6_turned 9 = .ok (.ireturn, 1) := by decide +kernel
theorem dX6_turned_10 : decode cX6_turned 10 = .ok (.aload_n 0, 1) := by decide +kernel
theorem dX6_turned_11 : decode cX6_turned 11 = .ok (.getfield 11, 3) := by decide +kernel
theorem dX6_turned_14 : decode cX6_turned 14 = .ok (.iload_n 1, 1) := by decide +kernel
theorem dX6_turned_15 : decode cX6_turned 15 = .ok (.aaload, 1) := by decide +kernel
theorem dX6_turned_16 : decode cX6_turned 16 = .ok (.iload_n 2, 1) := by decide +kernel
theorem dX6_turned_17 : decode cX6_turned 17 = .ok (.invokevirtual 53, 3) := by decide +kernel
theorem dX6_turned_20 : decode cX6_turned 20 = .ok (.ifCond .eq 17, 3) := by decide +kernel
theorem dX6_turned_23 : decode cX6_turned 23 = .ok (.aload_n 0, 1) := by decide +kernel
theorem dX6_turned_24 : decode cX6_turned 24 = .ok (.getfield 11, 3) := by decide +kernel
theorem dX6_turned_27 : decode cX6_turned 27 = .ok (.iload_n 1, 1) := by decide +kernel
theorem dX6_turned_28 : decode cX6_turned 28 = .ok (.aaload, 1) := by decide +kernel
theorem dX6_turned_29 : decode cX6_turned 29 = .ok (.getfield 56, 3) := by decide +kernel
theorem dX6_turned_32 : decode cX6_turned 32 = .ok (.iload_n 2, 1) := by decide +kernel
theorem dX6_turned_33 : decode cX6_turned 33 = .ok (.iaload, 1) := by decide +kernel
theorem dX6_turned_34 : decode cX6_turned 34 = .ok (.goto 4, 3) := by decide +kernel
theorem dX6_turned_37 : decode cX6_turned 37 = .ok (.iconst (-1), 1) := by decide +kernel
theorem dX6_turned_38 : decode cX6_turned 38 = .ok (.ireturn, 1) := by decide +kernel
set_option maxRecDepth 20000 in
theorem ggX6_made_X6_isSign : GoodIn wsX6_made wsX6_isSign := goodIn_r _ [6, 7, 8, 5, 9] (by decide +kernel) (by decide +kernel)
set_option maxRecDepth 20000 in
theorem gX6_made_X6_isSign : GoodIn wsX6_made (va_wsS RX6 41 yX6_isSign wsX6_isSign) := goodIn_app (goodIn_of _ (by decide +kernel)) ggX6_made_X6_isSign
set_option maxRecDepth 20000 in
theorem ggX6_made_X6_within : GoodIn wsX6_made wsX6_within := goodIn_r _ [9] (by decide +kernel) (by decide +kernel)
set_option maxRecDepth 20000 in
theorem gX6_made_X6_within : GoodIn wsX6_made (va_wsS RX6 45 yX6_within wsX6_within) := goodIn_app (goodIn_of _ (by decide +kernel)) ggX6_made_X6_within
set_option maxRecDepth 20000 in
theorem ggX6_made_X5_copy : GoodIn wsX6_made wsX5_copy := goodIn_r _ [14, 15, 16, 34, 35] (by decide +kernel) (by decide +kernel)
set_option maxRecDepth 20000 in
theorem gX6_made_X5_copy : GoodIn wsX6_made (wsV RX6 60 RX5 yX5_copy wsX5_copy) := goodIn_app (goodIn_of _ (by decide +kernel)) ggX6_made_X5_copy
set_option maxRecDepth 20000 in
theorem ggX6_made_X5_reverse : GoodIn wsX6_made wsX5_reverse := goodIn_r _ [20, 15, 16, 34, 35] (by decide +kernel) (by decide +kernel)
set_option maxRecDepth 20000 in
theorem gX6_made_X5_reverse : GoodIn wsX6_made (wsV RX6 64 RX5 yX5_reverse wsX5_reverse) := goodIn_app (goodIn_of _ (by decide +kernel)) ggX6_made_X5_reverse
set_option maxRecDepth 20000 in
theorem ggX6_made_X5_mirror : GoodIn wsX6_made wsX5_mirror := goodIn_r _ [24, 15, 16, 34, 35] (by decide +kernel) (by decide +kernel)
set_option maxRecDepth 20000 in
theorem gX6_made_X5_mirror : GoodIn wsX6_made (wsV RX6 67 RX5 yX5_mirror wsX5_mirror) := goodIn_app (goodIn_of _ (by decide +kernel)) ggX6_made_X5_mirror
set_option maxRecDepth 20000 in
theorem ggX6_made_X5_advance : GoodIn wsX6_made wsX5_advance := goodIn_r _ [28, 15, 16, 34, 35] (by decide +kernel) (by decide +kernel)
set_option maxRecDepth 20000 in
theorem gX6_made_X5_advance : GoodIn wsX6_made (wsV RX6 70 RX5 yX5_advance wsX5_advance) := goodIn_app (goodIn_of _ (by decide +kernel)) ggX6_made_X5_advance
theorem dX6_made_0 : decode cX6_made 0 = .ok (.iload_n 2, 1) := by decide +kernel
theorem dX6_made_1 : decode cX6_made 1 = .ok (.invokestatic 41, 3) := by decide +kernel
theorem dX6_made_4 : decode cX6_made 4 = .ok (.ifCond .eq 10, 3) := by decide +kernel
theorem dX6_made_7 : decode cX6_made 7 = .ok (.iload_n 1, 1) := by decide +kernel
theorem dX6_made_8 : decode cX6_made 8 = .ok (.invokestatic 41, 3) := by decide +kernel
theorem dX6_made_11 : decode cX6_made 11 = .ok (.ifCond .ne 6, 3) := by decide +kernel
theorem dX6_made_14 : decode cX6_made 14 = .ok (.bipush (-101), 2) := by decide +kernel
theorem dX6_made_16 : decode cX6_made 16 = .ok (.ireturn, 1) := by decide +kernel
theorem dX6_made_17 : decode cX6_made 17 = .ok (.iload_n 3, 1) := by decide +kernel
theorem dX6_made_18 : decode cX6_made 18 = .ok (.iconst 0, 1) := by decide +kernel
theorem dX6_made_19 : decode cX6_made 19 = .ok (.iconst 2, 1) := by decide +kernel
theorem dX6_made_20 : decode cX6_made 20 = .ok (.invokestatic 45, 3) := by decide +kernel
theorem dX6_made_23 : decode cX6_made 23 = .ok (.ifCond .ne 6, 3) := by decide +kernel
theorem dX6_made_26 : decode cX6_made 26 = .ok (.bipush (-102), 2) := by decide +kernel
theorem dX6_made_28 : decode cX6_made 28 = .ok (.ireturn, 1) := by decide +kernel
theorem dX6_made_29 : decode cX6_made 29 = .ok (.aload_n 0, 1) := by decide +kernel
theorem dX6_made_30 : decode cX6_made 30 = .ok (.getfield 11, 3) := by decide +kernel
theorem dX6_made_33 : decode cX6_made 33 = .ok (.iload_n 1, 1) := by decide +kernel
theorem dX6_made_34 : decode cX6_made 34 = .ok (.aaload, 1) := by decide +kernel
theorem dX6_made_35 : decode cX6_made 35 = .ok (.astore 4, 2) := by decide +kernel
theorem dX6_made_37 : decode cX6_made 37 = .ok (.aload 4, 2) := by decide +kernel
theorem dX6_made_39 : decode cX6_made 39 = .ok (.aload_n 0, 1) := by decide +kernel
theorem dX6_made_40 : decode cX6_made 40 = .ok (.getfield 11, 3) := by decide +kernel
theorem dX6_made_43 : decode cX6_made 43 = .ok (.iload_n 2, 1) := by decide +kernel
theorem dX6_made_44 : decode cX6_made 44 = .ok (.aaload, 1) := by decide +kernel
theorem dX6_made_45 : decode cX6_made 45 = .ok (.invokevirtual 60, 3) := by decide +kernel
theorem dX6_made_48 : decode cX6_made 48 = .ok (.iload_n 3, 1) := by decide +kernel
theorem dX6_made_49 : decode cX6_made 49 = .ok (.ifCond .ne 11, 3) := by decide +kernel
theorem dX6_made_52 : decode cX6_made 52 = .ok (.aload 4, 2) := by decide +kernel
theorem dX6_made_54 : decode cX6_made 54 = .ok (.invokevirtual 64, 3) := by decide +kernel
theorem dX6_made_57 : decode cX6_made 57 = .ok (.goto 21, 3) := by decide +kernel
theorem dX6_made_60 : decode cX6_made 60 = .ok (.iload_n 3, 1) := by decide +kernel
theorem dX6_made_61 : decode cX6_made 61 = .ok (.iconst 1, 1) := by decide +kernel
theorem dX6_made_62 : decode cX6_made 62 = .ok (.if_icmp .ne 11, 3) := by decide +kernel
theorem dX6_made_65 : decode cX6_made 65 = .ok (.aload 4, 2) := by decide +kernel
theorem dX6_made_67 : decode cX6_made 67 = .ok (.invokevirtual 67, 3) := by decide +kernel
theorem dX6_made_70 : decode cX6_made 70 = .ok (.goto 8, 3) := by decide +kernel
theorem dX6_made_73 : decode cX6_made 73 = .ok (.aload 4, 2) := by decide +kernel
theorem dX6_made_75 : decode cX6_made 75 = .ok (.invokevirtual 70, 3) := by decide +kernel
theorem dX6_made_78 : decode cX6_made 78 = .ok (.aload 4, 2) := by decide +kernel
theorem dX6_made_80 : decode cX6_made 80 = .ok (.getfield 73, 3) := by decide +kernel
theorem dX6_made_83 : decode cX6_made 83 = .ok (.ireturn, 1) := by decide +kernel
set_option maxRecDepth 20000 in
theorem ggX6_look_X6_isSign : GoodIn wsX6_look wsX6_isSign := goodIn_r _ [5, 6, 7, 4, 8] (by decide +kernel) (by decide +kernel)
set_option maxRecDepth 20000 in
theorem gX6_look_X6_isSign : GoodIn wsX6_look (va_wsS RX6 41 yX6_isSign wsX6_isSign) := goodIn_app (goodIn_of _ (by decide +kernel)) ggX6_look_X6_isSign
set_option maxRecDepth 20000 in
theorem ggX6_look_X6_within : GoodIn wsX6_look wsX6_within := goodIn_r _ [8] (by decide +kernel) (by decide +kernel)
set_option maxRecDepth 20000 in
theorem gX6_look_X6_within : GoodIn wsX6_look (va_wsS RX6 45 yX6_within wsX6_within) := goodIn_app (goodIn_of _ (by decide +kernel)) ggX6_look_X6_within
set_option maxRecDepth 20000 in
theorem ggX6_look_X6_isPart : GoodIn wsX6_look wsX6_isPart := goodIn_r _ [11, 6, 7, 4, 8] (by decide +kernel) (by decide +kernel)
set_option maxRecDepth 20000 in
theorem gX6_look_X6_isPart : GoodIn wsX6_look (va_wsS RX6 76 yX6_isPart wsX6_isPart) := goodIn_app (goodIn_of _ (by decide +kernel)) ggX6_look_X6_isPart
set_option maxRecDepth 20000 in
theorem ggX6_look_X5_lookPart : GoodIn wsX6_look wsX5_lookPart := goodIn_r _ [16, 17, 18, 19, 20, 21, 15, 22, 7, 4, 8, 23, 24, 30, 31] (by decide +kernel) (by decide +kernel)
set_option maxRecDepth 20000 in
theorem gX6_look_X5_lookPart : GoodIn wsX6_look (wsV RX6 79 RX5 yX5_lookPart wsX5_lookPart) := goodIn_app (goodIn_of _ (by decide +kernel)) ggX6_look_X5_lookPart
theorem dX6_look_0 : decode cX6_look 0 = .ok (.iload_n 1, 1) := by decide +kernel
theorem dX6_look_1 : decode cX6_look 1 = .ok (.invokestatic 41, 3) := by decide +kernel
theorem dX6_look_4 : decode cX6_look 4 = .ok (.ifCond .eq 10, 3) := by decide +kernel
theorem dX6_look_7 : decode cX6_look 7 = .ok (.iload_n 2, 1) := by decide +kernel
theorem dX6_look_8 : decode cX6_look 8 = .ok (.invokestatic 41, 3) := by decide +kernel
theorem dX6_look_11 : decode cX6_look 11 = .ok (.ifCond .ne 7, 3) := by decide +kernel
theorem dX6_look_14 : decode cX6_look 14 = .ok (.sipush (-1000), 3) := by decide +kernel
theorem dX6_look_17 : decode cX6_look 17 = .ok (.ireturn, 1) := by decide +kernel
theorem dX6_look_18 : decode cX6_look 18 = .ok (.iload_n 3, 1) := by decide +kernel
theorem dX6_look_19 : decode cX6_look 19 = .ok (.bipush (-15), 2) := by decide +kernel
theorem dX6_look_21 : decode cX6_look 21 = .ok (.bipush 15, 2) := by decide +kernel
theorem dX6_look_23 : decode cX6_look 23 = .ok (.invokestatic 45, 3) := by decide +kernel
theorem dX6_look_26 : decode cX6_look 26 = .ok (.ifCond .eq 21, 3) := by decide +kernel
theorem dX6_look_29 : decode cX6_look 29 = .ok (.iload 4, 2) := by decide +kernel
theorem dX6_look_31 : decode cX6_look 31 = .ok (.iconst 0, 1) := by decide +kernel
theorem dX6_look_32 : decode cX6_look 32 = .ok (.iconst 3, 1) := by decide +kernel
theorem dX6_look_33 : decode cX6_look 33 = .ok (.invokestatic 45, 3) := by decide +kernel
theorem dX6_look_36 : decode cX6_look 36 = .ok (.ifCond .eq 11, 3) := by decide +kernel
theorem dX6_look_39 : decode cX6_look 39 = .ok (.iload 5, 2) := by decide +kernel
theorem dX6_look_41 : decode cX6_look 41 = .ok (.invokestatic 76, 3) := by decide +kernel
theorem dX6_look_44 : decode cX6_look 44 = .ok (.ifCond .ne 7, 3) := by decide +kernel
theorem dX6_look_47 : decode cX6_look 47 = .ok (.sipush (-1001), 3) := by decide +kernel
theorem dX6_look_50 : decode cX6_look 50 = .ok (.ireturn, 1) := by decide +kernel
theorem dX6_look_51 : decode cX6_look 51 = .ok (.aload_n 0, 1) := by decide +kernel
theorem dX6_look_52 : decode cX6_look 52 = .ok (.getfield 11, 3) := by decide +kernel
theorem dX6_look_55 : decode cX6_look 55 = .ok (.iload_n 1, 1) := by decide +kernel
theorem dX6_look_56 : decode cX6_look 56 = .ok (.aaload, 1) := by decide +kernel
theorem dX6_look_57 : decode cX6_look 57 = .ok (.aload_n 0, 1) := by decide +kernel
theorem dX6_look_58 : decode cX6_look 58 = .ok (.getfield 11, 3) := by decide +kernel
theorem dX6_look_61 : decode cX6_look 61 = .ok (.iload_n 2, 1) := by decide +kernel
theorem dX6_look_62 : decode cX6_look 62 = .ok (.aaload, 1) := by decide +kernel
theorem dX6_look_63 : decode cX6_look 63 = .ok (.iload_n 3, 1) := by decide +kernel
theorem dX6_look_64 : decode cX6_look 64 = .ok (.iload 4, 2) := by decide +kernel
theorem dX6_look_66 : decode cX6_look 66 = .ok (.iload 5, 2) := by decide +kernel
theorem dX6_look_68 : decode cX6_look 68 = .ok (.invokevirtual 79, 3) := by decide +kernel
theorem dX6_look_71 : decode cX6_look 71 = .ok (.ireturn, 1) := by decide +kernel
set_option maxRecDepth 20000 in
theorem ggX6_peak_X6_isSign : GoodIn wsX6_peak wsX6_isSign := goodIn_r _ [5, 6, 7, 4, 8] (by decide +kernel) (by decide +kernel)
set_option maxRecDepth 20000 in
theorem gX6_peak_X6_isSign : GoodIn wsX6_peak (va_wsS RX6 41 yX6_isSign wsX6_isSign) := goodIn_app (goodIn_of _ (by decide +kernel)) ggX6_peak_X6_isSign
set_option maxRecDepth 20000 in
theorem ggX6_peak_X5_greatestSide : GoodIn wsX6_peak wsX5_greatestSide := goodIn_r _ [13, 14, 15, 16, 17, 18, 19, 20, 21, 12, 22, 23, 24, 25, 26, 27, 28, 29, 30, 31, 7, 4, 8, 32, 33, 39, 40] (by decide +kernel) (by decide +kernel)
set_option maxRecDepth 20000 in
theorem gX6_peak_X5_greatestSide : GoodIn wsX6_peak (wsV RX6 83 RX5 yX5_greatestSide wsX5_greatestSide) := goodIn_app (goodIn_of _ (by decide +kernel)) ggX6_peak_X5_greatestSide
theorem dX6_peak_0 : decode cX6_peak 0 = .ok (.iload_n 1, 1) := by decide +kernel
theorem dX6_peak_1 : decode cX6_peak 1 = .ok (.invokestatic 41, 3) := by decide +kernel
theorem dX6_peak_4 : decode cX6_peak 4 = .ok (.ifCond .eq 15, 3) := by decide +kernel
theorem dX6_peak_7 : decode cX6_peak 7 = .ok (.aload_n 0, 1) := by decide +kernel
theorem dX6_peak_8 : decode cX6_peak 8 = .ok (.getfield 11, 3) := by decide +kernel
theorem dX6_peak_11 : decode cX6_peak 11 = .ok (.iload_n 1, 1) := by decide +kernel
theorem dX6_peak_12 : decode cX6_peak 12 = .ok (.aaload, 1) := by decide +kernel
theorem dX6_peak_13 : decode cX6_peak 13 = .ok (.invokevirtual 83, 3) := by decide +kernel
theorem dX6_peak_16 : decode cX6_peak 16 = .ok (.goto 5, 3) := by decide +kernel
theorem dX6_peak_19 : decode cX6_peak 19 = .ok (.bipush (-101), 2) := by decide +kernel
theorem dX6_peak_21 : decode cX6_peak 21 = .ok (.ireturn, 1) := by decide +kernel
set_option maxRecDepth 20000 in
theorem ggX6_flank_X6_isSign : GoodIn wsX6_flank wsX6_isSign := goodIn_r _ [5, 6, 7, 4, 8] (by decide +kernel) (by decide +kernel)
set_option maxRecDepth 20000 in
theorem gX6_flank_X6_isSign : GoodIn wsX6_flank (va_wsS RX6 41 yX6_isSign wsX6_isSign) := goodIn_app (goodIn_of _ (by decide +kernel)) ggX6_flank_X6_isSign
set_option maxRecDepth 20000 in
theorem ggX6_flank_X5_sumOfSides : GoodIn wsX6_flank wsX5_sumOfSides := goodIn_r _ [13, 14, 15, 16, 17, 12, 18, 19, 20, 21, 22, 23, 24, 25, 26, 27, 7, 4, 8, 28, 29, 35, 36] (by decide +kernel) (by decide +kernel)
set_option maxRecDepth 20000 in
theorem gX6_flank_X5_sumOfSides : GoodIn wsX6_flank (wsV RX6 87 RX5 yX5_sumOfSides wsX5_sumOfSides) := goodIn_app (goodIn_of _ (by decide +kernel)) ggX6_flank_X5_sumOfSides
theorem dX6_flank_0 : decode cX6_flank 0 = .ok (.iload_n 1, 1) := by decide +kernel
theorem dX6_flank_1 : decode cX6_flank 1 = .ok (.invokestatic 41, 3) := by decide +kernel
theorem dX6_flank_4 : decode cX6_flank 4 = .ok (.ifCond .eq 15, 3) := by decide +kernel
theorem dX6_flank_7 : decode cX6_flank 7 = .ok (.aload_n 0, 1) := by decide +kernel
theorem dX6_flank_8 : decode cX6_flank 8 = .ok (.getfield 11, 3) := by decide +kernel
theorem dX6_flank_11 : decode cX6_flank 11 = .ok (.iload_n 1, 1) := by decide +kernel
theorem dX6_flank_12 : decode cX6_flank 12 = .ok (.aaload, 1) := by decide +kernel
theorem dX6_flank_13 : decode cX6_flank 13 = .ok (.invokevirtual 87, 3) := by decide +kernel
theorem dX6_flank_16 : decode cX6_flank 16 = .ok (.goto 5, 3) := by decide +kernel
theorem dX6_flank_19 : decode cX6_flank 19 = .ok (.bipush (-101), 2) := by decide +kernel
theorem dX6_flank_21 : decode cX6_flank 21 = .ok (.ireturn, 1) := by decide +kernel
set_option maxRecDepth 20000 in
theorem ggX6_worst_X6_isSign : GoodIn wsX6_worst wsX6_isSign := goodIn_r _ [5, 6, 7, 4, 8] (by decide +kernel) (by decide +kernel)
set_option maxRecDepth 20000 in
theorem gX6_worst_X6_isSign : GoodIn wsX6_worst (va_wsS RX6 41 yX6_isSign wsX6_isSign) := goodIn_app (goodIn_of _ (by decide +kernel)) ggX6_worst_X6_isSign
set_option maxRecDepth 20000 in
theorem ggX6_worst_X5_greatestOwnLook : GoodIn wsX6_worst wsX5_greatestOwnLook := goodIn_r _ [13, 14, 15, 16, 17, 18, 19, 20, 12, 21, 22, 23, 24, 25, 26, 27, 28, 29, 30, 31, 7, 4, 8, 32, 33, 39, 40] (by decide +kernel) (by decide +kernel)
set_option maxRecDepth 20000 in
theorem gX6_worst_X5_greatestOwnLook : GoodIn wsX6_worst (wsV RX6 90 RX5 yX5_greatestOwnLook wsX5_greatestOwnLook) := goodIn_app (goodIn_of _ (by decide +kernel)) ggX6_worst_X5_greatestOwnLook
theorem dX6_worst_0 : decode cX6_worst 0 = .ok (.iload_n 1, 1) := by decide +kernel
theorem dX6_worst_1 : decode cX6_worst 1 = .ok (.invokestatic 41, 3) := by decide +kernel
theorem dX6_worst_4 : decode cX6_worst 4 = .ok (.ifCond .eq 15, 3) := by decide +kernel
theorem dX6_worst_7 : decode cX6_worst 7 = .ok (.aload_n 0, 1) := by decide +kernel
theorem dX6_worst_8 : decode cX6_worst 8 = .ok (.getfield 11, 3) := by decide +kernel
theorem dX6_worst_11 : decode cX6_worst 11 = .ok (.iload_n 1, 1) := by decide +kernel
theorem dX6_worst_12 : decode cX6_worst 12 = .ok (.aaload, 1) := by decide +kernel
theorem dX6_worst_13 : decode cX6_worst 13 = .ok (.invokevirtual 90, 3) := by decide +kernel
theorem dX6_worst_16 : decode cX6_worst 16 = .ok (.goto 5, 3) := by decide +kernel
theorem dX6_worst_19 : decode cX6_worst 19 = .ok (.bipush (-101), 2) := by decide +kernel
theorem dX6_worst_21 : decode cX6_worst 21 = .ok (.ireturn, 1) := by decide +kernel
set_option maxRecDepth 20000 in
theorem ggX6_best_X6_isSign : GoodIn wsX6_best wsX6_isSign := goodIn_r _ [6, 7, 8, 5, 9] (by decide +kernel) (by decide +kernel)
set_option maxRecDepth 20000 in
theorem gX6_best_X6_isSign : GoodIn wsX6_best (va_wsS RX6 41 yX6_isSign wsX6_isSign) := goodIn_app (goodIn_of _ (by decide +kernel)) ggX6_best_X6_isSign
set_option maxRecDepth 20000 in
theorem ggX6_best_X6_within : GoodIn wsX6_best wsX6_within := goodIn_r _ [9] (by decide +kernel) (by decide +kernel)
set_option maxRecDepth 20000 in
theorem gX6_best_X6_within : GoodIn wsX6_best (va_wsS RX6 45 yX6_within wsX6_within) := goodIn_app (goodIn_of _ (by decide +kernel)) ggX6_best_X6_within
set_option maxRecDepth 20000 in
theorem ggX6_best_X4_leastSided : GoodIn wsX6_best wsX4_leastSided := goodIn_r _ [13, 14, 15, 12, 16, 17, 18, 19, 20, 21, 22, 23, 24, 25, 26, 27, 28, 29, 30, 31, 32, 33] (by decide +kernel) (by decide +kernel)
set_option maxRecDepth 20000 in
theorem gX6_best_X4_leastSided : GoodIn wsX6_best (va_wsS RX6 93 yX4_leastSided wsX4_leastSided) := goodIn_app (goodIn_of _ (by decide +kernel)) ggX6_best_X4_leastSided
set_option maxRecDepth 20000 in
theorem ggX6_best_X5_takeBits : GoodIn wsX6_best wsX5_takeBits := goodIn_r _ [38, 39, 40, 65, 66] (by decide +kernel) (by decide +kernel)
set_option maxRecDepth 20000 in
theorem gX6_best_X5_takeBits : GoodIn wsX6_best (wsV RX6 99 RX5 yX5_takeBits wsX5_takeBits) := goodIn_app (goodIn_of _ (by decide +kernel)) ggX6_best_X5_takeBits
set_option maxRecDepth 20000 in
theorem ggX6_best_X5_greatestSide : GoodIn wsX6_best wsX5_greatestSide := goodIn_r _ [44, 39, 45, 18, 19, 20, 46, 47, 48, 37, 49, 50, 51, 52, 53, 40, 54, 55, 56, 57, 8, 5, 9, 58, 59, 65, 66] (by decide +kernel) (by decide +kernel)
set_option maxRecDepth 20000 in
theorem gX6_best_X5_greatestSide : GoodIn wsX6_best (wsV RX6 83 RX5 yX5_greatestSide wsX5_greatestSide) := goodIn_app (goodIn_of _ (by decide +kernel)) ggX6_best_X5_greatestSide
theorem dX6_best_0 : decode cX6_best 0 = .ok (.iload_n 1, 1) := by decide +kernel
theorem dX6_best_1 : decode cX6_best 1 = .ok (.invokestatic 41, 3) := by decide +kernel
theorem dX6_best_4 : decode cX6_best 4 = .ok (.ifCond .ne 6, 3) := by decide +kernel
theorem dX6_best_7 : decode cX6_best 7 = .ok (.bipush (-101), 2) := by decide +kernel
theorem dX6_best_9 : decode cX6_best 9 = .ok (.ireturn, 1) := by decide +kernel
theorem dX6_best_10 : decode cX6_best 10 = .ok (.iload_n 2, 1) := by decide +kernel
theorem dX6_best_11 : decode cX6_best 11 = .ok (.iconst 1, 1) := by decide +kernel
theorem dX6_best_12 : decode cX6_best 12 = .ok (.bipush 12, 2) := by decide +kernel
theorem dX6_best_14 : decode cX6_best 14 = .ok (.invokestatic 45, 3) := by decide +kernel
theorem dX6_best_17 : decode cX6_best 17 = .ok (.ifCond .ne 6, 3) := by decide +kernel
theorem dX6_best_20 : decode cX6_best 20 = .ok (.bipush (-102), 2) := by decide +kernel
theorem dX6_best_22 : decode cX6_best 22 = .ok (.ireturn, 1) := by decide +kernel
theorem dX6_best_23 : decode cX6_best 23 = .ok (.aload_n 0, 1) := by decide +kernel
theorem dX6_best_24 : decode cX6_best 24 = .ok (.getfield 36, 3) := by decide +kernel
theorem dX6_best_27 : decode cX6_best 27 = .ok (.bipush 30, 2) := by decide +kernel
theorem dX6_best_29 : decode cX6_best 29 = .ok (.if_icmp .lt 6, 3) := by decide +kernel
theorem dX6_best_32 : decode cX6_best 32 = .ok (.bipush (-104), 2) := by decide +kernel
theorem dX6_best_34 : decode cX6_best 34 = .ok (.ireturn, 1) := by decide +kernel
theorem dX6_best_35 : decode cX6_best 35 = .ok (.aload_n 0, 1) := by decide +kernel
theorem dX6_best_36 : decode cX6_best 36 = .ok (.dup, 1) := by decide +kernel
theorem dX6_best_37 : decode cX6_best 37 = .ok (.getfield 36, 3) := by decide +kernel
theorem dX6_best_40 : decode cX6_best 40 = .ok (.iconst 1, 1) := by decide +kernel
theorem dX6_best_41 : decode cX6_best 41 = .ok (.iadd, 1) := by decide +kernel
theorem dX6_best_42 : decode cX6_best 42 = .ok (.putfield 36, 3) := by decide +kernel
theorem dX6_best_45 : decode cX6_best 45 = .ok (.aload_n 0, 1) := by decide +kernel
theorem dX6_best_46 : decode cX6_best 46 = .ok (.getfield 11, 3) := by decide +kernel
theorem dX6_best_49 : decode cX6_best 49 = .ok (.iload_n 1, 1) := by decide +kernel
theorem dX6_best_50 : decode cX6_best 50 = .ok (.aaload, 1) := by decide +kernel
theorem dX6_best_51 : decode cX6_best 51 = .ok (.iload_n 2, 1) := by decide +kernel
theorem dX6_best_52 : decode cX6_best 52 = .ok (.invokestatic 93, 3) := by decide +kernel
theorem dX6_best_55 : decode cX6_best 55 = .ok (.iload_n 2, 1) := by decide +kernel
theorem dX6_best_56 : decode cX6_best 56 = .ok (.invokevirtual 99, 3) := by decide +kernel
theorem dX6_best_59 : decode cX6_best 59 = .ok (.aload_n 0, 1) := by decide +kernel
theorem dX6_best_60 : decode cX6_best 60 = .ok (.getfield 11, 3) := by decide +kernel
theorem dX6_best_63 : decode cX6_best 63 = .ok (.iload_n 1, 1) := by decide +kernel
theorem dX6_best_64 : decode cX6_best 64 = .ok (.aaload, 1) := by decide +kernel
theorem dX6_best_65 : decode cX6_best 65 = .ok (.invokevirtual 83, 3) := by decide +kernel
theorem dX6_best_68 : decode cX6_best 68 = .ok (.ireturn, 1) := by decide +kernel
set_option maxRecDepth 20000 in
theorem ggX6_pair_X6_isSign : GoodIn wsX6_pair wsX6_isSign := goodIn_r _ [5, 6, 7, 4, 8] (by decide +kernel) (by decide +kernel)
set_option maxRecDepth 20000 in
theorem gX6_pair_X6_isSign : GoodIn wsX6_pair (va_wsS RX6 41 yX6_isSign wsX6_isSign) := goodIn_app (goodIn_of _ (by decide +kernel)) ggX6_pair_X6_isSign
set_option maxRecDepth 20000 in
theorem ggX6_pair_X5_sidesGoOutWith : GoodIn wsX6_pair wsX5_sidesGoOutWith := goodIn_r _ [13, 14, 15, 16, 17, 12, 18, 19, 20, 21, 22, 23, 7, 4, 8, 24, 25, 31, 32] (by decide +kernel) (by decide +kernel)
set_option maxRecDepth 20000 in
theorem gX6_pair_X5_sidesGoOutWith : GoodIn wsX6_pair (wsV RX6 103 RX5 yX5_sidesGoOutWith wsX5_sidesGoOutWith) := goodIn_app (goodIn_of _ (by decide +kernel)) ggX6_pair_X5_sidesGoOutWith
theorem dX6_pair_0 : decode cX6_pair 0 = .ok (.iload_n 1, 1) := by decide +kernel
theorem dX6_pair_1 : decode cX6_pair 1 = .ok (.invokestatic 41, 3) := by decide +kernel
theorem dX6_pair_4 : decode cX6_pair 4 = .ok (.ifCond .eq 10, 3) := by decide +kernel
theorem dX6_pair_7 : decode cX6_pair 7 = .ok (.iload_n 2, 1) := by decide +kernel
theorem dX6_pair_8 : decode cX6_pair 8 = .ok (.invokestatic 41, 3) := by decide +kernel
theorem dX6_pair_11 : decode cX6_pair 11 = .ok (.ifCond .ne 6, 3) := by decide +kernel
theorem dX6_pair_14 : decode cX6_pair 14 = .ok (.bipush (-101), 2) := by decide +kernel
theorem dX6_pair_16 : decode cX6_pair 16 = .ok (.ireturn, 1) := by decide +kernel
theorem dX6_pair_17 : decode cX6_pair 17 = .ok (.aload_n 0, 1) := by decide +kernel
theorem dX6_pair_18 : decode cX6_pair 18 = .ok (.getfield 11, 3) := by decide +kernel
theorem dX6_pair_21 : decode cX6_pair 21 = .ok (.iload_n 1, 1) := by decide +kernel
theorem dX6_pair_22 : decode cX6_pair 22 = .ok (.aaload, 1) := by decide +kernel
theorem dX6_pair_23 : decode cX6_pair 23 = .ok (.aload_n 0, 1) := by decide +kernel
theorem dX6_pair_24 : decode cX6_pair 24 = .ok (.getfield 11, 3) := by decide +kernel
theorem dX6_pair_27 : decode cX6_pair 27 = .ok (.iload_n 2, 1) := by decide +kernel
theorem dX6_pair_28 : decode cX6_pair 28 = .ok (.aaload, 1) := by decide +kernel
theorem dX6_pair_29 : decode cX6_pair 29 = .ok (.invokevirtual 103, 3) := by decide +kernel
theorem dX6_pair_32 : decode cX6_pair 32 = .ok (.ifCond .eq 7, 3) := by decide +kernel
theorem dX6_pair_35 : decode cX6_pair 35 = .ok (.iconst 1, 1) := by decide +kernel
theorem dX6_pair_36 : decode cX6_pair 36 = .ok (.goto 4, 3) := by decide +kernel
theorem dX6_pair_39 : decode cX6_pair 39 = .ok (.iconst 0, 1) := by decide +kernel
theorem dX6_pair_40 : decode cX6_pair 40 = .ok (.ireturn, 1) := by decide +kernel
set_option maxRecDepth 20000 in
theorem ggX6_filter_X6_within : GoodIn wsX6_filter wsX6_within := goodIn_r _ [5] (by decide +kernel) (by decide +kernel)
set_option maxRecDepth 20000 in
theorem gX6_filter_X6_within : GoodIn wsX6_filter (va_wsS RX6 45 yX6_within wsX6_within) := goodIn_app (goodIn_of _ (by decide +kernel)) ggX6_filter_X6_within
set_option maxRecDepth 20000 in
theorem ggX6_filter_X1_reset : GoodIn wsX6_filter wsX1_reset := goodIn_r _ [10, 11, 12, 18, 19] (by decide +kernel) (by decide +kernel)
set_option maxRecDepth 20000 in
theorem gX6_filter_X1_reset : GoodIn wsX6_filter (wsV RX6 107 RX1 yX1_reset wsX1_reset) := goodIn_app (goodIn_of _ (by decide +kernel)) ggX6_filter_X1_reset
theorem dX6_filter_0 : decode cX6_filter 0 = .ok (.iload_n 1, 1) := by decide +kernel
theorem dX6_filter_1 : decode cX6_filter 1 = .ok (.iconst 1, 1) := by decide +kernel
theorem dX6_filter_2 : decode cX6_filter 2 = .ok (.bipush 24, 2) := by decide +kernel
theorem dX6_filter_4 : decode cX6_filter 4 = .ok (.invokestatic 45, 3) := by decide +kernel
theorem dX6_filter_7 : decode cX6_filter 7 = .ok (.ifCond .ne 6, 3) := by decide +kernel
theorem dX6_filter_10 : decode cX6_filter 10 = .ok (.bipush (-102), 2) := by decide +kernel
theorem dX6_filter_12 : decode cX6_filter 12 = .ok (.ireturn, 1) := by decide +kernel
theorem dX6_filter_13 : decode cX6_filter 13 = .ok (.aload_n 0, 1) := by decide +kernel
theorem dX6_filter_14 : decode cX6_filter 14 = .ok (.getfield 18, 3) := by decide +kernel
theorem dX6_filter_17 : decode cX6_filter 17 = .ok (.iload_n 1, 1) := by decide +kernel
theorem dX6_filter_18 : decode cX6_filter 18 = .ok (.invokevirtual 107, 3) := by decide +kernel
theorem dX6_filter_21 : decode cX6_filter 21 = .ok (.iload_n 1, 1) := by decide +kernel
theorem dX6_filter_22 : decode cX6_filter 22 = .ok (.ireturn, 1) := by decide +kernel
set_option maxRecDepth 20000 in
theorem ggX6_weight_X6_within : GoodIn wsX6_weight wsX6_within := goodIn_r _ [7] (by decide +kernel) (by decide +kernel)
set_option maxRecDepth 20000 in
theorem gX6_weight_X6_within : GoodIn wsX6_weight (va_wsS RX6 45 yX6_within wsX6_within) := goodIn_app (goodIn_of _ (by decide +kernel)) ggX6_weight_X6_within
theorem dX6_weight_0 : decode cX6_weight 0 = .ok (.iload_n 1, 1) := by decide +kernel
theorem dX6_weight_1 : decode cX6_weight 1 = .ok (.iconst 0, 1) := by decide +kernel
theorem dX6_weight_2 : decode cX6_weight 2 = .ok (.aload_n 0, 1) := by decide +kernel
theorem dX6_weight_3 : decode cX6_weight 3 = .ok (.getfield 18, 3) := by decide +kernel
theorem dX6_weight_6 : decode cX6_weight 6 = .ok (.getfield 108, 3) := by decide +kernel
theorem dX6_weight_9 : decode cX6_weight 9 = .ok (.iconst 1, 1) := by decide +kernel
theorem dX6_weight_10 : decode cX6_weight 10 = .ok (.isub, 1) := by decide +kernel
theorem dX6_weight_11 : decode cX6_weight 11 = .ok (.invokestatic 45, 3) := by decide +kernel
theorem dX6_weight_14 : decode cX6_weight 14 = .ok (.ifCond .ne 7, 3) := by decide +kernel
theorem dX6_weight_17 : decode cX6_weight 17 = .ok (.sipush (-1000), 3) := by decide +kernel
theorem dX6_weight_20 : decode cX6_weight 20 = .ok (.ireturn, 1) := by decide +kernel
theorem dX6_weight_21 : decode cX6_weight 21 = .ok (.iload_n 2, 1) := by decide +kernel
theorem dX6_weight_22 : decode cX6_weight 22 = .ok (.bipush (-50), 2) := by decide +kernel
theorem dX6_weight_24 : decode cX6_weight 24 = .ok (.bipush 50, 2) := by decide +kernel
theorem dX6_weight_26 : decode cX6_weight 26 = .ok (.invokestatic 45, 3) := by decide +kernel
theorem dX6_weight_29 : decode cX6_weight 29 = .ok (.ifCond .ne 7, 3) := by decide +kernel
theorem dX6_weight_32 : decode cX6_weight 32 = .ok (.sipush (-1001), 3) := by decide +kernel
theorem dX6_weight_35 : decode cX6_weight 35 = .ok (.ireturn, 1) := by decide +kernel
theorem dX6_weight_36 : decode cX6_weight 36 = .ok (.aload_n 0, 1) := by decide +kernel
theorem dX6_weight_37 : decode cX6_weight 37 = .ok (.getfield 18, 3) := by decide +kernel
theorem dX6_weight_40 : decode cX6_weight 40 = .ok (.getfield 109, 3) := by decide +kernel
theorem dX6_weight_43 : decode cX6_weight 43 = .ok (.iload_n 1, 1) := by decide +kernel
theorem dX6_weight_44 : decode cX6_weight 44 = .ok (.iaload, 1) := by decide +kernel
theorem dX6_weight_45 : decode cX6_weight 45 = .ok (.istore_n 3, 1) := by decide +kernel
theorem dX6_weight_46 : decode cX6_weight 46 = .ok (.aload_n 0, 1) := by decide +kernel
theorem dX6_weight_47 : decode cX6_weight 47 = .ok (.getfield 18, 3) := by decide +kernel
theorem dX6_weight_50 : decode cX6_weight 50 = .ok (.getfield 109, 3) := by decide +kernel
theorem dX6_weight_53 : decode cX6_weight 53 = .ok (.iload_n 1, 1) := by decide +kernel
theorem dX6_weight_54 : decode cX6_weight 54 = .ok (.iload_n 2, 1) := by decide +kernel
theorem dX6_weight_55 : decode cX6_weight 55 = .ok (.iastore, 1) := by decide +kernel
theorem dX6_weight_56 : decode cX6_weight 56 = .ok (.iload_n 3, 1) := by decide +kernel
theorem dX6_weight_57 : decode cX6_weight 57 = .ok (.ireturn, 1) := by decide +kernel
set_option maxRecDepth 20000 in
theorem ggX6_own_X6_isSign : GoodIn wsX6_own wsX6_isSign := goodIn_r _ [7, 8, 9, 6, 10] (by decide +kernel) (by decide +kernel)
set_option maxRecDepth 20000 in
theorem gX6_own_X6_isSign : GoodIn wsX6_own (va_wsS RX6 41 yX6_isSign wsX6_isSign) := goodIn_app (goodIn_of _ (by decide +kernel)) ggX6_own_X6_isSign
set_option maxRecDepth 20000 in
theorem ggX6_own_X1_matchTo : GoodIn wsX6_own wsX1_matchTo := goodIn_r _ [15, 16, 17, 18, 19, 20, 6, 21, 29, 30, 27, 28] (by decide +kernel) (by decide +kernel)
set_option maxRecDepth 20000 in
theorem gX6_own_X1_matchTo : GoodIn wsX6_own (wsV RX6 112 RX1 yX1_matchTo wsX1_matchTo) := goodIn_app (goodIn_of _ (by decide +kernel)) ggX6_own_X1_matchTo
theorem dX6_own_0 : decode cX6_own 0 = .ok (.iload_n 1, 1) := by decide +kernel
theorem dX6_own_1 : decode cX6_own 1 = .ok (.invokestatic 41, 3) := by decide +kernel
theorem dX6_own_4 : decode cX6_own 4 = .ok (.ifCond .ne 6, 3) := by decide +kernel
theorem dX6_own_7 : decode cX6_own 7 = .ok (.bipush (-101), 2) := by decide +kernel
theorem dX6_own_9 : decode cX6_own 9 = .ok (.ireturn, 1) := by decide +kernel
theorem dX6_own_10 : decode cX6_own 10 = .ok (.aload_n 0, 1) := by decide +kernel
theorem dX6_own_11 : decode cX6_own 11 = .ok (.getfield 18, 3) := by decide +kernel
theorem dX6_own_14 : decode cX6_own 14 = .ok (.aload_n 0, 1) := by decide +kernel
theorem dX6_own_15 : decode cX6_own 15 = .ok (.getfield 11, 3) := by decide +kernel
theorem dX6_own_18 : decode cX6_own 18 = .ok (.iload_n 1, 1) := by decide +kernel
theorem dX6_own_19 : decode cX6_own 19 = .ok (.aaload, 1) := by decide +kernel
theorem dX6_own_20 : decode cX6_own 20 = .ok (.invokevirtual 112, 3) := by decide +kernel
theorem dX6_own_23 : decode cX6_own 23 = .ok (.aload_n 0, 1) := by decide +kernel
theorem dX6_own_24 : decode cX6_own 24 = .ok (.getfield 18, 3) := by decide +kernel
theorem dX6_own_27 : decode cX6_own 27 = .ok (.getfield 108, 3) := by decide +kernel
theorem dX6_own_30 : decode cX6_own 30 = .ok (.ireturn, 1) := by decide +kernel
set_option maxRecDepth 20000 in
theorem ggX6_answer_X6_isSign : GoodIn wsX6_answer wsX6_isSign := goodIn_r _ [8, 9, 10, 7, 11] (by decide +kernel) (by decide +kernel)
set_option maxRecDepth 20000 in
theorem gX6_answer_X6_isSign : GoodIn wsX6_answer (va_wsS RX6 41 yX6_isSign wsX6_isSign) := goodIn_app (goodIn_of _ (by decide +kernel)) ggX6_answer_X6_isSign
set_option maxRecDepth 20000 in
theorem ggX6_answer_X6_isPart : GoodIn wsX6_answer wsX6_isPart := goodIn_r _ [14, 9, 10, 7, 11] (by decide +kernel) (by decide +kernel)
set_option maxRecDepth 20000 in
theorem gX6_answer_X6_isPart : GoodIn wsX6_answer (va_wsS RX6 76 yX6_isPart wsX6_isPart) := goodIn_app (goodIn_of _ (by decide +kernel)) ggX6_answer_X6_isPart
set_option maxRecDepth 20000 in
theorem ggX6_answer_X1_answerPart : GoodIn wsX6_answer wsX1_answerPart := goodIn_r _ [19, 20, 21, 22, 23, 24, 25, 26, 27, 28, 10, 7, 11, 29, 30, 36, 37, 38, 39] (by decide +kernel) (by decide +kernel)
set_option maxRecDepth 20000 in
theorem gX6_answer_X1_answerPart : GoodIn wsX6_answer (wsV RX6 117 RX1 yX1_answerPart wsX1_answerPart) := goodIn_app (goodIn_of _ (by decide +kernel)) ggX6_answer_X1_answerPart
theorem dX6_answer_0 : decode cX6_answer 0 = .ok (.iload_n 1, 1) := by decide +kernel
theorem dX6_answer_1 : decode cX6_answer 1 = .ok (.invokestatic 41, 3) := by decide +kernel
theorem dX6_answer_4 : decode cX6_answer 4 = .ok (.ifCond .ne 6, 3) := by decide +kernel
theorem dX6_answer_7 : decode cX6_answer 7 = .ok (.ldc 115, 2) := by decide +kernel
theorem dX6_answer_9 : decode cX6_answer 9 = .ok (.ireturn, 1) := by decide +kernel
theorem dX6_answer_10 : decode cX6_answer 10 = .ok (.iload_n 2, 1) := by decide +kernel
theorem dX6_answer_11 : decode cX6_answer 11 = .ok (.ifCond .lt 10, 3) := by decide +kernel
theorem dX6_answer_14 : decode cX6_answer 14 = .ok (.iload_n 3, 1) := by decide +kernel
theorem dX6_answer_15 : decode cX6_answer 15 = .ok (.invokestatic 76, 3) := by decide +kernel
theorem dX6_answer_18 : decode cX6_answer 18 = .ok (.ifCond .ne 6, 3) := by decide +kernel
theorem dX6_answer_21 : decode cX6_answer 21 = .ok (.ldc 116, 2) := by decide +kernel
theorem dX6_answer_23 : decode cX6_answer 23 = .ok (.ireturn, 1) := by decide +kernel
theorem dX6_answer_24 : decode cX6_answer 24 = .ok (.aload_n 0, 1) := by decide +kernel
theorem dX6_answer_25 : decode cX6_answer 25 = .ok (.getfield 18, 3) := by decide +kernel
theorem dX6_answer_28 : decode cX6_answer 28 = .ok (.aload_n 0, 1) := by decide +kernel
theorem dX6_answer_29 : decode cX6_answer 29 = .ok (.getfield 11, 3) := by decide +kernel
theorem dX6_answer_32 : decode cX6_answer 32 = .ok (.iload_n 1, 1) := by decide +kernel
theorem dX6_answer_33 : decode cX6_answer 33 = .ok (.aaload, 1) := by decide +kernel
theorem dX6_answer_34 : decode cX6_answer 34 = .ok (.iload_n 2, 1) := by decide +kernel
theorem dX6_answer_35 : decode cX6_answer 35 = .ok (.iload_n 3, 1) := by decide +kernel
theorem dX6_answer_36 : decode cX6_answer 36 = .ok (.invokevirtual 117, 3) := by decide +kernel
theorem dX6_answer_39 : decode cX6_answer 39 = .ok (.ireturn, 1) := by decide +kernel
set_option maxRecDepth 20000 in
theorem ggX6_greatest_X6_isSign : GoodIn wsX6_greatest wsX6_isSign := goodIn_r _ [6, 7, 8, 5, 9] (by decide +kernel) (by decide +kernel)
set_option maxRecDepth 20000 in
theorem gX6_greatest_X6_isSign : GoodIn wsX6_greatest (va_wsS RX6 41 yX6_isSign wsX6_isSign) := goodIn_app (goodIn_of _ (by decide +kernel)) ggX6_greatest_X6_isSign
set_option maxRecDepth 20000 in
theorem ggX6_greatest_X1_greatestPlace : GoodIn wsX6_greatest wsX1_greatestPlace := goodIn_r _ [14, 15, 16, 17, 18, 19, 13, 20, 21, 22, 23, 24, 25, 26, 27, 28, 29, 30, 31, 32, 8, 5, 9, 33, 34, 40, 41, 42, 43] (by decide +kernel) (by decide +kernel)
set_option maxRecDepth 20000 in
theorem gX6_greatest_X1_greatestPlace : GoodIn wsX6_greatest (wsV RX6 121 RX1 yX1_greatestPlace wsX1_greatestPlace) := goodIn_app (goodIn_of _ (by decide +kernel)) ggX6_greatest_X1_greatestPlace
theorem dX6_greatest_0 : decode cX6_greatest 0 = .ok (.iload_n 1, 1) := by decide +kernel
theorem dX6_greatest_1 : decode cX6_greatest 1 = .ok (.invokestatic 41, 3) := by decide +kernel
theorem dX6_greatest_4 : decode cX6_greatest 4 = .ok (.ifCond .eq 19, 3) := by decide +kernel
theorem dX6_greatest_7 : decode cX6_greatest 7 = .ok (.aload_n 0, 1) := by decide +kernel
theorem dX6_greatest_8 : decode cX6_greatest 8 = .ok (.getfield 18, 3) := by decide +kernel
theorem dX6_greatest_11 : decode cX6_greatest 11 = .ok (.aload_n 0, 1) := by decide +kernel
theorem dX6_greatest_12 : decode cX6_greatest 12 = .ok (.getfield 11, 3) := by decide +kernel
theorem dX6_greatest_15 : decode cX6_greatest 15 = .ok (.iload_n 1, 1) := by decide +kernel
theorem dX6_greatest_16 : decode cX6_greatest 16 = .ok (.aaload, 1) := by decide +kernel
theorem dX6_greatest_17 : decode cX6_greatest 17 = .ok (.invokevirtual 121, 3) := by decide +kernel
theorem dX6_greatest_20 : decode cX6_greatest 20 = .ok (.goto 5, 3) := by decide +kernel
theorem dX6_greatest_23 : decode cX6_greatest 23 = .ok (.bipush (-101), 2) := by decide +kernel
theorem dX6_greatest_25 : decode cX6_greatest 25 = .ok (.ireturn, 1) := by decide +kernel
set_option maxRecDepth 20000 in
theorem ggX6_clear_X6_isSign : GoodIn wsX6_clear wsX6_isSign := goodIn_r _ [6, 7, 8, 5, 9] (by decide +kernel) (by decide +kernel)
set_option maxRecDepth 20000 in
theorem gX6_clear_X6_isSign : GoodIn wsX6_clear (va_wsS RX6 41 yX6_isSign wsX6_isSign) := goodIn_app (goodIn_of _ (by decide +kernel)) ggX6_clear_X6_isSign
set_option maxRecDepth 20000 in
theorem ggX6_clear_X1_clearness : GoodIn wsX6_clear wsX1_clearness := goodIn_r _ [14, 15, 16, 17, 18, 19, 20, 21, 22, 23, 24, 13, 25, 26, 27, 28, 29, 30, 31, 32, 33, 34, 35, 36, 37, 38, 39, 40, 41, 8, 5, 9, 42, 43, 49, 50, 51, 52] (by decide +kernel) (by decide +kernel)
set_option maxRecDepth 20000 in
theorem gX6_clear_X1_clearness : GoodIn wsX6_clear (wsV RX6 125 RX1 yX1_clearness wsX1_clearness) := goodIn_app (goodIn_of _ (by decide +kernel)) ggX6_clear_X1_clearness
theorem dX6_clear_0 : decode cX6_clear 0 = .ok (.iload_n 1, 1) := by decide +kernel
theorem dX6_clear_1 : decode cX6_clear 1 = .ok (.invokestatic 41, 3) := by decide +kernel
theorem dX6_clear_4 : decode cX6_clear 4 = .ok (.ifCond .eq 19, 3) := by decide +kernel
theorem dX6_clear_7 : decode cX6_clear 7 = .ok (.aload_n 0, 1) := by decide +kernel
theorem dX6_clear_8 : decode cX6_clear 8 = .ok (.getfield 18, 3) := by decide +kernel
theorem dX6_clear_11 : decode cX6_clear 11 = .ok (.aload_n 0, 1) := by decide +kernel
theorem dX6_clear_12 : decode cX6_clear 12 = .ok (.getfield 11, 3) := by decide +kernel
theorem dX6_clear_15 : decode cX6_clear 15 = .ok (.iload_n 1, 1) := by decide +kernel
theorem dX6_clear_16 : decode cX6_clear 16 = .ok (.aaload, 1) := by decide +kernel
theorem dX6_clear_17 : decode cX6_clear 17 = .ok (.invokevirtual 125, 3) := by decide +kernel
theorem dX6_clear_20 : decode cX6_clear 20 = .ok (.goto 5, 3) := by decide +kernel
theorem dX6_clear_23 : decode cX6_clear 23 = .ok (.bipush (-101), 2) := by decide +kernel
theorem dX6_clear_25 : decode cX6_clear 25 = .ok (.ireturn, 1) := by decide +kernel
set_option maxRecDepth 20000 in
theorem ggX6_rests_X6_within : GoodIn wsX6_rests wsX6_within := goodIn_r _ [5] (by decide +kernel) (by decide +kernel)
set_option maxRecDepth 20000 in
theorem gX6_rests_X6_within : GoodIn wsX6_rests (va_wsS RX6 45 yX6_within wsX6_within) := goodIn_app (goodIn_of _ (by decide +kernel)) ggX6_rests_X6_within
set_option maxRecDepth 20000 in
theorem ggX6_rests_X2_reset : GoodIn wsX6_rests wsX2_reset := goodIn_r _ [10, 11, 12, 13, 19, 20, 21] (by decide +kernel) (by decide +kernel)
set_option maxRecDepth 20000 in
theorem gX6_rests_X2_reset : GoodIn wsX6_rests (wsV RX6 128 RX2 yX2_reset wsX2_reset) := goodIn_app (goodIn_of _ (by decide +kernel)) ggX6_rests_X2_reset
theorem dX6_rests_0 : decode cX6_rests 0 = .ok (.iload_n 1, 1) := by decide +kernel
theorem dX6_rests_1 : decode cX6_rests 1 = .ok (.iconst 1, 1) := by decide +kernel
theorem dX6_rests_2 : decode cX6_rests 2 = .ok (.iconst 4, 1) := by decide +kernel
theorem dX6_rests_3 : decode cX6_rests 3 = .ok (.invokestatic 45, 3) := by decide +kernel
theorem dX6_rests_6 : decode cX6_rests 6 = .ok (.ifCond .ne 6, 3) := by decide +kernel
theorem dX6_rests_9 : decode cX6_rests 9 = .ok (.bipush (-102), 2) := by decide +kernel
theorem dX6_rests_11 : decode cX6_rests 11 = .ok (.ireturn, 1) := by decide +kernel
theorem dX6_rests_12 : decode cX6_rests 12 = .ok (.aload_n 0, 1) := by decide +kernel
theorem dX6_rests_13 : decode cX6_rests 13 = .ok (.getfield 25, 3) := by decide +kernel
theorem dX6_rests_16 : decode cX6_rests 16 = .ok (.iload_n 1, 1) := by decide +kernel
theorem dX6_rests_17 : decode cX6_rests 17 = .ok (.invokevirtual 128, 3) := by decide +kernel
theorem dX6_rests_20 : decode cX6_rests 20 = .ok (.iload_n 1, 1) := by decide +kernel
theorem dX6_rests_21 : decode cX6_rests 21 = .ok (.ireturn, 1) := by decide +kernel
set_option maxRecDepth 20000 in
theorem ggX6_rest_X2_has : GoodIn wsX6_rest wsX2_has := goodIn_r _ [8, 9, 10, 11, 12, 19, 20, 21] (by decide +kernel) (by decide +kernel)
set_option maxRecDepth 20000 in
theorem gX6_rest_X2_has : GoodIn wsX6_rest (wsV RX6 129 RX2 yX2_has wsX2_has) := goodIn_app (goodIn_of _ (by decide +kernel)) ggX6_rest_X2_has
set_option maxRecDepth 20000 in
theorem ggX6_rest_X6_within : GoodIn wsX6_rest wsX6_within := goodIn_r _ [12] (by decide +kernel) (by decide +kernel)
set_option maxRecDepth 20000 in
theorem gX6_rest_X6_within : GoodIn wsX6_rest (va_wsS RX6 45 yX6_within wsX6_within) := goodIn_app (goodIn_of _ (by decide +kernel)) ggX6_rest_X6_within
theorem dX6_rest_0 : decode cX6_rest 0 = .ok (.aload_n 0, 1) := by decide +kernel
theorem dX6_rest_1 : decode cX6_rest 1 = .ok (.getfield 25, 3) := by decide +kernel
theorem dX6_rest_4 : decode cX6_rest 4 = .ok (.iload_n 1, 1) := by decide +kernel
theorem dX6_rest_5 : decode cX6_rest 5 = .ok (.invokevirtual 129, 3) := by decide +kernel
theorem dX6_rest_8 : decode cX6_rest 8 = .ok (.ifCond .ne 6, 3) := by decide +kernel
theorem dX6_rest_11 : decode cX6_rest 11 = .ok (.bipush (-101), 2) := by decide +kernel
theorem dX6_rest_13 : decode cX6_rest 13 = .ok (.ireturn, 1) := by decide +kernel
theorem dX6_rest_14 : decode cX6_rest 14 = .ok (.iload_n 2, 1) := by decide +kernel
theorem dX6_rest_15 : decode cX6_rest 15 = .ok (.iconst 2, 1) := by decide +kernel
theorem dX6_rest_16 : decode cX6_rest 16 = .ok (.bipush 60, 2) := by decide +kernel
theorem dX6_rest_18 : decode cX6_rest 18 = .ok (.invokestatic 45, 3) := by decide +kernel
theorem dX6_rest_21 : decode cX6_rest 21 = .ok (.ifCond .ne 6, 3) := by decide +kernel
theorem dX6_rest_24 : decode cX6_rest 24 = .ok (.bipush (-102), 2) := by decide +kernel
theorem dX6_rest_26 : decode cX6_rest 26 = .ok (.ireturn, 1) := by decide +kernel
theorem dX6_rest_27 : decode cX6_rest 27 = .ok (.aload_n 0, 1) := by decide +kernel
theorem dX6_rest_28 : decode cX6_rest 28 = .ok (.getfield 25, 3) := by decide +kernel
theorem dX6_rest_31 : decode cX6_rest 31 = .ok (.getfield 130, 3) := by decide +kernel
theorem dX6_rest_34 : decode cX6_rest 34 = .ok (.iload_n 1, 1) := by decide +kernel
theorem dX6_rest_35 : decode cX6_rest 35 = .ok (.iaload, 1) := by decide +kernel
theorem dX6_rest_36 : decode cX6_rest 36 = .ok (.istore_n 3, 1) := by decide +kernel
theorem dX6_rest_37 : decode cX6_rest 37 = .ok (.aload_n 0, 1) := by decide +kernel
theorem dX6_rest_38 : decode cX6_rest 38 = .ok (.getfield 25, 3) := by decide +kernel
theorem dX6_rest_41 : decode cX6_rest 41 = .ok (.getfield 130, 3) := by decide +kernel
theorem dX6_rest_44 : decode cX6_rest 44 = .ok (.iload_n 1, 1) := by decide +kernel
theorem dX6_rest_45 : decode cX6_rest 45 = .ok (.iload_n 2, 1) := by decide +kernel
theorem dX6_rest_46 : decode cX6_rest 46 = .ok (.iastore, 1) := by decide +kernel
theorem dX6_rest_47 : decode cX6_rest 47 = .ok (.aload_n 0, 1) := by decide +kernel
theorem dX6_rest_48 : decode cX6_rest 48 = .ok (.getfield 25, 3) := by decide +kernel
theorem dX6_rest_51 : decode cX6_rest 51 = .ok (.getfield 133, 3) := by decide +kernel
theorem dX6_rest_54 : decode cX6_rest 54 = .ok (.iload_n 1, 1) := by decide +kernel
theorem dX6_rest_55 : decode cX6_rest 55 = .ok (.iconst (-1), 1) := by decide +kernel
theorem dX6_rest_56 : decode cX6_rest 56 = .ok (.iastore, 1) := by decide +kernel
theorem dX6_rest_57 : decode cX6_rest 57 = .ok (.iload_n 3, 1) := by decide +kernel
theorem dX6_rest_58 : decode cX6_rest 58 = .ok (.ireturn, 1) := by decide +kernel
set_option maxRecDepth 20000 in
theorem ggX6_read_X2_has : GoodIn wsX6_read wsX2_has := goodIn_r _ [8, 9, 10, 11, 12, 19, 20, 21] (by decide +kernel) (by decide +kernel)
set_option maxRecDepth 20000 in
theorem gX6_read_X2_has : GoodIn wsX6_read (wsV RX6 129 RX2 yX2_has wsX2_has) := goodIn_app (goodIn_of _ (by decide +kernel)) ggX6_read_X2_has
set_option maxRecDepth 20000 in
theorem ggX6_read_X6_within : GoodIn wsX6_read wsX6_within := goodIn_r _ [12] (by decide +kernel) (by decide +kernel)
set_option maxRecDepth 20000 in
theorem gX6_read_X6_within : GoodIn wsX6_read (va_wsS RX6 45 yX6_within wsX6_within) := goodIn_app (goodIn_of _ (by decide +kernel)) ggX6_read_X6_within
theorem dX6_read_0 : decode cX6_read 0 = .ok (.aload_n 0, 1) := by decide +kernel
theorem dX6_read_1 : decode cX6_read 1 = .ok (.getfield 25, 3) := by decide +kernel
theorem dX6_read_4 : decode cX6_read 4 = .ok (.iload_n 1, 1) := by decide +kernel
theorem dX6_read_5 : decode cX6_read 5 = .ok (.invokevirtual 129, 3) := by decide +kernel
theorem dX6_read_8 : decode cX6_read 8 = .ok (.ifCond .ne 6, 3) := by decide +kernel
theorem dX6_read_11 : decode cX6_read 11 = .ok (.bipush (-101), 2) := by decide +kernel
theorem dX6_read_13 : decode cX6_read 13 = .ok (.ireturn, 1) := by decide +kernel
theorem dX6_read_14 : decode cX6_read 14 = .ok (.iload_n 2, 1) := by decide +kernel
theorem dX6_read_15 : decode cX6_read 15 = .ok (.iconst (-1), 1) := by decide +kernel
theorem dX6_read_16 : decode cX6_read 16 = .ok (.if_icmp .eq 25, 3) := by decide +kernel
theorem dX6_read_19 : decode cX6_read 19 = .ok (.iload_n 2, 1) := by decide +kernel
theorem dX6_read_20 : decode cX6_read 20 = .ok (.iconst 0, 1) := by decide +kernel
theorem dX6_read_21 : decode cX6_read 21 = .ok (.aload_n 0, 1) := by decide +kernel
theorem dX6_read_22 : decode cX6_read 22 = .ok (.getfield 25, 3) := by decide +kernel
theorem dX6_read_25 : decode cX6_read 25 = .ok (.getfield 130, 3) := by decide +kernel
theorem dX6_read_28 : decode cX6_read 28 = .ok (.iload_n 1, 1) := by decide +kernel
theorem dX6_read_29 : decode cX6_read 29 = .ok (.iaload, 1) := by decide +kernel
theorem dX6_read_30 : decode cX6_read 30 = .ok (.iconst 1, 1) := by decide +kernel
theorem dX6_read_31 : decode cX6_read 31 = .ok (.isub, 1) := by decide +kernel
theorem dX6_read_32 : decode cX6_read 32 = .ok (.invokestatic 45, 3) := by decide +kernel
theorem dX6_read_35 : decode cX6_read 35 = .ok (.ifCond .ne 6, 3) := by decide +kernel
theorem dX6_read_38 : decode cX6_read 38 = .ok (.bipush (-102), 2) := by decide +kernel
theorem dX6_read_40 : decode cX6_read 40 = .ok (.ireturn, 1) := by decide +kernel
theorem dX6_read_41 : decode cX6_read 41 = .ok (.aload_n 0, 1) := by decide +kernel
theorem dX6_read_42 : decode cX6_read 42 = .ok (.getfield 25, 3) := by decide +kernel
theorem dX6_read_45 : decode cX6_read 45 = .ok (.getfield 133, 3) := by decide +kernel
theorem dX6_read_48 : decode cX6_read 48 = .ok (.iload_n 1, 1) := by decide +kernel
theorem dX6_read_49 : decode cX6_read 49 = .ok (.iaload, 1) := by decide +kernel
theorem dX6_read_50 : decode cX6_read 50 = .ok (.istore_n 3, 1) := by decide +kernel
theorem dX6_read_51 : decode cX6_read 51 = .ok (.aload_n 0, 1) := by decide +kernel
theorem dX6_read_52 : decode cX6_read 52 = .ok (.getfield 25, 3) := by decide +kernel
theorem dX6_read_55 : decode cX6_read 55 = .ok (.getfield 133, 3) := by decide +kernel
theorem dX6_read_58 : decode cX6_read 58 = .ok (.iload_n 1, 1) := by decide +kernel
theorem dX6_read_59 : decode cX6_read 59 = .ok (.iload_n 2, 1) := by decide +kernel
theorem dX6_read_60 : decode cX6_read 60 = .ok (.iastore, 1) := by decide +kernel
theorem dX6_read_61 : decode cX6_read 61 = .ok (.iload_n 3, 1) := by decide +kernel
theorem dX6_read_62 : decode cX6_read 62 = .ok (.ireturn, 1) := by decide +kernel
set_option maxRecDepth 20000 in
theorem ggX6_fold_X6_within : GoodIn wsX6_fold wsX6_within := goodIn_r _ [7] (by decide +kernel) (by decide +kernel)
set_option maxRecDepth 20000 in
theorem gX6_fold_X6_within : GoodIn wsX6_fold (va_wsS RX6 45 yX6_within wsX6_within) := goodIn_app (goodIn_of _ (by decide +kernel)) ggX6_fold_X6_within
set_option maxRecDepth 20000 in
theorem ggX6_fold_X2_readAll : GoodIn wsX6_fold wsX2_readAll := goodIn_r _ [12, 13, 14, 15, 16, 17, 11, 18, 19, 25, 26, 27] (by decide +kernel) (by decide +kernel)
set_option maxRecDepth 20000 in
theorem gX6_fold_X2_readAll : GoodIn wsX6_fold (wsV RX6 137 RX2 yX2_readAll wsX2_readAll) := goodIn_app (goodIn_of _ (by decide +kernel)) ggX6_fold_X2_readAll
theorem dX6_fold_0 : decode cX6_fold 0 = .ok (.iload_n 1, 1) := by decide +kernel
theorem dX6_fold_1 : decode cX6_fold 1 = .ok (.iconst 0, 1) := by decide +kernel
theorem dX6_fold_2 : decode cX6_fold 2 = .ok (.ldc 136, 2) := by decide +kernel
theorem dX6_fold_4 : decode cX6_fold 4 = .ok (.invokestatic 45, 3) := by decide +kernel
theorem dX6_fold_7 : decode cX6_fold 7 = .ok (.ifCond .ne 6, 3) := by decide +kernel
theorem dX6_fold_10 : decode cX6_fold 10 = .ok (.bipush (-102), 2) := by decide +kernel
theorem dX6_fold_12 : decode cX6_fold 12 = .ok (.ireturn, 1) := by decide +kernel
theorem dX6_fold_13 : decode cX6_fold 13 = .ok (.aload_n 0, 1) := by decide +kernel
theorem dX6_fold_14 : decode cX6_fold 14 = .ok (.getfield 25, 3) := by decide +kernel
theorem dX6_fold_17 : decode cX6_fold 17 = .ok (.iload_n 1, 1) := by decide +kernel
theorem dX6_fold_18 : decode cX6_fold 18 = .ok (.invokevirtual 137, 3) := by decide +kernel
theorem dX6_fold_21 : decode cX6_fold 21 = .ok (.aload_n 0, 1) := by decide +kernel
theorem dX6_fold_22 : decode cX6_fold 22 = .ok (.getfield 25, 3) := by decide +kernel
theorem dX6_fold_25 : decode cX6_fold 25 = .ok (.getfield 140, 3) := by decide +kernel
theorem dX6_fold_28 : decode cX6_fold 28 = .ok (.ireturn, 1) := by decide +kernel
set_option maxRecDepth 20000 in
theorem ggX6_unfold_X2_mayUnfold : GoodIn wsX6_unfold wsX2_mayUnfold := goodIn_r _ [5, 6, 7, 8] (by decide +kernel) (by decide +kernel)
set_option maxRecDepth 20000 in
theorem gX6_unfold_X2_mayUnfold : GoodIn wsX6_unfold (va_wsS RX6 141 yX2_mayUnfold wsX2_mayUnfold) := goodIn_app (goodIn_of _ (by decide +kernel)) ggX6_unfold_X2_mayUnfold
set_option maxRecDepth 20000 in
theorem ggX6_unfold_X2_fitting : GoodIn wsX6_unfold wsX2_fitting := goodIn_r _ [12, 13, 14, 15, 4, 16, 17, 18, 19, 20, 21, 22, 23, 24, 25, 26, 27, 28, 29, 30, 31, 32, 33, 34, 40, 41, 42] (by decide +kernel) (by decide +kernel)
set_option maxRecDepth 20000 in
theorem gX6_unfold_X2_fitting : GoodIn wsX6_unfold (wsV RX6 144 RX2 yX2_fitting wsX2_fitting) := goodIn_app (goodIn_of _ (by decide +kernel)) ggX6_unfold_X2_fitting
theorem dX6_unfold_0 : decode cX6_unfold 0 = .ok (.iload_n 1, 1) := by decide +kernel
theorem dX6_unfold_1 : decode cX6_unfold 1 = .ok (.iload_n 2, 1) := by decide +kernel
theorem dX6_unfold_2 : decode cX6_unfold 2 = .ok (.iload_n 3, 1) := by decide +kernel
theorem dX6_unfold_3 : decode cX6_unfold 3 = .ok (.invokestatic 141, 3) := by decide +kernel
theorem dX6_unfold_6 : decode cX6_unfold 6 = .ok (.ifCond .eq 16, 3) := by decide +kernel
theorem dX6_unfold_9 : decode cX6_unfold 9 = .ok (.aload_n 0, 1) := by decide +kernel
theorem dX6_unfold_10 : decode cX6_unfold 10 = .ok (.getfield 25, 3) := by decide +kernel
theorem dX6_unfold_13 : decode cX6_unfold 13 = .ok (.iload_n 1, 1) := by decide +kernel
theorem dX6_unfold_14 : decode cX6_unfold 14 = .ok (.iload_n 2, 1) := by decide +kernel
theorem dX6_unfold_15 : decode cX6_unfold 15 = .ok (.iload_n 3, 1) := by decide +kernel
theorem dX6_unfold_16 : decode cX6_unfold 16 = .ok (.invokevirtual 144, 3) := by decide +kernel
theorem dX6_unfold_19 : decode cX6_unfold 19 = .ok (.goto 5, 3) := by decide +kernel
theorem dX6_unfold_22 : decode cX6_unfold 22 = .ok (.bipush (-102), 2) := by decide +kernel
theorem dX6_unfold_24 : decode cX6_unfold 24 = .ok (.ireturn, 1) := by decide +kernel
set_option maxRecDepth 20000 in
theorem ggX6_unfolded_X2_mayUnfold : GoodIn wsX6_unfolded wsX2_mayUnfold := goodIn_r _ [5, 6, 7, 8] (by decide +kernel) (by decide +kernel)
set_option maxRecDepth 20000 in
theorem gX6_unfolded_X2_mayUnfold : GoodIn wsX6_unfolded (va_wsS RX6 141 yX2_mayUnfold wsX2_mayUnfold) := goodIn_app (goodIn_of _ (by decide +kernel)) ggX6_unfolded_X2_mayUnfold
set_option maxRecDepth 20000 in
theorem ggX6_unfolded_X2_fittingAt : GoodIn wsX6_unfolded wsX2_fittingAt := goodIn_r _ [12, 13, 14, 15, 4, 16, 17, 18, 19, 20, 21, 22, 23, 24, 25, 26, 27, 28, 29, 30, 31, 32, 33, 34, 40, 41, 42] (by decide +kernel) (by decide +kernel)
set_option maxRecDepth 20000 in
theorem gX6_unfolded_X2_fittingAt : GoodIn wsX6_unfolded (wsV RX6 148 RX2 yX2_fittingAt wsX2_fittingAt) := goodIn_app (goodIn_of _ (by decide +kernel)) ggX6_unfolded_X2_fittingAt
theorem dX6_unfolded_0 : decode cX6_unfolded 0 = .ok (.iload_n 1, 1) := by decide +kernel
theorem dX6_unfolded_1 : decode cX6_unfolded 1 = .ok (.iload_n 2, 1) := by decide +kernel
theorem dX6_unfolded_2 : decode cX6_unfolded 2 = .ok (.iload_n 3, 1) := by decide +kernel
theorem dX6_unfolded_3 : decode cX6_unfolded 3 = .ok (.invokestatic 141, 3) := by decide +kernel
theorem dX6_unfolded_6 : decode cX6_unfolded 6 = .ok (.ifCond .eq 18, 3) := by decide +kernel
theorem dX6_unfolded_9 : decode cX6_unfolded 9 = .ok (.aload_n 0, 1) := by decide +kernel
theorem dX6_unfolded_10 : decode cX6_unfolded 10 = .ok (.getfield 25, 3) := by decide +kernel
theorem dX6_unfolded_13 : decode cX6_unfolded 13 = .ok (.iload_n 1, 1) := by decide +kernel
theorem dX6_unfolded_14 : decode cX6_unfolded 14 = .ok (.iload_n 2, 1) := by decide +kernel
theorem dX6_unfolded_15 : decode cX6_unfolded 15 = .ok (.iload_n 3, 1) := by decide +kernel
theorem dX6_unfolded_16 : decode cX6_unfolded 16 = .ok (.iload 4, 2) := by decide +kernel
theorem dX6_unfolded_18 : decode cX6_unfolded 18 = .ok (.invokevirtual 148, 3) := by decide +kernel
theorem dX6_unfolded_21 : decode cX6_unfolded 21 = .ok (.goto 5, 3) := by decide +kernel
theorem dX6_unfolded_24 : decode cX6_unfolded 24 = .ok (.bipush (-102), 2) := by decide +kernel
theorem dX6_unfolded_26 : decode cX6_unfolded 26 = .ok (.ireturn, 1) := by decide +kernel
set_option maxRecDepth 20000 in
theorem ggX6_common_X2_leastCommon : GoodIn wsX6_common wsX2_leastCommon := goodIn_r _ [6, 7, 8, 9, 10, 11, 17, 18, 19] (by decide +kernel) (by decide +kernel)
set_option maxRecDepth 20000 in
theorem gX6_common_X2_leastCommon : GoodIn wsX6_common (wsV RX6 152 RX2 yX2_leastCommon wsX2_leastCommon) := goodIn_app (goodIn_of _ (by decide +kernel)) ggX6_common_X2_leastCommon
theorem dX6_common_0 : decode cX6_common 0 = .ok (.aload_n 0, 1) := by decide +kernel
theorem dX6_common_1 : decode cX6_common 1 = .ok (.getfield 25, 3) := by decide +kernel
theorem dX6_common_4 : decode cX6_common 4 = .ok (.invokevirtual 152, 3) := by decide +kernel
theorem dX6_common_7 : decode cX6_common 7 = .ok (.ireturn, 1) := by decide +kernel
set_option maxRecDepth 20000 in
theorem ggX6_blind_X2_has : GoodIn wsX6_blind wsX2_has := goodIn_r _ [7, 8, 9, 10, 11, 25, 26, 27] (by decide +kernel) (by decide +kernel)
set_option maxRecDepth 20000 in
theorem gX6_blind_X2_has : GoodIn wsX6_blind (wsV RX6 129 RX2 yX2_has wsX2_has) := goodIn_app (goodIn_of _ (by decide +kernel)) ggX6_blind_X2_has
set_option maxRecDepth 20000 in
theorem ggX6_blind_X6_within : GoodIn wsX6_blind wsX6_within := goodIn_r _ [11] (by decide +kernel) (by decide +kernel)
set_option maxRecDepth 20000 in
theorem gX6_blind_X6_within : GoodIn wsX6_blind (va_wsS RX6 45 yX6_within wsX6_within) := goodIn_app (goodIn_of _ (by decide +kernel)) ggX6_blind_X6_within
set_option maxRecDepth 20000 in
theorem ggX6_blind_X2_unseen : GoodIn wsX6_blind wsX2_unseen := goodIn_r _ [16, 17, 18, 10, 19, 25, 26, 27] (by decide +kernel) (by decide +kernel)
set_option maxRecDepth 20000 in
theorem gX6_blind_X2_unseen : GoodIn wsX6_blind (wsV RX6 155 RX2 yX2_unseen wsX2_unseen) := goodIn_app (goodIn_of _ (by decide +kernel)) ggX6_blind_X2_unseen
theorem dX6_blind_0 : decode cX6_blind 0 = .ok (.iload_n 1, 1) := by decide +kernel
theorem dX6_blind_1 : decode cX6_blind 1 = .ok (.iconst (-1), 1) := by decide +kernel
theorem dX6_blind_2 : decode cX6_blind 2 = .ok (.if_icmp .eq 17, 3) := by decide +kernel
theorem dX6_blind_5 : decode cX6_blind 5 = .ok (.aload_n 0, 1) := by decide +kernel
theorem dX6_blind_6 : decode cX6_blind 6 = .ok (.getfield 25, 3) := by decide +kernel
theorem dX6_blind_9 : decode cX6_blind 9 = .ok (.iload_n 1, 1) := by decide +kernel
theorem dX6_blind_10 : decode cX6_blind 10 = .ok (.invokevirtual 129, 3) := by decide +kernel
theorem dX6_blind_13 : decode cX6_blind 13 = .ok (.ifCond .ne 6, 3) := by decide +kernel
theorem dX6_blind_16 : decode cX6_blind 16 = .ok (.bipush (-101), 2) := by decide +kernel
theorem dX6_blind_18 : decode cX6_blind 18 = .ok (.ireturn, 1) := by decide +kernel
theorem dX6_blind_19 : decode cX6_blind 19 = .ok (.iload_n 2, 1) := by decide +kernel
theorem dX6_blind_20 : decode cX6_blind 20 = .ok (.iconst 1, 1) := by decide +kernel
theorem dX6_blind_21 : decode cX6_blind 21 = .ok (.sipush 3600, 3) := by decide +kernel
theorem dX6_blind_24 : decode cX6_blind 24 = .ok (.invokestatic 45, 3) := by decide +kernel
theorem dX6_blind_27 : decode cX6_blind 27 = .ok (.ifCond .ne 6, 3) := by decide +kernel
theorem dX6_blind_30 : decode cX6_blind 30 = .ok (.bipush (-102), 2) := by decide +kernel
theorem dX6_blind_32 : decode cX6_blind 32 = .ok (.ireturn, 1) := by decide +kernel
theorem dX6_blind_33 : decode cX6_blind 33 = .ok (.iload_n 1, 1) := by decide +kernel
theorem dX6_blind_34 : decode cX6_blind 34 = .ok (.iconst (-1), 1) := by decide +kernel
theorem dX6_blind_35 : decode cX6_blind 35 = .ok (.if_icmp .ne 24, 3) := by decide +kernel
theorem dX6_blind_38 : decode cX6_blind 38 = .ok (.aload_n 0, 1) := by decide +kernel
theorem dX6_blind_39 : decode cX6_blind 39 = .ok (.getfield 25, 3) := by decide +kernel
theorem dX6_blind_42 : decode cX6_blind 42 = .ok (.iconst 0, 1) := by decide +kernel
theorem dX6_blind_43 : decode cX6_blind 43 = .ok (.aload_n 0, 1) := by decide +kernel
theorem dX6_blind_44 : decode cX6_blind 44 = .ok (.getfield 25, 3) := by decide +kernel
theorem dX6_blind_47 : decode cX6_blind 47 = .ok (.getfield 140, 3) := by decide +kernel
theorem dX6_blind_50 : decode cX6_blind 50 = .ok (.iconst 1, 1) := by decide +kernel
theorem dX6_blind_51 : decode cX6_blind 51 = .ok (.isub, 1) := by decide +kernel
theorem dX6_blind_52 : decode cX6_blind 52 = .ok (.iload_n 2, 1) := by decide +kernel
theorem dX6_blind_53 : decode cX6_blind 53 = .ok (.invokevirtual 155, 3) := by decide +kernel
theorem dX6_blind_56 : decode cX6_blind 56 = .ok (.goto 13, 3) := by decide +kernel
theorem dX6_blind_59 : decode cX6_blind 59 = .ok (.aload_n 0, 1) := by decide +kernel
theorem dX6_blind_60 : decode cX6_blind 60 = .ok (.getfield 25, 3) := by decide +kernel
theorem dX6_blind_63 : decode cX6_blind 63 = .ok (.iload_n 1, 1) := by decide +kernel
theorem dX6_blind_64 : decode cX6_blind 64 = .ok (.iload_n 1, 1) := by decide +kernel
theorem dX6_blind_65 : decode cX6_blind 65 = .ok (.iload_n 2, 1) := by decide +kernel
theorem dX6_blind_66 : decode cX6_blind 66 = .ok (.invokevirtual 155, 3) := by decide +kernel
theorem dX6_blind_69 : decode cX6_blind 69 = .ok (.ireturn, 1) := by decide +kernel
set_option maxRecDepth 20000 in
theorem ggX6_put_X6_within : GoodIn wsX6_put wsX6_within := goodIn_r _ [6] (by decide +kernel) (by decide +kernel)
set_option maxRecDepth 20000 in
theorem gX6_put_X6_within : GoodIn wsX6_put (va_wsS RX6 45 yX6_within wsX6_within) := goodIn_app (goodIn_of _ (by decide +kernel)) ggX6_put_X6_within
set_option maxRecDepth 20000 in
theorem ggX6_put_X3_append : GoodIn wsX6_put wsX3_append := goodIn_r _ [11, 12, 13, 19, 20, 21] (by decide +kernel) (by decide +kernel)
set_option maxRecDepth 20000 in
theorem gX6_put_X3_append : GoodIn wsX6_put (wsV RX6 158 RX3 yX3_append wsX3_append) := goodIn_app (goodIn_of _ (by decide +kernel)) ggX6_put_X3_append
theorem dX6_put_0 : decode cX6_put 0 = .ok (.iload_n 1, 1) := by decide +kernel
theorem dX6_put_1 : decode cX6_put 1 = .ok (.iconst 0, 1) := by decide +kernel
theorem dX6_put_2 : decode cX6_put 2 = .ok (.sipush 10000, 3) := by decide +kernel
theorem dX6_put_5 : decode cX6_put 5 = .ok (.invokestatic 45, 3) := by decide +kernel
theorem dX6_put_8 : decode cX6_put 8 = .ok (.ifCond .ne 6, 3) := by decide +kernel
theorem dX6_put_11 : decode cX6_put 11 = .ok (.bipush (-102), 2) := by decide +kernel
theorem dX6_put_13 : decode cX6_put 13 = .ok (.ireturn, 1) := by decide +kernel
theorem dX6_put_14 : decode cX6_put 14 = .ok (.aload_n 0, 1) := by decide +kernel
theorem dX6_put_15 : decode cX6_put 15 = .ok (.getfield 32, 3) := by decide +kernel
theorem dX6_put_18 : decode cX6_put 18 = .ok (.iload_n 1, 1) := by decide +kernel
theorem dX6_put_19 : decode cX6_put 19 = .ok (.invokevirtual 158, 3) := by decide +kernel
theorem dX6_put_22 : decode cX6_put 22 = .ok (.ifCond .eq 13, 3) := by decide +kernel
theorem dX6_put_25 : decode cX6_put 25 = .ok (.aload_n 0, 1) := by decide +kernel
theorem dX6_put_26 : decode cX6_put 26 = .ok (.getfield 32, 3) := by decide +kernel
theorem dX6_put_29 : decode cX6_put 29 = .ok (.getfield 161, 3) := by decide +kernel
theorem dX6_put_32 : decode cX6_put 32 = .ok (.goto 5, 3) := by decide +kernel
theorem dX6_put_35 : decode cX6_put 35 = .ok (.bipush (-104), 2) := by decide +kernel
theorem dX6_put_37 : decode cX6_put 37 = .ok (.ireturn, 1) := by decide +kernel
theorem dX6_empty_0 : decode cX6_empty 0 = .ok (.aload_n 0, 1) := by decide +kernel
theorem dX6_empty_1 : decode cX6_empty 1 = .ok (.getfield 32, 3) := by decide +kernel
theorem dX6_empty_4 : decode cX6_empty 4 = .ok (.getfield 161, 3) := by decide +kernel
theorem dX6_empty_7 : decode cX6_empty 7 = .ok (.istore_n 1, 1) := by decide +kernel
theorem dX6_empty_8 : decode cX6_empty 8 = .ok (.aload_n 0, 1) := by decide +kernel
theorem dX6_empty_9 : decode cX6_empty 9 = .ok (.getfield 32, 3) := by decide +kernel
theorem dX6_empty_12 : decode cX6_empty 12 = .ok (.iconst 0, 1) := by decide +kernel
theorem dX6_empty_13 : decode cX6_empty 13 = .ok (.putfield 161, 3) := by decide +kernel
theorem dX6_empty_16 : decode cX6_empty 16 = .ok (.iload_n 1, 1) := by decide +kernel
theorem dX6_empty_17 : decode cX6_empty 17 = .ok (.ireturn, 1) := by decide +kernel
set_option maxRecDepth 20000 in
theorem ggX6_found_X6_within : GoodIn wsX6_found wsX6_within := goodIn_r _ [6] (by decide +kernel) (by decide +kernel)
set_option maxRecDepth 20000 in
theorem gX6_found_X6_within : GoodIn wsX6_found (va_wsS RX6 45 yX6_within wsX6_within) := goodIn_app (goodIn_of _ (by decide +kernel)) ggX6_found_X6_within
set_option maxRecDepth 20000 in
theorem ggX6_found_X3_maySeek : GoodIn wsX6_found wsX3_maySeek := goodIn_r _ [10, 4, 5, 6] (by decide +kernel) (by decide +kernel)
set_option maxRecDepth 20000 in
theorem gX6_found_X3_maySeek : GoodIn wsX6_found (va_wsS RX6 162 yX3_maySeek wsX3_maySeek) := goodIn_app (goodIn_of _ (by decide +kernel)) ggX6_found_X3_maySeek
set_option maxRecDepth 20000 in
theorem ggX6_found_X3_standsOut : GoodIn wsX6_found wsX3_standsOut := goodIn_r _ [14, 15, 16, 17, 18, 19, 9, 20, 21, 22, 23, 24, 25, 31, 32, 33] (by decide +kernel) (by decide +kernel)
set_option maxRecDepth 20000 in
theorem gX6_found_X3_standsOut : GoodIn wsX6_found (wsV RX6 166 RX3 yX3_standsOut wsX3_standsOut) := goodIn_app (goodIn_of _ (by decide +kernel)) ggX6_found_X3_standsOut
theorem dX6_found_0 : decode cX6_found 0 = .ok (.iload_n 1, 1) := by decide +kernel
theorem dX6_found_1 : decode cX6_found 1 = .ok (.iconst 0, 1) := by decide +kernel
theorem dX6_found_2 : decode cX6_found 2 = .ok (.aload_n 0, 1) := by decide +kernel
theorem dX6_found_3 : decode cX6_found 3 = .ok (.getfield 32, 3) := by decide +kernel
theorem dX6_found_6 : decode cX6_found 6 = .ok (.getfield 161, 3) := by decide +kernel
theorem dX6_found_9 : decode cX6_found 9 = .ok (.iconst 1, 1) := by decide +kernel
theorem dX6_found_10 : decode cX6_found 10 = .ok (.isub, 1) := by decide +kernel
theorem dX6_found_11 : decode cX6_found 11 = .ok (.invokestatic 45, 3) := by decide +kernel
theorem dX6_found_14 : decode cX6_found 14 = .ok (.ifCond .ne 6, 3) := by decide +kernel
theorem dX6_found_17 : decode cX6_found 17 = .ok (.bipush (-101), 2) := by decide +kernel
theorem dX6_found_19 : decode cX6_found 19 = .ok (.ireturn, 1) := by decide +kernel
theorem dX6_found_20 : decode cX6_found 20 = .ok (.iload_n 2, 1) := by decide +kernel
theorem dX6_found_21 : decode cX6_found 21 = .ok (.iload_n 3, 1) := by decide +kernel
theorem dX6_found_22 : decode cX6_found 22 = .ok (.iload 4, 2) := by decide +kernel
theorem dX6_found_24 : decode cX6_found 24 = .ok (.iload 5, 2) := by decide +kernel
theorem dX6_found_26 : decode cX6_found 26 = .ok (.invokestatic 162, 3) := by decide +kernel
theorem dX6_found_29 : decode cX6_found 29 = .ok (.ifCond .ne 6, 3) := by decide +kernel
theorem dX6_found_32 : decode cX6_found 32 = .ok (.bipush (-102), 2) := by decide +kernel
theorem dX6_found_34 : decode cX6_found 34 = .ok (.ireturn, 1) := by decide +kernel
theorem dX6_found_35 : decode cX6_found 35 = .ok (.aload_n 0, 1) := by decide +kernel
theorem dX6_found_36 : decode cX6_found 36 = .ok (.getfield 32, 3) := by decide +kernel
theorem dX6_found_39 : decode cX6_found 39 = .ok (.iload_n 1, 1) := by decide +kernel
theorem dX6_found_40 : decode cX6_found 40 = .ok (.iload_n 2, 1) := by decide +kernel
theorem dX6_found_41 : decode cX6_found 41 = .ok (.iload_n 3, 1) := by decide +kernel
theorem dX6_found_42 : decode cX6_found 42 = .ok (.iload 4, 2) := by decide +kernel
theorem dX6_found_44 : decode cX6_found 44 = .ok (.iload 5, 2) := by decide +kernel
theorem dX6_found_46 : decode cX6_found 46 = .ok (.invokevirtual 166, 3) := by decide +kernel
theorem dX6_found_49 : decode cX6_found 49 = .ok (.ifCond .eq 7, 3) := by decide +kernel
theorem dX6_found_52 : decode cX6_found 52 = .ok (.iconst 1, 1) := by decide +kernel
theorem dX6_found_53 : decode cX6_found 53 = .ok (.goto 4, 3) := by decide +kernel
theorem dX6_found_56 : decode cX6_found 56 = .ok (.iconst 0, 1) := by decide +kernel
theorem dX6_found_57 : decode cX6_found 57 = .ok (.ireturn, 1) := by decide +kernel
set_option maxRecDepth 20000 in
theorem ggX6_count_X3_maySeek : GoodIn wsX6_count wsX3_maySeek := goodIn_r _ [5, 6, 7, 8] (by decide +kernel) (by decide +kernel)
set_option maxRecDepth 20000 in
theorem gX6_count_X3_maySeek : GoodIn wsX6_count (va_wsS RX6 162 yX3_maySeek wsX3_maySeek) := goodIn_app (goodIn_of _ (by decide +kernel)) ggX6_count_X3_maySeek
set_option maxRecDepth 20000 in
theorem ggX6_count_X3_standingOut : GoodIn wsX6_count wsX3_standingOut := goodIn_r _ [12, 13, 14, 15, 16, 4, 17, 18, 19, 20, 21, 22, 23, 24, 25, 26, 27, 33, 34, 35] (by decide +kernel) (by decide +kernel)
set_option maxRecDepth 20000 in
theorem gX6_count_X3_standingOut : GoodIn wsX6_count (wsV RX6 170 RX3 yX3_standingOut wsX3_standingOut) := goodIn_app (goodIn_of _ (by decide +kernel)) ggX6_count_X3_standingOut
theorem dX6_count_0 : decode cX6_count 0 = .ok (.iload_n 1, 1) := by decide +kernel
theorem dX6_count_1 : decode cX6_count 1 = .ok (.iload_n 2, 1) := by decide +kernel
theorem dX6_count_2 : decode cX6_count 2 = .ok (.iload_n 3, 1) := by decide +kernel
theorem dX6_count_3 : decode cX6_count 3 = .ok (.iload 4, 2) := by decide +kernel
theorem dX6_count_5 : decode cX6_count 5 = .ok (.invokestatic 162, 3) := by decide +kernel
theorem dX6_count_8 : decode cX6_count 8 = .ok (.ifCond .eq 18, 3) := by decide +kernel
theorem dX6_count_11 : decode cX6_count 11 = .ok (.aload_n 0, 1) := by decide +kernel
theorem dX6_count_12 : decode cX6_count 12 = .ok (.getfield 32, 3) := by decide +kernel
theorem dX6_count_15 : decode cX6_count 15 = .ok (.iload_n 1, 1) := by decide +kernel
theorem dX6_count_16 : decode cX6_count 16 = .ok (.iload_n 2, 1) := by decide +kernel
theorem dX6_count_17 : decode cX6_count 17 = .ok (.iload_n 3, 1) := by decide +kernel
theorem dX6_count_18 : decode cX6_count 18 = .ok (.iload 4, 2) := by decide +kernel
theorem dX6_count_20 : decode cX6_count 20 = .ok (.invokevirtual 170, 3) := by decide +kernel
theorem dX6_count_23 : decode cX6_count 23 = .ok (.goto 5, 3) := by decide +kernel
theorem dX6_count_26 : decode cX6_count 26 = .ok (.bipush (-102), 2) := by decide +kernel
theorem dX6_count_28 : decode cX6_count 28 = .ok (.ireturn, 1) := by decide +kernel
set_option maxRecDepth 20000 in
theorem ggX6_share_X0_mayOrder : GoodIn wsX6_share wsX0_mayOrder := goodIn_r _ [5, 6, 7, 8] (by decide +kernel) (by decide +kernel)
set_option maxRecDepth 20000 in
theorem gX6_share_X0_mayOrder : GoodIn wsX6_share (va_wsS RX6 173 yX0_mayOrder wsX0_mayOrder) := goodIn_app (goodIn_of _ (by decide +kernel)) ggX6_share_X0_mayOrder
set_option maxRecDepth 20000 in
theorem ggX6_share_X6_within : GoodIn wsX6_share wsX6_within := goodIn_r _ [8] (by decide +kernel) (by decide +kernel)
set_option maxRecDepth 20000 in
theorem gX6_share_X6_within : GoodIn wsX6_share (va_wsS RX6 45 yX6_within wsX6_within) := goodIn_app (goodIn_of _ (by decide +kernel)) ggX6_share_X6_within
set_option maxRecDepth 20000 in
theorem ggX6_share_X6_isPart : GoodIn wsX6_share wsX6_isPart := goodIn_r _ [12, 9, 6, 7, 8] (by decide +kernel) (by decide +kernel)
set_option maxRecDepth 20000 in
theorem gX6_share_X6_isPart : GoodIn wsX6_share (va_wsS RX6 76 yX6_isPart wsX6_isPart) := goodIn_app (goodIn_of _ (by decide +kernel)) ggX6_share_X6_isPart
set_option maxRecDepth 20000 in
theorem ggX6_share_X0_product : GoodIn wsX6_share wsX0_product := goodIn_r _ [15] (by decide +kernel) (by decide +kernel)
set_option maxRecDepth 20000 in
theorem gX6_share_X0_product : GoodIn wsX6_share (va_wsS RX6 181 yX0_product wsX0_product) := goodIn_app (goodIn_of _ (by decide +kernel)) ggX6_share_X0_product
set_option maxRecDepth 20000 in
theorem ggX6_share_X6_commonDivisor : GoodIn wsX6_share wsX6_commonDivisor := goodIn_r _ [18] (by decide +kernel) (by decide +kernel)
set_option maxRecDepth 20000 in
theorem gX6_share_X6_commonDivisor : GoodIn wsX6_share (va_wsS RX6 185 yX6_commonDivisor wsX6_commonDivisor) := goodIn_app (goodIn_of _ (by decide +kernel)) ggX6_share_X6_commonDivisor
theorem dX6_share_0 : decode cX6_share 0 = .ok (.iload_n 1, 1) := by decide +kernel
theorem dX6_share_1 : decode cX6_share 1 = .ok (.iload_n 2, 1) := by decide +kernel
theorem dX6_share_2 : decode cX6_share 2 = .ok (.invokestatic 173, 3) := by decide +kernel
theorem dX6_share_5 : decode cX6_share 5 = .ok (.ifCond .eq 21, 3) := by decide +kernel
theorem dX6_share_8 : decode cX6_share 8 = .ok (.iload_n 3, 1) := by decide +kernel
theorem dX6_share_9 : decode cX6_share 9 = .ok (.iconst 1, 1) := by decide +kernel
theorem dX6_share_10 : decode cX6_share 10 = .ok (.bipush 40, 2) := by decide +kernel
theorem dX6_share_12 : decode cX6_share 12 = .ok (.invokestatic 45, 3) := by decide +kernel
theorem dX6_share_15 : decode cX6_share 15 = .ok (.ifCond .eq 11, 3) := by decide +kernel
theorem dX6_share_18 : decode cX6_share 18 = .ok (.iload 4, 2) := by decide +kernel
theorem dX6_share_20 : decode cX6_share 20 = .ok (.invokestatic 76, 3) := by decide +kernel
theorem dX6_share_23 : decode cX6_share 23 = .ok (.ifCond .ne 7, 3) := by decide +kernel
theorem dX6_share_26 : decode cX6_share 26 = .ok (.ldc2_w 179, 3) := by decide +kernel
theorem dX6_share_29 : decode cX6_share 29 = .ok (.lreturn, 1) := by decide +kernel
theorem dX6_share_30 : decode cX6_share 30 = .ok (.iload_n 1, 1) := by decide +kernel
theorem dX6_share_31 : decode cX6_share 31 = .ok (.iload_n 2, 1) := by decide +kernel
theorem dX6_share_32 : decode cX6_share 32 = .ok (.iconst 0, 1) := by decide +kernel
theorem dX6_share_33 : decode cX6_share 33 = .ok (.invokestatic 181, 3) := by decide +kernel
theorem dX6_share_36 : decode cX6_share 36 = .ok (.lstore 5, 2) := by decide +kernel
theorem dX6_share_38 : decode cX6_share 38 = .ok (.iload_n 1, 1) := by decide +kernel
theorem dX6_share_39 : decode cX6_share 39 = .ok (.iload_n 2, 1) := by decide +kernel
theorem dX6_share_40 : decode cX6_share 40 = .ok (.iload_n 3, 1) := by decide +kernel
theorem dX6_share_41 : decode cX6_share 41 = .ok (.invokestatic 181, 3) := by decide +kernel
theorem dX6_share_44 : decode cX6_share 44 = .ok (.lstore 7, 2) := by decide +kernel
theorem dX6_share_46 : decode cX6_share 46 = .ok (.lload 5, 2) := by decide +kernel
theorem dX6_share_48 : decode cX6_share 48 = .ok (.lload 7, 2) := by decide +kernel
theorem dX6_share_50 : decode cX6_share 50 = .ok (.invokestatic 185, 3) := by decide +kernel
theorem dX6_share_53 : decode cX6_share 53 = .ok (.lstore 9, 2) := by decide +kernel
theorem dX6_share_55 : decode cX6_share 55 = .ok (.iload 4, 2) := by decide +kernel
theorem dX6_share_57 : decode cX6_share 57 = .ok (.ifCond .ne 8, 3) := by decide +kernel
theorem dX6_share_60 : decode cX6_share 60 = .ok (.lload 5, 2) := by decide +kernel
theorem dX6_share_62 : decode cX6_share 62 = .ok (.goto 5, 3) := by decide +kernel
theorem dX6_share_65 : decode cX6_share 65 = .ok (.lload 7, 2) := by decide +kernel
theorem dX6_share_67 : decode cX6_share 67 = .ok (.lload 9, 2) := by decide +kernel
theorem dX6_share_69 : decode cX6_share 69 = .ok (.ldiv, 1) := by decide +kernel
theorem dX6_share_70 : decode cX6_share 70 = .ok (.lreturn, 1) := by decide +kernel
set_option maxRecDepth 20000 in
theorem ggX6_scale_X0_mayOrder : GoodIn wsX6_scale wsX0_mayOrder := goodIn_r _ [5, 6, 7, 8] (by decide +kernel) (by decide +kernel)
set_option maxRecDepth 20000 in
theorem gX6_scale_X0_mayOrder : GoodIn wsX6_scale (va_wsS RX6 173 yX0_mayOrder wsX0_mayOrder) := goodIn_app (goodIn_of _ (by decide +kernel)) ggX6_scale_X0_mayOrder
set_option maxRecDepth 20000 in
theorem ggX6_scale_X6_within : GoodIn wsX6_scale wsX6_within := goodIn_r _ [8] (by decide +kernel) (by decide +kernel)
set_option maxRecDepth 20000 in
theorem gX6_scale_X6_within : GoodIn wsX6_scale (va_wsS RX6 45 yX6_within wsX6_within) := goodIn_app (goodIn_of _ (by decide +kernel)) ggX6_scale_X6_within
set_option maxRecDepth 20000 in
theorem ggX6_scale_X0_leastScale : GoodIn wsX6_scale wsX0_leastScale := goodIn_r _ [12, 13, 14, 4, 15] (by decide +kernel) (by decide +kernel)
set_option maxRecDepth 20000 in
theorem gX6_scale_X0_leastScale : GoodIn wsX6_scale (va_wsS RX6 190 yX0_leastScale wsX0_leastScale) := goodIn_app (goodIn_of _ (by decide +kernel)) ggX6_scale_X0_leastScale
theorem dX6_scale_0 : decode cX6_scale 0 = .ok (.iload_n 1, 1) := by decide +kernel
theorem dX6_scale_1 : decode cX6_scale 1 = .ok (.iload_n 2, 1) := by decide +kernel
theorem dX6_scale_2 : decode cX6_scale 2 = .ok (.invokestatic 173, 3) := by decide +kernel
theorem dX6_scale_5 : decode cX6_scale 5 = .ok (.ifCond .eq 13, 3) := by decide +kernel
theorem dX6_scale_8 : decode cX6_scale 8 = .ok (.iload_n 3, 1) := by decide +kernel
theorem dX6_scale_9 : decode cX6_scale 9 = .ok (.iconst 1, 1) := by decide +kernel
theorem dX6_scale_10 : decode cX6_scale 10 = .ok (.ldc 189, 2) := by decide +kernel
theorem dX6_scale_12 : decode cX6_scale 12 = .ok (.invokestatic 45, 3) := by decide +kernel
theorem dX6_scale_15 : decode cX6_scale 15 = .ok (.ifCond .ne 6, 3) := by decide +kernel
theorem dX6_scale_18 : decode cX6_scale 18 = .ok (.bipush (-102), 2) := by decide +kernel
theorem dX6_scale_20 : decode cX6_scale 20 = .ok (.ireturn, 1) := by decide +kernel
theorem dX6_scale_21 : decode cX6_scale 21 = .ok (.iload_n 1, 1) := by decide +kernel
theorem dX6_scale_22 : decode cX6_scale 22 = .ok (.iload_n 2, 1) := by decide +kernel
theorem dX6_scale_23 : decode cX6_scale 23 = .ok (.iload_n 3, 1) := by decide +kernel
theorem dX6_scale_24 : decode cX6_scale 24 = .ok (.invokestatic 190, 3) := by decide +kernel
theorem dX6_scale_27 : decode cX6_scale 27 = .ok (.ireturn, 1) := by decide +kernel
theorem dX6_told_0 : decode cX6_told 0 = .ok (.iload_n 1, 1) := by decide +kernel
theorem dX6_told_1 : decode cX6_told 1 = .ok (.tableswitch 60 0 3 #[31, 39, 47, 55], 31) := by decide +kernel
theorem dX6_told_32 : decode cX6_told 32 = .ok (.aload_n 0, 1) := by decide +kernel
theorem dX6_told_33 : decode cX6_told 33 = .ok (.getfield 18, 3) := by decide +kernel
theorem dX6_told_36 : decode cX6_told 36 = .ok (.getfield 108, 3) := by decide +kernel
theorem dX6_told_39 : decode cX6_told 39 = .ok (.ireturn, 1) := by decide +kernel
theorem dX6_told_40 : decode cX6_told 40 = .ok (.aload_n 0, 1) := by decide +kernel
theorem dX6_told_41 : decode cX6_told 41 = .ok (.getfield 25, 3) := by decide +kernel
theorem dX6_told_44 : decode cX6_told 44 = .ok (.getfield 140, 3) := by decide +kernel
theorem dX6_told_47 : decode cX6_told 47 = .ok (.ireturn, 1) := by decide +kernel
theorem dX6_told_48 : decode cX6_told 48 = .ok (.aload_n 0, 1) := by decide +kernel
theorem dX6_told_49 : decode cX6_told 49 = .ok (.getfield 32, 3) := by decide +kernel
theorem dX6_told_52 : decode cX6_told 52 = .ok (.getfield 161, 3) := by decide +kernel
theorem dX6_told_55 : decode cX6_told 55 = .ok (.ireturn, 1) := by decide +kernel
theorem dX6_told_56 : decode cX6_told 56 = .ok (.aload_n 0, 1) := by decide +kernel
theorem dX6_told_57 : decode cX6_told 57 = .ok (.getfield 36, 3) := by decide +kernel
theorem dX6_told_60 : decode cX6_told 60 = .ok (.ireturn, 1) := by decide +kernel
theorem dX6_told_61 : decode cX6_told 61 = .ok (.bipush (-102), 2) := by decide +kernel
theorem dX6_told_63 : decode cX6_told 63 = .ok (.ireturn, 1) := by decide +kernel
set_option maxRecDepth 20000 in
theorem ggX6_digest_X6_mix : GoodIn wsX6_digest wsX6_mix := goodIn_r _ [19, 20] (by decide +kernel) (by decide +kernel)
set_option maxRecDepth 20000 in
theorem gX6_digest_X6_mix : GoodIn wsX6_digest (va_wsS RX6 195 yX6_mix wsX6_mix) := goodIn_app (goodIn_of _ (by decide +kernel)) ggX6_digest_X6_mix
set_option maxRecDepth 20000 in
theorem ggX6_digest_X6_mixAll : GoodIn wsX6_digest wsX6_mixAll := goodIn_r _ [23, 16, 17, 18, 19, 20] (by decide +kernel) (by decide +kernel)
set_option maxRecDepth 20000 in
theorem gX6_digest_X6_mixAll : GoodIn wsX6_digest (va_wsS RX6 198 yX6_mixAll wsX6_mixAll) := goodIn_app (goodIn_of _ (by decide +kernel)) ggX6_digest_X6_mixAll
theorem dX6_digest_0 : decode cX6_digest 0 = .ok (.ldc2_w 193, 3) := by decide +kernel
theorem dX6_digest_3 : decode cX6_digest 3 = .ok (.lstore_n 1, 1) := by decide +kernel
theorem dX6_digest_4 : decode cX6_digest 4 = .ok (.iconst 0, 1) := by decide +kernel
theorem dX6_digest_5 : decode cX6_digest 5 = .ok (.istore_n 3, 1) := by decide +kernel
theorem dX6_digest_6 : decode cX6_digest 6 = .ok (.iload_n 3, 1) := by decide +kernel
theorem dX6_digest_7 : decode cX6_digest 7 = .ok (.bipush 6, 2) := by decide +kernel
theorem dX6_digest_9 : decode cX6_digest 9 = .ok (.if_icmp .ge 45, 3) := by decide +kernel
theorem dX6_digest_12 : decode cX6_digest 12 = .ok (.lload_n 1, 1) := by decide +kernel
theorem dX6_digest_13 : decode cX6_digest 13 = .ok (.aload_n 0, 1) := by decide +kernel
theorem dX6_digest_14 : decode cX6_digest 14 = .ok (.getfield 11, 3) := by decide +kernel
theorem dX6_digest_17 : decode cX6_digest 17 = .ok (.iload_n 3, 1) := by decide +kernel
theorem dX6_digest_18 : decode cX6_digest 18 = .ok (.aaload, 1) := by decide +kernel
theorem dX6_digest_19 : decode cX6_digest 19 = .ok (.getfield 73, 3) := by decide +kernel
theorem dX6_digest_22 : decode cX6_digest 22 = .ok (.i2l, 1) := by decide +kernel
theorem dX6_digest_23 : decode cX6_digest 23 = .ok (.invokestatic 195, 3) := by decide +kernel
theorem dX6_digest_26 : decode cX6_digest 26 = .ok (.aload_n 0, 1) := by decide +kernel
theorem dX6_digest_27 : decode cX6_digest 27 = .ok (.getfield 11, 3) := by decide +kernel
theorem dX6_digest_30 : decode cX6_digest 30 = .ok (.iload_n 3, 1) := by decide +kernel
theorem dX6_digest_31 : decode cX6_digest 31 = .ok (.aaload, 1) := by decide +kernel
theorem dX6_digest_32 : decode cX6_digest 32 = .ok (.getfield 56, 3) := by decide +kernel
theorem dX6_digest_35 : decode cX6_digest 35 = .ok (.aload_n 0, 1) := by decide +kernel
theorem dX6_digest_36 : decode cX6_digest 36 = .ok (.getfield 11, 3) := by decide +kernel
theorem dX6_digest_39 : decode cX6_digest 39 = .ok (.iload_n 3, 1) := by decide +kernel
theorem dX6_digest_40 : decode cX6_digest 40 = .ok (.aaload, 1) := by decide +kernel
theorem dX6_digest_41 : decode cX6_digest 41 = .ok (.getfield 73, 3) := by decide +kernel
theorem dX6_digest_44 : decode cX6_digest 44 = .ok (.invokestatic 198, 3) := by decide +kernel
theorem dX6_digest_47 : decode cX6_digest 47 = .ok (.lstore_n 1, 1) := by decide +kernel
theorem dX6_digest_48 : decode cX6_digest 48 = .ok (.iinc 3 1, 3) := by decide +kernel
theorem dX6_digest_51 : decode cX6_digest 51 = .ok (.goto (-45), 3) := by decide +kernel
theorem dX6_digest_54 : decode cX6_digest 54 = .ok (.lload_n 1, 1) := by decide +kernel
theorem dX6_digest_55 : decode cX6_digest 55 = .ok (.aload_n 0, 1) := by decide +kernel
theorem dX6_digest_56 : decode cX6_digest 56 = .ok (.getfield 18, 3) := by decide +kernel
theorem dX6_digest_59 : decode cX6_digest 59 = .ok (.getfield 108, 3) := by decide +kernel
theorem dX6_digest_62 : decode cX6_digest 62 = .ok (.i2l, 1) := by decide +kernel
theorem dX6_digest_63 : decode cX6_digest 63 = .ok (.invokestatic 195, 3) := by decide +kernel
theorem dX6_digest_66 : decode cX6_digest 66 = .ok (.aload_n 0, 1) := by decide +kernel
theorem dX6_digest_67 : decode cX6_digest 67 = .ok (.getfield 18, 3) := by decide +kernel
theorem dX6_digest_70 : decode cX6_digest 70 = .ok (.getfield 109, 3) := by decide +kernel
theorem dX6_digest_73 : decode cX6_digest 73 = .ok (.aload_n 0, 1) := by decide +kernel
theorem dX6_digest_74 : decode cX6_digest 74 = .ok (.getfield 18, 3) := by decide +kernel
theorem dX6_digest_77 : decode cX6_digest 77 = .ok (.getfield 108, 3) := by decide +kernel
theorem dX6_digest_80 : decode cX6_digest 80 = .ok (.invokestatic 198, 3) := by decide +kernel
theorem dX6_digest_83 : decode cX6_digest 83 = .ok (.lstore_n 1, 1) := by decide +kernel
theorem dX6_digest_84 : decode cX6_digest 84 = .ok (.lload_n 1, 1) := by decide +kernel
theorem dX6_digest_85 : decode cX6_digest 85 = .ok (.aload_n 0, 1) := by decide +kernel
theorem dX6_digest_86 : decode cX6_digest 86 = .ok (.getfield 25, 3) := by decide +kernel
theorem dX6_digest_89 : decode cX6_digest 89 = .ok (.getfield 140, 3) := by decide +kernel
theorem dX6_digest_92 : decode cX6_digest 92 = .ok (.i2l, 1) := by decide +kernel
theorem dX6_digest_93 : decode cX6_digest 93 = .ok (.invokestatic 195, 3) := by decide +kernel
theorem dX6_digest_96 : decode cX6_digest 96 = .ok (.lstore_n 1, 1) := by decide +kernel
theorem dX6_digest_97 : decode cX6_digest 97 = .ok (.iconst 0, 1) := by decide +kernel
theorem dX6_digest_98 : decode cX6_digest 98 = .ok (.istore_n 3, 1) := by decide +kernel
theorem dX6_digest_99 : decode cX6_digest 99 = .ok (.iload_n 3, 1) := by decide +kernel
theorem dX6_digest_100 : decode cX6_digest 100 = .ok (.aload_n 0, 1) := by decide +kernel
theorem dX6_digest_101 : decode cX6_digest 101 = .ok (.getfield 25, 3) := by decide +kernel
theorem dX6_digest_104 : decode cX6_digest 104 = .ok (.getfield 140, 3) := by decide +kernel
theorem dX6_digest_107 : decode cX6_digest 107 = .ok (.if_icmp .ge 37, 3) := by decide +kernel
theorem dX6_digest_110 : decode cX6_digest 110 = .ok (.lload_n 1, 1) := by decide +kernel
theorem dX6_digest_111 : decode cX6_digest 111 = .ok (.aload_n 0, 1) := by decide +kernel
theorem dX6_digest_112 : decode cX6_digest 112 = .ok (.getfield 25, 3) := by decide +kernel
theorem dX6_digest_115 : decode cX6_digest 115 = .ok (.getfield 130, 3) := by decide +kernel
theorem dX6_digest_118 : decode cX6_digest 118 = .ok (.iload_n 3, 1) := by decide +kernel
theorem dX6_digest_119 : decode cX6_digest 119 = .ok (.iaload, 1) := by decide +kernel
theorem dX6_digest_120 : decode cX6_digest 120 = .ok (.i2l, 1) := by decide +kernel
theorem dX6_digest_121 : decode cX6_digest 121 = .ok (.invokestatic 195, 3) := by decide +kernel
theorem dX6_digest_124 : decode cX6_digest 124 = .ok (.aload_n 0, 1) := by decide +kernel
theorem dX6_digest_125 : decode cX6_digest 125 = .ok (.getfield 25, 3) := by decide +kernel
theorem dX6_digest_128 : decode cX6_digest 128 = .ok (.getfield 133, 3) := by decide +kernel
theorem dX6_digest_131 : decode cX6_digest 131 = .ok (.iload_n 3, 1) := by decide +kernel
theorem dX6_digest_132 : decode cX6_digest 132 = .ok (.iaload, 1) := by decide +kernel
theorem dX6_digest_133 : decode cX6_digest 133 = .ok (.i2l, 1) := by decide +kernel
theorem dX6_digest_134 : decode cX6_digest 134 = .ok (.invokestatic 195, 3) := by decide +kernel
theorem dX6_digest_137 : decode cX6_digest 137 = .ok (.lstore_n 1, 1) := by decide +kernel
theorem dX6_digest_138 : decode cX6_digest 138 = .ok (.iinc 3 1, 3) := by decide +kernel
theorem dX6_digest_141 : decode cX6_digest 141 = .ok (.goto (-42), 3) := by decide +kernel
theorem dX6_digest_144 : decode cX6_digest 144 = .ok (.lload_n 1, 1) := by decide +kernel
theorem dX6_digest_145 : decode cX6_digest 145 = .ok (.aload_n 0, 1) := by decide +kernel
theorem dX6_digest_146 : decode cX6_digest 146 = .ok (.getfield 32, 3) := by decide +kernel
theorem dX6_digest_149 : decode cX6_digest 149 = .ok (.getfield 202, 3) := by decide +kernel
theorem dX6_digest_152 : decode cX6_digest 152 = .ok (.aload_n 0, 1) := by decide +kernel
theorem dX6_digest_153 : decode cX6_digest 153 = .ok (.getfield 32, 3) := by decide +kernel
theorem dX6_digest_156 : decode cX6_digest 156 = .ok (.getfield 161, 3) := by decide +kernel
theorem dX6_digest_159 : decode cX6_digest 159 = .ok (.invokestatic 198, 3) := by decide +kernel
theorem dX6_digest_162 : decode cX6_digest 162 = .ok (.lstore_n 1, 1) := by decide +kernel
theorem dX6_digest_163 : decode cX6_digest 163 = .ok (.lload_n 1, 1) := by decide +kernel
theorem dX6_digest_164 : decode cX6_digest 164 = .ok (.aload_n 0, 1) := by decide +kernel
theorem dX6_digest_165 : decode cX6_digest 165 = .ok (.getfield 36, 3) := by decide +kernel
theorem dX6_digest_168 : decode cX6_digest 168 = .ok (.i2l, 1) := by decide +kernel
theorem dX6_digest_169 : decode cX6_digest 169 = .ok (.invokestatic 195, 3) := by decide +kernel
theorem dX6_digest_172 : decode cX6_digest 172 = .ok (.lreturn, 1) := by decide +kernel
theorem dX6_mix_0 : decode cX6_mix 0 = .ok (.ldc2_w 203, 3) := by decide +kernel
theorem dX6_mix_3 : decode cX6_mix 3 = .ok (.lload_n 0, 1) := by decide +kernel
theorem dX6_mix_4 : decode cX6_mix 4 = .ok (.lmul, 1) := by decide +kernel
theorem dX6_mix_5 : decode cX6_mix 5 = .ok (.lload_n 2, 1) := by decide +kernel
theorem dX6_mix_6 : decode cX6_mix 6 = .ok (.ladd, 1) := by decide +kernel
theorem dX6_mix_7 : decode cX6_mix 7 = .ok (.lreturn, 1) := by decide +kernel
set_option maxRecDepth 20000 in
theorem ggX6_mixAll_X6_mix : GoodIn wsX6_mixAll wsX6_mix := goodIn_r _ [4, 5] (by decide +kernel) (by decide +kernel)
set_option maxRecDepth 20000 in
theorem gX6_mixAll_X6_mix : GoodIn wsX6_mixAll (va_wsS RX6 195 yX6_mix wsX6_mix) := goodIn_app (goodIn_of _ (by decide +kernel)) ggX6_mixAll_X6_mix
theorem dX6_mixAll_0 : decode cX6_mixAll 0 = .ok (.lload_n 0, 1) := by decide +kernel
theorem dX6_mixAll_1 : decode cX6_mixAll 1 = .ok (.lstore 4, 2) := by decide +kernel
theorem dX6_mixAll_3 : decode cX6_mixAll 3 = .ok (.iconst 0, 1) := by decide +kernel
theorem dX6_mixAll_4 : decode cX6_mixAll 4 = .ok (.istore 6, 2) := by decide +kernel
theorem dX6_mixAll_6 : decode cX6_mixAll 6 = .ok (.iload 6, 2) := by decide +kernel
theorem dX6_mixAll_8 : decode cX6_mixAll 8 = .ok (.iload_n 3, 1) := by decide +kernel
theorem dX6_mixAll_9 : decode cX6_mixAll 9 = .ok (.if_icmp .ge 21, 3) := by decide +kernel
theorem dX6_mixAll_12 : decode cX6_mixAll 12 = .ok (.lload 4, 2) := by decide +kernel
theorem dX6_mixAll_14 : decode cX6_mixAll 14 = .ok (.aload_n 2, 1) := by decide +kernel
theorem dX6_mixAll_15 : decode cX6_mixAll 15 = .ok (.iload 6, 2) := by decide +kernel
theorem dX6_mixAll_17 : decode cX6_mixAll 17 = .ok (.iaload, 1) := by decide +kernel
theorem dX6_mixAll_18 : decode cX6_mixAll 18 = .ok (.i2l, 1) := by decide +kernel
theorem dX6_mixAll_19 : decode cX6_mixAll 19 = .ok (.invokestatic 195, 3) := by decide +kernel
theorem dX6_mixAll_22 : decode cX6_mixAll 22 = .ok (.lstore 4, 2) := by decide +kernel
theorem dX6_mixAll_24 : decode cX6_mixAll 24 = .ok (.iinc 6 1, 3) := by decide +kernel
theorem dX6_mixAll_27 : decode cX6_mixAll 27 = .ok (.goto (-21), 3) := by decide +kernel
theorem dX6_mixAll_30 : decode cX6_mixAll 30 = .ok (.lload 4, 2) := by decide +kernel
theorem dX6_mixAll_32 : decode cX6_mixAll 32 = .ok (.lreturn, 1) := by decide +kernel
theorem dX6_within_0 : decode cX6_within 0 = .ok (.iload_n 0, 1) := by decide +kernel
theorem dX6_within_1 : decode cX6_within 1 = .ok (.iload_n 1, 1) := by decide +kernel
theorem dX6_within_2 : decode cX6_within 2 = .ok (.if_icmp .lt 12, 3) := by decide +kernel
theorem dX6_within_5 : decode cX6_within 5 = .ok (.iload_n 0, 1) := by decide +kernel
theorem dX6_within_6 : decode cX6_within 6 = .ok (.iload_n 2, 1) := by decide +kernel
theorem dX6_within_7 : decode cX6_within 7 = .ok (.if_icmp .gt 7, 3) := by decide +kernel
theorem dX6_within_10 : decode cX6_within 10 = .ok (.iconst 1, 1) := by decide +kernel
theorem dX6_within_11 : decode cX6_within 11 = .ok (.goto 4, 3) := by decide +kernel
theorem dX6_within_14 : decode cX6_within 14 = .ok (.iconst 0, 1) := by decide +kernel
theorem dX6_within_15 : decode cX6_within 15 = .ok (.ireturn, 1) := by decide +kernel
set_option maxRecDepth 20000 in
theorem ggX6_isSign_X6_within : GoodIn wsX6_isSign wsX6_within := goodIn_r _ [4] (by decide +kernel) (by decide +kernel)
