theorem dX5_init_0 : decode cX5_init 0 = .ok (.aload_n 0, 1) := by decide +kernel
theorem dX5_init_1 : decode cX5_init 1 = .ok (.invokespecial 1, 3) := by decide +kernel
theorem dX5_init_4 : decode cX5_init 4 = .ok (.aload_n 0, 1) := by decide +kernel
theorem dX5_init_5 : decode cX5_init 5 = .ok (.iconst 5, 1) := by decide +kernel
theorem dX5_init_6 : decode cX5_init 6 = .ok (.newarray .int, 2) := by decide +kernel
theorem dX5_init_8 : decode cX5_init 8 = .ok (.putfield 7, 3) := by decide +kernel
theorem dX5_init_11 : decode cX5_init 11 = .ok (.aload_n 0, 1) := by decide +kernel
theorem dX5_init_12 : decode cX5_init 12 = .ok (.bipush 20, 2) := by decide +kernel
theorem dX5_init_14 : decode cX5_init 14 = .ok (.newarray .int, 2) := by decide +kernel
theorem dX5_init_16 : decode cX5_init 16 = .ok (.putfield 13, 3) := by decide +kernel
theorem dX5_init_19 : decode cX5_init 19 = .ok (.aload_n 0, 1) := by decide +kernel
theorem dX5_init_20 : decode cX5_init 20 = .ok (.bipush 20, 2) := by decide +kernel
theorem dX5_init_22 : decode cX5_init 22 = .ok (.newarray .int, 2) := by decide +kernel
theorem dX5_init_24 : decode cX5_init 24 = .ok (.putfield 16, 3) := by decide +kernel
theorem dX5_init_27 : decode cX5_init 27 = .ok (.aload_n 0, 1) := by decide +kernel
theorem dX5_init_28 : decode cX5_init 28 = .ok (.bipush 20, 2) := by decide +kernel
theorem dX5_init_30 : decode cX5_init 30 = .ok (.newarray .int, 2) := by decide +kernel
theorem dX5_init_32 : decode cX5_init 32 = .ok (.putfield 19, 3) := by decide +kernel
theorem dX5_init_35 : decode cX5_init 35 = .ok (.aload_n 0, 1) := by decide +kernel
theorem dX5_init_36 : decode cX5_init 36 = .ok (.bipush 20, 2) := by decide +kernel
theorem dX5_init_38 : decode cX5_init 38 = .ok (.newarray .boolean, 2) := by decide +kernel
theorem dX5_init_40 : decode cX5_init 40 = .ok (.putfield 22, 3) := by decide +kernel
theorem dX5_init_43 : decode cX5_init 43 = .ok (.aload_n 0, 1) := by decide +kernel
theorem dX5_init_44 : decode cX5_init 44 = .ok (.bipush 100, 2) := by decide +kernel
theorem dX5_init_46 : decode cX5_init 46 = .ok (.newarray .int, 2) := by decide +kernel
theorem dX5_init_48 : decode cX5_init 48 = .ok (.putfield 26, 3) := by decide +kernel
theorem dX5_init_51 : decode cX5_init 51 = .ok (.aload_n 0, 1) := by decide +kernel
theorem dX5_init_52 : decode cX5_init 52 = .ok (.bipush 60, 2) := by decide +kernel
theorem dX5_init_54 : decode cX5_init 54 = .ok (.newarray .long, 2) := by decide +kernel
theorem dX5_init_56 : decode cX5_init 56 = .ok (.putfield 29, 3) := by decide +kernel
theorem dX5_init_59 : decode cX5_init 59 = .ok (.aload_n 0, 1) := by decide +kernel
theorem dX5_init_60 : decode cX5_init 60 = .ok (.sipush 1200, 3) := by decide +kernel
theorem dX5_init_63 : decode cX5_init 63 = .ok (.newarray .int, 2) := by decide +kernel
theorem dX5_init_65 : decode cX5_init 65 = .ok (.putfield 33, 3) := by decide +kernel
theorem dX5_init_68 : decode cX5_init 68 = .ok (.aload_n 0, 1) := by decide +kernel
theorem dX5_init_69 : decode cX5_init 69 = .ok (.iconst 5, 1) := by decide +kernel
theorem dX5_init_70 : decode cX5_init 70 = .ok (.newarray .int, 2) := by decide +kernel
theorem dX5_init_72 : decode cX5_init 72 = .ok (.putfield 36, 3) := by decide +kernel
theorem dX5_init_75 : decode cX5_init 75 = .ok (.aload_n 0, 1) := by decide +kernel
theorem dX5_init_76 : decode cX5_init 76 = .ok (.bipush (-9), 2) := by decide +kernel
theorem dX5_init_78 : decode cX5_init 78 = .ok (.putfield 39, 3) := by decide +kernel
theorem dX5_init_81 : decode cX5_init 81 = .ok (.aload_n 0, 1) := by decide +kernel
theorem dX5_init_82 : decode cX5_init 82 = .ok (.bipush 20, 2) := by decide +kernel
theorem dX5_init_84 : decode cX5_init 84 = .ok (.newarray .int, 2) := by decide +kernel
theorem dX5_init_86 : decode cX5_init 86 = .ok (.putfield 43, 3) := by decide +kernel
theorem dX5_init_89 : decode cX5_init 89 = .ok (.aload_n 0, 1) := by decide +kernel
theorem dX5_init_90 : decode cX5_init 90 = .ok (.bipush 20, 2) := by decide +kernel
theorem dX5_init_92 : decode cX5_init 92 = .ok (.newarray .int, 2) := by decide +kernel
theorem dX5_init_94 : decode cX5_init 94 = .ok (.putfield 46, 3) := by decide +kernel
theorem dX5_init_97 : decode cX5_init 97 = .ok (.iconst 0, 1) := by decide +kernel
theorem dX5_init_98 : decode cX5_init 98 = .ok (.istore_n 1, 1) := by decide +kernel
theorem dX5_init_99 : decode cX5_init 99 = .ok (.iload_n 1, 1) := by decide +kernel
theorem dX5_init_100 : decode cX5_init 100 = .ok (.sipush 1200, 3) := by decide +kernel
theorem dX5_init_103 : decode cX5_init 103 = .ok (.if_icmp .ge 17, 3) := by decide +kernel
theorem dX5_init_106 : decode cX5_init 106 = .ok (.aload_n 0, 1) := by decide +kernel
theorem dX5_init_107 : decode cX5_init 107 = .ok (.getfield 33, 3) := by decide +kernel
theorem dX5_init_110 : decode cX5_init 110 = .ok (.iload_n 1, 1) := by decide +kernel
theorem dX5_init_111 : decode cX5_init 111 = .ok (.bipush (-9), 2) := by decide +kernel
theorem dX5_init_113 : decode cX5_init 113 = .ok (.iastore, 1) := by decide +kernel
theorem dX5_init_114 : decode cX5_init 114 = .ok (.iinc 1 1, 3) := by decide +kernel
theorem dX5_init_117 : decode cX5_init 117 = .ok (.goto (-18), 3) := by decide +kernel
theorem dX5_init_120 : decode cX5_init 120 = .ok (.return_, 1) := by decide +kernel
theorem dX5_in_0 : decode cX5_in 0 = .ok (.iload_n 0, 1) := by decide +kernel
theorem dX5_in_1 : decode cX5_in 1 = .ok (.iload_n 1, 1) := by decide +kernel
theorem dX5_in_2 : decode cX5_in 2 = .ok (.if_icmp .lt 12, 3) := by decide +kernel
theorem dX5_in_5 : decode cX5_in 5 = .ok (.iload_n 0, 1) := by decide +kernel
theorem dX5_in_6 : decode cX5_in 6 = .ok (.iload_n 2, 1) := by decide +kernel
theorem dX5_in_7 : decode cX5_in 7 = .ok (.if_icmp .gt 7, 3) := by decide +kernel
theorem dX5_in_10 : decode cX5_in 10 = .ok (.iconst 1, 1) := by decide +kernel
theorem dX5_in_11 : decode cX5_in 11 = .ok (.goto 4, 3) := by decide +kernel
theorem dX5_in_14 : decode cX5_in 14 = .ok (.iconst 0, 1) := by decide +kernel
theorem dX5_in_15 : decode cX5_in 15 = .ok (.ireturn, 1) := by decide +kernel
theorem dX5_meets_0 : decode cX5_meets 0 = .ok (.aload_n 0, 1) := by decide +kernel
theorem dX5_meets_1 : decode cX5_meets 1 = .ok (.iload_n 1, 1) := by decide +kernel
theorem dX5_meets_2 : decode cX5_meets 2 = .ok (.putfield 49, 3) := by decide +kernel
theorem dX5_meets_5 : decode cX5_meets 5 = .ok (.aload_n 0, 1) := by decide +kernel
theorem dX5_meets_6 : decode cX5_meets 6 = .ok (.getfield 7, 3) := by decide +kernel
theorem dX5_meets_9 : decode cX5_meets 9 = .ok (.iload_n 1, 1) := by decide +kernel
theorem dX5_meets_10 : decode cX5_meets 10 = .ok (.dup2, 1) := by decide +kernel
theorem dX5_meets_11 : decode cX5_meets 11 = .ok (.iaload, 1) := by decide +kernel
theorem dX5_meets_12 : decode cX5_meets 12 = .ok (.iconst 1, 1) := by decide +kernel
theorem dX5_meets_13 : decode cX5_meets 13 = .ok (.iadd, 1) := by decide +kernel
theorem dX5_meets_14 : decode cX5_meets 14 = .ok (.iastore, 1) := by decide +kernel
theorem dX5_meets_15 : decode cX5_meets 15 = .ok (.bipush (-3), 2) := by decide +kernel
theorem dX5_meets_17 : decode cX5_meets 17 = .ok (.ireturn, 1) := by decide +kernel
set_option maxRecDepth 20000 in
theorem ggX5_isTest_X5_in : GoodIn wsX5_isTest wsX5_in := goodIn_r _ [5] (by decide +kernel) (by decide +kernel)
set_option maxRecDepth 20000 in
theorem gX5_isTest_X5_in : GoodIn wsX5_isTest (va_wsS RX5 55 yX5_in wsX5_in) := goodIn_app (goodIn_of _ (by decide +kernel)) ggX5_isTest_X5_in
theorem dX5_isTest_0 : decode cX5_isTest 0 = .ok (.iload_n 1, 1) := by decide +kernel
theorem dX5_isTest_1 : decode cX5_isTest 1 = .ok (.iconst 0, 1) := by decide +kernel
theorem dX5_isTest_2 : decode cX5_isTest 2 = .ok (.aload_n 0, 1) := by decide +kernel
theorem dX5_isTest_3 : decode cX5_isTest 3 = .ok (.getfield 52, 3) := by decide +kernel
theorem dX5_isTest_6 : decode cX5_isTest 6 = .ok (.iconst 1, 1) := by decide +kernel
theorem dX5_isTest_7 : decode cX5_isTest 7 = .ok (.isub, 1) := by decide +kernel
theorem dX5_isTest_8 : decode cX5_isTest 8 = .ok (.invokestatic 55, 3) := by decide +kernel
theorem dX5_isTest_11 : decode cX5_isTest 11 = .ok (.ireturn, 1) := by decide +kernel
set_option maxRecDepth 20000 in
theorem ggX5_isBuild_X5_in : GoodIn wsX5_isBuild wsX5_in := goodIn_r _ [5] (by decide +kernel) (by decide +kernel)
set_option maxRecDepth 20000 in
theorem gX5_isBuild_X5_in : GoodIn wsX5_isBuild (va_wsS RX5 55 yX5_in wsX5_in) := goodIn_app (goodIn_of _ (by decide +kernel)) ggX5_isBuild_X5_in
theorem dX5_isBuild_0 : decode cX5_isBuild 0 = .ok (.iload_n 1, 1) := by decide +kernel
theorem dX5_isBuild_1 : decode cX5_isBuild 1 = .ok (.iconst 0, 1) := by decide +kernel
theorem dX5_isBuild_2 : decode cX5_isBuild 2 = .ok (.aload_n 0, 1) := by decide +kernel
theorem dX5_isBuild_3 : decode cX5_isBuild 3 = .ok (.getfield 59, 3) := by decide +kernel
theorem dX5_isBuild_6 : decode cX5_isBuild 6 = .ok (.iconst 1, 1) := by decide +kernel
theorem dX5_isBuild_7 : decode cX5_isBuild 7 = .ok (.isub, 1) := by decide +kernel
theorem dX5_isBuild_8 : decode cX5_isBuild 8 = .ok (.invokestatic 55, 3) := by decide +kernel
theorem dX5_isBuild_11 : decode cX5_isBuild 11 = .ok (.ireturn, 1) := by decide +kernel
set_option maxRecDepth 20000 in
theorem ggX5_test_X5_in : GoodIn wsX5_test wsX5_in := goodIn_r _ [8] (by decide +kernel) (by decide +kernel)
set_option maxRecDepth 20000 in
theorem gX5_test_X5_in : GoodIn wsX5_test (va_wsS RX5 55 yX5_in wsX5_in) := goodIn_app (goodIn_of _ (by decide +kernel)) ggX5_test_X5_in
set_option maxRecDepth 20000 in
theorem ggX5_test_X5_isTest : GoodIn wsX5_test wsX5_isTest := goodIn_r _ [12, 1, 5, 6, 7, 8, 13, 14, 15, 16, 17, 18, 19, 20, 21, 22, 23, 24, 25, 26, 27, 28, 29, 30, 31] (by decide +kernel) (by decide +kernel)
set_option maxRecDepth 20000 in
theorem gX5_test_X5_isTest : GoodIn wsX5_test (wsV RX5 62 RX5 yX5_isTest wsX5_isTest) := goodIn_app (goodIn_of _ (by decide +kernel)) ggX5_test_X5_isTest
theorem dX5_test_0 : decode cX5_test 0 = .ok (.iload_n 1, 1) := by decide +kernel
theorem dX5_test_1 : decode cX5_test 1 = .ok (.iconst 0, 1) := by decide +kernel
theorem dX5_test_2 : decode cX5_test 2 = .ok (.iconst 3, 1) := by decide +kernel
theorem dX5_test_3 : decode cX5_test 3 = .ok (.invokestatic 55, 3) := by decide +kernel
theorem dX5_test_6 : decode cX5_test 6 = .ok (.ifCond .eq 27, 3) := by decide +kernel
theorem dX5_test_9 : decode cX5_test 9 = .ok (.iload_n 2, 1) := by decide +kernel
theorem dX5_test_10 : decode cX5_test 10 = .ok (.iconst 1, 1) := by decide +kernel
theorem dX5_test_11 : decode cX5_test 11 = .ok (.sipush 1000, 3) := by decide +kernel
theorem dX5_test_14 : decode cX5_test 14 = .ok (.invokestatic 55, 3) := by decide +kernel
theorem dX5_test_17 : decode cX5_test 17 = .ok (.ifCond .eq 16, 3) := by decide +kernel
theorem dX5_test_20 : decode cX5_test 20 = .ok (.iload_n 1, 1) := by decide +kernel
theorem dX5_test_21 : decode cX5_test 21 = .ok (.iconst 2, 1) := by decide +kernel
theorem dX5_test_22 : decode cX5_test 22 = .ok (.if_icmp .ne 13, 3) := by decide +kernel
theorem dX5_test_25 : decode cX5_test 25 = .ok (.aload_n 0, 1) := by decide +kernel
theorem dX5_test_26 : decode cX5_test 26 = .ok (.iload_n 3, 1) := by decide +kernel
theorem dX5_test_27 : decode cX5_test 27 = .ok (.invokevirtual 62, 3) := by decide +kernel
theorem dX5_test_30 : decode cX5_test 30 = .ok (.ifCond .ne 5, 3) := by decide +kernel
theorem dX5_test_33 : decode cX5_test 33 = .ok (.iconst (-1), 1) := by decide +kernel
theorem dX5_test_34 : decode cX5_test 34 = .ok (.ireturn, 1) := by decide +kernel
theorem dX5_test_35 : decode cX5_test 35 = .ok (.aload_n 0, 1) := by decide +kernel
theorem dX5_test_36 : decode cX5_test 36 = .ok (.getfield 52, 3) := by decide +kernel
theorem dX5_test_39 : decode cX5_test 39 = .ok (.bipush 20, 2) := by decide +kernel
theorem dX5_test_41 : decode cX5_test 41 = .ok (.if_icmp .ne 6, 3) := by decide +kernel
theorem dX5_test_44 : decode cX5_test 44 = .ok (.bipush (-2), 2) := by decide +kernel
theorem dX5_test_46 : decode cX5_test 46 = .ok (.ireturn, 1) := by decide +kernel
theorem dX5_test_47 : decode cX5_test 47 = .ok (.aload_n 0, 1) := by decide +kernel
theorem dX5_test_48 : decode cX5_test 48 = .ok (.getfield 13, 3) := by decide +kernel
theorem dX5_test_51 : decode cX5_test 51 = .ok (.aload_n 0, 1) := by decide +kernel
theorem dX5_test_52 : decode cX5_test 52 = .ok (.getfield 52, 3) := by decide +kernel
theorem dX5_test_55 : decode cX5_test 55 = .ok (.iload_n 1, 1) := by decide +kernel
theorem dX5_test_56 : decode cX5_test 56 = .ok (.iastore, 1) := by decide +kernel
theorem dX5_test_57 : decode cX5_test 57 = .ok (.aload_n 0, 1) := by decide +kernel
theorem dX5_test_58 : decode cX5_test 58 = .ok (.getfield 16, 3) := by decide +kernel
theorem dX5_test_61 : decode cX5_test 61 = .ok (.aload_n 0, 1) := by decide +kernel
theorem dX5_test_62 : decode cX5_test 62 = .ok (.getfield 52, 3) := by decide +kernel
theorem dX5_test_65 : decode cX5_test 65 = .ok (.iload_n 2, 1) := by decide +kernel
theorem dX5_test_66 : decode cX5_test 66 = .ok (.iastore, 1) := by decide +kernel
theorem dX5_test_67 : decode cX5_test 67 = .ok (.aload_n 0, 1) := by decide +kernel
theorem dX5_test_68 : decode cX5_test 68 = .ok (.getfield 19, 3) := by decide +kernel
theorem dX5_test_71 : decode cX5_test 71 = .ok (.aload_n 0, 1) := by decide +kernel
theorem dX5_test_72 : decode cX5_test 72 = .ok (.getfield 52, 3) := by decide +kernel
theorem dX5_test_75 : decode cX5_test 75 = .ok (.iload_n 1, 1) := by decide +kernel
theorem dX5_test_76 : decode cX5_test 76 = .ok (.iconst 2, 1) := by decide +kernel
theorem dX5_test_77 : decode cX5_test 77 = .ok (.if_icmp .ne 7, 3) := by decide +kernel
theorem dX5_test_80 : decode cX5_test 80 = .ok (.iload_n 3, 1) := by decide +kernel
theorem dX5_test_81 : decode cX5_test 81 = .ok (.goto 5, 3) := by decide +kernel
theorem dX5_test_84 : decode cX5_test 84 = .ok (.bipush (-9), 2) := by decide +kernel
theorem dX5_test_86 : decode cX5_test 86 = .ok (.iastore, 1) := by decide +kernel
theorem dX5_test_87 : decode cX5_test 87 = .ok (.aload_n 0, 1) := by decide +kernel
theorem dX5_test_88 : decode cX5_test 88 = .ok (.dup, 1) := by decide +kernel
theorem dX5_test_89 : decode cX5_test 89 = .ok (.getfield 52, 3) := by decide +kernel
theorem dX5_test_92 : decode cX5_test 92 = .ok (.iconst 1, 1) := by decide +kernel
theorem dX5_test_93 : decode cX5_test 93 = .ok (.iadd, 1) := by decide +kernel
theorem dX5_test_94 : decode cX5_test 94 = .ok (.putfield 52, 3) := by decide +kernel
theorem dX5_test_97 : decode cX5_test 97 = .ok (.aload_n 0, 1) := by decide +kernel
theorem dX5_test_98 : decode cX5_test 98 = .ok (.getfield 52, 3) := by decide +kernel
theorem dX5_test_101 : decode cX5_test 101 = .ok (.iconst 1, 1) := by decide +kernel
theorem dX5_test_102 : decode cX5_test 102 = .ok (.isub, 1) := by decide +kernel
theorem dX5_test_103 : decode cX5_test 103 = .ok (.ireturn, 1) := by decide +kernel
set_option maxRecDepth 20000 in
theorem ggX5_turn_X5_isTest : GoodIn wsX5_turn wsX5_isTest := goodIn_r _ [6, 7, 8, 9, 5, 10, 17, 18, 19, 20, 21, 22, 23, 24, 25, 26, 27, 28, 29, 30, 31, 32, 33, 34, 35] (by decide +kernel) (by decide +kernel)
set_option maxRecDepth 20000 in
theorem gX5_turn_X5_isTest : GoodIn wsX5_turn (wsV RX5 62 RX5 yX5_isTest wsX5_isTest) := goodIn_app (goodIn_of _ (by decide +kernel)) ggX5_turn_X5_isTest
set_option maxRecDepth 20000 in
theorem ggX5_turn_X5_in : GoodIn wsX5_turn wsX5_in := goodIn_r _ [10] (by decide +kernel) (by decide +kernel)
set_option maxRecDepth 20000 in
theorem gX5_turn_X5_in : GoodIn wsX5_turn (va_wsS RX5 55 yX5_in wsX5_in) := goodIn_app (goodIn_of _ (by decide +kernel)) ggX5_turn_X5_in
set_option maxRecDepth 20000 in
theorem ggX5_turn_X5_meets : GoodIn wsX5_turn wsX5_meets := goodIn_r _ [14, 15, 16, 17, 18, 19, 20, 21, 22, 23, 24, 25, 26, 27, 28, 29, 30, 31, 32, 33, 34, 35] (by decide +kernel) (by decide +kernel)
set_option maxRecDepth 20000 in
theorem gX5_turn_X5_meets : GoodIn wsX5_turn (wsV RX5 66 RX5 yX5_meets wsX5_meets) := goodIn_app (goodIn_of _ (by decide +kernel)) ggX5_turn_X5_meets
theorem dX5_turn_0 : decode cX5_turn 0 = .ok (.aload_n 0, 1) := by decide +kernel
theorem dX5_turn_1 : decode cX5_turn 1 = .ok (.iload_n 1, 1) := by decide +kernel
theorem dX5_turn_2 : decode cX5_turn 2 = .ok (.invokevirtual 62, 3) := by decide +kernel
theorem dX5_turn_5 : decode cX5_turn 5 = .ok (.ifCond .eq 17, 3) := by decide +kernel
theorem dX5_turn_8 : decode cX5_turn 8 = .ok (.iload_n 2, 1) := by decide +kernel
theorem dX5_turn_9 : decode cX5_turn 9 = .ok (.iconst 0, 1) := by decide +kernel
theorem dX5_turn_10 : decode cX5_turn 10 = .ok (.iconst 3, 1) := by decide +kernel
theorem dX5_turn_11 : decode cX5_turn 11 = .ok (.invokestatic 55, 3) := by decide +kernel
theorem dX5_turn_14 : decode cX5_turn 14 = .ok (.ifCond .eq 8, 3) := by decide +kernel
theorem dX5_turn_17 : decode cX5_turn 17 = .ok (.iload_n 2, 1) := by decide +kernel
theorem dX5_turn_18 : decode cX5_turn 18 = .ok (.iconst 2, 1) := by decide +kernel
theorem dX5_turn_19 : decode cX5_turn 19 = .ok (.if_icmp .ne 5, 3) := by decide +kernel
theorem dX5_turn_22 : decode cX5_turn 22 = .ok (.iconst (-1), 1) := by decide +kernel
theorem dX5_turn_23 : decode cX5_turn 23 = .ok (.ireturn, 1) := by decide +kernel
theorem dX5_turn_24 : decode cX5_turn 24 = .ok (.aload_n 0, 1) := by decide +kernel
theorem dX5_turn_25 : decode cX5_turn 25 = .ok (.getfield 13, 3) := by decide +kernel
theorem dX5_turn_28 : decode cX5_turn 28 = .ok (.iload_n 1, 1) := by decide +kernel
theorem dX5_turn_29 : decode cX5_turn 29 = .ok (.iaload, 1) := by decide +kernel
theorem dX5_turn_30 : decode cX5_turn 30 = .ok (.iconst 2, 1) := by decide +kernel
theorem dX5_turn_31 : decode cX5_turn 31 = .ok (.if_icmp .ne 9, 3) := by decide +kernel
theorem dX5_turn_34 : decode cX5_turn 34 = .ok (.aload_n 0, 1) := by decide +kernel
theorem dX5_turn_35 : decode cX5_turn 35 = .ok (.iconst 3, 1) := by decide +kernel
theorem dX5_turn_36 : decode cX5_turn 36 = .ok (.invokevirtual 66, 3) := by decide +kernel
theorem dX5_turn_39 : decode cX5_turn 39 = .ok (.ireturn, 1) := by decide +kernel
theorem dX5_turn_40 : decode cX5_turn 40 = .ok (.aload_n 0, 1) := by decide +kernel
theorem dX5_turn_41 : decode cX5_turn 41 = .ok (.getfield 13, 3) := by decide +kernel
theorem dX5_turn_44 : decode cX5_turn 44 = .ok (.iload_n 1, 1) := by decide +kernel
theorem dX5_turn_45 : decode cX5_turn 45 = .ok (.iaload, 1) := by decide +kernel
theorem dX5_turn_46 : decode cX5_turn 46 = .ok (.istore_n 3, 1) := by decide +kernel
theorem dX5_turn_47 : decode cX5_turn 47 = .ok (.aload_n 0, 1) := by decide +kernel
theorem dX5_turn_48 : decode cX5_turn 48 = .ok (.getfield 13, 3) := by decide +kernel
theorem dX5_turn_51 : decode cX5_turn 51 = .ok (.iload_n 1, 1) := by decide +kernel
theorem dX5_turn_52 : decode cX5_turn 52 = .ok (.iload_n 2, 1) := by decide +kernel
theorem dX5_turn_53 : decode cX5_turn 53 = .ok (.iastore, 1) := by decide +kernel
theorem dX5_turn_54 : decode cX5_turn 54 = .ok (.iload_n 3, 1) := by decide +kernel
theorem dX5_turn_55 : decode cX5_turn 55 = .ok (.ireturn, 1) := by decide +kernel
set_option maxRecDepth 20000 in
theorem ggX5_reach_X5_isTest : GoodIn wsX5_reach wsX5_isTest := goodIn_r _ [7, 8, 9, 10, 6, 11, 18, 19, 20, 21, 22, 23, 24, 25, 26, 27, 28, 29, 30, 31, 32, 33, 34, 35, 36] (by decide +kernel) (by decide +kernel)
set_option maxRecDepth 20000 in
theorem gX5_reach_X5_isTest : GoodIn wsX5_reach (wsV RX5 62 RX5 yX5_isTest wsX5_isTest) := goodIn_app (goodIn_of _ (by decide +kernel)) ggX5_reach_X5_isTest
set_option maxRecDepth 20000 in
theorem ggX5_reach_X5_in : GoodIn wsX5_reach wsX5_in := goodIn_r _ [11] (by decide +kernel) (by decide +kernel)
set_option maxRecDepth 20000 in
theorem gX5_reach_X5_in : GoodIn wsX5_reach (va_wsS RX5 55 yX5_in wsX5_in) := goodIn_app (goodIn_of _ (by decide +kernel)) ggX5_reach_X5_in
set_option maxRecDepth 20000 in
theorem ggX5_reach_X5_meets : GoodIn wsX5_reach wsX5_meets := goodIn_r _ [15, 16, 17, 18, 19, 20, 21, 22, 23, 24, 25, 26, 27, 28, 29, 30, 31, 32, 33, 34, 35, 36] (by decide +kernel) (by decide +kernel)
set_option maxRecDepth 20000 in
theorem gX5_reach_X5_meets : GoodIn wsX5_reach (wsV RX5 66 RX5 yX5_meets wsX5_meets) := goodIn_app (goodIn_of _ (by decide +kernel)) ggX5_reach_X5_meets
theorem dX5_reach_0 : decode cX5_reach 0 = .ok (.aload_n 0, 1) := by decide +kernel
theorem dX5_reach_1 : decode cX5_reach 1 = .ok (.iload_n 1, 1) := by decide +kernel
theorem dX5_reach_2 : decode cX5_reach 2 = .ok (.invokevirtual 62, 3) := by decide +kernel
theorem dX5_reach_5 : decode cX5_reach 5 = .ok (.ifCond .eq 14, 3) := by decide +kernel
theorem dX5_reach_8 : decode cX5_reach 8 = .ok (.iload_n 3, 1) := by decide +kernel
theorem dX5_reach_9 : decode cX5_reach 9 = .ok (.iconst 0, 1) := by decide +kernel
theorem dX5_reach_10 : decode cX5_reach 10 = .ok (.sipush 255, 3) := by decide +kernel
theorem dX5_reach_13 : decode cX5_reach 13 = .ok (.invokestatic 55, 3) := by decide +kernel
theorem dX5_reach_16 : decode cX5_reach 16 = .ok (.ifCond .ne 5, 3) := by decide +kernel
theorem dX5_reach_19 : decode cX5_reach 19 = .ok (.iconst (-1), 1) := by decide +kernel
theorem dX5_reach_20 : decode cX5_reach 20 = .ok (.ireturn, 1) := by decide +kernel
theorem dX5_reach_21 : decode cX5_reach 21 = .ok (.aload_n 0, 1) := by decide +kernel
theorem dX5_reach_22 : decode cX5_reach 22 = .ok (.getfield 22, 3) := by decide +kernel
theorem dX5_reach_25 : decode cX5_reach 25 = .ok (.iload_n 1, 1) := by decide +kernel
theorem dX5_reach_26 : decode cX5_reach 26 = .ok (.baload, 1) := by decide +kernel
theorem dX5_reach_27 : decode cX5_reach 27 = .ok (.ifCond .eq 9, 3) := by decide +kernel
theorem dX5_reach_30 : decode cX5_reach 30 = .ok (.aload_n 0, 1) := by decide +kernel
theorem dX5_reach_31 : decode cX5_reach 31 = .ok (.iconst 1, 1) := by decide +kernel
theorem dX5_reach_32 : decode cX5_reach 32 = .ok (.invokevirtual 66, 3) := by decide +kernel
theorem dX5_reach_35 : decode cX5_reach 35 = .ok (.ireturn, 1) := by decide +kernel
theorem dX5_reach_36 : decode cX5_reach 36 = .ok (.iload_n 2, 1) := by decide +kernel
theorem dX5_reach_37 : decode cX5_reach 37 = .ok (.iconst 0, 1) := by decide +kernel
theorem dX5_reach_38 : decode cX5_reach 38 = .ok (.iconst 4, 1) := by decide +kernel
theorem dX5_reach_39 : decode cX5_reach 39 = .ok (.invokestatic 55, 3) := by decide +kernel
theorem dX5_reach_42 : decode cX5_reach 42 = .ok (.ifCond .ne 9, 3) := by decide +kernel
theorem dX5_reach_45 : decode cX5_reach 45 = .ok (.aload_n 0, 1) := by decide +kernel
theorem dX5_reach_46 : decode cX5_reach 46 = .ok (.iconst 2, 1) := by decide +kernel
theorem dX5_reach_47 : decode cX5_reach 47 = .ok (.invokevirtual 66, 3) := by decide +kernel
theorem dX5_reach_50 : decode cX5_reach 50 = .ok (.ireturn, 1) := by decide +kernel
theorem dX5_reach_51 : decode cX5_reach 51 = .ok (.aload_n 0, 1) := by decide +kernel
theorem dX5_reach_52 : decode cX5_reach 52 = .ok (.getfield 26, 3) := by decide +kernel
theorem dX5_reach_55 : decode cX5_reach 55 = .ok (.iconst 5, 1) := by decide +kernel
theorem dX5_reach_56 : decode cX5_reach 56 = .ok (.iload_n 1, 1) := by decide +kernel
theorem dX5_reach_57 : decode cX5_reach 57 = .ok (.imul, 1) := by decide +kernel
theorem dX5_reach_58 : decode cX5_reach 58 = .ok (.iload_n 2, 1) := by decide +kernel
theorem dX5_reach_59 : decode cX5_reach 59 = .ok (.iadd, 1) := by decide +kernel
theorem dX5_reach_60 : decode cX5_reach 60 = .ok (.iaload, 1) := by decide +kernel
theorem dX5_reach_61 : decode cX5_reach 61 = .ok (.istore 4, 2) := by decide +kernel
theorem dX5_reach_63 : decode cX5_reach 63 = .ok (.aload_n 0, 1) := by decide +kernel
theorem dX5_reach_64 : decode cX5_reach 64 = .ok (.getfield 26, 3) := by decide +kernel
theorem dX5_reach_67 : decode cX5_reach 67 = .ok (.iconst 5, 1) := by decide +kernel
theorem dX5_reach_68 : decode cX5_reach 68 = .ok (.iload_n 1, 1) := by decide +kernel
theorem dX5_reach_69 : decode cX5_reach 69 = .ok (.imul, 1) := by decide +kernel
theorem dX5_reach_70 : decode cX5_reach 70 = .ok (.iload_n 2, 1) := by decide +kernel
theorem dX5_reach_71 : decode cX5_reach 71 = .ok (.iadd, 1) := by decide +kernel
theorem dX5_reach_72 : decode cX5_reach 72 = .ok (.iload_n 3, 1) := by decide +kernel
theorem dX5_reach_73 : decode cX5_reach 73 = .ok (.iastore, 1) := by decide +kernel
theorem dX5_reach_74 : decode cX5_reach 74 = .ok (.iload 4, 2) := by decide +kernel
theorem dX5_reach_76 : decode cX5_reach 76 = .ok (.ireturn, 1) := by decide +kernel
set_option maxRecDepth 20000 in
theorem ggX5_byteOf_X5_isTest : GoodIn wsX5_byteOf wsX5_isTest := goodIn_r _ [7, 8, 9, 10, 6, 11, 18, 19, 20, 21, 22, 23, 24, 25, 26, 27, 28, 29, 30, 31, 32, 33, 34, 35, 36] (by decide +kernel) (by decide +kernel)
set_option maxRecDepth 20000 in
theorem gX5_byteOf_X5_isTest : GoodIn wsX5_byteOf (wsV RX5 62 RX5 yX5_isTest wsX5_isTest) := goodIn_app (goodIn_of _ (by decide +kernel)) ggX5_byteOf_X5_isTest
set_option maxRecDepth 20000 in
theorem ggX5_byteOf_X5_meets : GoodIn wsX5_byteOf wsX5_meets := goodIn_r _ [15, 16, 17, 18, 19, 20, 21, 22, 23, 24, 25, 26, 27, 28, 29, 30, 31, 32, 33, 34, 35, 36] (by decide +kernel) (by decide +kernel)
set_option maxRecDepth 20000 in
theorem gX5_byteOf_X5_meets : GoodIn wsX5_byteOf (wsV RX5 66 RX5 yX5_meets wsX5_meets) := goodIn_app (goodIn_of _ (by decide +kernel)) ggX5_byteOf_X5_meets
set_option maxRecDepth 20000 in
theorem ggX5_byteOf_X5_in : GoodIn wsX5_byteOf wsX5_in := goodIn_r _ [11] (by decide +kernel) (by decide +kernel)
set_option maxRecDepth 20000 in
theorem gX5_byteOf_X5_in : GoodIn wsX5_byteOf (va_wsS RX5 55 yX5_in wsX5_in) := goodIn_app (goodIn_of _ (by decide +kernel)) ggX5_byteOf_X5_in
theorem dX5_byteOf_0 : decode cX5_byteOf 0 = .ok (.aload_n 0, 1) := by decide +kernel
theorem dX5_byteOf_1 : decode cX5_byteOf 1 = .ok (.iload_n 1, 1) := by decide +kernel
theorem dX5_byteOf_2 : decode cX5_byteOf 2 = .ok (.invokevirtual 62, 3) := by decide +kernel
theorem dX5_byteOf_5 : decode cX5_byteOf 5 = .ok (.ifCond .ne 5, 3) := by decide +kernel
theorem dX5_byteOf_8 : decode cX5_byteOf 8 = .ok (.iconst (-1), 1) := by decide +kernel
theorem dX5_byteOf_9 : decode cX5_byteOf 9 = .ok (.ireturn, 1) := by decide +kernel
theorem dX5_byteOf_10 : decode cX5_byteOf 10 = .ok (.aload_n 0, 1) := by decide +kernel
theorem dX5_byteOf_11 : decode cX5_byteOf 11 = .ok (.getfield 22, 3) := by decide +kernel
theorem dX5_byteOf_14 : decode cX5_byteOf 14 = .ok (.iload_n 1, 1) := by decide +kernel
theorem dX5_byteOf_15 : decode cX5_byteOf 15 = .ok (.baload, 1) := by decide +kernel
theorem dX5_byteOf_16 : decode cX5_byteOf 16 = .ok (.ifCond .eq 9, 3) := by decide +kernel
theorem dX5_byteOf_19 : decode cX5_byteOf 19 = .ok (.aload_n 0, 1) := by decide +kernel
theorem dX5_byteOf_20 : decode cX5_byteOf 20 = .ok (.iconst 1, 1) := by decide +kernel
theorem dX5_byteOf_21 : decode cX5_byteOf 21 = .ok (.invokevirtual 66, 3) := by decide +kernel
theorem dX5_byteOf_24 : decode cX5_byteOf 24 = .ok (.ireturn, 1) := by decide +kernel
theorem dX5_byteOf_25 : decode cX5_byteOf 25 = .ok (.iload_n 2, 1) := by decide +kernel
theorem dX5_byteOf_26 : decode cX5_byteOf 26 = .ok (.iconst 0, 1) := by decide +kernel
theorem dX5_byteOf_27 : decode cX5_byteOf 27 = .ok (.iconst 4, 1) := by decide +kernel
theorem dX5_byteOf_28 : decode cX5_byteOf 28 = .ok (.invokestatic 55, 3) := by decide +kernel
theorem dX5_byteOf_31 : decode cX5_byteOf 31 = .ok (.ifCond .eq 16, 3) := by decide +kernel
theorem dX5_byteOf_34 : decode cX5_byteOf 34 = .ok (.aload_n 0, 1) := by decide +kernel
theorem dX5_byteOf_35 : decode cX5_byteOf 35 = .ok (.getfield 26, 3) := by decide +kernel
theorem dX5_byteOf_38 : decode cX5_byteOf 38 = .ok (.iconst 5, 1) := by decide +kernel
theorem dX5_byteOf_39 : decode cX5_byteOf 39 = .ok (.iload_n 1, 1) := by decide +kernel
theorem dX5_byteOf_40 : decode cX5_byteOf 40 = .ok (.imul, 1) := by decide +kernel
theorem dX5_byteOf_41 : decode cX5_byteOf 41 = .ok (.iload_n 2, 1) := by decide +kernel
theorem dX5_byteOf_42 : decode cX5_byteOf 42 = .ok (.iadd, 1) := by decide +kernel
theorem dX5_byteOf_43 : decode cX5_byteOf 43 = .ok (.iaload, 1) := by decide +kernel
theorem dX5_byteOf_44 : decode cX5_byteOf 44 = .ok (.goto 8, 3) := by decide +kernel
theorem dX5_byteOf_47 : decode cX5_byteOf 47 = .ok (.aload_n 0, 1) := by decide +kernel
theorem dX5_byteOf_48 : decode cX5_byteOf 48 = .ok (.iconst 2, 1) := by decide +kernel
theorem dX5_byteOf_49 : decode cX5_byteOf 49 = .ok (.invokevirtual 66, 3) := by decide +kernel
theorem dX5_byteOf_52 : decode cX5_byteOf 52 = .ok (.ireturn, 1) := by decide +kernel
set_option maxRecDepth 20000 in
theorem ggX5_tear_X5_isTest : GoodIn wsX5_tear wsX5_isTest := goodIn_r _ [6, 7, 8, 9, 5, 10, 17, 18, 19, 20, 21, 22, 23, 24, 25, 26, 27, 28, 29, 30, 31, 32, 33, 34, 35] (by decide +kernel) (by decide +kernel)
set_option maxRecDepth 20000 in
theorem gX5_tear_X5_isTest : GoodIn wsX5_tear (wsV RX5 62 RX5 yX5_isTest wsX5_isTest) := goodIn_app (goodIn_of _ (by decide +kernel)) ggX5_tear_X5_isTest
set_option maxRecDepth 20000 in
theorem ggX5_tear_X5_meets : GoodIn wsX5_tear wsX5_meets := goodIn_r _ [14, 15, 16, 17, 18, 19, 20, 21, 22, 23, 24, 25, 26, 27, 28, 29, 30, 31, 32, 33, 34, 35] (by decide +kernel) (by decide +kernel)
set_option maxRecDepth 20000 in
theorem gX5_tear_X5_meets : GoodIn wsX5_tear (wsV RX5 66 RX5 yX5_meets wsX5_meets) := goodIn_app (goodIn_of _ (by decide +kernel)) ggX5_tear_X5_meets
theorem dX5_tear_0 : decode cX5_tear 0 = .ok (.aload_n 0, 1) := by decide +kernel
theorem dX5_tear_1 : decode cX5_tear 1 = .ok (.iload_n 1, 1) := by decide +kernel
theorem dX5_tear_2 : decode cX5_tear 2 = .ok (.invokevirtual 62, 3) := by decide +kernel
theorem dX5_tear_5 : decode cX5_tear 5 = .ok (.ifCond .ne 5, 3) := by decide +kernel
theorem dX5_tear_8 : decode cX5_tear 8 = .ok (.iconst (-1), 1) := by decide +kernel
theorem dX5_tear_9 : decode cX5_tear 9 = .ok (.ireturn, 1) := by decide +kernel
theorem dX5_tear_10 : decode cX5_tear 10 = .ok (.aload_n 0, 1) := by decide +kernel
theorem dX5_tear_11 : decode cX5_tear 11 = .ok (.getfield 22, 3) := by decide +kernel
theorem dX5_tear_14 : decode cX5_tear 14 = .ok (.iload_n 1, 1) := by decide +kernel
theorem dX5_tear_15 : decode cX5_tear 15 = .ok (.baload, 1) := by decide +kernel
theorem dX5_tear_16 : decode cX5_tear 16 = .ok (.ifCond .eq 9, 3) := by decide +kernel
theorem dX5_tear_19 : decode cX5_tear 19 = .ok (.aload_n 0, 1) := by decide +kernel
theorem dX5_tear_20 : decode cX5_tear 20 = .ok (.iconst 1, 1) := by decide +kernel
theorem dX5_tear_21 : decode cX5_tear 21 = .ok (.invokevirtual 66, 3) := by decide +kernel
theorem dX5_tear_24 : decode cX5_tear 24 = .ok (.ireturn, 1) := by decide +kernel
theorem dX5_tear_25 : decode cX5_tear 25 = .ok (.aload_n 0, 1) := by decide +kernel
theorem dX5_tear_26 : decode cX5_tear 26 = .ok (.getfield 22, 3) := by decide +kernel
theorem dX5_tear_29 : decode cX5_tear 29 = .ok (.iload_n 1, 1) := by decide +kernel
theorem dX5_tear_30 : decode cX5_tear 30 = .ok (.iconst 1, 1) := by decide +kernel
theorem dX5_tear_31 : decode cX5_tear 31 = .ok (.bastore, 1) := by decide +kernel
theorem dX5_tear_32 : decode cX5_tear 32 = .ok (.iconst 1, 1) := by decide +kernel
theorem dX5_tear_33 : decode cX5_tear 33 = .ok (.ireturn, 1) := by decide +kernel
set_option maxRecDepth 20000 in
theorem ggX5_anew_X5_isTest : GoodIn wsX5_anew wsX5_isTest := goodIn_r _ [7, 8, 9, 10, 6, 11, 12, 13, 14, 15, 16, 17, 18, 19, 20, 21, 22, 23, 24, 25, 26, 27, 28, 29, 30] (by decide +kernel) (by decide +kernel)
set_option maxRecDepth 20000 in
theorem gX5_anew_X5_isTest : GoodIn wsX5_anew (wsV RX5 62 RX5 yX5_isTest wsX5_isTest) := goodIn_app (goodIn_of _ (by decide +kernel)) ggX5_anew_X5_isTest
theorem dX5_anew_0 : decode cX5_anew 0 = .ok (.aload_n 0, 1) := by decide +kernel
theorem dX5_anew_1 : decode cX5_anew 1 = .ok (.iload_n 1, 1) := by decide +kernel
theorem dX5_anew_2 : decode cX5_anew 2 = .ok (.invokevirtual 62, 3) := by decide +kernel
theorem dX5_anew_5 : decode cX5_anew 5 = .ok (.ifCond .ne 5, 3) := by decide +kernel
theorem dX5_anew_8 : decode cX5_anew 8 = .ok (.iconst (-1), 1) := by decide +kernel
theorem dX5_anew_9 : decode cX5_anew 9 = .ok (.ireturn, 1) := by decide +kernel
theorem dX5_anew_10 : decode cX5_anew 10 = .ok (.aload_n 0, 1) := by decide +kernel
theorem dX5_anew_11 : decode cX5_anew 11 = .ok (.getfield 22, 3) := by decide +kernel
theorem dX5_anew_14 : decode cX5_anew 14 = .ok (.iload_n 1, 1) := by decide +kernel
theorem dX5_anew_15 : decode cX5_anew 15 = .ok (.baload, 1) := by decide +kernel
theorem dX5_anew_16 : decode cX5_anew 16 = .ok (.ifCond .eq 7, 3) := by decide +kernel
theorem dX5_anew_19 : decode cX5_anew 19 = .ok (.iconst 0, 1) := by decide +kernel
theorem dX5_anew_20 : decode cX5_anew 20 = .ok (.goto 4, 3) := by decide +kernel
theorem dX5_anew_23 : decode cX5_anew 23 = .ok (.iconst 1, 1) := by decide +kernel
theorem dX5_anew_24 : decode cX5_anew 24 = .ok (.istore_n 2, 1) := by decide +kernel
theorem dX5_anew_25 : decode cX5_anew 25 = .ok (.aload_n 0, 1) := by decide +kernel
theorem dX5_anew_26 : decode cX5_anew 26 = .ok (.getfield 22, 3) := by decide +kernel
theorem dX5_anew_29 : decode cX5_anew 29 = .ok (.iload_n 1, 1) := by decide +kernel
theorem dX5_anew_30 : decode cX5_anew 30 = .ok (.iconst 0, 1) := by decide +kernel
theorem dX5_anew_31 : decode cX5_anew 31 = .ok (.bastore, 1) := by decide +kernel
theorem dX5_anew_32 : decode cX5_anew 32 = .ok (.iconst 0, 1) := by decide +kernel
theorem dX5_anew_33 : decode cX5_anew 33 = .ok (.istore_n 3, 1) := by decide +kernel
theorem dX5_anew_34 : decode cX5_anew 34 = .ok (.iload_n 3, 1) := by decide +kernel
theorem dX5_anew_35 : decode cX5_anew 35 = .ok (.iconst 5, 1) := by decide +kernel
theorem dX5_anew_36 : decode cX5_anew 36 = .ok (.if_icmp .ge 20, 3) := by decide +kernel
theorem dX5_anew_39 : decode cX5_anew 39 = .ok (.aload_n 0, 1) := by decide +kernel
theorem dX5_anew_40 : decode cX5_anew 40 = .ok (.getfield 26, 3) := by decide +kernel
theorem dX5_anew_43 : decode cX5_anew 43 = .ok (.iconst 5, 1) := by decide +kernel
theorem dX5_anew_44 : decode cX5_anew 44 = .ok (.iload_n 1, 1) := by decide +kernel
theorem dX5_anew_45 : decode cX5_anew 45 = .ok (.imul, 1) := by decide +kernel
theorem dX5_anew_46 : decode cX5_anew 46 = .ok (.iload_n 3, 1) := by decide +kernel
theorem dX5_anew_47 : decode cX5_anew 47 = .ok (.iadd, 1) := by decide +kernel
theorem dX5_anew_48 : decode cX5_anew 48 = .ok (.iconst 0, 1) := by decide +kernel
theorem dX5_anew_49 : decode cX5_anew 49 = .ok (.iastore, 1) := by decide +kernel
theorem dX5_anew_50 : decode cX5_anew 50 = .ok (.iinc 3 1, 3) := by decide +kernel
theorem dX5_anew_53 : decode cX5_anew 53 = .ok (.goto (-19), 3) := by decide +kernel
theorem dX5_anew_56 : decode cX5_anew 56 = .ok (.iload_n 2, 1) := by decide +kernel
theorem dX5_anew_57 : decode cX5_anew 57 = .ok (.ireturn, 1) := by decide +kernel
set_option maxRecDepth 20000 in
theorem ggX5_copy_X5_isTest : GoodIn wsX5_copy wsX5_isTest := goodIn_r _ [9, 10, 11, 12, 8, 13, 20, 21, 22, 23, 24, 25, 26, 27, 28, 29, 30, 31, 32, 33, 34, 35, 36, 37, 38] (by decide +kernel) (by decide +kernel)
set_option maxRecDepth 20000 in
theorem gX5_copy_X5_isTest : GoodIn wsX5_copy (wsV RX5 62 RX5 yX5_isTest wsX5_isTest) := goodIn_app (goodIn_of _ (by decide +kernel)) ggX5_copy_X5_isTest
set_option maxRecDepth 20000 in
theorem ggX5_copy_X5_meets : GoodIn wsX5_copy wsX5_meets := goodIn_r _ [17, 18, 19, 20, 21, 22, 23, 24, 25, 26, 27, 28, 29, 30, 31, 32, 33, 34, 35, 36, 37, 38] (by decide +kernel) (by decide +kernel)
set_option maxRecDepth 20000 in
theorem gX5_copy_X5_meets : GoodIn wsX5_copy (wsV RX5 66 RX5 yX5_meets wsX5_meets) := goodIn_app (goodIn_of _ (by decide +kernel)) ggX5_copy_X5_meets
theorem dX5_copy_0 : decode cX5_copy 0 = .ok (.aload_n 0, 1) := by decide +kernel
theorem dX5_copy_1 : decode cX5_copy 1 = .ok (.iload_n 1, 1) := by decide +kernel
theorem dX5_copy_2 : decode cX5_copy 2 = .ok (.invokevirtual 62, 3) := by decide +kernel
theorem dX5_copy_5 : decode cX5_copy 5 = .ok (.ifCond .eq 11, 3) := by decide +kernel
theorem dX5_copy_8 : decode cX5_copy 8 = .ok (.aload_n 0, 1) := by decide +kernel
theorem dX5_copy_9 : decode cX5_copy 9 = .ok (.iload_n 3, 1) := by decide +kernel
theorem dX5_copy_10 : decode cX5_copy 10 = .ok (.invokevirtual 62, 3) := by decide +kernel
theorem dX5_copy_13 : decode cX5_copy 13 = .ok (.ifCond .ne 5, 3) := by decide +kernel
theorem dX5_copy_16 : decode cX5_copy 16 = .ok (.iconst (-1), 1) := by decide +kernel
theorem dX5_copy_17 : decode cX5_copy 17 = .ok (.ireturn, 1) := by decide +kernel
theorem dX5_copy_18 : decode cX5_copy 18 = .ok (.iload 5, 2) := by decide +kernel
theorem dX5_copy_20 : decode cX5_copy 20 = .ok (.ifCond .ge 9, 3) := by decide +kernel
theorem dX5_copy_23 : decode cX5_copy 23 = .ok (.aload_n 0, 1) := by decide +kernel
theorem dX5_copy_24 : decode cX5_copy 24 = .ok (.iconst 4, 1) := by decide +kernel
theorem dX5_copy_25 : decode cX5_copy 25 = .ok (.invokevirtual 66, 3) := by decide +kernel
theorem dX5_copy_28 : decode cX5_copy 28 = .ok (.ireturn, 1) := by decide +kernel
theorem dX5_copy_29 : decode cX5_copy 29 = .ok (.aload_n 0, 1) := by decide +kernel
theorem dX5_copy_30 : decode cX5_copy 30 = .ok (.getfield 22, 3) := by decide +kernel
theorem dX5_copy_33 : decode cX5_copy 33 = .ok (.iload_n 1, 1) := by decide +kernel
theorem dX5_copy_34 : decode cX5_copy 34 = .ok (.baload, 1) := by decide +kernel
theorem dX5_copy_35 : decode cX5_copy 35 = .ok (.ifCond .ne 12, 3) := by decide +kernel
theorem dX5_copy_38 : decode cX5_copy 38 = .ok (.aload_n 0, 1) := by decide +kernel
theorem dX5_copy_39 : decode cX5_copy 39 = .ok (.getfield 22, 3) := by decide +kernel
theorem dX5_copy_42 : decode cX5_copy 42 = .ok (.iload_n 3, 1) := by decide +kernel
theorem dX5_copy_43 : decode cX5_copy 43 = .ok (.baload, 1) := by decide +kernel
theorem dX5_copy_44 : decode cX5_copy 44 = .ok (.ifCond .eq 9, 3) := by decide +kernel
theorem dX5_copy_47 : decode cX5_copy 47 = .ok (.aload_n 0, 1) := by decide +kernel
theorem dX5_copy_48 : decode cX5_copy 48 = .ok (.iconst 1, 1) := by decide +kernel
theorem dX5_copy_49 : decode cX5_copy 49 = .ok (.invokevirtual 66, 3) := by decide +kernel
theorem dX5_copy_52 : decode cX5_copy 52 = .ok (.ireturn, 1) := by decide +kernel
theorem dX5_copy_53 : decode cX5_copy 53 = .ok (.iload_n 2, 1) := by decide +kernel
theorem dX5_copy_54 : decode cX5_copy 54 = .ok (.ifCond .lt 35, 3) := by decide +kernel
theorem dX5_copy_57 : decode cX5_copy 57 = .ok (.iload 4, 2) := by decide +kernel
theorem dX5_copy_59 : decode cX5_copy 59 = .ok (.ifCond .lt 30, 3) := by decide +kernel
theorem dX5_copy_62 : decode cX5_copy 62 = .ok (.iload_n 2, 1) := by decide +kernel
theorem dX5_copy_63 : decode cX5_copy 63 = .ok (.i2l, 1) := by decide +kernel
theorem dX5_copy_64 : decode cX5_copy 64 = .ok (.iload 5, 2) := by decide +kernel
theorem dX5_copy_66 : decode cX5_copy 66 = .ok (.i2l, 1) := by decide +kernel
theorem dX5_copy_67 : decode cX5_copy 67 = .ok (.ladd, 1) := by decide +kernel
theorem dX5_copy_68 : decode cX5_copy 68 = .ok (.ldc2_w 70, 3) := by decide +kernel
theorem dX5_copy_71 : decode cX5_copy 71 = .ok (.lcmp, 1) := by decide +kernel
theorem dX5_copy_72 : decode cX5_copy 72 = .ok (.ifCond .gt 17, 3) := by decide +kernel
theorem dX5_copy_75 : decode cX5_copy 75 = .ok (.iload 4, 2) := by decide +kernel
theorem dX5_copy_77 : decode cX5_copy 77 = .ok (.i2l, 1) := by decide +kernel
theorem dX5_copy_78 : decode cX5_copy 78 = .ok (.iload 5, 2) := by decide +kernel
theorem dX5_copy_80 : decode cX5_copy 80 = .ok (.i2l, 1) := by decide +kernel
theorem dX5_copy_81 : decode cX5_copy 81 = .ok (.ladd, 1) := by decide +kernel
theorem dX5_copy_82 : decode cX5_copy 82 = .ok (.ldc2_w 70, 3) := by decide +kernel
theorem dX5_copy_85 : decode cX5_copy 85 = .ok (.lcmp, 1) := by decide +kernel
theorem dX5_copy_86 : decode cX5_copy 86 = .ok (.ifCond .le 9, 3) := by decide +kernel
theorem dX5_copy_89 : decode cX5_copy 89 = .ok (.aload_n 0, 1) := by decide +kernel
theorem dX5_copy_90 : decode cX5_copy 90 = .ok (.iconst 2, 1) := by decide +kernel
theorem dX5_copy_91 : decode cX5_copy 91 = .ok (.invokevirtual 66, 3) := by decide +kernel
theorem dX5_copy_94 : decode cX5_copy 94 = .ok (.ireturn, 1) := by decide +kernel
theorem dX5_copy_95 : decode cX5_copy 95 = .ok (.iconst 0, 1) := by decide +kernel
theorem dX5_copy_96 : decode cX5_copy 96 = .ok (.istore 6, 2) := by decide +kernel
theorem dX5_copy_98 : decode cX5_copy 98 = .ok (.iload 6, 2) := by decide +kernel
theorem dX5_copy_100 : decode cX5_copy 100 = .ok (.iload 5, 2) := by decide +kernel
theorem dX5_copy_102 : decode cX5_copy 102 = .ok (.if_icmp .ge 29, 3) := by decide +kernel
theorem dX5_copy_105 : decode cX5_copy 105 = .ok (.aload_n 0, 1) := by decide +kernel
theorem dX5_copy_106 : decode cX5_copy 106 = .ok (.getfield 36, 3) := by decide +kernel
theorem dX5_copy_109 : decode cX5_copy 109 = .ok (.iload 6, 2) := by decide +kernel
theorem dX5_copy_111 : decode cX5_copy 111 = .ok (.aload_n 0, 1) := by decide +kernel
theorem dX5_copy_112 : decode cX5_copy 112 = .ok (.getfield 26, 3) := by decide +kernel
theorem dX5_copy_115 : decode cX5_copy 115 = .ok (.iconst 5, 1) := by decide +kernel
theorem dX5_copy_116 : decode cX5_copy 116 = .ok (.iload_n 1, 1) := by decide +kernel
theorem dX5_copy_117 : decode cX5_copy 117 = .ok (.imul, 1) := by decide +kernel
theorem dX5_copy_118 : decode cX5_copy 118 = .ok (.iload_n 2, 1) := by decide +kernel
theorem dX5_copy_119 : decode cX5_copy 119 = .ok (.iadd, 1) := by decide +kernel
theorem dX5_copy_120 : decode cX5_copy 120 = .ok (.iload 6, 2) := by decide +kernel
theorem dX5_copy_122 : decode cX5_copy 122 = .ok (.iadd, 1) := by decide +kernel
theorem dX5_copy_123 : decode cX5_copy 123 = .ok (.iaload, 1) := by decide +kernel
theorem dX5_copy_124 : decode cX5_copy 124 = .ok (.iastore, 1) := by decide +kernel
theorem dX5_copy_125 : decode cX5_copy 125 = .ok (.iinc 6 1, 3) := by decide +kernel
theorem dX5_copy_128 : decode cX5_copy 128 = .ok (.goto (-30), 3) := by decide +kernel
theorem dX5_copy_131 : decode cX5_copy 131 = .ok (.iconst 0, 1) := by decide +kernel
theorem dX5_copy_132 : decode cX5_copy 132 = .ok (.istore 6, 2) := by decide +kernel
theorem dX5_copy_134 : decode cX5_copy 134 = .ok (.iload 6, 2) := by decide +kernel
theorem dX5_copy_136 : decode cX5_copy 136 = .ok (.iload 5, 2) := by decide +kernel
theorem dX5_copy_138 : decode cX5_copy 138 = .ok (.if_icmp .ge 30, 3) := by decide +kernel
theorem dX5_copy_141 : decode cX5_copy 141 = .ok (.aload_n 0, 1) := by decide +kernel
theorem dX5_copy_142 : decode cX5_copy 142 = .ok (.getfield 26, 3) := by decide +kernel
theorem dX5_copy_145 : decode cX5_copy 145 = .ok (.iconst 5, 1) := by decide +kernel
theorem dX5_copy_146 : decode cX5_copy 146 = .ok (.iload_n 3, 1) := by decide +kernel
theorem dX5_copy_147 : decode cX5_copy 147 = .ok (.imul, 1) := by decide +kernel
theorem dX5_copy_148 : decode cX5_copy 148 = .ok (.iload 4, 2) := by decide +kernel
theorem dX5_copy_150 : decode cX5_copy 150 = .ok (.iadd, 1) := by decide +kernel
theorem dX5_copy_151 : decode cX5_copy 151 = .ok (.iload 6, 2) := by decide +kernel
theorem dX5_copy_153 : decode cX5_copy 153 = .ok (.iadd, 1) := by decide +kernel
theorem dX5_copy_154 : decode cX5_copy 154 = .ok (.aload_n 0, 1) := by decide +kernel
theorem dX5_copy_155 : decode cX5_copy 155 = .ok (.getfield 36, 3) := by decide +kernel
theorem dX5_copy_158 : decode cX5_copy 158 = .ok (.iload 6, 2) := by decide +kernel
theorem dX5_copy_160 : decode cX5_copy 160 = .ok (.iaload, 1) := by decide +kernel
theorem dX5_copy_161 : decode cX5_copy 161 = .ok (.iastore, 1) := by decide +kernel
theorem dX5_copy_162 : decode cX5_copy 162 = .ok (.iinc 6 1, 3) := by decide +kernel
theorem dX5_copy_165 : decode cX5_copy 165 = .ok (.goto (-31), 3) := by decide +kernel
theorem dX5_copy_168 : decode cX5_copy 168 = .ok (.iconst 1, 1) := by decide +kernel
theorem dX5_copy_169 : decode cX5_copy 169 = .ok (.ireturn, 1) := by decide +kernel
theorem dX5_reachOf_0 : decode cX5_reachOf 0 = .ok (.lconst 0, 1) := by decide +kernel
theorem dX5_reachOf_1 : decode cX5_reachOf 1 = .ok (.lstore_n 2, 1) := by decide +kernel
theorem dX5_reachOf_2 : decode cX5_reachOf 2 = .ok (.iconst 0, 1) := by decide +kernel
theorem dX5_reachOf_3 : decode cX5_reachOf 3 = .ok (.istore 4, 2) := by decide +kernel
theorem dX5_reachOf_5 : decode cX5_reachOf 5 = .ok (.iload 4, 2) := by decide +kernel
theorem dX5_reachOf_7 : decode cX5_reachOf 7 = .ok (.iconst 5, 1) := by decide +kernel
theorem dX5_reachOf_8 : decode cX5_reachOf 8 = .ok (.if_icmp .ge 39, 3) := by decide +kernel
theorem dX5_reachOf_11 : decode cX5_reachOf 11 = .ok (.aload_n 0, 1) := by decide +kernel
theorem dX5_reachOf_12 : decode cX5_reachOf 12 = .ok (.getfield 22, 3) := by decide +kernel
theorem dX5_reachOf_15 : decode cX5_reachOf 15 = .ok (.iload_n 1, 1) := by decide +kernel
theorem dX5_reachOf_16 : decode cX5_reachOf 16 = .ok (.baload, 1) := by decide +kernel
theorem dX5_reachOf_17 : decode cX5_reachOf 17 = .ok (.ifCond .ne 30, 3) := by decide +kernel
theorem dX5_reachOf_20 : decode cX5_reachOf 20 = .ok (.lload_n 2, 1) := by decide +kernel
theorem dX5_reachOf_21 : decode cX5_reachOf 21 = .ok (.aload_n 0, 1) := by decide +kernel
theorem dX5_reachOf_22 : decode cX5_reachOf 22 = .ok (.getfield 26, 3) := by decide +kernel
theorem dX5_reachOf_25 : decode cX5_reachOf 25 = .ok (.iconst 5, 1) := by decide +kernel
theorem dX5_reachOf_26 : decode cX5_reachOf 26 = .ok (.iload_n 1, 1) := by decide +kernel
theorem dX5_reachOf_27 : decode cX5_reachOf 27 = .ok (.imul, 1) := by decide +kernel
theorem dX5_reachOf_28 : decode cX5_reachOf 28 = .ok (.iload 4, 2) := by decide +kernel
theorem dX5_reachOf_30 : decode cX5_reachOf 30 = .ok (.iadd, 1) := by decide +kernel
theorem dX5_reachOf_31 : decode cX5_reachOf 31 = .ok (.iaload, 1) := by decide +kernel
theorem dX5_reachOf_32 : decode cX5_reachOf 32 = .ok (.i2l, 1) := by decide +kernel
theorem dX5_reachOf_33 : decode cX5_reachOf 33 = .ok (.bipush 8, 2) := by decide +kernel
theorem dX5_reachOf_35 : decode cX5_reachOf 35 = .ok (.iload 4, 2) := by decide +kernel
theorem dX5_reachOf_37 : decode cX5_reachOf 37 = .ok (.imul, 1) := by decide +kernel
theorem dX5_reachOf_38 : decode cX5_reachOf 38 = .ok (.lshl, 1) := by decide +kernel
theorem dX5_reachOf_39 : decode cX5_reachOf 39 = .ok (.lor, 1) := by decide +kernel
theorem dX5_reachOf_40 : decode cX5_reachOf 40 = .ok (.lstore_n 2, 1) := by decide +kernel
theorem dX5_reachOf_41 : decode cX5_reachOf 41 = .ok (.iinc 4 1, 3) := by decide +kernel
theorem dX5_reachOf_44 : decode cX5_reachOf 44 = .ok (.goto (-39), 3) := by decide +kernel
theorem dX5_reachOf_47 : decode cX5_reachOf 47 = .ok (.lload_n 2, 1) := by decide +kernel
theorem dX5_reachOf_48 : decode cX5_reachOf 48 = .ok (.lreturn, 1) := by decide +kernel
theorem dX5_timeOf_0 : decode cX5_timeOf 0 = .ok (.aload_n 0, 1) := by decide +kernel
theorem dX5_timeOf_1 : decode cX5_timeOf 1 = .ok (.getfield 13, 3) := by decide +kernel
theorem dX5_timeOf_4 : decode cX5_timeOf 4 = .ok (.iload_n 1, 1) := by decide +kernel
theorem dX5_timeOf_5 : decode cX5_timeOf 5 = .ok (.iaload, 1) := by decide +kernel
theorem dX5_timeOf_6 : decode cX5_timeOf 6 = .ok (.iconst 1, 1) := by decide +kernel
theorem dX5_timeOf_7 : decode cX5_timeOf 7 = .ok (.if_icmp .ne 14, 3) := by decide +kernel
theorem dX5_timeOf_10 : decode cX5_timeOf 10 = .ok (.iconst 3, 1) := by decide +kernel
theorem dX5_timeOf_11 : decode cX5_timeOf 11 = .ok (.aload_n 0, 1) := by decide +kernel
theorem dX5_timeOf_12 : decode cX5_timeOf 12 = .ok (.getfield 16, 3) := by decide +kernel
theorem dX5_timeOf_15 : decode cX5_timeOf 15 = .ok (.iload_n 1, 1) := by decide +kernel
theorem dX5_timeOf_16 : decode cX5_timeOf 16 = .ok (.iaload, 1) := by decide +kernel
theorem dX5_timeOf_17 : decode cX5_timeOf 17 = .ok (.imul, 1) := by decide +kernel
theorem dX5_timeOf_18 : decode cX5_timeOf 18 = .ok (.goto 9, 3) := by decide +kernel
theorem dX5_timeOf_21 : decode cX5_timeOf 21 = .ok (.aload_n 0, 1) := by decide +kernel
theorem dX5_timeOf_22 : decode cX5_timeOf 22 = .ok (.getfield 16, 3) := by decide +kernel
theorem dX5_timeOf_25 : decode cX5_timeOf 25 = .ok (.iload_n 1, 1) := by decide +kernel
theorem dX5_timeOf_26 : decode cX5_timeOf 26 = .ok (.iaload, 1) := by decide +kernel
theorem dX5_timeOf_27 : decode cX5_timeOf 27 = .ok (.ireturn, 1) := by decide +kernel
theorem dX5_chainOf_0 : decode cX5_chainOf 0 = .ok (.iconst 0, 1) := by decide +kernel
theorem dX5_chainOf_1 : decode cX5_chainOf 1 = .ok (.istore_n 2, 1) := by decide +kernel
theorem dX5_chainOf_2 : decode cX5_chainOf 2 = .ok (.iload_n 1, 1) := by decide +kernel
theorem dX5_chainOf_3 : decode cX5_chainOf 3 = .ok (.istore_n 3, 1) := by decide +kernel
theorem dX5_chainOf_4 : decode cX5_chainOf 4 = .ok (.iload_n 3, 1) := by decide +kernel
theorem dX5_chainOf_5 : decode cX5_chainOf 5 = .ok (.ifCond .lt 19, 3) := by decide +kernel
theorem dX5_chainOf_8 : decode cX5_chainOf 8 = .ok (.iload_n 2, 1) := by decide +kernel
theorem dX5_chainOf_9 : decode cX5_chainOf 9 = .ok (.iconst 1, 1) := by decide +kernel
theorem dX5_chainOf_10 : decode cX5_chainOf 10 = .ok (.iload_n 3, 1) := by decide +kernel
theorem dX5_chainOf_11 : decode cX5_chainOf 11 = .ok (.ishl, 1) := by decide +kernel
theorem dX5_chainOf_12 : decode cX5_chainOf 12 = .ok (.ior, 1) := by decide +kernel
theorem dX5_chainOf_13 : decode cX5_chainOf 13 = .ok (.istore_n 2, 1) := by decide +kernel
theorem dX5_chainOf_14 : decode cX5_chainOf 14 = .ok (.aload_n 0, 1) := by decide +kernel
theorem dX5_chainOf_15 : decode cX5_chainOf 15 = .ok (.getfield 19, 3) := by decide +kernel
theorem dX5_chainOf_18 : decode cX5_chainOf 18 = .ok (.iload_n 3, 1) := by decide +kernel
theorem dX5_chainOf_19 : decode cX5_chainOf 19 = .ok (.iaload, 1) := by decide +kernel
theorem dX5_chainOf_20 : decode cX5_chainOf 20 = .ok (.istore_n 3, 1) := by decide +kernel
theorem dX5_chainOf_21 : decode cX5_chainOf 21 = .ok (.goto (-17), 3) := by decide +kernel
theorem dX5_chainOf_24 : decode cX5_chainOf 24 = .ok (.iload_n 2, 1) := by decide +kernel
theorem dX5_chainOf_25 : decode cX5_chainOf 25 = .ok (.ireturn, 1) := by decide +kernel
theorem dX5_bits_0 : decode cX5_bits 0 = .ok (.iconst 0, 1) := by decide +kernel
theorem dX5_bits_1 : decode cX5_bits 1 = .ok (.istore_n 2, 1) := by decide +kernel
theorem dX5_bits_2 : decode cX5_bits 2 = .ok (.iconst 0, 1) := by decide +kernel
theorem dX5_bits_3 : decode cX5_bits 3 = .ok (.istore_n 3, 1) := by decide +kernel
theorem dX5_bits_4 : decode cX5_bits 4 = .ok (.iload_n 3, 1) := by decide +kernel
theorem dX5_bits_5 : decode cX5_bits 5 = .ok (.bipush 40, 2) := by decide +kernel
theorem dX5_bits_7 : decode cX5_bits 7 = .ok (.if_icmp .ge 18, 3) := by decide +kernel
theorem dX5_bits_10 : decode cX5_bits 10 = .ok (.iload_n 2, 1) := by decide +kernel
theorem dX5_bits_11 : decode cX5_bits 11 = .ok (.lload_n 0, 1) := by decide +kernel
theorem dX5_bits_12 : decode cX5_bits 12 = .ok (.iload_n 3, 1) := by decide +kernel
theorem dX5_bits_13 : decode cX5_bits 13 = .ok (.lshr, 1) := by decide +kernel
theorem dX5_bits_14 : decode cX5_bits 14 = .ok (.lconst 1, 1) := by decide +kernel
theorem dX5_bits_15 : decode cX5_bits 15 = .ok (.land, 1) := by decide +kernel
theorem dX5_bits_16 : decode cX5_bits 16 = .ok (.l2i, 1) := by decide +kernel
theorem dX5_bits_17 : decode cX5_bits 17 = .ok (.iadd, 1) := by decide +kernel
theorem dX5_bits_18 : decode cX5_bits 18 = .ok (.istore_n 2, 1) := by decide +kernel
theorem dX5_bits_19 : decode cX5_bits 19 = .ok (.iinc 3 1, 3) := by decide +kernel
theorem dX5_bits_22 : decode cX5_bits 22 = .ok (.goto (-18), 3) := by decide +kernel
theorem dX5_bits_25 : decode cX5_bits 25 = .ok (.iload_n 2, 1) := by decide +kernel
theorem dX5_bits_26 : decode cX5_bits 26 = .ok (.ireturn, 1) := by decide +kernel
theorem dX5_has_0 : decode cX5_has 0 = .ok (.iload_n 0, 1) := by decide +kernel
theorem dX5_has_1 : decode cX5_has 1 = .ok (.iload_n 1, 1) := by decide +kernel
theorem dX5_has_2 : decode cX5_has 2 = .ok (.ishr, 1) := by decide +kernel
theorem dX5_has_3 : decode cX5_has 3 = .ok (.iconst 1, 1) := by decide +kernel
theorem dX5_has_4 : decode cX5_has 4 = .ok (.iand, 1) := by decide +kernel
theorem dX5_has_5 : decode cX5_has 5 = .ok (.iconst 1, 1) := by decide +kernel
theorem dX5_has_6 : decode cX5_has 6 = .ok (.if_icmp .ne 7, 3) := by decide +kernel
theorem dX5_has_9 : decode cX5_has 9 = .ok (.iconst 1, 1) := by decide +kernel
theorem dX5_has_10 : decode cX5_has 10 = .ok (.goto 4, 3) := by decide +kernel
theorem dX5_has_13 : decode cX5_has 13 = .ok (.iconst 0, 1) := by decide +kernel
theorem dX5_has_14 : decode cX5_has 14 = .ok (.ireturn, 1) := by decide +kernel
theorem dX5_heatOf_0 : decode cX5_heatOf 0 = .ok (.iconst 0, 1) := by decide +kernel
theorem dX5_heatOf_1 : decode cX5_heatOf 1 = .ok (.istore_n 2, 1) := by decide +kernel
theorem dX5_heatOf_2 : decode cX5_heatOf 2 = .ok (.iconst 1, 1) := by decide +kernel
theorem dX5_heatOf_3 : decode cX5_heatOf 3 = .ok (.istore_n 3, 1) := by decide +kernel
theorem dX5_heatOf_4 : decode cX5_heatOf 4 = .ok (.iload_n 3, 1) := by decide +kernel
theorem dX5_heatOf_5 : decode cX5_heatOf 5 = .ok (.bipush 8, 2) := by decide +kernel
theorem dX5_heatOf_7 : decode cX5_heatOf 7 = .ok (.if_icmp .gt 55, 3) := by decide +kernel
theorem dX5_heatOf_10 : decode cX5_heatOf 10 = .ok (.aload_n 0, 1) := by decide +kernel
theorem dX5_heatOf_11 : decode cX5_heatOf 11 = .ok (.getfield 59, 3) := by decide +kernel
theorem dX5_heatOf_14 : decode cX5_heatOf 14 = .ok (.iconst 1, 1) := by decide +kernel
theorem dX5_heatOf_15 : decode cX5_heatOf 15 = .ok (.isub, 1) := by decide +kernel
theorem dX5_heatOf_16 : decode cX5_heatOf 16 = .ok (.iload_n 3, 1) := by decide +kernel
theorem dX5_heatOf_17 : decode cX5_heatOf 17 = .ok (.isub, 1) := by decide +kernel
theorem dX5_heatOf_18 : decode cX5_heatOf 18 = .ok (.ifCond .lt 44, 3) := by decide +kernel
theorem dX5_heatOf_21 : decode cX5_heatOf 21 = .ok (.iload_n 2, 1) := by decide +kernel
theorem dX5_heatOf_22 : decode cX5_heatOf 22 = .ok (.aload_n 0, 1) := by decide +kernel
theorem dX5_heatOf_23 : decode cX5_heatOf 23 = .ok (.getfield 33, 3) := by decide +kernel
theorem dX5_heatOf_26 : decode cX5_heatOf 26 = .ok (.bipush 20, 2) := by decide +kernel
theorem dX5_heatOf_28 : decode cX5_heatOf 28 = .ok (.aload_n 0, 1) := by decide +kernel
theorem dX5_heatOf_29 : decode cX5_heatOf 29 = .ok (.getfield 59, 3) := by decide +kernel
theorem dX5_heatOf_32 : decode cX5_heatOf 32 = .ok (.iconst 1, 1) := by decide +kernel
theorem dX5_heatOf_33 : decode cX5_heatOf 33 = .ok (.isub, 1) := by decide +kernel
theorem dX5_heatOf_34 : decode cX5_heatOf 34 = .ok (.iload_n 3, 1) := by decide +kernel
theorem dX5_heatOf_35 : decode cX5_heatOf 35 = .ok (.isub, 1) := by decide +kernel
theorem dX5_heatOf_36 : decode cX5_heatOf 36 = .ok (.imul, 1) := by decide +kernel
theorem dX5_heatOf_37 : decode cX5_heatOf 37 = .ok (.iload_n 1, 1) := by decide +kernel
theorem dX5_heatOf_38 : decode cX5_heatOf 38 = .ok (.iadd, 1) := by decide +kernel
theorem dX5_heatOf_39 : decode cX5_heatOf 39 = .ok (.iaload, 1) := by decide +kernel
theorem dX5_heatOf_40 : decode cX5_heatOf 40 = .ok (.iconst 1, 1) := by decide +kernel
theorem dX5_heatOf_41 : decode cX5_heatOf 41 = .ok (.if_icmp .ne 12, 3) := by decide +kernel
theorem dX5_heatOf_44 : decode cX5_heatOf 44 = .ok (.iconst 1, 1) := by decide +kernel
theorem dX5_heatOf_45 : decode cX5_heatOf 45 = .ok (.bipush 8, 2) := by decide +kernel
theorem dX5_heatOf_47 : decode cX5_heatOf 47 = .ok (.iload_n 3, 1) := by decide +kernel
theorem dX5_heatOf_48 : decode cX5_heatOf 48 = .ok (.isub, 1) := by decide +kernel
theorem dX5_heatOf_49 : decode cX5_heatOf 49 = .ok (.ishl, 1) := by decide +kernel
theorem dX5_heatOf_50 : decode cX5_heatOf 50 = .ok (.goto 4, 3) := by decide +kernel
theorem dX5_heatOf_53 : decode cX5_heatOf 53 = .ok (.iconst 0, 1) := by decide +kernel
theorem dX5_heatOf_54 : decode cX5_heatOf 54 = .ok (.iadd, 1) := by decide +kernel
theorem dX5_heatOf_55 : decode cX5_heatOf 55 = .ok (.istore_n 2, 1) := by decide +kernel
theorem dX5_heatOf_56 : decode cX5_heatOf 56 = .ok (.iinc 3 1, 3) := by decide +kernel
theorem dX5_heatOf_59 : decode cX5_heatOf 59 = .ok (.goto (-55), 3) := by decide +kernel
theorem dX5_heatOf_62 : decode cX5_heatOf 62 = .ok (.iload_n 2, 1) := by decide +kernel
theorem dX5_heatOf_63 : decode cX5_heatOf 63 = .ok (.ireturn, 1) := by decide +kernel
set_option maxRecDepth 20000 in
theorem ggX5_isFlaky_X5_reachOf : GoodIn wsX5_isFlaky wsX5_reachOf := goodIn_r _ [8, 9, 10, 11, 12, 13, 14, 15, 16, 17, 18, 19, 20, 21, 22, 23, 24, 25, 26, 27, 28, 29] (by decide +kernel) (by decide +kernel)
set_option maxRecDepth 20000 in
theorem gX5_isFlaky_X5_reachOf : GoodIn wsX5_isFlaky (wsV RX5 72 RX5 yX5_reachOf wsX5_reachOf) := goodIn_app (goodIn_of _ (by decide +kernel)) ggX5_isFlaky_X5_reachOf
theorem dX5_isFlaky_0 : decode cX5_isFlaky 0 = .ok (.aload_n 0, 1) := by decide +kernel
theorem dX5_isFlaky_1 : decode cX5_isFlaky 1 = .ok (.iload_n 1, 1) := by decide +kernel
theorem dX5_isFlaky_2 : decode cX5_isFlaky 2 = .ok (.invokevirtual 72, 3) := by decide +kernel
theorem dX5_isFlaky_5 : decode cX5_isFlaky 5 = .ok (.lstore_n 2, 1) := by decide +kernel
theorem dX5_isFlaky_6 : decode cX5_isFlaky 6 = .ok (.bipush (-9), 2) := by decide +kernel
theorem dX5_isFlaky_8 : decode cX5_isFlaky 8 = .ok (.istore 4, 2) := by decide +kernel
theorem dX5_isFlaky_10 : decode cX5_isFlaky 10 = .ok (.iconst 0, 1) := by decide +kernel
theorem dX5_isFlaky_11 : decode cX5_isFlaky 11 = .ok (.istore 5, 2) := by decide +kernel
theorem dX5_isFlaky_13 : decode cX5_isFlaky 13 = .ok (.iconst 0, 1) := by decide +kernel
theorem dX5_isFlaky_14 : decode cX5_isFlaky 14 = .ok (.istore 6, 2) := by decide +kernel
theorem dX5_isFlaky_16 : decode cX5_isFlaky 16 = .ok (.iconst 0, 1) := by decide +kernel
theorem dX5_isFlaky_17 : decode cX5_isFlaky 17 = .ok (.istore 7, 2) := by decide +kernel
theorem dX5_isFlaky_19 : decode cX5_isFlaky 19 = .ok (.iload 7, 2) := by decide +kernel
theorem dX5_isFlaky_21 : decode cX5_isFlaky 21 = .ok (.aload_n 0, 1) := by decide +kernel
theorem dX5_isFlaky_22 : decode cX5_isFlaky 22 = .ok (.getfield 59, 3) := by decide +kernel
theorem dX5_isFlaky_25 : decode cX5_isFlaky 25 = .ok (.if_icmp .ge 90, 3) := by decide +kernel
theorem dX5_isFlaky_28 : decode cX5_isFlaky 28 = .ok (.iload 5, 2) := by decide +kernel
theorem dX5_isFlaky_30 : decode cX5_isFlaky 30 = .ok (.ifCond .ne 17, 3) := by decide +kernel
theorem dX5_isFlaky_33 : decode cX5_isFlaky 33 = .ok (.aload_n 0, 1) := by decide +kernel
theorem dX5_isFlaky_34 : decode cX5_isFlaky 34 = .ok (.getfield 29, 3) := by decide +kernel
theorem dX5_isFlaky_37 : decode cX5_isFlaky 37 = .ok (.iload 7, 2) := by decide +kernel
theorem dX5_isFlaky_39 : decode cX5_isFlaky 39 = .ok (.laload, 1) := by decide +kernel
theorem dX5_isFlaky_40 : decode cX5_isFlaky 40 = .ok (.lload_n 2, 1) := by decide +kernel
theorem dX5_isFlaky_41 : decode cX5_isFlaky 41 = .ok (.land, 1) := by decide +kernel
theorem dX5_isFlaky_42 : decode cX5_isFlaky 42 = .ok (.lconst 0, 1) := by decide +kernel
theorem dX5_isFlaky_43 : decode cX5_isFlaky 43 = .ok (.lcmp, 1) := by decide +kernel
theorem dX5_isFlaky_44 : decode cX5_isFlaky 44 = .ok (.ifCond .eq 7, 3) := by decide +kernel
theorem dX5_isFlaky_47 : decode cX5_isFlaky 47 = .ok (.iconst 1, 1) := by decide +kernel
theorem dX5_isFlaky_48 : decode cX5_isFlaky 48 = .ok (.goto 4, 3) := by decide +kernel
theorem dX5_isFlaky_51 : decode cX5_isFlaky 51 = .ok (.iconst 0, 1) := by decide +kernel
theorem dX5_isFlaky_52 : decode cX5_isFlaky 52 = .ok (.istore 5, 2) := by decide +kernel
theorem dX5_isFlaky_54 : decode cX5_isFlaky 54 = .ok (.aload_n 0, 1) := by decide +kernel
theorem dX5_isFlaky_55 : decode cX5_isFlaky 55 = .ok (.getfield 33, 3) := by decide +kernel
theorem dX5_isFlaky_58 : decode cX5_isFlaky 58 = .ok (.bipush 20, 2) := by decide +kernel
theorem dX5_isFlaky_60 : decode cX5_isFlaky 60 = .ok (.iload 7, 2) := by decide +kernel
theorem dX5_isFlaky_62 : decode cX5_isFlaky 62 = .ok (.imul, 1) := by decide +kernel
theorem dX5_isFlaky_63 : decode cX5_isFlaky 63 = .ok (.iload_n 1, 1) := by decide +kernel
theorem dX5_isFlaky_64 : decode cX5_isFlaky 64 = .ok (.iadd, 1) := by decide +kernel
theorem dX5_isFlaky_65 : decode cX5_isFlaky 65 = .ok (.iaload, 1) := by decide +kernel
theorem dX5_isFlaky_66 : decode cX5_isFlaky 66 = .ok (.istore 8, 2) := by decide +kernel
theorem dX5_isFlaky_68 : decode cX5_isFlaky 68 = .ok (.iload 8, 2) := by decide +kernel
theorem dX5_isFlaky_70 : decode cX5_isFlaky 70 = .ok (.ifCond .lt 39, 3) := by decide +kernel
theorem dX5_isFlaky_73 : decode cX5_isFlaky 73 = .ok (.iload 6, 2) := by decide +kernel
theorem dX5_isFlaky_75 : decode cX5_isFlaky 75 = .ok (.ifCond .ne 20, 3) := by decide +kernel
theorem dX5_isFlaky_78 : decode cX5_isFlaky 78 = .ok (.iload 4, 2) := by decide +kernel
theorem dX5_isFlaky_80 : decode cX5_isFlaky 80 = .ok (.ifCond .lt 19, 3) := by decide +kernel
theorem dX5_isFlaky_83 : decode cX5_isFlaky 83 = .ok (.iload 4, 2) := by decide +kernel
theorem dX5_isFlaky_85 : decode cX5_isFlaky 85 = .ok (.iload 8, 2) := by decide +kernel
theorem dX5_isFlaky_87 : decode cX5_isFlaky 87 = .ok (.if_icmp .eq 12, 3) := by decide +kernel
theorem dX5_isFlaky_90 : decode cX5_isFlaky 90 = .ok (.iload 5, 2) := by decide +kernel
theorem dX5_isFlaky_92 : decode cX5_isFlaky 92 = .ok (.ifCond .ne 7, 3) := by decide +kernel
theorem dX5_isFlaky_95 : decode cX5_isFlaky 95 = .ok (.iconst 1, 1) := by decide +kernel
theorem dX5_isFlaky_96 : decode cX5_isFlaky 96 = .ok (.goto 4, 3) := by decide +kernel
theorem dX5_isFlaky_99 : decode cX5_isFlaky 99 = .ok (.iconst 0, 1) := by decide +kernel
theorem dX5_isFlaky_100 : decode cX5_isFlaky 100 = .ok (.istore 6, 2) := by decide +kernel
theorem dX5_isFlaky_102 : decode cX5_isFlaky 102 = .ok (.iload 8, 2) := by decide +kernel
theorem dX5_isFlaky_104 : decode cX5_isFlaky 104 = .ok (.istore 4, 2) := by decide +kernel
theorem dX5_isFlaky_106 : decode cX5_isFlaky 106 = .ok (.iconst 0, 1) := by decide +kernel
theorem dX5_isFlaky_107 : decode cX5_isFlaky 107 = .ok (.istore 5, 2) := by decide +kernel
theorem dX5_isFlaky_109 : decode cX5_isFlaky 109 = .ok (.iinc 7 1, 3) := by decide +kernel
theorem dX5_isFlaky_112 : decode cX5_isFlaky 112 = .ok (.goto (-93), 3) := by decide +kernel
theorem dX5_isFlaky_115 : decode cX5_isFlaky 115 = .ok (.iload 6, 2) := by decide +kernel
theorem dX5_isFlaky_117 : decode cX5_isFlaky 117 = .ok (.ireturn, 1) := by decide +kernel
set_option maxRecDepth 20000 in
theorem ggX5_isBroken_X5_isFlaky : GoodIn wsX5_isBroken wsX5_isFlaky := goodIn_r _ [7, 1, 8, 2, 9, 10, 11, 6, 12, 13, 14, 15, 16, 17, 18, 19, 20, 21, 22, 23, 24, 25, 26, 27, 28, 29, 30, 31, 32, 33] (by decide +kernel) (by decide +kernel)
set_option maxRecDepth 20000 in
theorem gX5_isBroken_X5_isFlaky : GoodIn wsX5_isBroken (wsV RX5 76 RX5 yX5_isFlaky wsX5_isFlaky) := goodIn_app (goodIn_of _ (by decide +kernel)) ggX5_isBroken_X5_isFlaky
theorem dX5_isBroken_0 : decode cX5_isBroken 0 = .ok (.bipush (-9), 2) := by decide +kernel
theorem dX5_isBroken_2 : decode cX5_isBroken 2 = .ok (.istore_n 2, 1) := by decide +kernel
theorem dX5_isBroken_3 : decode cX5_isBroken 3 = .ok (.iconst 0, 1) := by decide +kernel
theorem dX5_isBroken_4 : decode cX5_isBroken 4 = .ok (.istore_n 3, 1) := by decide +kernel
theorem dX5_isBroken_5 : decode cX5_isBroken 5 = .ok (.iload_n 3, 1) := by decide +kernel
theorem dX5_isBroken_6 : decode cX5_isBroken 6 = .ok (.aload_n 0, 1) := by decide +kernel
theorem dX5_isBroken_7 : decode cX5_isBroken 7 = .ok (.getfield 59, 3) := by decide +kernel
theorem dX5_isBroken_10 : decode cX5_isBroken 10 = .ok (.if_icmp .ge 39, 3) := by decide +kernel
theorem dX5_isBroken_13 : decode cX5_isBroken 13 = .ok (.aload_n 0, 1) := by decide +kernel
theorem dX5_isBroken_14 : decode cX5_isBroken 14 = .ok (.getfield 33, 3) := by decide +kernel
theorem dX5_isBroken_17 : decode cX5_isBroken 17 = .ok (.bipush 20, 2) := by decide +kernel
theorem dX5_isBroken_19 : decode cX5_isBroken 19 = .ok (.iload_n 3, 1) := by decide +kernel
theorem dX5_isBroken_20 : decode cX5_isBroken 20 = .ok (.imul, 1) := by decide +kernel
theorem dX5_isBroken_21 : decode cX5_isBroken 21 = .ok (.iload_n 1, 1) := by decide +kernel
theorem dX5_isBroken_22 : decode cX5_isBroken 22 = .ok (.iadd, 1) := by decide +kernel
theorem dX5_isBroken_23 : decode cX5_isBroken 23 = .ok (.iaload, 1) := by decide +kernel
theorem dX5_isBroken_24 : decode cX5_isBroken 24 = .ok (.ifCond .lt 17, 3) := by decide +kernel
theorem dX5_isBroken_27 : decode cX5_isBroken 27 = .ok (.aload_n 0, 1) := by decide +kernel
theorem dX5_isBroken_28 : decode cX5_isBroken 28 = .ok (.getfield 33, 3) := by decide +kernel
theorem dX5_isBroken_31 : decode cX5_isBroken 31 = .ok (.bipush 20, 2) := by decide +kernel
theorem dX5_isBroken_33 : decode cX5_isBroken 33 = .ok (.iload_n 3, 1) := by decide +kernel
theorem dX5_isBroken_34 : decode cX5_isBroken 34 = .ok (.imul, 1) := by decide +kernel
theorem dX5_isBroken_35 : decode cX5_isBroken 35 = .ok (.iload_n 1, 1) := by decide +kernel
theorem dX5_isBroken_36 : decode cX5_isBroken 36 = .ok (.iadd, 1) := by decide +kernel
theorem dX5_isBroken_37 : decode cX5_isBroken 37 = .ok (.iaload, 1) := by decide +kernel
theorem dX5_isBroken_38 : decode cX5_isBroken 38 = .ok (.goto 4, 3) := by decide +kernel
theorem dX5_isBroken_41 : decode cX5_isBroken 41 = .ok (.iload_n 2, 1) := by decide +kernel
theorem dX5_isBroken_42 : decode cX5_isBroken 42 = .ok (.istore_n 2, 1) := by decide +kernel
theorem dX5_isBroken_43 : decode cX5_isBroken 43 = .ok (.iinc 3 1, 3) := by decide +kernel
theorem dX5_isBroken_46 : decode cX5_isBroken 46 = .ok (.goto (-41), 3) := by decide +kernel
theorem dX5_isBroken_49 : decode cX5_isBroken 49 = .ok (.iload_n 2, 1) := by decide +kernel
theorem dX5_isBroken_50 : decode cX5_isBroken 50 = .ok (.iconst 1, 1) := by decide +kernel
theorem dX5_isBroken_51 : decode cX5_isBroken 51 = .ok (.if_icmp .ne 15, 3) := by decide +kernel
theorem dX5_isBroken_54 : decode cX5_isBroken 54 = .ok (.aload_n 0, 1) := by decide +kernel
theorem dX5_isBroken_55 : decode cX5_isBroken 55 = .ok (.iload_n 1, 1) := by decide +kernel
theorem dX5_isBroken_56 : decode cX5_isBroken 56 = .ok (.invokevirtual 76, 3) := by decide +kernel
theorem dX5_isBroken_59 : decode cX5_isBroken 59 = .ok (.ifCond .ne 7, 3) := by decide +kernel
theorem dX5_isBroken_62 : decode cX5_isBroken 62 = .ok (.iconst 1, 1) := by decide +kernel
theorem dX5_isBroken_63 : decode cX5_isBroken 63 = .ok (.goto 4, 3) := by decide +kernel
theorem dX5_isBroken_66 : decode cX5_isBroken 66 = .ok (.iconst 0, 1) := by decide +kernel
theorem dX5_isBroken_67 : decode cX5_isBroken 67 = .ok (.ireturn, 1) := by decide +kernel
set_option maxRecDepth 20000 in
theorem ggX5_tells_X5_timeOf : GoodIn wsX5_tells wsX5_timeOf := goodIn_r _ [7, 1, 8, 37, 38, 39, 40, 41, 42, 43, 44, 45, 46, 47, 48, 49, 50, 51, 52, 53, 54, 55] (by decide +kernel) (by decide +kernel)
set_option maxRecDepth 20000 in
theorem gX5_tells_X5_timeOf : GoodIn wsX5_tells (wsV RX5 79 RX5 yX5_timeOf wsX5_timeOf) := goodIn_app (goodIn_of _ (by decide +kernel)) ggX5_tells_X5_timeOf
set_option maxRecDepth 20000 in
theorem ggX5_tells_X5_heatOf : GoodIn wsX5_tells wsX5_heatOf := goodIn_r _ [12, 13, 14, 37, 38, 39, 40, 41, 42, 43, 44, 45, 46, 47, 48, 49, 50, 51, 52, 53, 54, 55] (by decide +kernel) (by decide +kernel)
set_option maxRecDepth 20000 in
theorem gX5_tells_X5_heatOf : GoodIn wsX5_tells (wsV RX5 82 RX5 yX5_heatOf wsX5_heatOf) := goodIn_app (goodIn_of _ (by decide +kernel)) ggX5_tells_X5_heatOf
set_option maxRecDepth 20000 in
theorem ggX5_tells_X5_isFlaky : GoodIn wsX5_tells wsX5_isFlaky := goodIn_r _ [18, 13, 19, 14, 20, 21, 22, 6, 23, 24, 25, 37, 38, 39, 40, 41, 42, 43, 44, 45, 46, 47, 48, 49, 50, 51, 52, 53, 54, 55] (by decide +kernel) (by decide +kernel)
set_option maxRecDepth 20000 in
theorem gX5_tells_X5_isFlaky : GoodIn wsX5_tells (wsV RX5 76 RX5 yX5_isFlaky wsX5_isFlaky) := goodIn_app (goodIn_of _ (by decide +kernel)) ggX5_tells_X5_isFlaky
set_option maxRecDepth 20000 in
theorem ggX5_tells_X5_isBroken : GoodIn wsX5_tells wsX5_isBroken := goodIn_r _ [29, 13, 14, 15, 16, 17, 6, 18, 19, 20, 21, 22, 23, 24, 25, 37, 38, 39, 40, 41, 42, 43, 44, 45, 46, 47, 48, 49, 50, 51, 52, 53, 54, 55] (by decide +kernel) (by decide +kernel)
set_option maxRecDepth 20000 in
theorem gX5_tells_X5_isBroken : GoodIn wsX5_tells (wsV RX5 85 RX5 yX5_isBroken wsX5_isBroken) := goodIn_app (goodIn_of _ (by decide +kernel)) ggX5_tells_X5_isBroken
set_option maxRecDepth 20000 in
theorem ggX5_tells_X5_chainOf : GoodIn wsX5_tells wsX5_chainOf := goodIn_r _ [33, 2, 37, 38, 39, 40, 41, 42, 43, 44, 45, 46, 47, 48, 49, 50, 51, 52, 53, 54, 55] (by decide +kernel) (by decide +kernel)
set_option maxRecDepth 20000 in
theorem gX5_tells_X5_chainOf : GoodIn wsX5_tells (wsV RX5 88 RX5 yX5_chainOf wsX5_chainOf) := goodIn_app (goodIn_of _ (by decide +kernel)) ggX5_tells_X5_chainOf
set_option maxRecDepth 20000 in
theorem ggX5_tells_X5_bits : GoodIn wsX5_tells wsX5_bits := goodIn_r _ [36] (by decide +kernel) (by decide +kernel)
set_option maxRecDepth 20000 in
theorem gX5_tells_X5_bits : GoodIn wsX5_tells (va_wsS RX5 91 yX5_bits wsX5_bits) := goodIn_app (goodIn_of _ (by decide +kernel)) ggX5_tells_X5_bits
theorem dX5_tells_0 : decode cX5_tells 0 = .ok (.iload_n 2, 1) := by decide +kernel
theorem dX5_tells_1 : decode cX5_tells 1 = .ok (.tableswitch 93 0 5 #[39, 46, 52, 59, 65, 79], 39) := by decide +kernel
theorem dX5_tells_40 : decode cX5_tells 40 = .ok (.aload_n 0, 1) := by decide +kernel
theorem dX5_tells_41 : decode cX5_tells 41 = .ok (.getfield 13, 3) := by decide +kernel
theorem dX5_tells_44 : decode cX5_tells 44 = .ok (.iload_n 1, 1) := by decide +kernel
theorem dX5_tells_45 : decode cX5_tells 45 = .ok (.iaload, 1) := by decide +kernel
theorem dX5_tells_46 : decode cX5_tells 46 = .ok (.ireturn, 1) := by decide +kernel
theorem dX5_tells_47 : decode cX5_tells 47 = .ok (.aload_n 0, 1) := by decide +kernel
theorem dX5_tells_48 : decode cX5_tells 48 = .ok (.iload_n 1, 1) := by decide +kernel
theorem dX5_tells_49 : decode cX5_tells 49 = .ok (.invokevirtual 79, 3) := by decide +kernel
theorem dX5_tells_52 : decode cX5_tells 52 = .ok (.ireturn, 1) := by decide +kernel
theorem dX5_tells_53 : decode cX5_tells 53 = .ok (.aload_n 0, 1) := by decide +kernel
theorem dX5_tells_54 : decode cX5_tells 54 = .ok (.getfield 19, 3) := by decide +kernel
theorem dX5_tells_57 : decode cX5_tells 57 = .ok (.iload_n 1, 1) := by decide +kernel
theorem dX5_tells_58 : decode cX5_tells 58 = .ok (.iaload, 1) := by decide +kernel
theorem dX5_tells_59 : decode cX5_tells 59 = .ok (.ireturn, 1) := by decide +kernel
theorem dX5_tells_60 : decode cX5_tells 60 = .ok (.aload_n 0, 1) := by decide +kernel
theorem dX5_tells_61 : decode cX5_tells 61 = .ok (.iload_n 1, 1) := by decide +kernel
theorem dX5_tells_62 : decode cX5_tells 62 = .ok (.invokevirtual 82, 3) := by decide +kernel
theorem dX5_tells_65 : decode cX5_tells 65 = .ok (.ireturn, 1) := by decide +kernel
theorem dX5_tells_66 : decode cX5_tells 66 = .ok (.aload_n 0, 1) := by decide +kernel
theorem dX5_tells_67 : decode cX5_tells 67 = .ok (.iload_n 1, 1) := by decide +kernel
theorem dX5_tells_68 : decode cX5_tells 68 = .ok (.invokevirtual 76, 3) := by decide +kernel
theorem dX5_tells_71 : decode cX5_tells 71 = .ok (.ifCond .eq 7, 3) := by decide +kernel
theorem dX5_tells_74 : decode cX5_tells 74 = .ok (.iconst 1, 1) := by decide +kernel
theorem dX5_tells_75 : decode cX5_tells 75 = .ok (.goto 4, 3) := by decide +kernel
theorem dX5_tells_78 : decode cX5_tells 78 = .ok (.iconst 0, 1) := by decide +kernel
theorem dX5_tells_79 : decode cX5_tells 79 = .ok (.ireturn, 1) := by decide +kernel
theorem dX5_tells_80 : decode cX5_tells 80 = .ok (.aload_n 0, 1) := by decide +kernel
theorem dX5_tells_81 : decode cX5_tells 81 = .ok (.iload_n 1, 1) := by decide +kernel
theorem dX5_tells_82 : decode cX5_tells 82 = .ok (.invokevirtual 85, 3) := by decide +kernel
theorem dX5_tells_85 : decode cX5_tells 85 = .ok (.ifCond .eq 7, 3) := by decide +kernel
theorem dX5_tells_88 : decode cX5_tells 88 = .ok (.iconst 1, 1) := by decide +kernel
theorem dX5_tells_89 : decode cX5_tells 89 = .ok (.goto 4, 3) := by decide +kernel
theorem dX5_tells_92 : decode cX5_tells 92 = .ok (.iconst 0, 1) := by decide +kernel
theorem dX5_tells_93 : decode cX5_tells 93 = .ok (.ireturn, 1) := by decide +kernel
theorem dX5_tells_94 : decode cX5_tells 94 = .ok (.aload_n 0, 1) := by decide +kernel
theorem dX5_tells_95 : decode cX5_tells 95 = .ok (.iload_n 1, 1) := by decide +kernel
theorem dX5_tells_96 : decode cX5_tells 96 = .ok (.invokevirtual 88, 3) := by decide +kernel
theorem dX5_tells_99 : decode cX5_tells 99 = .ok (.i2l, 1) := by decide +kernel
theorem dX5_tells_100 : decode cX5_tells 100 = .ok (.invokestatic 91, 3) := by decide +kernel
theorem dX5_tells_103 : decode cX5_tells 103 = .ok (.ireturn, 1) := by decide +kernel
set_option maxRecDepth 20000 in
theorem ggX5_told_X5_isTest : GoodIn wsX5_told wsX5_isTest := goodIn_r _ [5, 6, 7, 8, 4, 9, 49, 50, 51, 52, 53, 54, 55, 56, 57, 58, 59, 60, 61, 62, 63, 64, 65, 66, 67] (by decide +kernel) (by decide +kernel)
set_option maxRecDepth 20000 in
theorem gX5_told_X5_isTest : GoodIn wsX5_told (wsV RX5 62 RX5 yX5_isTest wsX5_isTest) := goodIn_app (goodIn_of _ (by decide +kernel)) ggX5_told_X5_isTest
set_option maxRecDepth 20000 in
theorem ggX5_told_X5_in : GoodIn wsX5_told wsX5_in := goodIn_r _ [9] (by decide +kernel) (by decide +kernel)
set_option maxRecDepth 20000 in
theorem gX5_told_X5_in : GoodIn wsX5_told (va_wsS RX5 55 yX5_in wsX5_in) := goodIn_app (goodIn_of _ (by decide +kernel)) ggX5_told_X5_in
set_option maxRecDepth 20000 in
theorem ggX5_told_X5_tells : GoodIn wsX5_told wsX5_tells := goodIn_r _ [13, 14, 15, 16, 17, 18, 4, 19, 20, 21, 22, 23, 24, 25, 26, 27, 28, 29, 30, 31, 32, 33, 34, 35, 36, 37, 38, 39, 40, 41, 42, 43, 44, 45, 46, 47, 48, 49, 50, 51, 52, 53, 54, 55, 56, 57, 58, 59, 60, 61, 62, 63, 64, 65, 66, 67] (by decide +kernel) (by decide +kernel)
set_option maxRecDepth 20000 in
theorem gX5_told_X5_tells : GoodIn wsX5_told (wsV RX5 95 RX5 yX5_tells wsX5_tells) := goodIn_app (goodIn_of _ (by decide +kernel)) ggX5_told_X5_tells
theorem dX5_told_0 : decode cX5_told 0 = .ok (.aload_n 0, 1) := by decide +kernel
theorem dX5_told_1 : decode cX5_told 1 = .ok (.iload_n 1, 1) := by decide +kernel
theorem dX5_told_2 : decode cX5_told 2 = .ok (.invokevirtual 62, 3) := by decide +kernel
theorem dX5_told_5 : decode cX5_told 5 = .ok (.ifCond .eq 22, 3) := by decide +kernel
theorem dX5_told_8 : decode cX5_told 8 = .ok (.iload_n 2, 1) := by decide +kernel
theorem dX5_told_9 : decode cX5_told 9 = .ok (.iconst 0, 1) := by decide +kernel
theorem dX5_told_10 : decode cX5_told 10 = .ok (.bipush 6, 2) := by decide +kernel
theorem dX5_told_12 : decode cX5_told 12 = .ok (.invokestatic 55, 3) := by decide +kernel
theorem dX5_told_15 : decode cX5_told 15 = .ok (.ifCond .eq 12, 3) := by decide +kernel
theorem dX5_told_18 : decode cX5_told 18 = .ok (.aload_n 0, 1) := by decide +kernel
theorem dX5_told_19 : decode cX5_told 19 = .ok (.iload_n 1, 1) := by decide +kernel
theorem dX5_told_20 : decode cX5_told 20 = .ok (.iload_n 2, 1) := by decide +kernel
theorem dX5_told_21 : decode cX5_told 21 = .ok (.invokevirtual 95, 3) := by decide +kernel
theorem dX5_told_24 : decode cX5_told 24 = .ok (.goto 4, 3) := by decide +kernel
theorem dX5_told_27 : decode cX5_told 27 = .ok (.iconst (-1), 1) := by decide +kernel
theorem dX5_told_28 : decode cX5_told 28 = .ok (.ireturn, 1) := by decide +kernel
set_option maxRecDepth 20000 in
theorem ggX5_time_X5_isTest : GoodIn wsX5_time wsX5_isTest := goodIn_r _ [7, 8, 9, 10, 6, 11, 18, 19, 20, 21, 22, 23, 24, 25, 26, 27, 28, 29, 30, 31, 32, 33, 34, 35, 36] (by decide +kernel) (by decide +kernel)
set_option maxRecDepth 20000 in
theorem gX5_time_X5_isTest : GoodIn wsX5_time (wsV RX5 62 RX5 yX5_isTest wsX5_isTest) := goodIn_app (goodIn_of _ (by decide +kernel)) ggX5_time_X5_isTest
set_option maxRecDepth 20000 in
theorem ggX5_time_X5_in : GoodIn wsX5_time wsX5_in := goodIn_r _ [11] (by decide +kernel) (by decide +kernel)
set_option maxRecDepth 20000 in
theorem gX5_time_X5_in : GoodIn wsX5_time (va_wsS RX5 55 yX5_in wsX5_in) := goodIn_app (goodIn_of _ (by decide +kernel)) ggX5_time_X5_in
set_option maxRecDepth 20000 in
theorem ggX5_time_X5_meets : GoodIn wsX5_time wsX5_meets := goodIn_r _ [15, 16, 17, 18, 19, 20, 21, 22, 23, 24, 25, 26, 27, 28, 29, 30, 31, 32, 33, 34, 35, 36] (by decide +kernel) (by decide +kernel)
set_option maxRecDepth 20000 in
theorem gX5_time_X5_meets : GoodIn wsX5_time (wsV RX5 66 RX5 yX5_meets wsX5_meets) := goodIn_app (goodIn_of _ (by decide +kernel)) ggX5_time_X5_meets
theorem dX5_time_0 : decode cX5_time 0 = .ok (.aload_n 0, 1) := by decide +kernel
theorem dX5_time_1 : decode cX5_time 1 = .ok (.iload_n 1, 1) := by decide +kernel
theorem dX5_time_2 : decode cX5_time 2 = .ok (.invokevirtual 62, 3) := by decide +kernel
theorem dX5_time_5 : decode cX5_time 5 = .ok (.ifCond .eq 12, 3) := by decide +kernel
theorem dX5_time_8 : decode cX5_time 8 = .ok (.iload_n 2, 1) := by decide +kernel
theorem dX5_time_9 : decode cX5_time 9 = .ok (.iconst 0, 1) := by decide +kernel
theorem dX5_time_10 : decode cX5_time 10 = .ok (.iconst 3, 1) := by decide +kernel
theorem dX5_time_11 : decode cX5_time 11 = .ok (.invokestatic 55, 3) := by decide +kernel
theorem dX5_time_14 : decode cX5_time 14 = .ok (.ifCond .ne 5, 3) := by decide +kernel
theorem dX5_time_17 : decode cX5_time 17 = .ok (.iconst (-1), 1) := by decide +kernel
theorem dX5_time_18 : decode cX5_time 18 = .ok (.ireturn, 1) := by decide +kernel
theorem dX5_time_19 : decode cX5_time 19 = .ok (.iload_n 2, 1) := by decide +kernel
theorem dX5_time_20 : decode cX5_time 20 = .ok (.ifCond .eq 13, 3) := by decide +kernel
theorem dX5_time_23 : decode cX5_time 23 = .ok (.iload_n 2, 1) := by decide +kernel
theorem dX5_time_24 : decode cX5_time 24 = .ok (.aload_n 0, 1) := by decide +kernel
theorem dX5_time_25 : decode cX5_time 25 = .ok (.getfield 13, 3) := by decide +kernel
theorem dX5_time_28 : decode cX5_time 28 = .ok (.iload_n 1, 1) := by decide +kernel
theorem dX5_time_29 : decode cX5_time 29 = .ok (.iaload, 1) := by decide +kernel
theorem dX5_time_30 : decode cX5_time 30 = .ok (.if_icmp .ne 12, 3) := by decide +kernel
theorem dX5_time_33 : decode cX5_time 33 = .ok (.aload_n 0, 1) := by decide +kernel
theorem dX5_time_34 : decode cX5_time 34 = .ok (.getfield 16, 3) := by decide +kernel
theorem dX5_time_37 : decode cX5_time 37 = .ok (.iload_n 1, 1) := by decide +kernel
theorem dX5_time_38 : decode cX5_time 38 = .ok (.iaload, 1) := by decide +kernel
theorem dX5_time_39 : decode cX5_time 39 = .ok (.goto 8, 3) := by decide +kernel
theorem dX5_time_42 : decode cX5_time 42 = .ok (.aload_n 0, 1) := by decide +kernel
theorem dX5_time_43 : decode cX5_time 43 = .ok (.iconst 3, 1) := by decide +kernel
theorem dX5_time_44 : decode cX5_time 44 = .ok (.invokevirtual 66, 3) := by decide +kernel
theorem dX5_time_47 : decode cX5_time 47 = .ok (.ireturn, 1) := by decide +kernel
theorem dX5_build_0 : decode cX5_build 0 = .ok (.lload_n 1, 1) := by decide +kernel
theorem dX5_build_1 : decode cX5_build 1 = .ok (.ldc2_w 99, 3) := by decide +kernel
theorem dX5_build_4 : decode cX5_build 4 = .ok (.land, 1) := by decide +kernel
theorem dX5_build_5 : decode cX5_build 5 = .ok (.lconst 0, 1) := by decide +kernel
theorem dX5_build_6 : decode cX5_build 6 = .ok (.lcmp, 1) := by decide +kernel
theorem dX5_build_7 : decode cX5_build 7 = .ok (.ifCond .eq 5, 3) := by decide +kernel
theorem dX5_build_10 : decode cX5_build 10 = .ok (.iconst (-1), 1) := by decide +kernel
theorem dX5_build_11 : decode cX5_build 11 = .ok (.ireturn, 1) := by decide +kernel
theorem dX5_build_12 : decode cX5_build 12 = .ok (.aload_n 0, 1) := by decide +kernel
theorem dX5_build_13 : decode cX5_build 13 = .ok (.getfield 59, 3) := by decide +kernel
theorem dX5_build_16 : decode cX5_build 16 = .ok (.bipush 60, 2) := by decide +kernel
theorem dX5_build_18 : decode cX5_build 18 = .ok (.if_icmp .ne 6, 3) := by decide +kernel
theorem dX5_build_21 : decode cX5_build 21 = .ok (.bipush (-2), 2) := by decide +kernel
theorem dX5_build_23 : decode cX5_build 23 = .ok (.ireturn, 1) := by decide +kernel
theorem dX5_build_24 : decode cX5_build 24 = .ok (.aload_n 0, 1) := by decide +kernel
theorem dX5_build_25 : decode cX5_build 25 = .ok (.getfield 29, 3) := by decide +kernel
theorem dX5_build_28 : decode cX5_build 28 = .ok (.aload_n 0, 1) := by decide +kernel
theorem dX5_build_29 : decode cX5_build 29 = .ok (.getfield 59, 3) := by decide +kernel
theorem dX5_build_32 : decode cX5_build 32 = .ok (.lload_n 1, 1) := by decide +kernel
theorem dX5_build_33 : decode cX5_build 33 = .ok (.lastore, 1) := by decide +kernel
theorem dX5_build_34 : decode cX5_build 34 = .ok (.aload_n 0, 1) := by decide +kernel
theorem dX5_build_35 : decode cX5_build 35 = .ok (.dup, 1) := by decide +kernel
theorem dX5_build_36 : decode cX5_build 36 = .ok (.getfield 59, 3) := by decide +kernel
theorem dX5_build_39 : decode cX5_build 39 = .ok (.iconst 1, 1) := by decide +kernel
theorem dX5_build_40 : decode cX5_build 40 = .ok (.iadd, 1) := by decide +kernel
theorem dX5_build_41 : decode cX5_build 41 = .ok (.putfield 59, 3) := by decide +kernel
theorem dX5_build_44 : decode cX5_build 44 = .ok (.aload_n 0, 1) := by decide +kernel
theorem dX5_build_45 : decode cX5_build 45 = .ok (.bipush (-9), 2) := by decide +kernel
theorem dX5_build_47 : decode cX5_build 47 = .ok (.putfield 39, 3) := by decide +kernel
theorem dX5_build_50 : decode cX5_build 50 = .ok (.aload_n 0, 1) := by decide +kernel
theorem dX5_build_51 : decode cX5_build 51 = .ok (.getfield 59, 3) := by decide +kernel
theorem dX5_build_54 : decode cX5_build 54 = .ok (.iconst 1, 1) := by decide +kernel
theorem dX5_build_55 : decode cX5_build 55 = .ok (.isub, 1) := by decide +kernel
theorem dX5_build_56 : decode cX5_build 56 = .ok (.ireturn, 1) := by decide +kernel
theorem dX5_judge_0 : decode cX5_judge 0 = .ok (.bipush 20, 2) := by decide +kernel
theorem dX5_judge_2 : decode cX5_judge 2 = .ok (.aload_n 0, 1) := by decide +kernel
theorem dX5_judge_3 : decode cX5_judge 3 = .ok (.getfield 59, 3) := by decide +kernel
theorem dX5_judge_6 : decode cX5_judge 6 = .ok (.iconst 1, 1) := by decide +kernel
theorem dX5_judge_7 : decode cX5_judge 7 = .ok (.isub, 1) := by decide +kernel
theorem dX5_judge_8 : decode cX5_judge 8 = .ok (.imul, 1) := by decide +kernel
theorem dX5_judge_9 : decode cX5_judge 9 = .ok (.iload_n 1, 1) := by decide +kernel
theorem dX5_judge_10 : decode cX5_judge 10 = .ok (.iadd, 1) := by decide +kernel
theorem dX5_judge_11 : decode cX5_judge 11 = .ok (.istore_n 3, 1) := by decide +kernel
theorem dX5_judge_12 : decode cX5_judge 12 = .ok (.aload_n 0, 1) := by decide +kernel
theorem dX5_judge_13 : decode cX5_judge 13 = .ok (.getfield 33, 3) := by decide +kernel
theorem dX5_judge_16 : decode cX5_judge 16 = .ok (.iload_n 3, 1) := by decide +kernel
theorem dX5_judge_17 : decode cX5_judge 17 = .ok (.iaload, 1) := by decide +kernel
theorem dX5_judge_18 : decode cX5_judge 18 = .ok (.ifCond .lt 7, 3) := by decide +kernel
theorem dX5_judge_21 : decode cX5_judge 21 = .ok (.iconst 1, 1) := by decide +kernel
theorem dX5_judge_22 : decode cX5_judge 22 = .ok (.goto 4, 3) := by decide +kernel
theorem dX5_judge_25 : decode cX5_judge 25 = .ok (.iconst 0, 1) := by decide +kernel
theorem dX5_judge_26 : decode cX5_judge 26 = .ok (.istore 4, 2) := by decide +kernel
theorem dX5_judge_28 : decode cX5_judge 28 = .ok (.aload_n 0, 1) := by decide +kernel
theorem dX5_judge_29 : decode cX5_judge 29 = .ok (.getfield 33, 3) := by decide +kernel
theorem dX5_judge_32 : decode cX5_judge 32 = .ok (.iload_n 3, 1) := by decide +kernel
theorem dX5_judge_33 : decode cX5_judge 33 = .ok (.iload_n 2, 1) := by decide +kernel
theorem dX5_judge_34 : decode cX5_judge 34 = .ok (.ifCond .eq 7, 3) := by decide +kernel
theorem dX5_judge_37 : decode cX5_judge 37 = .ok (.iconst 1, 1) := by decide +kernel
theorem dX5_judge_38 : decode cX5_judge 38 = .ok (.goto 4, 3) := by decide +kernel
theorem dX5_judge_41 : decode cX5_judge 41 = .ok (.iconst 0, 1) := by decide +kernel
theorem dX5_judge_42 : decode cX5_judge 42 = .ok (.iastore, 1) := by decide +kernel
theorem dX5_judge_43 : decode cX5_judge 43 = .ok (.iload 4, 2) := by decide +kernel
theorem dX5_judge_45 : decode cX5_judge 45 = .ok (.ireturn, 1) := by decide +kernel
set_option maxRecDepth 20000 in
theorem ggX5_verdict_X5_isTest : GoodIn wsX5_verdict wsX5_isTest := goodIn_r _ [6, 7, 8, 9, 5, 10, 16, 17, 18, 19, 20, 21, 22, 23, 24, 25, 26, 27, 28, 29, 30, 31, 32, 33, 34] (by decide +kernel) (by decide +kernel)
set_option maxRecDepth 20000 in
theorem gX5_verdict_X5_isTest : GoodIn wsX5_verdict (wsV RX5 62 RX5 yX5_isTest wsX5_isTest) := goodIn_app (goodIn_of _ (by decide +kernel)) ggX5_verdict_X5_isTest
set_option maxRecDepth 20000 in
theorem ggX5_verdict_X5_judge : GoodIn wsX5_verdict wsX5_judge := goodIn_r _ [14, 1, 15, 16, 17, 18, 19, 20, 21, 22, 23, 24, 25, 26, 27, 28, 29, 30, 31, 32, 33, 34] (by decide +kernel) (by decide +kernel)
set_option maxRecDepth 20000 in
theorem gX5_verdict_X5_judge : GoodIn wsX5_verdict (wsV RX5 101 RX5 yX5_judge wsX5_judge) := goodIn_app (goodIn_of _ (by decide +kernel)) ggX5_verdict_X5_judge
theorem dX5_verdict_0 : decode cX5_verdict 0 = .ok (.aload_n 0, 1) := by decide +kernel
theorem dX5_verdict_1 : decode cX5_verdict 1 = .ok (.iload_n 1, 1) := by decide +kernel
theorem dX5_verdict_2 : decode cX5_verdict 2 = .ok (.invokevirtual 62, 3) := by decide +kernel
theorem dX5_verdict_5 : decode cX5_verdict 5 = .ok (.ifCond .ne 7, 3) := by decide +kernel
theorem dX5_verdict_8 : decode cX5_verdict 8 = .ok (.iconst (-1), 1) := by decide +kernel
theorem dX5_verdict_9 : decode cX5_verdict 9 = .ok (.goto 21, 3) := by decide +kernel
theorem dX5_verdict_12 : decode cX5_verdict 12 = .ok (.aload_n 0, 1) := by decide +kernel
theorem dX5_verdict_13 : decode cX5_verdict 13 = .ok (.getfield 59, 3) := by decide +kernel
theorem dX5_verdict_16 : decode cX5_verdict 16 = .ok (.ifCond .ne 8, 3) := by decide +kernel
theorem dX5_verdict_19 : decode cX5_verdict 19 = .ok (.bipush (-4), 2) := by decide +kernel
theorem dX5_verdict_21 : decode cX5_verdict 21 = .ok (.goto 9, 3) := by decide +kernel
theorem dX5_verdict_24 : decode cX5_verdict 24 = .ok (.aload_n 0, 1) := by decide +kernel
theorem dX5_verdict_25 : decode cX5_verdict 25 = .ok (.iload_n 1, 1) := by decide +kernel
theorem dX5_verdict_26 : decode cX5_verdict 26 = .ok (.iload_n 2, 1) := by decide +kernel
theorem dX5_verdict_27 : decode cX5_verdict 27 = .ok (.invokevirtual 101, 3) := by decide +kernel
theorem dX5_verdict_30 : decode cX5_verdict 30 = .ok (.ireturn, 1) := by decide +kernel
set_option maxRecDepth 20000 in
theorem ggX5_was_X5_isTest : GoodIn wsX5_was wsX5_isTest := goodIn_r _ [6, 7, 8, 9, 5, 10, 16, 17, 18, 19, 20, 21, 22, 23, 24, 25, 26, 27, 28, 29, 30, 31, 32, 33, 34] (by decide +kernel) (by decide +kernel)
set_option maxRecDepth 20000 in
theorem gX5_was_X5_isTest : GoodIn wsX5_was (wsV RX5 62 RX5 yX5_isTest wsX5_isTest) := goodIn_app (goodIn_of _ (by decide +kernel)) ggX5_was_X5_isTest
set_option maxRecDepth 20000 in
theorem ggX5_was_X5_isBuild : GoodIn wsX5_was wsX5_isBuild := goodIn_r _ [14, 15, 8, 9, 5, 10, 16, 17, 18, 19, 20, 21, 22, 23, 24, 25, 26, 27, 28, 29, 30, 31, 32, 33, 34] (by decide +kernel) (by decide +kernel)
set_option maxRecDepth 20000 in
theorem gX5_was_X5_isBuild : GoodIn wsX5_was (wsV RX5 105 RX5 yX5_isBuild wsX5_isBuild) := goodIn_app (goodIn_of _ (by decide +kernel)) ggX5_was_X5_isBuild
theorem dX5_was_0 : decode cX5_was 0 = .ok (.aload_n 0, 1) := by decide +kernel
theorem dX5_was_1 : decode cX5_was 1 = .ok (.iload_n 1, 1) := by decide +kernel
theorem dX5_was_2 : decode cX5_was 2 = .ok (.invokevirtual 62, 3) := by decide +kernel
theorem dX5_was_5 : decode cX5_was 5 = .ok (.ifCond .eq 25, 3) := by decide +kernel
theorem dX5_was_8 : decode cX5_was 8 = .ok (.aload_n 0, 1) := by decide +kernel
theorem dX5_was_9 : decode cX5_was 9 = .ok (.iload_n 2, 1) := by decide +kernel
theorem dX5_was_10 : decode cX5_was 10 = .ok (.invokevirtual 105, 3) := by decide +kernel
theorem dX5_was_13 : decode cX5_was 13 = .ok (.ifCond .eq 17, 3) := by decide +kernel
theorem dX5_was_16 : decode cX5_was 16 = .ok (.aload_n 0, 1) := by decide +kernel
theorem dX5_was_17 : decode cX5_was 17 = .ok (.getfield 33, 3) := by decide +kernel
theorem dX5_was_20 : decode cX5_was 20 = .ok (.bipush 20, 2) := by decide +kernel
theorem dX5_was_22 : decode cX5_was 22 = .ok (.iload_n 2, 1) := by decide +kernel
theorem dX5_was_23 : decode cX5_was 23 = .ok (.imul, 1) := by decide +kernel
theorem dX5_was_24 : decode cX5_was 24 = .ok (.iload_n 1, 1) := by decide +kernel
theorem dX5_was_25 : decode cX5_was 25 = .ok (.iadd, 1) := by decide +kernel
theorem dX5_was_26 : decode cX5_was 26 = .ok (.iaload, 1) := by decide +kernel
theorem dX5_was_27 : decode cX5_was 27 = .ok (.goto 4, 3) := by decide +kernel
theorem dX5_was_30 : decode cX5_was 30 = .ok (.iconst (-1), 1) := by decide +kernel
theorem dX5_was_31 : decode cX5_was 31 = .ok (.ireturn, 1) := by decide +kernel
set_option maxRecDepth 20000 in
theorem ggX5_change_X5_isBuild : GoodIn wsX5_change wsX5_isBuild := goodIn_r _ [7, 8, 9, 10, 6, 11, 12, 13, 14, 15, 16, 17, 18, 19, 20, 21, 22, 23, 24, 25, 26, 27, 28, 29, 30] (by decide +kernel) (by decide +kernel)
set_option maxRecDepth 20000 in
theorem gX5_change_X5_isBuild : GoodIn wsX5_change (wsV RX5 105 RX5 yX5_isBuild wsX5_isBuild) := goodIn_app (goodIn_of _ (by decide +kernel)) ggX5_change_X5_isBuild
theorem dX5_change_0 : decode cX5_change 0 = .ok (.aload_n 0, 1) := by decide +kernel
theorem dX5_change_1 : decode cX5_change 1 = .ok (.iload_n 1, 1) := by decide +kernel
theorem dX5_change_2 : decode cX5_change 2 = .ok (.invokevirtual 105, 3) := by decide +kernel
theorem dX5_change_5 : decode cX5_change 5 = .ok (.ifCond .ne 5, 3) := by decide +kernel
theorem dX5_change_8 : decode cX5_change 8 = .ok (.iconst (-1), 1) := by decide +kernel
theorem dX5_change_9 : decode cX5_change 9 = .ok (.ireturn, 1) := by decide +kernel
theorem dX5_change_10 : decode cX5_change 10 = .ok (.aload_n 0, 1) := by decide +kernel
theorem dX5_change_11 : decode cX5_change 11 = .ok (.aload_n 0, 1) := by decide +kernel
theorem dX5_change_12 : decode cX5_change 12 = .ok (.getfield 29, 3) := by decide +kernel
theorem dX5_change_15 : decode cX5_change 15 = .ok (.iload_n 1, 1) := by decide +kernel
theorem dX5_change_16 : decode cX5_change 16 = .ok (.laload, 1) := by decide +kernel
theorem dX5_change_17 : decode cX5_change 17 = .ok (.putfield 108, 3) := by decide +kernel
theorem dX5_change_20 : decode cX5_change 20 = .ok (.iconst 1, 1) := by decide +kernel
theorem dX5_change_21 : decode cX5_change 21 = .ok (.ireturn, 1) := by decide +kernel
set_option maxRecDepth 20000 in
theorem ggX5_often_X5_isTest : GoodIn wsX5_often wsX5_isTest := goodIn_r _ [7, 8, 9, 10, 6, 11, 12, 13, 14, 15, 16, 17, 18, 19, 20, 21, 22, 23, 24, 25, 26, 27, 28, 29, 30] (by decide +kernel) (by decide +kernel)
set_option maxRecDepth 20000 in
theorem gX5_often_X5_isTest : GoodIn wsX5_often (wsV RX5 62 RX5 yX5_isTest wsX5_isTest) := goodIn_app (goodIn_of _ (by decide +kernel)) ggX5_often_X5_isTest
set_option maxRecDepth 20000 in
theorem ggX5_often_X5_in : GoodIn wsX5_often wsX5_in := goodIn_r _ [11] (by decide +kernel) (by decide +kernel)
set_option maxRecDepth 20000 in
theorem gX5_often_X5_in : GoodIn wsX5_often (va_wsS RX5 55 yX5_in wsX5_in) := goodIn_app (goodIn_of _ (by decide +kernel)) ggX5_often_X5_in
theorem dX5_often_0 : decode cX5_often 0 = .ok (.aload_n 0, 1) := by decide +kernel
theorem dX5_often_1 : decode cX5_often 1 = .ok (.iload_n 1, 1) := by decide +kernel
theorem dX5_often_2 : decode cX5_often 2 = .ok (.invokevirtual 62, 3) := by decide +kernel
theorem dX5_often_5 : decode cX5_often 5 = .ok (.ifCond .eq 12, 3) := by decide +kernel
theorem dX5_often_8 : decode cX5_often 8 = .ok (.iload_n 2, 1) := by decide +kernel
theorem dX5_often_9 : decode cX5_often 9 = .ok (.iconst 0, 1) := by decide +kernel
theorem dX5_often_10 : decode cX5_often 10 = .ok (.iconst 2, 1) := by decide +kernel
theorem dX5_often_11 : decode cX5_often 11 = .ok (.invokestatic 55, 3) := by decide +kernel
theorem dX5_often_14 : decode cX5_often 14 = .ok (.ifCond .ne 5, 3) := by decide +kernel
theorem dX5_often_17 : decode cX5_often 17 = .ok (.iconst (-1), 1) := by decide +kernel
theorem dX5_often_18 : decode cX5_often 18 = .ok (.ireturn, 1) := by decide +kernel
theorem dX5_often_19 : decode cX5_often 19 = .ok (.iload_n 2, 1) := by decide +kernel
theorem dX5_often_20 : decode cX5_often 20 = .ok (.ifCond .ne 7, 3) := by decide +kernel
theorem dX5_often_23 : decode cX5_often 23 = .ok (.iconst 1, 1) := by decide +kernel
theorem dX5_often_24 : decode cX5_often 24 = .ok (.goto 14, 3) := by decide +kernel
theorem dX5_often_27 : decode cX5_often 27 = .ok (.iload_n 2, 1) := by decide +kernel
theorem dX5_often_28 : decode cX5_often 28 = .ok (.iconst 1, 1) := by decide +kernel
theorem dX5_often_29 : decode cX5_often 29 = .ok (.if_icmp .ne 7, 3) := by decide +kernel
theorem dX5_often_32 : decode cX5_often 32 = .ok (.iconst 0, 1) := by decide +kernel
theorem dX5_often_33 : decode cX5_often 33 = .ok (.goto 5, 3) := by decide +kernel
theorem dX5_often_36 : decode cX5_often 36 = .ok (.bipush (-9), 2) := by decide +kernel
theorem dX5_often_38 : decode cX5_often 38 = .ok (.istore_n 3, 1) := by decide +kernel
theorem dX5_often_39 : decode cX5_often 39 = .ok (.iconst 0, 1) := by decide +kernel
theorem dX5_often_40 : decode cX5_often 40 = .ok (.istore 4, 2) := by decide +kernel
theorem dX5_often_42 : decode cX5_often 42 = .ok (.iconst 0, 1) := by decide +kernel
theorem dX5_often_43 : decode cX5_often 43 = .ok (.istore 5, 2) := by decide +kernel
theorem dX5_often_45 : decode cX5_often 45 = .ok (.iload 5, 2) := by decide +kernel
theorem dX5_often_47 : decode cX5_often 47 = .ok (.aload_n 0, 1) := by decide +kernel
theorem dX5_often_48 : decode cX5_often 48 = .ok (.getfield 59, 3) := by decide +kernel
theorem dX5_often_51 : decode cX5_often 51 = .ok (.if_icmp .ge 35, 3) := by decide +kernel
theorem dX5_often_54 : decode cX5_often 54 = .ok (.iload 4, 2) := by decide +kernel
theorem dX5_often_56 : decode cX5_often 56 = .ok (.aload_n 0, 1) := by decide +kernel
theorem dX5_often_57 : decode cX5_often 57 = .ok (.getfield 33, 3) := by decide +kernel
theorem dX5_often_60 : decode cX5_often 60 = .ok (.bipush 20, 2) := by decide +kernel
theorem dX5_often_62 : decode cX5_often 62 = .ok (.iload 5, 2) := by decide +kernel
theorem dX5_often_64 : decode cX5_often 64 = .ok (.imul, 1) := by decide +kernel
theorem dX5_often_65 : decode cX5_often 65 = .ok (.iload_n 1, 1) := by decide +kernel
theorem dX5_often_66 : decode cX5_often 66 = .ok (.iadd, 1) := by decide +kernel
theorem dX5_often_67 : decode cX5_often 67 = .ok (.iaload, 1) := by decide +kernel
theorem dX5_often_68 : decode cX5_often 68 = .ok (.iload_n 3, 1) := by decide +kernel
theorem dX5_often_69 : decode cX5_often 69 = .ok (.if_icmp .ne 7, 3) := by decide +kernel
theorem dX5_often_72 : decode cX5_often 72 = .ok (.iconst 1, 1) := by decide +kernel
theorem dX5_often_73 : decode cX5_often 73 = .ok (.goto 4, 3) := by decide +kernel
theorem dX5_often_76 : decode cX5_often 76 = .ok (.iconst 0, 1) := by decide +kernel
theorem dX5_often_77 : decode cX5_often 77 = .ok (.iadd, 1) := by decide +kernel
theorem dX5_often_78 : decode cX5_often 78 = .ok (.istore 4, 2) := by decide +kernel
theorem dX5_often_80 : decode cX5_often 80 = .ok (.iinc 5 1, 3) := by decide +kernel
theorem dX5_often_83 : decode cX5_often 83 = .ok (.goto (-38), 3) := by decide +kernel
theorem dX5_often_86 : decode cX5_often 86 = .ok (.iload 4, 2) := by decide +kernel
theorem dX5_often_88 : decode cX5_often 88 = .ok (.ireturn, 1) := by decide +kernel
theorem dX5_mayBe_0 : decode cX5_mayBe 0 = .ok (.iconst 1, 1) := by decide +kernel
theorem dX5_mayBe_1 : decode cX5_mayBe 1 = .ok (.istore_n 2, 1) := by decide +kernel
theorem dX5_mayBe_2 : decode cX5_mayBe 2 = .ok (.iload_n 1, 1) := by decide +kernel
theorem dX5_mayBe_3 : decode cX5_mayBe 3 = .ok (.istore_n 3, 1) := by decide +kernel
theorem dX5_mayBe_4 : decode cX5_mayBe 4 = .ok (.iload_n 3, 1) := by decide +kernel
theorem dX5_mayBe_5 : decode cX5_mayBe 5 = .ok (.ifCond .lt 42, 3) := by decide +kernel
theorem dX5_mayBe_8 : decode cX5_mayBe 8 = .ok (.iload_n 2, 1) := by decide +kernel
theorem dX5_mayBe_9 : decode cX5_mayBe 9 = .ok (.ifCond .eq 26, 3) := by decide +kernel
theorem dX5_mayBe_12 : decode cX5_mayBe 12 = .ok (.aload_n 0, 1) := by decide +kernel
theorem dX5_mayBe_13 : decode cX5_mayBe 13 = .ok (.getfield 13, 3) := by decide +kernel
theorem dX5_mayBe_16 : decode cX5_mayBe 16 = .ok (.iload_n 3, 1) := by decide +kernel
theorem dX5_mayBe_17 : decode cX5_mayBe 17 = .ok (.iaload, 1) := by decide +kernel
theorem dX5_mayBe_18 : decode cX5_mayBe 18 = .ok (.iconst 3, 1) := by decide +kernel
theorem dX5_mayBe_19 : decode cX5_mayBe 19 = .ok (.if_icmp .eq 16, 3) := by decide +kernel
theorem dX5_mayBe_22 : decode cX5_mayBe 22 = .ok (.aload_n 0, 1) := by decide +kernel
theorem dX5_mayBe_23 : decode cX5_mayBe 23 = .ok (.getfield 22, 3) := by decide +kernel
theorem dX5_mayBe_26 : decode cX5_mayBe 26 = .ok (.iload_n 3, 1) := by decide +kernel
theorem dX5_mayBe_27 : decode cX5_mayBe 27 = .ok (.baload, 1) := by decide +kernel
theorem dX5_mayBe_28 : decode cX5_mayBe 28 = .ok (.ifCond .ne 7, 3) := by decide +kernel
theorem dX5_mayBe_31 : decode cX5_mayBe 31 = .ok (.iconst 1, 1) := by decide +kernel
theorem dX5_mayBe_32 : decode cX5_mayBe 32 = .ok (.goto 4, 3) := by decide +kernel
theorem dX5_mayBe_35 : decode cX5_mayBe 35 = .ok (.iconst 0, 1) := by decide +kernel
theorem dX5_mayBe_36 : decode cX5_mayBe 36 = .ok (.istore_n 2, 1) := by decide +kernel
theorem dX5_mayBe_37 : decode cX5_mayBe 37 = .ok (.aload_n 0, 1) := by decide +kernel
theorem dX5_mayBe_38 : decode cX5_mayBe 38 = .ok (.getfield 19, 3) := by decide +kernel
theorem dX5_mayBe_41 : decode cX5_mayBe 41 = .ok (.iload_n 3, 1) := by decide +kernel
theorem dX5_mayBe_42 : decode cX5_mayBe 42 = .ok (.iaload, 1) := by decide +kernel
theorem dX5_mayBe_43 : decode cX5_mayBe 43 = .ok (.istore_n 3, 1) := by decide +kernel
theorem dX5_mayBe_44 : decode cX5_mayBe 44 = .ok (.goto (-40), 3) := by decide +kernel
theorem dX5_mayBe_47 : decode cX5_mayBe 47 = .ok (.iload_n 2, 1) := by decide +kernel
theorem dX5_mayBe_48 : decode cX5_mayBe 48 = .ok (.ireturn, 1) := by decide +kernel
set_option maxRecDepth 20000 in
theorem ggX5_reachOfSet_X5_has : GoodIn wsX5_reachOfSet wsX5_has := goodIn_r _ [5] (by decide +kernel) (by decide +kernel)
set_option maxRecDepth 20000 in
theorem gX5_reachOfSet_X5_has : GoodIn wsX5_reachOfSet (va_wsS RX5 112 yX5_has wsX5_has) := goodIn_app (goodIn_of _ (by decide +kernel)) ggX5_reachOfSet_X5_has
set_option maxRecDepth 20000 in
theorem ggX5_reachOfSet_X5_reachOf : GoodIn wsX5_reachOfSet wsX5_reachOf := goodIn_r _ [9, 10, 11, 12, 13, 14, 15, 16, 17, 18, 19, 20, 21, 22, 23, 24, 25, 26, 27, 28, 29, 30] (by decide +kernel) (by decide +kernel)
set_option maxRecDepth 20000 in
theorem gX5_reachOfSet_X5_reachOf : GoodIn wsX5_reachOfSet (wsV RX5 72 RX5 yX5_reachOf wsX5_reachOf) := goodIn_app (goodIn_of _ (by decide +kernel)) ggX5_reachOfSet_X5_reachOf
theorem dX5_reachOfSet_0 : decode cX5_reachOfSet 0 = .ok (.lconst 0, 1) := by decide +kernel
theorem dX5_reachOfSet_1 : decode cX5_reachOfSet 1 = .ok (.lstore_n 2, 1) := by decide +kernel
theorem dX5_reachOfSet_2 : decode cX5_reachOfSet 2 = .ok (.iconst 0, 1) := by decide +kernel
theorem dX5_reachOfSet_3 : decode cX5_reachOfSet 3 = .ok (.istore 4, 2) := by decide +kernel
theorem dX5_reachOfSet_5 : decode cX5_reachOfSet 5 = .ok (.iload 4, 2) := by decide +kernel
theorem dX5_reachOfSet_7 : decode cX5_reachOfSet 7 = .ok (.aload_n 0, 1) := by decide +kernel
theorem dX5_reachOfSet_8 : decode cX5_reachOfSet 8 = .ok (.getfield 52, 3) := by decide +kernel
theorem dX5_reachOfSet_11 : decode cX5_reachOfSet 11 = .ok (.if_icmp .ge 31, 3) := by decide +kernel
theorem dX5_reachOfSet_14 : decode cX5_reachOfSet 14 = .ok (.lload_n 2, 1) := by decide +kernel
theorem dX5_reachOfSet_15 : decode cX5_reachOfSet 15 = .ok (.iload_n 1, 1) := by decide +kernel
theorem dX5_reachOfSet_16 : decode cX5_reachOfSet 16 = .ok (.iload 4, 2) := by decide +kernel
theorem dX5_reachOfSet_18 : decode cX5_reachOfSet 18 = .ok (.invokestatic 112, 3) := by decide +kernel
theorem dX5_reachOfSet_21 : decode cX5_reachOfSet 21 = .ok (.ifCond .eq 12, 3) := by decide +kernel
theorem dX5_reachOfSet_24 : decode cX5_reachOfSet 24 = .ok (.aload_n 0, 1) := by decide +kernel
theorem dX5_reachOfSet_25 : decode cX5_reachOfSet 25 = .ok (.iload 4, 2) := by decide +kernel
theorem dX5_reachOfSet_27 : decode cX5_reachOfSet 27 = .ok (.invokevirtual 72, 3) := by decide +kernel
theorem dX5_reachOfSet_30 : decode cX5_reachOfSet 30 = .ok (.goto 4, 3) := by decide +kernel
theorem dX5_reachOfSet_33 : decode cX5_reachOfSet 33 = .ok (.lconst 0, 1) := by decide +kernel
theorem dX5_reachOfSet_34 : decode cX5_reachOfSet 34 = .ok (.lor, 1) := by decide +kernel
theorem dX5_reachOfSet_35 : decode cX5_reachOfSet 35 = .ok (.lstore_n 2, 1) := by decide +kernel
theorem dX5_reachOfSet_36 : decode cX5_reachOfSet 36 = .ok (.iinc 4 1, 3) := by decide +kernel
theorem dX5_reachOfSet_39 : decode cX5_reachOfSet 39 = .ok (.goto (-34), 3) := by decide +kernel
theorem dX5_reachOfSet_42 : decode cX5_reachOfSet 42 = .ok (.lload_n 2, 1) := by decide +kernel
theorem dX5_reachOfSet_43 : decode cX5_reachOfSet 43 = .ok (.lreturn, 1) := by decide +kernel
set_option maxRecDepth 20000 in
theorem ggX5_timeOfSet_X5_has : GoodIn wsX5_timeOfSet wsX5_has := goodIn_r _ [5] (by decide +kernel) (by decide +kernel)
set_option maxRecDepth 20000 in
theorem gX5_timeOfSet_X5_has : GoodIn wsX5_timeOfSet (va_wsS RX5 112 yX5_has wsX5_has) := goodIn_app (goodIn_of _ (by decide +kernel)) ggX5_timeOfSet_X5_has
set_option maxRecDepth 20000 in
theorem ggX5_timeOfSet_X5_timeOf : GoodIn wsX5_timeOfSet wsX5_timeOf := goodIn_r _ [9, 10, 11, 12, 13, 14, 15, 16, 17, 18, 19, 20, 21, 22, 23, 24, 25, 26, 27, 28, 29, 30] (by decide +kernel) (by decide +kernel)
set_option maxRecDepth 20000 in
theorem gX5_timeOfSet_X5_timeOf : GoodIn wsX5_timeOfSet (wsV RX5 79 RX5 yX5_timeOf wsX5_timeOf) := goodIn_app (goodIn_of _ (by decide +kernel)) ggX5_timeOfSet_X5_timeOf
theorem dX5_timeOfSet_0 : decode cX5_timeOfSet 0 = .ok (.iconst 0, 1) := by decide +kernel
theorem dX5_timeOfSet_1 : decode cX5_timeOfSet 1 = .ok (.istore_n 2, 1) := by decide +kernel
theorem dX5_timeOfSet_2 : decode cX5_timeOfSet 2 = .ok (.iconst 0, 1) := by decide +kernel
theorem dX5_timeOfSet_3 : decode cX5_timeOfSet 3 = .ok (.istore_n 3, 1) := by decide +kernel
theorem dX5_timeOfSet_4 : decode cX5_timeOfSet 4 = .ok (.iload_n 3, 1) := by decide +kernel
theorem dX5_timeOfSet_5 : decode cX5_timeOfSet 5 = .ok (.aload_n 0, 1) := by decide +kernel
theorem dX5_timeOfSet_6 : decode cX5_timeOfSet 6 = .ok (.getfield 52, 3) := by decide +kernel
theorem dX5_timeOfSet_9 : decode cX5_timeOfSet 9 = .ok (.if_icmp .ge 29, 3) := by decide +kernel
theorem dX5_timeOfSet_12 : decode cX5_timeOfSet 12 = .ok (.iload_n 2, 1) := by decide +kernel
theorem dX5_timeOfSet_13 : decode cX5_timeOfSet 13 = .ok (.iload_n 1, 1) := by decide +kernel
theorem dX5_timeOfSet_14 : decode cX5_timeOfSet 14 = .ok (.iload_n 3, 1) := by decide +kernel
theorem dX5_timeOfSet_15 : decode cX5_timeOfSet 15 = .ok (.invokestatic 112, 3) := by decide +kernel
theorem dX5_timeOfSet_18 : decode cX5_timeOfSet 18 = .ok (.ifCond .eq 11, 3) := by decide +kernel
theorem dX5_timeOfSet_21 : decode cX5_timeOfSet 21 = .ok (.aload_n 0, 1) := by decide +kernel
theorem dX5_timeOfSet_22 : decode cX5_timeOfSet 22 = .ok (.iload_n 3, 1) := by decide +kernel
theorem dX5_timeOfSet_23 : decode cX5_timeOfSet 23 = .ok (.invokevirtual 79, 3) := by decide +kernel
theorem dX5_timeOfSet_26 : decode cX5_timeOfSet 26 = .ok (.goto 4, 3) := by decide +kernel
theorem dX5_timeOfSet_29 : decode cX5_timeOfSet 29 = .ok (.iconst 0, 1) := by decide +kernel
theorem dX5_timeOfSet_30 : decode cX5_timeOfSet 30 = .ok (.iadd, 1) := by decide +kernel
theorem dX5_timeOfSet_31 : decode cX5_timeOfSet 31 = .ok (.istore_n 2, 1) := by decide +kernel
theorem dX5_timeOfSet_32 : decode cX5_timeOfSet 32 = .ok (.iinc 3 1, 3) := by decide +kernel
theorem dX5_timeOfSet_35 : decode cX5_timeOfSet 35 = .ok (.goto (-31), 3) := by decide +kernel
theorem dX5_timeOfSet_38 : decode cX5_timeOfSet 38 = .ok (.iload_n 2, 1) := by decide +kernel
theorem dX5_timeOfSet_39 : decode cX5_timeOfSet 39 = .ok (.ireturn, 1) := by decide +kernel
set_option maxRecDepth 20000 in
theorem ggX5_pick_X5_in : GoodIn wsX5_pick wsX5_in := goodIn_r _ [12] (by decide +kernel) (by decide +kernel)
set_option maxRecDepth 20000 in
theorem gX5_pick_X5_in : GoodIn wsX5_pick (va_wsS RX5 55 yX5_in wsX5_in) := goodIn_app (goodIn_of _ (by decide +kernel)) ggX5_pick_X5_in
set_option maxRecDepth 20000 in
theorem ggX5_pick_X5_reachOfSet : GoodIn wsX5_pick wsX5_reachOfSet := goodIn_r _ [16, 6, 17, 18, 11, 19, 20, 21, 22, 23, 24, 25, 58, 59, 60, 61, 62, 63, 64, 65, 66, 67, 68, 69, 70, 71, 72, 73, 74, 75, 76] (by decide +kernel) (by decide +kernel)
set_option maxRecDepth 20000 in
theorem gX5_pick_X5_reachOfSet : GoodIn wsX5_pick (wsV RX5 119 RX5 yX5_reachOfSet wsX5_reachOfSet) := goodIn_app (goodIn_of _ (by decide +kernel)) ggX5_pick_X5_reachOfSet
set_option maxRecDepth 20000 in
theorem ggX5_pick_X5_chainOf : GoodIn wsX5_pick wsX5_chainOf := goodIn_r _ [29, 30, 58, 59, 60, 61, 62, 63, 64, 65, 66, 67, 68, 69, 70, 71, 72, 73, 74, 75, 76] (by decide +kernel) (by decide +kernel)
set_option maxRecDepth 20000 in
theorem gX5_pick_X5_chainOf : GoodIn wsX5_pick (wsV RX5 88 RX5 yX5_chainOf wsX5_chainOf) := goodIn_app (goodIn_of _ (by decide +kernel)) ggX5_pick_X5_chainOf
set_option maxRecDepth 20000 in
theorem ggX5_pick_X5_mayBe : GoodIn wsX5_pick wsX5_mayBe := goodIn_r _ [34, 35, 24, 30, 58, 59, 60, 61, 62, 63, 64, 65, 66, 67, 68, 69, 70, 71, 72, 73, 74, 75, 76] (by decide +kernel) (by decide +kernel)
set_option maxRecDepth 20000 in
theorem gX5_pick_X5_mayBe : GoodIn wsX5_pick (wsV RX5 124 RX5 yX5_mayBe wsX5_mayBe) := goodIn_app (goodIn_of _ (by decide +kernel)) ggX5_pick_X5_mayBe
set_option maxRecDepth 20000 in
theorem ggX5_pick_X5_has : GoodIn wsX5_pick wsX5_has := goodIn_r _ [19] (by decide +kernel) (by decide +kernel)
set_option maxRecDepth 20000 in
theorem gX5_pick_X5_has : GoodIn wsX5_pick (va_wsS RX5 112 yX5_has wsX5_has) := goodIn_app (goodIn_of _ (by decide +kernel)) ggX5_pick_X5_has
set_option maxRecDepth 20000 in
theorem ggX5_pick_X5_bits : GoodIn wsX5_pick wsX5_bits := goodIn_r _ [38] (by decide +kernel) (by decide +kernel)
set_option maxRecDepth 20000 in
theorem gX5_pick_X5_bits : GoodIn wsX5_pick (va_wsS RX5 91 yX5_bits wsX5_bits) := goodIn_app (goodIn_of _ (by decide +kernel)) ggX5_pick_X5_bits
set_option maxRecDepth 20000 in
theorem ggX5_pick_X5_heatOf : GoodIn wsX5_pick wsX5_heatOf := goodIn_r _ [42, 1, 43, 58, 59, 60, 61, 62, 63, 64, 65, 66, 67, 68, 69, 70, 71, 72, 73, 74, 75, 76] (by decide +kernel) (by decide +kernel)
set_option maxRecDepth 20000 in
theorem gX5_pick_X5_heatOf : GoodIn wsX5_pick (wsV RX5 82 RX5 yX5_heatOf wsX5_heatOf) := goodIn_app (goodIn_of _ (by decide +kernel)) ggX5_pick_X5_heatOf
set_option maxRecDepth 20000 in
theorem ggX5_pick_X5_timeOfSet : GoodIn wsX5_pick wsX5_timeOfSet := goodIn_r _ [47, 6, 17, 18, 11, 19, 48, 49, 50, 51, 35, 52, 58, 59, 60, 61, 62, 63, 64, 65, 66, 67, 68, 69, 70, 71, 72, 73, 74, 75, 76] (by decide +kernel) (by decide +kernel)
set_option maxRecDepth 20000 in
theorem gX5_pick_X5_timeOfSet : GoodIn wsX5_pick (wsV RX5 127 RX5 yX5_timeOfSet wsX5_timeOfSet) := goodIn_app (goodIn_of _ (by decide +kernel)) ggX5_pick_X5_timeOfSet
set_option maxRecDepth 20000 in
theorem ggX5_pick_X5_take : GoodIn wsX5_pick wsX5_take := goodIn_r _ [56, 4, 6, 57, 3, 26, 27, 28, 11, 29, 30, 17, 18, 19, 58, 59, 60, 61, 62, 63, 64, 65, 66, 67, 68, 69, 70, 71, 72, 73, 74, 75, 76] (by decide +kernel) (by decide +kernel)
set_option maxRecDepth 20000 in
theorem gX5_pick_X5_take : GoodIn wsX5_pick (wsV RX5 130 RX5 yX5_take wsX5_take) := goodIn_app (goodIn_of _ (by decide +kernel)) ggX5_pick_X5_take
theorem dX5_pick_0 : decode cX5_pick 0 = .ok (.iload_n 1, 1) := by decide +kernel
theorem dX5_pick_1 : decode cX5_pick 1 = .ok (.iconst 0, 1) := by decide +kernel
theorem dX5_pick_2 : decode cX5_pick 2 = .ok (.sipush 30000, 3) := by decide +kernel
theorem dX5_pick_5 : decode cX5_pick 5 = .ok (.invokestatic 55, 3) := by decide +kernel
theorem dX5_pick_8 : decode cX5_pick 8 = .ok (.ifCond .ne 5, 3) := by decide +kernel
theorem dX5_pick_11 : decode cX5_pick 11 = .ok (.iconst (-1), 1) := by decide +kernel
theorem dX5_pick_12 : decode cX5_pick 12 = .ok (.ireturn, 1) := by decide +kernel
theorem dX5_pick_13 : decode cX5_pick 13 = .ok (.aload_n 0, 1) := by decide +kernel
theorem dX5_pick_14 : decode cX5_pick 14 = .ok (.getfield 59, 3) := by decide +kernel
theorem dX5_pick_17 : decode cX5_pick 17 = .ok (.ifCond .ne 6, 3) := by decide +kernel
theorem dX5_pick_20 : decode cX5_pick 20 = .ok (.bipush (-4), 2) := by decide +kernel
theorem dX5_pick_22 : decode cX5_pick 22 = .ok (.ireturn, 1) := by decide +kernel
theorem dX5_pick_23 : decode cX5_pick 23 = .ok (.aload_n 0, 1) := by decide +kernel
theorem dX5_pick_24 : decode cX5_pick 24 = .ok (.getfield 29, 3) := by decide +kernel
theorem dX5_pick_27 : decode cX5_pick 27 = .ok (.aload_n 0, 1) := by decide +kernel
theorem dX5_pick_28 : decode cX5_pick 28 = .ok (.getfield 59, 3) := by decide +kernel
theorem dX5_pick_31 : decode cX5_pick 31 = .ok (.iconst 1, 1) := by decide +kernel
theorem dX5_pick_32 : decode cX5_pick 32 = .ok (.isub, 1) := by decide +kernel
theorem dX5_pick_33 : decode cX5_pick 33 = .ok (.laload, 1) := by decide +kernel
theorem dX5_pick_34 : decode cX5_pick 34 = .ok (.lstore_n 2, 1) := by decide +kernel
theorem dX5_pick_35 : decode cX5_pick 35 = .ok (.aload_n 0, 1) := by decide +kernel
theorem dX5_pick_36 : decode cX5_pick 36 = .ok (.iconst 0, 1) := by decide +kernel
theorem dX5_pick_37 : decode cX5_pick 37 = .ok (.putfield 39, 3) := by decide +kernel
theorem dX5_pick_40 : decode cX5_pick 40 = .ok (.aload_n 0, 1) := by decide +kernel
theorem dX5_pick_41 : decode cX5_pick 41 = .ok (.iconst 0, 1) := by decide +kernel
theorem dX5_pick_42 : decode cX5_pick 42 = .ok (.putfield 116, 3) := by decide +kernel
theorem dX5_pick_45 : decode cX5_pick 45 = .ok (.iload_n 1, 1) := by decide +kernel
theorem dX5_pick_46 : decode cX5_pick 46 = .ok (.istore 4, 2) := by decide +kernel
theorem dX5_pick_48 : decode cX5_pick 48 = .ok (.iconst 0, 1) := by decide +kernel
theorem dX5_pick_49 : decode cX5_pick 49 = .ok (.istore 5, 2) := by decide +kernel
theorem dX5_pick_51 : decode cX5_pick 51 = .ok (.iload 5, 2) := by decide +kernel
theorem dX5_pick_53 : decode cX5_pick 53 = .ok (.ifCond .lt 185, 3) := by decide +kernel
theorem dX5_pick_56 : decode cX5_pick 56 = .ok (.bipush (-9), 2) := by decide +kernel
theorem dX5_pick_58 : decode cX5_pick 58 = .ok (.istore 5, 2) := by decide +kernel
theorem dX5_pick_60 : decode cX5_pick 60 = .ok (.lconst 0, 1) := by decide +kernel
theorem dX5_pick_61 : decode cX5_pick 61 = .ok (.lstore 6, 2) := by decide +kernel
theorem dX5_pick_63 : decode cX5_pick 63 = .ok (.lconst 1, 1) := by decide +kernel
theorem dX5_pick_64 : decode cX5_pick 64 = .ok (.lstore 8, 2) := by decide +kernel
theorem dX5_pick_66 : decode cX5_pick 66 = .ok (.lload_n 2, 1) := by decide +kernel
theorem dX5_pick_67 : decode cX5_pick 67 = .ok (.aload_n 0, 1) := by decide +kernel
theorem dX5_pick_68 : decode cX5_pick 68 = .ok (.aload_n 0, 1) := by decide +kernel
theorem dX5_pick_69 : decode cX5_pick 69 = .ok (.getfield 116, 3) := by decide +kernel
theorem dX5_pick_72 : decode cX5_pick 72 = .ok (.invokevirtual 119, 3) := by decide +kernel
theorem dX5_pick_75 : decode cX5_pick 75 = .ok (.ldc2_w 122, 3) := by decide +kernel
theorem dX5_pick_78 : decode cX5_pick 78 = .ok (.lxor, 1) := by decide +kernel
theorem dX5_pick_79 : decode cX5_pick 79 = .ok (.land, 1) := by decide +kernel
theorem dX5_pick_80 : decode cX5_pick 80 = .ok (.lstore 10, 2) := by decide +kernel
theorem dX5_pick_82 : decode cX5_pick 82 = .ok (.iconst 0, 1) := by decide +kernel
theorem dX5_pick_83 : decode cX5_pick 83 = .ok (.istore 12, 2) := by decide +kernel
theorem dX5_pick_85 : decode cX5_pick 85 = .ok (.iload 12, 2) := by decide +kernel
theorem dX5_pick_87 : decode cX5_pick 87 = .ok (.aload_n 0, 1) := by decide +kernel
theorem dX5_pick_88 : decode cX5_pick 88 = .ok (.getfield 52, 3) := by decide +kernel
theorem dX5_pick_91 : decode cX5_pick 91 = .ok (.if_icmp .ge 125, 3) := by decide +kernel
theorem dX5_pick_94 : decode cX5_pick 94 = .ok (.aload_n 0, 1) := by decide +kernel
theorem dX5_pick_95 : decode cX5_pick 95 = .ok (.iload 12, 2) := by decide +kernel
theorem dX5_pick_97 : decode cX5_pick 97 = .ok (.invokevirtual 88, 3) := by decide +kernel
theorem dX5_pick_100 : decode cX5_pick 100 = .ok (.aload_n 0, 1) := by decide +kernel
theorem dX5_pick_101 : decode cX5_pick 101 = .ok (.getfield 116, 3) := by decide +kernel
theorem dX5_pick_104 : decode cX5_pick 104 = .ok (.iconst (-1), 1) := by decide +kernel
theorem dX5_pick_105 : decode cX5_pick 105 = .ok (.ixor, 1) := by decide +kernel
theorem dX5_pick_106 : decode cX5_pick 106 = .ok (.iand, 1) := by decide +kernel
theorem dX5_pick_107 : decode cX5_pick 107 = .ok (.istore 13, 2) := by decide +kernel
theorem dX5_pick_109 : decode cX5_pick 109 = .ok (.aload_n 0, 1) := by decide +kernel
theorem dX5_pick_110 : decode cX5_pick 110 = .ok (.iload 12, 2) := by decide +kernel
theorem dX5_pick_112 : decode cX5_pick 112 = .ok (.invokevirtual 124, 3) := by decide +kernel
theorem dX5_pick_115 : decode cX5_pick 115 = .ok (.ifCond .eq 95, 3) := by decide +kernel
theorem dX5_pick_118 : decode cX5_pick 118 = .ok (.aload_n 0, 1) := by decide +kernel
theorem dX5_pick_119 : decode cX5_pick 119 = .ok (.getfield 116, 3) := by decide +kernel
theorem dX5_pick_122 : decode cX5_pick 122 = .ok (.iload 12, 2) := by decide +kernel
theorem dX5_pick_124 : decode cX5_pick 124 = .ok (.invokestatic 112, 3) := by decide +kernel
theorem dX5_pick_127 : decode cX5_pick 127 = .ok (.ifCond .eq 6, 3) := by decide +kernel
theorem dX5_pick_130 : decode cX5_pick 130 = .ok (.goto 80, 3) := by decide +kernel
theorem dX5_pick_133 : decode cX5_pick 133 = .ok (.aload_n 0, 1) := by decide +kernel
theorem dX5_pick_134 : decode cX5_pick 134 = .ok (.iload 13, 2) := by decide +kernel
theorem dX5_pick_136 : decode cX5_pick 136 = .ok (.invokevirtual 119, 3) := by decide +kernel
theorem dX5_pick_139 : decode cX5_pick 139 = .ok (.lload 10, 2) := by decide +kernel
theorem dX5_pick_141 : decode cX5_pick 141 = .ok (.land, 1) := by decide +kernel
theorem dX5_pick_142 : decode cX5_pick 142 = .ok (.invokestatic 91, 3) := by decide +kernel
theorem dX5_pick_145 : decode cX5_pick 145 = .ok (.i2l, 1) := by decide +kernel
theorem dX5_pick_146 : decode cX5_pick 146 = .ok (.bipush 16, 2) := by decide +kernel
theorem dX5_pick_148 : decode cX5_pick 148 = .ok (.aload_n 0, 1) := by decide +kernel
theorem dX5_pick_149 : decode cX5_pick 149 = .ok (.iload 12, 2) := by decide +kernel
theorem dX5_pick_151 : decode cX5_pick 151 = .ok (.invokevirtual 82, 3) := by decide +kernel
theorem dX5_pick_154 : decode cX5_pick 154 = .ok (.iadd, 1) := by decide +kernel
theorem dX5_pick_155 : decode cX5_pick 155 = .ok (.i2l, 1) := by decide +kernel
theorem dX5_pick_156 : decode cX5_pick 156 = .ok (.lmul, 1) := by decide +kernel
theorem dX5_pick_157 : decode cX5_pick 157 = .ok (.lstore 14, 2) := by decide +kernel
theorem dX5_pick_159 : decode cX5_pick 159 = .ok (.aload_n 0, 1) := by decide +kernel
theorem dX5_pick_160 : decode cX5_pick 160 = .ok (.iload 13, 2) := by decide +kernel
theorem dX5_pick_162 : decode cX5_pick 162 = .ok (.invokevirtual 127, 3) := by decide +kernel
theorem dX5_pick_165 : decode cX5_pick 165 = .ok (.i2l, 1) := by decide +kernel
theorem dX5_pick_166 : decode cX5_pick 166 = .ok (.lstore 16, 2) := by decide +kernel
theorem dX5_pick_168 : decode cX5_pick 168 = .ok (.lload 14, 2) := by decide +kernel
theorem dX5_pick_170 : decode cX5_pick 170 = .ok (.lconst 0, 1) := by decide +kernel
theorem dX5_pick_171 : decode cX5_pick 171 = .ok (.lcmp, 1) := by decide +kernel
theorem dX5_pick_172 : decode cX5_pick 172 = .ok (.ifCond .le 38, 3) := by decide +kernel
theorem dX5_pick_175 : decode cX5_pick 175 = .ok (.lload 16, 2) := by decide +kernel
theorem dX5_pick_177 : decode cX5_pick 177 = .ok (.iload 4, 2) := by decide +kernel
theorem dX5_pick_179 : decode cX5_pick 179 = .ok (.i2l, 1) := by decide +kernel
theorem dX5_pick_180 : decode cX5_pick 180 = .ok (.lcmp, 1) := by decide +kernel
theorem dX5_pick_181 : decode cX5_pick 181 = .ok (.ifCond .gt 29, 3) := by decide +kernel
theorem dX5_pick_184 : decode cX5_pick 184 = .ok (.lload 14, 2) := by decide +kernel
theorem dX5_pick_186 : decode cX5_pick 186 = .ok (.lload 8, 2) := by decide +kernel
theorem dX5_pick_188 : decode cX5_pick 188 = .ok (.lmul, 1) := by decide +kernel
theorem dX5_pick_189 : decode cX5_pick 189 = .ok (.lload 6, 2) := by decide +kernel
theorem dX5_pick_191 : decode cX5_pick 191 = .ok (.lload 16, 2) := by decide +kernel
theorem dX5_pick_193 : decode cX5_pick 193 = .ok (.lmul, 1) := by decide +kernel
theorem dX5_pick_194 : decode cX5_pick 194 = .ok (.lcmp, 1) := by decide +kernel
theorem dX5_pick_195 : decode cX5_pick 195 = .ok (.ifCond .le 15, 3) := by decide +kernel
theorem dX5_pick_198 : decode cX5_pick 198 = .ok (.iload 12, 2) := by decide +kernel
theorem dX5_pick_200 : decode cX5_pick 200 = .ok (.istore 5, 2) := by decide +kernel
theorem dX5_pick_202 : decode cX5_pick 202 = .ok (.lload 14, 2) := by decide +kernel
theorem dX5_pick_204 : decode cX5_pick 204 = .ok (.lstore 6, 2) := by decide +kernel
theorem dX5_pick_206 : decode cX5_pick 206 = .ok (.lload 16, 2) := by decide +kernel
theorem dX5_pick_208 : decode cX5_pick 208 = .ok (.lstore 8, 2) := by decide +kernel
theorem dX5_pick_210 : decode cX5_pick 210 = .ok (.iinc 12 1, 3) := by decide +kernel
theorem dX5_pick_213 : decode cX5_pick 213 = .ok (.goto (-128), 3) := by decide +kernel
theorem dX5_pick_216 : decode cX5_pick 216 = .ok (.iload 5, 2) := by decide +kernel
theorem dX5_pick_218 : decode cX5_pick 218 = .ok (.ifCond .lt 17, 3) := by decide +kernel
theorem dX5_pick_221 : decode cX5_pick 221 = .ok (.iload 4, 2) := by decide +kernel
theorem dX5_pick_223 : decode cX5_pick 223 = .ok (.lload 8, 2) := by decide +kernel
theorem dX5_pick_225 : decode cX5_pick 225 = .ok (.l2i, 1) := by decide +kernel
theorem dX5_pick_226 : decode cX5_pick 226 = .ok (.isub, 1) := by decide +kernel
theorem dX5_pick_227 : decode cX5_pick 227 = .ok (.istore 4, 2) := by decide +kernel
theorem dX5_pick_229 : decode cX5_pick 229 = .ok (.aload_n 0, 1) := by decide +kernel
theorem dX5_pick_230 : decode cX5_pick 230 = .ok (.iload 5, 2) := by decide +kernel
theorem dX5_pick_232 : decode cX5_pick 232 = .ok (.invokevirtual 130, 3) := by decide +kernel
theorem dX5_pick_235 : decode cX5_pick 235 = .ok (.goto (-184), 3) := by decide +kernel
theorem dX5_pick_238 : decode cX5_pick 238 = .ok (.aload_n 0, 1) := by decide +kernel
theorem dX5_pick_239 : decode cX5_pick 239 = .ok (.iload_n 1, 1) := by decide +kernel
theorem dX5_pick_240 : decode cX5_pick 240 = .ok (.iload 4, 2) := by decide +kernel
theorem dX5_pick_242 : decode cX5_pick 242 = .ok (.isub, 1) := by decide +kernel
theorem dX5_pick_243 : decode cX5_pick 243 = .ok (.putfield 134, 3) := by decide +kernel
theorem dX5_pick_246 : decode cX5_pick 246 = .ok (.aload_n 0, 1) := by decide +kernel
theorem dX5_pick_247 : decode cX5_pick 247 = .ok (.aload_n 0, 1) := by decide +kernel
theorem dX5_pick_248 : decode cX5_pick 248 = .ok (.aload_n 0, 1) := by decide +kernel
theorem dX5_pick_249 : decode cX5_pick 249 = .ok (.getfield 116, 3) := by decide +kernel
theorem dX5_pick_252 : decode cX5_pick 252 = .ok (.invokevirtual 119, 3) := by decide +kernel
theorem dX5_pick_255 : decode cX5_pick 255 = .ok (.lload_n 2, 1) := by decide +kernel
theorem dX5_pick_256 : decode cX5_pick 256 = .ok (.land, 1) := by decide +kernel
theorem dX5_pick_257 : decode cX5_pick 257 = .ok (.invokestatic 91, 3) := by decide +kernel
theorem dX5_pick_260 : decode cX5_pick 260 = .ok (.putfield 137, 3) := by decide +kernel
theorem dX5_pick_263 : decode cX5_pick 263 = .ok (.aload_n 0, 1) := by decide +kernel
theorem dX5_pick_264 : decode cX5_pick 264 = .ok (.getfield 39, 3) := by decide +kernel
theorem dX5_pick_267 : decode cX5_pick 267 = .ok (.ireturn, 1) := by decide +kernel
set_option maxRecDepth 20000 in
theorem ggX5_take_X5_chainOf : GoodIn wsX5_take wsX5_chainOf := goodIn_r _ [9, 10, 14, 15, 16, 17, 18, 19, 20, 21, 22, 23, 24, 25, 26, 27, 28, 29, 30, 31, 32] (by decide +kernel) (by decide +kernel)
set_option maxRecDepth 20000 in
theorem gX5_take_X5_chainOf : GoodIn wsX5_take (wsV RX5 88 RX5 yX5_chainOf wsX5_chainOf) := goodIn_app (goodIn_of _ (by decide +kernel)) ggX5_take_X5_chainOf
set_option maxRecDepth 20000 in
theorem ggX5_take_X5_has : GoodIn wsX5_take wsX5_has := goodIn_r _ [13] (by decide +kernel) (by decide +kernel)
set_option maxRecDepth 20000 in
theorem gX5_take_X5_has : GoodIn wsX5_take (va_wsS RX5 112 yX5_has wsX5_has) := goodIn_app (goodIn_of _ (by decide +kernel)) ggX5_take_X5_has
theorem dX5_take_0 : decode cX5_take 0 = .ok (.aload_n 0, 1) := by decide +kernel
theorem dX5_take_1 : decode cX5_take 1 = .ok (.iload_n 1, 1) := by decide +kernel
theorem dX5_take_2 : decode cX5_take 2 = .ok (.invokevirtual 88, 3) := by decide +kernel
theorem dX5_take_5 : decode cX5_take 5 = .ok (.aload_n 0, 1) := by decide +kernel
theorem dX5_take_6 : decode cX5_take 6 = .ok (.getfield 116, 3) := by decide +kernel
theorem dX5_take_9 : decode cX5_take 9 = .ok (.iconst (-1), 1) := by decide +kernel
theorem dX5_take_10 : decode cX5_take 10 = .ok (.ixor, 1) := by decide +kernel
theorem dX5_take_11 : decode cX5_take 11 = .ok (.iand, 1) := by decide +kernel
theorem dX5_take_12 : decode cX5_take 12 = .ok (.istore_n 2, 1) := by decide +kernel
theorem dX5_take_13 : decode cX5_take 13 = .ok (.iconst 0, 1) := by decide +kernel
theorem dX5_take_14 : decode cX5_take 14 = .ok (.istore_n 3, 1) := by decide +kernel
theorem dX5_take_15 : decode cX5_take 15 = .ok (.iload_n 3, 1) := by decide +kernel
theorem dX5_take_16 : decode cX5_take 16 = .ok (.aload_n 0, 1) := by decide +kernel
theorem dX5_take_17 : decode cX5_take 17 = .ok (.getfield 52, 3) := by decide +kernel
theorem dX5_take_20 : decode cX5_take 20 = .ok (.if_icmp .ge 37, 3) := by decide +kernel
theorem dX5_take_23 : decode cX5_take 23 = .ok (.iload_n 2, 1) := by decide +kernel
theorem dX5_take_24 : decode cX5_take 24 = .ok (.iload_n 3, 1) := by decide +kernel
theorem dX5_take_25 : decode cX5_take 25 = .ok (.invokestatic 112, 3) := by decide +kernel
theorem dX5_take_28 : decode cX5_take 28 = .ok (.ifCond .eq 23, 3) := by decide +kernel
theorem dX5_take_31 : decode cX5_take 31 = .ok (.aload_n 0, 1) := by decide +kernel
theorem dX5_take_32 : decode cX5_take 32 = .ok (.getfield 43, 3) := by decide +kernel
theorem dX5_take_35 : decode cX5_take 35 = .ok (.aload_n 0, 1) := by decide +kernel
theorem dX5_take_36 : decode cX5_take 36 = .ok (.getfield 39, 3) := by decide +kernel
theorem dX5_take_39 : decode cX5_take 39 = .ok (.iload_n 3, 1) := by decide +kernel
theorem dX5_take_40 : decode cX5_take 40 = .ok (.iastore, 1) := by decide +kernel
theorem dX5_take_41 : decode cX5_take 41 = .ok (.aload_n 0, 1) := by decide +kernel
theorem dX5_take_42 : decode cX5_take 42 = .ok (.dup, 1) := by decide +kernel
theorem dX5_take_43 : decode cX5_take 43 = .ok (.getfield 39, 3) := by decide +kernel
theorem dX5_take_46 : decode cX5_take 46 = .ok (.iconst 1, 1) := by decide +kernel
theorem dX5_take_47 : decode cX5_take 47 = .ok (.iadd, 1) := by decide +kernel
theorem dX5_take_48 : decode cX5_take 48 = .ok (.putfield 39, 3) := by decide +kernel
theorem dX5_take_51 : decode cX5_take 51 = .ok (.iinc 3 1, 3) := by decide +kernel
theorem dX5_take_54 : decode cX5_take 54 = .ok (.goto (-39), 3) := by decide +kernel
theorem dX5_take_57 : decode cX5_take 57 = .ok (.aload_n 0, 1) := by decide +kernel
theorem dX5_take_58 : decode cX5_take 58 = .ok (.dup, 1) := by decide +kernel
theorem dX5_take_59 : decode cX5_take 59 = .ok (.getfield 116, 3) := by decide +kernel
theorem dX5_take_62 : decode cX5_take 62 = .ok (.iload_n 2, 1) := by decide +kernel
theorem dX5_take_63 : decode cX5_take 63 = .ok (.ior, 1) := by decide +kernel
theorem dX5_take_64 : decode cX5_take 64 = .ok (.putfield 116, 3) := by decide +kernel
theorem dX5_take_67 : decode cX5_take 67 = .ok (.return_, 1) := by decide +kernel
set_option maxRecDepth 20000 in
theorem ggX5_picked_X5_in : GoodIn wsX5_picked wsX5_in := goodIn_r _ [6] (by decide +kernel) (by decide +kernel)
set_option maxRecDepth 20000 in
theorem gX5_picked_X5_in : GoodIn wsX5_picked (va_wsS RX5 55 yX5_in wsX5_in) := goodIn_app (goodIn_of _ (by decide +kernel)) ggX5_picked_X5_in
theorem dX5_picked_0 : decode cX5_picked 0 = .ok (.iload_n 1, 1) := by decide +kernel
theorem dX5_picked_1 : decode cX5_picked 1 = .ok (.iconst 0, 1) := by decide +kernel
theorem dX5_picked_2 : decode cX5_picked 2 = .ok (.aload_n 0, 1) := by decide +kernel
theorem dX5_picked_3 : decode cX5_picked 3 = .ok (.getfield 39, 3) := by decide +kernel
theorem dX5_picked_6 : decode cX5_picked 6 = .ok (.iconst 1, 1) := by decide +kernel
theorem dX5_picked_7 : decode cX5_picked 7 = .ok (.isub, 1) := by decide +kernel
theorem dX5_picked_8 : decode cX5_picked 8 = .ok (.invokestatic 55, 3) := by decide +kernel
theorem dX5_picked_11 : decode cX5_picked 11 = .ok (.ifCond .eq 12, 3) := by decide +kernel
theorem dX5_picked_14 : decode cX5_picked 14 = .ok (.aload_n 0, 1) := by decide +kernel
theorem dX5_picked_15 : decode cX5_picked 15 = .ok (.getfield 43, 3) := by decide +kernel
theorem dX5_picked_18 : decode cX5_picked 18 = .ok (.iload_n 1, 1) := by decide +kernel
theorem dX5_picked_19 : decode cX5_picked 19 = .ok (.iaload, 1) := by decide +kernel
theorem dX5_picked_20 : decode cX5_picked 20 = .ok (.goto 5, 3) := by decide +kernel
theorem dX5_picked_23 : decode cX5_picked 23 = .ok (.bipush (-9), 2) := by decide +kernel
theorem dX5_picked_25 : decode cX5_picked 25 = .ok (.ireturn, 1) := by decide +kernel
set_option maxRecDepth 20000 in
theorem ggX5_about_X5_in : GoodIn wsX5_about wsX5_in := goodIn_r _ [8] (by decide +kernel) (by decide +kernel)
set_option maxRecDepth 20000 in
theorem gX5_about_X5_in : GoodIn wsX5_about (va_wsS RX5 55 yX5_in wsX5_in) := goodIn_app (goodIn_of _ (by decide +kernel)) ggX5_about_X5_in
theorem dX5_about_0 : decode cX5_about 0 = .ok (.iload_n 1, 1) := by decide +kernel
theorem dX5_about_1 : decode cX5_about 1 = .ok (.iconst 0, 1) := by decide +kernel
theorem dX5_about_2 : decode cX5_about 2 = .ok (.iconst 2, 1) := by decide +kernel
theorem dX5_about_3 : decode cX5_about 3 = .ok (.invokestatic 55, 3) := by decide +kernel
theorem dX5_about_6 : decode cX5_about 6 = .ok (.ifCond .ne 5, 3) := by decide +kernel
theorem dX5_about_9 : decode cX5_about 9 = .ok (.iconst (-1), 1) := by decide +kernel
theorem dX5_about_10 : decode cX5_about 10 = .ok (.ireturn, 1) := by decide +kernel
theorem dX5_about_11 : decode cX5_about 11 = .ok (.aload_n 0, 1) := by decide +kernel
theorem dX5_about_12 : decode cX5_about 12 = .ok (.getfield 39, 3) := by decide +kernel
theorem dX5_about_15 : decode cX5_about 15 = .ok (.ifCond .ge 6, 3) := by decide +kernel
theorem dX5_about_18 : decode cX5_about 18 = .ok (.bipush (-9), 2) := by decide +kernel
theorem dX5_about_20 : decode cX5_about 20 = .ok (.ireturn, 1) := by decide +kernel
theorem dX5_about_21 : decode cX5_about 21 = .ok (.iload_n 1, 1) := by decide +kernel
theorem dX5_about_22 : decode cX5_about 22 = .ok (.ifCond .ne 10, 3) := by decide +kernel
theorem dX5_about_25 : decode cX5_about 25 = .ok (.aload_n 0, 1) := by decide +kernel
theorem dX5_about_26 : decode cX5_about 26 = .ok (.getfield 134, 3) := by decide +kernel
theorem dX5_about_29 : decode cX5_about 29 = .ok (.goto 19, 3) := by decide +kernel
theorem dX5_about_32 : decode cX5_about 32 = .ok (.iload_n 1, 1) := by decide +kernel
theorem dX5_about_33 : decode cX5_about 33 = .ok (.iconst 1, 1) := by decide +kernel
theorem dX5_about_34 : decode cX5_about 34 = .ok (.if_icmp .ne 10, 3) := by decide +kernel
theorem dX5_about_37 : decode cX5_about 37 = .ok (.aload_n 0, 1) := by decide +kernel
theorem dX5_about_38 : decode cX5_about 38 = .ok (.getfield 137, 3) := by decide +kernel
theorem dX5_about_41 : decode cX5_about 41 = .ok (.goto 7, 3) := by decide +kernel
theorem dX5_about_44 : decode cX5_about 44 = .ok (.aload_n 0, 1) := by decide +kernel
theorem dX5_about_45 : decode cX5_about 45 = .ok (.getfield 116, 3) := by decide +kernel
theorem dX5_about_48 : decode cX5_about 48 = .ok (.ireturn, 1) := by decide +kernel
set_option maxRecDepth 20000 in
theorem ggX5_setOf_X5_has : GoodIn wsX5_setOf wsX5_has := goodIn_r _ [5] (by decide +kernel) (by decide +kernel)
set_option maxRecDepth 20000 in
theorem gX5_setOf_X5_has : GoodIn wsX5_setOf (va_wsS RX5 112 yX5_has wsX5_has) := goodIn_app (goodIn_of _ (by decide +kernel)) ggX5_setOf_X5_has
theorem dX5_setOf_0 : decode cX5_setOf 0 = .ok (.iconst 0, 1) := by decide +kernel
theorem dX5_setOf_1 : decode cX5_setOf 1 = .ok (.istore_n 3, 1) := by decide +kernel
theorem dX5_setOf_2 : decode cX5_setOf 2 = .ok (.iconst 0, 1) := by decide +kernel
theorem dX5_setOf_3 : decode cX5_setOf 3 = .ok (.istore 4, 2) := by decide +kernel
theorem dX5_setOf_5 : decode cX5_setOf 5 = .ok (.iload 4, 2) := by decide +kernel
theorem dX5_setOf_7 : decode cX5_setOf 7 = .ok (.iload_n 2, 1) := by decide +kernel
theorem dX5_setOf_8 : decode cX5_setOf 8 = .ok (.if_icmp .ge 34, 3) := by decide +kernel
theorem dX5_setOf_11 : decode cX5_setOf 11 = .ok (.iload_n 3, 1) := by decide +kernel
theorem dX5_setOf_12 : decode cX5_setOf 12 = .ok (.iload_n 1, 1) := by decide +kernel
theorem dX5_setOf_13 : decode cX5_setOf 13 = .ok (.iload 4, 2) := by decide +kernel
theorem dX5_setOf_15 : decode cX5_setOf 15 = .ok (.invokestatic 112, 3) := by decide +kernel
theorem dX5_setOf_18 : decode cX5_setOf 18 = .ok (.ifCond .eq 15, 3) := by decide +kernel
theorem dX5_setOf_21 : decode cX5_setOf 21 = .ok (.iconst 1, 1) := by decide +kernel
theorem dX5_setOf_22 : decode cX5_setOf 22 = .ok (.aload_n 0, 1) := by decide +kernel
theorem dX5_setOf_23 : decode cX5_setOf 23 = .ok (.getfield 46, 3) := by decide +kernel
theorem dX5_setOf_26 : decode cX5_setOf 26 = .ok (.iload 4, 2) := by decide +kernel
theorem dX5_setOf_28 : decode cX5_setOf 28 = .ok (.iaload, 1) := by decide +kernel
theorem dX5_setOf_29 : decode cX5_setOf 29 = .ok (.ishl, 1) := by decide +kernel
theorem dX5_setOf_30 : decode cX5_setOf 30 = .ok (.goto 4, 3) := by decide +kernel
theorem dX5_setOf_33 : decode cX5_setOf 33 = .ok (.iconst 0, 1) := by decide +kernel
theorem dX5_setOf_34 : decode cX5_setOf 34 = .ok (.ior, 1) := by decide +kernel
theorem dX5_setOf_35 : decode cX5_setOf 35 = .ok (.istore_n 3, 1) := by decide +kernel
theorem dX5_setOf_36 : decode cX5_setOf 36 = .ok (.iinc 4 1, 3) := by decide +kernel
theorem dX5_setOf_39 : decode cX5_setOf 39 = .ok (.goto (-34), 3) := by decide +kernel
theorem dX5_setOf_42 : decode cX5_setOf 42 = .ok (.iload_n 3, 1) := by decide +kernel
theorem dX5_setOf_43 : decode cX5_setOf 43 = .ok (.ireturn, 1) := by decide +kernel
set_option maxRecDepth 20000 in
theorem ggX5_best_X5_in : GoodIn wsX5_best wsX5_in := goodIn_r _ [9] (by decide +kernel) (by decide +kernel)
set_option maxRecDepth 20000 in
theorem gX5_best_X5_in : GoodIn wsX5_best (va_wsS RX5 55 yX5_in wsX5_in) := goodIn_app (goodIn_of _ (by decide +kernel)) ggX5_best_X5_in
set_option maxRecDepth 20000 in
theorem ggX5_best_X5_mayBe : GoodIn wsX5_best wsX5_mayBe := goodIn_r _ [13, 14, 15, 16, 49, 50, 51, 52, 53, 54, 55, 56, 57, 58, 59, 60, 61, 62, 63, 64, 65, 66, 67] (by decide +kernel) (by decide +kernel)
set_option maxRecDepth 20000 in
theorem gX5_best_X5_mayBe : GoodIn wsX5_best (wsV RX5 124 RX5 yX5_mayBe wsX5_mayBe) := goodIn_app (goodIn_of _ (by decide +kernel)) ggX5_best_X5_mayBe
set_option maxRecDepth 20000 in
theorem ggX5_best_X5_setOf : GoodIn wsX5_best wsX5_setOf := goodIn_r _ [20, 3, 21, 22, 8, 23, 49, 50, 51, 52, 53, 54, 55, 56, 57, 58, 59, 60, 61, 62, 63, 64, 65, 66, 67] (by decide +kernel) (by decide +kernel)
set_option maxRecDepth 20000 in
theorem gX5_best_X5_setOf : GoodIn wsX5_best (wsV RX5 140 RX5 yX5_setOf wsX5_setOf) := goodIn_app (goodIn_of _ (by decide +kernel)) ggX5_best_X5_setOf
set_option maxRecDepth 20000 in
theorem ggX5_best_X5_reachOfSet : GoodIn wsX5_best wsX5_reachOfSet := goodIn_r _ [27, 2, 21, 22, 8, 23, 28, 29, 30, 31, 15, 32, 49, 50, 51, 52, 53, 54, 55, 56, 57, 58, 59, 60, 61, 62, 63, 64, 65, 66, 67] (by decide +kernel) (by decide +kernel)
set_option maxRecDepth 20000 in
theorem gX5_best_X5_reachOfSet : GoodIn wsX5_best (wsV RX5 119 RX5 yX5_reachOfSet wsX5_reachOfSet) := goodIn_app (goodIn_of _ (by decide +kernel)) ggX5_best_X5_reachOfSet
set_option maxRecDepth 20000 in
theorem ggX5_best_X5_bits : GoodIn wsX5_best wsX5_bits := goodIn_r _ [35] (by decide +kernel) (by decide +kernel)
set_option maxRecDepth 20000 in
theorem gX5_best_X5_bits : GoodIn wsX5_best (va_wsS RX5 91 yX5_bits wsX5_bits) := goodIn_app (goodIn_of _ (by decide +kernel)) ggX5_best_X5_bits
set_option maxRecDepth 20000 in
theorem ggX5_best_X5_timeOfSet : GoodIn wsX5_best wsX5_timeOfSet := goodIn_r _ [39, 2, 21, 22, 8, 23, 40, 41, 42, 43, 14, 44, 49, 50, 51, 52, 53, 54, 55, 56, 57, 58, 59, 60, 61, 62, 63, 64, 65, 66, 67] (by decide +kernel) (by decide +kernel)
set_option maxRecDepth 20000 in
theorem gX5_best_X5_timeOfSet : GoodIn wsX5_best (wsV RX5 127 RX5 yX5_timeOfSet wsX5_timeOfSet) := goodIn_app (goodIn_of _ (by decide +kernel)) ggX5_best_X5_timeOfSet
set_option maxRecDepth 20000 in
theorem ggX5_best_X5_has : GoodIn wsX5_best wsX5_has := goodIn_r _ [23] (by decide +kernel) (by decide +kernel)
set_option maxRecDepth 20000 in
theorem gX5_best_X5_has : GoodIn wsX5_best (va_wsS RX5 112 yX5_has wsX5_has) := goodIn_app (goodIn_of _ (by decide +kernel)) ggX5_best_X5_has
set_option maxRecDepth 20000 in
theorem ggX5_best_X5_chainOf : GoodIn wsX5_best wsX5_chainOf := goodIn_r _ [48, 16, 49, 50, 51, 52, 53, 54, 55, 56, 57, 58, 59, 60, 61, 62, 63, 64, 65, 66, 67] (by decide +kernel) (by decide +kernel)
set_option maxRecDepth 20000 in
theorem gX5_best_X5_chainOf : GoodIn wsX5_best (wsV RX5 88 RX5 yX5_chainOf wsX5_chainOf) := goodIn_app (goodIn_of _ (by decide +kernel)) ggX5_best_X5_chainOf
theorem dX5_best_0 : decode cX5_best 0 = .ok (.iload_n 1, 1) := by decide +kernel
theorem dX5_best_1 : decode cX5_best 1 = .ok (.iconst 0, 1) := by decide +kernel
theorem dX5_best_2 : decode cX5_best 2 = .ok (.sipush 30000, 3) := by decide +kernel
theorem dX5_best_5 : decode cX5_best 5 = .ok (.invokestatic 55, 3) := by decide +kernel
theorem dX5_best_8 : decode cX5_best 8 = .ok (.ifCond .ne 5, 3) := by decide +kernel
theorem dX5_best_11 : decode cX5_best 11 = .ok (.iconst (-1), 1) := by decide +kernel
theorem dX5_best_12 : decode cX5_best 12 = .ok (.ireturn, 1) := by decide +kernel
theorem dX5_best_13 : decode cX5_best 13 = .ok (.aload_n 0, 1) := by decide +kernel
theorem dX5_best_14 : decode cX5_best 14 = .ok (.getfield 59, 3) := by decide +kernel
theorem dX5_best_17 : decode cX5_best 17 = .ok (.ifCond .ne 6, 3) := by decide +kernel
theorem dX5_best_20 : decode cX5_best 20 = .ok (.bipush (-4), 2) := by decide +kernel
theorem dX5_best_22 : decode cX5_best 22 = .ok (.ireturn, 1) := by decide +kernel
theorem dX5_best_23 : decode cX5_best 23 = .ok (.iconst 0, 1) := by decide +kernel
theorem dX5_best_24 : decode cX5_best 24 = .ok (.istore_n 2, 1) := by decide +kernel
theorem dX5_best_25 : decode cX5_best 25 = .ok (.iconst 0, 1) := by decide +kernel
theorem dX5_best_26 : decode cX5_best 26 = .ok (.istore_n 3, 1) := by decide +kernel
theorem dX5_best_27 : decode cX5_best 27 = .ok (.iload_n 3, 1) := by decide +kernel
theorem dX5_best_28 : decode cX5_best 28 = .ok (.aload_n 0, 1) := by decide +kernel
theorem dX5_best_29 : decode cX5_best 29 = .ok (.getfield 52, 3) := by decide +kernel
theorem dX5_best_32 : decode cX5_best 32 = .ok (.if_icmp .ge 27, 3) := by decide +kernel
theorem dX5_best_35 : decode cX5_best 35 = .ok (.aload_n 0, 1) := by decide +kernel
theorem dX5_best_36 : decode cX5_best 36 = .ok (.iload_n 3, 1) := by decide +kernel
theorem dX5_best_37 : decode cX5_best 37 = .ok (.invokevirtual 124, 3) := by decide +kernel
theorem dX5_best_40 : decode cX5_best 40 = .ok (.ifCond .eq 13, 3) := by decide +kernel
theorem dX5_best_43 : decode cX5_best 43 = .ok (.aload_n 0, 1) := by decide +kernel
theorem dX5_best_44 : decode cX5_best 44 = .ok (.getfield 46, 3) := by decide +kernel
theorem dX5_best_47 : decode cX5_best 47 = .ok (.iload_n 2, 1) := by decide +kernel
theorem dX5_best_48 : decode cX5_best 48 = .ok (.iload_n 3, 1) := by decide +kernel
theorem dX5_best_49 : decode cX5_best 49 = .ok (.iastore, 1) := by decide +kernel
theorem dX5_best_50 : decode cX5_best 50 = .ok (.iinc 2 1, 3) := by decide +kernel
theorem dX5_best_53 : decode cX5_best 53 = .ok (.iinc 3 1, 3) := by decide +kernel
theorem dX5_best_56 : decode cX5_best 56 = .ok (.goto (-29), 3) := by decide +kernel
theorem dX5_best_59 : decode cX5_best 59 = .ok (.iload_n 2, 1) := by decide +kernel
theorem dX5_best_60 : decode cX5_best 60 = .ok (.bipush 12, 2) := by decide +kernel
theorem dX5_best_62 : decode cX5_best 62 = .ok (.if_icmp .le 6, 3) := by decide +kernel
theorem dX5_best_65 : decode cX5_best 65 = .ok (.bipush (-6), 2) := by decide +kernel
theorem dX5_best_67 : decode cX5_best 67 = .ok (.ireturn, 1) := by decide +kernel
theorem dX5_best_68 : decode cX5_best 68 = .ok (.iconst 0, 1) := by decide +kernel
theorem dX5_best_69 : decode cX5_best 69 = .ok (.istore_n 3, 1) := by decide +kernel
theorem dX5_best_70 : decode cX5_best 70 = .ok (.iconst 0, 1) := by decide +kernel
theorem dX5_best_71 : decode cX5_best 71 = .ok (.istore 4, 2) := by decide +kernel
theorem dX5_best_73 : decode cX5_best 73 = .ok (.iconst 0, 1) := by decide +kernel
theorem dX5_best_74 : decode cX5_best 74 = .ok (.istore 5, 2) := by decide +kernel
theorem dX5_best_76 : decode cX5_best 76 = .ok (.iconst 1, 1) := by decide +kernel
theorem dX5_best_77 : decode cX5_best 77 = .ok (.istore 6, 2) := by decide +kernel
theorem dX5_best_79 : decode cX5_best 79 = .ok (.iload 6, 2) := by decide +kernel
theorem dX5_best_81 : decode cX5_best 81 = .ok (.iconst 1, 1) := by decide +kernel
theorem dX5_best_82 : decode cX5_best 82 = .ok (.iload_n 2, 1) := by decide +kernel
theorem dX5_best_83 : decode cX5_best 83 = .ok (.ishl, 1) := by decide +kernel
theorem dX5_best_84 : decode cX5_best 84 = .ok (.if_icmp .ge 153, 3) := by decide +kernel
theorem dX5_best_87 : decode cX5_best 87 = .ok (.aload_n 0, 1) := by decide +kernel
theorem dX5_best_88 : decode cX5_best 88 = .ok (.iload 6, 2) := by decide +kernel
theorem dX5_best_90 : decode cX5_best 90 = .ok (.iload_n 2, 1) := by decide +kernel
theorem dX5_best_91 : decode cX5_best 91 = .ok (.invokevirtual 140, 3) := by decide +kernel
theorem dX5_best_94 : decode cX5_best 94 = .ok (.istore 7, 2) := by decide +kernel
theorem dX5_best_96 : decode cX5_best 96 = .ok (.aload_n 0, 1) := by decide +kernel
theorem dX5_best_97 : decode cX5_best 97 = .ok (.iload 7, 2) := by decide +kernel
theorem dX5_best_99 : decode cX5_best 99 = .ok (.invokevirtual 119, 3) := by decide +kernel
theorem dX5_best_102 : decode cX5_best 102 = .ok (.aload_n 0, 1) := by decide +kernel
theorem dX5_best_103 : decode cX5_best 103 = .ok (.getfield 29, 3) := by decide +kernel
theorem dX5_best_106 : decode cX5_best 106 = .ok (.aload_n 0, 1) := by decide +kernel
theorem dX5_best_107 : decode cX5_best 107 = .ok (.getfield 59, 3) := by decide +kernel
theorem dX5_best_110 : decode cX5_best 110 = .ok (.iconst 1, 1) := by decide +kernel
theorem dX5_best_111 : decode cX5_best 111 = .ok (.isub, 1) := by decide +kernel
theorem dX5_best_112 : decode cX5_best 112 = .ok (.laload, 1) := by decide +kernel
theorem dX5_best_113 : decode cX5_best 113 = .ok (.land, 1) := by decide +kernel
theorem dX5_best_114 : decode cX5_best 114 = .ok (.invokestatic 91, 3) := by decide +kernel
theorem dX5_best_117 : decode cX5_best 117 = .ok (.istore 8, 2) := by decide +kernel
theorem dX5_best_119 : decode cX5_best 119 = .ok (.aload_n 0, 1) := by decide +kernel
theorem dX5_best_120 : decode cX5_best 120 = .ok (.iload 7, 2) := by decide +kernel
theorem dX5_best_122 : decode cX5_best 122 = .ok (.invokevirtual 127, 3) := by decide +kernel
theorem dX5_best_125 : decode cX5_best 125 = .ok (.istore 9, 2) := by decide +kernel
theorem dX5_best_127 : decode cX5_best 127 = .ok (.iload 9, 2) := by decide +kernel
theorem dX5_best_129 : decode cX5_best 129 = .ok (.iload_n 1, 1) := by decide +kernel
theorem dX5_best_130 : decode cX5_best 130 = .ok (.if_icmp .gt 7, 3) := by decide +kernel
theorem dX5_best_133 : decode cX5_best 133 = .ok (.iconst 1, 1) := by decide +kernel
theorem dX5_best_134 : decode cX5_best 134 = .ok (.goto 4, 3) := by decide +kernel
theorem dX5_best_137 : decode cX5_best 137 = .ok (.iconst 0, 1) := by decide +kernel
theorem dX5_best_138 : decode cX5_best 138 = .ok (.istore 10, 2) := by decide +kernel
theorem dX5_best_140 : decode cX5_best 140 = .ok (.iconst 0, 1) := by decide +kernel
theorem dX5_best_141 : decode cX5_best 141 = .ok (.istore 11, 2) := by decide +kernel
theorem dX5_best_143 : decode cX5_best 143 = .ok (.iload 11, 2) := by decide +kernel
theorem dX5_best_145 : decode cX5_best 145 = .ok (.aload_n 0, 1) := by decide +kernel
theorem dX5_best_146 : decode cX5_best 146 = .ok (.getfield 52, 3) := by decide +kernel
theorem dX5_best_149 : decode cX5_best 149 = .ok (.if_icmp .ge 45, 3) := by decide +kernel
theorem dX5_best_152 : decode cX5_best 152 = .ok (.iload 10, 2) := by decide +kernel
theorem dX5_best_154 : decode cX5_best 154 = .ok (.ifCond .eq 40, 3) := by decide +kernel
theorem dX5_best_157 : decode cX5_best 157 = .ok (.iload 7, 2) := by decide +kernel
theorem dX5_best_159 : decode cX5_best 159 = .ok (.iload 11, 2) := by decide +kernel
theorem dX5_best_161 : decode cX5_best 161 = .ok (.invokestatic 112, 3) := by decide +kernel
theorem dX5_best_164 : decode cX5_best 164 = .ok (.ifCond .eq 17, 3) := by decide +kernel
theorem dX5_best_167 : decode cX5_best 167 = .ok (.aload_n 0, 1) := by decide +kernel
theorem dX5_best_168 : decode cX5_best 168 = .ok (.iload 11, 2) := by decide +kernel
theorem dX5_best_170 : decode cX5_best 170 = .ok (.invokevirtual 88, 3) := by decide +kernel
theorem dX5_best_173 : decode cX5_best 173 = .ok (.iload 7, 2) := by decide +kernel
theorem dX5_best_175 : decode cX5_best 175 = .ok (.iconst (-1), 1) := by decide +kernel
theorem dX5_best_176 : decode cX5_best 176 = .ok (.ixor, 1) := by decide +kernel
theorem dX5_best_177 : decode cX5_best 177 = .ok (.iand, 1) := by decide +kernel
theorem dX5_best_178 : decode cX5_best 178 = .ok (.ifCond .ne 7, 3) := by decide +kernel
theorem dX5_best_181 : decode cX5_best 181 = .ok (.iconst 1, 1) := by decide +kernel
theorem dX5_best_182 : decode cX5_best 182 = .ok (.goto 4, 3) := by decide +kernel
theorem dX5_best_185 : decode cX5_best 185 = .ok (.iconst 0, 1) := by decide +kernel
theorem dX5_best_186 : decode cX5_best 186 = .ok (.istore 10, 2) := by decide +kernel
theorem dX5_best_188 : decode cX5_best 188 = .ok (.iinc 11 1, 3) := by decide +kernel
theorem dX5_best_191 : decode cX5_best 191 = .ok (.goto (-48), 3) := by decide +kernel
theorem dX5_best_194 : decode cX5_best 194 = .ok (.iload 10, 2) := by decide +kernel
theorem dX5_best_196 : decode cX5_best 196 = .ok (.ifCond .eq 35, 3) := by decide +kernel
theorem dX5_best_199 : decode cX5_best 199 = .ok (.iload 8, 2) := by decide +kernel
theorem dX5_best_201 : decode cX5_best 201 = .ok (.iload 4, 2) := by decide +kernel
theorem dX5_best_203 : decode cX5_best 203 = .ok (.if_icmp .gt 17, 3) := by decide +kernel
theorem dX5_best_206 : decode cX5_best 206 = .ok (.iload 8, 2) := by decide +kernel
theorem dX5_best_208 : decode cX5_best 208 = .ok (.iload 4, 2) := by decide +kernel
theorem dX5_best_210 : decode cX5_best 210 = .ok (.if_icmp .ne 21, 3) := by decide +kernel
theorem dX5_best_213 : decode cX5_best 213 = .ok (.iload 9, 2) := by decide +kernel
theorem dX5_best_215 : decode cX5_best 215 = .ok (.iload 5, 2) := by decide +kernel
theorem dX5_best_217 : decode cX5_best 217 = .ok (.if_icmp .ge 14, 3) := by decide +kernel
theorem dX5_best_220 : decode cX5_best 220 = .ok (.iload 7, 2) := by decide +kernel
theorem dX5_best_222 : decode cX5_best 222 = .ok (.istore_n 3, 1) := by decide +kernel
theorem dX5_best_223 : decode cX5_best 223 = .ok (.iload 8, 2) := by decide +kernel
theorem dX5_best_225 : decode cX5_best 225 = .ok (.istore 4, 2) := by decide +kernel
theorem dX5_best_227 : decode cX5_best 227 = .ok (.iload 9, 2) := by decide +kernel
theorem dX5_best_229 : decode cX5_best 229 = .ok (.istore 5, 2) := by decide +kernel
theorem dX5_best_231 : decode cX5_best 231 = .ok (.iinc 6 1, 3) := by decide +kernel
theorem dX5_best_234 : decode cX5_best 234 = .ok (.goto (-155), 3) := by decide +kernel
theorem dX5_best_237 : decode cX5_best 237 = .ok (.aload_n 0, 1) := by decide +kernel
theorem dX5_best_238 : decode cX5_best 238 = .ok (.iload_n 3, 1) := by decide +kernel
theorem dX5_best_239 : decode cX5_best 239 = .ok (.i2l, 1) := by decide +kernel
theorem dX5_best_240 : decode cX5_best 240 = .ok (.putfield 108, 3) := by decide +kernel
theorem dX5_best_243 : decode cX5_best 243 = .ok (.iload 4, 2) := by decide +kernel
theorem dX5_best_245 : decode cX5_best 245 = .ok (.ireturn, 1) := by decide +kernel
theorem dX5_areTests_0 : decode cX5_areTests 0 = .ok (.iload_n 1, 1) := by decide +kernel
theorem dX5_areTests_1 : decode cX5_areTests 1 = .ok (.ifCond .lt 16, 3) := by decide +kernel
theorem dX5_areTests_4 : decode cX5_areTests 4 = .ok (.iload_n 1, 1) := by decide +kernel
theorem dX5_areTests_5 : decode cX5_areTests 5 = .ok (.aload_n 0, 1) := by decide +kernel
theorem dX5_areTests_6 : decode cX5_areTests 6 = .ok (.getfield 52, 3) := by decide +kernel
theorem dX5_areTests_9 : decode cX5_areTests 9 = .ok (.ishr, 1) := by decide +kernel
theorem dX5_areTests_10 : decode cX5_areTests 10 = .ok (.ifCond .ne 7, 3) := by decide +kernel
theorem dX5_areTests_13 : decode cX5_areTests 13 = .ok (.iconst 1, 1) := by decide +kernel
theorem dX5_areTests_14 : decode cX5_areTests 14 = .ok (.goto 4, 3) := by decide +kernel
theorem dX5_areTests_17 : decode cX5_areTests 17 = .ok (.iconst 0, 1) := by decide +kernel
theorem dX5_areTests_18 : decode cX5_areTests 18 = .ok (.ireturn, 1) := by decide +kernel
set_option maxRecDepth 20000 in
theorem ggX5_run_X5_areTests : GoodIn wsX5_run wsX5_areTests := goodIn_r _ [7, 8, 23, 24, 25, 26, 27, 28, 29, 30, 31, 32, 33, 34, 35, 36, 37, 38, 39, 40, 41] (by decide +kernel) (by decide +kernel)
set_option maxRecDepth 20000 in
theorem gX5_run_X5_areTests : GoodIn wsX5_run (wsV RX5 143 RX5 yX5_areTests wsX5_areTests) := goodIn_app (goodIn_of _ (by decide +kernel)) ggX5_run_X5_areTests
set_option maxRecDepth 20000 in
theorem ggX5_run_X5_chainOf : GoodIn wsX5_run wsX5_chainOf := goodIn_r _ [12, 13, 23, 24, 25, 26, 27, 28, 29, 30, 31, 32, 33, 34, 35, 36, 37, 38, 39, 40, 41] (by decide +kernel) (by decide +kernel)
set_option maxRecDepth 20000 in
theorem gX5_run_X5_chainOf : GoodIn wsX5_run (wsV RX5 88 RX5 yX5_chainOf wsX5_chainOf) := goodIn_app (goodIn_of _ (by decide +kernel)) ggX5_run_X5_chainOf
set_option maxRecDepth 20000 in
theorem ggX5_run_X5_has : GoodIn wsX5_run wsX5_has := goodIn_r _ [16] (by decide +kernel) (by decide +kernel)
set_option maxRecDepth 20000 in
theorem gX5_run_X5_has : GoodIn wsX5_run (va_wsS RX5 112 yX5_has wsX5_has) := goodIn_app (goodIn_of _ (by decide +kernel)) ggX5_run_X5_has
set_option maxRecDepth 20000 in
theorem ggX5_run_X5_judge : GoodIn wsX5_run wsX5_judge := goodIn_r _ [20, 21, 22, 23, 24, 25, 26, 27, 28, 29, 30, 31, 32, 33, 34, 35, 36, 37, 38, 39, 40, 41] (by decide +kernel) (by decide +kernel)
set_option maxRecDepth 20000 in
theorem gX5_run_X5_judge : GoodIn wsX5_run (wsV RX5 101 RX5 yX5_judge wsX5_judge) := goodIn_app (goodIn_of _ (by decide +kernel)) ggX5_run_X5_judge
theorem dX5_run_0 : decode cX5_run 0 = .ok (.aload_n 0, 1) := by decide +kernel
theorem dX5_run_1 : decode cX5_run 1 = .ok (.iload_n 1, 1) := by decide +kernel
theorem dX5_run_2 : decode cX5_run 2 = .ok (.invokevirtual 143, 3) := by decide +kernel
theorem dX5_run_5 : decode cX5_run 5 = .ok (.ifCond .ne 5, 3) := by decide +kernel
theorem dX5_run_8 : decode cX5_run 8 = .ok (.iconst (-1), 1) := by decide +kernel
theorem dX5_run_9 : decode cX5_run 9 = .ok (.ireturn, 1) := by decide +kernel
theorem dX5_run_10 : decode cX5_run 10 = .ok (.aload_n 0, 1) := by decide +kernel
theorem dX5_run_11 : decode cX5_run 11 = .ok (.getfield 39, 3) := by decide +kernel
theorem dX5_run_14 : decode cX5_run 14 = .ok (.ifCond .ge 6, 3) := by decide +kernel
theorem dX5_run_17 : decode cX5_run 17 = .ok (.bipush (-4), 2) := by decide +kernel
theorem dX5_run_19 : decode cX5_run 19 = .ok (.ireturn, 1) := by decide +kernel
theorem dX5_run_20 : decode cX5_run 20 = .ok (.iconst 0, 1) := by decide +kernel
theorem dX5_run_21 : decode cX5_run 21 = .ok (.istore_n 2, 1) := by decide +kernel
theorem dX5_run_22 : decode cX5_run 22 = .ok (.iconst 0, 1) := by decide +kernel
theorem dX5_run_23 : decode cX5_run 23 = .ok (.istore_n 3, 1) := by decide +kernel
theorem dX5_run_24 : decode cX5_run 24 = .ok (.iconst 0, 1) := by decide +kernel
theorem dX5_run_25 : decode cX5_run 25 = .ok (.istore 4, 2) := by decide +kernel
theorem dX5_run_27 : decode cX5_run 27 = .ok (.iload 4, 2) := by decide +kernel
theorem dX5_run_29 : decode cX5_run 29 = .ok (.aload_n 0, 1) := by decide +kernel
theorem dX5_run_30 : decode cX5_run 30 = .ok (.getfield 39, 3) := by decide +kernel
theorem dX5_run_33 : decode cX5_run 33 = .ok (.if_icmp .ge 66, 3) := by decide +kernel
theorem dX5_run_36 : decode cX5_run 36 = .ok (.aload_n 0, 1) := by decide +kernel
theorem dX5_run_37 : decode cX5_run 37 = .ok (.getfield 43, 3) := by decide +kernel
theorem dX5_run_40 : decode cX5_run 40 = .ok (.iload 4, 2) := by decide +kernel
theorem dX5_run_42 : decode cX5_run 42 = .ok (.iaload, 1) := by decide +kernel
theorem dX5_run_43 : decode cX5_run 43 = .ok (.istore 5, 2) := by decide +kernel
theorem dX5_run_45 : decode cX5_run 45 = .ok (.aload_n 0, 1) := by decide +kernel
theorem dX5_run_46 : decode cX5_run 46 = .ok (.iload 5, 2) := by decide +kernel
theorem dX5_run_48 : decode cX5_run 48 = .ok (.invokevirtual 88, 3) := by decide +kernel
theorem dX5_run_51 : decode cX5_run 51 = .ok (.iload_n 2, 1) := by decide +kernel
theorem dX5_run_52 : decode cX5_run 52 = .ok (.iand, 1) := by decide +kernel
theorem dX5_run_53 : decode cX5_run 53 = .ok (.ifCond .ne 40, 3) := by decide +kernel
theorem dX5_run_56 : decode cX5_run 56 = .ok (.aload_n 0, 1) := by decide +kernel
theorem dX5_run_57 : decode cX5_run 57 = .ok (.iload 5, 2) := by decide +kernel
theorem dX5_run_59 : decode cX5_run 59 = .ok (.iload_n 1, 1) := by decide +kernel
theorem dX5_run_60 : decode cX5_run 60 = .ok (.iload 5, 2) := by decide +kernel
theorem dX5_run_62 : decode cX5_run 62 = .ok (.invokestatic 112, 3) := by decide +kernel
theorem dX5_run_65 : decode cX5_run 65 = .ok (.invokevirtual 101, 3) := by decide +kernel
theorem dX5_run_68 : decode cX5_run 68 = .ok (.istore 6, 2) := by decide +kernel
theorem dX5_run_70 : decode cX5_run 70 = .ok (.iload_n 2, 1) := by decide +kernel
theorem dX5_run_71 : decode cX5_run 71 = .ok (.iload_n 1, 1) := by decide +kernel
theorem dX5_run_72 : decode cX5_run 72 = .ok (.iload 5, 2) := by decide +kernel
theorem dX5_run_74 : decode cX5_run 74 = .ok (.invokestatic 112, 3) := by decide +kernel
theorem dX5_run_77 : decode cX5_run 77 = .ok (.ifCond .eq 10, 3) := by decide +kernel
theorem dX5_run_80 : decode cX5_run 80 = .ok (.iconst 1, 1) := by decide +kernel
theorem dX5_run_81 : decode cX5_run 81 = .ok (.iload 5, 2) := by decide +kernel
theorem dX5_run_83 : decode cX5_run 83 = .ok (.ishl, 1) := by decide +kernel
theorem dX5_run_84 : decode cX5_run 84 = .ok (.goto 4, 3) := by decide +kernel
theorem dX5_run_87 : decode cX5_run 87 = .ok (.iconst 0, 1) := by decide +kernel
theorem dX5_run_88 : decode cX5_run 88 = .ok (.ior, 1) := by decide +kernel
theorem dX5_run_89 : decode cX5_run 89 = .ok (.istore_n 2, 1) := by decide +kernel
theorem dX5_run_90 : decode cX5_run 90 = .ok (.iinc 3 1, 3) := by decide +kernel
theorem dX5_run_93 : decode cX5_run 93 = .ok (.iinc 4 1, 3) := by decide +kernel
theorem dX5_run_96 : decode cX5_run 96 = .ok (.goto (-69), 3) := by decide +kernel
theorem dX5_run_99 : decode cX5_run 99 = .ok (.iload_n 3, 1) := by decide +kernel
theorem dX5_run_100 : decode cX5_run 100 = .ok (.ireturn, 1) := by decide +kernel
set_option maxRecDepth 20000 in
theorem ggX5_suspects_X5_isFlaky : GoodIn wsX5_suspects wsX5_isFlaky := goodIn_r _ [11, 1, 4, 3, 12, 13, 14, 10, 15, 16, 17, 21, 22, 23, 24, 25, 26, 27, 28, 29, 30, 31, 32, 33, 34, 35, 36, 37, 38, 39] (by decide +kernel) (by decide +kernel)
set_option maxRecDepth 20000 in
theorem gX5_suspects_X5_isFlaky : GoodIn wsX5_suspects (wsV RX5 76 RX5 yX5_isFlaky wsX5_isFlaky) := goodIn_app (goodIn_of _ (by decide +kernel)) ggX5_suspects_X5_isFlaky
set_option maxRecDepth 20000 in
theorem ggX5_suspects_X5_reachOf : GoodIn wsX5_suspects wsX5_reachOf := goodIn_r _ [15, 16, 17, 21, 22, 23, 24, 25, 26, 27, 28, 29, 30, 31, 32, 33, 34, 35, 36, 37, 38, 39] (by decide +kernel) (by decide +kernel)
set_option maxRecDepth 20000 in
theorem gX5_suspects_X5_reachOf : GoodIn wsX5_suspects (wsV RX5 72 RX5 yX5_reachOf wsX5_reachOf) := goodIn_app (goodIn_of _ (by decide +kernel)) ggX5_suspects_X5_reachOf
set_option maxRecDepth 20000 in
theorem ggX5_suspects_X5_bits : GoodIn wsX5_suspects wsX5_bits := goodIn_r _ [20] (by decide +kernel) (by decide +kernel)
set_option maxRecDepth 20000 in
theorem gX5_suspects_X5_bits : GoodIn wsX5_suspects (va_wsS RX5 91 yX5_bits wsX5_bits) := goodIn_app (goodIn_of _ (by decide +kernel)) ggX5_suspects_X5_bits
theorem dX5_suspects_0 : decode cX5_suspects 0 = .ok (.aload_n 0, 1) := by decide +kernel
theorem dX5_suspects_1 : decode cX5_suspects 1 = .ok (.getfield 59, 3) := by decide +kernel
theorem dX5_suspects_4 : decode cX5_suspects 4 = .ok (.ifCond .ne 6, 3) := by decide +kernel
theorem dX5_suspects_7 : decode cX5_suspects 7 = .ok (.bipush (-4), 2) := by decide +kernel
theorem dX5_suspects_9 : decode cX5_suspects 9 = .ok (.ireturn, 1) := by decide +kernel
theorem dX5_suspects_10 : decode cX5_suspects 10 = .ok (.lconst 0, 1) := by decide +kernel
theorem dX5_suspects_11 : decode cX5_suspects 11 = .ok (.lstore_n 1, 1) := by decide +kernel
theorem dX5_suspects_12 : decode cX5_suspects 12 = .ok (.lconst 0, 1) := by decide +kernel
theorem dX5_suspects_13 : decode cX5_suspects 13 = .ok (.lstore_n 3, 1) := by decide +kernel
theorem dX5_suspects_14 : decode cX5_suspects 14 = .ok (.iconst 0, 1) := by decide +kernel
theorem dX5_suspects_15 : decode cX5_suspects 15 = .ok (.istore 5, 2) := by decide +kernel
theorem dX5_suspects_17 : decode cX5_suspects 17 = .ok (.iload 5, 2) := by decide +kernel
theorem dX5_suspects_19 : decode cX5_suspects 19 = .ok (.aload_n 0, 1) := by decide +kernel
theorem dX5_suspects_20 : decode cX5_suspects 20 = .ok (.getfield 52, 3) := by decide +kernel
theorem dX5_suspects_23 : decode cX5_suspects 23 = .ok (.if_icmp .ge 74, 3) := by decide +kernel
theorem dX5_suspects_26 : decode cX5_suspects 26 = .ok (.aload_n 0, 1) := by decide +kernel
theorem dX5_suspects_27 : decode cX5_suspects 27 = .ok (.getfield 33, 3) := by decide +kernel
theorem dX5_suspects_30 : decode cX5_suspects 30 = .ok (.bipush 20, 2) := by decide +kernel
theorem dX5_suspects_32 : decode cX5_suspects 32 = .ok (.aload_n 0, 1) := by decide +kernel
theorem dX5_suspects_33 : decode cX5_suspects 33 = .ok (.getfield 59, 3) := by decide +kernel
theorem dX5_suspects_36 : decode cX5_suspects 36 = .ok (.iconst 1, 1) := by decide +kernel
theorem dX5_suspects_37 : decode cX5_suspects 37 = .ok (.isub, 1) := by decide +kernel
theorem dX5_suspects_38 : decode cX5_suspects 38 = .ok (.imul, 1) := by decide +kernel
theorem dX5_suspects_39 : decode cX5_suspects 39 = .ok (.iload 5, 2) := by decide +kernel
theorem dX5_suspects_41 : decode cX5_suspects 41 = .ok (.iadd, 1) := by decide +kernel
theorem dX5_suspects_42 : decode cX5_suspects 42 = .ok (.iaload, 1) := by decide +kernel
theorem dX5_suspects_43 : decode cX5_suspects 43 = .ok (.istore 6, 2) := by decide +kernel
theorem dX5_suspects_45 : decode cX5_suspects 45 = .ok (.lload_n 1, 1) := by decide +kernel
theorem dX5_suspects_46 : decode cX5_suspects 46 = .ok (.iload 6, 2) := by decide +kernel
theorem dX5_suspects_48 : decode cX5_suspects 48 = .ok (.iconst 1, 1) := by decide +kernel
theorem dX5_suspects_49 : decode cX5_suspects 49 = .ok (.if_icmp .ne 21, 3) := by decide +kernel
theorem dX5_suspects_52 : decode cX5_suspects 52 = .ok (.aload_n 0, 1) := by decide +kernel
theorem dX5_suspects_53 : decode cX5_suspects 53 = .ok (.iload 5, 2) := by decide +kernel
theorem dX5_suspects_55 : decode cX5_suspects 55 = .ok (.invokevirtual 76, 3) := by decide +kernel
theorem dX5_suspects_58 : decode cX5_suspects 58 = .ok (.ifCond .ne 12, 3) := by decide +kernel
theorem dX5_suspects_61 : decode cX5_suspects 61 = .ok (.aload_n 0, 1) := by decide +kernel
theorem dX5_suspects_62 : decode cX5_suspects 62 = .ok (.iload 5, 2) := by decide +kernel
theorem dX5_suspects_64 : decode cX5_suspects 64 = .ok (.invokevirtual 72, 3) := by decide +kernel
theorem dX5_suspects_67 : decode cX5_suspects 67 = .ok (.goto 4, 3) := by decide +kernel
theorem dX5_suspects_70 : decode cX5_suspects 70 = .ok (.lconst 0, 1) := by decide +kernel
theorem dX5_suspects_71 : decode cX5_suspects 71 = .ok (.lor, 1) := by decide +kernel
theorem dX5_suspects_72 : decode cX5_suspects 72 = .ok (.lstore_n 1, 1) := by decide +kernel
theorem dX5_suspects_73 : decode cX5_suspects 73 = .ok (.lload_n 3, 1) := by decide +kernel
theorem dX5_suspects_74 : decode cX5_suspects 74 = .ok (.iload 6, 2) := by decide +kernel
theorem dX5_suspects_76 : decode cX5_suspects 76 = .ok (.ifCond .ne 12, 3) := by decide +kernel
theorem dX5_suspects_79 : decode cX5_suspects 79 = .ok (.aload_n 0, 1) := by decide +kernel
theorem dX5_suspects_80 : decode cX5_suspects 80 = .ok (.iload 5, 2) := by decide +kernel
theorem dX5_suspects_82 : decode cX5_suspects 82 = .ok (.invokevirtual 72, 3) := by decide +kernel
theorem dX5_suspects_85 : decode cX5_suspects 85 = .ok (.goto 4, 3) := by decide +kernel
theorem dX5_suspects_88 : decode cX5_suspects 88 = .ok (.lconst 0, 1) := by decide +kernel
theorem dX5_suspects_89 : decode cX5_suspects 89 = .ok (.lor, 1) := by decide +kernel
theorem dX5_suspects_90 : decode cX5_suspects 90 = .ok (.lstore_n 3, 1) := by decide +kernel
theorem dX5_suspects_91 : decode cX5_suspects 91 = .ok (.iinc 5 1, 3) := by decide +kernel
theorem dX5_suspects_94 : decode cX5_suspects 94 = .ok (.goto (-77), 3) := by decide +kernel
theorem dX5_suspects_97 : decode cX5_suspects 97 = .ok (.aload_n 0, 1) := by decide +kernel
theorem dX5_suspects_98 : decode cX5_suspects 98 = .ok (.aload_n 0, 1) := by decide +kernel
theorem dX5_suspects_99 : decode cX5_suspects 99 = .ok (.getfield 29, 3) := by decide +kernel
theorem dX5_suspects_102 : decode cX5_suspects 102 = .ok (.aload_n 0, 1) := by decide +kernel
theorem dX5_suspects_103 : decode cX5_suspects 103 = .ok (.getfield 59, 3) := by decide +kernel
theorem dX5_suspects_106 : decode cX5_suspects 106 = .ok (.iconst 1, 1) := by decide +kernel
theorem dX5_suspects_107 : decode cX5_suspects 107 = .ok (.isub, 1) := by decide +kernel
theorem dX5_suspects_108 : decode cX5_suspects 108 = .ok (.laload, 1) := by decide +kernel
theorem dX5_suspects_109 : decode cX5_suspects 109 = .ok (.lload_n 1, 1) := by decide +kernel
theorem dX5_suspects_110 : decode cX5_suspects 110 = .ok (.land, 1) := by decide +kernel
theorem dX5_suspects_111 : decode cX5_suspects 111 = .ok (.lload_n 3, 1) := by decide +kernel
theorem dX5_suspects_112 : decode cX5_suspects 112 = .ok (.ldc2_w 122, 3) := by decide +kernel
theorem dX5_suspects_115 : decode cX5_suspects 115 = .ok (.lxor, 1) := by decide +kernel
theorem dX5_suspects_116 : decode cX5_suspects 116 = .ok (.land, 1) := by decide +kernel
theorem dX5_suspects_117 : decode cX5_suspects 117 = .ok (.putfield 108, 3) := by decide +kernel
theorem dX5_suspects_120 : decode cX5_suspects 120 = .ok (.aload_n 0, 1) := by decide +kernel
theorem dX5_suspects_121 : decode cX5_suspects 121 = .ok (.getfield 108, 3) := by decide +kernel
theorem dX5_suspects_124 : decode cX5_suspects 124 = .ok (.invokestatic 91, 3) := by decide +kernel
theorem dX5_suspects_127 : decode cX5_suspects 127 = .ok (.ireturn, 1) := by decide +kernel
set_option maxRecDepth 20000 in
theorem ggX5_badWork_X5_isFlaky : GoodIn wsX5_badWork wsX5_isFlaky := goodIn_r _ [8, 1, 9, 3, 10, 11, 12, 7, 13, 14, 15, 16, 17, 18, 19, 20, 21, 22, 23, 24, 25, 26, 27, 28, 29, 30, 31, 32, 33, 34] (by decide +kernel) (by decide +kernel)
set_option maxRecDepth 20000 in
theorem gX5_badWork_X5_isFlaky : GoodIn wsX5_badWork (wsV RX5 76 RX5 yX5_isFlaky wsX5_isFlaky) := goodIn_app (goodIn_of _ (by decide +kernel)) ggX5_badWork_X5_isFlaky
theorem dX5_badWork_0 : decode cX5_badWork 0 = .ok (.aload_n 0, 1) := by decide +kernel
theorem dX5_badWork_1 : decode cX5_badWork 1 = .ok (.getfield 59, 3) := by decide +kernel
theorem dX5_badWork_4 : decode cX5_badWork 4 = .ok (.ifCond .ne 6, 3) := by decide +kernel
theorem dX5_badWork_7 : decode cX5_badWork 7 = .ok (.bipush (-4), 2) := by decide +kernel
theorem dX5_badWork_9 : decode cX5_badWork 9 = .ok (.ireturn, 1) := by decide +kernel
theorem dX5_badWork_10 : decode cX5_badWork 10 = .ok (.iconst 0, 1) := by decide +kernel
theorem dX5_badWork_11 : decode cX5_badWork 11 = .ok (.istore_n 1, 1) := by decide +kernel
theorem dX5_badWork_12 : decode cX5_badWork 12 = .ok (.iconst 0, 1) := by decide +kernel
theorem dX5_badWork_13 : decode cX5_badWork 13 = .ok (.istore_n 2, 1) := by decide +kernel
theorem dX5_badWork_14 : decode cX5_badWork 14 = .ok (.iload_n 2, 1) := by decide +kernel
theorem dX5_badWork_15 : decode cX5_badWork 15 = .ok (.aload_n 0, 1) := by decide +kernel
theorem dX5_badWork_16 : decode cX5_badWork 16 = .ok (.getfield 52, 3) := by decide +kernel
theorem dX5_badWork_19 : decode cX5_badWork 19 = .ok (.if_icmp .ge 47, 3) := by decide +kernel
theorem dX5_badWork_22 : decode cX5_badWork 22 = .ok (.iload_n 1, 1) := by decide +kernel
theorem dX5_badWork_23 : decode cX5_badWork 23 = .ok (.ifCond .ne 31, 3) := by decide +kernel
theorem dX5_badWork_26 : decode cX5_badWork 26 = .ok (.aload_n 0, 1) := by decide +kernel
theorem dX5_badWork_27 : decode cX5_badWork 27 = .ok (.getfield 33, 3) := by decide +kernel
theorem dX5_badWork_30 : decode cX5_badWork 30 = .ok (.bipush 20, 2) := by decide +kernel
theorem dX5_badWork_32 : decode cX5_badWork 32 = .ok (.aload_n 0, 1) := by decide +kernel
theorem dX5_badWork_33 : decode cX5_badWork 33 = .ok (.getfield 59, 3) := by decide +kernel
theorem dX5_badWork_36 : decode cX5_badWork 36 = .ok (.iconst 1, 1) := by decide +kernel
theorem dX5_badWork_37 : decode cX5_badWork 37 = .ok (.isub, 1) := by decide +kernel
theorem dX5_badWork_38 : decode cX5_badWork 38 = .ok (.imul, 1) := by decide +kernel
theorem dX5_badWork_39 : decode cX5_badWork 39 = .ok (.iload_n 2, 1) := by decide +kernel
theorem dX5_badWork_40 : decode cX5_badWork 40 = .ok (.iadd, 1) := by decide +kernel
theorem dX5_badWork_41 : decode cX5_badWork 41 = .ok (.iaload, 1) := by decide +kernel
theorem dX5_badWork_42 : decode cX5_badWork 42 = .ok (.iconst 1, 1) := by decide +kernel
theorem dX5_badWork_43 : decode cX5_badWork 43 = .ok (.if_icmp .ne 15, 3) := by decide +kernel
theorem dX5_badWork_46 : decode cX5_badWork 46 = .ok (.aload_n 0, 1) := by decide +kernel
theorem dX5_badWork_47 : decode cX5_badWork 47 = .ok (.iload_n 2, 1) := by decide +kernel
theorem dX5_badWork_48 : decode cX5_badWork 48 = .ok (.invokevirtual 76, 3) := by decide +kernel
theorem dX5_badWork_51 : decode cX5_badWork 51 = .ok (.ifCond .ne 7, 3) := by decide +kernel
theorem dX5_badWork_54 : decode cX5_badWork 54 = .ok (.iconst 1, 1) := by decide +kernel
theorem dX5_badWork_55 : decode cX5_badWork 55 = .ok (.goto 4, 3) := by decide +kernel
theorem dX5_badWork_58 : decode cX5_badWork 58 = .ok (.iconst 0, 1) := by decide +kernel
theorem dX5_badWork_59 : decode cX5_badWork 59 = .ok (.istore_n 1, 1) := by decide +kernel
theorem dX5_badWork_60 : decode cX5_badWork 60 = .ok (.iinc 2 1, 3) := by decide +kernel
theorem dX5_badWork_63 : decode cX5_badWork 63 = .ok (.goto (-49), 3) := by decide +kernel
theorem dX5_badWork_66 : decode cX5_badWork 66 = .ok (.iload_n 1, 1) := by decide +kernel
theorem dX5_badWork_67 : decode cX5_badWork 67 = .ok (.ifCond .eq 7, 3) := by decide +kernel
theorem dX5_badWork_70 : decode cX5_badWork 70 = .ok (.iconst 1, 1) := by decide +kernel
theorem dX5_badWork_71 : decode cX5_badWork 71 = .ok (.goto 4, 3) := by decide +kernel
theorem dX5_badWork_74 : decode cX5_badWork 74 = .ok (.iconst 0, 1) := by decide +kernel
theorem dX5_badWork_75 : decode cX5_badWork 75 = .ok (.ireturn, 1) := by decide +kernel
set_option maxRecDepth 20000 in
theorem ggX5_fellOf_X5_has : GoodIn wsX5_fellOf wsX5_has := goodIn_r _ [6] (by decide +kernel) (by decide +kernel)
set_option maxRecDepth 20000 in
theorem gX5_fellOf_X5_has : GoodIn wsX5_fellOf (va_wsS RX5 112 yX5_has wsX5_has) := goodIn_app (goodIn_of _ (by decide +kernel)) ggX5_fellOf_X5_has
theorem dX5_fellOf_0 : decode cX5_fellOf 0 = .ok (.iconst 0, 1) := by decide +kernel
theorem dX5_fellOf_1 : decode cX5_fellOf 1 = .ok (.istore_n 3, 1) := by decide +kernel
theorem dX5_fellOf_2 : decode cX5_fellOf 2 = .ok (.iconst 0, 1) := by decide +kernel
theorem dX5_fellOf_3 : decode cX5_fellOf 3 = .ok (.istore 4, 2) := by decide +kernel
theorem dX5_fellOf_5 : decode cX5_fellOf 5 = .ok (.iload 4, 2) := by decide +kernel
theorem dX5_fellOf_7 : decode cX5_fellOf 7 = .ok (.aload_n 0, 1) := by decide +kernel
theorem dX5_fellOf_8 : decode cX5_fellOf 8 = .ok (.getfield 52, 3) := by decide +kernel
theorem dX5_fellOf_11 : decode cX5_fellOf 11 = .ok (.if_icmp .ge 45, 3) := by decide +kernel
theorem dX5_fellOf_14 : decode cX5_fellOf 14 = .ok (.iload_n 3, 1) := by decide +kernel
theorem dX5_fellOf_15 : decode cX5_fellOf 15 = .ok (.iload_n 2, 1) := by decide +kernel
theorem dX5_fellOf_16 : decode cX5_fellOf 16 = .ok (.iload 4, 2) := by decide +kernel
theorem dX5_fellOf_18 : decode cX5_fellOf 18 = .ok (.invokestatic 112, 3) := by decide +kernel
theorem dX5_fellOf_21 : decode cX5_fellOf 21 = .ok (.ifCond .eq 26, 3) := by decide +kernel
theorem dX5_fellOf_24 : decode cX5_fellOf 24 = .ok (.aload_n 0, 1) := by decide +kernel
theorem dX5_fellOf_25 : decode cX5_fellOf 25 = .ok (.getfield 33, 3) := by decide +kernel
theorem dX5_fellOf_28 : decode cX5_fellOf 28 = .ok (.bipush 20, 2) := by decide +kernel
theorem dX5_fellOf_30 : decode cX5_fellOf 30 = .ok (.iload_n 1, 1) := by decide +kernel
theorem dX5_fellOf_31 : decode cX5_fellOf 31 = .ok (.imul, 1) := by decide +kernel
theorem dX5_fellOf_32 : decode cX5_fellOf 32 = .ok (.iload 4, 2) := by decide +kernel
theorem dX5_fellOf_34 : decode cX5_fellOf 34 = .ok (.iadd, 1) := by decide +kernel
theorem dX5_fellOf_35 : decode cX5_fellOf 35 = .ok (.iaload, 1) := by decide +kernel
theorem dX5_fellOf_36 : decode cX5_fellOf 36 = .ok (.iconst 1, 1) := by decide +kernel
theorem dX5_fellOf_37 : decode cX5_fellOf 37 = .ok (.if_icmp .ne 10, 3) := by decide +kernel
theorem dX5_fellOf_40 : decode cX5_fellOf 40 = .ok (.iconst 1, 1) := by decide +kernel
theorem dX5_fellOf_41 : decode cX5_fellOf 41 = .ok (.iload 4, 2) := by decide +kernel
theorem dX5_fellOf_43 : decode cX5_fellOf 43 = .ok (.ishl, 1) := by decide +kernel
theorem dX5_fellOf_44 : decode cX5_fellOf 44 = .ok (.goto 4, 3) := by decide +kernel
theorem dX5_fellOf_47 : decode cX5_fellOf 47 = .ok (.iconst 0, 1) := by decide +kernel
theorem dX5_fellOf_48 : decode cX5_fellOf 48 = .ok (.ior, 1) := by decide +kernel
theorem dX5_fellOf_49 : decode cX5_fellOf 49 = .ok (.istore_n 3, 1) := by decide +kernel
theorem dX5_fellOf_50 : decode cX5_fellOf 50 = .ok (.iinc 4 1, 3) := by decide +kernel
theorem dX5_fellOf_53 : decode cX5_fellOf 53 = .ok (.goto (-48), 3) := by decide +kernel
theorem dX5_fellOf_56 : decode cX5_fellOf 56 = .ok (.iload_n 3, 1) := by decide +kernel
theorem dX5_fellOf_57 : decode cX5_fellOf 57 = .ok (.ireturn, 1) := by decide +kernel
set_option maxRecDepth 20000 in
theorem ggX5_counting_X5_isFlaky : GoodIn wsX5_counting wsX5_isFlaky := goodIn_r _ [7, 8, 9, 10, 11, 12, 13, 6, 14, 15, 16, 17, 18, 19, 20, 21, 22, 23, 24, 25, 26, 27, 28, 29, 30, 31, 32, 33, 34, 35] (by decide +kernel) (by decide +kernel)
set_option maxRecDepth 20000 in
theorem gX5_counting_X5_isFlaky : GoodIn wsX5_counting (wsV RX5 76 RX5 yX5_isFlaky wsX5_isFlaky) := goodIn_app (goodIn_of _ (by decide +kernel)) ggX5_counting_X5_isFlaky
theorem dX5_counting_0 : decode cX5_counting 0 = .ok (.iconst 0, 1) := by decide +kernel
theorem dX5_counting_1 : decode cX5_counting 1 = .ok (.istore_n 1, 1) := by decide +kernel
theorem dX5_counting_2 : decode cX5_counting 2 = .ok (.iconst 0, 1) := by decide +kernel
theorem dX5_counting_3 : decode cX5_counting 3 = .ok (.istore_n 2, 1) := by decide +kernel
theorem dX5_counting_4 : decode cX5_counting 4 = .ok (.iload_n 2, 1) := by decide +kernel
theorem dX5_counting_5 : decode cX5_counting 5 = .ok (.aload_n 0, 1) := by decide +kernel
theorem dX5_counting_6 : decode cX5_counting 6 = .ok (.getfield 52, 3) := by decide +kernel
theorem dX5_counting_9 : decode cX5_counting 9 = .ok (.if_icmp .ge 37, 3) := by decide +kernel
theorem dX5_counting_12 : decode cX5_counting 12 = .ok (.iload_n 1, 1) := by decide +kernel
theorem dX5_counting_13 : decode cX5_counting 13 = .ok (.aload_n 0, 1) := by decide +kernel
theorem dX5_counting_14 : decode cX5_counting 14 = .ok (.getfield 13, 3) := by decide +kernel
theorem dX5_counting_17 : decode cX5_counting 17 = .ok (.iload_n 2, 1) := by decide +kernel
theorem dX5_counting_18 : decode cX5_counting 18 = .ok (.iaload, 1) := by decide +kernel
theorem dX5_counting_19 : decode cX5_counting 19 = .ok (.iconst 3, 1) := by decide +kernel
theorem dX5_counting_20 : decode cX5_counting 20 = .ok (.if_icmp .eq 17, 3) := by decide +kernel
theorem dX5_counting_23 : decode cX5_counting 23 = .ok (.aload_n 0, 1) := by decide +kernel
theorem dX5_counting_24 : decode cX5_counting 24 = .ok (.iload_n 2, 1) := by decide +kernel
theorem dX5_counting_25 : decode cX5_counting 25 = .ok (.invokevirtual 76, 3) := by decide +kernel
theorem dX5_counting_28 : decode cX5_counting 28 = .ok (.ifCond .ne 9, 3) := by decide +kernel
theorem dX5_counting_31 : decode cX5_counting 31 = .ok (.iconst 1, 1) := by decide +kernel
theorem dX5_counting_32 : decode cX5_counting 32 = .ok (.iload_n 2, 1) := by decide +kernel
theorem dX5_counting_33 : decode cX5_counting 33 = .ok (.ishl, 1) := by decide +kernel
theorem dX5_counting_34 : decode cX5_counting 34 = .ok (.goto 4, 3) := by decide +kernel
theorem dX5_counting_37 : decode cX5_counting 37 = .ok (.iconst 0, 1) := by decide +kernel
theorem dX5_counting_38 : decode cX5_counting 38 = .ok (.ior, 1) := by decide +kernel
theorem dX5_counting_39 : decode cX5_counting 39 = .ok (.istore_n 1, 1) := by decide +kernel
theorem dX5_counting_40 : decode cX5_counting 40 = .ok (.iinc 2 1, 3) := by decide +kernel
theorem dX5_counting_43 : decode cX5_counting 43 = .ok (.goto (-39), 3) := by decide +kernel
theorem dX5_counting_46 : decode cX5_counting 46 = .ok (.iload_n 1, 1) := by decide +kernel
theorem dX5_counting_47 : decode cX5_counting 47 = .ok (.ireturn, 1) := by decide +kernel
set_option maxRecDepth 20000 in
theorem ggX5_fewest_X5_counting : GoodIn wsX5_fewest wsX5_counting := goodIn_r _ [9, 2, 10, 11, 12, 13, 8, 14, 1, 15, 16, 17, 18, 19, 20, 21, 22, 46, 47, 48, 49, 50, 51, 52, 53, 54, 55, 56, 57, 58, 59, 60, 61, 62, 63, 64] (by decide +kernel) (by decide +kernel)
set_option maxRecDepth 20000 in
theorem gX5_fewest_X5_counting : GoodIn wsX5_fewest (wsV RX5 146 RX5 yX5_counting wsX5_counting) := goodIn_app (goodIn_of _ (by decide +kernel)) ggX5_fewest_X5_counting
set_option maxRecDepth 20000 in
theorem ggX5_fewest_X5_fellOf : GoodIn wsX5_fewest wsX5_fellOf := goodIn_r _ [26, 2, 16, 27, 28, 8, 29, 46, 47, 48, 49, 50, 51, 52, 53, 54, 55, 56, 57, 58, 59, 60, 61, 62, 63, 64] (by decide +kernel) (by decide +kernel)
set_option maxRecDepth 20000 in
theorem gX5_fewest_X5_fellOf : GoodIn wsX5_fewest (wsV RX5 150 RX5 yX5_fellOf wsX5_fellOf) := goodIn_app (goodIn_of _ (by decide +kernel)) ggX5_fewest_X5_fellOf
set_option maxRecDepth 20000 in
theorem ggX5_fewest_X5_has : GoodIn wsX5_fewest wsX5_has := goodIn_r _ [29] (by decide +kernel) (by decide +kernel)
set_option maxRecDepth 20000 in
theorem gX5_fewest_X5_has : GoodIn wsX5_fewest (va_wsS RX5 112 yX5_has wsX5_has) := goodIn_app (goodIn_of _ (by decide +kernel)) ggX5_fewest_X5_has
set_option maxRecDepth 20000 in
theorem ggX5_fewest_X5_setOf : GoodIn wsX5_fewest wsX5_setOf := goodIn_r _ [33, 3, 27, 28, 8, 29, 46, 47, 48, 49, 50, 51, 52, 53, 54, 55, 56, 57, 58, 59, 60, 61, 62, 63, 64] (by decide +kernel) (by decide +kernel)
set_option maxRecDepth 20000 in
theorem gX5_fewest_X5_setOf : GoodIn wsX5_fewest (wsV RX5 140 RX5 yX5_setOf wsX5_setOf) := goodIn_app (goodIn_of _ (by decide +kernel)) ggX5_fewest_X5_setOf
set_option maxRecDepth 20000 in
theorem ggX5_fewest_X5_bits : GoodIn wsX5_fewest wsX5_bits := goodIn_r _ [36] (by decide +kernel) (by decide +kernel)
set_option maxRecDepth 20000 in
theorem gX5_fewest_X5_bits : GoodIn wsX5_fewest (va_wsS RX5 91 yX5_bits wsX5_bits) := goodIn_app (goodIn_of _ (by decide +kernel)) ggX5_fewest_X5_bits
set_option maxRecDepth 20000 in
theorem ggX5_fewest_X5_timeOfSet : GoodIn wsX5_fewest wsX5_timeOfSet := goodIn_r _ [40, 2, 27, 28, 8, 29, 41, 42, 43, 44, 10, 45, 46, 47, 48, 49, 50, 51, 52, 53, 54, 55, 56, 57, 58, 59, 60, 61, 62, 63, 64] (by decide +kernel) (by decide +kernel)
set_option maxRecDepth 20000 in
theorem gX5_fewest_X5_timeOfSet : GoodIn wsX5_fewest (wsV RX5 127 RX5 yX5_timeOfSet wsX5_timeOfSet) := goodIn_app (goodIn_of _ (by decide +kernel)) ggX5_fewest_X5_timeOfSet
theorem dX5_fewest_0 : decode cX5_fewest 0 = .ok (.aload_n 0, 1) := by decide +kernel
theorem dX5_fewest_1 : decode cX5_fewest 1 = .ok (.invokevirtual 146, 3) := by decide +kernel
theorem dX5_fewest_4 : decode cX5_fewest 4 = .ok (.istore_n 1, 1) := by decide +kernel
theorem dX5_fewest_5 : decode cX5_fewest 5 = .ok (.iconst 0, 1) := by decide +kernel
theorem dX5_fewest_6 : decode cX5_fewest 6 = .ok (.istore_n 2, 1) := by decide +kernel
theorem dX5_fewest_7 : decode cX5_fewest 7 = .ok (.iconst 0, 1) := by decide +kernel
theorem dX5_fewest_8 : decode cX5_fewest 8 = .ok (.istore_n 3, 1) := by decide +kernel
theorem dX5_fewest_9 : decode cX5_fewest 9 = .ok (.iload_n 3, 1) := by decide +kernel
theorem dX5_fewest_10 : decode cX5_fewest 10 = .ok (.aload_n 0, 1) := by decide +kernel
theorem dX5_fewest_11 : decode cX5_fewest 11 = .ok (.getfield 59, 3) := by decide +kernel
theorem dX5_fewest_14 : decode cX5_fewest 14 = .ok (.if_icmp .ge 18, 3) := by decide +kernel
theorem dX5_fewest_17 : decode cX5_fewest 17 = .ok (.iload_n 2, 1) := by decide +kernel
theorem dX5_fewest_18 : decode cX5_fewest 18 = .ok (.aload_n 0, 1) := by decide +kernel
theorem dX5_fewest_19 : decode cX5_fewest 19 = .ok (.iload_n 3, 1) := by decide +kernel
theorem dX5_fewest_20 : decode cX5_fewest 20 = .ok (.iload_n 1, 1) := by decide +kernel
theorem dX5_fewest_21 : decode cX5_fewest 21 = .ok (.invokevirtual 150, 3) := by decide +kernel
theorem dX5_fewest_24 : decode cX5_fewest 24 = .ok (.ior, 1) := by decide +kernel
theorem dX5_fewest_25 : decode cX5_fewest 25 = .ok (.istore_n 2, 1) := by decide +kernel
theorem dX5_fewest_26 : decode cX5_fewest 26 = .ok (.iinc 3 1, 3) := by decide +kernel
theorem dX5_fewest_29 : decode cX5_fewest 29 = .ok (.goto (-20), 3) := by decide +kernel
theorem dX5_fewest_32 : decode cX5_fewest 32 = .ok (.iconst 0, 1) := by decide +kernel
theorem dX5_fewest_33 : decode cX5_fewest 33 = .ok (.istore_n 3, 1) := by decide +kernel
theorem dX5_fewest_34 : decode cX5_fewest 34 = .ok (.iconst 0, 1) := by decide +kernel
theorem dX5_fewest_35 : decode cX5_fewest 35 = .ok (.istore 4, 2) := by decide +kernel
theorem dX5_fewest_37 : decode cX5_fewest 37 = .ok (.iload 4, 2) := by decide +kernel
theorem dX5_fewest_39 : decode cX5_fewest 39 = .ok (.aload_n 0, 1) := by decide +kernel
theorem dX5_fewest_40 : decode cX5_fewest 40 = .ok (.getfield 52, 3) := by decide +kernel
theorem dX5_fewest_43 : decode cX5_fewest 43 = .ok (.if_icmp .ge 29, 3) := by decide +kernel
theorem dX5_fewest_46 : decode cX5_fewest 46 = .ok (.iload_n 2, 1) := by decide +kernel
theorem dX5_fewest_47 : decode cX5_fewest 47 = .ok (.iload 4, 2) := by decide +kernel
theorem dX5_fewest_49 : decode cX5_fewest 49 = .ok (.invokestatic 112, 3) := by decide +kernel
theorem dX5_fewest_52 : decode cX5_fewest 52 = .ok (.ifCond .eq 14, 3) := by decide +kernel
theorem dX5_fewest_55 : decode cX5_fewest 55 = .ok (.aload_n 0, 1) := by decide +kernel
theorem dX5_fewest_56 : decode cX5_fewest 56 = .ok (.getfield 46, 3) := by decide +kernel
theorem dX5_fewest_59 : decode cX5_fewest 59 = .ok (.iload_n 3, 1) := by decide +kernel
theorem dX5_fewest_60 : decode cX5_fewest 60 = .ok (.iload 4, 2) := by decide +kernel
theorem dX5_fewest_62 : decode cX5_fewest 62 = .ok (.iastore, 1) := by decide +kernel
theorem dX5_fewest_63 : decode cX5_fewest 63 = .ok (.iinc 3 1, 3) := by decide +kernel
theorem dX5_fewest_66 : decode cX5_fewest 66 = .ok (.iinc 4 1, 3) := by decide +kernel
theorem dX5_fewest_69 : decode cX5_fewest 69 = .ok (.goto (-32), 3) := by decide +kernel
theorem dX5_fewest_72 : decode cX5_fewest 72 = .ok (.iload_n 3, 1) := by decide +kernel
theorem dX5_fewest_73 : decode cX5_fewest 73 = .ok (.bipush 12, 2) := by decide +kernel
theorem dX5_fewest_75 : decode cX5_fewest 75 = .ok (.if_icmp .le 6, 3) := by decide +kernel
theorem dX5_fewest_78 : decode cX5_fewest 78 = .ok (.bipush (-6), 2) := by decide +kernel
theorem dX5_fewest_80 : decode cX5_fewest 80 = .ok (.ireturn, 1) := by decide +kernel
theorem dX5_fewest_81 : decode cX5_fewest 81 = .ok (.iload_n 2, 1) := by decide +kernel
theorem dX5_fewest_82 : decode cX5_fewest 82 = .ok (.istore 4, 2) := by decide +kernel
theorem dX5_fewest_84 : decode cX5_fewest 84 = .ok (.iconst 0, 1) := by decide +kernel
theorem dX5_fewest_85 : decode cX5_fewest 85 = .ok (.istore 5, 2) := by decide +kernel
theorem dX5_fewest_87 : decode cX5_fewest 87 = .ok (.iload 5, 2) := by decide +kernel
theorem dX5_fewest_89 : decode cX5_fewest 89 = .ok (.iconst 1, 1) := by decide +kernel
theorem dX5_fewest_90 : decode cX5_fewest 90 = .ok (.iload_n 3, 1) := by decide +kernel
theorem dX5_fewest_91 : decode cX5_fewest 91 = .ok (.ishl, 1) := by decide +kernel
theorem dX5_fewest_92 : decode cX5_fewest 92 = .ok (.if_icmp .ge 143, 3) := by decide +kernel
theorem dX5_fewest_95 : decode cX5_fewest 95 = .ok (.aload_n 0, 1) := by decide +kernel
theorem dX5_fewest_96 : decode cX5_fewest 96 = .ok (.iload 5, 2) := by decide +kernel
theorem dX5_fewest_98 : decode cX5_fewest 98 = .ok (.iload_n 3, 1) := by decide +kernel
theorem dX5_fewest_99 : decode cX5_fewest 99 = .ok (.invokevirtual 140, 3) := by decide +kernel
theorem dX5_fewest_102 : decode cX5_fewest 102 = .ok (.istore 6, 2) := by decide +kernel
theorem dX5_fewest_104 : decode cX5_fewest 104 = .ok (.iconst 1, 1) := by decide +kernel
theorem dX5_fewest_105 : decode cX5_fewest 105 = .ok (.istore 7, 2) := by decide +kernel
theorem dX5_fewest_107 : decode cX5_fewest 107 = .ok (.iconst 0, 1) := by decide +kernel
theorem dX5_fewest_108 : decode cX5_fewest 108 = .ok (.istore 8, 2) := by decide +kernel
theorem dX5_fewest_110 : decode cX5_fewest 110 = .ok (.iload 8, 2) := by decide +kernel
theorem dX5_fewest_112 : decode cX5_fewest 112 = .ok (.aload_n 0, 1) := by decide +kernel
theorem dX5_fewest_113 : decode cX5_fewest 113 = .ok (.getfield 59, 3) := by decide +kernel
theorem dX5_fewest_116 : decode cX5_fewest 116 = .ok (.if_icmp .ge 42, 3) := by decide +kernel
theorem dX5_fewest_119 : decode cX5_fewest 119 = .ok (.iload 7, 2) := by decide +kernel
theorem dX5_fewest_121 : decode cX5_fewest 121 = .ok (.ifCond .eq 37, 3) := by decide +kernel
theorem dX5_fewest_124 : decode cX5_fewest 124 = .ok (.aload_n 0, 1) := by decide +kernel
theorem dX5_fewest_125 : decode cX5_fewest 125 = .ok (.iload 8, 2) := by decide +kernel
theorem dX5_fewest_127 : decode cX5_fewest 127 = .ok (.iload_n 1, 1) := by decide +kernel
theorem dX5_fewest_128 : decode cX5_fewest 128 = .ok (.invokevirtual 150, 3) := by decide +kernel
theorem dX5_fewest_131 : decode cX5_fewest 131 = .ok (.ifCond .eq 14, 3) := by decide +kernel
theorem dX5_fewest_134 : decode cX5_fewest 134 = .ok (.aload_n 0, 1) := by decide +kernel
theorem dX5_fewest_135 : decode cX5_fewest 135 = .ok (.iload 8, 2) := by decide +kernel
theorem dX5_fewest_137 : decode cX5_fewest 137 = .ok (.iload 6, 2) := by decide +kernel
theorem dX5_fewest_139 : decode cX5_fewest 139 = .ok (.invokevirtual 150, 3) := by decide +kernel
theorem dX5_fewest_142 : decode cX5_fewest 142 = .ok (.ifCond .eq 7, 3) := by decide +kernel
theorem dX5_fewest_145 : decode cX5_fewest 145 = .ok (.iconst 1, 1) := by decide +kernel
theorem dX5_fewest_146 : decode cX5_fewest 146 = .ok (.goto 4, 3) := by decide +kernel
theorem dX5_fewest_149 : decode cX5_fewest 149 = .ok (.iconst 0, 1) := by decide +kernel
theorem dX5_fewest_150 : decode cX5_fewest 150 = .ok (.istore 7, 2) := by decide +kernel
theorem dX5_fewest_152 : decode cX5_fewest 152 = .ok (.iinc 8 1, 3) := by decide +kernel
theorem dX5_fewest_155 : decode cX5_fewest 155 = .ok (.goto (-45), 3) := by decide +kernel
theorem dX5_fewest_158 : decode cX5_fewest 158 = .ok (.iload 6, 2) := by decide +kernel
theorem dX5_fewest_160 : decode cX5_fewest 160 = .ok (.i2l, 1) := by decide +kernel
theorem dX5_fewest_161 : decode cX5_fewest 161 = .ok (.invokestatic 91, 3) := by decide +kernel
theorem dX5_fewest_164 : decode cX5_fewest 164 = .ok (.iload 4, 2) := by decide +kernel
theorem dX5_fewest_166 : decode cX5_fewest 166 = .ok (.i2l, 1) := by decide +kernel
theorem dX5_fewest_167 : decode cX5_fewest 167 = .ok (.invokestatic 91, 3) := by decide +kernel
theorem dX5_fewest_170 : decode cX5_fewest 170 = .ok (.isub, 1) := by decide +kernel
theorem dX5_fewest_171 : decode cX5_fewest 171 = .ok (.istore 8, 2) := by decide +kernel
theorem dX5_fewest_173 : decode cX5_fewest 173 = .ok (.iload 7, 2) := by decide +kernel
theorem dX5_fewest_175 : decode cX5_fewest 175 = .ok (.ifCond .eq 54, 3) := by decide +kernel
theorem dX5_fewest_178 : decode cX5_fewest 178 = .ok (.iload 8, 2) := by decide +kernel
theorem dX5_fewest_180 : decode cX5_fewest 180 = .ok (.ifCond .lt 45, 3) := by decide +kernel
theorem dX5_fewest_183 : decode cX5_fewest 183 = .ok (.iload 8, 2) := by decide +kernel
theorem dX5_fewest_185 : decode cX5_fewest 185 = .ok (.ifCond .ne 44, 3) := by decide +kernel
theorem dX5_fewest_188 : decode cX5_fewest 188 = .ok (.aload_n 0, 1) := by decide +kernel
theorem dX5_fewest_189 : decode cX5_fewest 189 = .ok (.iload 6, 2) := by decide +kernel
theorem dX5_fewest_191 : decode cX5_fewest 191 = .ok (.invokevirtual 127, 3) := by decide +kernel
theorem dX5_fewest_194 : decode cX5_fewest 194 = .ok (.aload_n 0, 1) := by decide +kernel
theorem dX5_fewest_195 : decode cX5_fewest 195 = .ok (.iload 4, 2) := by decide +kernel
theorem dX5_fewest_197 : decode cX5_fewest 197 = .ok (.invokevirtual 127, 3) := by decide +kernel
theorem dX5_fewest_200 : decode cX5_fewest 200 = .ok (.if_icmp .lt 25, 3) := by decide +kernel
theorem dX5_fewest_203 : decode cX5_fewest 203 = .ok (.aload_n 0, 1) := by decide +kernel
theorem dX5_fewest_204 : decode cX5_fewest 204 = .ok (.iload 6, 2) := by decide +kernel
theorem dX5_fewest_206 : decode cX5_fewest 206 = .ok (.invokevirtual 127, 3) := by decide +kernel
theorem dX5_fewest_209 : decode cX5_fewest 209 = .ok (.aload_n 0, 1) := by decide +kernel
theorem dX5_fewest_210 : decode cX5_fewest 210 = .ok (.iload 4, 2) := by decide +kernel
theorem dX5_fewest_212 : decode cX5_fewest 212 = .ok (.invokevirtual 127, 3) := by decide +kernel
theorem dX5_fewest_215 : decode cX5_fewest 215 = .ok (.if_icmp .ne 14, 3) := by decide +kernel
theorem dX5_fewest_218 : decode cX5_fewest 218 = .ok (.iload 6, 2) := by decide +kernel
theorem dX5_fewest_220 : decode cX5_fewest 220 = .ok (.iload 4, 2) := by decide +kernel
theorem dX5_fewest_222 : decode cX5_fewest 222 = .ok (.if_icmp .ge 7, 3) := by decide +kernel
theorem dX5_fewest_225 : decode cX5_fewest 225 = .ok (.iload 6, 2) := by decide +kernel
theorem dX5_fewest_227 : decode cX5_fewest 227 = .ok (.istore 4, 2) := by decide +kernel
theorem dX5_fewest_229 : decode cX5_fewest 229 = .ok (.iinc 5 1, 3) := by decide +kernel
theorem dX5_fewest_232 : decode cX5_fewest 232 = .ok (.goto (-145), 3) := by decide +kernel
theorem dX5_fewest_235 : decode cX5_fewest 235 = .ok (.aload_n 0, 1) := by decide +kernel
theorem dX5_fewest_236 : decode cX5_fewest 236 = .ok (.iload 4, 2) := by decide +kernel
theorem dX5_fewest_238 : decode cX5_fewest 238 = .ok (.i2l, 1) := by decide +kernel
theorem dX5_fewest_239 : decode cX5_fewest 239 = .ok (.putfield 108, 3) := by decide +kernel
theorem dX5_fewest_242 : decode cX5_fewest 242 = .ok (.iload 4, 2) := by decide +kernel
theorem dX5_fewest_244 : decode cX5_fewest 244 = .ok (.i2l, 1) := by decide +kernel
theorem dX5_fewest_245 : decode cX5_fewest 245 = .ok (.invokestatic 91, 3) := by decide +kernel
theorem dX5_fewest_248 : decode cX5_fewest 248 = .ok (.ireturn, 1) := by decide +kernel
set_option maxRecDepth 20000 in
theorem ggX5_missed_X5_areTests : GoodIn wsX5_missed wsX5_areTests := goodIn_r _ [6, 7, 32, 33, 34, 35, 36, 37, 38, 39, 40, 41, 42, 43, 44, 45, 46, 47, 48, 49, 50] (by decide +kernel) (by decide +kernel)
set_option maxRecDepth 20000 in
theorem gX5_missed_X5_areTests : GoodIn wsX5_missed (wsV RX5 143 RX5 yX5_areTests wsX5_areTests) := goodIn_app (goodIn_of _ (by decide +kernel)) ggX5_missed_X5_areTests
set_option maxRecDepth 20000 in
theorem ggX5_missed_X5_counting : GoodIn wsX5_missed wsX5_counting := goodIn_r _ [11, 7, 12, 13, 14, 15, 5, 16, 1, 17, 18, 19, 20, 21, 22, 23, 24, 32, 33, 34, 35, 36, 37, 38, 39, 40, 41, 42, 43, 44, 45, 46, 47, 48, 49, 50] (by decide +kernel) (by decide +kernel)
set_option maxRecDepth 20000 in
theorem gX5_missed_X5_counting : GoodIn wsX5_missed (wsV RX5 146 RX5 yX5_counting wsX5_counting) := goodIn_app (goodIn_of _ (by decide +kernel)) ggX5_missed_X5_counting
set_option maxRecDepth 20000 in
theorem ggX5_missed_X5_fellOf : GoodIn wsX5_missed wsX5_fellOf := goodIn_r _ [28, 7, 18, 29, 30, 5, 31, 32, 33, 34, 35, 36, 37, 38, 39, 40, 41, 42, 43, 44, 45, 46, 47, 48, 49, 50] (by decide +kernel) (by decide +kernel)
set_option maxRecDepth 20000 in
theorem gX5_missed_X5_fellOf : GoodIn wsX5_missed (wsV RX5 150 RX5 yX5_fellOf wsX5_fellOf) := goodIn_app (goodIn_of _ (by decide +kernel)) ggX5_missed_X5_fellOf
theorem dX5_missed_0 : decode cX5_missed 0 = .ok (.aload_n 0, 1) := by decide +kernel
theorem dX5_missed_1 : decode cX5_missed 1 = .ok (.iload_n 1, 1) := by decide +kernel
theorem dX5_missed_2 : decode cX5_missed 2 = .ok (.invokevirtual 143, 3) := by decide +kernel
theorem dX5_missed_5 : decode cX5_missed 5 = .ok (.ifCond .ne 5, 3) := by decide +kernel
theorem dX5_missed_8 : decode cX5_missed 8 = .ok (.iconst (-1), 1) := by decide +kernel
theorem dX5_missed_9 : decode cX5_missed 9 = .ok (.ireturn, 1) := by decide +kernel
theorem dX5_missed_10 : decode cX5_missed 10 = .ok (.aload_n 0, 1) := by decide +kernel
theorem dX5_missed_11 : decode cX5_missed 11 = .ok (.invokevirtual 146, 3) := by decide +kernel
theorem dX5_missed_14 : decode cX5_missed 14 = .ok (.istore_n 2, 1) := by decide +kernel
theorem dX5_missed_15 : decode cX5_missed 15 = .ok (.iconst 0, 1) := by decide +kernel
theorem dX5_missed_16 : decode cX5_missed 16 = .ok (.istore_n 3, 1) := by decide +kernel
theorem dX5_missed_17 : decode cX5_missed 17 = .ok (.iload_n 3, 1) := by decide +kernel
theorem dX5_missed_18 : decode cX5_missed 18 = .ok (.aload_n 0, 1) := by decide +kernel
theorem dX5_missed_19 : decode cX5_missed 19 = .ok (.getfield 59, 3) := by decide +kernel
theorem dX5_missed_22 : decode cX5_missed 22 = .ok (.if_icmp .ge 29, 3) := by decide +kernel
theorem dX5_missed_25 : decode cX5_missed 25 = .ok (.aload_n 0, 1) := by decide +kernel
theorem dX5_missed_26 : decode cX5_missed 26 = .ok (.iload_n 3, 1) := by decide +kernel
theorem dX5_missed_27 : decode cX5_missed 27 = .ok (.iload_n 2, 1) := by decide +kernel
theorem dX5_missed_28 : decode cX5_missed 28 = .ok (.invokevirtual 150, 3) := by decide +kernel
theorem dX5_missed_31 : decode cX5_missed 31 = .ok (.ifCond .eq 14, 3) := by decide +kernel
theorem dX5_missed_34 : decode cX5_missed 34 = .ok (.aload_n 0, 1) := by decide +kernel
theorem dX5_missed_35 : decode cX5_missed 35 = .ok (.iload_n 3, 1) := by decide +kernel
theorem dX5_missed_36 : decode cX5_missed 36 = .ok (.iload_n 1, 1) := by decide +kernel
theorem dX5_missed_37 : decode cX5_missed 37 = .ok (.invokevirtual 150, 3) := by decide +kernel
theorem dX5_missed_40 : decode cX5_missed 40 = .ok (.ifCond .ne 5, 3) := by decide +kernel
theorem dX5_missed_43 : decode cX5_missed 43 = .ok (.iload_n 3, 1) := by decide +kernel
theorem dX5_missed_44 : decode cX5_missed 44 = .ok (.ireturn, 1) := by decide +kernel
theorem dX5_missed_45 : decode cX5_missed 45 = .ok (.iinc 3 1, 3) := by decide +kernel
theorem dX5_missed_48 : decode cX5_missed 48 = .ok (.goto (-31), 3) := by decide +kernel
theorem dX5_missed_51 : decode cX5_missed 51 = .ok (.bipush (-9), 2) := by decide +kernel
theorem dX5_missed_53 : decode cX5_missed 53 = .ok (.ireturn, 1) := by decide +kernel
theorem dX5_asked_0 : decode cX5_asked 0 = .ok (.aload_n 0, 1) := by decide +kernel
theorem dX5_asked_1 : decode cX5_asked 1 = .ok (.getfield 108, 3) := by decide +kernel
theorem dX5_asked_4 : decode cX5_asked 4 = .ok (.lreturn, 1) := by decide +kernel
theorem dX5_count_0 : decode cX5_count 0 = .ok (.iconst 0, 1) := by decide +kernel
theorem dX5_count_1 : decode cX5_count 1 = .ok (.istore_n 2, 1) := by decide +kernel
theorem dX5_count_2 : decode cX5_count 2 = .ok (.iconst 0, 1) := by decide +kernel
theorem dX5_count_3 : decode cX5_count 3 = .ok (.istore_n 3, 1) := by decide +kernel
theorem dX5_count_4 : decode cX5_count 4 = .ok (.iload_n 3, 1) := by decide +kernel
theorem dX5_count_5 : decode cX5_count 5 = .ok (.bipush 20, 2) := by decide +kernel
theorem dX5_count_7 : decode cX5_count 7 = .ok (.aload_n 0, 1) := by decide +kernel
theorem dX5_count_8 : decode cX5_count 8 = .ok (.getfield 59, 3) := by decide +kernel
theorem dX5_count_11 : decode cX5_count 11 = .ok (.imul, 1) := by decide +kernel
theorem dX5_count_12 : decode cX5_count 12 = .ok (.if_icmp .ge 26, 3) := by decide +kernel
theorem dX5_count_15 : decode cX5_count 15 = .ok (.iload_n 2, 1) := by decide +kernel
theorem dX5_count_16 : decode cX5_count 16 = .ok (.aload_n 0, 1) := by decide +kernel
theorem dX5_count_17 : decode cX5_count 17 = .ok (.getfield 33, 3) := by decide +kernel
theorem dX5_count_20 : decode cX5_count 20 = .ok (.iload_n 3, 1) := by decide +kernel
theorem dX5_count_21 : decode cX5_count 21 = .ok (.iaload, 1) := by decide +kernel
theorem dX5_count_22 : decode cX5_count 22 = .ok (.ifCond .lt 7, 3) := by decide +kernel
theorem dX5_count_25 : decode cX5_count 25 = .ok (.iconst 1, 1) := by decide +kernel
theorem dX5_count_26 : decode cX5_count 26 = .ok (.goto 4, 3) := by decide +kernel
theorem dX5_count_29 : decode cX5_count 29 = .ok (.iconst 0, 1) := by decide +kernel
theorem dX5_count_30 : decode cX5_count 30 = .ok (.iadd, 1) := by decide +kernel
theorem dX5_count_31 : decode cX5_count 31 = .ok (.istore_n 2, 1) := by decide +kernel
theorem dX5_count_32 : decode cX5_count 32 = .ok (.iinc 3 1, 3) := by decide +kernel
theorem dX5_count_35 : decode cX5_count 35 = .ok (.goto (-31), 3) := by decide +kernel
theorem dX5_count_38 : decode cX5_count 38 = .ok (.iload_n 1, 1) := by decide +kernel
theorem dX5_count_39 : decode cX5_count 39 = .ok (.ifCond .ne 10, 3) := by decide +kernel
theorem dX5_count_42 : decode cX5_count 42 = .ok (.aload_n 0, 1) := by decide +kernel
theorem dX5_count_43 : decode cX5_count 43 = .ok (.getfield 52, 3) := by decide +kernel
theorem dX5_count_46 : decode cX5_count 46 = .ok (.goto 25, 3) := by decide +kernel
theorem dX5_count_49 : decode cX5_count 49 = .ok (.iload_n 1, 1) := by decide +kernel
theorem dX5_count_50 : decode cX5_count 50 = .ok (.iconst 1, 1) := by decide +kernel
theorem dX5_count_51 : decode cX5_count 51 = .ok (.if_icmp .ne 10, 3) := by decide +kernel
theorem dX5_count_54 : decode cX5_count 54 = .ok (.aload_n 0, 1) := by decide +kernel
theorem dX5_count_55 : decode cX5_count 55 = .ok (.getfield 59, 3) := by decide +kernel
theorem dX5_count_58 : decode cX5_count 58 = .ok (.goto 13, 3) := by decide +kernel
theorem dX5_count_61 : decode cX5_count 61 = .ok (.iload_n 1, 1) := by decide +kernel
theorem dX5_count_62 : decode cX5_count 62 = .ok (.iconst 2, 1) := by decide +kernel
theorem dX5_count_63 : decode cX5_count 63 = .ok (.if_icmp .ne 7, 3) := by decide +kernel
theorem dX5_count_66 : decode cX5_count 66 = .ok (.iload_n 2, 1) := by decide +kernel
theorem dX5_count_67 : decode cX5_count 67 = .ok (.goto 4, 3) := by decide +kernel
theorem dX5_count_70 : decode cX5_count 70 = .ok (.iconst (-1), 1) := by decide +kernel
theorem dX5_count_71 : decode cX5_count 71 = .ok (.ireturn, 1) := by decide +kernel
theorem dX5_finding_0 : decode cX5_finding 0 = .ok (.aload_n 0, 1) := by decide +kernel
theorem dX5_finding_1 : decode cX5_finding 1 = .ok (.getfield 49, 3) := by decide +kernel
theorem dX5_finding_4 : decode cX5_finding 4 = .ok (.ireturn, 1) := by decide +kernel
set_option maxRecDepth 20000 in
theorem ggX5_findings_X5_in : GoodIn wsX5_findings wsX5_in := goodIn_r _ [5] (by decide +kernel) (by decide +kernel)
set_option maxRecDepth 20000 in
theorem gX5_findings_X5_in : GoodIn wsX5_findings (va_wsS RX5 55 yX5_in wsX5_in) := goodIn_app (goodIn_of _ (by decide +kernel)) ggX5_findings_X5_in
theorem dX5_findings_0 : decode cX5_findings 0 = .ok (.iload_n 1, 1) := by decide +kernel
theorem dX5_findings_1 : decode cX5_findings 1 = .ok (.iconst 1, 1) := by decide +kernel
theorem dX5_findings_2 : decode cX5_findings 2 = .ok (.iconst 4, 1) := by decide +kernel
theorem dX5_findings_3 : decode cX5_findings 3 = .ok (.invokestatic 55, 3) := by decide +kernel
theorem dX5_findings_6 : decode cX5_findings 6 = .ok (.ifCond .eq 12, 3) := by decide +kernel
theorem dX5_findings_9 : decode cX5_findings 9 = .ok (.aload_n 0, 1) := by decide +kernel
theorem dX5_findings_10 : decode cX5_findings 10 = .ok (.getfield 7, 3) := by decide +kernel
theorem dX5_findings_13 : decode cX5_findings 13 = .ok (.iload_n 1, 1) := by decide +kernel
theorem dX5_findings_14 : decode cX5_findings 14 = .ok (.iaload, 1) := by decide +kernel
theorem dX5_findings_15 : decode cX5_findings 15 = .ok (.goto 4, 3) := by decide +kernel
theorem dX5_findings_18 : decode cX5_findings 18 = .ok (.iconst (-1), 1) := by decide +kernel
theorem dX5_findings_19 : decode cX5_findings 19 = .ok (.ireturn, 1) := by decide +kernel
set_option maxRecDepth 20000 in
theorem ggX5_digest_X5_tells : GoodIn wsX5_digest wsX5_tells := goodIn_r _ [13, 14, 15, 16, 17, 18, 12, 19, 20, 21, 22, 23, 24, 6, 8, 25, 26, 27, 28, 7, 29, 30, 31, 32, 4, 5, 33, 34, 35, 36, 37, 38, 39, 40, 41, 42, 43, 44, 45, 46, 47, 48, 49, 50, 51, 52, 53, 54, 55, 56, 57, 58, 59, 60, 61, 62] (by decide +kernel) (by decide +kernel)
set_option maxRecDepth 20000 in
theorem gX5_digest_X5_tells : GoodIn wsX5_digest (wsV RX5 95 RX5 yX5_tells wsX5_tells) := goodIn_app (goodIn_of _ (by decide +kernel)) ggX5_digest_X5_tells
theorem dX5_digest_0 : decode cX5_digest 0 = .ok (.ldc2_w 153, 3) := by decide +kernel
theorem dX5_digest_3 : decode cX5_digest 3 = .ok (.lstore_n 1, 1) := by decide +kernel
theorem dX5_digest_4 : decode cX5_digest 4 = .ok (.iconst 0, 1) := by decide +kernel
theorem dX5_digest_5 : decode cX5_digest 5 = .ok (.istore_n 3, 1) := by decide +kernel
theorem dX5_digest_6 : decode cX5_digest 6 = .ok (.iload_n 3, 1) := by decide +kernel
theorem dX5_digest_7 : decode cX5_digest 7 = .ok (.aload_n 0, 1) := by decide +kernel
theorem dX5_digest_8 : decode cX5_digest 8 = .ok (.getfield 52, 3) := by decide +kernel
theorem dX5_digest_11 : decode cX5_digest 11 = .ok (.if_icmp .ge 100, 3) := by decide +kernel
theorem dX5_digest_14 : decode cX5_digest 14 = .ok (.iconst 0, 1) := by decide +kernel
theorem dX5_digest_15 : decode cX5_digest 15 = .ok (.istore 4, 2) := by decide +kernel
theorem dX5_digest_17 : decode cX5_digest 17 = .ok (.iload 4, 2) := by decide +kernel
theorem dX5_digest_19 : decode cX5_digest 19 = .ok (.bipush 6, 2) := by decide +kernel
theorem dX5_digest_21 : decode cX5_digest 21 = .ok (.if_icmp .gt 24, 3) := by decide +kernel
theorem dX5_digest_24 : decode cX5_digest 24 = .ok (.ldc2_w 155, 3) := by decide +kernel
theorem dX5_digest_27 : decode cX5_digest 27 = .ok (.lload_n 1, 1) := by decide +kernel
theorem dX5_digest_28 : decode cX5_digest 28 = .ok (.lmul, 1) := by decide +kernel
theorem dX5_digest_29 : decode cX5_digest 29 = .ok (.aload_n 0, 1) := by decide +kernel
theorem dX5_digest_30 : decode cX5_digest 30 = .ok (.iload_n 3, 1) := by decide +kernel
theorem dX5_digest_31 : decode cX5_digest 31 = .ok (.iload 4, 2) := by decide +kernel
theorem dX5_digest_33 : decode cX5_digest 33 = .ok (.invokevirtual 95, 3) := by decide +kernel
theorem dX5_digest_36 : decode cX5_digest 36 = .ok (.i2l, 1) := by decide +kernel
theorem dX5_digest_37 : decode cX5_digest 37 = .ok (.ladd, 1) := by decide +kernel
theorem dX5_digest_38 : decode cX5_digest 38 = .ok (.lstore_n 1, 1) := by decide +kernel
theorem dX5_digest_39 : decode cX5_digest 39 = .ok (.iinc 4 1, 3) := by decide +kernel
theorem dX5_digest_42 : decode cX5_digest 42 = .ok (.goto (-25), 3) := by decide +kernel
theorem dX5_digest_45 : decode cX5_digest 45 = .ok (.aload_n 0, 1) := by decide +kernel
theorem dX5_digest_46 : decode cX5_digest 46 = .ok (.getfield 22, 3) := by decide +kernel
theorem dX5_digest_49 : decode cX5_digest 49 = .ok (.iload_n 3, 1) := by decide +kernel
theorem dX5_digest_50 : decode cX5_digest 50 = .ok (.baload, 1) := by decide +kernel
theorem dX5_digest_51 : decode cX5_digest 51 = .ok (.ifCond .eq 11, 3) := by decide +kernel
theorem dX5_digest_54 : decode cX5_digest 54 = .ok (.ldc2_w 155, 3) := by decide +kernel
theorem dX5_digest_57 : decode cX5_digest 57 = .ok (.lload_n 1, 1) := by decide +kernel
theorem dX5_digest_58 : decode cX5_digest 58 = .ok (.lmul, 1) := by decide +kernel
theorem dX5_digest_59 : decode cX5_digest 59 = .ok (.lconst 1, 1) := by decide +kernel
theorem dX5_digest_60 : decode cX5_digest 60 = .ok (.lsub, 1) := by decide +kernel
theorem dX5_digest_61 : decode cX5_digest 61 = .ok (.lstore_n 1, 1) := by decide +kernel
theorem dX5_digest_62 : decode cX5_digest 62 = .ok (.iconst 0, 1) := by decide +kernel
theorem dX5_digest_63 : decode cX5_digest 63 = .ok (.istore 4, 2) := by decide +kernel
theorem dX5_digest_65 : decode cX5_digest 65 = .ok (.iload 4, 2) := by decide +kernel
theorem dX5_digest_67 : decode cX5_digest 67 = .ok (.iconst 5, 1) := by decide +kernel
theorem dX5_digest_68 : decode cX5_digest 68 = .ok (.if_icmp .ge 37, 3) := by decide +kernel
theorem dX5_digest_71 : decode cX5_digest 71 = .ok (.aload_n 0, 1) := by decide +kernel
theorem dX5_digest_72 : decode cX5_digest 72 = .ok (.getfield 22, 3) := by decide +kernel
theorem dX5_digest_75 : decode cX5_digest 75 = .ok (.iload_n 3, 1) := by decide +kernel
theorem dX5_digest_76 : decode cX5_digest 76 = .ok (.baload, 1) := by decide +kernel
theorem dX5_digest_77 : decode cX5_digest 77 = .ok (.ifCond .ne 28, 3) := by decide +kernel
theorem dX5_digest_80 : decode cX5_digest 80 = .ok (.ldc2_w 155, 3) := by decide +kernel
theorem dX5_digest_83 : decode cX5_digest 83 = .ok (.lload_n 1, 1) := by decide +kernel
theorem dX5_digest_84 : decode cX5_digest 84 = .ok (.lmul, 1) := by decide +kernel
theorem dX5_digest_85 : decode cX5_digest 85 = .ok (.aload_n 0, 1) := by decide +kernel
theorem dX5_digest_86 : decode cX5_digest 86 = .ok (.getfield 26, 3) := by decide +kernel
theorem dX5_digest_89 : decode cX5_digest 89 = .ok (.iconst 5, 1) := by decide +kernel
theorem dX5_digest_90 : decode cX5_digest 90 = .ok (.iload_n 3, 1) := by decide +kernel
theorem dX5_digest_91 : decode cX5_digest 91 = .ok (.imul, 1) := by decide +kernel
theorem dX5_digest_92 : decode cX5_digest 92 = .ok (.iload 4, 2) := by decide +kernel
theorem dX5_digest_94 : decode cX5_digest 94 = .ok (.iadd, 1) := by decide +kernel
theorem dX5_digest_95 : decode cX5_digest 95 = .ok (.iaload, 1) := by decide +kernel
theorem dX5_digest_96 : decode cX5_digest 96 = .ok (.i2l, 1) := by decide +kernel
theorem dX5_digest_97 : decode cX5_digest 97 = .ok (.ladd, 1) := by decide +kernel
theorem dX5_digest_98 : decode cX5_digest 98 = .ok (.lstore_n 1, 1) := by decide +kernel
theorem dX5_digest_99 : decode cX5_digest 99 = .ok (.iinc 4 1, 3) := by decide +kernel
theorem dX5_digest_102 : decode cX5_digest 102 = .ok (.goto (-37), 3) := by decide +kernel
theorem dX5_digest_105 : decode cX5_digest 105 = .ok (.iinc 3 1, 3) := by decide +kernel
theorem dX5_digest_108 : decode cX5_digest 108 = .ok (.goto (-102), 3) := by decide +kernel
theorem dX5_digest_111 : decode cX5_digest 111 = .ok (.iconst 0, 1) := by decide +kernel
theorem dX5_digest_112 : decode cX5_digest 112 = .ok (.istore_n 3, 1) := by decide +kernel
theorem dX5_digest_113 : decode cX5_digest 113 = .ok (.iload_n 3, 1) := by decide +kernel
theorem dX5_digest_114 : decode cX5_digest 114 = .ok (.aload_n 0, 1) := by decide +kernel
theorem dX5_digest_115 : decode cX5_digest 115 = .ok (.getfield 59, 3) := by decide +kernel
theorem dX5_digest_118 : decode cX5_digest 118 = .ok (.if_icmp .ge 60, 3) := by decide +kernel
theorem dX5_digest_121 : decode cX5_digest 121 = .ok (.ldc2_w 155, 3) := by decide +kernel
theorem dX5_digest_124 : decode cX5_digest 124 = .ok (.lload_n 1, 1) := by decide +kernel
theorem dX5_digest_125 : decode cX5_digest 125 = .ok (.lmul, 1) := by decide +kernel
theorem dX5_digest_126 : decode cX5_digest 126 = .ok (.aload_n 0, 1) := by decide +kernel
theorem dX5_digest_127 : decode cX5_digest 127 = .ok (.getfield 29, 3) := by decide +kernel
theorem dX5_digest_130 : decode cX5_digest 130 = .ok (.iload_n 3, 1) := by decide +kernel
theorem dX5_digest_131 : decode cX5_digest 131 = .ok (.laload, 1) := by decide +kernel
theorem dX5_digest_132 : decode cX5_digest 132 = .ok (.ladd, 1) := by decide +kernel
theorem dX5_digest_133 : decode cX5_digest 133 = .ok (.lstore_n 1, 1) := by decide +kernel
theorem dX5_digest_134 : decode cX5_digest 134 = .ok (.iconst 0, 1) := by decide +kernel
theorem dX5_digest_135 : decode cX5_digest 135 = .ok (.istore 4, 2) := by decide +kernel
theorem dX5_digest_137 : decode cX5_digest 137 = .ok (.iload 4, 2) := by decide +kernel
theorem dX5_digest_139 : decode cX5_digest 139 = .ok (.aload_n 0, 1) := by decide +kernel
theorem dX5_digest_140 : decode cX5_digest 140 = .ok (.getfield 52, 3) := by decide +kernel
theorem dX5_digest_143 : decode cX5_digest 143 = .ok (.if_icmp .ge 29, 3) := by decide +kernel
theorem dX5_digest_146 : decode cX5_digest 146 = .ok (.ldc2_w 155, 3) := by decide +kernel
theorem dX5_digest_149 : decode cX5_digest 149 = .ok (.lload_n 1, 1) := by decide +kernel
theorem dX5_digest_150 : decode cX5_digest 150 = .ok (.lmul, 1) := by decide +kernel
theorem dX5_digest_151 : decode cX5_digest 151 = .ok (.aload_n 0, 1) := by decide +kernel
theorem dX5_digest_152 : decode cX5_digest 152 = .ok (.getfield 33, 3) := by decide +kernel
theorem dX5_digest_155 : decode cX5_digest 155 = .ok (.bipush 20, 2) := by decide +kernel
theorem dX5_digest_157 : decode cX5_digest 157 = .ok (.iload_n 3, 1) := by decide +kernel
theorem dX5_digest_158 : decode cX5_digest 158 = .ok (.imul, 1) := by decide +kernel
theorem dX5_digest_159 : decode cX5_digest 159 = .ok (.iload 4, 2) := by decide +kernel
theorem dX5_digest_161 : decode cX5_digest 161 = .ok (.iadd, 1) := by decide +kernel
theorem dX5_digest_162 : decode cX5_digest 162 = .ok (.iaload, 1) := by decide +kernel
theorem dX5_digest_163 : decode cX5_digest 163 = .ok (.i2l, 1) := by decide +kernel
theorem dX5_digest_164 : decode cX5_digest 164 = .ok (.ladd, 1) := by decide +kernel
theorem dX5_digest_165 : decode cX5_digest 165 = .ok (.lstore_n 1, 1) := by decide +kernel
theorem dX5_digest_166 : decode cX5_digest 166 = .ok (.iinc 4 1, 3) := by decide +kernel
theorem dX5_digest_169 : decode cX5_digest 169 = .ok (.goto (-32), 3) := by decide +kernel
theorem dX5_digest_172 : decode cX5_digest 172 = .ok (.iinc 3 1, 3) := by decide +kernel
theorem dX5_digest_175 : decode cX5_digest 175 = .ok (.goto (-62), 3) := by decide +kernel
theorem dX5_digest_178 : decode cX5_digest 178 = .ok (.lload_n 1, 1) := by decide +kernel
theorem dX5_digest_179 : decode cX5_digest 179 = .ok (.lreturn, 1) := by decide +kernel
