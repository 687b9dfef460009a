set_option maxRecDepth 20000 in
theorem ggX4_init_X3_init : GoodIn wsX4_init wsX3_init := goodIn_r _ [25, 26, 2, 3, 20, 27, 28, 29, 30, 31, 32, 33, 34, 35, 68, 69, 70, 71, 72, 73, 74] (by decide +kernel) (by decide +kernel)
set_option maxRecDepth 20000 in
theorem gX4_init_X3_init_n9 : GoodIn wsX4_init (wsX3_init) := ggX4_init_X3_init
set_option maxRecDepth 20000 in
theorem ggX4_init_X0_init : GoodIn wsX4_init wsX0_init := goodIn_r _ [37, 38, 2, 3, 31, 39, 40, 41, 42, 82, 83, 84, 85] (by decide +kernel) (by decide +kernel)
set_option maxRecDepth 20000 in
theorem gX4_init_X0_init_n18 : GoodIn wsX4_init (wsX0_init) := ggX4_init_X0_init
set_option maxRecDepth 20000 in
theorem ggX4_init_X1_init : GoodIn wsX4_init wsX1_init := goodIn_r _ [44, 45, 2, 3, 20, 46, 47, 48, 49, 50, 51, 52, 86, 87, 88, 89, 90, 91, 92] (by decide +kernel) (by decide +kernel)
set_option maxRecDepth 20000 in
theorem gX4_init_X1_init_n25 : GoodIn wsX4_init (wsX1_init) := ggX4_init_X1_init
set_option maxRecDepth 20000 in
theorem ggX4_init_X2_init : GoodIn wsX4_init wsX2_init := goodIn_r _ [54, 55, 2, 3, 20, 56, 57, 58, 31, 59, 60, 61, 62, 63, 64, 65, 66, 67, 93, 94, 95, 96, 97, 98, 99, 100, 101, 102, 103, 104] (by decide +kernel) (by decide +kernel)
set_option maxRecDepth 20000 in
theorem gX4_init_X2_init_n32 : GoodIn wsX4_init (wsX2_init) := ggX4_init_X2_init
theorem dX4_init_0 : decode cX4_init 0 = .ok (.aload_n 0, 1) := by decide +kernel
theorem dX4_init_1 : decode cX4_init 1 = .ok (.invokespecial 1, 3) := by decide +kernel
theorem dX4_init_4 : decode cX4_init 4 = .ok (.aload_n 0, 1) := by decide +kernel
theorem dX4_init_5 : decode cX4_init 5 = .ok (.new 7, 3) := by decide +kernel
theorem dX4_init_8 : decode cX4_init 8 = .ok (.dup, 1) := by decide +kernel
theorem dX4_init_9 : decode cX4_init 9 = .ok (.invokespecial 9, 3) := by decide +kernel
theorem dX4_init_12 : decode cX4_init 12 = .ok (.putfield 10, 3) := by decide +kernel
theorem dX4_init_15 : decode cX4_init 15 = .ok (.aload_n 0, 1) := by decide +kernel
theorem dX4_init_16 : decode cX4_init 16 = .ok (.new 16, 3) := by decide +kernel
theorem dX4_init_19 : decode cX4_init 19 = .ok (.dup, 1) := by decide +kernel
theorem dX4_init_20 : decode cX4_init 20 = .ok (.invokespecial 18, 3) := by decide +kernel
theorem dX4_init_23 : decode cX4_init 23 = .ok (.putfield 19, 3) := by decide +kernel
theorem dX4_init_26 : decode cX4_init 26 = .ok (.aload_n 0, 1) := by decide +kernel
theorem dX4_init_27 : decode cX4_init 27 = .ok (.new 23, 3) := by decide +kernel
theorem dX4_init_30 : decode cX4_init 30 = .ok (.dup, 1) := by decide +kernel
theorem dX4_init_31 : decode cX4_init 31 = .ok (.invokespecial 25, 3) := by decide +kernel
theorem dX4_init_34 : decode cX4_init 34 = .ok (.putfield 26, 3) := by decide +kernel
theorem dX4_init_37 : decode cX4_init 37 = .ok (.aload_n 0, 1) := by decide +kernel
theorem dX4_init_38 : decode cX4_init 38 = .ok (.new 30, 3) := by decide +kernel
theorem dX4_init_41 : decode cX4_init 41 = .ok (.dup, 1) := by decide +kernel
theorem dX4_init_42 : decode cX4_init 42 = .ok (.invokespecial 32, 3) := by decide +kernel
theorem dX4_init_45 : decode cX4_init 45 = .ok (.putfield 33, 3) := by decide +kernel
theorem dX4_init_48 : decode cX4_init 48 = .ok (.aload_n 0, 1) := by decide +kernel
theorem dX4_init_49 : decode cX4_init 49 = .ok (.iconst 5, 1) := by decide +kernel
theorem dX4_init_50 : decode cX4_init 50 = .ok (.newarray .int, 2) := by decide +kernel
theorem dX4_init_52 : decode cX4_init 52 = .ok (.putfield 37, 3) := by decide +kernel
theorem dX4_init_55 : decode cX4_init 55 = .ok (.aload_n 0, 1) := by decide +kernel
theorem dX4_init_56 : decode cX4_init 56 = .ok (.iconst 0, 1) := by decide +kernel
theorem dX4_init_57 : decode cX4_init 57 = .ok (.putfield 41, 3) := by decide +kernel
theorem dX4_init_60 : decode cX4_init 60 = .ok (.aload_n 0, 1) := by decide +kernel
theorem dX4_init_61 : decode cX4_init 61 = .ok (.lconst 0, 1) := by decide +kernel
theorem dX4_init_62 : decode cX4_init 62 = .ok (.putfield 45, 3) := by decide +kernel
theorem dX4_init_65 : decode cX4_init 65 = .ok (.return_, 1) := by decide +kernel
set_option maxRecDepth 20000 in
theorem ggX4_test_X4_isKind : GoodIn wsX4_test wsX4_isKind := goodIn_r _ [6] (by decide +kernel) (by decide +kernel)
set_option maxRecDepth 20000 in
theorem gX4_test_X4_isKind : GoodIn wsX4_test (va_wsS RX4 49 yX4_isKind wsX4_isKind) := goodIn_app (goodIn_of _ (by decide +kernel)) ggX4_test_X4_isKind
set_option maxRecDepth 20000 in
theorem ggX4_test_X3_has : GoodIn wsX4_test wsX3_has := goodIn_r _ [11, 12, 28, 29, 30, 31, 32, 33, 34] (by decide +kernel) (by decide +kernel)
set_option maxRecDepth 20000 in
theorem gX4_test_X3_has : GoodIn wsX4_test (wsV RX4 53 RX3 yX3_has wsX3_has) := goodIn_app (goodIn_of _ (by decide +kernel)) ggX4_test_X3_has
set_option maxRecDepth 20000 in
theorem ggX4_test_X3_add : GoodIn wsX4_test wsX3_add := goodIn_r _ [16, 17, 12, 18, 19, 20, 28, 29, 30, 31, 32, 33, 34] (by decide +kernel) (by decide +kernel)
set_option maxRecDepth 20000 in
theorem gX4_test_X3_add : GoodIn wsX4_test (wsV RX4 59 RX3 yX3_add wsX3_add) := goodIn_app (goodIn_of _ (by decide +kernel)) ggX4_test_X3_add
theorem dX4_test_0 : decode cX4_test 0 = .ok (.iload_n 1, 1) := by decide +kernel
theorem dX4_test_1 : decode cX4_test 1 = .ok (.invokestatic 49, 3) := by decide +kernel
theorem dX4_test_4 : decode cX4_test 4 = .ok (.ifCond .eq 15, 3) := by decide +kernel
theorem dX4_test_7 : decode cX4_test 7 = .ok (.iload_n 2, 1) := by decide +kernel
theorem dX4_test_8 : decode cX4_test 8 = .ok (.iconst 1, 1) := by decide +kernel
theorem dX4_test_9 : decode cX4_test 9 = .ok (.if_icmp .lt 10, 3) := by decide +kernel
theorem dX4_test_12 : decode cX4_test 12 = .ok (.iload_n 2, 1) := by decide +kernel
theorem dX4_test_13 : decode cX4_test 13 = .ok (.sipush 1000, 3) := by decide +kernel
theorem dX4_test_16 : decode cX4_test 16 = .ok (.if_icmp .le 5, 3) := by decide +kernel
theorem dX4_test_19 : decode cX4_test 19 = .ok (.iconst (-1), 1) := by decide +kernel
theorem dX4_test_20 : decode cX4_test 20 = .ok (.ireturn, 1) := by decide +kernel
theorem dX4_test_21 : decode cX4_test 21 = .ok (.iload_n 1, 1) := by decide +kernel
theorem dX4_test_22 : decode cX4_test 22 = .ok (.iconst 2, 1) := by decide +kernel
theorem dX4_test_23 : decode cX4_test 23 = .ok (.if_icmp .ne 16, 3) := by decide +kernel
theorem dX4_test_26 : decode cX4_test 26 = .ok (.aload_n 0, 1) := by decide +kernel
theorem dX4_test_27 : decode cX4_test 27 = .ok (.getfield 10, 3) := by decide +kernel
theorem dX4_test_30 : decode cX4_test 30 = .ok (.iload_n 3, 1) := by decide +kernel
theorem dX4_test_31 : decode cX4_test 31 = .ok (.invokevirtual 53, 3) := by decide +kernel
theorem dX4_test_34 : decode cX4_test 34 = .ok (.ifCond .ne 5, 3) := by decide +kernel
theorem dX4_test_37 : decode cX4_test 37 = .ok (.iconst (-1), 1) := by decide +kernel
theorem dX4_test_38 : decode cX4_test 38 = .ok (.ireturn, 1) := by decide +kernel
theorem dX4_test_39 : decode cX4_test 39 = .ok (.aload_n 0, 1) := by decide +kernel
theorem dX4_test_40 : decode cX4_test 40 = .ok (.getfield 10, 3) := by decide +kernel
theorem dX4_test_43 : decode cX4_test 43 = .ok (.getfield 56, 3) := by decide +kernel
theorem dX4_test_46 : decode cX4_test 46 = .ok (.bipush 20, 2) := by decide +kernel
theorem dX4_test_48 : decode cX4_test 48 = .ok (.if_icmp .lt 6, 3) := by decide +kernel
theorem dX4_test_51 : decode cX4_test 51 = .ok (.bipush (-2), 2) := by decide +kernel
theorem dX4_test_53 : decode cX4_test 53 = .ok (.ireturn, 1) := by decide +kernel
theorem dX4_test_54 : decode cX4_test 54 = .ok (.aload_n 0, 1) := by decide +kernel
theorem dX4_test_55 : decode cX4_test 55 = .ok (.getfield 10, 3) := by decide +kernel
theorem dX4_test_58 : decode cX4_test 58 = .ok (.iload_n 1, 1) := by decide +kernel
theorem dX4_test_59 : decode cX4_test 59 = .ok (.iload_n 2, 1) := by decide +kernel
theorem dX4_test_60 : decode cX4_test 60 = .ok (.iload_n 3, 1) := by decide +kernel
theorem dX4_test_61 : decode cX4_test 61 = .ok (.invokevirtual 59, 3) := by decide +kernel
theorem dX4_test_64 : decode cX4_test 64 = .ok (.ireturn, 1) := by decide +kernel
set_option maxRecDepth 20000 in
theorem ggX4_turn_X3_has : GoodIn wsX4_turn wsX3_has := goodIn_r _ [7, 8, 26, 27, 28, 29, 30, 31, 32] (by decide +kernel) (by decide +kernel)
set_option maxRecDepth 20000 in
theorem gX4_turn_X3_has : GoodIn wsX4_turn (wsV RX4 53 RX3 yX3_has wsX3_has) := goodIn_app (goodIn_of _ (by decide +kernel)) ggX4_turn_X3_has
set_option maxRecDepth 20000 in
theorem ggX4_turn_X4_isKind : GoodIn wsX4_turn wsX4_isKind := goodIn_r _ [12] (by decide +kernel) (by decide +kernel)
set_option maxRecDepth 20000 in
theorem gX4_turn_X4_isKind : GoodIn wsX4_turn (va_wsS RX4 49 yX4_isKind wsX4_isKind) := goodIn_app (goodIn_of _ (by decide +kernel)) ggX4_turn_X4_isKind
set_option maxRecDepth 20000 in
theorem ggX4_turn_X4_refuse : GoodIn wsX4_turn wsX4_refuse := goodIn_r _ [16, 17, 18, 19, 20, 21, 22, 23, 24, 25] (by decide +kernel) (by decide +kernel)
set_option maxRecDepth 20000 in
theorem gX4_turn_X4_refuse : GoodIn wsX4_turn (wsV RX4 66 RX4 yX4_refuse wsX4_refuse) := goodIn_app (goodIn_of _ (by decide +kernel)) ggX4_turn_X4_refuse
theorem dX4_turn_0 : decode cX4_turn 0 = .ok (.aload_n 0, 1) := by decide +kernel
theorem dX4_turn_1 : decode cX4_turn 1 = .ok (.getfield 10, 3) := by decide +kernel
theorem dX4_turn_4 : decode cX4_turn 4 = .ok (.iload_n 1, 1) := by decide +kernel
theorem dX4_turn_5 : decode cX4_turn 5 = .ok (.invokevirtual 53, 3) := by decide +kernel
theorem dX4_turn_8 : decode cX4_turn 8 = .ok (.ifCond .eq 15, 3) := by decide +kernel
theorem dX4_turn_11 : decode cX4_turn 11 = .ok (.iload_n 2, 1) := by decide +kernel
theorem dX4_turn_12 : decode cX4_turn 12 = .ok (.invokestatic 49, 3) := by decide +kernel
theorem dX4_turn_15 : decode cX4_turn 15 = .ok (.ifCond .eq 8, 3) := by decide +kernel
theorem dX4_turn_18 : decode cX4_turn 18 = .ok (.iload_n 2, 1) := by decide +kernel
theorem dX4_turn_19 : decode cX4_turn 19 = .ok (.iconst 2, 1) := by decide +kernel
theorem dX4_turn_20 : decode cX4_turn 20 = .ok (.if_icmp .ne 5, 3) := by decide +kernel
theorem dX4_turn_23 : decode cX4_turn 23 = .ok (.iconst (-1), 1) := by decide +kernel
theorem dX4_turn_24 : decode cX4_turn 24 = .ok (.ireturn, 1) := by decide +kernel
theorem dX4_turn_25 : decode cX4_turn 25 = .ok (.aload_n 0, 1) := by decide +kernel
theorem dX4_turn_26 : decode cX4_turn 26 = .ok (.getfield 10, 3) := by decide +kernel
theorem dX4_turn_29 : decode cX4_turn 29 = .ok (.getfield 63, 3) := by decide +kernel
theorem dX4_turn_32 : decode cX4_turn 32 = .ok (.iload_n 1, 1) := by decide +kernel
theorem dX4_turn_33 : decode cX4_turn 33 = .ok (.iaload, 1) := by decide +kernel
theorem dX4_turn_34 : decode cX4_turn 34 = .ok (.istore_n 3, 1) := by decide +kernel
theorem dX4_turn_35 : decode cX4_turn 35 = .ok (.iload_n 3, 1) := by decide +kernel
theorem dX4_turn_36 : decode cX4_turn 36 = .ok (.iconst 2, 1) := by decide +kernel
theorem dX4_turn_37 : decode cX4_turn 37 = .ok (.if_icmp .ne 9, 3) := by decide +kernel
theorem dX4_turn_40 : decode cX4_turn 40 = .ok (.aload_n 0, 1) := by decide +kernel
theorem dX4_turn_41 : decode cX4_turn 41 = .ok (.iconst 3, 1) := by decide +kernel
theorem dX4_turn_42 : decode cX4_turn 42 = .ok (.invokevirtual 66, 3) := by decide +kernel
theorem dX4_turn_45 : decode cX4_turn 45 = .ok (.ireturn, 1) := by decide +kernel
theorem dX4_turn_46 : decode cX4_turn 46 = .ok (.aload_n 0, 1) := by decide +kernel
theorem dX4_turn_47 : decode cX4_turn 47 = .ok (.getfield 10, 3) := by decide +kernel
theorem dX4_turn_50 : decode cX4_turn 50 = .ok (.getfield 63, 3) := by decide +kernel
theorem dX4_turn_53 : decode cX4_turn 53 = .ok (.iload_n 1, 1) := by decide +kernel
theorem dX4_turn_54 : decode cX4_turn 54 = .ok (.iload_n 2, 1) := by decide +kernel
theorem dX4_turn_55 : decode cX4_turn 55 = .ok (.iastore, 1) := by decide +kernel
theorem dX4_turn_56 : decode cX4_turn 56 = .ok (.iload_n 3, 1) := by decide +kernel
theorem dX4_turn_57 : decode cX4_turn 57 = .ok (.ireturn, 1) := by decide +kernel
set_option maxRecDepth 20000 in
theorem ggX4_reach_X3_has : GoodIn wsX4_reach wsX3_has := goodIn_r _ [7, 8, 37, 38, 39, 40, 41, 42, 43] (by decide +kernel) (by decide +kernel)
set_option maxRecDepth 20000 in
theorem gX4_reach_X3_has : GoodIn wsX4_reach (wsV RX4 53 RX3 yX3_has wsX3_has) := goodIn_app (goodIn_of _ (by decide +kernel)) ggX4_reach_X3_has
set_option maxRecDepth 20000 in
theorem ggX4_reach_X4_refuse : GoodIn wsX4_reach wsX4_refuse := goodIn_r _ [13, 14, 15, 30, 31, 32, 33, 34, 35, 36] (by decide +kernel) (by decide +kernel)
set_option maxRecDepth 20000 in
theorem gX4_reach_X4_refuse : GoodIn wsX4_reach (wsV RX4 66 RX4 yX4_refuse wsX4_refuse) := goodIn_app (goodIn_of _ (by decide +kernel)) ggX4_reach_X4_refuse
set_option maxRecDepth 20000 in
theorem ggX4_reach_X4_isPlace : GoodIn wsX4_reach wsX4_isPlace := goodIn_r _ [18] (by decide +kernel) (by decide +kernel)
set_option maxRecDepth 20000 in
theorem gX4_reach_X4_isPlace : GoodIn wsX4_reach (va_wsS RX4 74 yX4_isPlace wsX4_isPlace) := goodIn_app (goodIn_of _ (by decide +kernel)) ggX4_reach_X4_isPlace
set_option maxRecDepth 20000 in
theorem ggX4_reach_X3_reachByte : GoodIn wsX4_reach wsX3_reachByte := goodIn_r _ [22, 23, 24, 37, 38, 39, 40, 41, 42, 43] (by decide +kernel) (by decide +kernel)
set_option maxRecDepth 20000 in
theorem gX4_reach_X3_reachByte : GoodIn wsX4_reach (wsV RX4 77 RX3 yX3_reachByte wsX3_reachByte) := goodIn_app (goodIn_of _ (by decide +kernel)) ggX4_reach_X3_reachByte
set_option maxRecDepth 20000 in
theorem ggX4_reach_X3_setReachByte : GoodIn wsX4_reach wsX3_setReachByte := goodIn_r _ [28, 23, 24, 29, 37, 38, 39, 40, 41, 42, 43] (by decide +kernel) (by decide +kernel)
set_option maxRecDepth 20000 in
theorem gX4_reach_X3_setReachByte : GoodIn wsX4_reach (wsV RX4 81 RX3 yX3_setReachByte wsX3_setReachByte) := goodIn_app (goodIn_of _ (by decide +kernel)) ggX4_reach_X3_setReachByte
theorem dX4_reach_0 : decode cX4_reach 0 = .ok (.aload_n 0, 1) := by decide +kernel
theorem dX4_reach_1 : decode cX4_reach 1 = .ok (.getfield 10, 3) := by decide +kernel
theorem dX4_reach_4 : decode cX4_reach 4 = .ok (.iload_n 1, 1) := by decide +kernel
theorem dX4_reach_5 : decode cX4_reach 5 = .ok (.invokevirtual 53, 3) := by decide +kernel
theorem dX4_reach_8 : decode cX4_reach 8 = .ok (.ifCond .eq 14, 3) := by decide +kernel
theorem dX4_reach_11 : decode cX4_reach 11 = .ok (.iload_n 3, 1) := by decide +kernel
theorem dX4_reach_12 : decode cX4_reach 12 = .ok (.ifCond .lt 10, 3) := by decide +kernel
theorem dX4_reach_15 : decode cX4_reach 15 = .ok (.iload_n 3, 1) := by decide +kernel
theorem dX4_reach_16 : decode cX4_reach 16 = .ok (.sipush 255, 3) := by decide +kernel
theorem dX4_reach_19 : decode cX4_reach 19 = .ok (.if_icmp .le 5, 3) := by decide +kernel
theorem dX4_reach_22 : decode cX4_reach 22 = .ok (.iconst (-1), 1) := by decide +kernel
theorem dX4_reach_23 : decode cX4_reach 23 = .ok (.ireturn, 1) := by decide +kernel
theorem dX4_reach_24 : decode cX4_reach 24 = .ok (.aload_n 0, 1) := by decide +kernel
theorem dX4_reach_25 : decode cX4_reach 25 = .ok (.getfield 10, 3) := by decide +kernel
theorem dX4_reach_28 : decode cX4_reach 28 = .ok (.getfield 70, 3) := by decide +kernel
theorem dX4_reach_31 : decode cX4_reach 31 = .ok (.iload_n 1, 1) := by decide +kernel
theorem dX4_reach_32 : decode cX4_reach 32 = .ok (.baload, 1) := by decide +kernel
theorem dX4_reach_33 : decode cX4_reach 33 = .ok (.ifCond .eq 9, 3) := by decide +kernel
theorem dX4_reach_36 : decode cX4_reach 36 = .ok (.aload_n 0, 1) := by decide +kernel
theorem dX4_reach_37 : decode cX4_reach 37 = .ok (.iconst 1, 1) := by decide +kernel
theorem dX4_reach_38 : decode cX4_reach 38 = .ok (.invokevirtual 66, 3) := by decide +kernel
theorem dX4_reach_41 : decode cX4_reach 41 = .ok (.ireturn, 1) := by decide +kernel
theorem dX4_reach_42 : decode cX4_reach 42 = .ok (.iload_n 2, 1) := by decide +kernel
theorem dX4_reach_43 : decode cX4_reach 43 = .ok (.invokestatic 74, 3) := by decide +kernel
theorem dX4_reach_46 : decode cX4_reach 46 = .ok (.ifCond .ne 9, 3) := by decide +kernel
theorem dX4_reach_49 : decode cX4_reach 49 = .ok (.aload_n 0, 1) := by decide +kernel
theorem dX4_reach_50 : decode cX4_reach 50 = .ok (.iconst 2, 1) := by decide +kernel
theorem dX4_reach_51 : decode cX4_reach 51 = .ok (.invokevirtual 66, 3) := by decide +kernel
theorem dX4_reach_54 : decode cX4_reach 54 = .ok (.ireturn, 1) := by decide +kernel
theorem dX4_reach_55 : decode cX4_reach 55 = .ok (.aload_n 0, 1) := by decide +kernel
theorem dX4_reach_56 : decode cX4_reach 56 = .ok (.getfield 10, 3) := by decide +kernel
theorem dX4_reach_59 : decode cX4_reach 59 = .ok (.iload_n 1, 1) := by decide +kernel
theorem dX4_reach_60 : decode cX4_reach 60 = .ok (.iload_n 2, 1) := by decide +kernel
theorem dX4_reach_61 : decode cX4_reach 61 = .ok (.invokevirtual 77, 3) := by decide +kernel
theorem dX4_reach_64 : decode cX4_reach 64 = .ok (.istore 4, 2) := by decide +kernel
theorem dX4_reach_66 : decode cX4_reach 66 = .ok (.aload_n 0, 1) := by decide +kernel
theorem dX4_reach_67 : decode cX4_reach 67 = .ok (.getfield 10, 3) := by decide +kernel
theorem dX4_reach_70 : decode cX4_reach 70 = .ok (.iload_n 1, 1) := by decide +kernel
theorem dX4_reach_71 : decode cX4_reach 71 = .ok (.iload_n 2, 1) := by decide +kernel
theorem dX4_reach_72 : decode cX4_reach 72 = .ok (.iload_n 3, 1) := by decide +kernel
theorem dX4_reach_73 : decode cX4_reach 73 = .ok (.invokevirtual 81, 3) := by decide +kernel
theorem dX4_reach_76 : decode cX4_reach 76 = .ok (.iload 4, 2) := by decide +kernel
theorem dX4_reach_78 : decode cX4_reach 78 = .ok (.ireturn, 1) := by decide +kernel
set_option maxRecDepth 20000 in
theorem ggX4_byteOf_X3_has : GoodIn wsX4_byteOf wsX3_has := goodIn_r _ [7, 8, 32, 33, 34, 35, 36, 37, 38] (by decide +kernel) (by decide +kernel)
set_option maxRecDepth 20000 in
theorem gX4_byteOf_X3_has : GoodIn wsX4_byteOf (wsV RX4 53 RX3 yX3_has wsX3_has) := goodIn_app (goodIn_of _ (by decide +kernel)) ggX4_byteOf_X3_has
set_option maxRecDepth 20000 in
theorem ggX4_byteOf_X4_refuse : GoodIn wsX4_byteOf wsX4_refuse := goodIn_r _ [13, 14, 15, 25, 26, 27, 28, 29, 30, 31] (by decide +kernel) (by decide +kernel)
set_option maxRecDepth 20000 in
theorem gX4_byteOf_X4_refuse : GoodIn wsX4_byteOf (wsV RX4 66 RX4 yX4_refuse wsX4_refuse) := goodIn_app (goodIn_of _ (by decide +kernel)) ggX4_byteOf_X4_refuse
set_option maxRecDepth 20000 in
theorem ggX4_byteOf_X4_isPlace : GoodIn wsX4_byteOf wsX4_isPlace := goodIn_r _ [18] (by decide +kernel) (by decide +kernel)
set_option maxRecDepth 20000 in
theorem gX4_byteOf_X4_isPlace : GoodIn wsX4_byteOf (va_wsS RX4 74 yX4_isPlace wsX4_isPlace) := goodIn_app (goodIn_of _ (by decide +kernel)) ggX4_byteOf_X4_isPlace
set_option maxRecDepth 20000 in
theorem ggX4_byteOf_X3_reachByte : GoodIn wsX4_byteOf wsX3_reachByte := goodIn_r _ [22, 23, 24, 32, 33, 34, 35, 36, 37, 38] (by decide +kernel) (by decide +kernel)
set_option maxRecDepth 20000 in
theorem gX4_byteOf_X3_reachByte : GoodIn wsX4_byteOf (wsV RX4 77 RX3 yX3_reachByte wsX3_reachByte) := goodIn_app (goodIn_of _ (by decide +kernel)) ggX4_byteOf_X3_reachByte
theorem dX4_byteOf_0 : decode cX4_byteOf 0 = .ok (.aload_n 0, 1) := by decide +kernel
theorem dX4_byteOf_1 : decode cX4_byteOf 1 = .ok (.getfield 10, 3) := by decide +kernel
theorem dX4_byteOf_4 : decode cX4_byteOf 4 = .ok (.iload_n 1, 1) := by decide +kernel
theorem dX4_byteOf_5 : decode cX4_byteOf 5 = .ok (.invokevirtual 53, 3) := by decide +kernel
theorem dX4_byteOf_8 : decode cX4_byteOf 8 = .ok (.ifCond .ne 5, 3) := by decide +kernel
theorem dX4_byteOf_11 : decode cX4_byteOf 11 = .ok (.iconst (-1), 1) := by decide +kernel
theorem dX4_byteOf_12 : decode cX4_byteOf 12 = .ok (.ireturn, 1) := by decide +kernel
theorem dX4_byteOf_13 : decode cX4_byteOf 13 = .ok (.aload_n 0, 1) := by decide +kernel
theorem dX4_byteOf_14 : decode cX4_byteOf 14 = .ok (.getfield 10, 3) := by decide +kernel
theorem dX4_byteOf_17 : decode cX4_byteOf 17 = .ok (.getfield 70, 3) := by decide +kernel
theorem dX4_byteOf_20 : decode cX4_byteOf 20 = .ok (.iload_n 1, 1) := by decide +kernel
theorem dX4_byteOf_21 : decode cX4_byteOf 21 = .ok (.baload, 1) := by decide +kernel
theorem dX4_byteOf_22 : decode cX4_byteOf 22 = .ok (.ifCond .eq 9, 3) := by decide +kernel
theorem dX4_byteOf_25 : decode cX4_byteOf 25 = .ok (.aload_n 0, 1) := by decide +kernel
theorem dX4_byteOf_26 : decode cX4_byteOf 26 = .ok (.iconst 1, 1) := by decide +kernel
theorem dX4_byteOf_27 : decode cX4_byteOf 27 = .ok (.invokevirtual 66, 3) := by decide +kernel
theorem dX4_byteOf_30 : decode cX4_byteOf 30 = .ok (.ireturn, 1) := by decide +kernel
theorem dX4_byteOf_31 : decode cX4_byteOf 31 = .ok (.iload_n 2, 1) := by decide +kernel
theorem dX4_byteOf_32 : decode cX4_byteOf 32 = .ok (.invokestatic 74, 3) := by decide +kernel
theorem dX4_byteOf_35 : decode cX4_byteOf 35 = .ok (.ifCond .ne 9, 3) := by decide +kernel
theorem dX4_byteOf_38 : decode cX4_byteOf 38 = .ok (.aload_n 0, 1) := by decide +kernel
theorem dX4_byteOf_39 : decode cX4_byteOf 39 = .ok (.iconst 2, 1) := by decide +kernel
theorem dX4_byteOf_40 : decode cX4_byteOf 40 = .ok (.invokevirtual 66, 3) := by decide +kernel
theorem dX4_byteOf_43 : decode cX4_byteOf 43 = .ok (.ireturn, 1) := by decide +kernel
theorem dX4_byteOf_44 : decode cX4_byteOf 44 = .ok (.aload_n 0, 1) := by decide +kernel
theorem dX4_byteOf_45 : decode cX4_byteOf 45 = .ok (.getfield 10, 3) := by decide +kernel
theorem dX4_byteOf_48 : decode cX4_byteOf 48 = .ok (.iload_n 1, 1) := by decide +kernel
theorem dX4_byteOf_49 : decode cX4_byteOf 49 = .ok (.iload_n 2, 1) := by decide +kernel
theorem dX4_byteOf_50 : decode cX4_byteOf 50 = .ok (.invokevirtual 77, 3) := by decide +kernel
theorem dX4_byteOf_53 : decode cX4_byteOf 53 = .ok (.ireturn, 1) := by decide +kernel
set_option maxRecDepth 20000 in
theorem ggX4_tear_X3_has : GoodIn wsX4_tear wsX3_has := goodIn_r _ [8, 9, 24, 25, 26, 27, 28, 29, 30] (by decide +kernel) (by decide +kernel)
set_option maxRecDepth 20000 in
theorem gX4_tear_X3_has : GoodIn wsX4_tear (wsV RX4 53 RX3 yX3_has wsX3_has) := goodIn_app (goodIn_of _ (by decide +kernel)) ggX4_tear_X3_has
set_option maxRecDepth 20000 in
theorem ggX4_tear_X4_refuse : GoodIn wsX4_tear wsX4_refuse := goodIn_r _ [14, 15, 16, 17, 18, 19, 20, 21, 22, 23] (by decide +kernel) (by decide +kernel)
set_option maxRecDepth 20000 in
theorem gX4_tear_X4_refuse : GoodIn wsX4_tear (wsV RX4 66 RX4 yX4_refuse wsX4_refuse) := goodIn_app (goodIn_of _ (by decide +kernel)) ggX4_tear_X4_refuse
theorem dX4_tear_0 : decode cX4_tear 0 = .ok (.aload_n 0, 1) := by decide +kernel
theorem dX4_tear_1 : decode cX4_tear 1 = .ok (.getfield 10, 3) := by decide +kernel
theorem dX4_tear_4 : decode cX4_tear 4 = .ok (.iload_n 1, 1) := by decide +kernel
theorem dX4_tear_5 : decode cX4_tear 5 = .ok (.invokevirtual 53, 3) := by decide +kernel
theorem dX4_tear_8 : decode cX4_tear 8 = .ok (.ifCond .ne 5, 3) := by decide +kernel
theorem dX4_tear_11 : decode cX4_tear 11 = .ok (.iconst (-1), 1) := by decide +kernel
theorem dX4_tear_12 : decode cX4_tear 12 = .ok (.ireturn, 1) := by decide +kernel
theorem dX4_tear_13 : decode cX4_tear 13 = .ok (.aload_n 0, 1) := by decide +kernel
theorem dX4_tear_14 : decode cX4_tear 14 = .ok (.getfield 10, 3) := by decide +kernel
theorem dX4_tear_17 : decode cX4_tear 17 = .ok (.getfield 70, 3) := by decide +kernel
theorem dX4_tear_20 : decode cX4_tear 20 = .ok (.iload_n 1, 1) := by decide +kernel
theorem dX4_tear_21 : decode cX4_tear 21 = .ok (.baload, 1) := by decide +kernel
theorem dX4_tear_22 : decode cX4_tear 22 = .ok (.ifCond .eq 9, 3) := by decide +kernel
theorem dX4_tear_25 : decode cX4_tear 25 = .ok (.aload_n 0, 1) := by decide +kernel
theorem dX4_tear_26 : decode cX4_tear 26 = .ok (.iconst 1, 1) := by decide +kernel
theorem dX4_tear_27 : decode cX4_tear 27 = .ok (.invokevirtual 66, 3) := by decide +kernel
theorem dX4_tear_30 : decode cX4_tear 30 = .ok (.ireturn, 1) := by decide +kernel
theorem dX4_tear_31 : decode cX4_tear 31 = .ok (.aload_n 0, 1) := by decide +kernel
theorem dX4_tear_32 : decode cX4_tear 32 = .ok (.getfield 10, 3) := by decide +kernel
theorem dX4_tear_35 : decode cX4_tear 35 = .ok (.getfield 70, 3) := by decide +kernel
theorem dX4_tear_38 : decode cX4_tear 38 = .ok (.iload_n 1, 1) := by decide +kernel
theorem dX4_tear_39 : decode cX4_tear 39 = .ok (.iconst 1, 1) := by decide +kernel
theorem dX4_tear_40 : decode cX4_tear 40 = .ok (.bastore, 1) := by decide +kernel
theorem dX4_tear_41 : decode cX4_tear 41 = .ok (.aload_n 0, 1) := by decide +kernel
theorem dX4_tear_42 : decode cX4_tear 42 = .ok (.getfield 10, 3) := by decide +kernel
theorem dX4_tear_45 : decode cX4_tear 45 = .ok (.getfield 85, 3) := by decide +kernel
theorem dX4_tear_48 : decode cX4_tear 48 = .ok (.iload_n 1, 1) := by decide +kernel
theorem dX4_tear_49 : decode cX4_tear 49 = .ok (.lconst 0, 1) := by decide +kernel
theorem dX4_tear_50 : decode cX4_tear 50 = .ok (.lastore, 1) := by decide +kernel
theorem dX4_tear_51 : decode cX4_tear 51 = .ok (.iconst 1, 1) := by decide +kernel
theorem dX4_tear_52 : decode cX4_tear 52 = .ok (.ireturn, 1) := by decide +kernel
set_option maxRecDepth 20000 in
theorem ggX4_anew_X3_has : GoodIn wsX4_anew wsX3_has := goodIn_r _ [8, 9, 17, 18, 19, 20, 21, 22, 23] (by decide +kernel) (by decide +kernel)
set_option maxRecDepth 20000 in
theorem gX4_anew_X3_has : GoodIn wsX4_anew (wsV RX4 53 RX3 yX3_has wsX3_has) := goodIn_app (goodIn_of _ (by decide +kernel)) ggX4_anew_X3_has
theorem dX4_anew_0 : decode cX4_anew 0 = .ok (.aload_n 0, 1) := by decide +kernel
theorem dX4_anew_1 : decode cX4_anew 1 = .ok (.getfield 10, 3) := by decide +kernel
theorem dX4_anew_4 : decode cX4_anew 4 = .ok (.iload_n 1, 1) := by decide +kernel
theorem dX4_anew_5 : decode cX4_anew 5 = .ok (.invokevirtual 53, 3) := by decide +kernel
theorem dX4_anew_8 : decode cX4_anew 8 = .ok (.ifCond .ne 5, 3) := by decide +kernel
theorem dX4_anew_11 : decode cX4_anew 11 = .ok (.iconst (-1), 1) := by decide +kernel
theorem dX4_anew_12 : decode cX4_anew 12 = .ok (.ireturn, 1) := by decide +kernel
theorem dX4_anew_13 : decode cX4_anew 13 = .ok (.aload_n 0, 1) := by decide +kernel
theorem dX4_anew_14 : decode cX4_anew 14 = .ok (.getfield 10, 3) := by decide +kernel
theorem dX4_anew_17 : decode cX4_anew 17 = .ok (.getfield 70, 3) := by decide +kernel
theorem dX4_anew_20 : decode cX4_anew 20 = .ok (.iload_n 1, 1) := by decide +kernel
theorem dX4_anew_21 : decode cX4_anew 21 = .ok (.baload, 1) := by decide +kernel
theorem dX4_anew_22 : decode cX4_anew 22 = .ok (.ifCond .eq 7, 3) := by decide +kernel
theorem dX4_anew_25 : decode cX4_anew 25 = .ok (.iconst 0, 1) := by decide +kernel
theorem dX4_anew_26 : decode cX4_anew 26 = .ok (.goto 4, 3) := by decide +kernel
theorem dX4_anew_29 : decode cX4_anew 29 = .ok (.iconst 1, 1) := by decide +kernel
theorem dX4_anew_30 : decode cX4_anew 30 = .ok (.istore_n 2, 1) := by decide +kernel
theorem dX4_anew_31 : decode cX4_anew 31 = .ok (.aload_n 0, 1) := by decide +kernel
theorem dX4_anew_32 : decode cX4_anew 32 = .ok (.getfield 10, 3) := by decide +kernel
theorem dX4_anew_35 : decode cX4_anew 35 = .ok (.getfield 70, 3) := by decide +kernel
theorem dX4_anew_38 : decode cX4_anew 38 = .ok (.iload_n 1, 1) := by decide +kernel
theorem dX4_anew_39 : decode cX4_anew 39 = .ok (.iconst 0, 1) := by decide +kernel
theorem dX4_anew_40 : decode cX4_anew 40 = .ok (.bastore, 1) := by decide +kernel
theorem dX4_anew_41 : decode cX4_anew 41 = .ok (.aload_n 0, 1) := by decide +kernel
theorem dX4_anew_42 : decode cX4_anew 42 = .ok (.getfield 10, 3) := by decide +kernel
theorem dX4_anew_45 : decode cX4_anew 45 = .ok (.getfield 85, 3) := by decide +kernel
theorem dX4_anew_48 : decode cX4_anew 48 = .ok (.iload_n 1, 1) := by decide +kernel
theorem dX4_anew_49 : decode cX4_anew 49 = .ok (.lconst 0, 1) := by decide +kernel
theorem dX4_anew_50 : decode cX4_anew 50 = .ok (.lastore, 1) := by decide +kernel
theorem dX4_anew_51 : decode cX4_anew 51 = .ok (.iload_n 2, 1) := by decide +kernel
theorem dX4_anew_52 : decode cX4_anew 52 = .ok (.ireturn, 1) := by decide +kernel
set_option maxRecDepth 20000 in
theorem ggX4_copy_X3_has : GoodIn wsX4_copy wsX3_has := goodIn_r _ [7, 8, 32, 33, 34, 35, 36, 37, 38] (by decide +kernel) (by decide +kernel)
set_option maxRecDepth 20000 in
theorem gX4_copy_X3_has : GoodIn wsX4_copy (wsV RX4 53 RX3 yX3_has wsX3_has) := goodIn_app (goodIn_of _ (by decide +kernel)) ggX4_copy_X3_has
set_option maxRecDepth 20000 in
theorem ggX4_copy_X4_refuse : GoodIn wsX4_copy wsX4_refuse := goodIn_r _ [13, 14, 15, 25, 26, 27, 28, 29, 30, 31] (by decide +kernel) (by decide +kernel)
set_option maxRecDepth 20000 in
theorem gX4_copy_X4_refuse : GoodIn wsX4_copy (wsV RX4 66 RX4 yX4_refuse wsX4_refuse) := goodIn_app (goodIn_of _ (by decide +kernel)) ggX4_copy_X4_refuse
set_option maxRecDepth 20000 in
theorem ggX4_copy_X4_isStretch : GoodIn wsX4_copy wsX4_isStretch := goodIn_r _ [18] (by decide +kernel) (by decide +kernel)
set_option maxRecDepth 20000 in
theorem gX4_copy_X4_isStretch : GoodIn wsX4_copy (va_wsS RX4 89 yX4_isStretch wsX4_isStretch) := goodIn_app (goodIn_of _ (by decide +kernel)) ggX4_copy_X4_isStretch
set_option maxRecDepth 20000 in
theorem ggX4_copy_X3_copyBytes : GoodIn wsX4_copy wsX3_copyBytes := goodIn_r _ [22, 23, 24, 32, 33, 34, 35, 36, 37, 38] (by decide +kernel) (by decide +kernel)
set_option maxRecDepth 20000 in
theorem gX4_copy_X3_copyBytes : GoodIn wsX4_copy (wsV RX4 93 RX3 yX3_copyBytes wsX3_copyBytes) := goodIn_app (goodIn_of _ (by decide +kernel)) ggX4_copy_X3_copyBytes
theorem dX4_copy_0 : decode cX4_copy 0 = .ok (.aload_n 0, 1) := by decide +kernel
theorem dX4_copy_1 : decode cX4_copy 1 = .ok (.getfield 10, 3) := by decide +kernel
theorem dX4_copy_4 : decode cX4_copy 4 = .ok (.iload_n 1, 1) := by decide +kernel
theorem dX4_copy_5 : decode cX4_copy 5 = .ok (.invokevirtual 53, 3) := by decide +kernel
theorem dX4_copy_8 : decode cX4_copy 8 = .ok (.ifCond .eq 14, 3) := by decide +kernel
theorem dX4_copy_11 : decode cX4_copy 11 = .ok (.aload_n 0, 1) := by decide +kernel
theorem dX4_copy_12 : decode cX4_copy 12 = .ok (.getfield 10, 3) := by decide +kernel
theorem dX4_copy_15 : decode cX4_copy 15 = .ok (.iload_n 3, 1) := by decide +kernel
theorem dX4_copy_16 : decode cX4_copy 16 = .ok (.invokevirtual 53, 3) := by decide +kernel
theorem dX4_copy_19 : decode cX4_copy 19 = .ok (.ifCond .ne 5, 3) := by decide +kernel
theorem dX4_copy_22 : decode cX4_copy 22 = .ok (.iconst (-1), 1) := by decide +kernel
theorem dX4_copy_23 : decode cX4_copy 23 = .ok (.ireturn, 1) := by decide +kernel
theorem dX4_copy_24 : decode cX4_copy 24 = .ok (.iload 5, 2) := by decide +kernel
theorem dX4_copy_26 : decode cX4_copy 26 = .ok (.ifCond .ge 9, 3) := by decide +kernel
theorem dX4_copy_29 : decode cX4_copy 29 = .ok (.aload_n 0, 1) := by decide +kernel
theorem dX4_copy_30 : decode cX4_copy 30 = .ok (.iconst 4, 1) := by decide +kernel
theorem dX4_copy_31 : decode cX4_copy 31 = .ok (.invokevirtual 66, 3) := by decide +kernel
theorem dX4_copy_34 : decode cX4_copy 34 = .ok (.ireturn, 1) := by decide +kernel
theorem dX4_copy_35 : decode cX4_copy 35 = .ok (.aload_n 0, 1) := by decide +kernel
theorem dX4_copy_36 : decode cX4_copy 36 = .ok (.getfield 10, 3) := by decide +kernel
theorem dX4_copy_39 : decode cX4_copy 39 = .ok (.getfield 70, 3) := by decide +kernel
theorem dX4_copy_42 : decode cX4_copy 42 = .ok (.iload_n 1, 1) := by decide +kernel
theorem dX4_copy_43 : decode cX4_copy 43 = .ok (.baload, 1) := by decide +kernel
theorem dX4_copy_44 : decode cX4_copy 44 = .ok (.ifCond .ne 15, 3) := by decide +kernel
theorem dX4_copy_47 : decode cX4_copy 47 = .ok (.aload_n 0, 1) := by decide +kernel
theorem dX4_copy_48 : decode cX4_copy 48 = .ok (.getfield 10, 3) := by decide +kernel
theorem dX4_copy_51 : decode cX4_copy 51 = .ok (.getfield 70, 3) := by decide +kernel
theorem dX4_copy_54 : decode cX4_copy 54 = .ok (.iload_n 3, 1) := by decide +kernel
theorem dX4_copy_55 : decode cX4_copy 55 = .ok (.baload, 1) := by decide +kernel
theorem dX4_copy_56 : decode cX4_copy 56 = .ok (.ifCond .eq 9, 3) := by decide +kernel
theorem dX4_copy_59 : decode cX4_copy 59 = .ok (.aload_n 0, 1) := by decide +kernel
theorem dX4_copy_60 : decode cX4_copy 60 = .ok (.iconst 1, 1) := by decide +kernel
theorem dX4_copy_61 : decode cX4_copy 61 = .ok (.invokevirtual 66, 3) := by decide +kernel
theorem dX4_copy_64 : decode cX4_copy 64 = .ok (.ireturn, 1) := by decide +kernel
theorem dX4_copy_65 : decode cX4_copy 65 = .ok (.iload_n 2, 1) := by decide +kernel
theorem dX4_copy_66 : decode cX4_copy 66 = .ok (.iload 5, 2) := by decide +kernel
theorem dX4_copy_68 : decode cX4_copy 68 = .ok (.invokestatic 89, 3) := by decide +kernel
theorem dX4_copy_71 : decode cX4_copy 71 = .ok (.ifCond .eq 13, 3) := by decide +kernel
theorem dX4_copy_74 : decode cX4_copy 74 = .ok (.iload 4, 2) := by decide +kernel
theorem dX4_copy_76 : decode cX4_copy 76 = .ok (.iload 5, 2) := by decide +kernel
theorem dX4_copy_78 : decode cX4_copy 78 = .ok (.invokestatic 89, 3) := by decide +kernel
theorem dX4_copy_81 : decode cX4_copy 81 = .ok (.ifCond .ne 9, 3) := by decide +kernel
theorem dX4_copy_84 : decode cX4_copy 84 = .ok (.aload_n 0, 1) := by decide +kernel
theorem dX4_copy_85 : decode cX4_copy 85 = .ok (.iconst 2, 1) := by decide +kernel
theorem dX4_copy_86 : decode cX4_copy 86 = .ok (.invokevirtual 66, 3) := by decide +kernel
theorem dX4_copy_89 : decode cX4_copy 89 = .ok (.ireturn, 1) := by decide +kernel
theorem dX4_copy_90 : decode cX4_copy 90 = .ok (.aload_n 0, 1) := by decide +kernel
theorem dX4_copy_91 : decode cX4_copy 91 = .ok (.getfield 10, 3) := by decide +kernel
theorem dX4_copy_94 : decode cX4_copy 94 = .ok (.iload_n 1, 1) := by decide +kernel
theorem dX4_copy_95 : decode cX4_copy 95 = .ok (.iload_n 2, 1) := by decide +kernel
theorem dX4_copy_96 : decode cX4_copy 96 = .ok (.iload_n 3, 1) := by decide +kernel
theorem dX4_copy_97 : decode cX4_copy 97 = .ok (.iload 4, 2) := by decide +kernel
theorem dX4_copy_99 : decode cX4_copy 99 = .ok (.iload 5, 2) := by decide +kernel
theorem dX4_copy_101 : decode cX4_copy 101 = .ok (.invokevirtual 93, 3) := by decide +kernel
theorem dX4_copy_104 : decode cX4_copy 104 = .ok (.iconst 1, 1) := by decide +kernel
theorem dX4_copy_105 : decode cX4_copy 105 = .ok (.ireturn, 1) := by decide +kernel
set_option maxRecDepth 20000 in
theorem ggX4_told_X3_has : GoodIn wsX4_told wsX3_has := goodIn_r _ [6, 7, 64, 65, 66, 67, 68, 69, 70] (by decide +kernel) (by decide +kernel)
set_option maxRecDepth 20000 in
theorem gX4_told_X3_has : GoodIn wsX4_told (wsV RX4 53 RX3 yX3_has wsX3_has) := goodIn_app (goodIn_of _ (by decide +kernel)) ggX4_told_X3_has
set_option maxRecDepth 20000 in
theorem ggX4_told_X4_factOf : GoodIn wsX4_told wsX4_factOf := goodIn_r _ [12, 1, 13, 14, 15, 16, 17, 18, 19, 5, 20, 21, 22, 23, 24, 25, 26, 27, 28, 29, 30, 31, 32, 33, 11, 34, 35, 36, 37, 38, 39, 40, 41, 42, 43, 44, 45, 46, 47, 48, 49, 50, 51, 52, 53, 54, 55, 56, 57, 58, 59, 60, 61, 62, 63, 64, 65, 66, 67, 68, 69, 70, 71, 72, 73, 74] (by decide +kernel) (by decide +kernel)
set_option maxRecDepth 20000 in
theorem gX4_told_X4_factOf : GoodIn wsX4_told (wsV RX4 97 RX4 yX4_factOf wsX4_factOf) := goodIn_app (goodIn_of _ (by decide +kernel)) ggX4_told_X4_factOf
theorem dX4_told_0 : decode cX4_told 0 = .ok (.aload_n 0, 1) := by decide +kernel
theorem dX4_told_1 : decode cX4_told 1 = .ok (.getfield 10, 3) := by decide +kernel
theorem dX4_told_4 : decode cX4_told 4 = .ok (.iload_n 1, 1) := by decide +kernel
theorem dX4_told_5 : decode cX4_told 5 = .ok (.invokevirtual 53, 3) := by decide +kernel
theorem dX4_told_8 : decode cX4_told 8 = .ok (.ifCond .eq 13, 3) := by decide +kernel
theorem dX4_told_11 : decode cX4_told 11 = .ok (.iload_n 2, 1) := by decide +kernel
theorem dX4_told_12 : decode cX4_told 12 = .ok (.ifCond .lt 9, 3) := by decide +kernel
theorem dX4_told_15 : decode cX4_told 15 = .ok (.iload_n 2, 1) := by decide +kernel
theorem dX4_told_16 : decode cX4_told 16 = .ok (.bipush 6, 2) := by decide +kernel
theorem dX4_told_18 : decode cX4_told 18 = .ok (.if_icmp .le 5, 3) := by decide +kernel
theorem dX4_told_21 : decode cX4_told 21 = .ok (.iconst (-1), 1) := by decide +kernel
theorem dX4_told_22 : decode cX4_told 22 = .ok (.ireturn, 1) := by decide +kernel
theorem dX4_told_23 : decode cX4_told 23 = .ok (.aload_n 0, 1) := by decide +kernel
theorem dX4_told_24 : decode cX4_told 24 = .ok (.iload_n 1, 1) := by decide +kernel
theorem dX4_told_25 : decode cX4_told 25 = .ok (.iload_n 2, 1) := by decide +kernel
theorem dX4_told_26 : decode cX4_told 26 = .ok (.invokevirtual 97, 3) := by decide +kernel
theorem dX4_told_29 : decode cX4_told 29 = .ok (.ireturn, 1) := by decide +kernel
set_option maxRecDepth 20000 in
theorem ggX4_time_X3_has : GoodIn wsX4_time wsX3_has := goodIn_r _ [8, 9, 27, 28, 29, 30, 31, 32, 33] (by decide +kernel) (by decide +kernel)
set_option maxRecDepth 20000 in
theorem gX4_time_X3_has : GoodIn wsX4_time (wsV RX4 53 RX3 yX3_has wsX3_has) := goodIn_app (goodIn_of _ (by decide +kernel)) ggX4_time_X3_has
set_option maxRecDepth 20000 in
theorem ggX4_time_X4_isKind : GoodIn wsX4_time wsX4_isKind := goodIn_r _ [13] (by decide +kernel) (by decide +kernel)
set_option maxRecDepth 20000 in
theorem gX4_time_X4_isKind : GoodIn wsX4_time (va_wsS RX4 49 yX4_isKind wsX4_isKind) := goodIn_app (goodIn_of _ (by decide +kernel)) ggX4_time_X4_isKind
set_option maxRecDepth 20000 in
theorem ggX4_time_X4_refuse : GoodIn wsX4_time wsX4_refuse := goodIn_r _ [17, 18, 19, 20, 21, 22, 23, 24, 25, 26] (by decide +kernel) (by decide +kernel)
set_option maxRecDepth 20000 in
theorem gX4_time_X4_refuse : GoodIn wsX4_time (wsV RX4 66 RX4 yX4_refuse wsX4_refuse) := goodIn_app (goodIn_of _ (by decide +kernel)) ggX4_time_X4_refuse
theorem dX4_time_0 : decode cX4_time 0 = .ok (.aload_n 0, 1) := by decide +kernel
theorem dX4_time_1 : decode cX4_time 1 = .ok (.getfield 10, 3) := by decide +kernel
theorem dX4_time_4 : decode cX4_time 4 = .ok (.iload_n 1, 1) := by decide +kernel
theorem dX4_time_5 : decode cX4_time 5 = .ok (.invokevirtual 53, 3) := by decide +kernel
theorem dX4_time_8 : decode cX4_time 8 = .ok (.ifCond .eq 10, 3) := by decide +kernel
theorem dX4_time_11 : decode cX4_time 11 = .ok (.iload_n 2, 1) := by decide +kernel
theorem dX4_time_12 : decode cX4_time 12 = .ok (.invokestatic 49, 3) := by decide +kernel
theorem dX4_time_15 : decode cX4_time 15 = .ok (.ifCond .ne 5, 3) := by decide +kernel
theorem dX4_time_18 : decode cX4_time 18 = .ok (.iconst (-1), 1) := by decide +kernel
theorem dX4_time_19 : decode cX4_time 19 = .ok (.ireturn, 1) := by decide +kernel
theorem dX4_time_20 : decode cX4_time 20 = .ok (.iload_n 2, 1) := by decide +kernel
theorem dX4_time_21 : decode cX4_time 21 = .ok (.ifCond .eq 22, 3) := by decide +kernel
theorem dX4_time_24 : decode cX4_time 24 = .ok (.iload_n 2, 1) := by decide +kernel
theorem dX4_time_25 : decode cX4_time 25 = .ok (.aload_n 0, 1) := by decide +kernel
theorem dX4_time_26 : decode cX4_time 26 = .ok (.getfield 10, 3) := by decide +kernel
theorem dX4_time_29 : decode cX4_time 29 = .ok (.getfield 63, 3) := by decide +kernel
theorem dX4_time_32 : decode cX4_time 32 = .ok (.iload_n 1, 1) := by decide +kernel
theorem dX4_time_33 : decode cX4_time 33 = .ok (.iaload, 1) := by decide +kernel
theorem dX4_time_34 : decode cX4_time 34 = .ok (.if_icmp .eq 9, 3) := by decide +kernel
theorem dX4_time_37 : decode cX4_time 37 = .ok (.aload_n 0, 1) := by decide +kernel
theorem dX4_time_38 : decode cX4_time 38 = .ok (.iconst 3, 1) := by decide +kernel
theorem dX4_time_39 : decode cX4_time 39 = .ok (.invokevirtual 66, 3) := by decide +kernel
theorem dX4_time_42 : decode cX4_time 42 = .ok (.ireturn, 1) := by decide +kernel
theorem dX4_time_43 : decode cX4_time 43 = .ok (.aload_n 0, 1) := by decide +kernel
theorem dX4_time_44 : decode cX4_time 44 = .ok (.getfield 10, 3) := by decide +kernel
theorem dX4_time_47 : decode cX4_time 47 = .ok (.getfield 100, 3) := by decide +kernel
theorem dX4_time_50 : decode cX4_time 50 = .ok (.iload_n 1, 1) := by decide +kernel
theorem dX4_time_51 : decode cX4_time 51 = .ok (.iaload, 1) := by decide +kernel
theorem dX4_time_52 : decode cX4_time 52 = .ok (.ireturn, 1) := by decide +kernel
set_option maxRecDepth 20000 in
theorem ggX4_build_X1_drop : GoodIn wsX4_build wsX1_drop := goodIn_r _ [8, 9, 10, 11, 12, 13, 14, 33, 34, 35, 36, 37, 38, 39] (by decide +kernel) (by decide +kernel)
set_option maxRecDepth 20000 in
theorem gX4_build_X1_drop : GoodIn wsX4_build (wsV RX4 104 RX1 yX1_drop wsX1_drop) := goodIn_app (goodIn_of _ (by decide +kernel)) ggX4_build_X1_drop
set_option maxRecDepth 20000 in
theorem ggX4_build_X0_add : GoodIn wsX4_build wsX0_add := goodIn_r _ [19, 20, 21, 29, 30, 31, 32] (by decide +kernel) (by decide +kernel)
set_option maxRecDepth 20000 in
theorem gX4_build_X0_add : GoodIn wsX4_build (wsV RX4 107 RX0 yX0_add wsX0_add) := goodIn_app (goodIn_of _ (by decide +kernel)) ggX4_build_X0_add
theorem dX4_build_0 : decode cX4_build 0 = .ok (.lload_n 1, 1) := by decide +kernel
theorem dX4_build_1 : decode cX4_build 1 = .ok (.bipush 40, 2) := by decide +kernel
theorem dX4_build_3 : decode cX4_build 3 = .ok (.lushr, 1) := by decide +kernel
theorem dX4_build_4 : decode cX4_build 4 = .ok (.lconst 0, 1) := by decide +kernel
theorem dX4_build_5 : decode cX4_build 5 = .ok (.lcmp, 1) := by decide +kernel
theorem dX4_build_6 : decode cX4_build 6 = .ok (.ifCond .eq 5, 3) := by decide +kernel
theorem dX4_build_9 : decode cX4_build 9 = .ok (.iconst (-1), 1) := by decide +kernel
theorem dX4_build_10 : decode cX4_build 10 = .ok (.ireturn, 1) := by decide +kernel
theorem dX4_build_11 : decode cX4_build 11 = .ok (.aload_n 0, 1) := by decide +kernel
theorem dX4_build_12 : decode cX4_build 12 = .ok (.getfield 19, 3) := by decide +kernel
theorem dX4_build_15 : decode cX4_build 15 = .ok (.getfield 103, 3) := by decide +kernel
theorem dX4_build_18 : decode cX4_build 18 = .ok (.bipush 60, 2) := by decide +kernel
theorem dX4_build_20 : decode cX4_build 20 = .ok (.if_icmp .lt 6, 3) := by decide +kernel
theorem dX4_build_23 : decode cX4_build 23 = .ok (.bipush (-2), 2) := by decide +kernel
theorem dX4_build_25 : decode cX4_build 25 = .ok (.ireturn, 1) := by decide +kernel
theorem dX4_build_26 : decode cX4_build 26 = .ok (.aload_n 0, 1) := by decide +kernel
theorem dX4_build_27 : decode cX4_build 27 = .ok (.getfield 26, 3) := by decide +kernel
theorem dX4_build_30 : decode cX4_build 30 = .ok (.invokevirtual 104, 3) := by decide +kernel
theorem dX4_build_33 : decode cX4_build 33 = .ok (.aload_n 0, 1) := by decide +kernel
theorem dX4_build_34 : decode cX4_build 34 = .ok (.getfield 19, 3) := by decide +kernel
theorem dX4_build_37 : decode cX4_build 37 = .ok (.lload_n 1, 1) := by decide +kernel
theorem dX4_build_38 : decode cX4_build 38 = .ok (.invokevirtual 107, 3) := by decide +kernel
theorem dX4_build_41 : decode cX4_build 41 = .ok (.ireturn, 1) := by decide +kernel
set_option maxRecDepth 20000 in
theorem ggX4_verdict_X3_has : GoodIn wsX4_verdict wsX3_has := goodIn_r _ [8, 9, 34, 35, 36, 37, 38, 39, 40] (by decide +kernel) (by decide +kernel)
set_option maxRecDepth 20000 in
theorem gX4_verdict_X3_has : GoodIn wsX4_verdict (wsV RX4 53 RX3 yX3_has wsX3_has) := goodIn_app (goodIn_of _ (by decide +kernel)) ggX4_verdict_X3_has
set_option maxRecDepth 20000 in
theorem ggX4_verdict_X0_verdictIn : GoodIn wsX4_verdict wsX0_verdictIn := goodIn_r _ [14, 15, 16, 30, 31, 32, 33] (by decide +kernel) (by decide +kernel)
set_option maxRecDepth 20000 in
theorem gX4_verdict_X0_verdictIn : GoodIn wsX4_verdict (wsV RX4 110 RX0 yX0_verdictIn wsX0_verdictIn) := goodIn_app (goodIn_of _ (by decide +kernel)) ggX4_verdict_X0_verdictIn
set_option maxRecDepth 20000 in
theorem ggX4_verdict_X0_judge : GoodIn wsX4_verdict wsX0_judge := goodIn_r _ [20, 21, 15, 22, 16, 30, 31, 32, 33] (by decide +kernel) (by decide +kernel)
set_option maxRecDepth 20000 in
theorem gX4_verdict_X0_judge : GoodIn wsX4_verdict (wsV RX4 113 RX0 yX0_judge wsX0_judge) := goodIn_app (goodIn_of _ (by decide +kernel)) ggX4_verdict_X0_judge
theorem dX4_verdict_0 : decode cX4_verdict 0 = .ok (.aload_n 0, 1) := by decide +kernel
theorem dX4_verdict_1 : decode cX4_verdict 1 = .ok (.getfield 10, 3) := by decide +kernel
theorem dX4_verdict_4 : decode cX4_verdict 4 = .ok (.iload_n 1, 1) := by decide +kernel
theorem dX4_verdict_5 : decode cX4_verdict 5 = .ok (.invokevirtual 53, 3) := by decide +kernel
theorem dX4_verdict_8 : decode cX4_verdict 8 = .ok (.ifCond .ne 5, 3) := by decide +kernel
theorem dX4_verdict_11 : decode cX4_verdict 11 = .ok (.iconst (-1), 1) := by decide +kernel
theorem dX4_verdict_12 : decode cX4_verdict 12 = .ok (.ireturn, 1) := by decide +kernel
theorem dX4_verdict_13 : decode cX4_verdict 13 = .ok (.aload_n 0, 1) := by decide +kernel
theorem dX4_verdict_14 : decode cX4_verdict 14 = .ok (.getfield 19, 3) := by decide +kernel
theorem dX4_verdict_17 : decode cX4_verdict 17 = .ok (.getfield 103, 3) := by decide +kernel
theorem dX4_verdict_20 : decode cX4_verdict 20 = .ok (.ifCond .ne 6, 3) := by decide +kernel
theorem dX4_verdict_23 : decode cX4_verdict 23 = .ok (.bipush (-4), 2) := by decide +kernel
theorem dX4_verdict_25 : decode cX4_verdict 25 = .ok (.ireturn, 1) := by decide +kernel
theorem dX4_verdict_26 : decode cX4_verdict 26 = .ok (.aload_n 0, 1) := by decide +kernel
theorem dX4_verdict_27 : decode cX4_verdict 27 = .ok (.getfield 19, 3) := by decide +kernel
theorem dX4_verdict_30 : decode cX4_verdict 30 = .ok (.iload_n 1, 1) := by decide +kernel
theorem dX4_verdict_31 : decode cX4_verdict 31 = .ok (.aload_n 0, 1) := by decide +kernel
theorem dX4_verdict_32 : decode cX4_verdict 32 = .ok (.getfield 19, 3) := by decide +kernel
theorem dX4_verdict_35 : decode cX4_verdict 35 = .ok (.getfield 103, 3) := by decide +kernel
theorem dX4_verdict_38 : decode cX4_verdict 38 = .ok (.iconst 1, 1) := by decide +kernel
theorem dX4_verdict_39 : decode cX4_verdict 39 = .ok (.isub, 1) := by decide +kernel
theorem dX4_verdict_40 : decode cX4_verdict 40 = .ok (.invokevirtual 110, 3) := by decide +kernel
theorem dX4_verdict_43 : decode cX4_verdict 43 = .ok (.istore_n 3, 1) := by decide +kernel
theorem dX4_verdict_44 : decode cX4_verdict 44 = .ok (.aload_n 0, 1) := by decide +kernel
theorem dX4_verdict_45 : decode cX4_verdict 45 = .ok (.getfield 19, 3) := by decide +kernel
theorem dX4_verdict_48 : decode cX4_verdict 48 = .ok (.iload_n 1, 1) := by decide +kernel
theorem dX4_verdict_49 : decode cX4_verdict 49 = .ok (.iload_n 2, 1) := by decide +kernel
theorem dX4_verdict_50 : decode cX4_verdict 50 = .ok (.invokevirtual 113, 3) := by decide +kernel
theorem dX4_verdict_53 : decode cX4_verdict 53 = .ok (.iload_n 3, 1) := by decide +kernel
theorem dX4_verdict_54 : decode cX4_verdict 54 = .ok (.bipush (-9), 2) := by decide +kernel
theorem dX4_verdict_56 : decode cX4_verdict 56 = .ok (.if_icmp .ne 7, 3) := by decide +kernel
theorem dX4_verdict_59 : decode cX4_verdict 59 = .ok (.iconst 0, 1) := by decide +kernel
theorem dX4_verdict_60 : decode cX4_verdict 60 = .ok (.goto 4, 3) := by decide +kernel
theorem dX4_verdict_63 : decode cX4_verdict 63 = .ok (.iconst 1, 1) := by decide +kernel
theorem dX4_verdict_64 : decode cX4_verdict 64 = .ok (.ireturn, 1) := by decide +kernel
set_option maxRecDepth 20000 in
theorem ggX4_was_X3_has : GoodIn wsX4_was wsX3_has := goodIn_r _ [7, 8, 28, 29, 30, 31, 32, 33, 34] (by decide +kernel) (by decide +kernel)
set_option maxRecDepth 20000 in
theorem gX4_was_X3_has : GoodIn wsX4_was (wsV RX4 53 RX3 yX3_has wsX3_has) := goodIn_app (goodIn_of _ (by decide +kernel)) ggX4_was_X3_has
set_option maxRecDepth 20000 in
theorem ggX4_was_X0_has : GoodIn wsX4_was wsX0_has := goodIn_r _ [13, 14, 35, 36, 37, 38] (by decide +kernel) (by decide +kernel)
set_option maxRecDepth 20000 in
theorem gX4_was_X0_has : GoodIn wsX4_was (wsV RX4 117 RX0 yX0_has wsX0_has) := goodIn_app (goodIn_of _ (by decide +kernel)) ggX4_was_X0_has
set_option maxRecDepth 20000 in
theorem ggX4_was_X0_verdictIn : GoodIn wsX4_was wsX0_verdictIn := goodIn_r _ [18, 19, 20, 35, 36, 37, 38] (by decide +kernel) (by decide +kernel)
set_option maxRecDepth 20000 in
theorem gX4_was_X0_verdictIn : GoodIn wsX4_was (wsV RX4 110 RX0 yX0_verdictIn wsX0_verdictIn) := goodIn_app (goodIn_of _ (by decide +kernel)) ggX4_was_X0_verdictIn
theorem dX4_was_0 : decode cX4_was 0 = .ok (.aload_n 0, 1) := by decide +kernel
theorem dX4_was_1 : decode cX4_was 1 = .ok (.getfield 10, 3) := by decide +kernel
theorem dX4_was_4 : decode cX4_was 4 = .ok (.iload_n 1, 1) := by decide +kernel
theorem dX4_was_5 : decode cX4_was 5 = .ok (.invokevirtual 53, 3) := by decide +kernel
theorem dX4_was_8 : decode cX4_was 8 = .ok (.ifCond .eq 14, 3) := by decide +kernel
theorem dX4_was_11 : decode cX4_was 11 = .ok (.aload_n 0, 1) := by decide +kernel
theorem dX4_was_12 : decode cX4_was 12 = .ok (.getfield 19, 3) := by decide +kernel
theorem dX4_was_15 : decode cX4_was 15 = .ok (.iload_n 2, 1) := by decide +kernel
theorem dX4_was_16 : decode cX4_was 16 = .ok (.invokevirtual 117, 3) := by decide +kernel
theorem dX4_was_19 : decode cX4_was 19 = .ok (.ifCond .ne 5, 3) := by decide +kernel
theorem dX4_was_22 : decode cX4_was 22 = .ok (.iconst (-1), 1) := by decide +kernel
theorem dX4_was_23 : decode cX4_was 23 = .ok (.ireturn, 1) := by decide +kernel
theorem dX4_was_24 : decode cX4_was 24 = .ok (.aload_n 0, 1) := by decide +kernel
theorem dX4_was_25 : decode cX4_was 25 = .ok (.getfield 19, 3) := by decide +kernel
theorem dX4_was_28 : decode cX4_was 28 = .ok (.iload_n 1, 1) := by decide +kernel
theorem dX4_was_29 : decode cX4_was 29 = .ok (.iload_n 2, 1) := by decide +kernel
theorem dX4_was_30 : decode cX4_was 30 = .ok (.invokevirtual 110, 3) := by decide +kernel
theorem dX4_was_33 : decode cX4_was 33 = .ok (.ireturn, 1) := by decide +kernel
set_option maxRecDepth 20000 in
theorem ggX4_change_X0_has : GoodIn wsX4_change wsX0_has := goodIn_r _ [8, 9, 17, 18, 19, 20] (by decide +kernel) (by decide +kernel)
set_option maxRecDepth 20000 in
theorem gX4_change_X0_has : GoodIn wsX4_change (wsV RX4 117 RX0 yX0_has wsX0_has) := goodIn_app (goodIn_of _ (by decide +kernel)) ggX4_change_X0_has
theorem dX4_change_0 : decode cX4_change 0 = .ok (.aload_n 0, 1) := by decide +kernel
theorem dX4_change_1 : decode cX4_change 1 = .ok (.getfield 19, 3) := by decide +kernel
theorem dX4_change_4 : decode cX4_change 4 = .ok (.iload_n 1, 1) := by decide +kernel
theorem dX4_change_5 : decode cX4_change 5 = .ok (.invokevirtual 117, 3) := by decide +kernel
theorem dX4_change_8 : decode cX4_change 8 = .ok (.ifCond .ne 5, 3) := by decide +kernel
theorem dX4_change_11 : decode cX4_change 11 = .ok (.iconst (-1), 1) := by decide +kernel
theorem dX4_change_12 : decode cX4_change 12 = .ok (.ireturn, 1) := by decide +kernel
theorem dX4_change_13 : decode cX4_change 13 = .ok (.aload_n 0, 1) := by decide +kernel
theorem dX4_change_14 : decode cX4_change 14 = .ok (.aload_n 0, 1) := by decide +kernel
theorem dX4_change_15 : decode cX4_change 15 = .ok (.getfield 19, 3) := by decide +kernel
theorem dX4_change_18 : decode cX4_change 18 = .ok (.getfield 118, 3) := by decide +kernel
theorem dX4_change_21 : decode cX4_change 21 = .ok (.iload_n 1, 1) := by decide +kernel
theorem dX4_change_22 : decode cX4_change 22 = .ok (.laload, 1) := by decide +kernel
theorem dX4_change_23 : decode cX4_change 23 = .ok (.putfield 45, 3) := by decide +kernel
theorem dX4_change_26 : decode cX4_change 26 = .ok (.iconst 1, 1) := by decide +kernel
theorem dX4_change_27 : decode cX4_change 27 = .ok (.ireturn, 1) := by decide +kernel
set_option maxRecDepth 20000 in
theorem ggX4_often_X3_has : GoodIn wsX4_often wsX3_has := goodIn_r _ [10, 11, 30, 31, 32, 33, 34, 35, 36] (by decide +kernel) (by decide +kernel)
set_option maxRecDepth 20000 in
theorem gX4_often_X3_has : GoodIn wsX4_often (wsV RX4 53 RX3 yX3_has wsX3_has) := goodIn_app (goodIn_of _ (by decide +kernel)) ggX4_often_X3_has
set_option maxRecDepth 20000 in
theorem ggX4_often_J13_bitCount_95d88 : GoodIn wsX4_often wsJ13_bitCount_95d88 := goodIn_r _ [15, 16, 17, 18] (by decide +kernel) (by decide +kernel)
set_option maxRecDepth 20000 in
theorem gX4_often_J13_bitCount_95d88 : GoodIn wsX4_often (va_wsS RX4 124 yJ13_bitCount_95d88 wsJ13_bitCount_95d88) := goodIn_app (goodIn_of _ (by decide +kernel)) ggX4_often_J13_bitCount_95d88
theorem dX4_often_0 : decode cX4_often 0 = .ok (.aload_n 0, 1) := by decide +kernel
theorem dX4_often_1 : decode cX4_often 1 = .ok (.getfield 10, 3) := by decide +kernel
theorem dX4_often_4 : decode cX4_often 4 = .ok (.iload_n 1, 1) := by decide +kernel
theorem dX4_often_5 : decode cX4_often 5 = .ok (.invokevirtual 53, 3) := by decide +kernel
theorem dX4_often_8 : decode cX4_often 8 = .ok (.ifCond .eq 12, 3) := by decide +kernel
theorem dX4_often_11 : decode cX4_often 11 = .ok (.iload_n 2, 1) := by decide +kernel
theorem dX4_often_12 : decode cX4_often 12 = .ok (.ifCond .lt 8, 3) := by decide +kernel
theorem dX4_often_15 : decode cX4_often 15 = .ok (.iload_n 2, 1) := by decide +kernel
theorem dX4_often_16 : decode cX4_often 16 = .ok (.iconst 2, 1) := by decide +kernel
theorem dX4_often_17 : decode cX4_often 17 = .ok (.if_icmp .le 5, 3) := by decide +kernel
theorem dX4_often_20 : decode cX4_often 20 = .ok (.iconst (-1), 1) := by decide +kernel
theorem dX4_often_21 : decode cX4_often 21 = .ok (.ireturn, 1) := by decide +kernel
theorem dX4_often_22 : decode cX4_often 22 = .ok (.aload_n 0, 1) := by decide +kernel
theorem dX4_often_23 : decode cX4_often 23 = .ok (.getfield 19, 3) := by decide +kernel
theorem dX4_often_26 : decode cX4_often 26 = .ok (.getfield 121, 3) := by decide +kernel
theorem dX4_often_29 : decode cX4_often 29 = .ok (.iload_n 1, 1) := by decide +kernel
theorem dX4_often_30 : decode cX4_often 30 = .ok (.laload, 1) := by decide +kernel
theorem dX4_often_31 : decode cX4_often 31 = .ok (.invokestatic 124, 3) := by decide +kernel
theorem dX4_often_34 : decode cX4_often 34 = .ok (.istore_n 3, 1) := by decide +kernel
theorem dX4_often_35 : decode cX4_often 35 = .ok (.aload_n 0, 1) := by decide +kernel
theorem dX4_often_36 : decode cX4_often 36 = .ok (.getfield 19, 3) := by decide +kernel
theorem dX4_often_39 : decode cX4_often 39 = .ok (.getfield 129, 3) := by decide +kernel
theorem dX4_often_42 : decode cX4_often 42 = .ok (.iload_n 1, 1) := by decide +kernel
theorem dX4_often_43 : decode cX4_often 43 = .ok (.laload, 1) := by decide +kernel
theorem dX4_often_44 : decode cX4_often 44 = .ok (.invokestatic 124, 3) := by decide +kernel
theorem dX4_often_47 : decode cX4_often 47 = .ok (.istore 4, 2) := by decide +kernel
theorem dX4_often_49 : decode cX4_often 49 = .ok (.iload_n 2, 1) := by decide +kernel
theorem dX4_often_50 : decode cX4_often 50 = .ok (.ifCond .ne 5, 3) := by decide +kernel
theorem dX4_often_53 : decode cX4_often 53 = .ok (.iload_n 3, 1) := by decide +kernel
theorem dX4_often_54 : decode cX4_often 54 = .ok (.ireturn, 1) := by decide +kernel
theorem dX4_often_55 : decode cX4_often 55 = .ok (.iload_n 2, 1) := by decide +kernel
theorem dX4_often_56 : decode cX4_often 56 = .ok (.iconst 1, 1) := by decide +kernel
theorem dX4_often_57 : decode cX4_often 57 = .ok (.if_icmp .ne 8, 3) := by decide +kernel
theorem dX4_often_60 : decode cX4_often 60 = .ok (.iload 4, 2) := by decide +kernel
theorem dX4_often_62 : decode cX4_often 62 = .ok (.goto 15, 3) := by decide +kernel
theorem dX4_often_65 : decode cX4_often 65 = .ok (.aload_n 0, 1) := by decide +kernel
theorem dX4_often_66 : decode cX4_often 66 = .ok (.getfield 19, 3) := by decide +kernel
theorem dX4_often_69 : decode cX4_often 69 = .ok (.getfield 103, 3) := by decide +kernel
theorem dX4_often_72 : decode cX4_often 72 = .ok (.iload_n 3, 1) := by decide +kernel
theorem dX4_often_73 : decode cX4_often 73 = .ok (.isub, 1) := by decide +kernel
theorem dX4_often_74 : decode cX4_often 74 = .ok (.iload 4, 2) := by decide +kernel
theorem dX4_often_76 : decode cX4_often 76 = .ok (.isub, 1) := by decide +kernel
theorem dX4_often_77 : decode cX4_often 77 = .ok (.ireturn, 1) := by decide +kernel
set_option maxRecDepth 20000 in
theorem ggX4_pick_X4_isSpan : GoodIn wsX4_pick wsX4_isSpan := goodIn_r _ [12] (by decide +kernel) (by decide +kernel)
set_option maxRecDepth 20000 in
theorem gX4_pick_X4_isSpan : GoodIn wsX4_pick (va_wsS RX4 132 yX4_isSpan wsX4_isSpan) := goodIn_app (goodIn_of _ (by decide +kernel)) ggX4_pick_X4_isSpan
set_option maxRecDepth 20000 in
theorem ggX4_pick_X0_presentChange : GoodIn wsX4_pick wsX0_presentChange := goodIn_r _ [17, 18, 19, 100, 101, 102, 103] (by decide +kernel) (by decide +kernel)
set_option maxRecDepth 20000 in
theorem gX4_pick_X0_presentChange : GoodIn wsX4_pick (wsV RX4 135 RX0 yX0_presentChange wsX0_presentChange) := goodIn_app (goodIn_of _ (by decide +kernel)) ggX4_pick_X0_presentChange
set_option maxRecDepth 20000 in
theorem ggX4_pick_X1_begin : GoodIn wsX4_pick wsX1_begin := goodIn_r _ [24, 25, 26, 27, 28, 29, 23, 30, 31, 32, 33, 34, 111, 112, 113, 114, 115, 116, 117] (by decide +kernel) (by decide +kernel)
set_option maxRecDepth 20000 in
theorem gX4_pick_X1_begin : GoodIn wsX4_pick (wsV RX4 139 RX1 yX1_begin wsX1_begin) := goodIn_app (goodIn_of _ (by decide +kernel)) ggX4_pick_X1_begin
set_option maxRecDepth 20000 in
theorem ggX4_pick_X3_pickable : GoodIn wsX4_pick wsX3_pickable := goodIn_r _ [39, 40, 41, 42, 43, 104, 105, 106, 107, 108, 109, 110] (by decide +kernel) (by decide +kernel)
set_option maxRecDepth 20000 in
theorem gX4_pick_X3_pickable : GoodIn wsX4_pick (wsV RX4 143 RX3 yX3_pickable wsX3_pickable) := goodIn_app (goodIn_of _ (by decide +kernel)) ggX4_pick_X3_pickable
set_option maxRecDepth 20000 in
theorem ggX4_pick_X4_worthiest : GoodIn wsX4_pick wsX4_worthiest := goodIn_r _ [47, 4, 5, 48, 3, 6, 49, 50, 51, 1, 52, 53, 11, 54, 55, 56, 57, 38, 58, 40, 59, 60, 61, 62, 41, 63, 64, 65, 66, 67, 68, 69, 70, 71, 72, 73, 74, 75, 76, 77, 78, 16, 79, 18, 80, 81, 93, 94, 95, 96, 97, 98, 99, 104, 105, 106, 107, 108, 109, 110, 111, 112, 113, 114, 115, 116, 117, 100, 101, 102, 103] (by decide +kernel) (by decide +kernel)
set_option maxRecDepth 20000 in
theorem gX4_pick_X4_worthiest : GoodIn wsX4_pick (wsV RX4 153 RX4 yX4_worthiest wsX4_worthiest) := goodIn_app (goodIn_of _ (by decide +kernel)) ggX4_pick_X4_worthiest
set_option maxRecDepth 20000 in
theorem ggX4_pick_X4_takeChain : GoodIn wsX4_pick wsX4_takeChain := goodIn_r _ [85, 4, 48, 3, 6, 5, 86, 52, 53, 11, 54, 87, 60, 61, 38, 62, 41, 63, 88, 89, 90, 23, 91, 31, 92, 32, 33, 34, 93, 94, 95, 96, 97, 98, 99, 104, 105, 106, 107, 108, 109, 110, 111, 112, 113, 114, 115, 116, 117] (by decide +kernel) (by decide +kernel)
set_option maxRecDepth 20000 in
theorem gX4_pick_X4_takeChain : GoodIn wsX4_pick (wsV RX4 156 RX4 yX4_takeChain wsX4_takeChain) := goodIn_app (goodIn_of _ (by decide +kernel)) ggX4_pick_X4_takeChain
theorem dX4_pick_0 : decode cX4_pick 0 = .ok (.iload_n 1, 1) := by decide +kernel
theorem dX4_pick_1 : decode cX4_pick 1 = .ok (.invokestatic 132, 3) := by decide +kernel
theorem dX4_pick_4 : decode cX4_pick 4 = .ok (.ifCond .ne 5, 3) := by decide +kernel
theorem dX4_pick_7 : decode cX4_pick 7 = .ok (.iconst (-1), 1) := by decide +kernel
theorem dX4_pick_8 : decode cX4_pick 8 = .ok (.ireturn, 1) := by decide +kernel
theorem dX4_pick_9 : decode cX4_pick 9 = .ok (.aload_n 0, 1) := by decide +kernel
theorem dX4_pick_10 : decode cX4_pick 10 = .ok (.getfield 19, 3) := by decide +kernel
theorem dX4_pick_13 : decode cX4_pick 13 = .ok (.getfield 103, 3) := by decide +kernel
theorem dX4_pick_16 : decode cX4_pick 16 = .ok (.ifCond .ne 6, 3) := by decide +kernel
theorem dX4_pick_19 : decode cX4_pick 19 = .ok (.bipush (-4), 2) := by decide +kernel
theorem dX4_pick_21 : decode cX4_pick 21 = .ok (.ireturn, 1) := by decide +kernel
theorem dX4_pick_22 : decode cX4_pick 22 = .ok (.aload_n 0, 1) := by decide +kernel
theorem dX4_pick_23 : decode cX4_pick 23 = .ok (.getfield 26, 3) := by decide +kernel
theorem dX4_pick_26 : decode cX4_pick 26 = .ok (.aload_n 0, 1) := by decide +kernel
theorem dX4_pick_27 : decode cX4_pick 27 = .ok (.getfield 19, 3) := by decide +kernel
theorem dX4_pick_30 : decode cX4_pick 30 = .ok (.invokevirtual 135, 3) := by decide +kernel
theorem dX4_pick_33 : decode cX4_pick 33 = .ok (.invokevirtual 139, 3) := by decide +kernel
theorem dX4_pick_36 : decode cX4_pick 36 = .ok (.aload_n 0, 1) := by decide +kernel
theorem dX4_pick_37 : decode cX4_pick 37 = .ok (.getfield 10, 3) := by decide +kernel
theorem dX4_pick_40 : decode cX4_pick 40 = .ok (.invokevirtual 143, 3) := by decide +kernel
theorem dX4_pick_43 : decode cX4_pick 43 = .ok (.istore_n 2, 1) := by decide +kernel
theorem dX4_pick_44 : decode cX4_pick 44 = .ok (.iconst 0, 1) := by decide +kernel
theorem dX4_pick_45 : decode cX4_pick 45 = .ok (.istore_n 3, 1) := by decide +kernel
theorem dX4_pick_46 : decode cX4_pick 46 = .ok (.iload_n 3, 1) := by decide +kernel
theorem dX4_pick_47 : decode cX4_pick 47 = .ok (.aload_n 0, 1) := by decide +kernel
theorem dX4_pick_48 : decode cX4_pick 48 = .ok (.getfield 10, 3) := by decide +kernel
theorem dX4_pick_51 : decode cX4_pick 51 = .ok (.getfield 56, 3) := by decide +kernel
theorem dX4_pick_54 : decode cX4_pick 54 = .ok (.if_icmp .ge 51, 3) := by decide +kernel
theorem dX4_pick_57 : decode cX4_pick 57 = .ok (.aload_n 0, 1) := by decide +kernel
theorem dX4_pick_58 : decode cX4_pick 58 = .ok (.iload_n 2, 1) := by decide +kernel
theorem dX4_pick_59 : decode cX4_pick 59 = .ok (.aload_n 0, 1) := by decide +kernel
theorem dX4_pick_60 : decode cX4_pick 60 = .ok (.getfield 26, 3) := by decide +kernel
theorem dX4_pick_63 : decode cX4_pick 63 = .ok (.getfield 147, 3) := by decide +kernel
theorem dX4_pick_66 : decode cX4_pick 66 = .ok (.iconst (-1), 1) := by decide +kernel
theorem dX4_pick_67 : decode cX4_pick 67 = .ok (.ixor, 1) := by decide +kernel
theorem dX4_pick_68 : decode cX4_pick 68 = .ok (.iand, 1) := by decide +kernel
theorem dX4_pick_69 : decode cX4_pick 69 = .ok (.iload_n 1, 1) := by decide +kernel
theorem dX4_pick_70 : decode cX4_pick 70 = .ok (.aload_n 0, 1) := by decide +kernel
theorem dX4_pick_71 : decode cX4_pick 71 = .ok (.getfield 26, 3) := by decide +kernel
theorem dX4_pick_74 : decode cX4_pick 74 = .ok (.getfield 150, 3) := by decide +kernel
theorem dX4_pick_77 : decode cX4_pick 77 = .ok (.isub, 1) := by decide +kernel
theorem dX4_pick_78 : decode cX4_pick 78 = .ok (.invokevirtual 153, 3) := by decide +kernel
theorem dX4_pick_81 : decode cX4_pick 81 = .ok (.istore 4, 2) := by decide +kernel
theorem dX4_pick_83 : decode cX4_pick 83 = .ok (.iload 4, 2) := by decide +kernel
theorem dX4_pick_85 : decode cX4_pick 85 = .ok (.bipush (-9), 2) := by decide +kernel
theorem dX4_pick_87 : decode cX4_pick 87 = .ok (.if_icmp .ne 6, 3) := by decide +kernel
theorem dX4_pick_90 : decode cX4_pick 90 = .ok (.goto 15, 3) := by decide +kernel
theorem dX4_pick_93 : decode cX4_pick 93 = .ok (.aload_n 0, 1) := by decide +kernel
theorem dX4_pick_94 : decode cX4_pick 94 = .ok (.iload 4, 2) := by decide +kernel
theorem dX4_pick_96 : decode cX4_pick 96 = .ok (.invokevirtual 156, 3) := by decide +kernel
theorem dX4_pick_99 : decode cX4_pick 99 = .ok (.iinc 3 1, 3) := by decide +kernel
theorem dX4_pick_102 : decode cX4_pick 102 = .ok (.goto (-56), 3) := by decide +kernel
theorem dX4_pick_105 : decode cX4_pick 105 = .ok (.aload_n 0, 1) := by decide +kernel
theorem dX4_pick_106 : decode cX4_pick 106 = .ok (.getfield 26, 3) := by decide +kernel
theorem dX4_pick_109 : decode cX4_pick 109 = .ok (.getfield 160, 3) := by decide +kernel
theorem dX4_pick_112 : decode cX4_pick 112 = .ok (.ireturn, 1) := by decide +kernel
theorem dX4_picked_0 : decode cX4_picked 0 = .ok (.aload_n 0, 1) := by decide +kernel
theorem dX4_picked_1 : decode cX4_picked 1 = .ok (.getfield 26, 3) := by decide +kernel
theorem dX4_picked_4 : decode cX4_picked 4 = .ok (.getfield 161, 3) := by decide +kernel
theorem dX4_picked_7 : decode cX4_picked 7 = .ok (.ifCond .eq 18, 3) := by decide +kernel
theorem dX4_picked_10 : decode cX4_picked 10 = .ok (.iload_n 1, 1) := by decide +kernel
theorem dX4_picked_11 : decode cX4_picked 11 = .ok (.ifCond .lt 14, 3) := by decide +kernel
theorem dX4_picked_14 : decode cX4_picked 14 = .ok (.iload_n 1, 1) := by decide +kernel
theorem dX4_picked_15 : decode cX4_picked 15 = .ok (.aload_n 0, 1) := by decide +kernel
theorem dX4_picked_16 : decode cX4_picked 16 = .ok (.getfield 26, 3) := by decide +kernel
theorem dX4_picked_19 : decode cX4_picked 19 = .ok (.getfield 160, 3) := by decide +kernel
theorem dX4_picked_22 : decode cX4_picked 22 = .ok (.if_icmp .lt 6, 3) := by decide +kernel
theorem dX4_picked_25 : decode cX4_picked 25 = .ok (.bipush (-9), 2) := by decide +kernel
theorem dX4_picked_27 : decode cX4_picked 27 = .ok (.ireturn, 1) := by decide +kernel
theorem dX4_picked_28 : decode cX4_picked 28 = .ok (.aload_n 0, 1) := by decide +kernel
theorem dX4_picked_29 : decode cX4_picked 29 = .ok (.getfield 26, 3) := by decide +kernel
theorem dX4_picked_32 : decode cX4_picked 32 = .ok (.getfield 165, 3) := by decide +kernel
theorem dX4_picked_35 : decode cX4_picked 35 = .ok (.iload_n 1, 1) := by decide +kernel
theorem dX4_picked_36 : decode cX4_picked 36 = .ok (.iaload, 1) := by decide +kernel
theorem dX4_picked_37 : decode cX4_picked 37 = .ok (.ireturn, 1) := by decide +kernel
set_option maxRecDepth 20000 in
theorem ggX4_about_X1_partsSeen : GoodIn wsX4_about wsX1_partsSeen := goodIn_r _ [9, 10, 11, 12, 13, 14, 15, 16, 17, 18, 26, 27, 28, 29, 30, 31, 32] (by decide +kernel) (by decide +kernel)
set_option maxRecDepth 20000 in
theorem gX4_about_X1_partsSeen : GoodIn wsX4_about (wsV RX4 168 RX1 yX1_partsSeen wsX1_partsSeen) := goodIn_app (goodIn_of _ (by decide +kernel)) ggX4_about_X1_partsSeen
theorem dX4_about_0 : decode cX4_about 0 = .ok (.iload_n 1, 1) := by decide +kernel
theorem dX4_about_1 : decode cX4_about 1 = .ok (.ifCond .lt 8, 3) := by decide +kernel
theorem dX4_about_4 : decode cX4_about 4 = .ok (.iload_n 1, 1) := by decide +kernel
theorem dX4_about_5 : decode cX4_about 5 = .ok (.iconst 2, 1) := by decide +kernel
theorem dX4_about_6 : decode cX4_about 6 = .ok (.if_icmp .le 5, 3) := by decide +kernel
theorem dX4_about_9 : decode cX4_about 9 = .ok (.iconst (-1), 1) := by decide +kernel
theorem dX4_about_10 : decode cX4_about 10 = .ok (.ireturn, 1) := by decide +kernel
theorem dX4_about_11 : decode cX4_about 11 = .ok (.aload_n 0, 1) := by decide +kernel
theorem dX4_about_12 : decode cX4_about 12 = .ok (.getfield 26, 3) := by decide +kernel
theorem dX4_about_15 : decode cX4_about 15 = .ok (.getfield 161, 3) := by decide +kernel
theorem dX4_about_18 : decode cX4_about 18 = .ok (.ifCond .ne 6, 3) := by decide +kernel
theorem dX4_about_21 : decode cX4_about 21 = .ok (.bipush (-9), 2) := by decide +kernel
theorem dX4_about_23 : decode cX4_about 23 = .ok (.ireturn, 1) := by decide +kernel
theorem dX4_about_24 : decode cX4_about 24 = .ok (.iload_n 1, 1) := by decide +kernel
theorem dX4_about_25 : decode cX4_about 25 = .ok (.ifCond .ne 11, 3) := by decide +kernel
theorem dX4_about_28 : decode cX4_about 28 = .ok (.aload_n 0, 1) := by decide +kernel
theorem dX4_about_29 : decode cX4_about 29 = .ok (.getfield 26, 3) := by decide +kernel
theorem dX4_about_32 : decode cX4_about 32 = .ok (.getfield 150, 3) := by decide +kernel
theorem dX4_about_35 : decode cX4_about 35 = .ok (.ireturn, 1) := by decide +kernel
theorem dX4_about_36 : decode cX4_about 36 = .ok (.iload_n 1, 1) := by decide +kernel
theorem dX4_about_37 : decode cX4_about 37 = .ok (.iconst 1, 1) := by decide +kernel
theorem dX4_about_38 : decode cX4_about 38 = .ok (.if_icmp .ne 13, 3) := by decide +kernel
theorem dX4_about_41 : decode cX4_about 41 = .ok (.aload_n 0, 1) := by decide +kernel
theorem dX4_about_42 : decode cX4_about 42 = .ok (.getfield 26, 3) := by decide +kernel
theorem dX4_about_45 : decode cX4_about 45 = .ok (.invokevirtual 168, 3) := by decide +kernel
theorem dX4_about_48 : decode cX4_about 48 = .ok (.goto 10, 3) := by decide +kernel
theorem dX4_about_51 : decode cX4_about 51 = .ok (.aload_n 0, 1) := by decide +kernel
theorem dX4_about_52 : decode cX4_about 52 = .ok (.getfield 26, 3) := by decide +kernel
theorem dX4_about_55 : decode cX4_about 55 = .ok (.getfield 147, 3) := by decide +kernel
theorem dX4_about_58 : decode cX4_about 58 = .ok (.ireturn, 1) := by decide +kernel
set_option maxRecDepth 20000 in
theorem ggX4_best_X4_isSpan : GoodIn wsX4_best wsX4_isSpan := goodIn_r _ [14] (by decide +kernel) (by decide +kernel)
set_option maxRecDepth 20000 in
theorem gX4_best_X4_isSpan : GoodIn wsX4_best (va_wsS RX4 132 yX4_isSpan wsX4_isSpan) := goodIn_app (goodIn_of _ (by decide +kernel)) ggX4_best_X4_isSpan
set_option maxRecDepth 20000 in
theorem ggX4_best_X3_pickable : GoodIn wsX4_best wsX3_pickable := goodIn_r _ [19, 20, 21, 22, 23, 110, 111, 112, 113, 114, 115, 116] (by decide +kernel) (by decide +kernel)
set_option maxRecDepth 20000 in
theorem gX4_best_X3_pickable : GoodIn wsX4_best (wsV RX4 143 RX3 yX3_pickable wsX3_pickable) := goodIn_app (goodIn_of _ (by decide +kernel)) ggX4_best_X3_pickable
set_option maxRecDepth 20000 in
theorem ggX4_best_J6_bitCount_0f7a4 : GoodIn wsX4_best wsJ6_bitCount_0f7a4 := goodIn_r _ [27, 28, 29, 30] (by decide +kernel) (by decide +kernel)
set_option maxRecDepth 20000 in
theorem gX4_best_J6_bitCount_0f7a4 : GoodIn wsX4_best (va_wsS RX4 171 yJ6_bitCount_0f7a4 wsJ6_bitCount_0f7a4) := goodIn_app (goodIn_of _ (by decide +kernel)) ggX4_best_J6_bitCount_0f7a4
set_option maxRecDepth 20000 in
theorem ggX4_best_X0_presentChange : GoodIn wsX4_best wsX0_presentChange := goodIn_r _ [35, 36, 37, 106, 107, 108, 109] (by decide +kernel) (by decide +kernel)
set_option maxRecDepth 20000 in
theorem gX4_best_X0_presentChange : GoodIn wsX4_best (wsV RX4 135 RX0 yX0_presentChange wsX0_presentChange) := goodIn_app (goodIn_of _ (by decide +kernel)) ggX4_best_X0_presentChange
set_option maxRecDepth 20000 in
theorem ggX4_best_X2_begin : GoodIn wsX4_best wsX2_begin := goodIn_r _ [42, 43, 44, 45, 46, 117, 118, 119, 120, 121, 122, 123, 124, 125, 126, 127, 128] (by decide +kernel) (by decide +kernel)
set_option maxRecDepth 20000 in
theorem gX4_best_X2_begin : GoodIn wsX4_best (wsV RX4 175 RX2 yX2_begin wsX2_begin) := goodIn_app (goodIn_of _ (by decide +kernel)) ggX4_best_X2_begin
set_option maxRecDepth 20000 in
theorem ggX4_best_X4_isIn : GoodIn wsX4_best wsX4_isIn := goodIn_r _ [49] (by decide +kernel) (by decide +kernel)
set_option maxRecDepth 20000 in
theorem gX4_best_X4_isIn : GoodIn wsX4_best (va_wsS RX4 177 yX4_isIn wsX4_isIn) := goodIn_app (goodIn_of _ (by decide +kernel)) ggX4_best_X4_isIn
set_option maxRecDepth 20000 in
theorem ggX4_best_X3_countedTime : GoodIn wsX4_best wsX3_countedTime := goodIn_r _ [53, 21, 54, 110, 111, 112, 113, 114, 115, 116] (by decide +kernel) (by decide +kernel)
set_option maxRecDepth 20000 in
theorem gX4_best_X3_countedTime : GoodIn wsX4_best (wsV RX4 183 RX3 yX3_countedTime wsX3_countedTime) := goodIn_app (goodIn_of _ (by decide +kernel)) ggX4_best_X3_countedTime
set_option maxRecDepth 20000 in
theorem ggX4_best_X2_add : GoodIn wsX4_best wsX2_add := goodIn_r _ [58, 43, 59, 60, 61, 62, 117, 118, 119, 120, 121, 122, 123, 124, 125, 126, 127, 128] (by decide +kernel) (by decide +kernel)
set_option maxRecDepth 20000 in
theorem gX4_best_X2_add : GoodIn wsX4_best (wsV RX4 186 RX2 yX2_add wsX2_add) := goodIn_app (goodIn_of _ (by decide +kernel)) ggX4_best_X2_add
set_option maxRecDepth 20000 in
theorem ggX4_best_X2_seekWidest : GoodIn wsX4_best wsX2_seekWidest := goodIn_r _ [66, 43, 67, 68, 69, 70, 71, 72, 41, 73, 74, 75, 76, 77, 59, 60, 61, 78, 62, 79, 80, 26, 81, 82, 83, 84, 85, 86, 46, 45, 87, 88, 89, 90, 91, 92, 93, 94, 95, 96, 97, 44, 117, 118, 119, 120, 121, 122, 123, 124, 125, 126, 127, 128] (by decide +kernel) (by decide +kernel)
set_option maxRecDepth 20000 in
theorem gX4_best_X2_seekWidest : GoodIn wsX4_best (wsV RX4 189 RX2 yX2_seekWidest wsX2_seekWidest) := goodIn_app (goodIn_of _ (by decide +kernel)) ggX4_best_X2_seekWidest
set_option maxRecDepth 20000 in
theorem ggX4_best_J13_bitCount_95d88 : GoodIn wsX4_best wsJ13_bitCount_95d88 := goodIn_r _ [90, 91, 92, 93] (by decide +kernel) (by decide +kernel)
set_option maxRecDepth 20000 in
theorem gX4_best_J13_bitCount_95d88 : GoodIn wsX4_best (va_wsS RX4 124 yJ13_bitCount_95d88 wsJ13_bitCount_95d88) := goodIn_app (goodIn_of _ (by decide +kernel)) ggX4_best_J13_bitCount_95d88
theorem dX4_best_0 : decode cX4_best 0 = .ok (.iload_n 1, 1) := by decide +kernel
theorem dX4_best_1 : decode cX4_best 1 = .ok (.invokestatic 132, 3) := by decide +kernel
theorem dX4_best_4 : decode cX4_best 4 = .ok (.ifCond .ne 5, 3) := by decide +kernel
theorem dX4_best_7 : decode cX4_best 7 = .ok (.iconst (-1), 1) := by decide +kernel
theorem dX4_best_8 : decode cX4_best 8 = .ok (.ireturn, 1) := by decide +kernel
theorem dX4_best_9 : decode cX4_best 9 = .ok (.aload_n 0, 1) := by decide +kernel
theorem dX4_best_10 : decode cX4_best 10 = .ok (.getfield 19, 3) := by decide +kernel
theorem dX4_best_13 : decode cX4_best 13 = .ok (.getfield 103, 3) := by decide +kernel
theorem dX4_best_16 : decode cX4_best 16 = .ok (.ifCond .ne 6, 3) := by decide +kernel
theorem dX4_best_19 : decode cX4_best 19 = .ok (.bipush (-4), 2) := by decide +kernel
theorem dX4_best_21 : decode cX4_best 21 = .ok (.ireturn, 1) := by decide +kernel
theorem dX4_best_22 : decode cX4_best 22 = .ok (.aload_n 0, 1) := by decide +kernel
theorem dX4_best_23 : decode cX4_best 23 = .ok (.getfield 10, 3) := by decide +kernel
theorem dX4_best_26 : decode cX4_best 26 = .ok (.invokevirtual 143, 3) := by decide +kernel
theorem dX4_best_29 : decode cX4_best 29 = .ok (.istore_n 2, 1) := by decide +kernel
theorem dX4_best_30 : decode cX4_best 30 = .ok (.iload_n 2, 1) := by decide +kernel
theorem dX4_best_31 : decode cX4_best 31 = .ok (.invokestatic 171, 3) := by decide +kernel
theorem dX4_best_34 : decode cX4_best 34 = .ok (.bipush 12, 2) := by decide +kernel
theorem dX4_best_36 : decode cX4_best 36 = .ok (.if_icmp .le 6, 3) := by decide +kernel
theorem dX4_best_39 : decode cX4_best 39 = .ok (.bipush (-6), 2) := by decide +kernel
theorem dX4_best_41 : decode cX4_best 41 = .ok (.ireturn, 1) := by decide +kernel
theorem dX4_best_42 : decode cX4_best 42 = .ok (.aload_n 0, 1) := by decide +kernel
theorem dX4_best_43 : decode cX4_best 43 = .ok (.getfield 19, 3) := by decide +kernel
theorem dX4_best_46 : decode cX4_best 46 = .ok (.invokevirtual 135, 3) := by decide +kernel
theorem dX4_best_49 : decode cX4_best 49 = .ok (.lstore_n 3, 1) := by decide +kernel
theorem dX4_best_50 : decode cX4_best 50 = .ok (.aload_n 0, 1) := by decide +kernel
theorem dX4_best_51 : decode cX4_best 51 = .ok (.getfield 33, 3) := by decide +kernel
theorem dX4_best_54 : decode cX4_best 54 = .ok (.invokevirtual 175, 3) := by decide +kernel
theorem dX4_best_57 : decode cX4_best 57 = .ok (.iconst 0, 1) := by decide +kernel
theorem dX4_best_58 : decode cX4_best 58 = .ok (.istore 5, 2) := by decide +kernel
theorem dX4_best_60 : decode cX4_best 60 = .ok (.iload 5, 2) := by decide +kernel
theorem dX4_best_62 : decode cX4_best 62 = .ok (.aload_n 0, 1) := by decide +kernel
theorem dX4_best_63 : decode cX4_best 63 = .ok (.getfield 10, 3) := by decide +kernel
theorem dX4_best_66 : decode cX4_best 66 = .ok (.getfield 56, 3) := by decide +kernel
theorem dX4_best_69 : decode cX4_best 69 = .ok (.if_icmp .ge 60, 3) := by decide +kernel
theorem dX4_best_72 : decode cX4_best 72 = .ok (.iload 5, 2) := by decide +kernel
theorem dX4_best_74 : decode cX4_best 74 = .ok (.iload_n 2, 1) := by decide +kernel
theorem dX4_best_75 : decode cX4_best 75 = .ok (.invokestatic 177, 3) := by decide +kernel
theorem dX4_best_78 : decode cX4_best 78 = .ok (.ifCond .eq 45, 3) := by decide +kernel
theorem dX4_best_81 : decode cX4_best 81 = .ok (.aload_n 0, 1) := by decide +kernel
theorem dX4_best_82 : decode cX4_best 82 = .ok (.getfield 33, 3) := by decide +kernel
theorem dX4_best_85 : decode cX4_best 85 = .ok (.iconst 1, 1) := by decide +kernel
theorem dX4_best_86 : decode cX4_best 86 = .ok (.iload 5, 2) := by decide +kernel
theorem dX4_best_88 : decode cX4_best 88 = .ok (.ishl, 1) := by decide +kernel
theorem dX4_best_89 : decode cX4_best 89 = .ok (.aload_n 0, 1) := by decide +kernel
theorem dX4_best_90 : decode cX4_best 90 = .ok (.getfield 10, 3) := by decide +kernel
theorem dX4_best_93 : decode cX4_best 93 = .ok (.getfield 180, 3) := by decide +kernel
theorem dX4_best_96 : decode cX4_best 96 = .ok (.iload 5, 2) := by decide +kernel
theorem dX4_best_98 : decode cX4_best 98 = .ok (.iaload, 1) := by decide +kernel
theorem dX4_best_99 : decode cX4_best 99 = .ok (.aload_n 0, 1) := by decide +kernel
theorem dX4_best_100 : decode cX4_best 100 = .ok (.getfield 10, 3) := by decide +kernel
theorem dX4_best_103 : decode cX4_best 103 = .ok (.iload 5, 2) := by decide +kernel
theorem dX4_best_105 : decode cX4_best 105 = .ok (.invokevirtual 183, 3) := by decide +kernel
theorem dX4_best_108 : decode cX4_best 108 = .ok (.aload_n 0, 1) := by decide +kernel
theorem dX4_best_109 : decode cX4_best 109 = .ok (.getfield 10, 3) := by decide +kernel
theorem dX4_best_112 : decode cX4_best 112 = .ok (.getfield 85, 3) := by decide +kernel
theorem dX4_best_115 : decode cX4_best 115 = .ok (.iload 5, 2) := by decide +kernel
theorem dX4_best_117 : decode cX4_best 117 = .ok (.laload, 1) := by decide +kernel
theorem dX4_best_118 : decode cX4_best 118 = .ok (.lload_n 3, 1) := by decide +kernel
theorem dX4_best_119 : decode cX4_best 119 = .ok (.land, 1) := by decide +kernel
theorem dX4_best_120 : decode cX4_best 120 = .ok (.invokevirtual 186, 3) := by decide +kernel
theorem dX4_best_123 : decode cX4_best 123 = .ok (.iinc 5 1, 3) := by decide +kernel
theorem dX4_best_126 : decode cX4_best 126 = .ok (.goto (-66), 3) := by decide +kernel
theorem dX4_best_129 : decode cX4_best 129 = .ok (.aload_n 0, 1) := by decide +kernel
theorem dX4_best_130 : decode cX4_best 130 = .ok (.getfield 33, 3) := by decide +kernel
theorem dX4_best_133 : decode cX4_best 133 = .ok (.iload_n 1, 1) := by decide +kernel
theorem dX4_best_134 : decode cX4_best 134 = .ok (.invokevirtual 189, 3) := by decide +kernel
theorem dX4_best_137 : decode cX4_best 137 = .ok (.aload_n 0, 1) := by decide +kernel
theorem dX4_best_138 : decode cX4_best 138 = .ok (.aload_n 0, 1) := by decide +kernel
theorem dX4_best_139 : decode cX4_best 139 = .ok (.getfield 33, 3) := by decide +kernel
theorem dX4_best_142 : decode cX4_best 142 = .ok (.getfield 192, 3) := by decide +kernel
theorem dX4_best_145 : decode cX4_best 145 = .ok (.i2l, 1) := by decide +kernel
theorem dX4_best_146 : decode cX4_best 146 = .ok (.putfield 45, 3) := by decide +kernel
theorem dX4_best_149 : decode cX4_best 149 = .ok (.aload_n 0, 1) := by decide +kernel
theorem dX4_best_150 : decode cX4_best 150 = .ok (.getfield 33, 3) := by decide +kernel
theorem dX4_best_153 : decode cX4_best 153 = .ok (.getfield 195, 3) := by decide +kernel
theorem dX4_best_156 : decode cX4_best 156 = .ok (.invokestatic 124, 3) := by decide +kernel
theorem dX4_best_159 : decode cX4_best 159 = .ok (.ireturn, 1) := by decide +kernel
set_option maxRecDepth 20000 in
theorem ggX4_run_X3_hasAll : GoodIn wsX4_run wsX3_hasAll := goodIn_r _ [12, 13, 41, 42, 43, 44, 45, 46, 47] (by decide +kernel) (by decide +kernel)
set_option maxRecDepth 20000 in
theorem gX4_run_X3_hasAll : GoodIn wsX4_run (wsV RX4 198 RX3 yX3_hasAll wsX3_hasAll) := goodIn_app (goodIn_of _ (by decide +kernel)) ggX4_run_X3_hasAll
set_option maxRecDepth 20000 in
theorem ggX4_run_X4_isIn : GoodIn wsX4_run wsX4_isIn := goodIn_r _ [17] (by decide +kernel) (by decide +kernel)
set_option maxRecDepth 20000 in
theorem gX4_run_X4_isIn : GoodIn wsX4_run (va_wsS RX4 177 yX4_isIn wsX4_isIn) := goodIn_app (goodIn_of _ (by decide +kernel)) ggX4_run_X4_isIn
set_option maxRecDepth 20000 in
theorem ggX4_run_X0_judge : GoodIn wsX4_run wsX0_judge := goodIn_r _ [22, 23, 24, 25, 26, 48, 49, 50, 51] (by decide +kernel) (by decide +kernel)
set_option maxRecDepth 20000 in
theorem gX4_run_X0_judge : GoodIn wsX4_run (wsV RX4 113 RX0 yX0_judge wsX0_judge) := goodIn_app (goodIn_of _ (by decide +kernel)) ggX4_run_X0_judge
theorem dX4_run_0 : decode cX4_run 0 = .ok (.aload_n 0, 1) := by decide +kernel
theorem dX4_run_1 : decode cX4_run 1 = .ok (.getfield 10, 3) := by decide +kernel
theorem dX4_run_4 : decode cX4_run 4 = .ok (.iload_n 1, 1) := by decide +kernel
theorem dX4_run_5 : decode cX4_run 5 = .ok (.invokevirtual 198, 3) := by decide +kernel
theorem dX4_run_8 : decode cX4_run 8 = .ok (.ifCond .ne 5, 3) := by decide +kernel
theorem dX4_run_11 : decode cX4_run 11 = .ok (.iconst (-1), 1) := by decide +kernel
theorem dX4_run_12 : decode cX4_run 12 = .ok (.ireturn, 1) := by decide +kernel
theorem dX4_run_13 : decode cX4_run 13 = .ok (.aload_n 0, 1) := by decide +kernel
theorem dX4_run_14 : decode cX4_run 14 = .ok (.getfield 26, 3) := by decide +kernel
theorem dX4_run_17 : decode cX4_run 17 = .ok (.getfield 161, 3) := by decide +kernel
theorem dX4_run_20 : decode cX4_run 20 = .ok (.ifCond .ne 6, 3) := by decide +kernel
theorem dX4_run_23 : decode cX4_run 23 = .ok (.bipush (-4), 2) := by decide +kernel
theorem dX4_run_25 : decode cX4_run 25 = .ok (.ireturn, 1) := by decide +kernel
theorem dX4_run_26 : decode cX4_run 26 = .ok (.iconst 0, 1) := by decide +kernel
theorem dX4_run_27 : decode cX4_run 27 = .ok (.istore_n 2, 1) := by decide +kernel
theorem dX4_run_28 : decode cX4_run 28 = .ok (.iconst 0, 1) := by decide +kernel
theorem dX4_run_29 : decode cX4_run 29 = .ok (.istore_n 3, 1) := by decide +kernel
theorem dX4_run_30 : decode cX4_run 30 = .ok (.iconst 0, 1) := by decide +kernel
theorem dX4_run_31 : decode cX4_run 31 = .ok (.istore 4, 2) := by decide +kernel
theorem dX4_run_33 : decode cX4_run 33 = .ok (.iload 4, 2) := by decide +kernel
theorem dX4_run_35 : decode cX4_run 35 = .ok (.aload_n 0, 1) := by decide +kernel
theorem dX4_run_36 : decode cX4_run 36 = .ok (.getfield 26, 3) := by decide +kernel
theorem dX4_run_39 : decode cX4_run 39 = .ok (.getfield 160, 3) := by decide +kernel
theorem dX4_run_42 : decode cX4_run 42 = .ok (.if_icmp .ge 74, 3) := by decide +kernel
theorem dX4_run_45 : decode cX4_run 45 = .ok (.aload_n 0, 1) := by decide +kernel
theorem dX4_run_46 : decode cX4_run 46 = .ok (.getfield 26, 3) := by decide +kernel
theorem dX4_run_49 : decode cX4_run 49 = .ok (.getfield 165, 3) := by decide +kernel
theorem dX4_run_52 : decode cX4_run 52 = .ok (.iload 4, 2) := by decide +kernel
theorem dX4_run_54 : decode cX4_run 54 = .ok (.iaload, 1) := by decide +kernel
theorem dX4_run_55 : decode cX4_run 55 = .ok (.istore 5, 2) := by decide +kernel
theorem dX4_run_57 : decode cX4_run 57 = .ok (.aload_n 0, 1) := by decide +kernel
theorem dX4_run_58 : decode cX4_run 58 = .ok (.getfield 10, 3) := by decide +kernel
theorem dX4_run_61 : decode cX4_run 61 = .ok (.getfield 180, 3) := by decide +kernel
theorem dX4_run_64 : decode cX4_run 64 = .ok (.iload 5, 2) := by decide +kernel
theorem dX4_run_66 : decode cX4_run 66 = .ok (.iaload, 1) := by decide +kernel
theorem dX4_run_67 : decode cX4_run 67 = .ok (.iload_n 2, 1) := by decide +kernel
theorem dX4_run_68 : decode cX4_run 68 = .ok (.iand, 1) := by decide +kernel
theorem dX4_run_69 : decode cX4_run 69 = .ok (.ifCond .ne 41, 3) := by decide +kernel
theorem dX4_run_72 : decode cX4_run 72 = .ok (.iload 5, 2) := by decide +kernel
theorem dX4_run_74 : decode cX4_run 74 = .ok (.iload_n 1, 1) := by decide +kernel
theorem dX4_run_75 : decode cX4_run 75 = .ok (.invokestatic 177, 3) := by decide +kernel
theorem dX4_run_78 : decode cX4_run 78 = .ok (.istore 6, 2) := by decide +kernel
theorem dX4_run_80 : decode cX4_run 80 = .ok (.aload_n 0, 1) := by decide +kernel
theorem dX4_run_81 : decode cX4_run 81 = .ok (.getfield 19, 3) := by decide +kernel
theorem dX4_run_84 : decode cX4_run 84 = .ok (.iload 5, 2) := by decide +kernel
theorem dX4_run_86 : decode cX4_run 86 = .ok (.iload 6, 2) := by decide +kernel
theorem dX4_run_88 : decode cX4_run 88 = .ok (.invokevirtual 113, 3) := by decide +kernel
theorem dX4_run_91 : decode cX4_run 91 = .ok (.iinc 3 1, 3) := by decide +kernel
theorem dX4_run_94 : decode cX4_run 94 = .ok (.iload_n 2, 1) := by decide +kernel
theorem dX4_run_95 : decode cX4_run 95 = .ok (.iload 6, 2) := by decide +kernel
theorem dX4_run_97 : decode cX4_run 97 = .ok (.ifCond .eq 10, 3) := by decide +kernel
theorem dX4_run_100 : decode cX4_run 100 = .ok (.iconst 1, 1) := by decide +kernel
theorem dX4_run_101 : decode cX4_run 101 = .ok (.iload 5, 2) := by decide +kernel
theorem dX4_run_103 : decode cX4_run 103 = .ok (.ishl, 1) := by decide +kernel
theorem dX4_run_104 : decode cX4_run 104 = .ok (.goto 4, 3) := by decide +kernel
theorem dX4_run_107 : decode cX4_run 107 = .ok (.iconst 0, 1) := by decide +kernel
theorem dX4_run_108 : decode cX4_run 108 = .ok (.ior, 1) := by decide +kernel
theorem dX4_run_109 : decode cX4_run 109 = .ok (.istore_n 2, 1) := by decide +kernel
theorem dX4_run_110 : decode cX4_run 110 = .ok (.iinc 4 1, 3) := by decide +kernel
theorem dX4_run_113 : decode cX4_run 113 = .ok (.goto (-80), 3) := by decide +kernel
theorem dX4_run_116 : decode cX4_run 116 = .ok (.iload_n 3, 1) := by decide +kernel
theorem dX4_run_117 : decode cX4_run 117 = .ok (.ireturn, 1) := by decide +kernel
set_option maxRecDepth 20000 in
theorem ggX4_suspects_X0_verdictIn : GoodIn wsX4_suspects wsX0_verdictIn := goodIn_r _ [12, 13, 14, 45, 46, 47, 48] (by decide +kernel) (by decide +kernel)
set_option maxRecDepth 20000 in
theorem gX4_suspects_X0_verdictIn : GoodIn wsX4_suspects (wsV RX4 110 RX0 yX0_verdictIn wsX0_verdictIn) := goodIn_app (goodIn_of _ (by decide +kernel)) ggX4_suspects_X0_verdictIn
set_option maxRecDepth 20000 in
theorem ggX4_suspects_X4_isFlaky : GoodIn wsX4_suspects wsX4_isFlaky := goodIn_r _ [19, 1, 3, 5, 20, 21, 22, 11, 23, 24, 25, 26, 9, 10, 12, 13, 14, 38, 39, 40, 41, 42, 43, 44, 49, 50, 51, 52, 53, 54, 55, 45, 46, 47, 48] (by decide +kernel) (by decide +kernel)
set_option maxRecDepth 20000 in
theorem gX4_suspects_X4_isFlaky : GoodIn wsX4_suspects (wsV RX4 201 RX4 yX4_isFlaky wsX4_isFlaky) := goodIn_app (goodIn_of _ (by decide +kernel)) ggX4_suspects_X4_isFlaky
set_option maxRecDepth 20000 in
theorem ggX4_suspects_X0_presentChange : GoodIn wsX4_suspects wsX0_presentChange := goodIn_r _ [30, 24, 25, 45, 46, 47, 48] (by decide +kernel) (by decide +kernel)
set_option maxRecDepth 20000 in
theorem gX4_suspects_X0_presentChange : GoodIn wsX4_suspects (wsV RX4 135 RX0 yX0_presentChange wsX0_presentChange) := goodIn_app (goodIn_of _ (by decide +kernel)) ggX4_suspects_X0_presentChange
set_option maxRecDepth 20000 in
theorem ggX4_suspects_J13_bitCount_95d88 : GoodIn wsX4_suspects wsJ13_bitCount_95d88 := goodIn_r _ [34, 35, 36, 37] (by decide +kernel) (by decide +kernel)
set_option maxRecDepth 20000 in
theorem gX4_suspects_J13_bitCount_95d88 : GoodIn wsX4_suspects (va_wsS RX4 124 yJ13_bitCount_95d88 wsJ13_bitCount_95d88) := goodIn_app (goodIn_of _ (by decide +kernel)) ggX4_suspects_J13_bitCount_95d88
theorem dX4_suspects_0 : decode cX4_suspects 0 = .ok (.aload_n 0, 1) := by decide +kernel
theorem dX4_suspects_1 : decode cX4_suspects 1 = .ok (.getfield 19, 3) := by decide +kernel
theorem dX4_suspects_4 : decode cX4_suspects 4 = .ok (.getfield 103, 3) := by decide +kernel
theorem dX4_suspects_7 : decode cX4_suspects 7 = .ok (.ifCond .ne 6, 3) := by decide +kernel
theorem dX4_suspects_10 : decode cX4_suspects 10 = .ok (.bipush (-4), 2) := by decide +kernel
theorem dX4_suspects_12 : decode cX4_suspects 12 = .ok (.ireturn, 1) := by decide +kernel
theorem dX4_suspects_13 : decode cX4_suspects 13 = .ok (.aload_n 0, 1) := by decide +kernel
theorem dX4_suspects_14 : decode cX4_suspects 14 = .ok (.getfield 19, 3) := by decide +kernel
theorem dX4_suspects_17 : decode cX4_suspects 17 = .ok (.getfield 103, 3) := by decide +kernel
theorem dX4_suspects_20 : decode cX4_suspects 20 = .ok (.iconst 1, 1) := by decide +kernel
theorem dX4_suspects_21 : decode cX4_suspects 21 = .ok (.isub, 1) := by decide +kernel
theorem dX4_suspects_22 : decode cX4_suspects 22 = .ok (.istore_n 1, 1) := by decide +kernel
theorem dX4_suspects_23 : decode cX4_suspects 23 = .ok (.lconst 0, 1) := by decide +kernel
theorem dX4_suspects_24 : decode cX4_suspects 24 = .ok (.lstore_n 2, 1) := by decide +kernel
theorem dX4_suspects_25 : decode cX4_suspects 25 = .ok (.lconst 0, 1) := by decide +kernel
theorem dX4_suspects_26 : decode cX4_suspects 26 = .ok (.lstore 4, 2) := by decide +kernel
theorem dX4_suspects_28 : decode cX4_suspects 28 = .ok (.iconst 0, 1) := by decide +kernel
theorem dX4_suspects_29 : decode cX4_suspects 29 = .ok (.istore 6, 2) := by decide +kernel
theorem dX4_suspects_31 : decode cX4_suspects 31 = .ok (.iload 6, 2) := by decide +kernel
theorem dX4_suspects_33 : decode cX4_suspects 33 = .ok (.aload_n 0, 1) := by decide +kernel
theorem dX4_suspects_34 : decode cX4_suspects 34 = .ok (.getfield 10, 3) := by decide +kernel
theorem dX4_suspects_37 : decode cX4_suspects 37 = .ok (.getfield 56, 3) := by decide +kernel
theorem dX4_suspects_40 : decode cX4_suspects 40 = .ok (.if_icmp .ge 72, 3) := by decide +kernel
theorem dX4_suspects_43 : decode cX4_suspects 43 = .ok (.aload_n 0, 1) := by decide +kernel
theorem dX4_suspects_44 : decode cX4_suspects 44 = .ok (.getfield 19, 3) := by decide +kernel
theorem dX4_suspects_47 : decode cX4_suspects 47 = .ok (.iload 6, 2) := by decide +kernel
theorem dX4_suspects_49 : decode cX4_suspects 49 = .ok (.iload_n 1, 1) := by decide +kernel
theorem dX4_suspects_50 : decode cX4_suspects 50 = .ok (.invokevirtual 110, 3) := by decide +kernel
theorem dX4_suspects_53 : decode cX4_suspects 53 = .ok (.istore 7, 2) := by decide +kernel
theorem dX4_suspects_55 : decode cX4_suspects 55 = .ok (.iload 7, 2) := by decide +kernel
theorem dX4_suspects_57 : decode cX4_suspects 57 = .ok (.ifCond .ne 21, 3) := by decide +kernel
theorem dX4_suspects_60 : decode cX4_suspects 60 = .ok (.lload 4, 2) := by decide +kernel
theorem dX4_suspects_62 : decode cX4_suspects 62 = .ok (.aload_n 0, 1) := by decide +kernel
theorem dX4_suspects_63 : decode cX4_suspects 63 = .ok (.getfield 10, 3) := by decide +kernel
theorem dX4_suspects_66 : decode cX4_suspects 66 = .ok (.getfield 85, 3) := by decide +kernel
theorem dX4_suspects_69 : decode cX4_suspects 69 = .ok (.iload 6, 2) := by decide +kernel
theorem dX4_suspects_71 : decode cX4_suspects 71 = .ok (.laload, 1) := by decide +kernel
theorem dX4_suspects_72 : decode cX4_suspects 72 = .ok (.lor, 1) := by decide +kernel
theorem dX4_suspects_73 : decode cX4_suspects 73 = .ok (.lstore 4, 2) := by decide +kernel
theorem dX4_suspects_75 : decode cX4_suspects 75 = .ok (.goto 31, 3) := by decide +kernel
theorem dX4_suspects_78 : decode cX4_suspects 78 = .ok (.iload 7, 2) := by decide +kernel
theorem dX4_suspects_80 : decode cX4_suspects 80 = .ok (.iconst 1, 1) := by decide +kernel
theorem dX4_suspects_81 : decode cX4_suspects 81 = .ok (.if_icmp .ne 25, 3) := by decide +kernel
theorem dX4_suspects_84 : decode cX4_suspects 84 = .ok (.aload_n 0, 1) := by decide +kernel
theorem dX4_suspects_85 : decode cX4_suspects 85 = .ok (.iload 6, 2) := by decide +kernel
theorem dX4_suspects_87 : decode cX4_suspects 87 = .ok (.invokevirtual 201, 3) := by decide +kernel
theorem dX4_suspects_90 : decode cX4_suspects 90 = .ok (.ifCond .ne 16, 3) := by decide +kernel
theorem dX4_suspects_93 : decode cX4_suspects 93 = .ok (.lload_n 2, 1) := by decide +kernel
theorem dX4_suspects_94 : decode cX4_suspects 94 = .ok (.aload_n 0, 1) := by decide +kernel
theorem dX4_suspects_95 : decode cX4_suspects 95 = .ok (.getfield 10, 3) := by decide +kernel
theorem dX4_suspects_98 : decode cX4_suspects 98 = .ok (.getfield 85, 3) := by decide +kernel
theorem dX4_suspects_101 : decode cX4_suspects 101 = .ok (.iload 6, 2) := by decide +kernel
theorem dX4_suspects_103 : decode cX4_suspects 103 = .ok (.laload, 1) := by decide +kernel
theorem dX4_suspects_104 : decode cX4_suspects 104 = .ok (.lor, 1) := by decide +kernel
theorem dX4_suspects_105 : decode cX4_suspects 105 = .ok (.lstore_n 2, 1) := by decide +kernel
theorem dX4_suspects_106 : decode cX4_suspects 106 = .ok (.iinc 6 1, 3) := by decide +kernel
theorem dX4_suspects_109 : decode cX4_suspects 109 = .ok (.goto (-78), 3) := by decide +kernel
theorem dX4_suspects_112 : decode cX4_suspects 112 = .ok (.aload_n 0, 1) := by decide +kernel
theorem dX4_suspects_113 : decode cX4_suspects 113 = .ok (.lload_n 2, 1) := by decide +kernel
theorem dX4_suspects_114 : decode cX4_suspects 114 = .ok (.lload 4, 2) := by decide +kernel
theorem dX4_suspects_116 : decode cX4_suspects 116 = .ok (.ldc2_w 204, 3) := by decide +kernel
theorem dX4_suspects_119 : decode cX4_suspects 119 = .ok (.lxor, 1) := by decide +kernel
theorem dX4_suspects_120 : decode cX4_suspects 120 = .ok (.land, 1) := by decide +kernel
theorem dX4_suspects_121 : decode cX4_suspects 121 = .ok (.aload_n 0, 1) := by decide +kernel
theorem dX4_suspects_122 : decode cX4_suspects 122 = .ok (.getfield 19, 3) := by decide +kernel
theorem dX4_suspects_125 : decode cX4_suspects 125 = .ok (.invokevirtual 135, 3) := by decide +kernel
theorem dX4_suspects_128 : decode cX4_suspects 128 = .ok (.land, 1) := by decide +kernel
theorem dX4_suspects_129 : decode cX4_suspects 129 = .ok (.putfield 45, 3) := by decide +kernel
theorem dX4_suspects_132 : decode cX4_suspects 132 = .ok (.aload_n 0, 1) := by decide +kernel
theorem dX4_suspects_133 : decode cX4_suspects 133 = .ok (.getfield 45, 3) := by decide +kernel
theorem dX4_suspects_136 : decode cX4_suspects 136 = .ok (.invokestatic 124, 3) := by decide +kernel
theorem dX4_suspects_139 : decode cX4_suspects 139 = .ok (.ireturn, 1) := by decide +kernel
set_option maxRecDepth 20000 in
theorem ggX4_badWork_X0_verdictIn : GoodIn wsX4_badWork wsX0_verdictIn := goodIn_r _ [9, 10, 11, 32, 33, 34, 35] (by decide +kernel) (by decide +kernel)
set_option maxRecDepth 20000 in
theorem gX4_badWork_X0_verdictIn : GoodIn wsX4_badWork (wsV RX4 110 RX0 yX0_verdictIn wsX0_verdictIn) := goodIn_app (goodIn_of _ (by decide +kernel)) ggX4_badWork_X0_verdictIn
set_option maxRecDepth 20000 in
theorem ggX4_badWork_X4_isFlaky : GoodIn wsX4_badWork wsX4_isFlaky := goodIn_r _ [16, 1, 3, 17, 18, 19, 20, 8, 21, 22, 23, 24, 6, 7, 9, 10, 11, 25, 26, 27, 28, 29, 30, 31, 36, 37, 38, 39, 40, 41, 42, 32, 33, 34, 35] (by decide +kernel) (by decide +kernel)
set_option maxRecDepth 20000 in
theorem gX4_badWork_X4_isFlaky : GoodIn wsX4_badWork (wsV RX4 201 RX4 yX4_isFlaky wsX4_isFlaky) := goodIn_app (goodIn_of _ (by decide +kernel)) ggX4_badWork_X4_isFlaky
theorem dX4_badWork_0 : decode cX4_badWork 0 = .ok (.aload_n 0, 1) := by decide +kernel
theorem dX4_badWork_1 : decode cX4_badWork 1 = .ok (.getfield 19, 3) := by decide +kernel
theorem dX4_badWork_4 : decode cX4_badWork 4 = .ok (.getfield 103, 3) := by decide +kernel
theorem dX4_badWork_7 : decode cX4_badWork 7 = .ok (.ifCond .ne 6, 3) := by decide +kernel
theorem dX4_badWork_10 : decode cX4_badWork 10 = .ok (.bipush (-4), 2) := by decide +kernel
theorem dX4_badWork_12 : decode cX4_badWork 12 = .ok (.ireturn, 1) := by decide +kernel
theorem dX4_badWork_13 : decode cX4_badWork 13 = .ok (.aload_n 0, 1) := by decide +kernel
theorem dX4_badWork_14 : decode cX4_badWork 14 = .ok (.getfield 19, 3) := by decide +kernel
theorem dX4_badWork_17 : decode cX4_badWork 17 = .ok (.getfield 103, 3) := by decide +kernel
theorem dX4_badWork_20 : decode cX4_badWork 20 = .ok (.iconst 1, 1) := by decide +kernel
theorem dX4_badWork_21 : decode cX4_badWork 21 = .ok (.isub, 1) := by decide +kernel
theorem dX4_badWork_22 : decode cX4_badWork 22 = .ok (.istore_n 1, 1) := by decide +kernel
theorem dX4_badWork_23 : decode cX4_badWork 23 = .ok (.iconst 0, 1) := by decide +kernel
theorem dX4_badWork_24 : decode cX4_badWork 24 = .ok (.istore_n 2, 1) := by decide +kernel
theorem dX4_badWork_25 : decode cX4_badWork 25 = .ok (.iload_n 2, 1) := by decide +kernel
theorem dX4_badWork_26 : decode cX4_badWork 26 = .ok (.aload_n 0, 1) := by decide +kernel
theorem dX4_badWork_27 : decode cX4_badWork 27 = .ok (.getfield 10, 3) := by decide +kernel
theorem dX4_badWork_30 : decode cX4_badWork 30 = .ok (.getfield 56, 3) := by decide +kernel
theorem dX4_badWork_33 : decode cX4_badWork 33 = .ok (.if_icmp .ge 32, 3) := by decide +kernel
theorem dX4_badWork_36 : decode cX4_badWork 36 = .ok (.aload_n 0, 1) := by decide +kernel
theorem dX4_badWork_37 : decode cX4_badWork 37 = .ok (.getfield 19, 3) := by decide +kernel
theorem dX4_badWork_40 : decode cX4_badWork 40 = .ok (.iload_n 2, 1) := by decide +kernel
theorem dX4_badWork_41 : decode cX4_badWork 41 = .ok (.iload_n 1, 1) := by decide +kernel
theorem dX4_badWork_42 : decode cX4_badWork 42 = .ok (.invokevirtual 110, 3) := by decide +kernel
theorem dX4_badWork_45 : decode cX4_badWork 45 = .ok (.iconst 1, 1) := by decide +kernel
theorem dX4_badWork_46 : decode cX4_badWork 46 = .ok (.if_icmp .ne 13, 3) := by decide +kernel
theorem dX4_badWork_49 : decode cX4_badWork 49 = .ok (.aload_n 0, 1) := by decide +kernel
theorem dX4_badWork_50 : decode cX4_badWork 50 = .ok (.iload_n 2, 1) := by decide +kernel
theorem dX4_badWork_51 : decode cX4_badWork 51 = .ok (.invokevirtual 201, 3) := by decide +kernel
theorem dX4_badWork_54 : decode cX4_badWork 54 = .ok (.ifCond .ne 5, 3) := by decide +kernel
theorem dX4_badWork_57 : decode cX4_badWork 57 = .ok (.iconst 1, 1) := by decide +kernel
theorem dX4_badWork_58 : decode cX4_badWork 58 = .ok (.ireturn, 1) := by decide +kernel
theorem dX4_badWork_59 : decode cX4_badWork 59 = .ok (.iinc 2 1, 3) := by decide +kernel
theorem dX4_badWork_62 : decode cX4_badWork 62 = .ok (.goto (-37), 3) := by decide +kernel
theorem dX4_badWork_65 : decode cX4_badWork 65 = .ok (.iconst 0, 1) := by decide +kernel
theorem dX4_badWork_66 : decode cX4_badWork 66 = .ok (.ireturn, 1) := by decide +kernel
set_option maxRecDepth 20000 in
theorem ggX4_fewest_X4_witnesses : GoodIn wsX4_fewest wsX4_witnesses := goodIn_r _ [13, 2, 3, 14, 5, 6, 15, 16, 17, 12, 18, 19, 20, 21, 22, 23, 24, 25, 26, 27, 28, 29, 30, 31, 32, 96, 97, 98, 99, 100, 101, 102, 103, 104, 105, 106, 107, 108, 109, 110, 111, 112, 113] (by decide +kernel) (by decide +kernel)
set_option maxRecDepth 20000 in
theorem gX4_fewest_X4_witnesses : GoodIn wsX4_fewest (wsV RX4 206 RX4 yX4_witnesses wsX4_witnesses) := goodIn_app (goodIn_of _ (by decide +kernel)) ggX4_fewest_X4_witnesses
set_option maxRecDepth 20000 in
theorem ggX4_fewest_J6_bitCount_0f7a4 : GoodIn wsX4_fewest wsJ6_bitCount_0f7a4 := goodIn_r _ [36, 37, 38, 39] (by decide +kernel) (by decide +kernel)
set_option maxRecDepth 20000 in
theorem gX4_fewest_J6_bitCount_0f7a4 : GoodIn wsX4_fewest (va_wsS RX4 171 yJ6_bitCount_0f7a4 wsJ6_bitCount_0f7a4) := goodIn_app (goodIn_of _ (by decide +kernel)) ggX4_fewest_J6_bitCount_0f7a4
set_option maxRecDepth 20000 in
theorem ggX4_fewest_X2_begin : GoodIn wsX4_fewest wsX2_begin := goodIn_r _ [44, 45, 46, 47, 48, 114, 115, 116, 117, 118, 119, 120, 121, 122, 123, 124, 125] (by decide +kernel) (by decide +kernel)
set_option maxRecDepth 20000 in
theorem gX4_fewest_X2_begin : GoodIn wsX4_fewest (wsV RX4 175 RX2 yX2_begin wsX2_begin) := goodIn_app (goodIn_of _ (by decide +kernel)) ggX4_fewest_X2_begin
set_option maxRecDepth 20000 in
theorem ggX4_fewest_X4_isIn : GoodIn wsX4_fewest wsX4_isIn := goodIn_r _ [51] (by decide +kernel) (by decide +kernel)
set_option maxRecDepth 20000 in
theorem gX4_fewest_X4_isIn : GoodIn wsX4_fewest (va_wsS RX4 177 yX4_isIn wsX4_isIn) := goodIn_app (goodIn_of _ (by decide +kernel)) ggX4_fewest_X4_isIn
set_option maxRecDepth 20000 in
theorem ggX4_fewest_X3_countedTime : GoodIn wsX4_fewest wsX3_countedTime := goodIn_r _ [56, 57, 58, 103, 104, 105, 106, 107, 108, 109] (by decide +kernel) (by decide +kernel)
set_option maxRecDepth 20000 in
theorem gX4_fewest_X3_countedTime : GoodIn wsX4_fewest (wsV RX4 183 RX3 yX3_countedTime wsX3_countedTime) := goodIn_app (goodIn_of _ (by decide +kernel)) ggX4_fewest_X3_countedTime
set_option maxRecDepth 20000 in
theorem ggX4_fewest_X2_add : GoodIn wsX4_fewest wsX2_add := goodIn_r _ [62, 45, 63, 64, 65, 66, 114, 115, 116, 117, 118, 119, 120, 121, 122, 123, 124, 125] (by decide +kernel) (by decide +kernel)
set_option maxRecDepth 20000 in
theorem gX4_fewest_X2_add : GoodIn wsX4_fewest (wsV RX4 186 RX2 yX2_add wsX2_add) := goodIn_app (goodIn_of _ (by decide +kernel)) ggX4_fewest_X2_add
set_option maxRecDepth 20000 in
theorem ggX4_fewest_X4_buildsShown : GoodIn wsX4_fewest wsX4_buildsShown := goodIn_r _ [70, 2, 3, 5, 6, 49, 50, 12, 51, 96, 97, 98, 99, 100, 101, 102, 103, 104, 105, 106, 107, 108, 109, 110, 111, 112, 113] (by decide +kernel) (by decide +kernel)
set_option maxRecDepth 20000 in
theorem gX4_fewest_X4_buildsShown : GoodIn wsX4_fewest (wsV RX4 209 RX4 yX4_buildsShown wsX4_buildsShown) := goodIn_app (goodIn_of _ (by decide +kernel)) ggX4_fewest_X4_buildsShown
set_option maxRecDepth 20000 in
theorem ggX4_fewest_X2_seekFewest : GoodIn wsX4_fewest wsX2_seekFewest := goodIn_r _ [74, 45, 75, 76, 47, 77, 78, 79, 43, 80, 81, 82, 83, 84, 85, 63, 86, 64, 65, 66, 87, 88, 35, 89, 90, 91, 34, 36, 37, 38, 39, 92, 93, 94, 95, 46, 48, 114, 115, 116, 117, 118, 119, 120, 121, 122, 123, 124, 125] (by decide +kernel) (by decide +kernel)
set_option maxRecDepth 20000 in
theorem gX4_fewest_X2_seekFewest : GoodIn wsX4_fewest (wsV RX4 213 RX2 yX2_seekFewest wsX2_seekFewest) := goodIn_app (goodIn_of _ (by decide +kernel)) ggX4_fewest_X2_seekFewest
theorem dX4_fewest_0 : decode cX4_fewest 0 = .ok (.aload_n 0, 1) := by decide +kernel
theorem dX4_fewest_1 : decode cX4_fewest 1 = .ok (.invokevirtual 206, 3) := by decide +kernel
theorem dX4_fewest_4 : decode cX4_fewest 4 = .ok (.istore_n 1, 1) := by decide +kernel
theorem dX4_fewest_5 : decode cX4_fewest 5 = .ok (.iload_n 1, 1) := by decide +kernel
theorem dX4_fewest_6 : decode cX4_fewest 6 = .ok (.invokestatic 171, 3) := by decide +kernel
theorem dX4_fewest_9 : decode cX4_fewest 9 = .ok (.bipush 12, 2) := by decide +kernel
theorem dX4_fewest_11 : decode cX4_fewest 11 = .ok (.if_icmp .le 6, 3) := by decide +kernel
theorem dX4_fewest_14 : decode cX4_fewest 14 = .ok (.bipush (-6), 2) := by decide +kernel
theorem dX4_fewest_16 : decode cX4_fewest 16 = .ok (.ireturn, 1) := by decide +kernel
theorem dX4_fewest_17 : decode cX4_fewest 17 = .ok (.aload_n 0, 1) := by decide +kernel
theorem dX4_fewest_18 : decode cX4_fewest 18 = .ok (.getfield 33, 3) := by decide +kernel
theorem dX4_fewest_21 : decode cX4_fewest 21 = .ok (.invokevirtual 175, 3) := by decide +kernel
theorem dX4_fewest_24 : decode cX4_fewest 24 = .ok (.iconst 0, 1) := by decide +kernel
theorem dX4_fewest_25 : decode cX4_fewest 25 = .ok (.istore_n 2, 1) := by decide +kernel
theorem dX4_fewest_26 : decode cX4_fewest 26 = .ok (.iload_n 2, 1) := by decide +kernel
theorem dX4_fewest_27 : decode cX4_fewest 27 = .ok (.aload_n 0, 1) := by decide +kernel
theorem dX4_fewest_28 : decode cX4_fewest 28 = .ok (.getfield 10, 3) := by decide +kernel
theorem dX4_fewest_31 : decode cX4_fewest 31 = .ok (.getfield 56, 3) := by decide +kernel
theorem dX4_fewest_34 : decode cX4_fewest 34 = .ok (.if_icmp .ge 53, 3) := by decide +kernel
theorem dX4_fewest_37 : decode cX4_fewest 37 = .ok (.iload_n 2, 1) := by decide +kernel
theorem dX4_fewest_38 : decode cX4_fewest 38 = .ok (.iload_n 1, 1) := by decide +kernel
theorem dX4_fewest_39 : decode cX4_fewest 39 = .ok (.invokestatic 177, 3) := by decide +kernel
theorem dX4_fewest_42 : decode cX4_fewest 42 = .ok (.ifCond .eq 39, 3) := by decide +kernel
theorem dX4_fewest_45 : decode cX4_fewest 45 = .ok (.aload_n 0, 1) := by decide +kernel
theorem dX4_fewest_46 : decode cX4_fewest 46 = .ok (.getfield 33, 3) := by decide +kernel
theorem dX4_fewest_49 : decode cX4_fewest 49 = .ok (.iconst 1, 1) := by decide +kernel
theorem dX4_fewest_50 : decode cX4_fewest 50 = .ok (.iload_n 2, 1) := by decide +kernel
theorem dX4_fewest_51 : decode cX4_fewest 51 = .ok (.ishl, 1) := by decide +kernel
theorem dX4_fewest_52 : decode cX4_fewest 52 = .ok (.aload_n 0, 1) := by decide +kernel
theorem dX4_fewest_53 : decode cX4_fewest 53 = .ok (.getfield 10, 3) := by decide +kernel
theorem dX4_fewest_56 : decode cX4_fewest 56 = .ok (.getfield 180, 3) := by decide +kernel
theorem dX4_fewest_59 : decode cX4_fewest 59 = .ok (.iload_n 2, 1) := by decide +kernel
theorem dX4_fewest_60 : decode cX4_fewest 60 = .ok (.iaload, 1) := by decide +kernel
theorem dX4_fewest_61 : decode cX4_fewest 61 = .ok (.aload_n 0, 1) := by decide +kernel
theorem dX4_fewest_62 : decode cX4_fewest 62 = .ok (.getfield 10, 3) := by decide +kernel
theorem dX4_fewest_65 : decode cX4_fewest 65 = .ok (.iload_n 2, 1) := by decide +kernel
theorem dX4_fewest_66 : decode cX4_fewest 66 = .ok (.invokevirtual 183, 3) := by decide +kernel
theorem dX4_fewest_69 : decode cX4_fewest 69 = .ok (.aload_n 0, 1) := by decide +kernel
theorem dX4_fewest_70 : decode cX4_fewest 70 = .ok (.getfield 19, 3) := by decide +kernel
theorem dX4_fewest_73 : decode cX4_fewest 73 = .ok (.getfield 121, 3) := by decide +kernel
theorem dX4_fewest_76 : decode cX4_fewest 76 = .ok (.iload_n 2, 1) := by decide +kernel
theorem dX4_fewest_77 : decode cX4_fewest 77 = .ok (.laload, 1) := by decide +kernel
theorem dX4_fewest_78 : decode cX4_fewest 78 = .ok (.invokevirtual 186, 3) := by decide +kernel
theorem dX4_fewest_81 : decode cX4_fewest 81 = .ok (.iinc 2 1, 3) := by decide +kernel
theorem dX4_fewest_84 : decode cX4_fewest 84 = .ok (.goto (-58), 3) := by decide +kernel
theorem dX4_fewest_87 : decode cX4_fewest 87 = .ok (.aload_n 0, 1) := by decide +kernel
theorem dX4_fewest_88 : decode cX4_fewest 88 = .ok (.getfield 33, 3) := by decide +kernel
theorem dX4_fewest_91 : decode cX4_fewest 91 = .ok (.aload_n 0, 1) := by decide +kernel
theorem dX4_fewest_92 : decode cX4_fewest 92 = .ok (.iload_n 1, 1) := by decide +kernel
theorem dX4_fewest_93 : decode cX4_fewest 93 = .ok (.invokevirtual 209, 3) := by decide +kernel
theorem dX4_fewest_96 : decode cX4_fewest 96 = .ok (.invokevirtual 213, 3) := by decide +kernel
theorem dX4_fewest_99 : decode cX4_fewest 99 = .ok (.aload_n 0, 1) := by decide +kernel
theorem dX4_fewest_100 : decode cX4_fewest 100 = .ok (.aload_n 0, 1) := by decide +kernel
theorem dX4_fewest_101 : decode cX4_fewest 101 = .ok (.getfield 33, 3) := by decide +kernel
theorem dX4_fewest_104 : decode cX4_fewest 104 = .ok (.getfield 192, 3) := by decide +kernel
theorem dX4_fewest_107 : decode cX4_fewest 107 = .ok (.i2l, 1) := by decide +kernel
theorem dX4_fewest_108 : decode cX4_fewest 108 = .ok (.putfield 45, 3) := by decide +kernel
theorem dX4_fewest_111 : decode cX4_fewest 111 = .ok (.aload_n 0, 1) := by decide +kernel
theorem dX4_fewest_112 : decode cX4_fewest 112 = .ok (.getfield 33, 3) := by decide +kernel
theorem dX4_fewest_115 : decode cX4_fewest 115 = .ok (.getfield 192, 3) := by decide +kernel
theorem dX4_fewest_118 : decode cX4_fewest 118 = .ok (.invokestatic 171, 3) := by decide +kernel
theorem dX4_fewest_121 : decode cX4_fewest 121 = .ok (.ireturn, 1) := by decide +kernel
set_option maxRecDepth 20000 in
theorem ggX4_missed_X3_hasAll : GoodIn wsX4_missed wsX3_hasAll := goodIn_r _ [7, 8, 59, 60, 61, 62, 63, 64, 65] (by decide +kernel) (by decide +kernel)
set_option maxRecDepth 20000 in
theorem gX4_missed_X3_hasAll : GoodIn wsX4_missed (wsV RX4 198 RX3 yX3_hasAll wsX3_hasAll) := goodIn_app (goodIn_of _ (by decide +kernel)) ggX4_missed_X3_hasAll
set_option maxRecDepth 20000 in
theorem ggX4_missed_X4_witnesses : GoodIn wsX4_missed wsX4_witnesses := goodIn_r _ [13, 1, 14, 15, 16, 17, 18, 19, 20, 12, 21, 22, 23, 24, 25, 26, 27, 28, 29, 30, 31, 32, 33, 34, 35, 52, 53, 54, 55, 56, 57, 58, 59, 60, 61, 62, 63, 64, 65, 66, 67, 68, 69] (by decide +kernel) (by decide +kernel)
set_option maxRecDepth 20000 in
theorem gX4_missed_X4_witnesses : GoodIn wsX4_missed (wsV RX4 206 RX4 yX4_witnesses wsX4_witnesses) := goodIn_app (goodIn_of _ (by decide +kernel)) ggX4_missed_X4_witnesses
set_option maxRecDepth 20000 in
theorem ggX4_missed_X4_buildsShown : GoodIn wsX4_missed wsX4_buildsShown := goodIn_r _ [39, 1, 14, 16, 17, 40, 41, 12, 42, 52, 53, 54, 55, 56, 57, 58, 59, 60, 61, 62, 63, 64, 65, 66, 67, 68, 69] (by decide +kernel) (by decide +kernel)
set_option maxRecDepth 20000 in
theorem gX4_missed_X4_buildsShown : GoodIn wsX4_missed (wsV RX4 209 RX4 yX4_buildsShown wsX4_buildsShown) := goodIn_app (goodIn_of _ (by decide +kernel)) ggX4_missed_X4_buildsShown
set_option maxRecDepth 20000 in
theorem ggX4_missed_J13_numberOfTrailingZeros_95d88 : GoodIn wsX4_missed wsJ13_numberOfTrailingZeros_95d88 := goodIn_r _ [46, 47, 48, 49, 50, 51] (by decide +kernel) (by decide +kernel)
set_option maxRecDepth 20000 in
theorem gX4_missed_J13_numberOfTrailingZeros_95d88 : GoodIn wsX4_missed (va_wsS RX4 216 yJ13_numberOfTrailingZeros_95d88 wsJ13_numberOfTrailingZeros_95d88) := goodIn_app (goodIn_of _ (by decide +kernel)) ggX4_missed_J13_numberOfTrailingZeros_95d88
theorem dX4_missed_0 : decode cX4_missed 0 = .ok (.aload_n 0, 1) := by decide +kernel
theorem dX4_missed_1 : decode cX4_missed 1 = .ok (.getfield 10, 3) := by decide +kernel
theorem dX4_missed_4 : decode cX4_missed 4 = .ok (.iload_n 1, 1) := by decide +kernel
theorem dX4_missed_5 : decode cX4_missed 5 = .ok (.invokevirtual 198, 3) := by decide +kernel
theorem dX4_missed_8 : decode cX4_missed 8 = .ok (.ifCond .ne 5, 3) := by decide +kernel
theorem dX4_missed_11 : decode cX4_missed 11 = .ok (.iconst (-1), 1) := by decide +kernel
theorem dX4_missed_12 : decode cX4_missed 12 = .ok (.ireturn, 1) := by decide +kernel
theorem dX4_missed_13 : decode cX4_missed 13 = .ok (.aload_n 0, 1) := by decide +kernel
theorem dX4_missed_14 : decode cX4_missed 14 = .ok (.aload_n 0, 1) := by decide +kernel
theorem dX4_missed_15 : decode cX4_missed 15 = .ok (.invokevirtual 206, 3) := by decide +kernel
theorem dX4_missed_18 : decode cX4_missed 18 = .ok (.invokevirtual 209, 3) := by decide +kernel
theorem dX4_missed_21 : decode cX4_missed 21 = .ok (.aload_n 0, 1) := by decide +kernel
theorem dX4_missed_22 : decode cX4_missed 22 = .ok (.iload_n 1, 1) := by decide +kernel
theorem dX4_missed_23 : decode cX4_missed 23 = .ok (.invokevirtual 209, 3) := by decide +kernel
theorem dX4_missed_26 : decode cX4_missed 26 = .ok (.ldc2_w 204, 3) := by decide +kernel
theorem dX4_missed_29 : decode cX4_missed 29 = .ok (.lxor, 1) := by decide +kernel
theorem dX4_missed_30 : decode cX4_missed 30 = .ok (.land, 1) := by decide +kernel
theorem dX4_missed_31 : decode cX4_missed 31 = .ok (.lstore_n 2, 1) := by decide +kernel
theorem dX4_missed_32 : decode cX4_missed 32 = .ok (.lload_n 2, 1) := by decide +kernel
theorem dX4_missed_33 : decode cX4_missed 33 = .ok (.lconst 0, 1) := by decide +kernel
theorem dX4_missed_34 : decode cX4_missed 34 = .ok (.lcmp, 1) := by decide +kernel
theorem dX4_missed_35 : decode cX4_missed 35 = .ok (.ifCond .ne 8, 3) := by decide +kernel
theorem dX4_missed_38 : decode cX4_missed 38 = .ok (.bipush (-9), 2) := by decide +kernel
theorem dX4_missed_40 : decode cX4_missed 40 = .ok (.goto 7, 3) := by decide +kernel
theorem dX4_missed_43 : decode cX4_missed 43 = .ok (.lload_n 2, 1) := by decide +kernel
theorem dX4_missed_44 : decode cX4_missed 44 = .ok (.invokestatic 216, 3) := by decide +kernel
theorem dX4_missed_47 : decode cX4_missed 47 = .ok (.ireturn, 1) := by decide +kernel
theorem dX4_asked_0 : decode cX4_asked 0 = .ok (.aload_n 0, 1) := by decide +kernel
theorem dX4_asked_1 : decode cX4_asked 1 = .ok (.getfield 45, 3) := by decide +kernel
theorem dX4_asked_4 : decode cX4_asked 4 = .ok (.lreturn, 1) := by decide +kernel
set_option maxRecDepth 20000 in
theorem ggX4_count_X0_verdictsInAll : GoodIn wsX4_count wsX0_verdictsInAll := goodIn_r _ [9, 10, 11, 12, 13, 14, 15, 16, 17, 18, 33, 34, 35, 36] (by decide +kernel) (by decide +kernel)
set_option maxRecDepth 20000 in
theorem gX4_count_X0_verdictsInAll : GoodIn wsX4_count (wsV RX4 219 RX0 yX0_verdictsInAll wsX0_verdictsInAll) := goodIn_app (goodIn_of _ (by decide +kernel)) ggX4_count_X0_verdictsInAll
theorem dX4_count_0 : decode cX4_count 0 = .ok (.iload_n 1, 1) := by decide +kernel
theorem dX4_count_1 : decode cX4_count 1 = .ok (.ifCond .ne 11, 3) := by decide +kernel
theorem dX4_count_4 : decode cX4_count 4 = .ok (.aload_n 0, 1) := by decide +kernel
theorem dX4_count_5 : decode cX4_count 5 = .ok (.getfield 10, 3) := by decide +kernel
theorem dX4_count_8 : decode cX4_count 8 = .ok (.getfield 56, 3) := by decide +kernel
theorem dX4_count_11 : decode cX4_count 11 = .ok (.ireturn, 1) := by decide +kernel
theorem dX4_count_12 : decode cX4_count 12 = .ok (.iload_n 1, 1) := by decide +kernel
theorem dX4_count_13 : decode cX4_count 13 = .ok (.iconst 1, 1) := by decide +kernel
theorem dX4_count_14 : decode cX4_count 14 = .ok (.if_icmp .ne 11, 3) := by decide +kernel
theorem dX4_count_17 : decode cX4_count 17 = .ok (.aload_n 0, 1) := by decide +kernel
theorem dX4_count_18 : decode cX4_count 18 = .ok (.getfield 19, 3) := by decide +kernel
theorem dX4_count_21 : decode cX4_count 21 = .ok (.getfield 103, 3) := by decide +kernel
theorem dX4_count_24 : decode cX4_count 24 = .ok (.ireturn, 1) := by decide +kernel
theorem dX4_count_25 : decode cX4_count 25 = .ok (.iload_n 1, 1) := by decide +kernel
theorem dX4_count_26 : decode cX4_count 26 = .ok (.iconst 2, 1) := by decide +kernel
theorem dX4_count_27 : decode cX4_count 27 = .ok (.if_icmp .ne 13, 3) := by decide +kernel
theorem dX4_count_30 : decode cX4_count 30 = .ok (.aload_n 0, 1) := by decide +kernel
theorem dX4_count_31 : decode cX4_count 31 = .ok (.getfield 19, 3) := by decide +kernel
theorem dX4_count_34 : decode cX4_count 34 = .ok (.invokevirtual 219, 3) := by decide +kernel
theorem dX4_count_37 : decode cX4_count 37 = .ok (.goto 4, 3) := by decide +kernel
theorem dX4_count_40 : decode cX4_count 40 = .ok (.iconst (-1), 1) := by decide +kernel
theorem dX4_count_41 : decode cX4_count 41 = .ok (.ireturn, 1) := by decide +kernel
theorem dX4_finding_0 : decode cX4_finding 0 = .ok (.aload_n 0, 1) := by decide +kernel
theorem dX4_finding_1 : decode cX4_finding 1 = .ok (.getfield 41, 3) := by decide +kernel
theorem dX4_finding_4 : decode cX4_finding 4 = .ok (.ireturn, 1) := by decide +kernel
theorem dX4_findings_0 : decode cX4_findings 0 = .ok (.iload_n 1, 1) := by decide +kernel
theorem dX4_findings_1 : decode cX4_findings 1 = .ok (.iconst 1, 1) := by decide +kernel
theorem dX4_findings_2 : decode cX4_findings 2 = .ok (.if_icmp .lt 8, 3) := by decide +kernel
theorem dX4_findings_5 : decode cX4_findings 5 = .ok (.iload_n 1, 1) := by decide +kernel
theorem dX4_findings_6 : decode cX4_findings 6 = .ok (.iconst 4, 1) := by decide +kernel
theorem dX4_findings_7 : decode cX4_findings 7 = .ok (.if_icmp .le 7, 3) := by decide +kernel
theorem dX4_findings_10 : decode cX4_findings 10 = .ok (.iconst (-1), 1) := by decide +kernel
theorem dX4_findings_11 : decode cX4_findings 11 = .ok (.goto 9, 3) := by decide +kernel
theorem dX4_findings_14 : decode cX4_findings 14 = .ok (.aload_n 0, 1) := by decide +kernel
theorem dX4_findings_15 : decode cX4_findings 15 = .ok (.getfield 37, 3) := by decide +kernel
theorem dX4_findings_18 : decode cX4_findings 18 = .ok (.iload_n 1, 1) := by decide +kernel
theorem dX4_findings_19 : decode cX4_findings 19 = .ok (.iaload, 1) := by decide +kernel
theorem dX4_findings_20 : decode cX4_findings 20 = .ok (.ireturn, 1) := by decide +kernel
set_option maxRecDepth 20000 in
theorem ggX4_digest_X4_digestOfTest : GoodIn wsX4_digest wsX4_digestOfTest := goodIn_r _ [12, 6, 2, 13, 14, 15, 16, 11, 17, 18, 19, 4, 20, 21, 22, 23, 24, 25, 26, 27, 28, 29, 30, 31, 32, 33, 34, 35, 36, 37, 38, 39, 40, 41, 42, 43, 44, 45, 46, 47, 48, 49, 50, 51, 52, 53, 54, 55, 56, 57, 58, 59, 60, 61, 62, 63, 64, 65, 66, 67, 69, 70, 71, 72, 73, 74, 75, 76, 77, 78, 79, 80, 81, 82, 83, 84, 85, 86] (by decide +kernel) (by decide +kernel)
set_option maxRecDepth 20000 in
theorem gX4_digest_X4_digestOfTest : GoodIn wsX4_digest (wsV RX4 224 RX4 yX4_digestOfTest wsX4_digestOfTest) := goodIn_app (goodIn_of _ (by decide +kernel)) ggX4_digest_X4_digestOfTest
set_option maxRecDepth 20000 in
theorem ggX4_digest_X0_verdictIn : GoodIn wsX4_digest wsX0_verdictIn := goodIn_r _ [49, 34, 50, 83, 84, 85, 86] (by decide +kernel) (by decide +kernel)
set_option maxRecDepth 20000 in
theorem gX4_digest_X0_verdictIn : GoodIn wsX4_digest (wsV RX4 110 RX0 yX0_verdictIn wsX0_verdictIn) := goodIn_app (goodIn_of _ (by decide +kernel)) ggX4_digest_X0_verdictIn
theorem dX4_digest_0 : decode cX4_digest 0 = .ok (.ldc2_w 222, 3) := by decide +kernel
theorem dX4_digest_3 : decode cX4_digest 3 = .ok (.lstore_n 1, 1) := by decide +kernel
theorem dX4_digest_4 : decode cX4_digest 4 = .ok (.iconst 0, 1) := by decide +kernel
theorem dX4_digest_5 : decode cX4_digest 5 = .ok (.istore_n 3, 1) := by decide +kernel
theorem dX4_digest_6 : decode cX4_digest 6 = .ok (.iload_n 3, 1) := by decide +kernel
theorem dX4_digest_7 : decode cX4_digest 7 = .ok (.aload_n 0, 1) := by decide +kernel
theorem dX4_digest_8 : decode cX4_digest 8 = .ok (.getfield 10, 3) := by decide +kernel
theorem dX4_digest_11 : decode cX4_digest 11 = .ok (.getfield 56, 3) := by decide +kernel
theorem dX4_digest_14 : decode cX4_digest 14 = .ok (.if_icmp .ge 16, 3) := by decide +kernel
theorem dX4_digest_17 : decode cX4_digest 17 = .ok (.aload_n 0, 1) := by decide +kernel
theorem dX4_digest_18 : decode cX4_digest 18 = .ok (.lload_n 1, 1) := by decide +kernel
theorem dX4_digest_19 : decode cX4_digest 19 = .ok (.iload_n 3, 1) := by decide +kernel
theorem dX4_digest_20 : decode cX4_digest 20 = .ok (.invokevirtual 224, 3) := by decide +kernel
theorem dX4_digest_23 : decode cX4_digest 23 = .ok (.lstore_n 1, 1) := by decide +kernel
theorem dX4_digest_24 : decode cX4_digest 24 = .ok (.iinc 3 1, 3) := by decide +kernel
theorem dX4_digest_27 : decode cX4_digest 27 = .ok (.goto (-21), 3) := by decide +kernel
theorem dX4_digest_30 : decode cX4_digest 30 = .ok (.iconst 0, 1) := by decide +kernel
theorem dX4_digest_31 : decode cX4_digest 31 = .ok (.istore_n 3, 1) := by decide +kernel
theorem dX4_digest_32 : decode cX4_digest 32 = .ok (.iload_n 3, 1) := by decide +kernel
theorem dX4_digest_33 : decode cX4_digest 33 = .ok (.aload_n 0, 1) := by decide +kernel
theorem dX4_digest_34 : decode cX4_digest 34 = .ok (.getfield 19, 3) := by decide +kernel
theorem dX4_digest_37 : decode cX4_digest 37 = .ok (.getfield 103, 3) := by decide +kernel
theorem dX4_digest_40 : decode cX4_digest 40 = .ok (.if_icmp .ge 64, 3) := by decide +kernel
theorem dX4_digest_43 : decode cX4_digest 43 = .ok (.ldc2_w 228, 3) := by decide +kernel
theorem dX4_digest_46 : decode cX4_digest 46 = .ok (.lload_n 1, 1) := by decide +kernel
theorem dX4_digest_47 : decode cX4_digest 47 = .ok (.lmul, 1) := by decide +kernel
theorem dX4_digest_48 : decode cX4_digest 48 = .ok (.aload_n 0, 1) := by decide +kernel
theorem dX4_digest_49 : decode cX4_digest 49 = .ok (.getfield 19, 3) := by decide +kernel
theorem dX4_digest_52 : decode cX4_digest 52 = .ok (.getfield 118, 3) := by decide +kernel
theorem dX4_digest_55 : decode cX4_digest 55 = .ok (.iload_n 3, 1) := by decide +kernel
theorem dX4_digest_56 : decode cX4_digest 56 = .ok (.laload, 1) := by decide +kernel
theorem dX4_digest_57 : decode cX4_digest 57 = .ok (.ladd, 1) := by decide +kernel
theorem dX4_digest_58 : decode cX4_digest 58 = .ok (.lstore_n 1, 1) := by decide +kernel
theorem dX4_digest_59 : decode cX4_digest 59 = .ok (.iconst 0, 1) := by decide +kernel
theorem dX4_digest_60 : decode cX4_digest 60 = .ok (.istore 4, 2) := by decide +kernel
theorem dX4_digest_62 : decode cX4_digest 62 = .ok (.iload 4, 2) := by decide +kernel
theorem dX4_digest_64 : decode cX4_digest 64 = .ok (.aload_n 0, 1) := by decide +kernel
theorem dX4_digest_65 : decode cX4_digest 65 = .ok (.getfield 10, 3) := by decide +kernel
theorem dX4_digest_68 : decode cX4_digest 68 = .ok (.getfield 56, 3) := by decide +kernel
theorem dX4_digest_71 : decode cX4_digest 71 = .ok (.if_icmp .ge 27, 3) := by decide +kernel
theorem dX4_digest_74 : decode cX4_digest 74 = .ok (.ldc2_w 228, 3) := by decide +kernel
theorem dX4_digest_77 : decode cX4_digest 77 = .ok (.lload_n 1, 1) := by decide +kernel
theorem dX4_digest_78 : decode cX4_digest 78 = .ok (.lmul, 1) := by decide +kernel
theorem dX4_digest_79 : decode cX4_digest 79 = .ok (.aload_n 0, 1) := by decide +kernel
theorem dX4_digest_80 : decode cX4_digest 80 = .ok (.getfield 19, 3) := by decide +kernel
theorem dX4_digest_83 : decode cX4_digest 83 = .ok (.iload 4, 2) := by decide +kernel
theorem dX4_digest_85 : decode cX4_digest 85 = .ok (.iload_n 3, 1) := by decide +kernel
theorem dX4_digest_86 : decode cX4_digest 86 = .ok (.invokevirtual 110, 3) := by decide +kernel
theorem dX4_digest_89 : decode cX4_digest 89 = .ok (.i2l, 1) := by decide +kernel
theorem dX4_digest_90 : decode cX4_digest 90 = .ok (.ladd, 1) := by decide +kernel
theorem dX4_digest_91 : decode cX4_digest 91 = .ok (.lstore_n 1, 1) := by decide +kernel
theorem dX4_digest_92 : decode cX4_digest 92 = .ok (.iinc 4 1, 3) := by decide +kernel
theorem dX4_digest_95 : decode cX4_digest 95 = .ok (.goto (-33), 3) := by decide +kernel
theorem dX4_digest_98 : decode cX4_digest 98 = .ok (.iinc 3 1, 3) := by decide +kernel
theorem dX4_digest_101 : decode cX4_digest 101 = .ok (.goto (-69), 3) := by decide +kernel
theorem dX4_digest_104 : decode cX4_digest 104 = .ok (.lload_n 1, 1) := by decide +kernel
theorem dX4_digest_105 : decode cX4_digest 105 = .ok (.lreturn, 1) := by decide +kernel
theorem dX4_isKind_0 : decode cX4_isKind 0 = .ok (.iload_n 0, 1) := by decide +kernel
theorem dX4_isKind_1 : decode cX4_isKind 1 = .ok (.ifCond .lt 12, 3) := by decide +kernel
theorem dX4_isKind_4 : decode cX4_isKind 4 = .ok (.iload_n 0, 1) := by decide +kernel
theorem dX4_isKind_5 : decode cX4_isKind 5 = .ok (.iconst 3, 1) := by decide +kernel
theorem dX4_isKind_6 : decode cX4_isKind 6 = .ok (.if_icmp .gt 7, 3) := by decide +kernel
theorem dX4_isKind_9 : decode cX4_isKind 9 = .ok (.iconst 1, 1) := by decide +kernel
theorem dX4_isKind_10 : decode cX4_isKind 10 = .ok (.goto 4, 3) := by decide +kernel
theorem dX4_isKind_13 : decode cX4_isKind 13 = .ok (.iconst 0, 1) := by decide +kernel
theorem dX4_isKind_14 : decode cX4_isKind 14 = .ok (.ireturn, 1) := by decide +kernel
theorem dX4_isPlace_0 : decode cX4_isPlace 0 = .ok (.iload_n 0, 1) := by decide +kernel
theorem dX4_isPlace_1 : decode cX4_isPlace 1 = .ok (.ifCond .lt 12, 3) := by decide +kernel
theorem dX4_isPlace_4 : decode cX4_isPlace 4 = .ok (.iload_n 0, 1) := by decide +kernel
theorem dX4_isPlace_5 : decode cX4_isPlace 5 = .ok (.iconst 5, 1) := by decide +kernel
theorem dX4_isPlace_6 : decode cX4_isPlace 6 = .ok (.if_icmp .ge 7, 3) := by decide +kernel
theorem dX4_isPlace_9 : decode cX4_isPlace 9 = .ok (.iconst 1, 1) := by decide +kernel
theorem dX4_isPlace_10 : decode cX4_isPlace 10 = .ok (.goto 4, 3) := by decide +kernel
theorem dX4_isPlace_13 : decode cX4_isPlace 13 = .ok (.iconst 0, 1) := by decide +kernel
theorem dX4_isPlace_14 : decode cX4_isPlace 14 = .ok (.ireturn, 1) := by decide +kernel
theorem dX4_isStretch_0 : decode cX4_isStretch 0 = .ok (.iload_n 0, 1) := by decide +kernel
theorem dX4_isStretch_1 : decode cX4_isStretch 1 = .ok (.ifCond .lt 19, 3) := by decide +kernel
theorem dX4_isStretch_4 : decode cX4_isStretch 4 = .ok (.iload_n 0, 1) := by decide +kernel
theorem dX4_isStretch_5 : decode cX4_isStretch 5 = .ok (.iconst 5, 1) := by decide +kernel
theorem dX4_isStretch_6 : decode cX4_isStretch 6 = .ok (.if_icmp .gt 14, 3) := by decide +kernel
theorem dX4_isStretch_9 : decode cX4_isStretch 9 = .ok (.iload_n 1, 1) := by decide +kernel
theorem dX4_isStretch_10 : decode cX4_isStretch 10 = .ok (.iconst 5, 1) := by decide +kernel
theorem dX4_isStretch_11 : decode cX4_isStretch 11 = .ok (.iload_n 0, 1) := by decide +kernel
theorem dX4_isStretch_12 : decode cX4_isStretch 12 = .ok (.isub, 1) := by decide +kernel
theorem dX4_isStretch_13 : decode cX4_isStretch 13 = .ok (.if_icmp .gt 7, 3) := by decide +kernel
theorem dX4_isStretch_16 : decode cX4_isStretch 16 = .ok (.iconst 1, 1) := by decide +kernel
theorem dX4_isStretch_17 : decode cX4_isStretch 17 = .ok (.goto 4, 3) := by decide +kernel
theorem dX4_isStretch_20 : decode cX4_isStretch 20 = .ok (.iconst 0, 1) := by decide +kernel
theorem dX4_isStretch_21 : decode cX4_isStretch 21 = .ok (.ireturn, 1) := by decide +kernel
theorem dX4_isSpan_0 : decode cX4_isSpan 0 = .ok (.iload_n 0, 1) := by decide +kernel
theorem dX4_isSpan_1 : decode cX4_isSpan 1 = .ok (.ifCond .lt 14, 3) := by decide +kernel
theorem dX4_isSpan_4 : decode cX4_isSpan 4 = .ok (.iload_n 0, 1) := by decide +kernel
theorem dX4_isSpan_5 : decode cX4_isSpan 5 = .ok (.sipush 30000, 3) := by decide +kernel
theorem dX4_isSpan_8 : decode cX4_isSpan 8 = .ok (.if_icmp .gt 7, 3) := by decide +kernel
theorem dX4_isSpan_11 : decode cX4_isSpan 11 = .ok (.iconst 1, 1) := by decide +kernel
theorem dX4_isSpan_12 : decode cX4_isSpan 12 = .ok (.goto 4, 3) := by decide +kernel
theorem dX4_isSpan_15 : decode cX4_isSpan 15 = .ok (.iconst 0, 1) := by decide +kernel
theorem dX4_isSpan_16 : decode cX4_isSpan 16 = .ok (.ireturn, 1) := by decide +kernel
theorem dX4_isIn_0 : decode cX4_isIn 0 = .ok (.iload_n 1, 1) := by decide +kernel
theorem dX4_isIn_1 : decode cX4_isIn 1 = .ok (.iload_n 0, 1) := by decide +kernel
theorem dX4_isIn_2 : decode cX4_isIn 2 = .ok (.iushr, 1) := by decide +kernel
theorem dX4_isIn_3 : decode cX4_isIn 3 = .ok (.iconst 1, 1) := by decide +kernel
theorem dX4_isIn_4 : decode cX4_isIn 4 = .ok (.iand, 1) := by decide +kernel
theorem dX4_isIn_5 : decode cX4_isIn 5 = .ok (.iconst 1, 1) := by decide +kernel
theorem dX4_isIn_6 : decode cX4_isIn 6 = .ok (.if_icmp .ne 7, 3) := by decide +kernel
theorem dX4_isIn_9 : decode cX4_isIn 9 = .ok (.iconst 1, 1) := by decide +kernel
theorem dX4_isIn_10 : decode cX4_isIn 10 = .ok (.goto 4, 3) := by decide +kernel
theorem dX4_isIn_13 : decode cX4_isIn 13 = .ok (.iconst 0, 1) := by decide +kernel
theorem dX4_isIn_14 : decode cX4_isIn 14 = .ok (.ireturn, 1) := by decide +kernel
theorem dX4_refuse_0 : decode cX4_refuse 0 = .ok (.aload_n 0, 1) := by decide +kernel
theorem dX4_refuse_1 : decode cX4_refuse 1 = .ok (.iload_n 1, 1) := by decide +kernel
theorem dX4_refuse_2 : decode cX4_refuse 2 = .ok (.putfield 41, 3) := by decide +kernel
theorem dX4_refuse_5 : decode cX4_refuse 5 = .ok (.aload_n 0, 1) := by decide +kernel
theorem dX4_refuse_6 : decode cX4_refuse 6 = .ok (.getfield 37, 3) := by decide +kernel
theorem dX4_refuse_9 : decode cX4_refuse 9 = .ok (.iload_n 1, 1) := by decide +kernel
theorem dX4_refuse_10 : decode cX4_refuse 10 = .ok (.dup2, 1) := by decide +kernel
theorem dX4_refuse_11 : decode cX4_refuse 11 = .ok (.iaload, 1) := by decide +kernel
theorem dX4_refuse_12 : decode cX4_refuse 12 = .ok (.iconst 1, 1) := by decide +kernel
theorem dX4_refuse_13 : decode cX4_refuse 13 = .ok (.iadd, 1) := by decide +kernel
theorem dX4_refuse_14 : decode cX4_refuse 14 = .ok (.iastore, 1) := by decide +kernel
theorem dX4_refuse_15 : decode cX4_refuse 15 = .ok (.bipush (-3), 2) := by decide +kernel
theorem dX4_refuse_17 : decode cX4_refuse 17 = .ok (.ireturn, 1) := by decide +kernel
set_option maxRecDepth 20000 in
theorem ggX4_isFlaky_X0_wavers : GoodIn wsX4_isFlaky wsX0_wavers := goodIn_r _ [8, 9, 10, 11, 12, 13, 7, 14, 15, 16, 31, 32, 33, 34] (by decide +kernel) (by decide +kernel)
set_option maxRecDepth 20000 in
theorem gX4_isFlaky_X0_wavers : GoodIn wsX4_isFlaky (wsV RX4 230 RX0 yX0_wavers wsX0_wavers) := goodIn_app (goodIn_of _ (by decide +kernel)) ggX4_isFlaky_X0_wavers
theorem dX4_isFlaky_0 : decode cX4_isFlaky 0 = .ok (.aload_n 0, 1) := by decide +kernel
theorem dX4_isFlaky_1 : decode cX4_isFlaky 1 = .ok (.getfield 19, 3) := by decide +kernel
theorem dX4_isFlaky_4 : decode cX4_isFlaky 4 = .ok (.iload_n 1, 1) := by decide +kernel
theorem dX4_isFlaky_5 : decode cX4_isFlaky 5 = .ok (.aload_n 0, 1) := by decide +kernel
theorem dX4_isFlaky_6 : decode cX4_isFlaky 6 = .ok (.getfield 10, 3) := by decide +kernel
theorem dX4_isFlaky_9 : decode cX4_isFlaky 9 = .ok (.getfield 85, 3) := by decide +kernel
theorem dX4_isFlaky_12 : decode cX4_isFlaky 12 = .ok (.iload_n 1, 1) := by decide +kernel
theorem dX4_isFlaky_13 : decode cX4_isFlaky 13 = .ok (.laload, 1) := by decide +kernel
theorem dX4_isFlaky_14 : decode cX4_isFlaky 14 = .ok (.invokevirtual 230, 3) := by decide +kernel
theorem dX4_isFlaky_17 : decode cX4_isFlaky 17 = .ok (.ireturn, 1) := by decide +kernel
set_option maxRecDepth 20000 in
theorem ggX4_factOf_X3_countedTime : GoodIn wsX4_factOf wsX3_countedTime := goodIn_r _ [10, 11, 12, 55, 56, 57, 58, 59, 60, 61] (by decide +kernel) (by decide +kernel)
set_option maxRecDepth 20000 in
theorem gX4_factOf_X3_countedTime : GoodIn wsX4_factOf (wsV RX4 183 RX3 yX3_countedTime wsX3_countedTime) := goodIn_app (goodIn_of _ (by decide +kernel)) ggX4_factOf_X3_countedTime
set_option maxRecDepth 20000 in
theorem ggX4_factOf_X0_heat : GoodIn wsX4_factOf wsX0_heat := goodIn_r _ [17, 18, 19, 20, 62, 63, 64, 65] (by decide +kernel) (by decide +kernel)
set_option maxRecDepth 20000 in
theorem gX4_factOf_X0_heat : GoodIn wsX4_factOf (wsV RX4 237 RX0 yX0_heat wsX0_heat) := goodIn_app (goodIn_of _ (by decide +kernel)) ggX4_factOf_X0_heat
set_option maxRecDepth 20000 in
theorem ggX4_factOf_X4_isFlaky : GoodIn wsX4_factOf wsX4_isFlaky := goodIn_r _ [25, 4, 1, 26, 27, 28, 29, 16, 30, 18, 31, 32, 33, 34, 35, 19, 36, 48, 49, 50, 51, 52, 53, 54, 55, 56, 57, 58, 59, 60, 61, 62, 63, 64, 65] (by decide +kernel) (by decide +kernel)
set_option maxRecDepth 20000 in
theorem gX4_factOf_X4_isFlaky : GoodIn wsX4_factOf (wsV RX4 201 RX4 yX4_isFlaky wsX4_isFlaky) := goodIn_app (goodIn_of _ (by decide +kernel)) ggX4_factOf_X4_isFlaky
set_option maxRecDepth 20000 in
theorem ggX4_factOf_X0_fellLast : GoodIn wsX4_factOf wsX0_fellLast := goodIn_r _ [40, 19, 36, 62, 63, 64, 65] (by decide +kernel) (by decide +kernel)
set_option maxRecDepth 20000 in
theorem gX4_factOf_X0_fellLast : GoodIn wsX4_factOf (wsV RX4 240 RX0 yX0_fellLast wsX0_fellLast) := goodIn_app (goodIn_of _ (by decide +kernel)) ggX4_factOf_X0_fellLast
set_option maxRecDepth 20000 in
theorem ggX4_factOf_J6_bitCount_0f7a4 : GoodIn wsX4_factOf wsJ6_bitCount_0f7a4 := goodIn_r _ [44, 45, 46, 47] (by decide +kernel) (by decide +kernel)
set_option maxRecDepth 20000 in
theorem gX4_factOf_J6_bitCount_0f7a4 : GoodIn wsX4_factOf (va_wsS RX4 171 yJ6_bitCount_0f7a4 wsJ6_bitCount_0f7a4) := goodIn_app (goodIn_of _ (by decide +kernel)) ggX4_factOf_J6_bitCount_0f7a4
theorem dX4_factOf_0 : decode cX4_factOf 0 = .ok (.iload_n 2, 1) := by decide +kernel
theorem dX4_factOf_1 : decode cX4_factOf 1 = .ok (.tableswitch 116 0 5 #[39, 49, 58, 68, 77, 91], 39) := by decide +kernel
theorem dX4_factOf_40 : decode cX4_factOf 40 = .ok (.aload_n 0, 1) := by decide +kernel
theorem dX4_factOf_41 : decode cX4_factOf 41 = .ok (.getfield 10, 3) := by decide +kernel
theorem dX4_factOf_44 : decode cX4_factOf 44 = .ok (.getfield 63, 3) := by decide +kernel
theorem dX4_factOf_47 : decode cX4_factOf 47 = .ok (.iload_n 1, 1) := by decide +kernel
theorem dX4_factOf_48 : decode cX4_factOf 48 = .ok (.iaload, 1) := by decide +kernel
theorem dX4_factOf_49 : decode cX4_factOf 49 = .ok (.ireturn, 1) := by decide +kernel
theorem dX4_factOf_50 : decode cX4_factOf 50 = .ok (.aload_n 0, 1) := by decide +kernel
theorem dX4_factOf_51 : decode cX4_factOf 51 = .ok (.getfield 10, 3) := by decide +kernel
theorem dX4_factOf_54 : decode cX4_factOf 54 = .ok (.iload_n 1, 1) := by decide +kernel
theorem dX4_factOf_55 : decode cX4_factOf 55 = .ok (.invokevirtual 183, 3) := by decide +kernel
theorem dX4_factOf_58 : decode cX4_factOf 58 = .ok (.ireturn, 1) := by decide +kernel
theorem dX4_factOf_59 : decode cX4_factOf 59 = .ok (.aload_n 0, 1) := by decide +kernel
theorem dX4_factOf_60 : decode cX4_factOf 60 = .ok (.getfield 10, 3) := by decide +kernel
theorem dX4_factOf_63 : decode cX4_factOf 63 = .ok (.getfield 234, 3) := by decide +kernel
theorem dX4_factOf_66 : decode cX4_factOf 66 = .ok (.iload_n 1, 1) := by decide +kernel
theorem dX4_factOf_67 : decode cX4_factOf 67 = .ok (.iaload, 1) := by decide +kernel
theorem dX4_factOf_68 : decode cX4_factOf 68 = .ok (.ireturn, 1) := by decide +kernel
theorem dX4_factOf_69 : decode cX4_factOf 69 = .ok (.aload_n 0, 1) := by decide +kernel
theorem dX4_factOf_70 : decode cX4_factOf 70 = .ok (.getfield 19, 3) := by decide +kernel
theorem dX4_factOf_73 : decode cX4_factOf 73 = .ok (.iload_n 1, 1) := by decide +kernel
theorem dX4_factOf_74 : decode cX4_factOf 74 = .ok (.invokevirtual 237, 3) := by decide +kernel
theorem dX4_factOf_77 : decode cX4_factOf 77 = .ok (.ireturn, 1) := by decide +kernel
theorem dX4_factOf_78 : decode cX4_factOf 78 = .ok (.aload_n 0, 1) := by decide +kernel
theorem dX4_factOf_79 : decode cX4_factOf 79 = .ok (.iload_n 1, 1) := by decide +kernel
theorem dX4_factOf_80 : decode cX4_factOf 80 = .ok (.invokevirtual 201, 3) := by decide +kernel
theorem dX4_factOf_83 : decode cX4_factOf 83 = .ok (.ifCond .eq 7, 3) := by decide +kernel
theorem dX4_factOf_86 : decode cX4_factOf 86 = .ok (.iconst 1, 1) := by decide +kernel
theorem dX4_factOf_87 : decode cX4_factOf 87 = .ok (.goto 4, 3) := by decide +kernel
theorem dX4_factOf_90 : decode cX4_factOf 90 = .ok (.iconst 0, 1) := by decide +kernel
theorem dX4_factOf_91 : decode cX4_factOf 91 = .ok (.ireturn, 1) := by decide +kernel
theorem dX4_factOf_92 : decode cX4_factOf 92 = .ok (.aload_n 0, 1) := by decide +kernel
theorem dX4_factOf_93 : decode cX4_factOf 93 = .ok (.getfield 19, 3) := by decide +kernel
theorem dX4_factOf_96 : decode cX4_factOf 96 = .ok (.iload_n 1, 1) := by decide +kernel
theorem dX4_factOf_97 : decode cX4_factOf 97 = .ok (.invokevirtual 240, 3) := by decide +kernel
theorem dX4_factOf_100 : decode cX4_factOf 100 = .ok (.ifCond .eq 15, 3) := by decide +kernel
theorem dX4_factOf_103 : decode cX4_factOf 103 = .ok (.aload_n 0, 1) := by decide +kernel
theorem dX4_factOf_104 : decode cX4_factOf 104 = .ok (.iload_n 1, 1) := by decide +kernel
theorem dX4_factOf_105 : decode cX4_factOf 105 = .ok (.invokevirtual 201, 3) := by decide +kernel
theorem dX4_factOf_108 : decode cX4_factOf 108 = .ok (.ifCond .ne 7, 3) := by decide +kernel
theorem dX4_factOf_111 : decode cX4_factOf 111 = .ok (.iconst 1, 1) := by decide +kernel
theorem dX4_factOf_112 : decode cX4_factOf 112 = .ok (.goto 4, 3) := by decide +kernel
theorem dX4_factOf_115 : decode cX4_factOf 115 = .ok (.iconst 0, 1) := by decide +kernel
theorem dX4_factOf_116 : decode cX4_factOf 116 = .ok (.ireturn, 1) := by decide +kernel
theorem dX4_factOf_117 : decode cX4_factOf 117 = .ok (.aload_n 0, 1) := by decide +kernel
theorem dX4_factOf_118 : decode cX4_factOf 118 = .ok (.getfield 10, 3) := by decide +kernel
theorem dX4_factOf_121 : decode cX4_factOf 121 = .ok (.getfield 180, 3) := by decide +kernel
theorem dX4_factOf_124 : decode cX4_factOf 124 = .ok (.iload_n 1, 1) := by decide +kernel
theorem dX4_factOf_125 : decode cX4_factOf 125 = .ok (.iaload, 1) := by decide +kernel
theorem dX4_factOf_126 : decode cX4_factOf 126 = .ok (.invokestatic 171, 3) := by decide +kernel
theorem dX4_factOf_129 : decode cX4_factOf 129 = .ok (.ireturn, 1) := by decide +kernel
set_option maxRecDepth 20000 in
theorem ggX4_digestOfTest_X4_factOf : GoodIn wsX4_digestOfTest wsX4_factOf := goodIn_r _ [8, 2, 9, 10, 11, 12, 13, 14, 15, 16, 17, 18, 19, 20, 21, 22, 23, 24, 25, 26, 27, 28, 29, 30, 7, 31, 32, 33, 34, 35, 36, 37, 38, 39, 40, 41, 42, 43, 44, 45, 46, 47, 48, 49, 50, 51, 52, 53, 60, 61, 62, 63, 64, 65, 66, 67, 68, 69, 70, 71, 72, 73, 74, 75, 76, 77] (by decide +kernel) (by decide +kernel)
set_option maxRecDepth 20000 in
theorem gX4_digestOfTest_X4_factOf : GoodIn wsX4_digestOfTest (wsV RX4 97 RX4 yX4_factOf wsX4_factOf) := goodIn_app (goodIn_of _ (by decide +kernel)) ggX4_digestOfTest_X4_factOf
set_option maxRecDepth 20000 in
theorem ggX4_digestOfTest_X3_reachByte : GoodIn wsX4_digestOfTest wsX3_reachByte := goodIn_r _ [57, 58, 59, 67, 68, 69, 70, 71, 72, 73] (by decide +kernel) (by decide +kernel)
set_option maxRecDepth 20000 in
theorem gX4_digestOfTest_X3_reachByte : GoodIn wsX4_digestOfTest (wsV RX4 77 RX3 yX3_reachByte wsX3_reachByte) := goodIn_app (goodIn_of _ (by decide +kernel)) ggX4_digestOfTest_X3_reachByte
theorem dX4_digestOfTest_0 : decode cX4_digestOfTest 0 = .ok (.lload_n 1, 1) := by decide +kernel
theorem dX4_digestOfTest_1 : decode cX4_digestOfTest 1 = .ok (.lstore 4, 2) := by decide +kernel
theorem dX4_digestOfTest_3 : decode cX4_digestOfTest 3 = .ok (.iconst 0, 1) := by decide +kernel
theorem dX4_digestOfTest_4 : decode cX4_digestOfTest 4 = .ok (.istore 6, 2) := by decide +kernel
theorem dX4_digestOfTest_6 : decode cX4_digestOfTest 6 = .ok (.iload 6, 2) := by decide +kernel
theorem dX4_digestOfTest_8 : decode cX4_digestOfTest 8 = .ok (.bipush 6, 2) := by decide +kernel
theorem dX4_digestOfTest_10 : decode cX4_digestOfTest 10 = .ok (.if_icmp .gt 26, 3) := by decide +kernel
theorem dX4_digestOfTest_13 : decode cX4_digestOfTest 13 = .ok (.ldc2_w 228, 3) := by decide +kernel
theorem dX4_digestOfTest_16 : decode cX4_digestOfTest 16 = .ok (.lload 4, 2) := by decide +kernel
theorem dX4_digestOfTest_18 : decode cX4_digestOfTest 18 = .ok (.lmul, 1) := by decide +kernel
theorem dX4_digestOfTest_19 : decode cX4_digestOfTest 19 = .ok (.aload_n 0, 1) := by decide +kernel
theorem dX4_digestOfTest_20 : decode cX4_digestOfTest 20 = .ok (.iload_n 3, 1) := by decide +kernel
theorem dX4_digestOfTest_21 : decode cX4_digestOfTest 21 = .ok (.iload 6, 2) := by decide +kernel
theorem dX4_digestOfTest_23 : decode cX4_digestOfTest 23 = .ok (.invokevirtual 97, 3) := by decide +kernel
theorem dX4_digestOfTest_26 : decode cX4_digestOfTest 26 = .ok (.i2l, 1) := by decide +kernel
theorem dX4_digestOfTest_27 : decode cX4_digestOfTest 27 = .ok (.ladd, 1) := by decide +kernel
theorem dX4_digestOfTest_28 : decode cX4_digestOfTest 28 = .ok (.lstore 4, 2) := by decide +kernel
theorem dX4_digestOfTest_30 : decode cX4_digestOfTest 30 = .ok (.iinc 6 1, 3) := by decide +kernel
theorem dX4_digestOfTest_33 : decode cX4_digestOfTest 33 = .ok (.goto (-27), 3) := by decide +kernel
theorem dX4_digestOfTest_36 : decode cX4_digestOfTest 36 = .ok (.aload_n 0, 1) := by decide +kernel
theorem dX4_digestOfTest_37 : decode cX4_digestOfTest 37 = .ok (.getfield 10, 3) := by decide +kernel
theorem dX4_digestOfTest_40 : decode cX4_digestOfTest 40 = .ok (.getfield 70, 3) := by decide +kernel
theorem dX4_digestOfTest_43 : decode cX4_digestOfTest 43 = .ok (.iload_n 3, 1) := by decide +kernel
theorem dX4_digestOfTest_44 : decode cX4_digestOfTest 44 = .ok (.baload, 1) := by decide +kernel
theorem dX4_digestOfTest_45 : decode cX4_digestOfTest 45 = .ok (.ifCond .eq 12, 3) := by decide +kernel
theorem dX4_digestOfTest_48 : decode cX4_digestOfTest 48 = .ok (.ldc2_w 228, 3) := by decide +kernel
theorem dX4_digestOfTest_51 : decode cX4_digestOfTest 51 = .ok (.lload 4, 2) := by decide +kernel
theorem dX4_digestOfTest_53 : decode cX4_digestOfTest 53 = .ok (.lmul, 1) := by decide +kernel
theorem dX4_digestOfTest_54 : decode cX4_digestOfTest 54 = .ok (.lconst 1, 1) := by decide +kernel
theorem dX4_digestOfTest_55 : decode cX4_digestOfTest 55 = .ok (.lsub, 1) := by decide +kernel
theorem dX4_digestOfTest_56 : decode cX4_digestOfTest 56 = .ok (.lreturn, 1) := by decide +kernel
theorem dX4_digestOfTest_57 : decode cX4_digestOfTest 57 = .ok (.iconst 0, 1) := by decide +kernel
theorem dX4_digestOfTest_58 : decode cX4_digestOfTest 58 = .ok (.istore 6, 2) := by decide +kernel
theorem dX4_digestOfTest_60 : decode cX4_digestOfTest 60 = .ok (.iload 6, 2) := by decide +kernel
theorem dX4_digestOfTest_62 : decode cX4_digestOfTest 62 = .ok (.iconst 5, 1) := by decide +kernel
theorem dX4_digestOfTest_63 : decode cX4_digestOfTest 63 = .ok (.if_icmp .ge 29, 3) := by decide +kernel
theorem dX4_digestOfTest_66 : decode cX4_digestOfTest 66 = .ok (.ldc2_w 228, 3) := by decide +kernel
theorem dX4_digestOfTest_69 : decode cX4_digestOfTest 69 = .ok (.lload 4, 2) := by decide +kernel
theorem dX4_digestOfTest_71 : decode cX4_digestOfTest 71 = .ok (.lmul, 1) := by decide +kernel
theorem dX4_digestOfTest_72 : decode cX4_digestOfTest 72 = .ok (.aload_n 0, 1) := by decide +kernel
theorem dX4_digestOfTest_73 : decode cX4_digestOfTest 73 = .ok (.getfield 10, 3) := by decide +kernel
theorem dX4_digestOfTest_76 : decode cX4_digestOfTest 76 = .ok (.iload_n 3, 1) := by decide +kernel
theorem dX4_digestOfTest_77 : decode cX4_digestOfTest 77 = .ok (.iload 6, 2) := by decide +kernel
theorem dX4_digestOfTest_79 : decode cX4_digestOfTest 79 = .ok (.invokevirtual 77, 3) := by decide +kernel
theorem dX4_digestOfTest_82 : decode cX4_digestOfTest 82 = .ok (.i2l, 1) := by decide +kernel
theorem dX4_digestOfTest_83 : decode cX4_digestOfTest 83 = .ok (.ladd, 1) := by decide +kernel
theorem dX4_digestOfTest_84 : decode cX4_digestOfTest 84 = .ok (.lstore 4, 2) := by decide +kernel
theorem dX4_digestOfTest_86 : decode cX4_digestOfTest 86 = .ok (.iinc 6 1, 3) := by decide +kernel
theorem dX4_digestOfTest_89 : decode cX4_digestOfTest 89 = .ok (.goto (-29), 3) := by decide +kernel
theorem dX4_digestOfTest_92 : decode cX4_digestOfTest 92 = .ok (.lload 4, 2) := by decide +kernel
theorem dX4_digestOfTest_94 : decode cX4_digestOfTest 94 = .ok (.lreturn, 1) := by decide +kernel
set_option maxRecDepth 20000 in
theorem ggX4_worthiest_X4_isIn : GoodIn wsX4_worthiest wsX4_isIn := goodIn_r _ [13] (by decide +kernel) (by decide +kernel)
set_option maxRecDepth 20000 in
theorem gX4_worthiest_X4_isIn : GoodIn wsX4_worthiest (va_wsS RX4 177 yX4_isIn wsX4_isIn) := goodIn_app (goodIn_of _ (by decide +kernel)) ggX4_worthiest_X4_isIn
set_option maxRecDepth 20000 in
theorem ggX4_worthiest_X3_timeOf : GoodIn wsX4_worthiest wsX3_timeOf := goodIn_r _ [18, 19, 11, 12, 13, 20, 21, 22, 17, 23, 24, 25, 53, 54, 55, 56, 57, 58, 59] (by decide +kernel) (by decide +kernel)
set_option maxRecDepth 20000 in
theorem gX4_worthiest_X3_timeOf : GoodIn wsX4_worthiest (wsV RX4 243 RX3 yX3_timeOf wsX3_timeOf) := goodIn_app (goodIn_of _ (by decide +kernel)) ggX4_worthiest_X3_timeOf
set_option maxRecDepth 20000 in
theorem ggX4_worthiest_X3_partsOf : GoodIn wsX4_worthiest wsX3_partsOf := goodIn_r _ [29, 19, 30, 11, 12, 13, 53, 54, 55, 56, 57, 58, 59] (by decide +kernel) (by decide +kernel)
set_option maxRecDepth 20000 in
theorem gX4_worthiest_X3_partsOf : GoodIn wsX4_worthiest (wsV RX4 246 RX3 yX3_partsOf wsX3_partsOf) := goodIn_app (goodIn_of _ (by decide +kernel)) ggX4_worthiest_X3_partsOf
set_option maxRecDepth 20000 in
theorem ggX4_worthiest_J13_bitCount_95d88 : GoodIn wsX4_worthiest wsJ13_bitCount_95d88 := goodIn_r _ [34, 35, 36, 37] (by decide +kernel) (by decide +kernel)
set_option maxRecDepth 20000 in
theorem gX4_worthiest_J13_bitCount_95d88 : GoodIn wsX4_worthiest (va_wsS RX4 124 yJ13_bitCount_95d88 wsJ13_bitCount_95d88) := goodIn_app (goodIn_of _ (by decide +kernel)) ggX4_worthiest_J13_bitCount_95d88
set_option maxRecDepth 20000 in
theorem ggX4_worthiest_X0_heat : GoodIn wsX4_worthiest wsX0_heat := goodIn_r _ [42, 43, 44, 45, 67, 68, 69, 70] (by decide +kernel) (by decide +kernel)
set_option maxRecDepth 20000 in
theorem gX4_worthiest_X0_heat : GoodIn wsX4_worthiest (wsV RX4 237 RX0 yX0_heat wsX0_heat) := goodIn_app (goodIn_of _ (by decide +kernel)) ggX4_worthiest_X0_heat
theorem dX4_worthiest_0 : decode cX4_worthiest 0 = .ok (.bipush (-9), 2) := by decide +kernel
theorem dX4_worthiest_2 : decode cX4_worthiest 2 = .ok (.istore_n 3, 1) := by decide +kernel
theorem dX4_worthiest_3 : decode cX4_worthiest 3 = .ok (.lconst 0, 1) := by decide +kernel
theorem dX4_worthiest_4 : decode cX4_worthiest 4 = .ok (.lstore 4, 2) := by decide +kernel
theorem dX4_worthiest_6 : decode cX4_worthiest 6 = .ok (.lconst 1, 1) := by decide +kernel
theorem dX4_worthiest_7 : decode cX4_worthiest 7 = .ok (.lstore 6, 2) := by decide +kernel
theorem dX4_worthiest_9 : decode cX4_worthiest 9 = .ok (.iconst 0, 1) := by decide +kernel
theorem dX4_worthiest_10 : decode cX4_worthiest 10 = .ok (.istore 8, 2) := by decide +kernel
theorem dX4_worthiest_12 : decode cX4_worthiest 12 = .ok (.iload 8, 2) := by decide +kernel
theorem dX4_worthiest_14 : decode cX4_worthiest 14 = .ok (.aload_n 0, 1) := by decide +kernel
theorem dX4_worthiest_15 : decode cX4_worthiest 15 = .ok (.getfield 10, 3) := by decide +kernel
theorem dX4_worthiest_18 : decode cX4_worthiest 18 = .ok (.getfield 56, 3) := by decide +kernel
theorem dX4_worthiest_21 : decode cX4_worthiest 21 = .ok (.if_icmp .ge 138, 3) := by decide +kernel
theorem dX4_worthiest_24 : decode cX4_worthiest 24 = .ok (.iload 8, 2) := by decide +kernel
theorem dX4_worthiest_26 : decode cX4_worthiest 26 = .ok (.iload_n 1, 1) := by decide +kernel
theorem dX4_worthiest_27 : decode cX4_worthiest 27 = .ok (.invokestatic 177, 3) := by decide +kernel
theorem dX4_worthiest_30 : decode cX4_worthiest 30 = .ok (.ifCond .eq 123, 3) := by decide +kernel
theorem dX4_worthiest_33 : decode cX4_worthiest 33 = .ok (.aload_n 0, 1) := by decide +kernel
theorem dX4_worthiest_34 : decode cX4_worthiest 34 = .ok (.getfield 10, 3) := by decide +kernel
theorem dX4_worthiest_37 : decode cX4_worthiest 37 = .ok (.getfield 180, 3) := by decide +kernel
theorem dX4_worthiest_40 : decode cX4_worthiest 40 = .ok (.iload 8, 2) := by decide +kernel
theorem dX4_worthiest_42 : decode cX4_worthiest 42 = .ok (.iaload, 1) := by decide +kernel
theorem dX4_worthiest_43 : decode cX4_worthiest 43 = .ok (.aload_n 0, 1) := by decide +kernel
theorem dX4_worthiest_44 : decode cX4_worthiest 44 = .ok (.getfield 26, 3) := by decide +kernel
theorem dX4_worthiest_47 : decode cX4_worthiest 47 = .ok (.getfield 147, 3) := by decide +kernel
theorem dX4_worthiest_50 : decode cX4_worthiest 50 = .ok (.iconst (-1), 1) := by decide +kernel
theorem dX4_worthiest_51 : decode cX4_worthiest 51 = .ok (.ixor, 1) := by decide +kernel
theorem dX4_worthiest_52 : decode cX4_worthiest 52 = .ok (.iand, 1) := by decide +kernel
theorem dX4_worthiest_53 : decode cX4_worthiest 53 = .ok (.istore 9, 2) := by decide +kernel
theorem dX4_worthiest_55 : decode cX4_worthiest 55 = .ok (.aload_n 0, 1) := by decide +kernel
theorem dX4_worthiest_56 : decode cX4_worthiest 56 = .ok (.getfield 10, 3) := by decide +kernel
theorem dX4_worthiest_59 : decode cX4_worthiest 59 = .ok (.iload 9, 2) := by decide +kernel
theorem dX4_worthiest_61 : decode cX4_worthiest 61 = .ok (.invokevirtual 243, 3) := by decide +kernel
theorem dX4_worthiest_64 : decode cX4_worthiest 64 = .ok (.i2l, 1) := by decide +kernel
theorem dX4_worthiest_65 : decode cX4_worthiest 65 = .ok (.lstore 10, 2) := by decide +kernel
theorem dX4_worthiest_67 : decode cX4_worthiest 67 = .ok (.aload_n 0, 1) := by decide +kernel
theorem dX4_worthiest_68 : decode cX4_worthiest 68 = .ok (.getfield 10, 3) := by decide +kernel
theorem dX4_worthiest_71 : decode cX4_worthiest 71 = .ok (.iload 9, 2) := by decide +kernel
theorem dX4_worthiest_73 : decode cX4_worthiest 73 = .ok (.invokevirtual 246, 3) := by decide +kernel
theorem dX4_worthiest_76 : decode cX4_worthiest 76 = .ok (.aload_n 0, 1) := by decide +kernel
theorem dX4_worthiest_77 : decode cX4_worthiest 77 = .ok (.getfield 26, 3) := by decide +kernel
theorem dX4_worthiest_80 : decode cX4_worthiest 80 = .ok (.getfield 249, 3) := by decide +kernel
theorem dX4_worthiest_83 : decode cX4_worthiest 83 = .ok (.land, 1) := by decide +kernel
theorem dX4_worthiest_84 : decode cX4_worthiest 84 = .ok (.aload_n 0, 1) := by decide +kernel
theorem dX4_worthiest_85 : decode cX4_worthiest 85 = .ok (.getfield 26, 3) := by decide +kernel
theorem dX4_worthiest_88 : decode cX4_worthiest 88 = .ok (.getfield 252, 3) := by decide +kernel
theorem dX4_worthiest_91 : decode cX4_worthiest 91 = .ok (.ldc2_w 204, 3) := by decide +kernel
theorem dX4_worthiest_94 : decode cX4_worthiest 94 = .ok (.lxor, 1) := by decide +kernel
theorem dX4_worthiest_95 : decode cX4_worthiest 95 = .ok (.land, 1) := by decide +kernel
theorem dX4_worthiest_96 : decode cX4_worthiest 96 = .ok (.lstore 12, 2) := by decide +kernel
theorem dX4_worthiest_98 : decode cX4_worthiest 98 = .ok (.lload 12, 2) := by decide +kernel
theorem dX4_worthiest_100 : decode cX4_worthiest 100 = .ok (.invokestatic 124, 3) := by decide +kernel
theorem dX4_worthiest_103 : decode cX4_worthiest 103 = .ok (.i2l, 1) := by decide +kernel
theorem dX4_worthiest_104 : decode cX4_worthiest 104 = .ok (.bipush 16, 2) := by decide +kernel
theorem dX4_worthiest_106 : decode cX4_worthiest 106 = .ok (.aload_n 0, 1) := by decide +kernel
theorem dX4_worthiest_107 : decode cX4_worthiest 107 = .ok (.getfield 19, 3) := by decide +kernel
theorem dX4_worthiest_110 : decode cX4_worthiest 110 = .ok (.iload 8, 2) := by decide +kernel
theorem dX4_worthiest_112 : decode cX4_worthiest 112 = .ok (.invokevirtual 237, 3) := by decide +kernel
theorem dX4_worthiest_115 : decode cX4_worthiest 115 = .ok (.iadd, 1) := by decide +kernel
theorem dX4_worthiest_116 : decode cX4_worthiest 116 = .ok (.i2l, 1) := by decide +kernel
theorem dX4_worthiest_117 : decode cX4_worthiest 117 = .ok (.lmul, 1) := by decide +kernel
theorem dX4_worthiest_118 : decode cX4_worthiest 118 = .ok (.lstore 14, 2) := by decide +kernel
theorem dX4_worthiest_120 : decode cX4_worthiest 120 = .ok (.lload 10, 2) := by decide +kernel
theorem dX4_worthiest_122 : decode cX4_worthiest 122 = .ok (.iload_n 2, 1) := by decide +kernel
theorem dX4_worthiest_123 : decode cX4_worthiest 123 = .ok (.i2l, 1) := by decide +kernel
theorem dX4_worthiest_124 : decode cX4_worthiest 124 = .ok (.lcmp, 1) := by decide +kernel
theorem dX4_worthiest_125 : decode cX4_worthiest 125 = .ok (.ifCond .gt 28, 3) := by decide +kernel
theorem dX4_worthiest_128 : decode cX4_worthiest 128 = .ok (.lload 14, 2) := by decide +kernel
theorem dX4_worthiest_130 : decode cX4_worthiest 130 = .ok (.lload 6, 2) := by decide +kernel
theorem dX4_worthiest_132 : decode cX4_worthiest 132 = .ok (.lmul, 1) := by decide +kernel
theorem dX4_worthiest_133 : decode cX4_worthiest 133 = .ok (.lload 4, 2) := by decide +kernel
theorem dX4_worthiest_135 : decode cX4_worthiest 135 = .ok (.lload 10, 2) := by decide +kernel
theorem dX4_worthiest_137 : decode cX4_worthiest 137 = .ok (.lmul, 1) := by decide +kernel
theorem dX4_worthiest_138 : decode cX4_worthiest 138 = .ok (.lcmp, 1) := by decide +kernel
theorem dX4_worthiest_139 : decode cX4_worthiest 139 = .ok (.ifCond .le 14, 3) := by decide +kernel
theorem dX4_worthiest_142 : decode cX4_worthiest 142 = .ok (.iload 8, 2) := by decide +kernel
theorem dX4_worthiest_144 : decode cX4_worthiest 144 = .ok (.istore_n 3, 1) := by decide +kernel
theorem dX4_worthiest_145 : decode cX4_worthiest 145 = .ok (.lload 14, 2) := by decide +kernel
theorem dX4_worthiest_147 : decode cX4_worthiest 147 = .ok (.lstore 4, 2) := by decide +kernel
theorem dX4_worthiest_149 : decode cX4_worthiest 149 = .ok (.lload 10, 2) := by decide +kernel
theorem dX4_worthiest_151 : decode cX4_worthiest 151 = .ok (.lstore 6, 2) := by decide +kernel
theorem dX4_worthiest_153 : decode cX4_worthiest 153 = .ok (.iinc 8 1, 3) := by decide +kernel
theorem dX4_worthiest_156 : decode cX4_worthiest 156 = .ok (.goto (-144), 3) := by decide +kernel
theorem dX4_worthiest_159 : decode cX4_worthiest 159 = .ok (.iload_n 3, 1) := by decide +kernel
theorem dX4_worthiest_160 : decode cX4_worthiest 160 = .ok (.ireturn, 1) := by decide +kernel
set_option maxRecDepth 20000 in
theorem ggX4_takeChain_X4_isIn : GoodIn wsX4_takeChain wsX4_isIn := goodIn_r _ [10] (by decide +kernel) (by decide +kernel)
set_option maxRecDepth 20000 in
theorem gX4_takeChain_X4_isIn : GoodIn wsX4_takeChain (va_wsS RX4 177 yX4_isIn wsX4_isIn) := goodIn_app (goodIn_of _ (by decide +kernel)) ggX4_takeChain_X4_isIn
set_option maxRecDepth 20000 in
theorem ggX4_takeChain_X3_countedTime : GoodIn wsX4_takeChain wsX3_countedTime := goodIn_r _ [15, 16, 17, 35, 36, 37, 38, 39, 40, 41] (by decide +kernel) (by decide +kernel)
set_option maxRecDepth 20000 in
theorem gX4_takeChain_X3_countedTime : GoodIn wsX4_takeChain (wsV RX4 183 RX3 yX3_countedTime wsX3_countedTime) := goodIn_app (goodIn_of _ (by decide +kernel)) ggX4_takeChain_X3_countedTime
set_option maxRecDepth 20000 in
theorem ggX4_takeChain_X1_take : GoodIn wsX4_takeChain wsX1_take := goodIn_r _ [22, 23, 24, 25, 26, 27, 42, 43, 44, 45, 46, 47, 48] (by decide +kernel) (by decide +kernel)
set_option maxRecDepth 20000 in
theorem gX4_takeChain_X1_take : GoodIn wsX4_takeChain (wsV RX4 255 RX1 yX1_take wsX1_take) := goodIn_app (goodIn_of _ (by decide +kernel)) ggX4_takeChain_X1_take
theorem dX4_takeChain_0 : decode cX4_takeChain 0 = .ok (.aload_n 0, 1) := by decide +kernel
theorem dX4_takeChain_1 : decode cX4_takeChain 1 = .ok (.getfield 10, 3) := by decide +kernel
theorem dX4_takeChain_4 : decode cX4_takeChain 4 = .ok (.getfield 180, 3) := by decide +kernel
theorem dX4_takeChain_7 : decode cX4_takeChain 7 = .ok (.iload_n 1, 1) := by decide +kernel
theorem dX4_takeChain_8 : decode cX4_takeChain 8 = .ok (.iaload, 1) := by decide +kernel
theorem dX4_takeChain_9 : decode cX4_takeChain 9 = .ok (.aload_n 0, 1) := by decide +kernel
theorem dX4_takeChain_10 : decode cX4_takeChain 10 = .ok (.getfield 26, 3) := by decide +kernel
theorem dX4_takeChain_13 : decode cX4_takeChain 13 = .ok (.getfield 147, 3) := by decide +kernel
theorem dX4_takeChain_16 : decode cX4_takeChain 16 = .ok (.iconst (-1), 1) := by decide +kernel
theorem dX4_takeChain_17 : decode cX4_takeChain 17 = .ok (.ixor, 1) := by decide +kernel
theorem dX4_takeChain_18 : decode cX4_takeChain 18 = .ok (.iand, 1) := by decide +kernel
theorem dX4_takeChain_19 : decode cX4_takeChain 19 = .ok (.istore_n 2, 1) := by decide +kernel
theorem dX4_takeChain_20 : decode cX4_takeChain 20 = .ok (.iconst 0, 1) := by decide +kernel
theorem dX4_takeChain_21 : decode cX4_takeChain 21 = .ok (.istore_n 3, 1) := by decide +kernel
theorem dX4_takeChain_22 : decode cX4_takeChain 22 = .ok (.iload_n 3, 1) := by decide +kernel
theorem dX4_takeChain_23 : decode cX4_takeChain 23 = .ok (.aload_n 0, 1) := by decide +kernel
theorem dX4_takeChain_24 : decode cX4_takeChain 24 = .ok (.getfield 10, 3) := by decide +kernel
theorem dX4_takeChain_27 : decode cX4_takeChain 27 = .ok (.getfield 56, 3) := by decide +kernel
theorem dX4_takeChain_30 : decode cX4_takeChain 30 = .ok (.if_icmp .ge 42, 3) := by decide +kernel
theorem dX4_takeChain_33 : decode cX4_takeChain 33 = .ok (.iload_n 3, 1) := by decide +kernel
theorem dX4_takeChain_34 : decode cX4_takeChain 34 = .ok (.iload_n 2, 1) := by decide +kernel
theorem dX4_takeChain_35 : decode cX4_takeChain 35 = .ok (.invokestatic 177, 3) := by decide +kernel
theorem dX4_takeChain_38 : decode cX4_takeChain 38 = .ok (.ifCond .eq 28, 3) := by decide +kernel
theorem dX4_takeChain_41 : decode cX4_takeChain 41 = .ok (.aload_n 0, 1) := by decide +kernel
theorem dX4_takeChain_42 : decode cX4_takeChain 42 = .ok (.getfield 26, 3) := by decide +kernel
theorem dX4_takeChain_45 : decode cX4_takeChain 45 = .ok (.iload_n 3, 1) := by decide +kernel
theorem dX4_takeChain_46 : decode cX4_takeChain 46 = .ok (.aload_n 0, 1) := by decide +kernel
theorem dX4_takeChain_47 : decode cX4_takeChain 47 = .ok (.getfield 10, 3) := by decide +kernel
theorem dX4_takeChain_50 : decode cX4_takeChain 50 = .ok (.iload_n 3, 1) := by decide +kernel
theorem dX4_takeChain_51 : decode cX4_takeChain 51 = .ok (.invokevirtual 183, 3) := by decide +kernel
theorem dX4_takeChain_54 : decode cX4_takeChain 54 = .ok (.aload_n 0, 1) := by decide +kernel
theorem dX4_takeChain_55 : decode cX4_takeChain 55 = .ok (.getfield 10, 3) := by decide +kernel
theorem dX4_takeChain_58 : decode cX4_takeChain 58 = .ok (.getfield 85, 3) := by decide +kernel
theorem dX4_takeChain_61 : decode cX4_takeChain 61 = .ok (.iload_n 3, 1) := by decide +kernel
theorem dX4_takeChain_62 : decode cX4_takeChain 62 = .ok (.laload, 1) := by decide +kernel
theorem dX4_takeChain_63 : decode cX4_takeChain 63 = .ok (.invokevirtual 255, 3) := by decide +kernel
theorem dX4_takeChain_66 : decode cX4_takeChain 66 = .ok (.iinc 3 1, 3) := by decide +kernel
theorem dX4_takeChain_69 : decode cX4_takeChain 69 = .ok (.goto (-47), 3) := by decide +kernel
theorem dX4_takeChain_72 : decode cX4_takeChain 72 = .ok (.return_, 1) := by decide +kernel
set_option maxRecDepth 20000 in
theorem ggX4_witnesses_X4_isFlaky : GoodIn wsX4_witnesses wsX4_isFlaky := goodIn_r _ [10, 4, 1, 11, 12, 13, 14, 15, 16, 17, 18, 19, 20, 21, 22, 23, 24, 25, 26, 27, 28, 29, 30, 31, 32, 33, 34, 35, 36, 37, 38, 39, 40, 41, 42] (by decide +kernel) (by decide +kernel)
set_option maxRecDepth 20000 in
theorem gX4_witnesses_X4_isFlaky : GoodIn wsX4_witnesses (wsV RX4 201 RX4 yX4_isFlaky wsX4_isFlaky) := goodIn_app (goodIn_of _ (by decide +kernel)) ggX4_witnesses_X4_isFlaky
theorem dX4_witnesses_0 : decode cX4_witnesses 0 = .ok (.iconst 0, 1) := by decide +kernel
theorem dX4_witnesses_1 : decode cX4_witnesses 1 = .ok (.istore_n 1, 1) := by decide +kernel
theorem dX4_witnesses_2 : decode cX4_witnesses 2 = .ok (.iconst 0, 1) := by decide +kernel
theorem dX4_witnesses_3 : decode cX4_witnesses 3 = .ok (.istore_n 2, 1) := by decide +kernel
theorem dX4_witnesses_4 : decode cX4_witnesses 4 = .ok (.iload_n 2, 1) := by decide +kernel
theorem dX4_witnesses_5 : decode cX4_witnesses 5 = .ok (.aload_n 0, 1) := by decide +kernel
theorem dX4_witnesses_6 : decode cX4_witnesses 6 = .ok (.getfield 10, 3) := by decide +kernel
theorem dX4_witnesses_9 : decode cX4_witnesses 9 = .ok (.getfield 56, 3) := by decide +kernel
theorem dX4_witnesses_12 : decode cX4_witnesses 12 = .ok (.if_icmp .ge 50, 3) := by decide +kernel
theorem dX4_witnesses_15 : decode cX4_witnesses 15 = .ok (.aload_n 0, 1) := by decide +kernel
theorem dX4_witnesses_16 : decode cX4_witnesses 16 = .ok (.getfield 10, 3) := by decide +kernel
theorem dX4_witnesses_19 : decode cX4_witnesses 19 = .ok (.getfield 63, 3) := by decide +kernel
theorem dX4_witnesses_22 : decode cX4_witnesses 22 = .ok (.iload_n 2, 1) := by decide +kernel
theorem dX4_witnesses_23 : decode cX4_witnesses 23 = .ok (.iaload, 1) := by decide +kernel
theorem dX4_witnesses_24 : decode cX4_witnesses 24 = .ok (.iconst 3, 1) := by decide +kernel
theorem dX4_witnesses_25 : decode cX4_witnesses 25 = .ok (.if_icmp .eq 31, 3) := by decide +kernel
theorem dX4_witnesses_28 : decode cX4_witnesses 28 = .ok (.aload_n 0, 1) := by decide +kernel
theorem dX4_witnesses_29 : decode cX4_witnesses 29 = .ok (.getfield 19, 3) := by decide +kernel
theorem dX4_witnesses_32 : decode cX4_witnesses 32 = .ok (.getfield 121, 3) := by decide +kernel
theorem dX4_witnesses_35 : decode cX4_witnesses 35 = .ok (.iload_n 2, 1) := by decide +kernel
theorem dX4_witnesses_36 : decode cX4_witnesses 36 = .ok (.laload, 1) := by decide +kernel
theorem dX4_witnesses_37 : decode cX4_witnesses 37 = .ok (.lconst 0, 1) := by decide +kernel
theorem dX4_witnesses_38 : decode cX4_witnesses 38 = .ok (.lcmp, 1) := by decide +kernel
theorem dX4_witnesses_39 : decode cX4_witnesses 39 = .ok (.ifCond .eq 17, 3) := by decide +kernel
theorem dX4_witnesses_42 : decode cX4_witnesses 42 = .ok (.aload_n 0, 1) := by decide +kernel
theorem dX4_witnesses_43 : decode cX4_witnesses 43 = .ok (.iload_n 2, 1) := by decide +kernel
theorem dX4_witnesses_44 : decode cX4_witnesses 44 = .ok (.invokevirtual 201, 3) := by decide +kernel
theorem dX4_witnesses_47 : decode cX4_witnesses 47 = .ok (.ifCond .ne 9, 3) := by decide +kernel
theorem dX4_witnesses_50 : decode cX4_witnesses 50 = .ok (.iload_n 1, 1) := by decide +kernel
theorem dX4_witnesses_51 : decode cX4_witnesses 51 = .ok (.iconst 1, 1) := by decide +kernel
theorem dX4_witnesses_52 : decode cX4_witnesses 52 = .ok (.iload_n 2, 1) := by decide +kernel
theorem dX4_witnesses_53 : decode cX4_witnesses 53 = .ok (.ishl, 1) := by decide +kernel
theorem dX4_witnesses_54 : decode cX4_witnesses 54 = .ok (.ior, 1) := by decide +kernel
theorem dX4_witnesses_55 : decode cX4_witnesses 55 = .ok (.istore_n 1, 1) := by decide +kernel
theorem dX4_witnesses_56 : decode cX4_witnesses 56 = .ok (.iinc 2 1, 3) := by decide +kernel
theorem dX4_witnesses_59 : decode cX4_witnesses 59 = .ok (.goto (-55), 3) := by decide +kernel
theorem dX4_witnesses_62 : decode cX4_witnesses 62 = .ok (.iload_n 1, 1) := by decide +kernel
theorem dX4_witnesses_63 : decode cX4_witnesses 63 = .ok (.ireturn, 1) := by decide +kernel
set_option maxRecDepth 20000 in
theorem ggX4_buildsShown_X4_isIn : GoodIn wsX4_buildsShown wsX4_isIn := goodIn_r _ [8] (by decide +kernel) (by decide +kernel)
set_option maxRecDepth 20000 in
theorem gX4_buildsShown_X4_isIn : GoodIn wsX4_buildsShown (va_wsS RX4 177 yX4_isIn wsX4_isIn) := goodIn_app (goodIn_of _ (by decide +kernel)) ggX4_buildsShown_X4_isIn
theorem dX4_buildsShown_0 : decode cX4_buildsShown 0 = .ok (.lconst 0, 1) := by decide +kernel
theorem dX4_buildsShown_1 : decode cX4_buildsShown 1 = .ok (.lstore_n 2, 1) := by decide +kernel
theorem dX4_buildsShown_2 : decode cX4_buildsShown 2 = .ok (.iconst 0, 1) := by decide +kernel
theorem dX4_buildsShown_3 : decode cX4_buildsShown 3 = .ok (.istore 4, 2) := by decide +kernel
theorem dX4_buildsShown_5 : decode cX4_buildsShown 5 = .ok (.iload 4, 2) := by decide +kernel
theorem dX4_buildsShown_7 : decode cX4_buildsShown 7 = .ok (.aload_n 0, 1) := by decide +kernel
theorem dX4_buildsShown_8 : decode cX4_buildsShown 8 = .ok (.getfield 10, 3) := by decide +kernel
theorem dX4_buildsShown_11 : decode cX4_buildsShown 11 = .ok (.getfield 56, 3) := by decide +kernel
theorem dX4_buildsShown_14 : decode cX4_buildsShown 14 = .ok (.if_icmp .ge 31, 3) := by decide +kernel
theorem dX4_buildsShown_17 : decode cX4_buildsShown 17 = .ok (.iload 4, 2) := by decide +kernel
theorem dX4_buildsShown_19 : decode cX4_buildsShown 19 = .ok (.iload_n 1, 1) := by decide +kernel
theorem dX4_buildsShown_20 : decode cX4_buildsShown 20 = .ok (.invokestatic 177, 3) := by decide +kernel
theorem dX4_buildsShown_23 : decode cX4_buildsShown 23 = .ok (.ifCond .eq 16, 3) := by decide +kernel
theorem dX4_buildsShown_26 : decode cX4_buildsShown 26 = .ok (.lload_n 2, 1) := by decide +kernel
theorem dX4_buildsShown_27 : decode cX4_buildsShown 27 = .ok (.aload_n 0, 1) := by decide +kernel
theorem dX4_buildsShown_28 : decode cX4_buildsShown 28 = .ok (.getfield 19, 3) := by decide +kernel
theorem dX4_buildsShown_31 : decode cX4_buildsShown 31 = .ok (.getfield 121, 3) := by decide +kernel
theorem dX4_buildsShown_34 : decode cX4_buildsShown 34 = .ok (.iload 4, 2) := by decide +kernel
theorem dX4_buildsShown_36 : decode cX4_buildsShown 36 = .ok (.laload, 1) := by decide +kernel
theorem dX4_buildsShown_37 : decode cX4_buildsShown 37 = .ok (.lor, 1) := by decide +kernel
theorem dX4_buildsShown_38 : decode cX4_buildsShown 38 = .ok (.lstore_n 2, 1) := by decide +kernel
theorem dX4_buildsShown_39 : decode cX4_buildsShown 39 = .ok (.iinc 4 1, 3) := by decide +kernel
theorem dX4_buildsShown_42 : decode cX4_buildsShown 42 = .ok (.goto (-37), 3) := by decide +kernel
theorem dX4_buildsShown_45 : decode cX4_buildsShown 45 = .ok (.lload_n 2, 1) := by decide +kernel
theorem dX4_buildsShown_46 : decode cX4_buildsShown 46 = .ok (.lreturn, 1) := by decide +kernel
