theorem dX0_init_0 : decode cX0_init 0 = .ok (.aload_n 0, 1) := by decide +kernel
theorem dX0_init_1 : decode cX0_init 1 = .ok (.invokespecial 3, 3) := by decide +kernel
theorem dX0_init_4 : decode cX0_init 4 = .ok (.aload_n 0, 1) := by decide +kernel
theorem dX0_init_5 : decode cX0_init 5 = .ok (.bipush 60, 2) := by decide +kernel
theorem dX0_init_7 : decode cX0_init 7 = .ok (.newarray .long, 2) := by decide +kernel
theorem dX0_init_9 : decode cX0_init 9 = .ok (.putfield 9, 3) := by decide +kernel
theorem dX0_init_12 : decode cX0_init 12 = .ok (.aload_n 0, 1) := by decide +kernel
theorem dX0_init_13 : decode cX0_init 13 = .ok (.bipush 20, 2) := by decide +kernel
theorem dX0_init_15 : decode cX0_init 15 = .ok (.newarray .long, 2) := by decide +kernel
theorem dX0_init_17 : decode cX0_init 17 = .ok (.putfield 15, 3) := by decide +kernel
theorem dX0_init_20 : decode cX0_init 20 = .ok (.aload_n 0, 1) := by decide +kernel
theorem dX0_init_21 : decode cX0_init 21 = .ok (.bipush 20, 2) := by decide +kernel
theorem dX0_init_23 : decode cX0_init 23 = .ok (.newarray .long, 2) := by decide +kernel
theorem dX0_init_25 : decode cX0_init 25 = .ok (.putfield 18, 3) := by decide +kernel
theorem dX0_init_28 : decode cX0_init 28 = .ok (.aload_n 0, 1) := by decide +kernel
theorem dX0_init_29 : decode cX0_init 29 = .ok (.iconst 0, 1) := by decide +kernel
theorem dX0_init_30 : decode cX0_init 30 = .ok (.putfield 21, 3) := by decide +kernel
theorem dX0_init_33 : decode cX0_init 33 = .ok (.return_, 1) := by decide +kernel
theorem dX0_has_0 : decode cX0_has 0 = .ok (.iload_n 1, 1) := by decide +kernel
theorem dX0_has_1 : decode cX0_has 1 = .ok (.ifCond .lt 15, 3) := by decide +kernel
theorem dX0_has_4 : decode cX0_has 4 = .ok (.iload_n 1, 1) := by decide +kernel
theorem dX0_has_5 : decode cX0_has 5 = .ok (.aload_n 0, 1) := by decide +kernel
theorem dX0_has_6 : decode cX0_has 6 = .ok (.getfield 21, 3) := by decide +kernel
theorem dX0_has_9 : decode cX0_has 9 = .ok (.if_icmp .ge 7, 3) := by decide +kernel
theorem dX0_has_12 : decode cX0_has 12 = .ok (.iconst 1, 1) := by decide +kernel
theorem dX0_has_13 : decode cX0_has 13 = .ok (.goto 4, 3) := by decide +kernel
theorem dX0_has_16 : decode cX0_has 16 = .ok (.iconst 0, 1) := by decide +kernel
theorem dX0_has_17 : decode cX0_has 17 = .ok (.ireturn, 1) := by decide +kernel
theorem dX0_add_0 : decode cX0_add 0 = .ok (.aload_n 0, 1) := by decide +kernel
theorem dX0_add_1 : decode cX0_add 1 = .ok (.getfield 9, 3) := by decide +kernel
theorem dX0_add_4 : decode cX0_add 4 = .ok (.aload_n 0, 1) := by decide +kernel
theorem dX0_add_5 : decode cX0_add 5 = .ok (.getfield 21, 3) := by decide +kernel
theorem dX0_add_8 : decode cX0_add 8 = .ok (.lload_n 1, 1) := by decide +kernel
theorem dX0_add_9 : decode cX0_add 9 = .ok (.lastore, 1) := by decide +kernel
theorem dX0_add_10 : decode cX0_add 10 = .ok (.aload_n 0, 1) := by decide +kernel
theorem dX0_add_11 : decode cX0_add 11 = .ok (.dup, 1) := by decide +kernel
theorem dX0_add_12 : decode cX0_add 12 = .ok (.getfield 21, 3) := by decide +kernel
theorem dX0_add_15 : decode cX0_add 15 = .ok (.iconst 1, 1) := by decide +kernel
theorem dX0_add_16 : decode cX0_add 16 = .ok (.iadd, 1) := by decide +kernel
theorem dX0_add_17 : decode cX0_add 17 = .ok (.putfield 21, 3) := by decide +kernel
theorem dX0_add_20 : decode cX0_add 20 = .ok (.aload_n 0, 1) := by decide +kernel
theorem dX0_add_21 : decode cX0_add 21 = .ok (.getfield 21, 3) := by decide +kernel
theorem dX0_add_24 : decode cX0_add 24 = .ok (.iconst 1, 1) := by decide +kernel
theorem dX0_add_25 : decode cX0_add 25 = .ok (.isub, 1) := by decide +kernel
theorem dX0_add_26 : decode cX0_add 26 = .ok (.ireturn, 1) := by decide +kernel
theorem dX0_presentChange_0 : decode cX0_presentChange 0 = .ok (.aload_n 0, 1) := by decide +kernel
theorem dX0_presentChange_1 : decode cX0_presentChange 1 = .ok (.getfield 21, 3) := by decide +kernel
theorem dX0_presentChange_4 : decode cX0_presentChange 4 = .ok (.ifCond .le 17, 3) := by decide +kernel
theorem dX0_presentChange_7 : decode cX0_presentChange 7 = .ok (.aload_n 0, 1) := by decide +kernel
theorem dX0_presentChange_8 : decode cX0_presentChange 8 = .ok (.getfield 9, 3) := by decide +kernel
theorem dX0_presentChange_11 : decode cX0_presentChange 11 = .ok (.aload_n 0, 1) := by decide +kernel
theorem dX0_presentChange_12 : decode cX0_presentChange 12 = .ok (.getfield 21, 3) := by decide +kernel
theorem dX0_presentChange_15 : decode cX0_presentChange 15 = .ok (.iconst 1, 1) := by decide +kernel
theorem dX0_presentChange_16 : decode cX0_presentChange 16 = .ok (.isub, 1) := by decide +kernel
theorem dX0_presentChange_17 : decode cX0_presentChange 17 = .ok (.laload, 1) := by decide +kernel
theorem dX0_presentChange_18 : decode cX0_presentChange 18 = .ok (.goto 4, 3) := by decide +kernel
theorem dX0_presentChange_21 : decode cX0_presentChange 21 = .ok (.lconst 0, 1) := by decide +kernel
theorem dX0_presentChange_22 : decode cX0_presentChange 22 = .ok (.lreturn, 1) := by decide +kernel
theorem dX0_verdictIn_0 : decode cX0_verdictIn 0 = .ok (.aload_n 0, 1) := by decide +kernel
theorem dX0_verdictIn_1 : decode cX0_verdictIn 1 = .ok (.getfield 15, 3) := by decide +kernel
theorem dX0_verdictIn_4 : decode cX0_verdictIn 4 = .ok (.iload_n 1, 1) := by decide +kernel
theorem dX0_verdictIn_5 : decode cX0_verdictIn 5 = .ok (.laload, 1) := by decide +kernel
theorem dX0_verdictIn_6 : decode cX0_verdictIn 6 = .ok (.iload_n 2, 1) := by decide +kernel
theorem dX0_verdictIn_7 : decode cX0_verdictIn 7 = .ok (.lushr, 1) := by decide +kernel
theorem dX0_verdictIn_8 : decode cX0_verdictIn 8 = .ok (.lconst 1, 1) := by decide +kernel
theorem dX0_verdictIn_9 : decode cX0_verdictIn 9 = .ok (.land, 1) := by decide +kernel
theorem dX0_verdictIn_10 : decode cX0_verdictIn 10 = .ok (.lconst 1, 1) := by decide +kernel
theorem dX0_verdictIn_11 : decode cX0_verdictIn 11 = .ok (.lcmp, 1) := by decide +kernel
theorem dX0_verdictIn_12 : decode cX0_verdictIn 12 = .ok (.ifCond .ne 5, 3) := by decide +kernel
theorem dX0_verdictIn_15 : decode cX0_verdictIn 15 = .ok (.iconst 1, 1) := by decide +kernel
theorem dX0_verdictIn_16 : decode cX0_verdictIn 16 = .ok (.ireturn, 1) := by decide +kernel
theorem dX0_verdictIn_17 : decode cX0_verdictIn 17 = .ok (.aload_n 0, 1) := by decide +kernel
theorem dX0_verdictIn_18 : decode cX0_verdictIn 18 = .ok (.getfield 18, 3) := by decide +kernel
theorem dX0_verdictIn_21 : decode cX0_verdictIn 21 = .ok (.iload_n 1, 1) := by decide +kernel
theorem dX0_verdictIn_22 : decode cX0_verdictIn 22 = .ok (.laload, 1) := by decide +kernel
theorem dX0_verdictIn_23 : decode cX0_verdictIn 23 = .ok (.iload_n 2, 1) := by decide +kernel
theorem dX0_verdictIn_24 : decode cX0_verdictIn 24 = .ok (.lushr, 1) := by decide +kernel
theorem dX0_verdictIn_25 : decode cX0_verdictIn 25 = .ok (.lconst 1, 1) := by decide +kernel
theorem dX0_verdictIn_26 : decode cX0_verdictIn 26 = .ok (.land, 1) := by decide +kernel
theorem dX0_verdictIn_27 : decode cX0_verdictIn 27 = .ok (.lconst 1, 1) := by decide +kernel
theorem dX0_verdictIn_28 : decode cX0_verdictIn 28 = .ok (.lcmp, 1) := by decide +kernel
theorem dX0_verdictIn_29 : decode cX0_verdictIn 29 = .ok (.ifCond .ne 7, 3) := by decide +kernel
theorem dX0_verdictIn_32 : decode cX0_verdictIn 32 = .ok (.iconst 0, 1) := by decide +kernel
theorem dX0_verdictIn_33 : decode cX0_verdictIn 33 = .ok (.goto 5, 3) := by decide +kernel
theorem dX0_verdictIn_36 : decode cX0_verdictIn 36 = .ok (.bipush (-9), 2) := by decide +kernel
theorem dX0_verdictIn_38 : decode cX0_verdictIn 38 = .ok (.ireturn, 1) := by decide +kernel
theorem dX0_judge_0 : decode cX0_judge 0 = .ok (.lconst 1, 1) := by decide +kernel
theorem dX0_judge_1 : decode cX0_judge 1 = .ok (.aload_n 0, 1) := by decide +kernel
theorem dX0_judge_2 : decode cX0_judge 2 = .ok (.getfield 21, 3) := by decide +kernel
theorem dX0_judge_5 : decode cX0_judge 5 = .ok (.iconst 1, 1) := by decide +kernel
theorem dX0_judge_6 : decode cX0_judge 6 = .ok (.isub, 1) := by decide +kernel
theorem dX0_judge_7 : decode cX0_judge 7 = .ok (.lshl, 1) := by decide +kernel
theorem dX0_judge_8 : decode cX0_judge 8 = .ok (.lstore_n 3, 1) := by decide +kernel
theorem dX0_judge_9 : decode cX0_judge 9 = .ok (.aload_n 0, 1) := by decide +kernel
theorem dX0_judge_10 : decode cX0_judge 10 = .ok (.getfield 15, 3) := by decide +kernel
theorem dX0_judge_13 : decode cX0_judge 13 = .ok (.iload_n 1, 1) := by decide +kernel
theorem dX0_judge_14 : decode cX0_judge 14 = .ok (.iload_n 2, 1) := by decide +kernel
theorem dX0_judge_15 : decode cX0_judge 15 = .ok (.ifCond .eq 14, 3) := by decide +kernel
theorem dX0_judge_18 : decode cX0_judge 18 = .ok (.aload_n 0, 1) := by decide +kernel
theorem dX0_judge_19 : decode cX0_judge 19 = .ok (.getfield 15, 3) := by decide +kernel
theorem dX0_judge_22 : decode cX0_judge 22 = .ok (.iload_n 1, 1) := by decide +kernel
theorem dX0_judge_23 : decode cX0_judge 23 = .ok (.laload, 1) := by decide +kernel
theorem dX0_judge_24 : decode cX0_judge 24 = .ok (.lload_n 3, 1) := by decide +kernel
theorem dX0_judge_25 : decode cX0_judge 25 = .ok (.lor, 1) := by decide +kernel
theorem dX0_judge_26 : decode cX0_judge 26 = .ok (.goto 15, 3) := by decide +kernel
theorem dX0_judge_29 : decode cX0_judge 29 = .ok (.aload_n 0, 1) := by decide +kernel
theorem dX0_judge_30 : decode cX0_judge 30 = .ok (.getfield 15, 3) := by decide +kernel
theorem dX0_judge_33 : decode cX0_judge 33 = .ok (.iload_n 1, 1) := by decide +kernel
theorem dX0_judge_34 : decode cX0_judge 34 = .ok (.laload, 1) := by decide +kernel
theorem dX0_judge_35 : decode cX0_judge 35 = .ok (.lload_n 3, 1) := by decide +kernel
theorem dX0_judge_36 : decode cX0_judge 36 = .ok (.ldc2_w 25, 3) := by decide +kernel
theorem dX0_judge_39 : decode cX0_judge 39 = .ok (.lxor, 1) := by decide +kernel
theorem dX0_judge_40 : decode cX0_judge 40 = .ok (.land, 1) := by decide +kernel
theorem dX0_judge_41 : decode cX0_judge 41 = .ok (.lastore, 1) := by decide +kernel
theorem dX0_judge_42 : decode cX0_judge 42 = .ok (.aload_n 0, 1) := by decide +kernel
theorem dX0_judge_43 : decode cX0_judge 43 = .ok (.getfield 18, 3) := by decide +kernel
theorem dX0_judge_46 : decode cX0_judge 46 = .ok (.iload_n 1, 1) := by decide +kernel
theorem dX0_judge_47 : decode cX0_judge 47 = .ok (.iload_n 2, 1) := by decide +kernel
theorem dX0_judge_48 : decode cX0_judge 48 = .ok (.ifCond .eq 18, 3) := by decide +kernel
theorem dX0_judge_51 : decode cX0_judge 51 = .ok (.aload_n 0, 1) := by decide +kernel
theorem dX0_judge_52 : decode cX0_judge 52 = .ok (.getfield 18, 3) := by decide +kernel
theorem dX0_judge_55 : decode cX0_judge 55 = .ok (.iload_n 1, 1) := by decide +kernel
theorem dX0_judge_56 : decode cX0_judge 56 = .ok (.laload, 1) := by decide +kernel
theorem dX0_judge_57 : decode cX0_judge 57 = .ok (.lload_n 3, 1) := by decide +kernel
theorem dX0_judge_58 : decode cX0_judge 58 = .ok (.ldc2_w 25, 3) := by decide +kernel
theorem dX0_judge_61 : decode cX0_judge 61 = .ok (.lxor, 1) := by decide +kernel
theorem dX0_judge_62 : decode cX0_judge 62 = .ok (.land, 1) := by decide +kernel
theorem dX0_judge_63 : decode cX0_judge 63 = .ok (.goto 11, 3) := by decide +kernel
theorem dX0_judge_66 : decode cX0_judge 66 = .ok (.aload_n 0, 1) := by decide +kernel
theorem dX0_judge_67 : decode cX0_judge 67 = .ok (.getfield 18, 3) := by decide +kernel
theorem dX0_judge_70 : decode cX0_judge 70 = .ok (.iload_n 1, 1) := by decide +kernel
theorem dX0_judge_71 : decode cX0_judge 71 = .ok (.laload, 1) := by decide +kernel
theorem dX0_judge_72 : decode cX0_judge 72 = .ok (.lload_n 3, 1) := by decide +kernel
theorem dX0_judge_73 : decode cX0_judge 73 = .ok (.lor, 1) := by decide +kernel
theorem dX0_judge_74 : decode cX0_judge 74 = .ok (.lastore, 1) := by decide +kernel
theorem dX0_judge_75 : decode cX0_judge 75 = .ok (.return_, 1) := by decide +kernel
theorem dX0_heat_0 : decode cX0_heat 0 = .ok (.aload_n 0, 1) := by decide +kernel
theorem dX0_heat_1 : decode cX0_heat 1 = .ok (.getfield 21, 3) := by decide +kernel
theorem dX0_heat_4 : decode cX0_heat 4 = .ok (.iconst 1, 1) := by decide +kernel
theorem dX0_heat_5 : decode cX0_heat 5 = .ok (.isub, 1) := by decide +kernel
theorem dX0_heat_6 : decode cX0_heat 6 = .ok (.istore_n 2, 1) := by decide +kernel
theorem dX0_heat_7 : decode cX0_heat 7 = .ok (.iload_n 2, 1) := by decide +kernel
theorem dX0_heat_8 : decode cX0_heat 8 = .ok (.iconst 1, 1) := by decide +kernel
theorem dX0_heat_9 : decode cX0_heat 9 = .ok (.if_icmp .ge 5, 3) := by decide +kernel
theorem dX0_heat_12 : decode cX0_heat 12 = .ok (.iconst 0, 1) := by decide +kernel
theorem dX0_heat_13 : decode cX0_heat 13 = .ok (.ireturn, 1) := by decide +kernel
theorem dX0_heat_14 : decode cX0_heat 14 = .ok (.iload_n 2, 1) := by decide +kernel
theorem dX0_heat_15 : decode cX0_heat 15 = .ok (.bipush 8, 2) := by decide +kernel
theorem dX0_heat_17 : decode cX0_heat 17 = .ok (.if_icmp .lt 17, 3) := by decide +kernel
theorem dX0_heat_20 : decode cX0_heat 20 = .ok (.aload_n 0, 1) := by decide +kernel
theorem dX0_heat_21 : decode cX0_heat 21 = .ok (.getfield 15, 3) := by decide +kernel
theorem dX0_heat_24 : decode cX0_heat 24 = .ok (.iload_n 1, 1) := by decide +kernel
theorem dX0_heat_25 : decode cX0_heat 25 = .ok (.laload, 1) := by decide +kernel
theorem dX0_heat_26 : decode cX0_heat 26 = .ok (.iload_n 2, 1) := by decide +kernel
theorem dX0_heat_27 : decode cX0_heat 27 = .ok (.bipush 8, 2) := by decide +kernel
theorem dX0_heat_29 : decode cX0_heat 29 = .ok (.isub, 1) := by decide +kernel
theorem dX0_heat_30 : decode cX0_heat 30 = .ok (.lushr, 1) := by decide +kernel
theorem dX0_heat_31 : decode cX0_heat 31 = .ok (.goto 14, 3) := by decide +kernel
theorem dX0_heat_34 : decode cX0_heat 34 = .ok (.aload_n 0, 1) := by decide +kernel
theorem dX0_heat_35 : decode cX0_heat 35 = .ok (.getfield 15, 3) := by decide +kernel
theorem dX0_heat_38 : decode cX0_heat 38 = .ok (.iload_n 1, 1) := by decide +kernel
theorem dX0_heat_39 : decode cX0_heat 39 = .ok (.laload, 1) := by decide +kernel
theorem dX0_heat_40 : decode cX0_heat 40 = .ok (.bipush 8, 2) := by decide +kernel
theorem dX0_heat_42 : decode cX0_heat 42 = .ok (.iload_n 2, 1) := by decide +kernel
theorem dX0_heat_43 : decode cX0_heat 43 = .ok (.isub, 1) := by decide +kernel
theorem dX0_heat_44 : decode cX0_heat 44 = .ok (.lshl, 1) := by decide +kernel
theorem dX0_heat_45 : decode cX0_heat 45 = .ok (.lstore_n 3, 1) := by decide +kernel
theorem dX0_heat_46 : decode cX0_heat 46 = .ok (.lload_n 3, 1) := by decide +kernel
theorem dX0_heat_47 : decode cX0_heat 47 = .ok (.ldc2_w 27, 3) := by decide +kernel
theorem dX0_heat_50 : decode cX0_heat 50 = .ok (.land, 1) := by decide +kernel
theorem dX0_heat_51 : decode cX0_heat 51 = .ok (.l2i, 1) := by decide +kernel
theorem dX0_heat_52 : decode cX0_heat 52 = .ok (.ireturn, 1) := by decide +kernel
set_option maxRecDepth 20000 in
theorem ggX0_wavers_X0_verdictIn : GoodIn wsX0_wavers wsX0_verdictIn := goodIn_r _ [7, 8, 9, 10, 11, 12, 13] (by decide +kernel) (by decide +kernel)
set_option maxRecDepth 20000 in
theorem gX0_wavers_X0_verdictIn : GoodIn wsX0_wavers (wsV RX0 29 RX0 yX0_verdictIn wsX0_verdictIn) := goodIn_app (goodIn_of _ (by decide +kernel)) ggX0_wavers_X0_verdictIn
theorem dX0_wavers_0 : decode cX0_wavers 0 = .ok (.bipush (-9), 2) := by decide +kernel
theorem dX0_wavers_2 : decode cX0_wavers 2 = .ok (.istore 4, 2) := by decide +kernel
theorem dX0_wavers_4 : decode cX0_wavers 4 = .ok (.lconst 0, 1) := by decide +kernel
theorem dX0_wavers_5 : decode cX0_wavers 5 = .ok (.lstore 5, 2) := by decide +kernel
theorem dX0_wavers_7 : decode cX0_wavers 7 = .ok (.iconst 0, 1) := by decide +kernel
theorem dX0_wavers_8 : decode cX0_wavers 8 = .ok (.istore 7, 2) := by decide +kernel
theorem dX0_wavers_10 : decode cX0_wavers 10 = .ok (.iload 7, 2) := by decide +kernel
theorem dX0_wavers_12 : decode cX0_wavers 12 = .ok (.aload_n 0, 1) := by decide +kernel
theorem dX0_wavers_13 : decode cX0_wavers 13 = .ok (.getfield 21, 3) := by decide +kernel
theorem dX0_wavers_16 : decode cX0_wavers 16 = .ok (.if_icmp .ge 69, 3) := by decide +kernel
theorem dX0_wavers_19 : decode cX0_wavers 19 = .ok (.lload 5, 2) := by decide +kernel
theorem dX0_wavers_21 : decode cX0_wavers 21 = .ok (.aload_n 0, 1) := by decide +kernel
theorem dX0_wavers_22 : decode cX0_wavers 22 = .ok (.getfield 9, 3) := by decide +kernel
theorem dX0_wavers_25 : decode cX0_wavers 25 = .ok (.iload 7, 2) := by decide +kernel
theorem dX0_wavers_27 : decode cX0_wavers 27 = .ok (.laload, 1) := by decide +kernel
theorem dX0_wavers_28 : decode cX0_wavers 28 = .ok (.lor, 1) := by decide +kernel
theorem dX0_wavers_29 : decode cX0_wavers 29 = .ok (.lstore 5, 2) := by decide +kernel
theorem dX0_wavers_31 : decode cX0_wavers 31 = .ok (.aload_n 0, 1) := by decide +kernel
theorem dX0_wavers_32 : decode cX0_wavers 32 = .ok (.iload_n 1, 1) := by decide +kernel
theorem dX0_wavers_33 : decode cX0_wavers 33 = .ok (.iload 7, 2) := by decide +kernel
theorem dX0_wavers_35 : decode cX0_wavers 35 = .ok (.invokevirtual 29, 3) := by decide +kernel
theorem dX0_wavers_38 : decode cX0_wavers 38 = .ok (.istore 8, 2) := by decide +kernel
theorem dX0_wavers_40 : decode cX0_wavers 40 = .ok (.iload 8, 2) := by decide +kernel
theorem dX0_wavers_42 : decode cX0_wavers 42 = .ok (.bipush (-9), 2) := by decide +kernel
theorem dX0_wavers_44 : decode cX0_wavers 44 = .ok (.if_icmp .eq 35, 3) := by decide +kernel
theorem dX0_wavers_47 : decode cX0_wavers 47 = .ok (.iload 4, 2) := by decide +kernel
theorem dX0_wavers_49 : decode cX0_wavers 49 = .ok (.bipush (-9), 2) := by decide +kernel
theorem dX0_wavers_51 : decode cX0_wavers 51 = .ok (.if_icmp .eq 21, 3) := by decide +kernel
theorem dX0_wavers_54 : decode cX0_wavers 54 = .ok (.iload 4, 2) := by decide +kernel
theorem dX0_wavers_56 : decode cX0_wavers 56 = .ok (.iload 8, 2) := by decide +kernel
theorem dX0_wavers_58 : decode cX0_wavers 58 = .ok (.if_icmp .eq 14, 3) := by decide +kernel
theorem dX0_wavers_61 : decode cX0_wavers 61 = .ok (.lload 5, 2) := by decide +kernel
theorem dX0_wavers_63 : decode cX0_wavers 63 = .ok (.lload_n 2, 1) := by decide +kernel
theorem dX0_wavers_64 : decode cX0_wavers 64 = .ok (.land, 1) := by decide +kernel
theorem dX0_wavers_65 : decode cX0_wavers 65 = .ok (.lconst 0, 1) := by decide +kernel
theorem dX0_wavers_66 : decode cX0_wavers 66 = .ok (.lcmp, 1) := by decide +kernel
theorem dX0_wavers_67 : decode cX0_wavers 67 = .ok (.ifCond .ne 5, 3) := by decide +kernel
theorem dX0_wavers_70 : decode cX0_wavers 70 = .ok (.iconst 1, 1) := by decide +kernel
theorem dX0_wavers_71 : decode cX0_wavers 71 = .ok (.ireturn, 1) := by decide +kernel
theorem dX0_wavers_72 : decode cX0_wavers 72 = .ok (.iload 8, 2) := by decide +kernel
theorem dX0_wavers_74 : decode cX0_wavers 74 = .ok (.istore 4, 2) := by decide +kernel
theorem dX0_wavers_76 : decode cX0_wavers 76 = .ok (.lconst 0, 1) := by decide +kernel
theorem dX0_wavers_77 : decode cX0_wavers 77 = .ok (.lstore 5, 2) := by decide +kernel
theorem dX0_wavers_79 : decode cX0_wavers 79 = .ok (.iinc 7 1, 3) := by decide +kernel
theorem dX0_wavers_82 : decode cX0_wavers 82 = .ok (.goto (-72), 3) := by decide +kernel
theorem dX0_wavers_85 : decode cX0_wavers 85 = .ok (.iconst 0, 1) := by decide +kernel
theorem dX0_wavers_86 : decode cX0_wavers 86 = .ok (.ireturn, 1) := by decide +kernel
theorem dX0_fellLast_0 : decode cX0_fellLast 0 = .ok (.aload_n 0, 1) := by decide +kernel
theorem dX0_fellLast_1 : decode cX0_fellLast 1 = .ok (.getfield 15, 3) := by decide +kernel
theorem dX0_fellLast_4 : decode cX0_fellLast 4 = .ok (.iload_n 1, 1) := by decide +kernel
theorem dX0_fellLast_5 : decode cX0_fellLast 5 = .ok (.laload, 1) := by decide +kernel
theorem dX0_fellLast_6 : decode cX0_fellLast 6 = .ok (.aload_n 0, 1) := by decide +kernel
theorem dX0_fellLast_7 : decode cX0_fellLast 7 = .ok (.getfield 18, 3) := by decide +kernel
theorem dX0_fellLast_10 : decode cX0_fellLast 10 = .ok (.iload_n 1, 1) := by decide +kernel
theorem dX0_fellLast_11 : decode cX0_fellLast 11 = .ok (.laload, 1) := by decide +kernel
theorem dX0_fellLast_12 : decode cX0_fellLast 12 = .ok (.lcmp, 1) := by decide +kernel
theorem dX0_fellLast_13 : decode cX0_fellLast 13 = .ok (.ifCond .le 7, 3) := by decide +kernel
theorem dX0_fellLast_16 : decode cX0_fellLast 16 = .ok (.iconst 1, 1) := by decide +kernel
theorem dX0_fellLast_17 : decode cX0_fellLast 17 = .ok (.goto 4, 3) := by decide +kernel
theorem dX0_fellLast_20 : decode cX0_fellLast 20 = .ok (.iconst 0, 1) := by decide +kernel
theorem dX0_fellLast_21 : decode cX0_fellLast 21 = .ok (.ireturn, 1) := by decide +kernel
set_option maxRecDepth 20000 in
theorem ggX0_verdictsInAll_J13_bitCount_95d88 : GoodIn wsX0_verdictsInAll wsJ13_bitCount_95d88 := goodIn_r _ [6, 7, 8, 9] (by decide +kernel) (by decide +kernel)
set_option maxRecDepth 20000 in
theorem gX0_verdictsInAll_J13_bitCount_95d88 : GoodIn wsX0_verdictsInAll (va_wsS RX0 33 yJ13_bitCount_95d88 wsJ13_bitCount_95d88) := goodIn_app (goodIn_of _ (by decide +kernel)) ggX0_verdictsInAll_J13_bitCount_95d88
theorem dX0_verdictsInAll_0 : decode cX0_verdictsInAll 0 = .ok (.iconst 0, 1) := by decide +kernel
theorem dX0_verdictsInAll_1 : decode cX0_verdictsInAll 1 = .ok (.istore_n 1, 1) := by decide +kernel
theorem dX0_verdictsInAll_2 : decode cX0_verdictsInAll 2 = .ok (.iconst 0, 1) := by decide +kernel
theorem dX0_verdictsInAll_3 : decode cX0_verdictsInAll 3 = .ok (.istore_n 2, 1) := by decide +kernel
theorem dX0_verdictsInAll_4 : decode cX0_verdictsInAll 4 = .ok (.iload_n 2, 1) := by decide +kernel
theorem dX0_verdictsInAll_5 : decode cX0_verdictsInAll 5 = .ok (.bipush 20, 2) := by decide +kernel
theorem dX0_verdictsInAll_7 : decode cX0_verdictsInAll 7 = .ok (.if_icmp .ge 31, 3) := by decide +kernel
theorem dX0_verdictsInAll_10 : decode cX0_verdictsInAll 10 = .ok (.iload_n 1, 1) := by decide +kernel
theorem dX0_verdictsInAll_11 : decode cX0_verdictsInAll 11 = .ok (.aload_n 0, 1) := by decide +kernel
theorem dX0_verdictsInAll_12 : decode cX0_verdictsInAll 12 = .ok (.getfield 15, 3) := by decide +kernel
theorem dX0_verdictsInAll_15 : decode cX0_verdictsInAll 15 = .ok (.iload_n 2, 1) := by decide +kernel
theorem dX0_verdictsInAll_16 : decode cX0_verdictsInAll 16 = .ok (.laload, 1) := by decide +kernel
theorem dX0_verdictsInAll_17 : decode cX0_verdictsInAll 17 = .ok (.invokestatic 33, 3) := by decide +kernel
theorem dX0_verdictsInAll_20 : decode cX0_verdictsInAll 20 = .ok (.aload_n 0, 1) := by decide +kernel
theorem dX0_verdictsInAll_21 : decode cX0_verdictsInAll 21 = .ok (.getfield 18, 3) := by decide +kernel
theorem dX0_verdictsInAll_24 : decode cX0_verdictsInAll 24 = .ok (.iload_n 2, 1) := by decide +kernel
theorem dX0_verdictsInAll_25 : decode cX0_verdictsInAll 25 = .ok (.laload, 1) := by decide +kernel
theorem dX0_verdictsInAll_26 : decode cX0_verdictsInAll 26 = .ok (.invokestatic 33, 3) := by decide +kernel
theorem dX0_verdictsInAll_29 : decode cX0_verdictsInAll 29 = .ok (.iadd, 1) := by decide +kernel
theorem dX0_verdictsInAll_30 : decode cX0_verdictsInAll 30 = .ok (.iadd, 1) := by decide +kernel
theorem dX0_verdictsInAll_31 : decode cX0_verdictsInAll 31 = .ok (.istore_n 1, 1) := by decide +kernel
theorem dX0_verdictsInAll_32 : decode cX0_verdictsInAll 32 = .ok (.iinc 2 1, 3) := by decide +kernel
theorem dX0_verdictsInAll_35 : decode cX0_verdictsInAll 35 = .ok (.goto (-31), 3) := by decide +kernel
theorem dX0_verdictsInAll_38 : decode cX0_verdictsInAll 38 = .ok (.iload_n 1, 1) := by decide +kernel
theorem dX0_verdictsInAll_39 : decode cX0_verdictsInAll 39 = .ok (.ireturn, 1) := by decide +kernel
theorem dX1_init_0 : decode cX1_init 0 = .ok (.aload_n 0, 1) := by decide +kernel
theorem dX1_init_1 : decode cX1_init 1 = .ok (.invokespecial 3, 3) := by decide +kernel
theorem dX1_init_4 : decode cX1_init 4 = .ok (.aload_n 0, 1) := by decide +kernel
theorem dX1_init_5 : decode cX1_init 5 = .ok (.bipush 20, 2) := by decide +kernel
theorem dX1_init_7 : decode cX1_init 7 = .ok (.newarray .int, 2) := by decide +kernel
theorem dX1_init_9 : decode cX1_init 9 = .ok (.putfield 9, 3) := by decide +kernel
theorem dX1_init_12 : decode cX1_init 12 = .ok (.aload_n 0, 1) := by decide +kernel
theorem dX1_init_13 : decode cX1_init 13 = .ok (.iconst 0, 1) := by decide +kernel
theorem dX1_init_14 : decode cX1_init 14 = .ok (.putfield 15, 3) := by decide +kernel
theorem dX1_init_17 : decode cX1_init 17 = .ok (.aload_n 0, 1) := by decide +kernel
theorem dX1_init_18 : decode cX1_init 18 = .ok (.iconst 0, 1) := by decide +kernel
theorem dX1_init_19 : decode cX1_init 19 = .ok (.putfield 19, 3) := by decide +kernel
theorem dX1_init_22 : decode cX1_init 22 = .ok (.aload_n 0, 1) := by decide +kernel
theorem dX1_init_23 : decode cX1_init 23 = .ok (.iconst 0, 1) := by decide +kernel
theorem dX1_init_24 : decode cX1_init 24 = .ok (.putfield 22, 3) := by decide +kernel
theorem dX1_init_27 : decode cX1_init 27 = .ok (.aload_n 0, 1) := by decide +kernel
theorem dX1_init_28 : decode cX1_init 28 = .ok (.lconst 0, 1) := by decide +kernel
theorem dX1_init_29 : decode cX1_init 29 = .ok (.putfield 25, 3) := by decide +kernel
theorem dX1_init_32 : decode cX1_init 32 = .ok (.aload_n 0, 1) := by decide +kernel
theorem dX1_init_33 : decode cX1_init 33 = .ok (.lconst 0, 1) := by decide +kernel
theorem dX1_init_34 : decode cX1_init 34 = .ok (.putfield 29, 3) := by decide +kernel
theorem dX1_init_37 : decode cX1_init 37 = .ok (.aload_n 0, 1) := by decide +kernel
theorem dX1_init_38 : decode cX1_init 38 = .ok (.iconst 0, 1) := by decide +kernel
theorem dX1_init_39 : decode cX1_init 39 = .ok (.putfield 32, 3) := by decide +kernel
theorem dX1_init_42 : decode cX1_init 42 = .ok (.return_, 1) := by decide +kernel
theorem dX1_drop_0 : decode cX1_drop 0 = .ok (.aload_n 0, 1) := by decide +kernel
theorem dX1_drop_1 : decode cX1_drop 1 = .ok (.iconst 0, 1) := by decide +kernel
theorem dX1_drop_2 : decode cX1_drop 2 = .ok (.putfield 32, 3) := by decide +kernel
theorem dX1_drop_5 : decode cX1_drop 5 = .ok (.aload_n 0, 1) := by decide +kernel
theorem dX1_drop_6 : decode cX1_drop 6 = .ok (.iconst 0, 1) := by decide +kernel
theorem dX1_drop_7 : decode cX1_drop 7 = .ok (.putfield 15, 3) := by decide +kernel
theorem dX1_drop_10 : decode cX1_drop 10 = .ok (.aload_n 0, 1) := by decide +kernel
theorem dX1_drop_11 : decode cX1_drop 11 = .ok (.iconst 0, 1) := by decide +kernel
theorem dX1_drop_12 : decode cX1_drop 12 = .ok (.putfield 19, 3) := by decide +kernel
theorem dX1_drop_15 : decode cX1_drop 15 = .ok (.aload_n 0, 1) := by decide +kernel
theorem dX1_drop_16 : decode cX1_drop 16 = .ok (.iconst 0, 1) := by decide +kernel
theorem dX1_drop_17 : decode cX1_drop 17 = .ok (.putfield 22, 3) := by decide +kernel
theorem dX1_drop_20 : decode cX1_drop 20 = .ok (.aload_n 0, 1) := by decide +kernel
theorem dX1_drop_21 : decode cX1_drop 21 = .ok (.lconst 0, 1) := by decide +kernel
theorem dX1_drop_22 : decode cX1_drop 22 = .ok (.putfield 25, 3) := by decide +kernel
theorem dX1_drop_25 : decode cX1_drop 25 = .ok (.aload_n 0, 1) := by decide +kernel
theorem dX1_drop_26 : decode cX1_drop 26 = .ok (.lconst 0, 1) := by decide +kernel
theorem dX1_drop_27 : decode cX1_drop 27 = .ok (.putfield 29, 3) := by decide +kernel
theorem dX1_drop_30 : decode cX1_drop 30 = .ok (.return_, 1) := by decide +kernel
set_option maxRecDepth 20000 in
theorem ggX1_begin_X1_drop : GoodIn wsX1_begin wsX1_drop := goodIn_r _ [7, 1, 8, 9, 10, 11, 2, 12, 13, 14, 15, 16, 17, 18] (by decide +kernel) (by decide +kernel)
set_option maxRecDepth 20000 in
theorem gX1_begin_X1_drop : GoodIn wsX1_begin (wsV RX1 36 RX1 yX1_drop wsX1_drop) := goodIn_app (goodIn_of _ (by decide +kernel)) ggX1_begin_X1_drop
theorem dX1_begin_0 : decode cX1_begin 0 = .ok (.aload_n 0, 1) := by decide +kernel
theorem dX1_begin_1 : decode cX1_begin 1 = .ok (.invokevirtual 36, 3) := by decide +kernel
theorem dX1_begin_4 : decode cX1_begin 4 = .ok (.aload_n 0, 1) := by decide +kernel
theorem dX1_begin_5 : decode cX1_begin 5 = .ok (.iconst 1, 1) := by decide +kernel
theorem dX1_begin_6 : decode cX1_begin 6 = .ok (.putfield 32, 3) := by decide +kernel
theorem dX1_begin_9 : decode cX1_begin 9 = .ok (.aload_n 0, 1) := by decide +kernel
theorem dX1_begin_10 : decode cX1_begin 10 = .ok (.lload_n 1, 1) := by decide +kernel
theorem dX1_begin_11 : decode cX1_begin 11 = .ok (.putfield 29, 3) := by decide +kernel
theorem dX1_begin_14 : decode cX1_begin 14 = .ok (.return_, 1) := by decide +kernel
theorem dX1_take_0 : decode cX1_take 0 = .ok (.aload_n 0, 1) := by decide +kernel
theorem dX1_take_1 : decode cX1_take 1 = .ok (.getfield 15, 3) := by decide +kernel
theorem dX1_take_4 : decode cX1_take 4 = .ok (.bipush 20, 2) := by decide +kernel
theorem dX1_take_6 : decode cX1_take 6 = .ok (.if_icmp .ge 55, 3) := by decide +kernel
theorem dX1_take_9 : decode cX1_take 9 = .ok (.aload_n 0, 1) := by decide +kernel
theorem dX1_take_10 : decode cX1_take 10 = .ok (.getfield 9, 3) := by decide +kernel
theorem dX1_take_13 : decode cX1_take 13 = .ok (.aload_n 0, 1) := by decide +kernel
theorem dX1_take_14 : decode cX1_take 14 = .ok (.getfield 15, 3) := by decide +kernel
theorem dX1_take_17 : decode cX1_take 17 = .ok (.iload_n 1, 1) := by decide +kernel
theorem dX1_take_18 : decode cX1_take 18 = .ok (.iastore, 1) := by decide +kernel
theorem dX1_take_19 : decode cX1_take 19 = .ok (.aload_n 0, 1) := by decide +kernel
theorem dX1_take_20 : decode cX1_take 20 = .ok (.dup, 1) := by decide +kernel
theorem dX1_take_21 : decode cX1_take 21 = .ok (.getfield 15, 3) := by decide +kernel
theorem dX1_take_24 : decode cX1_take 24 = .ok (.iconst 1, 1) := by decide +kernel
theorem dX1_take_25 : decode cX1_take 25 = .ok (.iadd, 1) := by decide +kernel
theorem dX1_take_26 : decode cX1_take 26 = .ok (.putfield 15, 3) := by decide +kernel
theorem dX1_take_29 : decode cX1_take 29 = .ok (.aload_n 0, 1) := by decide +kernel
theorem dX1_take_30 : decode cX1_take 30 = .ok (.dup, 1) := by decide +kernel
theorem dX1_take_31 : decode cX1_take 31 = .ok (.getfield 19, 3) := by decide +kernel
theorem dX1_take_34 : decode cX1_take 34 = .ok (.iconst 1, 1) := by decide +kernel
theorem dX1_take_35 : decode cX1_take 35 = .ok (.iload_n 1, 1) := by decide +kernel
theorem dX1_take_36 : decode cX1_take 36 = .ok (.ishl, 1) := by decide +kernel
theorem dX1_take_37 : decode cX1_take 37 = .ok (.ior, 1) := by decide +kernel
theorem dX1_take_38 : decode cX1_take 38 = .ok (.putfield 19, 3) := by decide +kernel
theorem dX1_take_41 : decode cX1_take 41 = .ok (.aload_n 0, 1) := by decide +kernel
theorem dX1_take_42 : decode cX1_take 42 = .ok (.dup, 1) := by decide +kernel
theorem dX1_take_43 : decode cX1_take 43 = .ok (.getfield 22, 3) := by decide +kernel
theorem dX1_take_46 : decode cX1_take 46 = .ok (.iload_n 2, 1) := by decide +kernel
theorem dX1_take_47 : decode cX1_take 47 = .ok (.iadd, 1) := by decide +kernel
theorem dX1_take_48 : decode cX1_take 48 = .ok (.putfield 22, 3) := by decide +kernel
theorem dX1_take_51 : decode cX1_take 51 = .ok (.aload_n 0, 1) := by decide +kernel
theorem dX1_take_52 : decode cX1_take 52 = .ok (.dup, 1) := by decide +kernel
theorem dX1_take_53 : decode cX1_take 53 = .ok (.getfield 25, 3) := by decide +kernel
theorem dX1_take_56 : decode cX1_take 56 = .ok (.lload_n 3, 1) := by decide +kernel
theorem dX1_take_57 : decode cX1_take 57 = .ok (.lor, 1) := by decide +kernel
theorem dX1_take_58 : decode cX1_take 58 = .ok (.putfield 25, 3) := by decide +kernel
theorem dX1_take_61 : decode cX1_take 61 = .ok (.return_, 1) := by decide +kernel
set_option maxRecDepth 20000 in
theorem ggX1_partsSeen_J13_bitCount_95d88 : GoodIn wsX1_partsSeen wsJ13_bitCount_95d88 := goodIn_r _ [6, 7, 8, 9] (by decide +kernel) (by decide +kernel)
set_option maxRecDepth 20000 in
theorem gX1_partsSeen_J13_bitCount_95d88 : GoodIn wsX1_partsSeen (va_wsS RX1 39 yJ13_bitCount_95d88 wsJ13_bitCount_95d88) := goodIn_app (goodIn_of _ (by decide +kernel)) ggX1_partsSeen_J13_bitCount_95d88
theorem dX1_partsSeen_0 : decode cX1_partsSeen 0 = .ok (.aload_n 0, 1) := by decide +kernel
theorem dX1_partsSeen_1 : decode cX1_partsSeen 1 = .ok (.getfield 25, 3) := by decide +kernel
theorem dX1_partsSeen_4 : decode cX1_partsSeen 4 = .ok (.aload_n 0, 1) := by decide +kernel
theorem dX1_partsSeen_5 : decode cX1_partsSeen 5 = .ok (.getfield 29, 3) := by decide +kernel
theorem dX1_partsSeen_8 : decode cX1_partsSeen 8 = .ok (.land, 1) := by decide +kernel
theorem dX1_partsSeen_9 : decode cX1_partsSeen 9 = .ok (.invokestatic 39, 3) := by decide +kernel
theorem dX1_partsSeen_12 : decode cX1_partsSeen 12 = .ok (.ireturn, 1) := by decide +kernel
theorem dX2_init_0 : decode cX2_init 0 = .ok (.aload_n 0, 1) := by decide +kernel
theorem dX2_init_1 : decode cX2_init 1 = .ok (.invokespecial 3, 3) := by decide +kernel
theorem dX2_init_4 : decode cX2_init 4 = .ok (.aload_n 0, 1) := by decide +kernel
theorem dX2_init_5 : decode cX2_init 5 = .ok (.bipush 12, 2) := by decide +kernel
theorem dX2_init_7 : decode cX2_init 7 = .ok (.newarray .int, 2) := by decide +kernel
theorem dX2_init_9 : decode cX2_init 9 = .ok (.putfield 9, 3) := by decide +kernel
theorem dX2_init_12 : decode cX2_init 12 = .ok (.aload_n 0, 1) := by decide +kernel
theorem dX2_init_13 : decode cX2_init 13 = .ok (.bipush 12, 2) := by decide +kernel
theorem dX2_init_15 : decode cX2_init 15 = .ok (.newarray .int, 2) := by decide +kernel
theorem dX2_init_17 : decode cX2_init 17 = .ok (.putfield 15, 3) := by decide +kernel
theorem dX2_init_20 : decode cX2_init 20 = .ok (.aload_n 0, 1) := by decide +kernel
theorem dX2_init_21 : decode cX2_init 21 = .ok (.bipush 12, 2) := by decide +kernel
theorem dX2_init_23 : decode cX2_init 23 = .ok (.newarray .int, 2) := by decide +kernel
theorem dX2_init_25 : decode cX2_init 25 = .ok (.putfield 18, 3) := by decide +kernel
theorem dX2_init_28 : decode cX2_init 28 = .ok (.aload_n 0, 1) := by decide +kernel
theorem dX2_init_29 : decode cX2_init 29 = .ok (.bipush 12, 2) := by decide +kernel
theorem dX2_init_31 : decode cX2_init 31 = .ok (.newarray .long, 2) := by decide +kernel
theorem dX2_init_33 : decode cX2_init 33 = .ok (.putfield 21, 3) := by decide +kernel
theorem dX2_init_36 : decode cX2_init 36 = .ok (.aload_n 0, 1) := by decide +kernel
theorem dX2_init_37 : decode cX2_init 37 = .ok (.iconst 0, 1) := by decide +kernel
theorem dX2_init_38 : decode cX2_init 38 = .ok (.putfield 25, 3) := by decide +kernel
theorem dX2_init_41 : decode cX2_init 41 = .ok (.aload_n 0, 1) := by decide +kernel
theorem dX2_init_42 : decode cX2_init 42 = .ok (.bipush 13, 2) := by decide +kernel
theorem dX2_init_44 : decode cX2_init 44 = .ok (.newarray .int, 2) := by decide +kernel
theorem dX2_init_46 : decode cX2_init 46 = .ok (.putfield 29, 3) := by decide +kernel
theorem dX2_init_49 : decode cX2_init 49 = .ok (.aload_n 0, 1) := by decide +kernel
theorem dX2_init_50 : decode cX2_init 50 = .ok (.bipush 13, 2) := by decide +kernel
theorem dX2_init_52 : decode cX2_init 52 = .ok (.newarray .int, 2) := by decide +kernel
theorem dX2_init_54 : decode cX2_init 54 = .ok (.putfield 32, 3) := by decide +kernel
theorem dX2_init_57 : decode cX2_init 57 = .ok (.aload_n 0, 1) := by decide +kernel
theorem dX2_init_58 : decode cX2_init 58 = .ok (.bipush 13, 2) := by decide +kernel
theorem dX2_init_60 : decode cX2_init 60 = .ok (.newarray .int, 2) := by decide +kernel
theorem dX2_init_62 : decode cX2_init 62 = .ok (.putfield 35, 3) := by decide +kernel
theorem dX2_init_65 : decode cX2_init 65 = .ok (.aload_n 0, 1) := by decide +kernel
theorem dX2_init_66 : decode cX2_init 66 = .ok (.bipush 13, 2) := by decide +kernel
theorem dX2_init_68 : decode cX2_init 68 = .ok (.newarray .long, 2) := by decide +kernel
theorem dX2_init_70 : decode cX2_init 70 = .ok (.putfield 38, 3) := by decide +kernel
theorem dX2_init_73 : decode cX2_init 73 = .ok (.aload_n 0, 1) := by decide +kernel
theorem dX2_init_74 : decode cX2_init 74 = .ok (.iconst 0, 1) := by decide +kernel
theorem dX2_init_75 : decode cX2_init 75 = .ok (.putfield 41, 3) := by decide +kernel
theorem dX2_init_78 : decode cX2_init 78 = .ok (.aload_n 0, 1) := by decide +kernel
theorem dX2_init_79 : decode cX2_init 79 = .ok (.iconst 0, 1) := by decide +kernel
theorem dX2_init_80 : decode cX2_init 80 = .ok (.putfield 44, 3) := by decide +kernel
theorem dX2_init_83 : decode cX2_init 83 = .ok (.aload_n 0, 1) := by decide +kernel
theorem dX2_init_84 : decode cX2_init 84 = .ok (.lconst 0, 1) := by decide +kernel
theorem dX2_init_85 : decode cX2_init 85 = .ok (.putfield 47, 3) := by decide +kernel
theorem dX2_init_88 : decode cX2_init 88 = .ok (.return_, 1) := by decide +kernel
theorem dX2_begin_0 : decode cX2_begin 0 = .ok (.aload_n 0, 1) := by decide +kernel
theorem dX2_begin_1 : decode cX2_begin 1 = .ok (.iconst 0, 1) := by decide +kernel
theorem dX2_begin_2 : decode cX2_begin 2 = .ok (.putfield 25, 3) := by decide +kernel
theorem dX2_begin_5 : decode cX2_begin 5 = .ok (.aload_n 0, 1) := by decide +kernel
theorem dX2_begin_6 : decode cX2_begin 6 = .ok (.iconst 0, 1) := by decide +kernel
theorem dX2_begin_7 : decode cX2_begin 7 = .ok (.putfield 41, 3) := by decide +kernel
theorem dX2_begin_10 : decode cX2_begin 10 = .ok (.aload_n 0, 1) := by decide +kernel
theorem dX2_begin_11 : decode cX2_begin 11 = .ok (.iconst 0, 1) := by decide +kernel
theorem dX2_begin_12 : decode cX2_begin 12 = .ok (.putfield 44, 3) := by decide +kernel
theorem dX2_begin_15 : decode cX2_begin 15 = .ok (.aload_n 0, 1) := by decide +kernel
theorem dX2_begin_16 : decode cX2_begin 16 = .ok (.lconst 0, 1) := by decide +kernel
theorem dX2_begin_17 : decode cX2_begin 17 = .ok (.putfield 47, 3) := by decide +kernel
theorem dX2_begin_20 : decode cX2_begin 20 = .ok (.return_, 1) := by decide +kernel
theorem dX2_add_0 : decode cX2_add 0 = .ok (.aload_n 0, 1) := by decide +kernel
theorem dX2_add_1 : decode cX2_add 1 = .ok (.getfield 25, 3) := by decide +kernel
theorem dX2_add_4 : decode cX2_add 4 = .ok (.bipush 12, 2) := by decide +kernel
theorem dX2_add_6 : decode cX2_add 6 = .ok (.if_icmp .ge 54, 3) := by decide +kernel
theorem dX2_add_9 : decode cX2_add 9 = .ok (.aload_n 0, 1) := by decide +kernel
theorem dX2_add_10 : decode cX2_add 10 = .ok (.getfield 9, 3) := by decide +kernel
theorem dX2_add_13 : decode cX2_add 13 = .ok (.aload_n 0, 1) := by decide +kernel
theorem dX2_add_14 : decode cX2_add 14 = .ok (.getfield 25, 3) := by decide +kernel
theorem dX2_add_17 : decode cX2_add 17 = .ok (.iload_n 1, 1) := by decide +kernel
theorem dX2_add_18 : decode cX2_add 18 = .ok (.iastore, 1) := by decide +kernel
theorem dX2_add_19 : decode cX2_add 19 = .ok (.aload_n 0, 1) := by decide +kernel
theorem dX2_add_20 : decode cX2_add 20 = .ok (.getfield 15, 3) := by decide +kernel
theorem dX2_add_23 : decode cX2_add 23 = .ok (.aload_n 0, 1) := by decide +kernel
theorem dX2_add_24 : decode cX2_add 24 = .ok (.getfield 25, 3) := by decide +kernel
theorem dX2_add_27 : decode cX2_add 27 = .ok (.iload_n 2, 1) := by decide +kernel
theorem dX2_add_28 : decode cX2_add 28 = .ok (.iastore, 1) := by decide +kernel
theorem dX2_add_29 : decode cX2_add 29 = .ok (.aload_n 0, 1) := by decide +kernel
theorem dX2_add_30 : decode cX2_add 30 = .ok (.getfield 18, 3) := by decide +kernel
theorem dX2_add_33 : decode cX2_add 33 = .ok (.aload_n 0, 1) := by decide +kernel
theorem dX2_add_34 : decode cX2_add 34 = .ok (.getfield 25, 3) := by decide +kernel
theorem dX2_add_37 : decode cX2_add 37 = .ok (.iload_n 3, 1) := by decide +kernel
theorem dX2_add_38 : decode cX2_add 38 = .ok (.iastore, 1) := by decide +kernel
theorem dX2_add_39 : decode cX2_add 39 = .ok (.aload_n 0, 1) := by decide +kernel
theorem dX2_add_40 : decode cX2_add 40 = .ok (.getfield 21, 3) := by decide +kernel
theorem dX2_add_43 : decode cX2_add 43 = .ok (.aload_n 0, 1) := by decide +kernel
theorem dX2_add_44 : decode cX2_add 44 = .ok (.getfield 25, 3) := by decide +kernel
theorem dX2_add_47 : decode cX2_add 47 = .ok (.lload 4, 2) := by decide +kernel
theorem dX2_add_49 : decode cX2_add 49 = .ok (.lastore, 1) := by decide +kernel
theorem dX2_add_50 : decode cX2_add 50 = .ok (.aload_n 0, 1) := by decide +kernel
theorem dX2_add_51 : decode cX2_add 51 = .ok (.dup, 1) := by decide +kernel
theorem dX2_add_52 : decode cX2_add 52 = .ok (.getfield 25, 3) := by decide +kernel
theorem dX2_add_55 : decode cX2_add 55 = .ok (.iconst 1, 1) := by decide +kernel
theorem dX2_add_56 : decode cX2_add 56 = .ok (.iadd, 1) := by decide +kernel
theorem dX2_add_57 : decode cX2_add 57 = .ok (.putfield 25, 3) := by decide +kernel
theorem dX2_add_60 : decode cX2_add 60 = .ok (.return_, 1) := by decide +kernel
set_option maxRecDepth 20000 in
theorem ggX2_sumUp_J6_numberOfTrailingZeros_0f7a4 : GoodIn wsX2_sumUp wsJ6_numberOfTrailingZeros_0f7a4 := goodIn_r _ [16, 17] (by decide +kernel) (by decide +kernel)
set_option maxRecDepth 20000 in
theorem gX2_sumUp_J6_numberOfTrailingZeros_0f7a4 : GoodIn wsX2_sumUp (va_wsS RX2 51 yJ6_numberOfTrailingZeros_0f7a4 wsJ6_numberOfTrailingZeros_0f7a4) := goodIn_app (goodIn_of _ (by decide +kernel)) ggX2_sumUp_J6_numberOfTrailingZeros_0f7a4
theorem dX2_sumUp_0 : decode cX2_sumUp 0 = .ok (.iload_n 1, 1) := by decide +kernel
theorem dX2_sumUp_1 : decode cX2_sumUp 1 = .ok (.invokestatic 51, 3) := by decide +kernel
theorem dX2_sumUp_4 : decode cX2_sumUp 4 = .ok (.bipush 11, 2) := by decide +kernel
theorem dX2_sumUp_6 : decode cX2_sumUp 6 = .ok (.invokestatic 57, 3) := by decide +kernel
theorem dX2_sumUp_9 : decode cX2_sumUp 9 = .ok (.istore_n 2, 1) := by decide +kernel
theorem dX2_sumUp_10 : decode cX2_sumUp 10 = .ok (.iload_n 1, 1) := by decide +kernel
theorem dX2_sumUp_11 : decode cX2_sumUp 11 = .ok (.iload_n 1, 1) := by decide +kernel
theorem dX2_sumUp_12 : decode cX2_sumUp 12 = .ok (.iconst 1, 1) := by decide +kernel
theorem dX2_sumUp_13 : decode cX2_sumUp 13 = .ok (.isub, 1) := by decide +kernel
theorem dX2_sumUp_14 : decode cX2_sumUp 14 = .ok (.iand, 1) := by decide +kernel
theorem dX2_sumUp_15 : decode cX2_sumUp 15 = .ok (.invokestatic 51, 3) := by decide +kernel
theorem dX2_sumUp_18 : decode cX2_sumUp 18 = .ok (.bipush 12, 2) := by decide +kernel
theorem dX2_sumUp_20 : decode cX2_sumUp 20 = .ok (.invokestatic 57, 3) := by decide +kernel
theorem dX2_sumUp_23 : decode cX2_sumUp 23 = .ok (.istore_n 3, 1) := by decide +kernel
theorem dX2_sumUp_24 : decode cX2_sumUp 24 = .ok (.aload_n 0, 1) := by decide +kernel
theorem dX2_sumUp_25 : decode cX2_sumUp 25 = .ok (.getfield 29, 3) := by decide +kernel
theorem dX2_sumUp_28 : decode cX2_sumUp 28 = .ok (.iload_n 2, 1) := by decide +kernel
theorem dX2_sumUp_29 : decode cX2_sumUp 29 = .ok (.aload_n 0, 1) := by decide +kernel
theorem dX2_sumUp_30 : decode cX2_sumUp 30 = .ok (.getfield 29, 3) := by decide +kernel
theorem dX2_sumUp_33 : decode cX2_sumUp 33 = .ok (.iload_n 3, 1) := by decide +kernel
theorem dX2_sumUp_34 : decode cX2_sumUp 34 = .ok (.iaload, 1) := by decide +kernel
theorem dX2_sumUp_35 : decode cX2_sumUp 35 = .ok (.aload_n 0, 1) := by decide +kernel
theorem dX2_sumUp_36 : decode cX2_sumUp 36 = .ok (.getfield 9, 3) := by decide +kernel
theorem dX2_sumUp_39 : decode cX2_sumUp 39 = .ok (.iload_n 2, 1) := by decide +kernel
theorem dX2_sumUp_40 : decode cX2_sumUp 40 = .ok (.iaload, 1) := by decide +kernel
theorem dX2_sumUp_41 : decode cX2_sumUp 41 = .ok (.ior, 1) := by decide +kernel
theorem dX2_sumUp_42 : decode cX2_sumUp 42 = .ok (.iastore, 1) := by decide +kernel
theorem dX2_sumUp_43 : decode cX2_sumUp 43 = .ok (.aload_n 0, 1) := by decide +kernel
theorem dX2_sumUp_44 : decode cX2_sumUp 44 = .ok (.getfield 32, 3) := by decide +kernel
theorem dX2_sumUp_47 : decode cX2_sumUp 47 = .ok (.iload_n 2, 1) := by decide +kernel
theorem dX2_sumUp_48 : decode cX2_sumUp 48 = .ok (.aload_n 0, 1) := by decide +kernel
theorem dX2_sumUp_49 : decode cX2_sumUp 49 = .ok (.getfield 32, 3) := by decide +kernel
theorem dX2_sumUp_52 : decode cX2_sumUp 52 = .ok (.iload_n 3, 1) := by decide +kernel
theorem dX2_sumUp_53 : decode cX2_sumUp 53 = .ok (.iaload, 1) := by decide +kernel
theorem dX2_sumUp_54 : decode cX2_sumUp 54 = .ok (.aload_n 0, 1) := by decide +kernel
theorem dX2_sumUp_55 : decode cX2_sumUp 55 = .ok (.getfield 15, 3) := by decide +kernel
theorem dX2_sumUp_58 : decode cX2_sumUp 58 = .ok (.iload_n 2, 1) := by decide +kernel
theorem dX2_sumUp_59 : decode cX2_sumUp 59 = .ok (.iaload, 1) := by decide +kernel
theorem dX2_sumUp_60 : decode cX2_sumUp 60 = .ok (.ior, 1) := by decide +kernel
theorem dX2_sumUp_61 : decode cX2_sumUp 61 = .ok (.iastore, 1) := by decide +kernel
theorem dX2_sumUp_62 : decode cX2_sumUp 62 = .ok (.aload_n 0, 1) := by decide +kernel
theorem dX2_sumUp_63 : decode cX2_sumUp 63 = .ok (.getfield 35, 3) := by decide +kernel
theorem dX2_sumUp_66 : decode cX2_sumUp 66 = .ok (.iload_n 2, 1) := by decide +kernel
theorem dX2_sumUp_67 : decode cX2_sumUp 67 = .ok (.aload_n 0, 1) := by decide +kernel
theorem dX2_sumUp_68 : decode cX2_sumUp 68 = .ok (.getfield 35, 3) := by decide +kernel
theorem dX2_sumUp_71 : decode cX2_sumUp 71 = .ok (.iload_n 3, 1) := by decide +kernel
theorem dX2_sumUp_72 : decode cX2_sumUp 72 = .ok (.iaload, 1) := by decide +kernel
theorem dX2_sumUp_73 : decode cX2_sumUp 73 = .ok (.aload_n 0, 1) := by decide +kernel
theorem dX2_sumUp_74 : decode cX2_sumUp 74 = .ok (.getfield 18, 3) := by decide +kernel
theorem dX2_sumUp_77 : decode cX2_sumUp 77 = .ok (.iload_n 2, 1) := by decide +kernel
theorem dX2_sumUp_78 : decode cX2_sumUp 78 = .ok (.iaload, 1) := by decide +kernel
theorem dX2_sumUp_79 : decode cX2_sumUp 79 = .ok (.iadd, 1) := by decide +kernel
theorem dX2_sumUp_80 : decode cX2_sumUp 80 = .ok (.iastore, 1) := by decide +kernel
theorem dX2_sumUp_81 : decode cX2_sumUp 81 = .ok (.aload_n 0, 1) := by decide +kernel
theorem dX2_sumUp_82 : decode cX2_sumUp 82 = .ok (.getfield 38, 3) := by decide +kernel
theorem dX2_sumUp_85 : decode cX2_sumUp 85 = .ok (.iload_n 2, 1) := by decide +kernel
theorem dX2_sumUp_86 : decode cX2_sumUp 86 = .ok (.aload_n 0, 1) := by decide +kernel
theorem dX2_sumUp_87 : decode cX2_sumUp 87 = .ok (.getfield 38, 3) := by decide +kernel
theorem dX2_sumUp_90 : decode cX2_sumUp 90 = .ok (.iload_n 3, 1) := by decide +kernel
theorem dX2_sumUp_91 : decode cX2_sumUp 91 = .ok (.laload, 1) := by decide +kernel
theorem dX2_sumUp_92 : decode cX2_sumUp 92 = .ok (.aload_n 0, 1) := by decide +kernel
theorem dX2_sumUp_93 : decode cX2_sumUp 93 = .ok (.getfield 21, 3) := by decide +kernel
theorem dX2_sumUp_96 : decode cX2_sumUp 96 = .ok (.iload_n 2, 1) := by decide +kernel
theorem dX2_sumUp_97 : decode cX2_sumUp 97 = .ok (.laload, 1) := by decide +kernel
theorem dX2_sumUp_98 : decode cX2_sumUp 98 = .ok (.lor, 1) := by decide +kernel
theorem dX2_sumUp_99 : decode cX2_sumUp 99 = .ok (.lastore, 1) := by decide +kernel
theorem dX2_sumUp_100 : decode cX2_sumUp 100 = .ok (.iload_n 2, 1) := by decide +kernel
theorem dX2_sumUp_101 : decode cX2_sumUp 101 = .ok (.ireturn, 1) := by decide +kernel
theorem dX2_keep_0 : decode cX2_keep 0 = .ok (.aload_n 0, 1) := by decide +kernel
theorem dX2_keep_1 : decode cX2_keep 1 = .ok (.aload_n 0, 1) := by decide +kernel
theorem dX2_keep_2 : decode cX2_keep 2 = .ok (.getfield 29, 3) := by decide +kernel
theorem dX2_keep_5 : decode cX2_keep 5 = .ok (.iload_n 1, 1) := by decide +kernel
theorem dX2_keep_6 : decode cX2_keep 6 = .ok (.iaload, 1) := by decide +kernel
theorem dX2_keep_7 : decode cX2_keep 7 = .ok (.putfield 41, 3) := by decide +kernel
theorem dX2_keep_10 : decode cX2_keep 10 = .ok (.aload_n 0, 1) := by decide +kernel
theorem dX2_keep_11 : decode cX2_keep 11 = .ok (.aload_n 0, 1) := by decide +kernel
theorem dX2_keep_12 : decode cX2_keep 12 = .ok (.getfield 35, 3) := by decide +kernel
theorem dX2_keep_15 : decode cX2_keep 15 = .ok (.iload_n 1, 1) := by decide +kernel
theorem dX2_keep_16 : decode cX2_keep 16 = .ok (.iaload, 1) := by decide +kernel
theorem dX2_keep_17 : decode cX2_keep 17 = .ok (.putfield 44, 3) := by decide +kernel
theorem dX2_keep_20 : decode cX2_keep 20 = .ok (.aload_n 0, 1) := by decide +kernel
theorem dX2_keep_21 : decode cX2_keep 21 = .ok (.aload_n 0, 1) := by decide +kernel
theorem dX2_keep_22 : decode cX2_keep 22 = .ok (.getfield 38, 3) := by decide +kernel
theorem dX2_keep_25 : decode cX2_keep 25 = .ok (.iload_n 1, 1) := by decide +kernel
theorem dX2_keep_26 : decode cX2_keep 26 = .ok (.laload, 1) := by decide +kernel
theorem dX2_keep_27 : decode cX2_keep 27 = .ok (.putfield 47, 3) := by decide +kernel
theorem dX2_keep_30 : decode cX2_keep 30 = .ok (.return_, 1) := by decide +kernel
set_option maxRecDepth 20000 in
theorem ggX2_seekWidest_X2_sumUp : GoodIn wsX2_seekWidest wsX2_sumUp := goodIn_r _ [9, 10, 11, 12, 13, 4, 14, 3, 15, 2, 16, 17, 18, 19, 20, 21, 22, 23, 42, 43, 44, 45, 46, 47, 48, 49, 50, 51, 52, 53] (by decide +kernel) (by decide +kernel)
set_option maxRecDepth 20000 in
theorem gX2_seekWidest_X2_sumUp : GoodIn wsX2_seekWidest (wsV RX2 63 RX2 yX2_sumUp wsX2_sumUp) := goodIn_app (goodIn_of _ (by decide +kernel)) ggX2_seekWidest_X2_sumUp
set_option maxRecDepth 20000 in
theorem ggX2_seekWidest_X2_isWider : GoodIn wsX2_seekWidest wsX2_isWider := goodIn_r _ [27, 17, 28, 2, 29, 30, 31, 32, 33, 34, 35, 36, 42, 43, 44, 45, 46, 47, 48, 49, 50, 51, 52, 53] (by decide +kernel) (by decide +kernel)
set_option maxRecDepth 20000 in
theorem gX2_seekWidest_X2_isWider : GoodIn wsX2_seekWidest (wsV RX2 66 RX2 yX2_isWider wsX2_isWider) := goodIn_app (goodIn_of _ (by decide +kernel)) ggX2_seekWidest_X2_isWider
set_option maxRecDepth 20000 in
theorem ggX2_seekWidest_X2_keep : GoodIn wsX2_seekWidest wsX2_keep := goodIn_r _ [40, 4, 41, 2, 29, 17, 28, 42, 43, 44, 45, 46, 47, 48, 49, 50, 51, 52, 53] (by decide +kernel) (by decide +kernel)
set_option maxRecDepth 20000 in
theorem gX2_seekWidest_X2_keep : GoodIn wsX2_seekWidest (wsV RX2 70 RX2 yX2_keep wsX2_keep) := goodIn_app (goodIn_of _ (by decide +kernel)) ggX2_seekWidest_X2_keep
theorem dX2_seekWidest_0 : decode cX2_seekWidest 0 = .ok (.iconst 1, 1) := by decide +kernel
theorem dX2_seekWidest_1 : decode cX2_seekWidest 1 = .ok (.aload_n 0, 1) := by decide +kernel
theorem dX2_seekWidest_2 : decode cX2_seekWidest 2 = .ok (.getfield 25, 3) := by decide +kernel
theorem dX2_seekWidest_5 : decode cX2_seekWidest 5 = .ok (.ishl, 1) := by decide +kernel
theorem dX2_seekWidest_6 : decode cX2_seekWidest 6 = .ok (.istore_n 2, 1) := by decide +kernel
theorem dX2_seekWidest_7 : decode cX2_seekWidest 7 = .ok (.iconst 1, 1) := by decide +kernel
theorem dX2_seekWidest_8 : decode cX2_seekWidest 8 = .ok (.istore_n 3, 1) := by decide +kernel
theorem dX2_seekWidest_9 : decode cX2_seekWidest 9 = .ok (.iload_n 3, 1) := by decide +kernel
theorem dX2_seekWidest_10 : decode cX2_seekWidest 10 = .ok (.iload_n 2, 1) := by decide +kernel
theorem dX2_seekWidest_11 : decode cX2_seekWidest 11 = .ok (.if_icmp .ge 69, 3) := by decide +kernel
theorem dX2_seekWidest_14 : decode cX2_seekWidest 14 = .ok (.aload_n 0, 1) := by decide +kernel
theorem dX2_seekWidest_15 : decode cX2_seekWidest 15 = .ok (.iload_n 3, 1) := by decide +kernel
theorem dX2_seekWidest_16 : decode cX2_seekWidest 16 = .ok (.invokevirtual 63, 3) := by decide +kernel
theorem dX2_seekWidest_19 : decode cX2_seekWidest 19 = .ok (.istore 4, 2) := by decide +kernel
theorem dX2_seekWidest_21 : decode cX2_seekWidest 21 = .ok (.aload_n 0, 1) := by decide +kernel
theorem dX2_seekWidest_22 : decode cX2_seekWidest 22 = .ok (.getfield 35, 3) := by decide +kernel
theorem dX2_seekWidest_25 : decode cX2_seekWidest 25 = .ok (.iload 4, 2) := by decide +kernel
theorem dX2_seekWidest_27 : decode cX2_seekWidest 27 = .ok (.iaload, 1) := by decide +kernel
theorem dX2_seekWidest_28 : decode cX2_seekWidest 28 = .ok (.iload_n 1, 1) := by decide +kernel
theorem dX2_seekWidest_29 : decode cX2_seekWidest 29 = .ok (.if_icmp .le 13, 3) := by decide +kernel
theorem dX2_seekWidest_32 : decode cX2_seekWidest 32 = .ok (.iload_n 3, 1) := by decide +kernel
theorem dX2_seekWidest_33 : decode cX2_seekWidest 33 = .ok (.iconst 1, 1) := by decide +kernel
theorem dX2_seekWidest_34 : decode cX2_seekWidest 34 = .ok (.iload 4, 2) := by decide +kernel
theorem dX2_seekWidest_36 : decode cX2_seekWidest 36 = .ok (.ishl, 1) := by decide +kernel
theorem dX2_seekWidest_37 : decode cX2_seekWidest 37 = .ok (.iadd, 1) := by decide +kernel
theorem dX2_seekWidest_38 : decode cX2_seekWidest 38 = .ok (.istore_n 3, 1) := by decide +kernel
theorem dX2_seekWidest_39 : decode cX2_seekWidest 39 = .ok (.goto 38, 3) := by decide +kernel
theorem dX2_seekWidest_42 : decode cX2_seekWidest 42 = .ok (.aload_n 0, 1) := by decide +kernel
theorem dX2_seekWidest_43 : decode cX2_seekWidest 43 = .ok (.getfield 32, 3) := by decide +kernel
theorem dX2_seekWidest_46 : decode cX2_seekWidest 46 = .ok (.iload 4, 2) := by decide +kernel
theorem dX2_seekWidest_48 : decode cX2_seekWidest 48 = .ok (.iaload, 1) := by decide +kernel
theorem dX2_seekWidest_49 : decode cX2_seekWidest 49 = .ok (.aload_n 0, 1) := by decide +kernel
theorem dX2_seekWidest_50 : decode cX2_seekWidest 50 = .ok (.getfield 29, 3) := by decide +kernel
theorem dX2_seekWidest_53 : decode cX2_seekWidest 53 = .ok (.iload 4, 2) := by decide +kernel
theorem dX2_seekWidest_55 : decode cX2_seekWidest 55 = .ok (.iaload, 1) := by decide +kernel
theorem dX2_seekWidest_56 : decode cX2_seekWidest 56 = .ok (.if_icmp .ne 18, 3) := by decide +kernel
theorem dX2_seekWidest_59 : decode cX2_seekWidest 59 = .ok (.aload_n 0, 1) := by decide +kernel
theorem dX2_seekWidest_60 : decode cX2_seekWidest 60 = .ok (.iload 4, 2) := by decide +kernel
theorem dX2_seekWidest_62 : decode cX2_seekWidest 62 = .ok (.invokevirtual 66, 3) := by decide +kernel
theorem dX2_seekWidest_65 : decode cX2_seekWidest 65 = .ok (.ifCond .eq 9, 3) := by decide +kernel
theorem dX2_seekWidest_68 : decode cX2_seekWidest 68 = .ok (.aload_n 0, 1) := by decide +kernel
theorem dX2_seekWidest_69 : decode cX2_seekWidest 69 = .ok (.iload 4, 2) := by decide +kernel
theorem dX2_seekWidest_71 : decode cX2_seekWidest 71 = .ok (.invokevirtual 70, 3) := by decide +kernel
theorem dX2_seekWidest_74 : decode cX2_seekWidest 74 = .ok (.iinc 3 1, 3) := by decide +kernel
theorem dX2_seekWidest_77 : decode cX2_seekWidest 77 = .ok (.goto (-68), 3) := by decide +kernel
theorem dX2_seekWidest_80 : decode cX2_seekWidest 80 = .ok (.return_, 1) := by decide +kernel
set_option maxRecDepth 20000 in
theorem ggX2_isWider_J13_bitCount_95d88 : GoodIn wsX2_isWider wsJ13_bitCount_95d88 := goodIn_r _ [8, 9, 10, 11] (by decide +kernel) (by decide +kernel)
set_option maxRecDepth 20000 in
theorem gX2_isWider_J13_bitCount_95d88 : GoodIn wsX2_isWider (va_wsS RX2 74 yJ13_bitCount_95d88 wsJ13_bitCount_95d88) := goodIn_app (goodIn_of _ (by decide +kernel)) ggX2_isWider_J13_bitCount_95d88
theorem dX2_isWider_0 : decode cX2_isWider 0 = .ok (.aload_n 0, 1) := by decide +kernel
theorem dX2_isWider_1 : decode cX2_isWider 1 = .ok (.getfield 38, 3) := by decide +kernel
theorem dX2_isWider_4 : decode cX2_isWider 4 = .ok (.iload_n 1, 1) := by decide +kernel
theorem dX2_isWider_5 : decode cX2_isWider 5 = .ok (.laload, 1) := by decide +kernel
theorem dX2_isWider_6 : decode cX2_isWider 6 = .ok (.invokestatic 74, 3) := by decide +kernel
theorem dX2_isWider_9 : decode cX2_isWider 9 = .ok (.aload_n 0, 1) := by decide +kernel
theorem dX2_isWider_10 : decode cX2_isWider 10 = .ok (.getfield 47, 3) := by decide +kernel
theorem dX2_isWider_13 : decode cX2_isWider 13 = .ok (.invokestatic 74, 3) := by decide +kernel
theorem dX2_isWider_16 : decode cX2_isWider 16 = .ok (.isub, 1) := by decide +kernel
theorem dX2_isWider_17 : decode cX2_isWider 17 = .ok (.istore_n 2, 1) := by decide +kernel
theorem dX2_isWider_18 : decode cX2_isWider 18 = .ok (.iload_n 2, 1) := by decide +kernel
theorem dX2_isWider_19 : decode cX2_isWider 19 = .ok (.ifCond .gt 20, 3) := by decide +kernel
theorem dX2_isWider_22 : decode cX2_isWider 22 = .ok (.iload_n 2, 1) := by decide +kernel
theorem dX2_isWider_23 : decode cX2_isWider 23 = .ok (.ifCond .ne 20, 3) := by decide +kernel
theorem dX2_isWider_26 : decode cX2_isWider 26 = .ok (.aload_n 0, 1) := by decide +kernel
theorem dX2_isWider_27 : decode cX2_isWider 27 = .ok (.getfield 35, 3) := by decide +kernel
theorem dX2_isWider_30 : decode cX2_isWider 30 = .ok (.iload_n 1, 1) := by decide +kernel
theorem dX2_isWider_31 : decode cX2_isWider 31 = .ok (.iaload, 1) := by decide +kernel
theorem dX2_isWider_32 : decode cX2_isWider 32 = .ok (.aload_n 0, 1) := by decide +kernel
theorem dX2_isWider_33 : decode cX2_isWider 33 = .ok (.getfield 44, 3) := by decide +kernel
theorem dX2_isWider_36 : decode cX2_isWider 36 = .ok (.if_icmp .ge 7, 3) := by decide +kernel
theorem dX2_isWider_39 : decode cX2_isWider 39 = .ok (.iconst 1, 1) := by decide +kernel
theorem dX2_isWider_40 : decode cX2_isWider 40 = .ok (.goto 4, 3) := by decide +kernel
theorem dX2_isWider_43 : decode cX2_isWider 43 = .ok (.iconst 0, 1) := by decide +kernel
theorem dX2_isWider_44 : decode cX2_isWider 44 = .ok (.ireturn, 1) := by decide +kernel
set_option maxRecDepth 20000 in
theorem ggX2_seekFewest_X2_sumUp : GoodIn wsX2_seekFewest wsX2_sumUp := goodIn_r _ [9, 10, 11, 12, 13, 14, 15, 16, 17, 3, 18, 2, 19, 20, 21, 22, 23, 24, 37, 38, 39, 40, 41, 42, 43, 44, 45, 46, 47, 48] (by decide +kernel) (by decide +kernel)
set_option maxRecDepth 20000 in
theorem gX2_seekFewest_X2_sumUp : GoodIn wsX2_seekFewest (wsV RX2 63 RX2 yX2_sumUp wsX2_sumUp) := goodIn_app (goodIn_of _ (by decide +kernel)) ggX2_seekFewest_X2_sumUp
set_option maxRecDepth 20000 in
theorem ggX2_seekFewest_J6_bitCount_0f7a4 : GoodIn wsX2_seekFewest wsJ6_bitCount_0f7a4 := goodIn_r _ [27, 28, 29, 30] (by decide +kernel) (by decide +kernel)
set_option maxRecDepth 20000 in
theorem gX2_seekFewest_J6_bitCount_0f7a4 : GoodIn wsX2_seekFewest (va_wsS RX2 80 yJ6_bitCount_0f7a4 wsJ6_bitCount_0f7a4) := goodIn_app (goodIn_of _ (by decide +kernel)) ggX2_seekFewest_J6_bitCount_0f7a4
set_option maxRecDepth 20000 in
theorem ggX2_seekFewest_X2_keep : GoodIn wsX2_seekFewest wsX2_keep := goodIn_r _ [34, 14, 35, 3, 4, 2, 36, 37, 38, 39, 40, 41, 42, 43, 44, 45, 46, 47, 48] (by decide +kernel) (by decide +kernel)
set_option maxRecDepth 20000 in
theorem gX2_seekFewest_X2_keep : GoodIn wsX2_seekFewest (wsV RX2 70 RX2 yX2_keep wsX2_keep) := goodIn_app (goodIn_of _ (by decide +kernel)) ggX2_seekFewest_X2_keep
theorem dX2_seekFewest_0 : decode cX2_seekFewest 0 = .ok (.lload_n 1, 1) := by decide +kernel
theorem dX2_seekFewest_1 : decode cX2_seekFewest 1 = .ok (.lconst 0, 1) := by decide +kernel
theorem dX2_seekFewest_2 : decode cX2_seekFewest 2 = .ok (.lcmp, 1) := by decide +kernel
theorem dX2_seekFewest_3 : decode cX2_seekFewest 3 = .ok (.ifCond .ne 7, 3) := by decide +kernel
theorem dX2_seekFewest_6 : decode cX2_seekFewest 6 = .ok (.iconst 0, 1) := by decide +kernel
theorem dX2_seekFewest_7 : decode cX2_seekFewest 7 = .ok (.goto 9, 3) := by decide +kernel
theorem dX2_seekFewest_10 : decode cX2_seekFewest 10 = .ok (.iconst 1, 1) := by decide +kernel
theorem dX2_seekFewest_11 : decode cX2_seekFewest 11 = .ok (.aload_n 0, 1) := by decide +kernel
theorem dX2_seekFewest_12 : decode cX2_seekFewest 12 = .ok (.getfield 25, 3) := by decide +kernel
theorem dX2_seekFewest_15 : decode cX2_seekFewest 15 = .ok (.ishl, 1) := by decide +kernel
theorem dX2_seekFewest_16 : decode cX2_seekFewest 16 = .ok (.istore_n 3, 1) := by decide +kernel
theorem dX2_seekFewest_17 : decode cX2_seekFewest 17 = .ok (.bipush 13, 2) := by decide +kernel
theorem dX2_seekFewest_19 : decode cX2_seekFewest 19 = .ok (.istore 4, 2) := by decide +kernel
theorem dX2_seekFewest_21 : decode cX2_seekFewest 21 = .ok (.iconst 1, 1) := by decide +kernel
theorem dX2_seekFewest_22 : decode cX2_seekFewest 22 = .ok (.istore 5, 2) := by decide +kernel
theorem dX2_seekFewest_24 : decode cX2_seekFewest 24 = .ok (.iload 5, 2) := by decide +kernel
theorem dX2_seekFewest_26 : decode cX2_seekFewest 26 = .ok (.iload_n 3, 1) := by decide +kernel
theorem dX2_seekFewest_27 : decode cX2_seekFewest 27 = .ok (.if_icmp .ge 120, 3) := by decide +kernel
theorem dX2_seekFewest_30 : decode cX2_seekFewest 30 = .ok (.aload_n 0, 1) := by decide +kernel
theorem dX2_seekFewest_31 : decode cX2_seekFewest 31 = .ok (.iload 5, 2) := by decide +kernel
theorem dX2_seekFewest_33 : decode cX2_seekFewest 33 = .ok (.invokevirtual 63, 3) := by decide +kernel
theorem dX2_seekFewest_36 : decode cX2_seekFewest 36 = .ok (.istore 6, 2) := by decide +kernel
theorem dX2_seekFewest_38 : decode cX2_seekFewest 38 = .ok (.iload 5, 2) := by decide +kernel
theorem dX2_seekFewest_40 : decode cX2_seekFewest 40 = .ok (.invokestatic 80, 3) := by decide +kernel
theorem dX2_seekFewest_43 : decode cX2_seekFewest 43 = .ok (.istore 7, 2) := by decide +kernel
theorem dX2_seekFewest_45 : decode cX2_seekFewest 45 = .ok (.aload_n 0, 1) := by decide +kernel
theorem dX2_seekFewest_46 : decode cX2_seekFewest 46 = .ok (.getfield 38, 3) := by decide +kernel
theorem dX2_seekFewest_49 : decode cX2_seekFewest 49 = .ok (.iload 6, 2) := by decide +kernel
theorem dX2_seekFewest_51 : decode cX2_seekFewest 51 = .ok (.laload, 1) := by decide +kernel
theorem dX2_seekFewest_52 : decode cX2_seekFewest 52 = .ok (.lload_n 1, 1) := by decide +kernel
theorem dX2_seekFewest_53 : decode cX2_seekFewest 53 = .ok (.lcmp, 1) := by decide +kernel
theorem dX2_seekFewest_54 : decode cX2_seekFewest 54 = .ok (.ifCond .ne 7, 3) := by decide +kernel
theorem dX2_seekFewest_57 : decode cX2_seekFewest 57 = .ok (.iconst 1, 1) := by decide +kernel
theorem dX2_seekFewest_58 : decode cX2_seekFewest 58 = .ok (.goto 4, 3) := by decide +kernel
theorem dX2_seekFewest_61 : decode cX2_seekFewest 61 = .ok (.iconst 0, 1) := by decide +kernel
theorem dX2_seekFewest_62 : decode cX2_seekFewest 62 = .ok (.istore 8, 2) := by decide +kernel
theorem dX2_seekFewest_64 : decode cX2_seekFewest 64 = .ok (.iload 7, 2) := by decide +kernel
theorem dX2_seekFewest_66 : decode cX2_seekFewest 66 = .ok (.iload 4, 2) := by decide +kernel
theorem dX2_seekFewest_68 : decode cX2_seekFewest 68 = .ok (.if_icmp .lt 24, 3) := by decide +kernel
theorem dX2_seekFewest_71 : decode cX2_seekFewest 71 = .ok (.iload 7, 2) := by decide +kernel
theorem dX2_seekFewest_73 : decode cX2_seekFewest 73 = .ok (.iload 4, 2) := by decide +kernel
theorem dX2_seekFewest_75 : decode cX2_seekFewest 75 = .ok (.if_icmp .ne 21, 3) := by decide +kernel
theorem dX2_seekFewest_78 : decode cX2_seekFewest 78 = .ok (.aload_n 0, 1) := by decide +kernel
theorem dX2_seekFewest_79 : decode cX2_seekFewest 79 = .ok (.getfield 35, 3) := by decide +kernel
theorem dX2_seekFewest_82 : decode cX2_seekFewest 82 = .ok (.iload 6, 2) := by decide +kernel
theorem dX2_seekFewest_84 : decode cX2_seekFewest 84 = .ok (.iaload, 1) := by decide +kernel
theorem dX2_seekFewest_85 : decode cX2_seekFewest 85 = .ok (.aload_n 0, 1) := by decide +kernel
theorem dX2_seekFewest_86 : decode cX2_seekFewest 86 = .ok (.getfield 44, 3) := by decide +kernel
theorem dX2_seekFewest_89 : decode cX2_seekFewest 89 = .ok (.if_icmp .ge 7, 3) := by decide +kernel
theorem dX2_seekFewest_92 : decode cX2_seekFewest 92 = .ok (.iconst 1, 1) := by decide +kernel
theorem dX2_seekFewest_93 : decode cX2_seekFewest 93 = .ok (.goto 4, 3) := by decide +kernel
theorem dX2_seekFewest_96 : decode cX2_seekFewest 96 = .ok (.iconst 0, 1) := by decide +kernel
theorem dX2_seekFewest_97 : decode cX2_seekFewest 97 = .ok (.istore 9, 2) := by decide +kernel
theorem dX2_seekFewest_99 : decode cX2_seekFewest 99 = .ok (.iload 8, 2) := by decide +kernel
theorem dX2_seekFewest_101 : decode cX2_seekFewest 101 = .ok (.ifCond .eq 18, 3) := by decide +kernel
theorem dX2_seekFewest_104 : decode cX2_seekFewest 104 = .ok (.iload 9, 2) := by decide +kernel
theorem dX2_seekFewest_106 : decode cX2_seekFewest 106 = .ok (.ifCond .eq 13, 3) := by decide +kernel
theorem dX2_seekFewest_109 : decode cX2_seekFewest 109 = .ok (.iload 7, 2) := by decide +kernel
theorem dX2_seekFewest_111 : decode cX2_seekFewest 111 = .ok (.istore 4, 2) := by decide +kernel
theorem dX2_seekFewest_113 : decode cX2_seekFewest 113 = .ok (.aload_n 0, 1) := by decide +kernel
theorem dX2_seekFewest_114 : decode cX2_seekFewest 114 = .ok (.iload 6, 2) := by decide +kernel
theorem dX2_seekFewest_116 : decode cX2_seekFewest 116 = .ok (.invokevirtual 70, 3) := by decide +kernel
theorem dX2_seekFewest_119 : decode cX2_seekFewest 119 = .ok (.iload 5, 2) := by decide +kernel
theorem dX2_seekFewest_121 : decode cX2_seekFewest 121 = .ok (.iload 8, 2) := by decide +kernel
theorem dX2_seekFewest_123 : decode cX2_seekFewest 123 = .ok (.ifCond .ne 10, 3) := by decide +kernel
theorem dX2_seekFewest_126 : decode cX2_seekFewest 126 = .ok (.iload 7, 2) := by decide +kernel
theorem dX2_seekFewest_128 : decode cX2_seekFewest 128 = .ok (.iload 4, 2) := by decide +kernel
theorem dX2_seekFewest_130 : decode cX2_seekFewest 130 = .ok (.if_icmp .lt 10, 3) := by decide +kernel
theorem dX2_seekFewest_133 : decode cX2_seekFewest 133 = .ok (.iconst 1, 1) := by decide +kernel
theorem dX2_seekFewest_134 : decode cX2_seekFewest 134 = .ok (.iload 6, 2) := by decide +kernel
theorem dX2_seekFewest_136 : decode cX2_seekFewest 136 = .ok (.ishl, 1) := by decide +kernel
theorem dX2_seekFewest_137 : decode cX2_seekFewest 137 = .ok (.goto 4, 3) := by decide +kernel
theorem dX2_seekFewest_140 : decode cX2_seekFewest 140 = .ok (.iconst 1, 1) := by decide +kernel
theorem dX2_seekFewest_141 : decode cX2_seekFewest 141 = .ok (.iadd, 1) := by decide +kernel
theorem dX2_seekFewest_142 : decode cX2_seekFewest 142 = .ok (.istore 5, 2) := by decide +kernel
theorem dX2_seekFewest_144 : decode cX2_seekFewest 144 = .ok (.goto (-120), 3) := by decide +kernel
theorem dX2_seekFewest_147 : decode cX2_seekFewest 147 = .ok (.return_, 1) := by decide +kernel
theorem dX3_init_0 : decode cX3_init 0 = .ok (.aload_n 0, 1) := by decide +kernel
theorem dX3_init_1 : decode cX3_init 1 = .ok (.invokespecial 3, 3) := by decide +kernel
theorem dX3_init_4 : decode cX3_init 4 = .ok (.aload_n 0, 1) := by decide +kernel
theorem dX3_init_5 : decode cX3_init 5 = .ok (.bipush 20, 2) := by decide +kernel
theorem dX3_init_7 : decode cX3_init 7 = .ok (.newarray .int, 2) := by decide +kernel
theorem dX3_init_9 : decode cX3_init 9 = .ok (.putfield 9, 3) := by decide +kernel
theorem dX3_init_12 : decode cX3_init 12 = .ok (.aload_n 0, 1) := by decide +kernel
theorem dX3_init_13 : decode cX3_init 13 = .ok (.bipush 20, 2) := by decide +kernel
theorem dX3_init_15 : decode cX3_init 15 = .ok (.newarray .int, 2) := by decide +kernel
theorem dX3_init_17 : decode cX3_init 17 = .ok (.putfield 15, 3) := by decide +kernel
theorem dX3_init_20 : decode cX3_init 20 = .ok (.aload_n 0, 1) := by decide +kernel
theorem dX3_init_21 : decode cX3_init 21 = .ok (.bipush 20, 2) := by decide +kernel
theorem dX3_init_23 : decode cX3_init 23 = .ok (.newarray .int, 2) := by decide +kernel
theorem dX3_init_25 : decode cX3_init 25 = .ok (.putfield 18, 3) := by decide +kernel
theorem dX3_init_28 : decode cX3_init 28 = .ok (.aload_n 0, 1) := by decide +kernel
theorem dX3_init_29 : decode cX3_init 29 = .ok (.bipush 20, 2) := by decide +kernel
theorem dX3_init_31 : decode cX3_init 31 = .ok (.newarray .int, 2) := by decide +kernel
theorem dX3_init_33 : decode cX3_init 33 = .ok (.putfield 21, 3) := by decide +kernel
theorem dX3_init_36 : decode cX3_init 36 = .ok (.aload_n 0, 1) := by decide +kernel
theorem dX3_init_37 : decode cX3_init 37 = .ok (.bipush 20, 2) := by decide +kernel
theorem dX3_init_39 : decode cX3_init 39 = .ok (.newarray .long, 2) := by decide +kernel
theorem dX3_init_41 : decode cX3_init 41 = .ok (.putfield 24, 3) := by decide +kernel
theorem dX3_init_44 : decode cX3_init 44 = .ok (.aload_n 0, 1) := by decide +kernel
theorem dX3_init_45 : decode cX3_init 45 = .ok (.bipush 20, 2) := by decide +kernel
theorem dX3_init_47 : decode cX3_init 47 = .ok (.newarray .boolean, 2) := by decide +kernel
theorem dX3_init_49 : decode cX3_init 49 = .ok (.putfield 28, 3) := by decide +kernel
theorem dX3_init_52 : decode cX3_init 52 = .ok (.aload_n 0, 1) := by decide +kernel
theorem dX3_init_53 : decode cX3_init 53 = .ok (.iconst 0, 1) := by decide +kernel
theorem dX3_init_54 : decode cX3_init 54 = .ok (.putfield 32, 3) := by decide +kernel
theorem dX3_init_57 : decode cX3_init 57 = .ok (.return_, 1) := by decide +kernel
theorem dX3_has_0 : decode cX3_has 0 = .ok (.iload_n 1, 1) := by decide +kernel
theorem dX3_has_1 : decode cX3_has 1 = .ok (.ifCond .lt 15, 3) := by decide +kernel
theorem dX3_has_4 : decode cX3_has 4 = .ok (.iload_n 1, 1) := by decide +kernel
theorem dX3_has_5 : decode cX3_has 5 = .ok (.aload_n 0, 1) := by decide +kernel
theorem dX3_has_6 : decode cX3_has 6 = .ok (.getfield 32, 3) := by decide +kernel
theorem dX3_has_9 : decode cX3_has 9 = .ok (.if_icmp .ge 7, 3) := by decide +kernel
theorem dX3_has_12 : decode cX3_has 12 = .ok (.iconst 1, 1) := by decide +kernel
theorem dX3_has_13 : decode cX3_has 13 = .ok (.goto 4, 3) := by decide +kernel
theorem dX3_has_16 : decode cX3_has 16 = .ok (.iconst 0, 1) := by decide +kernel
theorem dX3_has_17 : decode cX3_has 17 = .ok (.ireturn, 1) := by decide +kernel
theorem dX3_hasAll_0 : decode cX3_hasAll 0 = .ok (.iload_n 1, 1) := by decide +kernel
theorem dX3_hasAll_1 : decode cX3_hasAll 1 = .ok (.aload_n 0, 1) := by decide +kernel
theorem dX3_hasAll_2 : decode cX3_hasAll 2 = .ok (.getfield 32, 3) := by decide +kernel
theorem dX3_hasAll_5 : decode cX3_hasAll 5 = .ok (.iushr, 1) := by decide +kernel
theorem dX3_hasAll_6 : decode cX3_hasAll 6 = .ok (.ifCond .ne 7, 3) := by decide +kernel
theorem dX3_hasAll_9 : decode cX3_hasAll 9 = .ok (.iconst 1, 1) := by decide +kernel
theorem dX3_hasAll_10 : decode cX3_hasAll 10 = .ok (.goto 4, 3) := by decide +kernel
theorem dX3_hasAll_13 : decode cX3_hasAll 13 = .ok (.iconst 0, 1) := by decide +kernel
theorem dX3_hasAll_14 : decode cX3_hasAll 14 = .ok (.ireturn, 1) := by decide +kernel
theorem dX3_add_0 : decode cX3_add 0 = .ok (.iload_n 1, 1) := by decide +kernel
theorem dX3_add_1 : decode cX3_add 1 = .ok (.iconst 2, 1) := by decide +kernel
theorem dX3_add_2 : decode cX3_add 2 = .ok (.if_icmp .ne 7, 3) := by decide +kernel
theorem dX3_add_5 : decode cX3_add 5 = .ok (.iconst 1, 1) := by decide +kernel
theorem dX3_add_6 : decode cX3_add 6 = .ok (.goto 4, 3) := by decide +kernel
theorem dX3_add_9 : decode cX3_add 9 = .ok (.iconst 0, 1) := by decide +kernel
theorem dX3_add_10 : decode cX3_add 10 = .ok (.istore 4, 2) := by decide +kernel
theorem dX3_add_12 : decode cX3_add 12 = .ok (.aload_n 0, 1) := by decide +kernel
theorem dX3_add_13 : decode cX3_add 13 = .ok (.getfield 9, 3) := by decide +kernel
theorem dX3_add_16 : decode cX3_add 16 = .ok (.aload_n 0, 1) := by decide +kernel
theorem dX3_add_17 : decode cX3_add 17 = .ok (.getfield 32, 3) := by decide +kernel
theorem dX3_add_20 : decode cX3_add 20 = .ok (.iload_n 1, 1) := by decide +kernel
theorem dX3_add_21 : decode cX3_add 21 = .ok (.iastore, 1) := by decide +kernel
theorem dX3_add_22 : decode cX3_add 22 = .ok (.aload_n 0, 1) := by decide +kernel
theorem dX3_add_23 : decode cX3_add 23 = .ok (.getfield 15, 3) := by decide +kernel
theorem dX3_add_26 : decode cX3_add 26 = .ok (.aload_n 0, 1) := by decide +kernel
theorem dX3_add_27 : decode cX3_add 27 = .ok (.getfield 32, 3) := by decide +kernel
theorem dX3_add_30 : decode cX3_add 30 = .ok (.iload_n 2, 1) := by decide +kernel
theorem dX3_add_31 : decode cX3_add 31 = .ok (.iastore, 1) := by decide +kernel
theorem dX3_add_32 : decode cX3_add 32 = .ok (.aload_n 0, 1) := by decide +kernel
theorem dX3_add_33 : decode cX3_add 33 = .ok (.getfield 18, 3) := by decide +kernel
theorem dX3_add_36 : decode cX3_add 36 = .ok (.aload_n 0, 1) := by decide +kernel
theorem dX3_add_37 : decode cX3_add 37 = .ok (.getfield 32, 3) := by decide +kernel
theorem dX3_add_40 : decode cX3_add 40 = .ok (.iload 4, 2) := by decide +kernel
theorem dX3_add_42 : decode cX3_add 42 = .ok (.ifCond .eq 7, 3) := by decide +kernel
theorem dX3_add_45 : decode cX3_add 45 = .ok (.iload_n 3, 1) := by decide +kernel
theorem dX3_add_46 : decode cX3_add 46 = .ok (.goto 5, 3) := by decide +kernel
theorem dX3_add_49 : decode cX3_add 49 = .ok (.bipush (-9), 2) := by decide +kernel
theorem dX3_add_51 : decode cX3_add 51 = .ok (.iastore, 1) := by decide +kernel
theorem dX3_add_52 : decode cX3_add 52 = .ok (.aload_n 0, 1) := by decide +kernel
theorem dX3_add_53 : decode cX3_add 53 = .ok (.getfield 21, 3) := by decide +kernel
theorem dX3_add_56 : decode cX3_add 56 = .ok (.aload_n 0, 1) := by decide +kernel
theorem dX3_add_57 : decode cX3_add 57 = .ok (.getfield 32, 3) := by decide +kernel
theorem dX3_add_60 : decode cX3_add 60 = .ok (.iconst 1, 1) := by decide +kernel
theorem dX3_add_61 : decode cX3_add 61 = .ok (.aload_n 0, 1) := by decide +kernel
theorem dX3_add_62 : decode cX3_add 62 = .ok (.getfield 32, 3) := by decide +kernel
theorem dX3_add_65 : decode cX3_add 65 = .ok (.ishl, 1) := by decide +kernel
theorem dX3_add_66 : decode cX3_add 66 = .ok (.iload 4, 2) := by decide +kernel
theorem dX3_add_68 : decode cX3_add 68 = .ok (.ifCond .eq 12, 3) := by decide +kernel
theorem dX3_add_71 : decode cX3_add 71 = .ok (.aload_n 0, 1) := by decide +kernel
theorem dX3_add_72 : decode cX3_add 72 = .ok (.getfield 21, 3) := by decide +kernel
theorem dX3_add_75 : decode cX3_add 75 = .ok (.iload_n 3, 1) := by decide +kernel
theorem dX3_add_76 : decode cX3_add 76 = .ok (.iaload, 1) := by decide +kernel
theorem dX3_add_77 : decode cX3_add 77 = .ok (.goto 4, 3) := by decide +kernel
theorem dX3_add_80 : decode cX3_add 80 = .ok (.iconst 0, 1) := by decide +kernel
theorem dX3_add_81 : decode cX3_add 81 = .ok (.ior, 1) := by decide +kernel
theorem dX3_add_82 : decode cX3_add 82 = .ok (.iastore, 1) := by decide +kernel
theorem dX3_add_83 : decode cX3_add 83 = .ok (.aload_n 0, 1) := by decide +kernel
theorem dX3_add_84 : decode cX3_add 84 = .ok (.dup, 1) := by decide +kernel
theorem dX3_add_85 : decode cX3_add 85 = .ok (.getfield 32, 3) := by decide +kernel
theorem dX3_add_88 : decode cX3_add 88 = .ok (.iconst 1, 1) := by decide +kernel
theorem dX3_add_89 : decode cX3_add 89 = .ok (.iadd, 1) := by decide +kernel
theorem dX3_add_90 : decode cX3_add 90 = .ok (.putfield 32, 3) := by decide +kernel
theorem dX3_add_93 : decode cX3_add 93 = .ok (.aload_n 0, 1) := by decide +kernel
theorem dX3_add_94 : decode cX3_add 94 = .ok (.getfield 32, 3) := by decide +kernel
theorem dX3_add_97 : decode cX3_add 97 = .ok (.iconst 1, 1) := by decide +kernel
theorem dX3_add_98 : decode cX3_add 98 = .ok (.isub, 1) := by decide +kernel
theorem dX3_add_99 : decode cX3_add 99 = .ok (.ireturn, 1) := by decide +kernel
theorem dX3_countedTime_0 : decode cX3_countedTime 0 = .ok (.aload_n 0, 1) := by decide +kernel
theorem dX3_countedTime_1 : decode cX3_countedTime 1 = .ok (.getfield 9, 3) := by decide +kernel
theorem dX3_countedTime_4 : decode cX3_countedTime 4 = .ok (.iload_n 1, 1) := by decide +kernel
theorem dX3_countedTime_5 : decode cX3_countedTime 5 = .ok (.iaload, 1) := by decide +kernel
theorem dX3_countedTime_6 : decode cX3_countedTime 6 = .ok (.iconst 1, 1) := by decide +kernel
theorem dX3_countedTime_7 : decode cX3_countedTime 7 = .ok (.if_icmp .ne 14, 3) := by decide +kernel
theorem dX3_countedTime_10 : decode cX3_countedTime 10 = .ok (.iconst 3, 1) := by decide +kernel
theorem dX3_countedTime_11 : decode cX3_countedTime 11 = .ok (.aload_n 0, 1) := by decide +kernel
theorem dX3_countedTime_12 : decode cX3_countedTime 12 = .ok (.getfield 15, 3) := by decide +kernel
theorem dX3_countedTime_15 : decode cX3_countedTime 15 = .ok (.iload_n 1, 1) := by decide +kernel
theorem dX3_countedTime_16 : decode cX3_countedTime 16 = .ok (.iaload, 1) := by decide +kernel
theorem dX3_countedTime_17 : decode cX3_countedTime 17 = .ok (.imul, 1) := by decide +kernel
theorem dX3_countedTime_18 : decode cX3_countedTime 18 = .ok (.goto 9, 3) := by decide +kernel
theorem dX3_countedTime_21 : decode cX3_countedTime 21 = .ok (.aload_n 0, 1) := by decide +kernel
theorem dX3_countedTime_22 : decode cX3_countedTime 22 = .ok (.getfield 15, 3) := by decide +kernel
theorem dX3_countedTime_25 : decode cX3_countedTime 25 = .ok (.iload_n 1, 1) := by decide +kernel
theorem dX3_countedTime_26 : decode cX3_countedTime 26 = .ok (.iaload, 1) := by decide +kernel
theorem dX3_countedTime_27 : decode cX3_countedTime 27 = .ok (.ireturn, 1) := by decide +kernel
theorem dX3_reachByte_0 : decode cX3_reachByte 0 = .ok (.aload_n 0, 1) := by decide +kernel
theorem dX3_reachByte_1 : decode cX3_reachByte 1 = .ok (.getfield 24, 3) := by decide +kernel
theorem dX3_reachByte_4 : decode cX3_reachByte 4 = .ok (.iload_n 1, 1) := by decide +kernel
theorem dX3_reachByte_5 : decode cX3_reachByte 5 = .ok (.laload, 1) := by decide +kernel
theorem dX3_reachByte_6 : decode cX3_reachByte 6 = .ok (.bipush 8, 2) := by decide +kernel
theorem dX3_reachByte_8 : decode cX3_reachByte 8 = .ok (.iload_n 2, 1) := by decide +kernel
theorem dX3_reachByte_9 : decode cX3_reachByte 9 = .ok (.imul, 1) := by decide +kernel
theorem dX3_reachByte_10 : decode cX3_reachByte 10 = .ok (.lushr, 1) := by decide +kernel
theorem dX3_reachByte_11 : decode cX3_reachByte 11 = .ok (.ldc2_w 36, 3) := by decide +kernel
theorem dX3_reachByte_14 : decode cX3_reachByte 14 = .ok (.land, 1) := by decide +kernel
theorem dX3_reachByte_15 : decode cX3_reachByte 15 = .ok (.l2i, 1) := by decide +kernel
theorem dX3_reachByte_16 : decode cX3_reachByte 16 = .ok (.ireturn, 1) := by decide +kernel
theorem dX3_setReachByte_0 : decode cX3_setReachByte 0 = .ok (.aload_n 0, 1) := by decide +kernel
theorem dX3_setReachByte_1 : decode cX3_setReachByte 1 = .ok (.getfield 24, 3) := by decide +kernel
theorem dX3_setReachByte_4 : decode cX3_setReachByte 4 = .ok (.iload_n 1, 1) := by decide +kernel
theorem dX3_setReachByte_5 : decode cX3_setReachByte 5 = .ok (.aload_n 0, 1) := by decide +kernel
theorem dX3_setReachByte_6 : decode cX3_setReachByte 6 = .ok (.getfield 24, 3) := by decide +kernel
theorem dX3_setReachByte_9 : decode cX3_setReachByte 9 = .ok (.iload_n 1, 1) := by decide +kernel
theorem dX3_setReachByte_10 : decode cX3_setReachByte 10 = .ok (.laload, 1) := by decide +kernel
theorem dX3_setReachByte_11 : decode cX3_setReachByte 11 = .ok (.ldc2_w 36, 3) := by decide +kernel
theorem dX3_setReachByte_14 : decode cX3_setReachByte 14 = .ok (.bipush 8, 2) := by decide +kernel
theorem dX3_setReachByte_16 : decode cX3_setReachByte 16 = .ok (.iload_n 2, 1) := by decide +kernel
theorem dX3_setReachByte_17 : decode cX3_setReachByte 17 = .ok (.imul, 1) := by decide +kernel
theorem dX3_setReachByte_18 : decode cX3_setReachByte 18 = .ok (.lshl, 1) := by decide +kernel
theorem dX3_setReachByte_19 : decode cX3_setReachByte 19 = .ok (.ldc2_w 38, 3) := by decide +kernel
theorem dX3_setReachByte_22 : decode cX3_setReachByte 22 = .ok (.lxor, 1) := by decide +kernel
theorem dX3_setReachByte_23 : decode cX3_setReachByte 23 = .ok (.land, 1) := by decide +kernel
theorem dX3_setReachByte_24 : decode cX3_setReachByte 24 = .ok (.iload_n 3, 1) := by decide +kernel
theorem dX3_setReachByte_25 : decode cX3_setReachByte 25 = .ok (.i2l, 1) := by decide +kernel
theorem dX3_setReachByte_26 : decode cX3_setReachByte 26 = .ok (.bipush 8, 2) := by decide +kernel
theorem dX3_setReachByte_28 : decode cX3_setReachByte 28 = .ok (.iload_n 2, 1) := by decide +kernel
theorem dX3_setReachByte_29 : decode cX3_setReachByte 29 = .ok (.imul, 1) := by decide +kernel
theorem dX3_setReachByte_30 : decode cX3_setReachByte 30 = .ok (.lshl, 1) := by decide +kernel
theorem dX3_setReachByte_31 : decode cX3_setReachByte 31 = .ok (.lor, 1) := by decide +kernel
theorem dX3_setReachByte_32 : decode cX3_setReachByte 32 = .ok (.lastore, 1) := by decide +kernel
theorem dX3_setReachByte_33 : decode cX3_setReachByte 33 = .ok (.return_, 1) := by decide +kernel
theorem dX3_copyBytes_0 : decode cX3_copyBytes 0 = .ok (.lconst 1, 1) := by decide +kernel
theorem dX3_copyBytes_1 : decode cX3_copyBytes 1 = .ok (.bipush 8, 2) := by decide +kernel
theorem dX3_copyBytes_3 : decode cX3_copyBytes 3 = .ok (.iload 5, 2) := by decide +kernel
theorem dX3_copyBytes_5 : decode cX3_copyBytes 5 = .ok (.imul, 1) := by decide +kernel
theorem dX3_copyBytes_6 : decode cX3_copyBytes 6 = .ok (.lshl, 1) := by decide +kernel
theorem dX3_copyBytes_7 : decode cX3_copyBytes 7 = .ok (.lconst 1, 1) := by decide +kernel
theorem dX3_copyBytes_8 : decode cX3_copyBytes 8 = .ok (.lsub, 1) := by decide +kernel
theorem dX3_copyBytes_9 : decode cX3_copyBytes 9 = .ok (.lstore 6, 2) := by decide +kernel
theorem dX3_copyBytes_11 : decode cX3_copyBytes 11 = .ok (.aload_n 0, 1) := by decide +kernel
theorem dX3_copyBytes_12 : decode cX3_copyBytes 12 = .ok (.getfield 24, 3) := by decide +kernel
theorem dX3_copyBytes_15 : decode cX3_copyBytes 15 = .ok (.iload_n 1, 1) := by decide +kernel
theorem dX3_copyBytes_16 : decode cX3_copyBytes 16 = .ok (.laload, 1) := by decide +kernel
theorem dX3_copyBytes_17 : decode cX3_copyBytes 17 = .ok (.bipush 8, 2) := by decide +kernel
theorem dX3_copyBytes_19 : decode cX3_copyBytes 19 = .ok (.iload_n 2, 1) := by decide +kernel
theorem dX3_copyBytes_20 : decode cX3_copyBytes 20 = .ok (.imul, 1) := by decide +kernel
theorem dX3_copyBytes_21 : decode cX3_copyBytes 21 = .ok (.lushr, 1) := by decide +kernel
theorem dX3_copyBytes_22 : decode cX3_copyBytes 22 = .ok (.lload 6, 2) := by decide +kernel
theorem dX3_copyBytes_24 : decode cX3_copyBytes 24 = .ok (.land, 1) := by decide +kernel
theorem dX3_copyBytes_25 : decode cX3_copyBytes 25 = .ok (.lstore 8, 2) := by decide +kernel
theorem dX3_copyBytes_27 : decode cX3_copyBytes 27 = .ok (.aload_n 0, 1) := by decide +kernel
theorem dX3_copyBytes_28 : decode cX3_copyBytes 28 = .ok (.getfield 24, 3) := by decide +kernel
theorem dX3_copyBytes_31 : decode cX3_copyBytes 31 = .ok (.iload_n 3, 1) := by decide +kernel
theorem dX3_copyBytes_32 : decode cX3_copyBytes 32 = .ok (.aload_n 0, 1) := by decide +kernel
theorem dX3_copyBytes_33 : decode cX3_copyBytes 33 = .ok (.getfield 24, 3) := by decide +kernel
theorem dX3_copyBytes_36 : decode cX3_copyBytes 36 = .ok (.iload_n 3, 1) := by decide +kernel
theorem dX3_copyBytes_37 : decode cX3_copyBytes 37 = .ok (.laload, 1) := by decide +kernel
theorem dX3_copyBytes_38 : decode cX3_copyBytes 38 = .ok (.lload 6, 2) := by decide +kernel
theorem dX3_copyBytes_40 : decode cX3_copyBytes 40 = .ok (.bipush 8, 2) := by decide +kernel
theorem dX3_copyBytes_42 : decode cX3_copyBytes 42 = .ok (.iload 4, 2) := by decide +kernel
theorem dX3_copyBytes_44 : decode cX3_copyBytes 44 = .ok (.imul, 1) := by decide +kernel
theorem dX3_copyBytes_45 : decode cX3_copyBytes 45 = .ok (.lshl, 1) := by decide +kernel
theorem dX3_copyBytes_46 : decode cX3_copyBytes 46 = .ok (.ldc2_w 38, 3) := by decide +kernel
theorem dX3_copyBytes_49 : decode cX3_copyBytes 49 = .ok (.lxor, 1) := by decide +kernel
theorem dX3_copyBytes_50 : decode cX3_copyBytes 50 = .ok (.land, 1) := by decide +kernel
theorem dX3_copyBytes_51 : decode cX3_copyBytes 51 = .ok (.lload 8, 2) := by decide +kernel
theorem dX3_copyBytes_53 : decode cX3_copyBytes 53 = .ok (.bipush 8, 2) := by decide +kernel
theorem dX3_copyBytes_55 : decode cX3_copyBytes 55 = .ok (.iload 4, 2) := by decide +kernel
theorem dX3_copyBytes_57 : decode cX3_copyBytes 57 = .ok (.imul, 1) := by decide +kernel
theorem dX3_copyBytes_58 : decode cX3_copyBytes 58 = .ok (.lshl, 1) := by decide +kernel
theorem dX3_copyBytes_59 : decode cX3_copyBytes 59 = .ok (.lor, 1) := by decide +kernel
theorem dX3_copyBytes_60 : decode cX3_copyBytes 60 = .ok (.lastore, 1) := by decide +kernel
theorem dX3_copyBytes_61 : decode cX3_copyBytes 61 = .ok (.return_, 1) := by decide +kernel
set_option maxRecDepth 20000 in
theorem ggX3_timeOf_X4_isIn : GoodIn wsX3_timeOf wsX4_isIn := goodIn_r _ [4] (by decide +kernel) (by decide +kernel)
set_option maxRecDepth 20000 in
theorem gX3_timeOf_X4_isIn_n40 : GoodIn wsX3_timeOf (wsX4_isIn) := ggX3_timeOf_X4_isIn
set_option maxRecDepth 20000 in
theorem ggX3_timeOf_X3_countedTime : GoodIn wsX3_timeOf wsX3_countedTime := goodIn_r _ [9, 10, 11, 12, 13, 14, 15, 16, 17, 18] (by decide +kernel) (by decide +kernel)
set_option maxRecDepth 20000 in
theorem gX3_timeOf_X3_countedTime : GoodIn wsX3_timeOf (wsV RX3 44 RX3 yX3_countedTime wsX3_countedTime) := goodIn_app (goodIn_of _ (by decide +kernel)) ggX3_timeOf_X3_countedTime
theorem dX3_timeOf_0 : decode cX3_timeOf 0 = .ok (.iconst 0, 1) := by decide +kernel
theorem dX3_timeOf_1 : decode cX3_timeOf 1 = .ok (.istore_n 2, 1) := by decide +kernel
theorem dX3_timeOf_2 : decode cX3_timeOf 2 = .ok (.iconst 0, 1) := by decide +kernel
theorem dX3_timeOf_3 : decode cX3_timeOf 3 = .ok (.istore_n 3, 1) := by decide +kernel
theorem dX3_timeOf_4 : decode cX3_timeOf 4 = .ok (.iload_n 3, 1) := by decide +kernel
theorem dX3_timeOf_5 : decode cX3_timeOf 5 = .ok (.aload_n 0, 1) := by decide +kernel
theorem dX3_timeOf_6 : decode cX3_timeOf 6 = .ok (.getfield 32, 3) := by decide +kernel
theorem dX3_timeOf_9 : decode cX3_timeOf 9 = .ok (.if_icmp .ge 29, 3) := by decide +kernel
theorem dX3_timeOf_12 : decode cX3_timeOf 12 = .ok (.iload_n 2, 1) := by decide +kernel
theorem dX3_timeOf_13 : decode cX3_timeOf 13 = .ok (.iload_n 3, 1) := by decide +kernel
theorem dX3_timeOf_14 : decode cX3_timeOf 14 = .ok (.iload_n 1, 1) := by decide +kernel
theorem dX3_timeOf_15 : decode cX3_timeOf 15 = .ok (.invokestatic 40, 3) := by decide +kernel
theorem dX3_timeOf_18 : decode cX3_timeOf 18 = .ok (.ifCond .eq 11, 3) := by decide +kernel
theorem dX3_timeOf_21 : decode cX3_timeOf 21 = .ok (.aload_n 0, 1) := by decide +kernel
theorem dX3_timeOf_22 : decode cX3_timeOf 22 = .ok (.iload_n 3, 1) := by decide +kernel
theorem dX3_timeOf_23 : decode cX3_timeOf 23 = .ok (.invokevirtual 44, 3) := by decide +kernel
theorem dX3_timeOf_26 : decode cX3_timeOf 26 = .ok (.goto 4, 3) := by decide +kernel
theorem dX3_timeOf_29 : decode cX3_timeOf 29 = .ok (.iconst 0, 1) := by decide +kernel
theorem dX3_timeOf_30 : decode cX3_timeOf 30 = .ok (.iadd, 1) := by decide +kernel
theorem dX3_timeOf_31 : decode cX3_timeOf 31 = .ok (.istore_n 2, 1) := by decide +kernel
theorem dX3_timeOf_32 : decode cX3_timeOf 32 = .ok (.iinc 3 1, 3) := by decide +kernel
theorem dX3_timeOf_35 : decode cX3_timeOf 35 = .ok (.goto (-31), 3) := by decide +kernel
theorem dX3_timeOf_38 : decode cX3_timeOf 38 = .ok (.iload_n 2, 1) := by decide +kernel
theorem dX3_timeOf_39 : decode cX3_timeOf 39 = .ok (.ireturn, 1) := by decide +kernel
set_option maxRecDepth 20000 in
theorem ggX3_partsOf_X4_isIn : GoodIn wsX3_partsOf wsX4_isIn := goodIn_r _ [5] (by decide +kernel) (by decide +kernel)
set_option maxRecDepth 20000 in
theorem gX3_partsOf_X4_isIn_n40 : GoodIn wsX3_partsOf (wsX4_isIn) := ggX3_partsOf_X4_isIn
theorem dX3_partsOf_0 : decode cX3_partsOf 0 = .ok (.lconst 0, 1) := by decide +kernel
theorem dX3_partsOf_1 : decode cX3_partsOf 1 = .ok (.lstore_n 2, 1) := by decide +kernel
theorem dX3_partsOf_2 : decode cX3_partsOf 2 = .ok (.iconst 0, 1) := by decide +kernel
theorem dX3_partsOf_3 : decode cX3_partsOf 3 = .ok (.istore 4, 2) := by decide +kernel
theorem dX3_partsOf_5 : decode cX3_partsOf 5 = .ok (.iload 4, 2) := by decide +kernel
theorem dX3_partsOf_7 : decode cX3_partsOf 7 = .ok (.aload_n 0, 1) := by decide +kernel
theorem dX3_partsOf_8 : decode cX3_partsOf 8 = .ok (.getfield 32, 3) := by decide +kernel
theorem dX3_partsOf_11 : decode cX3_partsOf 11 = .ok (.if_icmp .ge 32, 3) := by decide +kernel
theorem dX3_partsOf_14 : decode cX3_partsOf 14 = .ok (.lload_n 2, 1) := by decide +kernel
theorem dX3_partsOf_15 : decode cX3_partsOf 15 = .ok (.iload 4, 2) := by decide +kernel
theorem dX3_partsOf_17 : decode cX3_partsOf 17 = .ok (.iload_n 1, 1) := by decide +kernel
theorem dX3_partsOf_18 : decode cX3_partsOf 18 = .ok (.invokestatic 40, 3) := by decide +kernel
theorem dX3_partsOf_21 : decode cX3_partsOf 21 = .ok (.ifCond .eq 13, 3) := by decide +kernel
theorem dX3_partsOf_24 : decode cX3_partsOf 24 = .ok (.aload_n 0, 1) := by decide +kernel
theorem dX3_partsOf_25 : decode cX3_partsOf 25 = .ok (.getfield 24, 3) := by decide +kernel
theorem dX3_partsOf_28 : decode cX3_partsOf 28 = .ok (.iload 4, 2) := by decide +kernel
theorem dX3_partsOf_30 : decode cX3_partsOf 30 = .ok (.laload, 1) := by decide +kernel
theorem dX3_partsOf_31 : decode cX3_partsOf 31 = .ok (.goto 4, 3) := by decide +kernel
theorem dX3_partsOf_34 : decode cX3_partsOf 34 = .ok (.lconst 0, 1) := by decide +kernel
theorem dX3_partsOf_35 : decode cX3_partsOf 35 = .ok (.lor, 1) := by decide +kernel
theorem dX3_partsOf_36 : decode cX3_partsOf 36 = .ok (.lstore_n 2, 1) := by decide +kernel
theorem dX3_partsOf_37 : decode cX3_partsOf 37 = .ok (.iinc 4 1, 3) := by decide +kernel
theorem dX3_partsOf_40 : decode cX3_partsOf 40 = .ok (.goto (-35), 3) := by decide +kernel
theorem dX3_partsOf_43 : decode cX3_partsOf 43 = .ok (.lload_n 2, 1) := by decide +kernel
theorem dX3_partsOf_44 : decode cX3_partsOf 44 = .ok (.lreturn, 1) := by decide +kernel
theorem dX3_pickable_0 : decode cX3_pickable 0 = .ok (.iconst 0, 1) := by decide +kernel
theorem dX3_pickable_1 : decode cX3_pickable 1 = .ok (.istore_n 1, 1) := by decide +kernel
theorem dX3_pickable_2 : decode cX3_pickable 2 = .ok (.iconst 0, 1) := by decide +kernel
theorem dX3_pickable_3 : decode cX3_pickable 3 = .ok (.istore_n 2, 1) := by decide +kernel
theorem dX3_pickable_4 : decode cX3_pickable 4 = .ok (.iload_n 2, 1) := by decide +kernel
theorem dX3_pickable_5 : decode cX3_pickable 5 = .ok (.aload_n 0, 1) := by decide +kernel
theorem dX3_pickable_6 : decode cX3_pickable 6 = .ok (.getfield 32, 3) := by decide +kernel
theorem dX3_pickable_9 : decode cX3_pickable 9 = .ok (.if_icmp .ge 38, 3) := by decide +kernel
theorem dX3_pickable_12 : decode cX3_pickable 12 = .ok (.iload_n 1, 1) := by decide +kernel
theorem dX3_pickable_13 : decode cX3_pickable 13 = .ok (.aload_n 0, 1) := by decide +kernel
theorem dX3_pickable_14 : decode cX3_pickable 14 = .ok (.getfield 9, 3) := by decide +kernel
theorem dX3_pickable_17 : decode cX3_pickable 17 = .ok (.iload_n 2, 1) := by decide +kernel
theorem dX3_pickable_18 : decode cX3_pickable 18 = .ok (.iaload, 1) := by decide +kernel
theorem dX3_pickable_19 : decode cX3_pickable 19 = .ok (.iconst 3, 1) := by decide +kernel
theorem dX3_pickable_20 : decode cX3_pickable 20 = .ok (.if_icmp .eq 12, 3) := by decide +kernel
theorem dX3_pickable_23 : decode cX3_pickable 23 = .ok (.aload_n 0, 1) := by decide +kernel
theorem dX3_pickable_24 : decode cX3_pickable 24 = .ok (.getfield 28, 3) := by decide +kernel
theorem dX3_pickable_27 : decode cX3_pickable 27 = .ok (.iload_n 2, 1) := by decide +kernel
theorem dX3_pickable_28 : decode cX3_pickable 28 = .ok (.baload, 1) := by decide +kernel
theorem dX3_pickable_29 : decode cX3_pickable 29 = .ok (.ifCond .eq 9, 3) := by decide +kernel
theorem dX3_pickable_32 : decode cX3_pickable 32 = .ok (.iconst 1, 1) := by decide +kernel
theorem dX3_pickable_33 : decode cX3_pickable 33 = .ok (.iload_n 2, 1) := by decide +kernel
theorem dX3_pickable_34 : decode cX3_pickable 34 = .ok (.ishl, 1) := by decide +kernel
theorem dX3_pickable_35 : decode cX3_pickable 35 = .ok (.goto 4, 3) := by decide +kernel
theorem dX3_pickable_38 : decode cX3_pickable 38 = .ok (.iconst 0, 1) := by decide +kernel
theorem dX3_pickable_39 : decode cX3_pickable 39 = .ok (.ior, 1) := by decide +kernel
theorem dX3_pickable_40 : decode cX3_pickable 40 = .ok (.istore_n 1, 1) := by decide +kernel
theorem dX3_pickable_41 : decode cX3_pickable 41 = .ok (.iinc 2 1, 3) := by decide +kernel
theorem dX3_pickable_44 : decode cX3_pickable 44 = .ok (.goto (-40), 3) := by decide +kernel
theorem dX3_pickable_47 : decode cX3_pickable 47 = .ok (.iconst 0, 1) := by decide +kernel
theorem dX3_pickable_48 : decode cX3_pickable 48 = .ok (.istore_n 2, 1) := by decide +kernel
theorem dX3_pickable_49 : decode cX3_pickable 49 = .ok (.iconst 0, 1) := by decide +kernel
theorem dX3_pickable_50 : decode cX3_pickable 50 = .ok (.istore_n 3, 1) := by decide +kernel
theorem dX3_pickable_51 : decode cX3_pickable 51 = .ok (.iload_n 3, 1) := by decide +kernel
theorem dX3_pickable_52 : decode cX3_pickable 52 = .ok (.aload_n 0, 1) := by decide +kernel
theorem dX3_pickable_53 : decode cX3_pickable 53 = .ok (.getfield 32, 3) := by decide +kernel
theorem dX3_pickable_56 : decode cX3_pickable 56 = .ok (.if_icmp .ge 30, 3) := by decide +kernel
theorem dX3_pickable_59 : decode cX3_pickable 59 = .ok (.iload_n 2, 1) := by decide +kernel
theorem dX3_pickable_60 : decode cX3_pickable 60 = .ok (.aload_n 0, 1) := by decide +kernel
theorem dX3_pickable_61 : decode cX3_pickable 61 = .ok (.getfield 21, 3) := by decide +kernel
theorem dX3_pickable_64 : decode cX3_pickable 64 = .ok (.iload_n 3, 1) := by decide +kernel
theorem dX3_pickable_65 : decode cX3_pickable 65 = .ok (.iaload, 1) := by decide +kernel
theorem dX3_pickable_66 : decode cX3_pickable 66 = .ok (.iload_n 1, 1) := by decide +kernel
theorem dX3_pickable_67 : decode cX3_pickable 67 = .ok (.iand, 1) := by decide +kernel
theorem dX3_pickable_68 : decode cX3_pickable 68 = .ok (.ifCond .ne 9, 3) := by decide +kernel
theorem dX3_pickable_71 : decode cX3_pickable 71 = .ok (.iconst 1, 1) := by decide +kernel
theorem dX3_pickable_72 : decode cX3_pickable 72 = .ok (.iload_n 3, 1) := by decide +kernel
theorem dX3_pickable_73 : decode cX3_pickable 73 = .ok (.ishl, 1) := by decide +kernel
theorem dX3_pickable_74 : decode cX3_pickable 74 = .ok (.goto 4, 3) := by decide +kernel
theorem dX3_pickable_77 : decode cX3_pickable 77 = .ok (.iconst 0, 1) := by decide +kernel
theorem dX3_pickable_78 : decode cX3_pickable 78 = .ok (.ior, 1) := by decide +kernel
theorem dX3_pickable_79 : decode cX3_pickable 79 = .ok (.istore_n 2, 1) := by decide +kernel
theorem dX3_pickable_80 : decode cX3_pickable 80 = .ok (.iinc 3 1, 3) := by decide +kernel
theorem dX3_pickable_83 : decode cX3_pickable 83 = .ok (.goto (-32), 3) := by decide +kernel
theorem dX3_pickable_86 : decode cX3_pickable 86 = .ok (.iload_n 2, 1) := by decide +kernel
theorem dX3_pickable_87 : decode cX3_pickable 87 = .ok (.ireturn, 1) := by decide +kernel
theorem dJ6_numberOfTrailingZeros_0f7a4_0 : decode cJ6_numberOfTrailingZeros_0f7a4 0 = .ok (.iload_n 0, 1) := by decide +kernel
theorem dJ6_numberOfTrailingZeros_0f7a4_1 : decode cJ6_numberOfTrailingZeros_0f7a4 1 = .ok (.iconst (-1), 1) := by decide +kernel
theorem dJ6_numberOfTrailingZeros_0f7a4_2 : decode cJ6_numberOfTrailingZeros_0f7a4 2 = .ok (.ixor, 1) := by decide +kernel
theorem dJ6_numberOfTrailingZeros_0f7a4_3 : decode cJ6_numberOfTrailingZeros_0f7a4 3 = .ok (.iload_n 0, 1) := by decide +kernel
theorem dJ6_numberOfTrailingZeros_0f7a4_4 : decode cJ6_numberOfTrailingZeros_0f7a4 4 = .ok (.iconst 1, 1) := by decide +kernel
theorem dJ6_numberOfTrailingZeros_0f7a4_5 : decode cJ6_numberOfTrailingZeros_0f7a4 5 = .ok (.isub, 1) := by decide +kernel
theorem dJ6_numberOfTrailingZeros_0f7a4_6 : decode cJ6_numberOfTrailingZeros_0f7a4 6 = .ok (.iand, 1) := by decide +kernel
theorem dJ6_numberOfTrailingZeros_0f7a4_7 : decode cJ6_numberOfTrailingZeros_0f7a4 7 = .ok (.istore_n 0, 1) := by decide +kernel
theorem dJ6_numberOfTrailingZeros_0f7a4_8 : decode cJ6_numberOfTrailingZeros_0f7a4 8 = .ok (.iload_n 0, 1) := by decide +kernel
theorem dJ6_numberOfTrailingZeros_0f7a4_9 : decode cJ6_numberOfTrailingZeros_0f7a4 9 = .ok (.ifCond .gt 8, 3) := by decide +kernel
theorem dJ6_numberOfTrailingZeros_0f7a4_12 : decode cJ6_numberOfTrailingZeros_0f7a4 12 = .ok (.iload_n 0, 1) := by decide +kernel
theorem dJ6_numberOfTrailingZeros_0f7a4_13 : decode cJ6_numberOfTrailingZeros_0f7a4 13 = .ok (.bipush 32, 2) := by decide +kernel
theorem dJ6_numberOfTrailingZeros_0f7a4_15 : decode cJ6_numberOfTrailingZeros_0f7a4 15 = .ok (.iand, 1) := by decide +kernel
theorem dJ6_numberOfTrailingZeros_0f7a4_16 : decode cJ6_numberOfTrailingZeros_0f7a4 16 = .ok (.ireturn, 1) := by decide +kernel
theorem dJ6_numberOfTrailingZeros_0f7a4_17 : decode cJ6_numberOfTrailingZeros_0f7a4 17 = .ok (.iconst 1, 1) := by decide +kernel
theorem dJ6_numberOfTrailingZeros_0f7a4_18 : decode cJ6_numberOfTrailingZeros_0f7a4 18 = .ok (.istore_n 1, 1) := by decide +kernel
theorem dJ6_numberOfTrailingZeros_0f7a4_19 : decode cJ6_numberOfTrailingZeros_0f7a4 19 = .ok (.iload_n 0, 1) := by decide +kernel
theorem dJ6_numberOfTrailingZeros_0f7a4_20 : decode cJ6_numberOfTrailingZeros_0f7a4 20 = .ok (.ldc_w 264, 3) := by decide +kernel
theorem dJ6_numberOfTrailingZeros_0f7a4_23 : decode cJ6_numberOfTrailingZeros_0f7a4 23 = .ok (.if_icmp .le 11, 3) := by decide +kernel
theorem dJ6_numberOfTrailingZeros_0f7a4_26 : decode cJ6_numberOfTrailingZeros_0f7a4 26 = .ok (.iinc 1 16, 3) := by decide +kernel
theorem dJ6_numberOfTrailingZeros_0f7a4_29 : decode cJ6_numberOfTrailingZeros_0f7a4 29 = .ok (.iload_n 0, 1) := by decide +kernel
theorem dJ6_numberOfTrailingZeros_0f7a4_30 : decode cJ6_numberOfTrailingZeros_0f7a4 30 = .ok (.bipush 16, 2) := by decide +kernel
theorem dJ6_numberOfTrailingZeros_0f7a4_32 : decode cJ6_numberOfTrailingZeros_0f7a4 32 = .ok (.iushr, 1) := by decide +kernel
theorem dJ6_numberOfTrailingZeros_0f7a4_33 : decode cJ6_numberOfTrailingZeros_0f7a4 33 = .ok (.istore_n 0, 1) := by decide +kernel
theorem dJ6_numberOfTrailingZeros_0f7a4_34 : decode cJ6_numberOfTrailingZeros_0f7a4 34 = .ok (.iload_n 0, 1) := by decide +kernel
theorem dJ6_numberOfTrailingZeros_0f7a4_35 : decode cJ6_numberOfTrailingZeros_0f7a4 35 = .ok (.sipush 256, 3) := by decide +kernel
theorem dJ6_numberOfTrailingZeros_0f7a4_38 : decode cJ6_numberOfTrailingZeros_0f7a4 38 = .ok (.if_icmp .le 11, 3) := by decide +kernel
theorem dJ6_numberOfTrailingZeros_0f7a4_41 : decode cJ6_numberOfTrailingZeros_0f7a4 41 = .ok (.iinc 1 8, 3) := by decide +kernel
theorem dJ6_numberOfTrailingZeros_0f7a4_44 : decode cJ6_numberOfTrailingZeros_0f7a4 44 = .ok (.iload_n 0, 1) := by decide +kernel
theorem dJ6_numberOfTrailingZeros_0f7a4_45 : decode cJ6_numberOfTrailingZeros_0f7a4 45 = .ok (.bipush 8, 2) := by decide +kernel
theorem dJ6_numberOfTrailingZeros_0f7a4_47 : decode cJ6_numberOfTrailingZeros_0f7a4 47 = .ok (.iushr, 1) := by decide +kernel
theorem dJ6_numberOfTrailingZeros_0f7a4_48 : decode cJ6_numberOfTrailingZeros_0f7a4 48 = .ok (.istore_n 0, 1) := by decide +kernel
theorem dJ6_numberOfTrailingZeros_0f7a4_49 : decode cJ6_numberOfTrailingZeros_0f7a4 49 = .ok (.iload_n 0, 1) := by decide +kernel
theorem dJ6_numberOfTrailingZeros_0f7a4_50 : decode cJ6_numberOfTrailingZeros_0f7a4 50 = .ok (.bipush 16, 2) := by decide +kernel
theorem dJ6_numberOfTrailingZeros_0f7a4_52 : decode cJ6_numberOfTrailingZeros_0f7a4 52 = .ok (.if_icmp .le 10, 3) := by decide +kernel
theorem dJ6_numberOfTrailingZeros_0f7a4_55 : decode cJ6_numberOfTrailingZeros_0f7a4 55 = .ok (.iinc 1 4, 3) := by decide +kernel
theorem dJ6_numberOfTrailingZeros_0f7a4_58 : decode cJ6_numberOfTrailingZeros_0f7a4 58 = .ok (.iload_n 0, 1) := by decide +kernel
theorem dJ6_numberOfTrailingZeros_0f7a4_59 : decode cJ6_numberOfTrailingZeros_0f7a4 59 = .ok (.iconst 4, 1) := by decide +kernel
theorem dJ6_numberOfTrailingZeros_0f7a4_60 : decode cJ6_numberOfTrailingZeros_0f7a4 60 = .ok (.iushr, 1) := by decide +kernel
theorem dJ6_numberOfTrailingZeros_0f7a4_61 : decode cJ6_numberOfTrailingZeros_0f7a4 61 = .ok (.istore_n 0, 1) := by decide +kernel
theorem dJ6_numberOfTrailingZeros_0f7a4_62 : decode cJ6_numberOfTrailingZeros_0f7a4 62 = .ok (.iload_n 0, 1) := by decide +kernel
theorem dJ6_numberOfTrailingZeros_0f7a4_63 : decode cJ6_numberOfTrailingZeros_0f7a4 63 = .ok (.iconst 4, 1) := by decide +kernel
theorem dJ6_numberOfTrailingZeros_0f7a4_64 : decode cJ6_numberOfTrailingZeros_0f7a4 64 = .ok (.if_icmp .le 10, 3) := by decide +kernel
theorem dJ6_numberOfTrailingZeros_0f7a4_67 : decode cJ6_numberOfTrailingZeros_0f7a4 67 = .ok (.iinc 1 2, 3) := by decide +kernel
theorem dJ6_numberOfTrailingZeros_0f7a4_70 : decode cJ6_numberOfTrailingZeros_0f7a4 70 = .ok (.iload_n 0, 1) := by decide +kernel
theorem dJ6_numberOfTrailingZeros_0f7a4_71 : decode cJ6_numberOfTrailingZeros_0f7a4 71 = .ok (.iconst 2, 1) := by decide +kernel
theorem dJ6_numberOfTrailingZeros_0f7a4_72 : decode cJ6_numberOfTrailingZeros_0f7a4 72 = .ok (.iushr, 1) := by decide +kernel
theorem dJ6_numberOfTrailingZeros_0f7a4_73 : decode cJ6_numberOfTrailingZeros_0f7a4 73 = .ok (.istore_n 0, 1) := by decide +kernel
theorem dJ6_numberOfTrailingZeros_0f7a4_74 : decode cJ6_numberOfTrailingZeros_0f7a4 74 = .ok (.iload_n 1, 1) := by decide +kernel
theorem dJ6_numberOfTrailingZeros_0f7a4_75 : decode cJ6_numberOfTrailingZeros_0f7a4 75 = .ok (.iload_n 0, 1) := by decide +kernel
theorem dJ6_numberOfTrailingZeros_0f7a4_76 : decode cJ6_numberOfTrailingZeros_0f7a4 76 = .ok (.iconst 1, 1) := by decide +kernel
theorem dJ6_numberOfTrailingZeros_0f7a4_77 : decode cJ6_numberOfTrailingZeros_0f7a4 77 = .ok (.iushr, 1) := by decide +kernel
theorem dJ6_numberOfTrailingZeros_0f7a4_78 : decode cJ6_numberOfTrailingZeros_0f7a4 78 = .ok (.iadd, 1) := by decide +kernel
theorem dJ6_numberOfTrailingZeros_0f7a4_79 : decode cJ6_numberOfTrailingZeros_0f7a4 79 = .ok (.ireturn, 1) := by decide +kernel
theorem dJ6_bitCount_0f7a4_0 : decode cJ6_bitCount_0f7a4 0 = .ok (.iload_n 0, 1) := by decide +kernel
theorem dJ6_bitCount_0f7a4_1 : decode cJ6_bitCount_0f7a4 1 = .ok (.iload_n 0, 1) := by decide +kernel
theorem dJ6_bitCount_0f7a4_2 : decode cJ6_bitCount_0f7a4 2 = .ok (.iconst 1, 1) := by decide +kernel
theorem dJ6_bitCount_0f7a4_3 : decode cJ6_bitCount_0f7a4 3 = .ok (.iushr, 1) := by decide +kernel
theorem dJ6_bitCount_0f7a4_4 : decode cJ6_bitCount_0f7a4 4 = .ok (.ldc_w 265, 3) := by decide +kernel
theorem dJ6_bitCount_0f7a4_7 : decode cJ6_bitCount_0f7a4 7 = .ok (.iand, 1) := by decide +kernel
theorem dJ6_bitCount_0f7a4_8 : decode cJ6_bitCount_0f7a4 8 = .ok (.isub, 1) := by decide +kernel
theorem dJ6_bitCount_0f7a4_9 : decode cJ6_bitCount_0f7a4 9 = .ok (.istore_n 0, 1) := by decide +kernel
theorem dJ6_bitCount_0f7a4_10 : decode cJ6_bitCount_0f7a4 10 = .ok (.iload_n 0, 1) := by decide +kernel
theorem dJ6_bitCount_0f7a4_11 : decode cJ6_bitCount_0f7a4 11 = .ok (.ldc_w 266, 3) := by decide +kernel
theorem dJ6_bitCount_0f7a4_14 : decode cJ6_bitCount_0f7a4 14 = .ok (.iand, 1) := by decide +kernel
theorem dJ6_bitCount_0f7a4_15 : decode cJ6_bitCount_0f7a4 15 = .ok (.iload_n 0, 1) := by decide +kernel
theorem dJ6_bitCount_0f7a4_16 : decode cJ6_bitCount_0f7a4 16 = .ok (.iconst 2, 1) := by decide +kernel
theorem dJ6_bitCount_0f7a4_17 : decode cJ6_bitCount_0f7a4 17 = .ok (.iushr, 1) := by decide +kernel
theorem dJ6_bitCount_0f7a4_18 : decode cJ6_bitCount_0f7a4 18 = .ok (.ldc_w 266, 3) := by decide +kernel
theorem dJ6_bitCount_0f7a4_21 : decode cJ6_bitCount_0f7a4 21 = .ok (.iand, 1) := by decide +kernel
theorem dJ6_bitCount_0f7a4_22 : decode cJ6_bitCount_0f7a4 22 = .ok (.iadd, 1) := by decide +kernel
theorem dJ6_bitCount_0f7a4_23 : decode cJ6_bitCount_0f7a4 23 = .ok (.istore_n 0, 1) := by decide +kernel
theorem dJ6_bitCount_0f7a4_24 : decode cJ6_bitCount_0f7a4 24 = .ok (.iload_n 0, 1) := by decide +kernel
theorem dJ6_bitCount_0f7a4_25 : decode cJ6_bitCount_0f7a4 25 = .ok (.iload_n 0, 1) := by decide +kernel
theorem dJ6_bitCount_0f7a4_26 : decode cJ6_bitCount_0f7a4 26 = .ok (.iconst 4, 1) := by decide +kernel
theorem dJ6_bitCount_0f7a4_27 : decode cJ6_bitCount_0f7a4 27 = .ok (.iushr, 1) := by decide +kernel
theorem dJ6_bitCount_0f7a4_28 : decode cJ6_bitCount_0f7a4 28 = .ok (.iadd, 1) := by decide +kernel
theorem dJ6_bitCount_0f7a4_29 : decode cJ6_bitCount_0f7a4 29 = .ok (.ldc_w 267, 3) := by decide +kernel
theorem dJ6_bitCount_0f7a4_32 : decode cJ6_bitCount_0f7a4 32 = .ok (.iand, 1) := by decide +kernel
theorem dJ6_bitCount_0f7a4_33 : decode cJ6_bitCount_0f7a4 33 = .ok (.istore_n 0, 1) := by decide +kernel
theorem dJ6_bitCount_0f7a4_34 : decode cJ6_bitCount_0f7a4 34 = .ok (.iload_n 0, 1) := by decide +kernel
theorem dJ6_bitCount_0f7a4_35 : decode cJ6_bitCount_0f7a4 35 = .ok (.iload_n 0, 1) := by decide +kernel
theorem dJ6_bitCount_0f7a4_36 : decode cJ6_bitCount_0f7a4 36 = .ok (.bipush 8, 2) := by decide +kernel
theorem dJ6_bitCount_0f7a4_38 : decode cJ6_bitCount_0f7a4 38 = .ok (.iushr, 1) := by decide +kernel
theorem dJ6_bitCount_0f7a4_39 : decode cJ6_bitCount_0f7a4 39 = .ok (.iadd, 1) := by decide +kernel
theorem dJ6_bitCount_0f7a4_40 : decode cJ6_bitCount_0f7a4 40 = .ok (.istore_n 0, 1) := by decide +kernel
theorem dJ6_bitCount_0f7a4_41 : decode cJ6_bitCount_0f7a4 41 = .ok (.iload_n 0, 1) := by decide +kernel
theorem dJ6_bitCount_0f7a4_42 : decode cJ6_bitCount_0f7a4 42 = .ok (.iload_n 0, 1) := by decide +kernel
theorem dJ6_bitCount_0f7a4_43 : decode cJ6_bitCount_0f7a4 43 = .ok (.bipush 16, 2) := by decide +kernel
theorem dJ6_bitCount_0f7a4_45 : decode cJ6_bitCount_0f7a4 45 = .ok (.iushr, 1) := by decide +kernel
theorem dJ6_bitCount_0f7a4_46 : decode cJ6_bitCount_0f7a4 46 = .ok (.iadd, 1) := by decide +kernel
theorem dJ6_bitCount_0f7a4_47 : decode cJ6_bitCount_0f7a4 47 = .ok (.istore_n 0, 1) := by decide +kernel
theorem dJ6_bitCount_0f7a4_48 : decode cJ6_bitCount_0f7a4 48 = .ok (.iload_n 0, 1) := by decide +kernel
theorem dJ6_bitCount_0f7a4_49 : decode cJ6_bitCount_0f7a4 49 = .ok (.bipush 63, 2) := by decide +kernel
theorem dJ6_bitCount_0f7a4_51 : decode cJ6_bitCount_0f7a4 51 = .ok (.iand, 1) := by decide +kernel
theorem dJ6_bitCount_0f7a4_52 : decode cJ6_bitCount_0f7a4 52 = .ok (.ireturn, 1) := by decide +kernel
set_option maxRecDepth 20000 in
theorem ggJ13_numberOfTrailingZeros_95d88_J6_numberOfTrailingZeros_0f7a4 : GoodIn wsJ13_numberOfTrailingZeros_95d88 wsJ6_numberOfTrailingZeros_0f7a4 := goodIn_r _ [4, 5] (by decide +kernel) (by decide +kernel)
set_option maxRecDepth 20000 in
theorem gJ13_numberOfTrailingZeros_95d88_J6_numberOfTrailingZeros_0f7a4 : GoodIn wsJ13_numberOfTrailingZeros_95d88 (va_wsS RJ13 311 yJ6_numberOfTrailingZeros_0f7a4 wsJ6_numberOfTrailingZeros_0f7a4) := goodIn_app (goodIn_of _ (by decide +kernel)) ggJ13_numberOfTrailingZeros_95d88_J6_numberOfTrailingZeros_0f7a4
theorem dJ13_numberOfTrailingZeros_95d88_0 : decode cJ13_numberOfTrailingZeros_95d88 0 = .ok (.lload_n 0, 1) := by decide +kernel
theorem dJ13_numberOfTrailingZeros_95d88_1 : decode cJ13_numberOfTrailingZeros_95d88 1 = .ok (.l2i, 1) := by decide +kernel
theorem dJ13_numberOfTrailingZeros_95d88_2 : decode cJ13_numberOfTrailingZeros_95d88 2 = .ok (.istore_n 2, 1) := by decide +kernel
theorem dJ13_numberOfTrailingZeros_95d88_3 : decode cJ13_numberOfTrailingZeros_95d88 3 = .ok (.iload_n 2, 1) := by decide +kernel
theorem dJ13_numberOfTrailingZeros_95d88_4 : decode cJ13_numberOfTrailingZeros_95d88 4 = .ok (.ifCond .ne 17, 3) := by decide +kernel
theorem dJ13_numberOfTrailingZeros_95d88_7 : decode cJ13_numberOfTrailingZeros_95d88 7 = .ok (.bipush 32, 2) := by decide +kernel
theorem dJ13_numberOfTrailingZeros_95d88_9 : decode cJ13_numberOfTrailingZeros_95d88 9 = .ok (.lload_n 0, 1) := by decide +kernel
theorem dJ13_numberOfTrailingZeros_95d88_10 : decode cJ13_numberOfTrailingZeros_95d88 10 = .ok (.bipush 32, 2) := by decide +kernel
theorem dJ13_numberOfTrailingZeros_95d88_12 : decode cJ13_numberOfTrailingZeros_95d88 12 = .ok (.lushr, 1) := by decide +kernel
theorem dJ13_numberOfTrailingZeros_95d88_13 : decode cJ13_numberOfTrailingZeros_95d88 13 = .ok (.l2i, 1) := by decide +kernel
theorem dJ13_numberOfTrailingZeros_95d88_14 : decode cJ13_numberOfTrailingZeros_95d88 14 = .ok (.invokestatic 311, 3) := by decide +kernel
theorem dJ13_numberOfTrailingZeros_95d88_17 : decode cJ13_numberOfTrailingZeros_95d88 17 = .ok (.iadd, 1) := by decide +kernel
theorem dJ13_numberOfTrailingZeros_95d88_18 : decode cJ13_numberOfTrailingZeros_95d88 18 = .ok (.goto 7, 3) := by decide +kernel
theorem dJ13_numberOfTrailingZeros_95d88_21 : decode cJ13_numberOfTrailingZeros_95d88 21 = .ok (.iload_n 2, 1) := by decide +kernel
theorem dJ13_numberOfTrailingZeros_95d88_22 : decode cJ13_numberOfTrailingZeros_95d88 22 = .ok (.invokestatic 311, 3) := by decide +kernel
theorem dJ13_numberOfTrailingZeros_95d88_25 : decode cJ13_numberOfTrailingZeros_95d88 25 = .ok (.ireturn, 1) := by decide +kernel
theorem dJ13_bitCount_95d88_0 : decode cJ13_bitCount_95d88 0 = .ok (.lload_n 0, 1) := by decide +kernel
theorem dJ13_bitCount_95d88_1 : decode cJ13_bitCount_95d88 1 = .ok (.lload_n 0, 1) := by decide +kernel
theorem dJ13_bitCount_95d88_2 : decode cJ13_bitCount_95d88 2 = .ok (.iconst 1, 1) := by decide +kernel
theorem dJ13_bitCount_95d88_3 : decode cJ13_bitCount_95d88 3 = .ok (.lushr, 1) := by decide +kernel
theorem dJ13_bitCount_95d88_4 : decode cJ13_bitCount_95d88 4 = .ok (.ldc2_w 314, 3) := by decide +kernel
theorem dJ13_bitCount_95d88_7 : decode cJ13_bitCount_95d88 7 = .ok (.land, 1) := by decide +kernel
theorem dJ13_bitCount_95d88_8 : decode cJ13_bitCount_95d88 8 = .ok (.lsub, 1) := by decide +kernel
theorem dJ13_bitCount_95d88_9 : decode cJ13_bitCount_95d88 9 = .ok (.lstore_n 0, 1) := by decide +kernel
theorem dJ13_bitCount_95d88_10 : decode cJ13_bitCount_95d88 10 = .ok (.lload_n 0, 1) := by decide +kernel
theorem dJ13_bitCount_95d88_11 : decode cJ13_bitCount_95d88 11 = .ok (.ldc2_w 316, 3) := by decide +kernel
theorem dJ13_bitCount_95d88_14 : decode cJ13_bitCount_95d88 14 = .ok (.land, 1) := by decide +kernel
theorem dJ13_bitCount_95d88_15 : decode cJ13_bitCount_95d88 15 = .ok (.lload_n 0, 1) := by decide +kernel
theorem dJ13_bitCount_95d88_16 : decode cJ13_bitCount_95d88 16 = .ok (.iconst 2, 1) := by decide +kernel
theorem dJ13_bitCount_95d88_17 : decode cJ13_bitCount_95d88 17 = .ok (.lushr, 1) := by decide +kernel
theorem dJ13_bitCount_95d88_18 : decode cJ13_bitCount_95d88 18 = .ok (.ldc2_w 316, 3) := by decide +kernel
theorem dJ13_bitCount_95d88_21 : decode cJ13_bitCount_95d88 21 = .ok (.land, 1) := by decide +kernel
theorem dJ13_bitCount_95d88_22 : decode cJ13_bitCount_95d88 22 = .ok (.ladd, 1) := by decide +kernel
theorem dJ13_bitCount_95d88_23 : decode cJ13_bitCount_95d88 23 = .ok (.lstore_n 0, 1) := by decide +kernel
theorem dJ13_bitCount_95d88_24 : decode cJ13_bitCount_95d88 24 = .ok (.lload_n 0, 1) := by decide +kernel
theorem dJ13_bitCount_95d88_25 : decode cJ13_bitCount_95d88 25 = .ok (.lload_n 0, 1) := by decide +kernel
theorem dJ13_bitCount_95d88_26 : decode cJ13_bitCount_95d88 26 = .ok (.iconst 4, 1) := by decide +kernel
theorem dJ13_bitCount_95d88_27 : decode cJ13_bitCount_95d88 27 = .ok (.lushr, 1) := by decide +kernel
theorem dJ13_bitCount_95d88_28 : decode cJ13_bitCount_95d88 28 = .ok (.ladd, 1) := by decide +kernel
theorem dJ13_bitCount_95d88_29 : decode cJ13_bitCount_95d88 29 = .ok (.ldc2_w 318, 3) := by decide +kernel
theorem dJ13_bitCount_95d88_32 : decode cJ13_bitCount_95d88 32 = .ok (.land, 1) := by decide +kernel
theorem dJ13_bitCount_95d88_33 : decode cJ13_bitCount_95d88 33 = .ok (.lstore_n 0, 1) := by decide +kernel
theorem dJ13_bitCount_95d88_34 : decode cJ13_bitCount_95d88 34 = .ok (.lload_n 0, 1) := by decide +kernel
theorem dJ13_bitCount_95d88_35 : decode cJ13_bitCount_95d88 35 = .ok (.lload_n 0, 1) := by decide +kernel
theorem dJ13_bitCount_95d88_36 : decode cJ13_bitCount_95d88 36 = .ok (.bipush 8, 2) := by decide +kernel
theorem dJ13_bitCount_95d88_38 : decode cJ13_bitCount_95d88 38 = .ok (.lushr, 1) := by decide +kernel
theorem dJ13_bitCount_95d88_39 : decode cJ13_bitCount_95d88 39 = .ok (.ladd, 1) := by decide +kernel
theorem dJ13_bitCount_95d88_40 : decode cJ13_bitCount_95d88 40 = .ok (.lstore_n 0, 1) := by decide +kernel
theorem dJ13_bitCount_95d88_41 : decode cJ13_bitCount_95d88 41 = .ok (.lload_n 0, 1) := by decide +kernel
theorem dJ13_bitCount_95d88_42 : decode cJ13_bitCount_95d88 42 = .ok (.lload_n 0, 1) := by decide +kernel
theorem dJ13_bitCount_95d88_43 : decode cJ13_bitCount_95d88 43 = .ok (.bipush 16, 2) := by decide +kernel
theorem dJ13_bitCount_95d88_45 : decode cJ13_bitCount_95d88 45 = .ok (.lushr, 1) := by decide +kernel
theorem dJ13_bitCount_95d88_46 : decode cJ13_bitCount_95d88 46 = .ok (.ladd, 1) := by decide +kernel
theorem dJ13_bitCount_95d88_47 : decode cJ13_bitCount_95d88 47 = .ok (.lstore_n 0, 1) := by decide +kernel
theorem dJ13_bitCount_95d88_48 : decode cJ13_bitCount_95d88 48 = .ok (.lload_n 0, 1) := by decide +kernel
theorem dJ13_bitCount_95d88_49 : decode cJ13_bitCount_95d88 49 = .ok (.lload_n 0, 1) := by decide +kernel
theorem dJ13_bitCount_95d88_50 : decode cJ13_bitCount_95d88 50 = .ok (.bipush 32, 2) := by decide +kernel
theorem dJ13_bitCount_95d88_52 : decode cJ13_bitCount_95d88 52 = .ok (.lushr, 1) := by decide +kernel
theorem dJ13_bitCount_95d88_53 : decode cJ13_bitCount_95d88 53 = .ok (.ladd, 1) := by decide +kernel
theorem dJ13_bitCount_95d88_54 : decode cJ13_bitCount_95d88 54 = .ok (.lstore_n 0, 1) := by decide +kernel
theorem dJ13_bitCount_95d88_55 : decode cJ13_bitCount_95d88 55 = .ok (.lload_n 0, 1) := by decide +kernel
theorem dJ13_bitCount_95d88_56 : decode cJ13_bitCount_95d88 56 = .ok (.l2i, 1) := by decide +kernel
theorem dJ13_bitCount_95d88_57 : decode cJ13_bitCount_95d88 57 = .ok (.bipush 127, 2) := by decide +kernel
theorem dJ13_bitCount_95d88_59 : decode cJ13_bitCount_95d88 59 = .ok (.iand, 1) := by decide +kernel
theorem dJ13_bitCount_95d88_60 : decode cJ13_bitCount_95d88 60 = .ok (.ireturn, 1) := by decide +kernel
theorem dJ9_min_7cf53_0 : decode cJ9_min_7cf53 0 = .ok (.iload_n 0, 1) := by decide +kernel
theorem dJ9_min_7cf53_1 : decode cJ9_min_7cf53 1 = .ok (.iload_n 1, 1) := by decide +kernel
theorem dJ9_min_7cf53_2 : decode cJ9_min_7cf53 2 = .ok (.if_icmp .gt 7, 3) := by decide +kernel
theorem dJ9_min_7cf53_5 : decode cJ9_min_7cf53 5 = .ok (.iload_n 0, 1) := by decide +kernel
theorem dJ9_min_7cf53_6 : decode cJ9_min_7cf53 6 = .ok (.goto 4, 3) := by decide +kernel
theorem dJ9_min_7cf53_9 : decode cJ9_min_7cf53 9 = .ok (.iload_n 1, 1) := by decide +kernel
theorem dJ9_min_7cf53_10 : decode cJ9_min_7cf53 10 = .ok (.ireturn, 1) := by decide +kernel
