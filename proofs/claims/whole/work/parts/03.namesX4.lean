set_option maxRecDepth 20000 in
theorem ggX4_init_X0_init : GoodIn wsX4_init wsX0_init := goodIn_r _ [22, 23, 2, 3, 24, 25, 26, 27, 28, 29, 30, 31, 32, 33, 34, 35, 53, 54, 55, 56, 57, 58, 75, 76, 77, 78, 79, 80, 81, 82] (by decide +kernel) (by decide +kernel)
set_option maxRecDepth 20000 in
theorem gX4_init_X0_init_n9 : GoodIn wsX4_init (wsX0_init) := ggX4_init_X0_init
set_option maxRecDepth 20000 in
theorem ggX4_init_X2_init : GoodIn wsX4_init wsX2_init := goodIn_r _ [37, 38, 2, 3, 39, 40, 41, 42, 43, 44, 45, 66, 67, 68, 69, 70, 71] (by decide +kernel) (by decide +kernel)
set_option maxRecDepth 20000 in
theorem gX4_init_X2_init_n28 : GoodIn wsX4_init (wsX2_init) := ggX4_init_X2_init
set_option maxRecDepth 20000 in
theorem ggX4_init_X1_init : GoodIn wsX4_init wsX1_init := goodIn_r _ [47, 48, 2, 3, 49, 50, 51, 52, 72, 73, 74] (by decide +kernel) (by decide +kernel)
set_option maxRecDepth 20000 in
theorem gX4_init_X1_init_n43 : GoodIn wsX4_init (wsX1_init) := ggX4_init_X1_init
theorem dX4_init_0 : decode cX4_init 0 = .ok (.aload_n 0, 1) := by decide +kernel
theorem dX4_init_1 : decode cX4_init 1 = .ok (.invokespecial 1, 3) := by decide +kernel
theorem dX4_init_4 : decode cX4_init 4 = .ok (.aload_n 0, 1) := by decide +kernel
theorem dX4_init_5 : decode cX4_init 5 = .ok (.new 7, 3) := by decide +kernel
theorem dX4_init_8 : decode cX4_init 8 = .ok (.dup, 1) := by decide +kernel
theorem dX4_init_9 : decode cX4_init 9 = .ok (.invokespecial 9, 3) := by decide +kernel
theorem dX4_init_12 : decode cX4_init 12 = .ok (.putfield 10, 3) := by decide +kernel
theorem dX4_init_15 : decode cX4_init 15 = .ok (.aload_n 0, 1) := by decide +kernel
theorem dX4_init_16 : decode cX4_init 16 = .ok (.new 7, 3) := by decide +kernel
theorem dX4_init_19 : decode cX4_init 19 = .ok (.dup, 1) := by decide +kernel
theorem dX4_init_20 : decode cX4_init 20 = .ok (.invokespecial 9, 3) := by decide +kernel
theorem dX4_init_23 : decode cX4_init 23 = .ok (.putfield 16, 3) := by decide +kernel
theorem dX4_init_26 : decode cX4_init 26 = .ok (.aload_n 0, 1) := by decide +kernel
theorem dX4_init_27 : decode cX4_init 27 = .ok (.new 7, 3) := by decide +kernel
theorem dX4_init_30 : decode cX4_init 30 = .ok (.dup, 1) := by decide +kernel
theorem dX4_init_31 : decode cX4_init 31 = .ok (.invokespecial 9, 3) := by decide +kernel
theorem dX4_init_34 : decode cX4_init 34 = .ok (.putfield 19, 3) := by decide +kernel
theorem dX4_init_37 : decode cX4_init 37 = .ok (.aload_n 0, 1) := by decide +kernel
theorem dX4_init_38 : decode cX4_init 38 = .ok (.iconst 0, 1) := by decide +kernel
theorem dX4_init_39 : decode cX4_init 39 = .ok (.putfield 22, 3) := by decide +kernel
theorem dX4_init_42 : decode cX4_init 42 = .ok (.aload_n 0, 1) := by decide +kernel
theorem dX4_init_43 : decode cX4_init 43 = .ok (.new 26, 3) := by decide +kernel
theorem dX4_init_46 : decode cX4_init 46 = .ok (.dup, 1) := by decide +kernel
theorem dX4_init_47 : decode cX4_init 47 = .ok (.invokespecial 28, 3) := by decide +kernel
theorem dX4_init_50 : decode cX4_init 50 = .ok (.putfield 29, 3) := by decide +kernel
theorem dX4_init_53 : decode cX4_init 53 = .ok (.aload_n 0, 1) := by decide +kernel
theorem dX4_init_54 : decode cX4_init 54 = .ok (.iconst 4, 1) := by decide +kernel
theorem dX4_init_55 : decode cX4_init 55 = .ok (.anewarray 33, 3) := by decide +kernel
theorem dX4_init_58 : decode cX4_init 58 = .ok (.putfield 35, 3) := by decide +kernel
theorem dX4_init_61 : decode cX4_init 61 = .ok (.aload_n 0, 1) := by decide +kernel
theorem dX4_init_62 : decode cX4_init 62 = .ok (.bipush 7, 2) := by decide +kernel
theorem dX4_init_64 : decode cX4_init 64 = .ok (.newarray .int, 2) := by decide +kernel
theorem dX4_init_66 : decode cX4_init 66 = .ok (.putfield 39, 3) := by decide +kernel
theorem dX4_init_69 : decode cX4_init 69 = .ok (.iconst 0, 1) := by decide +kernel
theorem dX4_init_70 : decode cX4_init 70 = .ok (.istore_n 1, 1) := by decide +kernel
theorem dX4_init_71 : decode cX4_init 71 = .ok (.iload_n 1, 1) := by decide +kernel
theorem dX4_init_72 : decode cX4_init 72 = .ok (.iconst 4, 1) := by decide +kernel
theorem dX4_init_73 : decode cX4_init 73 = .ok (.if_icmp .ge 22, 3) := by decide +kernel
theorem dX4_init_76 : decode cX4_init 76 = .ok (.aload_n 0, 1) := by decide +kernel
theorem dX4_init_77 : decode cX4_init 77 = .ok (.getfield 35, 3) := by decide +kernel
theorem dX4_init_80 : decode cX4_init 80 = .ok (.iload_n 1, 1) := by decide +kernel
theorem dX4_init_81 : decode cX4_init 81 = .ok (.new 33, 3) := by decide +kernel
theorem dX4_init_84 : decode cX4_init 84 = .ok (.dup, 1) := by decide +kernel
theorem dX4_init_85 : decode cX4_init 85 = .ok (.invokespecial 43, 3) := by decide +kernel
theorem dX4_init_88 : decode cX4_init 88 = .ok (.aastore, 1) := by decide +kernel
theorem dX4_init_89 : decode cX4_init 89 = .ok (.iinc 1 1, 3) := by decide +kernel
theorem dX4_init_92 : decode cX4_init 92 = .ok (.goto (-21), 3) := by decide +kernel
theorem dX4_init_95 : decode cX4_init 95 = .ok (.return_, 1) := by decide +kernel
set_option maxRecDepth 20000 in
theorem ggX4_road_X4_within : GoodIn wsX4_road wsX4_within := goodIn_r _ [5] (by decide +kernel) (by decide +kernel)
set_option maxRecDepth 20000 in
theorem gX4_road_X4_within : GoodIn wsX4_road (va_wsS RX4 44 yX4_within wsX4_within) := goodIn_app (goodIn_of _ (by decide +kernel)) ggX4_road_X4_within
set_option maxRecDepth 20000 in
theorem ggX4_road_X4_mostOfRoad : GoodIn wsX4_road wsX4_mostOfRoad := goodIn_r _ [8, 9] (by decide +kernel) (by decide +kernel)
set_option maxRecDepth 20000 in
theorem gX4_road_X4_mostOfRoad : GoodIn wsX4_road (va_wsS RX4 48 yX4_mostOfRoad wsX4_mostOfRoad) := goodIn_app (goodIn_of _ (by decide +kernel)) ggX4_road_X4_mostOfRoad
set_option maxRecDepth 20000 in
theorem ggX4_road_X4_finding : GoodIn wsX4_road wsX4_finding := goodIn_r _ [13, 14, 15, 16, 17, 18, 19, 20, 21, 22] (by decide +kernel) (by decide +kernel)
set_option maxRecDepth 20000 in
theorem gX4_road_X4_finding : GoodIn wsX4_road (wsV RX4 52 RX4 yX4_finding wsX4_finding) := goodIn_app (goodIn_of _ (by decide +kernel)) ggX4_road_X4_finding
theorem dX4_road_0 : decode cX4_road 0 = .ok (.iload_n 1, 1) := by decide +kernel
theorem dX4_road_1 : decode cX4_road 1 = .ok (.iconst 0, 1) := by decide +kernel
theorem dX4_road_2 : decode cX4_road 2 = .ok (.iconst 2, 1) := by decide +kernel
theorem dX4_road_3 : decode cX4_road 3 = .ok (.invokestatic 44, 3) := by decide +kernel
theorem dX4_road_6 : decode cX4_road 6 = .ok (.ifCond .eq 15, 3) := by decide +kernel
theorem dX4_road_9 : decode cX4_road 9 = .ok (.iload_n 2, 1) := by decide +kernel
theorem dX4_road_10 : decode cX4_road 10 = .ok (.iconst 0, 1) := by decide +kernel
theorem dX4_road_11 : decode cX4_road 11 = .ok (.iload_n 1, 1) := by decide +kernel
theorem dX4_road_12 : decode cX4_road 12 = .ok (.invokestatic 48, 3) := by decide +kernel
theorem dX4_road_15 : decode cX4_road 15 = .ok (.invokestatic 44, 3) := by decide +kernel
theorem dX4_road_18 : decode cX4_road 18 = .ok (.ifCond .ne 9, 3) := by decide +kernel
theorem dX4_road_21 : decode cX4_road 21 = .ok (.aload_n 0, 1) := by decide +kernel
theorem dX4_road_22 : decode cX4_road 22 = .ok (.iconst 0, 1) := by decide +kernel
theorem dX4_road_23 : decode cX4_road 23 = .ok (.invokevirtual 52, 3) := by decide +kernel
theorem dX4_road_26 : decode cX4_road 26 = .ok (.ireturn, 1) := by decide +kernel
theorem dX4_road_27 : decode cX4_road 27 = .ok (.iload_n 1, 1) := by decide +kernel
theorem dX4_road_28 : decode cX4_road 28 = .ok (.ifCond .ne 22, 3) := by decide +kernel
theorem dX4_road_31 : decode cX4_road 31 = .ok (.aload_n 0, 1) := by decide +kernel
theorem dX4_road_32 : decode cX4_road 32 = .ok (.getfield 10, 3) := by decide +kernel
theorem dX4_road_35 : decode cX4_road 35 = .ok (.getfield 55, 3) := by decide +kernel
theorem dX4_road_38 : decode cX4_road 38 = .ok (.istore_n 3, 1) := by decide +kernel
theorem dX4_road_39 : decode cX4_road 39 = .ok (.aload_n 0, 1) := by decide +kernel
theorem dX4_road_40 : decode cX4_road 40 = .ok (.getfield 10, 3) := by decide +kernel
theorem dX4_road_43 : decode cX4_road 43 = .ok (.iload_n 2, 1) := by decide +kernel
theorem dX4_road_44 : decode cX4_road 44 = .ok (.putfield 55, 3) := by decide +kernel
theorem dX4_road_47 : decode cX4_road 47 = .ok (.goto 43, 3) := by decide +kernel
theorem dX4_road_50 : decode cX4_road 50 = .ok (.iload_n 1, 1) := by decide +kernel
theorem dX4_road_51 : decode cX4_road 51 = .ok (.iconst 1, 1) := by decide +kernel
theorem dX4_road_52 : decode cX4_road 52 = .ok (.if_icmp .ne 22, 3) := by decide +kernel
theorem dX4_road_55 : decode cX4_road 55 = .ok (.aload_n 0, 1) := by decide +kernel
theorem dX4_road_56 : decode cX4_road 56 = .ok (.getfield 10, 3) := by decide +kernel
theorem dX4_road_59 : decode cX4_road 59 = .ok (.getfield 59, 3) := by decide +kernel
theorem dX4_road_62 : decode cX4_road 62 = .ok (.istore_n 3, 1) := by decide +kernel
theorem dX4_road_63 : decode cX4_road 63 = .ok (.aload_n 0, 1) := by decide +kernel
theorem dX4_road_64 : decode cX4_road 64 = .ok (.getfield 10, 3) := by decide +kernel
theorem dX4_road_67 : decode cX4_road 67 = .ok (.iload_n 2, 1) := by decide +kernel
theorem dX4_road_68 : decode cX4_road 68 = .ok (.putfield 59, 3) := by decide +kernel
theorem dX4_road_71 : decode cX4_road 71 = .ok (.goto 19, 3) := by decide +kernel
theorem dX4_road_74 : decode cX4_road 74 = .ok (.aload_n 0, 1) := by decide +kernel
theorem dX4_road_75 : decode cX4_road 75 = .ok (.getfield 10, 3) := by decide +kernel
theorem dX4_road_78 : decode cX4_road 78 = .ok (.getfield 62, 3) := by decide +kernel
theorem dX4_road_81 : decode cX4_road 81 = .ok (.istore_n 3, 1) := by decide +kernel
theorem dX4_road_82 : decode cX4_road 82 = .ok (.aload_n 0, 1) := by decide +kernel
theorem dX4_road_83 : decode cX4_road 83 = .ok (.getfield 10, 3) := by decide +kernel
theorem dX4_road_86 : decode cX4_road 86 = .ok (.iload_n 2, 1) := by decide +kernel
theorem dX4_road_87 : decode cX4_road 87 = .ok (.putfield 62, 3) := by decide +kernel
theorem dX4_road_90 : decode cX4_road 90 = .ok (.iload_n 3, 1) := by decide +kernel
theorem dX4_road_91 : decode cX4_road 91 = .ok (.ireturn, 1) := by decide +kernel
set_option maxRecDepth 20000 in
theorem ggX4_at_X4_within : GoodIn wsX4_at wsX4_within := goodIn_r _ [5] (by decide +kernel) (by decide +kernel)
set_option maxRecDepth 20000 in
theorem gX4_at_X4_within : GoodIn wsX4_at (va_wsS RX4 44 yX4_within wsX4_within) := goodIn_app (goodIn_of _ (by decide +kernel)) ggX4_at_X4_within
set_option maxRecDepth 20000 in
theorem ggX4_at_X4_finding : GoodIn wsX4_at wsX4_finding := goodIn_r _ [9, 10, 11, 12, 13, 14, 15, 16, 17, 18] (by decide +kernel) (by decide +kernel)
set_option maxRecDepth 20000 in
theorem gX4_at_X4_finding : GoodIn wsX4_at (wsV RX4 52 RX4 yX4_finding wsX4_finding) := goodIn_app (goodIn_of _ (by decide +kernel)) ggX4_at_X4_finding
theorem dX4_at_0 : decode cX4_at 0 = .ok (.iload_n 1, 1) := by decide +kernel
theorem dX4_at_1 : decode cX4_at 1 = .ok (.iconst 0, 1) := by decide +kernel
theorem dX4_at_2 : decode cX4_at 2 = .ok (.bipush 12, 2) := by decide +kernel
theorem dX4_at_4 : decode cX4_at 4 = .ok (.invokestatic 44, 3) := by decide +kernel
theorem dX4_at_7 : decode cX4_at 7 = .ok (.ifCond .ne 9, 3) := by decide +kernel
theorem dX4_at_10 : decode cX4_at 10 = .ok (.aload_n 0, 1) := by decide +kernel
theorem dX4_at_11 : decode cX4_at 11 = .ok (.iconst 0, 1) := by decide +kernel
theorem dX4_at_12 : decode cX4_at 12 = .ok (.invokevirtual 52, 3) := by decide +kernel
theorem dX4_at_15 : decode cX4_at 15 = .ok (.ireturn, 1) := by decide +kernel
theorem dX4_at_16 : decode cX4_at 16 = .ok (.iconst 0, 1) := by decide +kernel
theorem dX4_at_17 : decode cX4_at 17 = .ok (.istore_n 2, 1) := by decide +kernel
theorem dX4_at_18 : decode cX4_at 18 = .ok (.iconst 0, 1) := by decide +kernel
theorem dX4_at_19 : decode cX4_at 19 = .ok (.istore_n 3, 1) := by decide +kernel
theorem dX4_at_20 : decode cX4_at 20 = .ok (.iload_n 3, 1) := by decide +kernel
theorem dX4_at_21 : decode cX4_at 21 = .ok (.aload_n 0, 1) := by decide +kernel
theorem dX4_at_22 : decode cX4_at 22 = .ok (.getfield 10, 3) := by decide +kernel
theorem dX4_at_25 : decode cX4_at 25 = .ok (.getfield 65, 3) := by decide +kernel
theorem dX4_at_28 : decode cX4_at 28 = .ok (.if_icmp .ge 31, 3) := by decide +kernel
theorem dX4_at_31 : decode cX4_at 31 = .ok (.aload_n 0, 1) := by decide +kernel
theorem dX4_at_32 : decode cX4_at 32 = .ok (.getfield 10, 3) := by decide +kernel
theorem dX4_at_35 : decode cX4_at 35 = .ok (.getfield 68, 3) := by decide +kernel
theorem dX4_at_38 : decode cX4_at 38 = .ok (.iload_n 3, 1) := by decide +kernel
theorem dX4_at_39 : decode cX4_at 39 = .ok (.aaload, 1) := by decide +kernel
theorem dX4_at_40 : decode cX4_at 40 = .ok (.getfield 72, 3) := by decide +kernel
theorem dX4_at_43 : decode cX4_at 43 = .ok (.iload_n 1, 1) := by decide +kernel
theorem dX4_at_44 : decode cX4_at 44 = .ok (.if_icmp .ne 9, 3) := by decide +kernel
theorem dX4_at_47 : decode cX4_at 47 = .ok (.iload_n 2, 1) := by decide +kernel
theorem dX4_at_48 : decode cX4_at 48 = .ok (.iconst 1, 1) := by decide +kernel
theorem dX4_at_49 : decode cX4_at 49 = .ok (.iload_n 3, 1) := by decide +kernel
theorem dX4_at_50 : decode cX4_at 50 = .ok (.ishl, 1) := by decide +kernel
theorem dX4_at_51 : decode cX4_at 51 = .ok (.ior, 1) := by decide +kernel
theorem dX4_at_52 : decode cX4_at 52 = .ok (.istore_n 2, 1) := by decide +kernel
theorem dX4_at_53 : decode cX4_at 53 = .ok (.iinc 3 1, 3) := by decide +kernel
theorem dX4_at_56 : decode cX4_at 56 = .ok (.goto (-36), 3) := by decide +kernel
theorem dX4_at_59 : decode cX4_at 59 = .ok (.iload_n 2, 1) := by decide +kernel
theorem dX4_at_60 : decode cX4_at 60 = .ok (.ireturn, 1) := by decide +kernel
set_option maxRecDepth 20000 in
theorem ggX4_walker_X4_within : GoodIn wsX4_walker wsX4_within := goodIn_r _ [5] (by decide +kernel) (by decide +kernel)
set_option maxRecDepth 20000 in
theorem gX4_walker_X4_within : GoodIn wsX4_walker (va_wsS RX4 44 yX4_within wsX4_within) := goodIn_app (goodIn_of _ (by decide +kernel)) ggX4_walker_X4_within
set_option maxRecDepth 20000 in
theorem ggX4_walker_X4_finding : GoodIn wsX4_walker wsX4_finding := goodIn_r _ [9, 10, 11, 33, 34, 35, 36, 37, 38, 39] (by decide +kernel) (by decide +kernel)
set_option maxRecDepth 20000 in
theorem gX4_walker_X4_finding : GoodIn wsX4_walker (wsV RX4 52 RX4 yX4_finding wsX4_finding) := goodIn_app (goodIn_of _ (by decide +kernel)) ggX4_walker_X4_finding
set_option maxRecDepth 20000 in
theorem ggX4_walker_X0_isFull : GoodIn wsX4_walker wsX0_isFull := goodIn_r _ [15, 16, 40, 41, 42, 43, 44, 45] (by decide +kernel) (by decide +kernel)
set_option maxRecDepth 20000 in
theorem gX4_walker_X0_isFull_n77 : GoodIn wsX4_walker (wsX0_isFull) := ggX4_walker_X0_isFull
set_option maxRecDepth 20000 in
theorem ggX4_walker_X0_join : GoodIn wsX4_walker wsX0_join := goodIn_r _ [19, 20, 16, 21, 22, 23, 24, 25, 26, 27, 28, 29, 30, 31, 32, 40, 41, 42, 43, 44, 45, 46, 47, 48, 49, 50, 51, 52, 53] (by decide +kernel) (by decide +kernel)
set_option maxRecDepth 20000 in
theorem gX4_walker_X0_join_n81 : GoodIn wsX4_walker (wsX0_join) := ggX4_walker_X0_join
theorem dX4_walker_0 : decode cX4_walker 0 = .ok (.iload_n 1, 1) := by decide +kernel
theorem dX4_walker_1 : decode cX4_walker 1 = .ok (.iconst 0, 1) := by decide +kernel
theorem dX4_walker_2 : decode cX4_walker 2 = .ok (.iconst 5, 1) := by decide +kernel
theorem dX4_walker_3 : decode cX4_walker 3 = .ok (.invokestatic 44, 3) := by decide +kernel
theorem dX4_walker_6 : decode cX4_walker 6 = .ok (.ifCond .eq 13, 3) := by decide +kernel
theorem dX4_walker_9 : decode cX4_walker 9 = .ok (.iload_n 2, 1) := by decide +kernel
theorem dX4_walker_10 : decode cX4_walker 10 = .ok (.iconst 0, 1) := by decide +kernel
theorem dX4_walker_11 : decode cX4_walker 11 = .ok (.bipush 12, 2) := by decide +kernel
theorem dX4_walker_13 : decode cX4_walker 13 = .ok (.invokestatic 44, 3) := by decide +kernel
theorem dX4_walker_16 : decode cX4_walker 16 = .ok (.ifCond .ne 9, 3) := by decide +kernel
theorem dX4_walker_19 : decode cX4_walker 19 = .ok (.aload_n 0, 1) := by decide +kernel
theorem dX4_walker_20 : decode cX4_walker 20 = .ok (.iconst 0, 1) := by decide +kernel
theorem dX4_walker_21 : decode cX4_walker 21 = .ok (.invokevirtual 52, 3) := by decide +kernel
theorem dX4_walker_24 : decode cX4_walker 24 = .ok (.ireturn, 1) := by decide +kernel
theorem dX4_walker_25 : decode cX4_walker 25 = .ok (.aload_n 0, 1) := by decide +kernel
theorem dX4_walker_26 : decode cX4_walker 26 = .ok (.getfield 10, 3) := by decide +kernel
theorem dX4_walker_29 : decode cX4_walker 29 = .ok (.invokevirtual 77, 3) := by decide +kernel
theorem dX4_walker_32 : decode cX4_walker 32 = .ok (.ifCond .eq 9, 3) := by decide +kernel
theorem dX4_walker_35 : decode cX4_walker 35 = .ok (.aload_n 0, 1) := by decide +kernel
theorem dX4_walker_36 : decode cX4_walker 36 = .ok (.iconst 1, 1) := by decide +kernel
theorem dX4_walker_37 : decode cX4_walker 37 = .ok (.invokevirtual 52, 3) := by decide +kernel
theorem dX4_walker_40 : decode cX4_walker 40 = .ok (.ireturn, 1) := by decide +kernel
theorem dX4_walker_41 : decode cX4_walker 41 = .ok (.aload_n 0, 1) := by decide +kernel
theorem dX4_walker_42 : decode cX4_walker 42 = .ok (.getfield 10, 3) := by decide +kernel
theorem dX4_walker_45 : decode cX4_walker 45 = .ok (.iload_n 1, 1) := by decide +kernel
theorem dX4_walker_46 : decode cX4_walker 46 = .ok (.iload_n 2, 1) := by decide +kernel
theorem dX4_walker_47 : decode cX4_walker 47 = .ok (.invokevirtual 81, 3) := by decide +kernel
theorem dX4_walker_50 : decode cX4_walker 50 = .ok (.pop, 1) := by decide +kernel
theorem dX4_walker_51 : decode cX4_walker 51 = .ok (.aload_n 0, 1) := by decide +kernel
theorem dX4_walker_52 : decode cX4_walker 52 = .ok (.getfield 10, 3) := by decide +kernel
theorem dX4_walker_55 : decode cX4_walker 55 = .ok (.getfield 65, 3) := by decide +kernel
theorem dX4_walker_58 : decode cX4_walker 58 = .ok (.iconst 1, 1) := by decide +kernel
theorem dX4_walker_59 : decode cX4_walker 59 = .ok (.isub, 1) := by decide +kernel
theorem dX4_walker_60 : decode cX4_walker 60 = .ok (.ireturn, 1) := by decide +kernel
set_option maxRecDepth 20000 in
theorem ggX4_of_X4_isThere : GoodIn wsX4_of wsX4_isThere := goodIn_r _ [6, 1, 7, 8, 5, 9, 43, 44, 45, 46, 47, 48, 49, 50, 51, 52, 53, 54, 55] (by decide +kernel) (by decide +kernel)
set_option maxRecDepth 20000 in
theorem gX4_of_X4_isThere : GoodIn wsX4_of (wsV RX4 85 RX4 yX4_isThere wsX4_isThere) := goodIn_app (goodIn_of _ (by decide +kernel)) ggX4_of_X4_isThere
set_option maxRecDepth 20000 in
theorem ggX4_of_X4_within : GoodIn wsX4_of wsX4_within := goodIn_r _ [9] (by decide +kernel) (by decide +kernel)
set_option maxRecDepth 20000 in
theorem gX4_of_X4_within : GoodIn wsX4_of (va_wsS RX4 44 yX4_within wsX4_within) := goodIn_app (goodIn_of _ (by decide +kernel)) ggX4_of_X4_within
set_option maxRecDepth 20000 in
theorem ggX4_of_X4_finding : GoodIn wsX4_of wsX4_finding := goodIn_r _ [13, 14, 15, 43, 44, 45, 46, 47, 48, 49] (by decide +kernel) (by decide +kernel)
set_option maxRecDepth 20000 in
theorem gX4_of_X4_finding : GoodIn wsX4_of (wsV RX4 52 RX4 yX4_finding wsX4_finding) := goodIn_app (goodIn_of _ (by decide +kernel)) ggX4_of_X4_finding
set_option maxRecDepth 20000 in
theorem ggX4_of_X0_paceOf : GoodIn wsX4_of wsX0_paceOf := goodIn_r _ [19, 20, 21, 22, 23, 17, 24, 25, 26, 56, 57, 58, 59, 60, 61, 62, 63, 50, 51, 52, 53, 54, 55] (by decide +kernel) (by decide +kernel)
set_option maxRecDepth 20000 in
theorem gX4_of_X0_paceOf_n89 : GoodIn wsX4_of (wsX0_paceOf) := ggX4_of_X0_paceOf
set_option maxRecDepth 20000 in
theorem ggX4_of_X0_payOf : GoodIn wsX4_of wsX0_payOf := goodIn_r _ [29, 30, 20, 56, 57, 58, 59, 60, 61, 62, 63, 50, 51, 52, 53, 54, 55] (by decide +kernel) (by decide +kernel)
set_option maxRecDepth 20000 in
theorem gX4_of_X0_payOf_n93 : GoodIn wsX4_of (wsX0_payOf) := ggX4_of_X0_payOf
set_option maxRecDepth 20000 in
theorem ggX4_of_X3_trait : GoodIn wsX4_of wsX3_trait := goodIn_r _ [34, 35, 36, 37, 38, 39, 40, 41, 42, 56, 57, 58, 59, 60, 61, 62, 63] (by decide +kernel) (by decide +kernel)
set_option maxRecDepth 20000 in
theorem gX4_of_X3_trait_n96 : GoodIn wsX4_of (wsX3_trait) := ggX4_of_X3_trait
theorem dX4_of_0 : decode cX4_of 0 = .ok (.aload_n 0, 1) := by decide +kernel
theorem dX4_of_1 : decode cX4_of 1 = .ok (.iload_n 1, 1) := by decide +kernel
theorem dX4_of_2 : decode cX4_of 2 = .ok (.invokevirtual 85, 3) := by decide +kernel
theorem dX4_of_5 : decode cX4_of 5 = .ok (.ifCond .eq 13, 3) := by decide +kernel
theorem dX4_of_8 : decode cX4_of 8 = .ok (.iload_n 2, 1) := by decide +kernel
theorem dX4_of_9 : decode cX4_of 9 = .ok (.iconst 0, 1) := by decide +kernel
theorem dX4_of_10 : decode cX4_of 10 = .ok (.bipush 9, 2) := by decide +kernel
theorem dX4_of_12 : decode cX4_of 12 = .ok (.invokestatic 44, 3) := by decide +kernel
theorem dX4_of_15 : decode cX4_of 15 = .ok (.ifCond .ne 9, 3) := by decide +kernel
theorem dX4_of_18 : decode cX4_of 18 = .ok (.aload_n 0, 1) := by decide +kernel
theorem dX4_of_19 : decode cX4_of 19 = .ok (.iconst 0, 1) := by decide +kernel
theorem dX4_of_20 : decode cX4_of 20 = .ok (.invokevirtual 52, 3) := by decide +kernel
theorem dX4_of_23 : decode cX4_of 23 = .ok (.ireturn, 1) := by decide +kernel
theorem dX4_of_24 : decode cX4_of 24 = .ok (.aload_n 0, 1) := by decide +kernel
theorem dX4_of_25 : decode cX4_of 25 = .ok (.getfield 10, 3) := by decide +kernel
theorem dX4_of_28 : decode cX4_of 28 = .ok (.getfield 68, 3) := by decide +kernel
theorem dX4_of_31 : decode cX4_of 31 = .ok (.iload_n 1, 1) := by decide +kernel
theorem dX4_of_32 : decode cX4_of 32 = .ok (.aaload, 1) := by decide +kernel
theorem dX4_of_33 : decode cX4_of 33 = .ok (.astore_n 3, 1) := by decide +kernel
theorem dX4_of_34 : decode cX4_of 34 = .ok (.iload_n 2, 1) := by decide +kernel
theorem dX4_of_35 : decode cX4_of 35 = .ok (.bipush 8, 2) := by decide +kernel
theorem dX4_of_37 : decode cX4_of 37 = .ok (.if_icmp .ne 12, 3) := by decide +kernel
theorem dX4_of_40 : decode cX4_of 40 = .ok (.aload_n 0, 1) := by decide +kernel
theorem dX4_of_41 : decode cX4_of 41 = .ok (.getfield 10, 3) := by decide +kernel
theorem dX4_of_44 : decode cX4_of 44 = .ok (.aload_n 3, 1) := by decide +kernel
theorem dX4_of_45 : decode cX4_of 45 = .ok (.invokevirtual 89, 3) := by decide +kernel
theorem dX4_of_48 : decode cX4_of 48 = .ok (.ireturn, 1) := by decide +kernel
theorem dX4_of_49 : decode cX4_of 49 = .ok (.iload_n 2, 1) := by decide +kernel
theorem dX4_of_50 : decode cX4_of 50 = .ok (.bipush 9, 2) := by decide +kernel
theorem dX4_of_52 : decode cX4_of 52 = .ok (.if_icmp .ne 14, 3) := by decide +kernel
theorem dX4_of_55 : decode cX4_of 55 = .ok (.aload_n 0, 1) := by decide +kernel
theorem dX4_of_56 : decode cX4_of 56 = .ok (.getfield 10, 3) := by decide +kernel
theorem dX4_of_59 : decode cX4_of 59 = .ok (.aload_n 3, 1) := by decide +kernel
theorem dX4_of_60 : decode cX4_of 60 = .ok (.invokevirtual 93, 3) := by decide +kernel
theorem dX4_of_63 : decode cX4_of 63 = .ok (.goto 8, 3) := by decide +kernel
theorem dX4_of_66 : decode cX4_of 66 = .ok (.aload_n 3, 1) := by decide +kernel
theorem dX4_of_67 : decode cX4_of 67 = .ok (.iload_n 2, 1) := by decide +kernel
theorem dX4_of_68 : decode cX4_of 68 = .ok (.invokevirtual 96, 3) := by decide +kernel
theorem dX4_of_71 : decode cX4_of 71 = .ok (.ireturn, 1) := by decide +kernel
set_option maxRecDepth 20000 in
theorem ggX4_set_X4_isThere : GoodIn wsX4_set wsX4_isThere := goodIn_r _ [6, 1, 7, 8, 5, 9, 35, 36, 37, 38, 39, 40, 41, 42, 43, 44, 45, 46, 47] (by decide +kernel) (by decide +kernel)
set_option maxRecDepth 20000 in
theorem gX4_set_X4_isThere : GoodIn wsX4_set (wsV RX4 85 RX4 yX4_isThere wsX4_isThere) := goodIn_app (goodIn_of _ (by decide +kernel)) ggX4_set_X4_isThere
set_option maxRecDepth 20000 in
theorem ggX4_set_X4_within : GoodIn wsX4_set wsX4_within := goodIn_r _ [9] (by decide +kernel) (by decide +kernel)
set_option maxRecDepth 20000 in
theorem gX4_set_X4_within : GoodIn wsX4_set (va_wsS RX4 44 yX4_within wsX4_within) := goodIn_app (goodIn_of _ (by decide +kernel)) ggX4_set_X4_within
set_option maxRecDepth 20000 in
theorem ggX4_set_X4_mostOfTrait : GoodIn wsX4_set wsX4_mostOfTrait := goodIn_r _ [12, 13] (by decide +kernel) (by decide +kernel)
set_option maxRecDepth 20000 in
theorem gX4_set_X4_mostOfTrait : GoodIn wsX4_set (va_wsS RX4 99 yX4_mostOfTrait wsX4_mostOfTrait) := goodIn_app (goodIn_of _ (by decide +kernel)) ggX4_set_X4_mostOfTrait
set_option maxRecDepth 20000 in
theorem ggX4_set_X4_finding : GoodIn wsX4_set wsX4_finding := goodIn_r _ [17, 18, 19, 35, 36, 37, 38, 39, 40, 41] (by decide +kernel) (by decide +kernel)
set_option maxRecDepth 20000 in
theorem gX4_set_X4_finding : GoodIn wsX4_set (wsV RX4 52 RX4 yX4_finding wsX4_finding) := goodIn_app (goodIn_of _ (by decide +kernel)) ggX4_set_X4_finding
set_option maxRecDepth 20000 in
theorem ggX4_set_X3_trait : GoodIn wsX4_set wsX3_trait := goodIn_r _ [23, 24, 25, 26, 27, 28, 29, 30, 31, 48, 49, 50, 51, 52, 53, 54, 55] (by decide +kernel) (by decide +kernel)
set_option maxRecDepth 20000 in
theorem gX4_set_X3_trait_n96 : GoodIn wsX4_set (wsX3_trait) := ggX4_set_X3_trait
set_option maxRecDepth 20000 in
theorem ggX4_set_X3_giveTrait : GoodIn wsX4_set wsX3_giveTrait := goodIn_r _ [34, 24, 25, 26, 27, 28, 29, 30, 48, 49, 50, 51, 52, 53, 54, 55] (by decide +kernel) (by decide +kernel)
set_option maxRecDepth 20000 in
theorem gX4_set_X3_giveTrait_n102 : GoodIn wsX4_set (wsX3_giveTrait) := ggX4_set_X3_giveTrait
theorem dX4_set_0 : decode cX4_set 0 = .ok (.aload_n 0, 1) := by decide +kernel
theorem dX4_set_1 : decode cX4_set 1 = .ok (.iload_n 1, 1) := by decide +kernel
theorem dX4_set_2 : decode cX4_set 2 = .ok (.invokevirtual 85, 3) := by decide +kernel
theorem dX4_set_5 : decode cX4_set 5 = .ok (.ifCond .eq 25, 3) := by decide +kernel
theorem dX4_set_8 : decode cX4_set 8 = .ok (.iload_n 2, 1) := by decide +kernel
theorem dX4_set_9 : decode cX4_set 9 = .ok (.iconst 1, 1) := by decide +kernel
theorem dX4_set_10 : decode cX4_set 10 = .ok (.bipush 7, 2) := by decide +kernel
theorem dX4_set_12 : decode cX4_set 12 = .ok (.invokestatic 44, 3) := by decide +kernel
theorem dX4_set_15 : decode cX4_set 15 = .ok (.ifCond .eq 15, 3) := by decide +kernel
theorem dX4_set_18 : decode cX4_set 18 = .ok (.iload_n 3, 1) := by decide +kernel
theorem dX4_set_19 : decode cX4_set 19 = .ok (.iconst 0, 1) := by decide +kernel
theorem dX4_set_20 : decode cX4_set 20 = .ok (.iload_n 2, 1) := by decide +kernel
theorem dX4_set_21 : decode cX4_set 21 = .ok (.invokestatic 99, 3) := by decide +kernel
theorem dX4_set_24 : decode cX4_set 24 = .ok (.invokestatic 44, 3) := by decide +kernel
theorem dX4_set_27 : decode cX4_set 27 = .ok (.ifCond .ne 9, 3) := by decide +kernel
theorem dX4_set_30 : decode cX4_set 30 = .ok (.aload_n 0, 1) := by decide +kernel
theorem dX4_set_31 : decode cX4_set 31 = .ok (.iconst 0, 1) := by decide +kernel
theorem dX4_set_32 : decode cX4_set 32 = .ok (.invokevirtual 52, 3) := by decide +kernel
theorem dX4_set_35 : decode cX4_set 35 = .ok (.ireturn, 1) := by decide +kernel
theorem dX4_set_36 : decode cX4_set 36 = .ok (.aload_n 0, 1) := by decide +kernel
theorem dX4_set_37 : decode cX4_set 37 = .ok (.getfield 10, 3) := by decide +kernel
theorem dX4_set_40 : decode cX4_set 40 = .ok (.getfield 68, 3) := by decide +kernel
theorem dX4_set_43 : decode cX4_set 43 = .ok (.iload_n 1, 1) := by decide +kernel
theorem dX4_set_44 : decode cX4_set 44 = .ok (.aaload, 1) := by decide +kernel
theorem dX4_set_45 : decode cX4_set 45 = .ok (.astore 4, 2) := by decide +kernel
theorem dX4_set_47 : decode cX4_set 47 = .ok (.aload 4, 2) := by decide +kernel
theorem dX4_set_49 : decode cX4_set 49 = .ok (.iload_n 2, 1) := by decide +kernel
theorem dX4_set_50 : decode cX4_set 50 = .ok (.invokevirtual 96, 3) := by decide +kernel
theorem dX4_set_53 : decode cX4_set 53 = .ok (.istore 5, 2) := by decide +kernel
theorem dX4_set_55 : decode cX4_set 55 = .ok (.aload 4, 2) := by decide +kernel
theorem dX4_set_57 : decode cX4_set 57 = .ok (.iload_n 2, 1) := by decide +kernel
theorem dX4_set_58 : decode cX4_set 58 = .ok (.iload_n 3, 1) := by decide +kernel
theorem dX4_set_59 : decode cX4_set 59 = .ok (.invokevirtual 102, 3) := by decide +kernel
theorem dX4_set_62 : decode cX4_set 62 = .ok (.iload 5, 2) := by decide +kernel
theorem dX4_set_64 : decode cX4_set 64 = .ok (.ireturn, 1) := by decide +kernel
set_option maxRecDepth 20000 in
theorem ggX4_turn_X4_isThere : GoodIn wsX4_turn wsX4_isThere := goodIn_r _ [6, 1, 7, 8, 5, 9, 16, 17, 18, 19, 20, 21, 22, 23, 24, 25, 26, 27, 28] (by decide +kernel) (by decide +kernel)
set_option maxRecDepth 20000 in
theorem gX4_turn_X4_isThere : GoodIn wsX4_turn (wsV RX4 85 RX4 yX4_isThere wsX4_isThere) := goodIn_app (goodIn_of _ (by decide +kernel)) ggX4_turn_X4_isThere
set_option maxRecDepth 20000 in
theorem ggX4_turn_X4_within : GoodIn wsX4_turn wsX4_within := goodIn_r _ [9] (by decide +kernel) (by decide +kernel)
set_option maxRecDepth 20000 in
theorem gX4_turn_X4_within : GoodIn wsX4_turn (va_wsS RX4 44 yX4_within wsX4_within) := goodIn_app (goodIn_of _ (by decide +kernel)) ggX4_turn_X4_within
set_option maxRecDepth 20000 in
theorem ggX4_turn_X4_finding : GoodIn wsX4_turn wsX4_finding := goodIn_r _ [13, 14, 15, 16, 17, 18, 19, 20, 21, 22] (by decide +kernel) (by decide +kernel)
set_option maxRecDepth 20000 in
theorem gX4_turn_X4_finding : GoodIn wsX4_turn (wsV RX4 52 RX4 yX4_finding wsX4_finding) := goodIn_app (goodIn_of _ (by decide +kernel)) ggX4_turn_X4_finding
theorem dX4_turn_0 : decode cX4_turn 0 = .ok (.aload_n 0, 1) := by decide +kernel
theorem dX4_turn_1 : decode cX4_turn 1 = .ok (.iload_n 1, 1) := by decide +kernel
theorem dX4_turn_2 : decode cX4_turn 2 = .ok (.invokevirtual 85, 3) := by decide +kernel
theorem dX4_turn_5 : decode cX4_turn 5 = .ok (.ifCond .eq 12, 3) := by decide +kernel
theorem dX4_turn_8 : decode cX4_turn 8 = .ok (.iload_n 2, 1) := by decide +kernel
theorem dX4_turn_9 : decode cX4_turn 9 = .ok (.iconst 0, 1) := by decide +kernel
theorem dX4_turn_10 : decode cX4_turn 10 = .ok (.iconst 5, 1) := by decide +kernel
theorem dX4_turn_11 : decode cX4_turn 11 = .ok (.invokestatic 44, 3) := by decide +kernel
theorem dX4_turn_14 : decode cX4_turn 14 = .ok (.ifCond .ne 9, 3) := by decide +kernel
theorem dX4_turn_17 : decode cX4_turn 17 = .ok (.aload_n 0, 1) := by decide +kernel
theorem dX4_turn_18 : decode cX4_turn 18 = .ok (.iconst 0, 1) := by decide +kernel
theorem dX4_turn_19 : decode cX4_turn 19 = .ok (.invokevirtual 52, 3) := by decide +kernel
theorem dX4_turn_22 : decode cX4_turn 22 = .ok (.ireturn, 1) := by decide +kernel
theorem dX4_turn_23 : decode cX4_turn 23 = .ok (.aload_n 0, 1) := by decide +kernel
theorem dX4_turn_24 : decode cX4_turn 24 = .ok (.getfield 10, 3) := by decide +kernel
theorem dX4_turn_27 : decode cX4_turn 27 = .ok (.getfield 68, 3) := by decide +kernel
theorem dX4_turn_30 : decode cX4_turn 30 = .ok (.iload_n 1, 1) := by decide +kernel
theorem dX4_turn_31 : decode cX4_turn 31 = .ok (.aaload, 1) := by decide +kernel
theorem dX4_turn_32 : decode cX4_turn 32 = .ok (.astore_n 3, 1) := by decide +kernel
theorem dX4_turn_33 : decode cX4_turn 33 = .ok (.aload_n 3, 1) := by decide +kernel
theorem dX4_turn_34 : decode cX4_turn 34 = .ok (.getfield 106, 3) := by decide +kernel
theorem dX4_turn_37 : decode cX4_turn 37 = .ok (.istore 4, 2) := by decide +kernel
theorem dX4_turn_39 : decode cX4_turn 39 = .ok (.aload_n 3, 1) := by decide +kernel
theorem dX4_turn_40 : decode cX4_turn 40 = .ok (.iload_n 2, 1) := by decide +kernel
theorem dX4_turn_41 : decode cX4_turn 41 = .ok (.putfield 106, 3) := by decide +kernel
theorem dX4_turn_44 : decode cX4_turn 44 = .ok (.iload 4, 2) := by decide +kernel
theorem dX4_turn_46 : decode cX4_turn 46 = .ok (.ireturn, 1) := by decide +kernel
set_option maxRecDepth 20000 in
theorem ggX4_as_X4_isThere : GoodIn wsX4_as wsX4_isThere := goodIn_r _ [6, 1, 7, 8, 5, 9, 19, 20, 21, 22, 23, 24, 25, 26, 27, 28, 29, 30, 31] (by decide +kernel) (by decide +kernel)
set_option maxRecDepth 20000 in
theorem gX4_as_X4_isThere : GoodIn wsX4_as (wsV RX4 85 RX4 yX4_isThere wsX4_isThere) := goodIn_app (goodIn_of _ (by decide +kernel)) ggX4_as_X4_isThere
set_option maxRecDepth 20000 in
theorem ggX4_as_X4_within : GoodIn wsX4_as wsX4_within := goodIn_r _ [9] (by decide +kernel) (by decide +kernel)
set_option maxRecDepth 20000 in
theorem gX4_as_X4_within : GoodIn wsX4_as (va_wsS RX4 44 yX4_within wsX4_within) := goodIn_app (goodIn_of _ (by decide +kernel)) ggX4_as_X4_within
set_option maxRecDepth 20000 in
theorem ggX4_as_X4_finding : GoodIn wsX4_as wsX4_finding := goodIn_r _ [13, 14, 15, 19, 20, 21, 22, 23, 24, 25] (by decide +kernel) (by decide +kernel)
set_option maxRecDepth 20000 in
theorem gX4_as_X4_finding : GoodIn wsX4_as (wsV RX4 52 RX4 yX4_finding wsX4_finding) := goodIn_app (goodIn_of _ (by decide +kernel)) ggX4_as_X4_finding
set_option maxRecDepth 20000 in
theorem ggX4_as_X4_isUnder : GoodIn wsX4_as wsX4_isUnder := goodIn_r _ [18] (by decide +kernel) (by decide +kernel)
set_option maxRecDepth 20000 in
theorem gX4_as_X4_isUnder : GoodIn wsX4_as (va_wsS RX4 109 yX4_isUnder wsX4_isUnder) := goodIn_app (goodIn_of _ (by decide +kernel)) ggX4_as_X4_isUnder
theorem dX4_as_0 : decode cX4_as 0 = .ok (.aload_n 0, 1) := by decide +kernel
theorem dX4_as_1 : decode cX4_as 1 = .ok (.iload_n 1, 1) := by decide +kernel
theorem dX4_as_2 : decode cX4_as 2 = .ok (.invokevirtual 85, 3) := by decide +kernel
theorem dX4_as_5 : decode cX4_as 5 = .ok (.ifCond .eq 12, 3) := by decide +kernel
theorem dX4_as_8 : decode cX4_as 8 = .ok (.iload_n 2, 1) := by decide +kernel
theorem dX4_as_9 : decode cX4_as 9 = .ok (.iconst 0, 1) := by decide +kernel
theorem dX4_as_10 : decode cX4_as 10 = .ok (.iconst 5, 1) := by decide +kernel
theorem dX4_as_11 : decode cX4_as 11 = .ok (.invokestatic 44, 3) := by decide +kernel
theorem dX4_as_14 : decode cX4_as 14 = .ok (.ifCond .ne 9, 3) := by decide +kernel
theorem dX4_as_17 : decode cX4_as 17 = .ok (.aload_n 0, 1) := by decide +kernel
theorem dX4_as_18 : decode cX4_as 18 = .ok (.iconst 0, 1) := by decide +kernel
theorem dX4_as_19 : decode cX4_as 19 = .ok (.invokevirtual 52, 3) := by decide +kernel
theorem dX4_as_22 : decode cX4_as 22 = .ok (.ireturn, 1) := by decide +kernel
theorem dX4_as_23 : decode cX4_as 23 = .ok (.aload_n 0, 1) := by decide +kernel
theorem dX4_as_24 : decode cX4_as 24 = .ok (.getfield 10, 3) := by decide +kernel
theorem dX4_as_27 : decode cX4_as 27 = .ok (.getfield 68, 3) := by decide +kernel
theorem dX4_as_30 : decode cX4_as 30 = .ok (.iload_n 1, 1) := by decide +kernel
theorem dX4_as_31 : decode cX4_as 31 = .ok (.aaload, 1) := by decide +kernel
theorem dX4_as_32 : decode cX4_as 32 = .ok (.astore_n 3, 1) := by decide +kernel
theorem dX4_as_33 : decode cX4_as 33 = .ok (.aload_n 3, 1) := by decide +kernel
theorem dX4_as_34 : decode cX4_as 34 = .ok (.getfield 106, 3) := by decide +kernel
theorem dX4_as_37 : decode cX4_as 37 = .ok (.iload_n 2, 1) := by decide +kernel
theorem dX4_as_38 : decode cX4_as 38 = .ok (.invokestatic 109, 3) := by decide +kernel
theorem dX4_as_41 : decode cX4_as 41 = .ok (.ifCond .eq 10, 3) := by decide +kernel
theorem dX4_as_44 : decode cX4_as 44 = .ok (.aload_n 3, 1) := by decide +kernel
theorem dX4_as_45 : decode cX4_as 45 = .ok (.getfield 113, 3) := by decide +kernel
theorem dX4_as_48 : decode cX4_as 48 = .ok (.goto 8, 3) := by decide +kernel
theorem dX4_as_51 : decode cX4_as 51 = .ok (.aload_n 0, 1) := by decide +kernel
theorem dX4_as_52 : decode cX4_as 52 = .ok (.iconst 2, 1) := by decide +kernel
theorem dX4_as_53 : decode cX4_as 53 = .ok (.invokevirtual 52, 3) := by decide +kernel
theorem dX4_as_56 : decode cX4_as 56 = .ok (.ireturn, 1) := by decide +kernel
set_option maxRecDepth 20000 in
theorem ggX4_hours_X4_within : GoodIn wsX4_hours wsX4_within := goodIn_r _ [6] (by decide +kernel) (by decide +kernel)
set_option maxRecDepth 20000 in
theorem gX4_hours_X4_within : GoodIn wsX4_hours (va_wsS RX4 44 yX4_within wsX4_within) := goodIn_app (goodIn_of _ (by decide +kernel)) ggX4_hours_X4_within
set_option maxRecDepth 20000 in
theorem ggX4_hours_X4_finding : GoodIn wsX4_hours wsX4_finding := goodIn_r _ [10, 11, 12, 65, 66, 67, 68, 69, 70, 71] (by decide +kernel) (by decide +kernel)
set_option maxRecDepth 20000 in
theorem gX4_hours_X4_finding : GoodIn wsX4_hours (wsV RX4 52 RX4 yX4_finding wsX4_finding) := goodIn_app (goodIn_of _ (by decide +kernel)) ggX4_hours_X4_finding
set_option maxRecDepth 20000 in
theorem ggX4_hours_X0_passHours : GoodIn wsX4_hours wsX0_passHours := goodIn_r _ [16, 17, 18, 19, 14, 20, 21, 22, 23, 24, 25, 26, 27, 28, 29, 30, 31, 32, 33, 34, 35, 36, 37, 38, 39, 40, 41, 42, 43, 44, 45, 46, 47, 48, 49, 50, 51, 52, 53, 54, 55, 56, 57, 58, 59, 60, 61, 62, 63, 64, 72, 73, 74, 75, 76, 77, 78, 79, 80, 81, 82, 83, 84, 85] (by decide +kernel) (by decide +kernel)
set_option maxRecDepth 20000 in
theorem gX4_hours_X0_passHours_n120 : GoodIn wsX4_hours (wsX0_passHours) := ggX4_hours_X0_passHours
theorem dX4_hours_0 : decode cX4_hours 0 = .ok (.iload_n 1, 1) := by decide +kernel
theorem dX4_hours_1 : decode cX4_hours 1 = .ok (.iconst 1, 1) := by decide +kernel
theorem dX4_hours_2 : decode cX4_hours 2 = .ok (.sipush 200, 3) := by decide +kernel
theorem dX4_hours_5 : decode cX4_hours 5 = .ok (.invokestatic 44, 3) := by decide +kernel
theorem dX4_hours_8 : decode cX4_hours 8 = .ok (.ifCond .ne 9, 3) := by decide +kernel
theorem dX4_hours_11 : decode cX4_hours 11 = .ok (.aload_n 0, 1) := by decide +kernel
theorem dX4_hours_12 : decode cX4_hours 12 = .ok (.iconst 0, 1) := by decide +kernel
theorem dX4_hours_13 : decode cX4_hours 13 = .ok (.invokevirtual 52, 3) := by decide +kernel
theorem dX4_hours_16 : decode cX4_hours 16 = .ok (.ireturn, 1) := by decide +kernel
theorem dX4_hours_17 : decode cX4_hours 17 = .ok (.aload_n 0, 1) := by decide +kernel
theorem dX4_hours_18 : decode cX4_hours 18 = .ok (.getfield 10, 3) := by decide +kernel
theorem dX4_hours_21 : decode cX4_hours 21 = .ok (.getfield 116, 3) := by decide +kernel
theorem dX4_hours_24 : decode cX4_hours 24 = .ok (.iload_n 1, 1) := by decide +kernel
theorem dX4_hours_25 : decode cX4_hours 25 = .ok (.iadd, 1) := by decide +kernel
theorem dX4_hours_26 : decode cX4_hours 26 = .ok (.ldc 119, 2) := by decide +kernel
theorem dX4_hours_28 : decode cX4_hours 28 = .ok (.if_icmp .le 9, 3) := by decide +kernel
theorem dX4_hours_31 : decode cX4_hours 31 = .ok (.aload_n 0, 1) := by decide +kernel
theorem dX4_hours_32 : decode cX4_hours 32 = .ok (.iconst 4, 1) := by decide +kernel
theorem dX4_hours_33 : decode cX4_hours 33 = .ok (.invokevirtual 52, 3) := by decide +kernel
theorem dX4_hours_36 : decode cX4_hours 36 = .ok (.ireturn, 1) := by decide +kernel
theorem dX4_hours_37 : decode cX4_hours 37 = .ok (.aload_n 0, 1) := by decide +kernel
theorem dX4_hours_38 : decode cX4_hours 38 = .ok (.getfield 10, 3) := by decide +kernel
theorem dX4_hours_41 : decode cX4_hours 41 = .ok (.iload_n 1, 1) := by decide +kernel
theorem dX4_hours_42 : decode cX4_hours 42 = .ok (.invokevirtual 120, 3) := by decide +kernel
theorem dX4_hours_45 : decode cX4_hours 45 = .ok (.aload_n 0, 1) := by decide +kernel
theorem dX4_hours_46 : decode cX4_hours 46 = .ok (.getfield 10, 3) := by decide +kernel
theorem dX4_hours_49 : decode cX4_hours 49 = .ok (.getfield 55, 3) := by decide +kernel
theorem dX4_hours_52 : decode cX4_hours 52 = .ok (.ireturn, 1) := by decide +kernel
set_option maxRecDepth 20000 in
theorem ggX4_now_X0_sumOf : GoodIn wsX4_now wsX0_sumOf := goodIn_r _ [5, 6, 7, 8, 9, 10, 11, 12, 13, 14, 15, 16, 17, 18, 19, 37, 38, 39, 40, 41, 42, 43, 44, 45, 46, 47, 48, 49, 50] (by decide +kernel) (by decide +kernel)
set_option maxRecDepth 20000 in
theorem gX4_now_X0_sumOf_n124 : GoodIn wsX4_now (wsX0_sumOf) := ggX4_now_X0_sumOf
set_option maxRecDepth 20000 in
theorem ggX4_now_X0_setWith : GoodIn wsX4_now wsX0_setWith := goodIn_r _ [22, 6, 7, 8, 9, 10, 11, 12, 13, 14, 15, 16, 17, 18, 19, 37, 38, 39, 40, 41, 42, 43, 44, 45, 46, 47, 48, 49, 50] (by decide +kernel) (by decide +kernel)
set_option maxRecDepth 20000 in
theorem gX4_now_X0_setWith_n127 : GoodIn wsX4_now (wsX0_setWith) := ggX4_now_X0_setWith
set_option maxRecDepth 20000 in
theorem ggX4_now_X4_finding : GoodIn wsX4_now wsX4_finding := goodIn_r _ [27, 28, 29, 30, 31, 32, 33, 34, 35, 36] (by decide +kernel) (by decide +kernel)
set_option maxRecDepth 20000 in
theorem gX4_now_X4_finding : GoodIn wsX4_now (wsV RX4 52 RX4 yX4_finding wsX4_finding) := goodIn_app (goodIn_of _ (by decide +kernel)) ggX4_now_X4_finding
theorem dX4_now_0 : decode cX4_now 0 = .ok (.iload_n 1, 1) := by decide +kernel
theorem dX4_now_1 : decode cX4_now 1 = .ok (.tableswitch 117 0 7 #[47, 55, 63, 71, 79, 89, 98, 108], 47) := by decide +kernel
theorem dX4_now_48 : decode cX4_now 48 = .ok (.aload_n 0, 1) := by decide +kernel
theorem dX4_now_49 : decode cX4_now 49 = .ok (.getfield 10, 3) := by decide +kernel
theorem dX4_now_52 : decode cX4_now 52 = .ok (.getfield 116, 3) := by decide +kernel
theorem dX4_now_55 : decode cX4_now 55 = .ok (.ireturn, 1) := by decide +kernel
theorem dX4_now_56 : decode cX4_now 56 = .ok (.aload_n 0, 1) := by decide +kernel
theorem dX4_now_57 : decode cX4_now 57 = .ok (.getfield 10, 3) := by decide +kernel
theorem dX4_now_60 : decode cX4_now 60 = .ok (.getfield 55, 3) := by decide +kernel
theorem dX4_now_63 : decode cX4_now 63 = .ok (.ireturn, 1) := by decide +kernel
theorem dX4_now_64 : decode cX4_now 64 = .ok (.aload_n 0, 1) := by decide +kernel
theorem dX4_now_65 : decode cX4_now 65 = .ok (.getfield 10, 3) := by decide +kernel
theorem dX4_now_68 : decode cX4_now 68 = .ok (.getfield 59, 3) := by decide +kernel
theorem dX4_now_71 : decode cX4_now 71 = .ok (.ireturn, 1) := by decide +kernel
theorem dX4_now_72 : decode cX4_now 72 = .ok (.aload_n 0, 1) := by decide +kernel
theorem dX4_now_73 : decode cX4_now 73 = .ok (.getfield 10, 3) := by decide +kernel
theorem dX4_now_76 : decode cX4_now 76 = .ok (.getfield 62, 3) := by decide +kernel
theorem dX4_now_79 : decode cX4_now 79 = .ok (.ireturn, 1) := by decide +kernel
theorem dX4_now_80 : decode cX4_now 80 = .ok (.aload_n 0, 1) := by decide +kernel
theorem dX4_now_81 : decode cX4_now 81 = .ok (.getfield 10, 3) := by decide +kernel
theorem dX4_now_84 : decode cX4_now 84 = .ok (.bipush 6, 2) := by decide +kernel
theorem dX4_now_86 : decode cX4_now 86 = .ok (.invokevirtual 124, 3) := by decide +kernel
theorem dX4_now_89 : decode cX4_now 89 = .ok (.ireturn, 1) := by decide +kernel
theorem dX4_now_90 : decode cX4_now 90 = .ok (.aload_n 0, 1) := by decide +kernel
theorem dX4_now_91 : decode cX4_now 91 = .ok (.getfield 10, 3) := by decide +kernel
theorem dX4_now_94 : decode cX4_now 94 = .ok (.iconst 3, 1) := by decide +kernel
theorem dX4_now_95 : decode cX4_now 95 = .ok (.invokevirtual 127, 3) := by decide +kernel
theorem dX4_now_98 : decode cX4_now 98 = .ok (.ireturn, 1) := by decide +kernel
theorem dX4_now_99 : decode cX4_now 99 = .ok (.aload_n 0, 1) := by decide +kernel
theorem dX4_now_100 : decode cX4_now 100 = .ok (.getfield 10, 3) := by decide +kernel
theorem dX4_now_103 : decode cX4_now 103 = .ok (.bipush 7, 2) := by decide +kernel
theorem dX4_now_105 : decode cX4_now 105 = .ok (.invokevirtual 127, 3) := by decide +kernel
theorem dX4_now_108 : decode cX4_now 108 = .ok (.ireturn, 1) := by decide +kernel
theorem dX4_now_109 : decode cX4_now 109 = .ok (.aload_n 0, 1) := by decide +kernel
theorem dX4_now_110 : decode cX4_now 110 = .ok (.getfield 10, 3) := by decide +kernel
theorem dX4_now_113 : decode cX4_now 113 = .ok (.iconst 5, 1) := by decide +kernel
theorem dX4_now_114 : decode cX4_now 114 = .ok (.invokevirtual 124, 3) := by decide +kernel
theorem dX4_now_117 : decode cX4_now 117 = .ok (.ireturn, 1) := by decide +kernel
theorem dX4_now_118 : decode cX4_now 118 = .ok (.aload_n 0, 1) := by decide +kernel
theorem dX4_now_119 : decode cX4_now 119 = .ok (.iconst 0, 1) := by decide +kernel
theorem dX4_now_120 : decode cX4_now 120 = .ok (.invokevirtual 52, 3) := by decide +kernel
theorem dX4_now_123 : decode cX4_now 123 = .ok (.ireturn, 1) := by decide +kernel
set_option maxRecDepth 20000 in
theorem ggX4_on_X4_isThere : GoodIn wsX4_on wsX4_isThere := goodIn_r _ [6, 7, 8, 9, 5, 10, 85, 86, 87, 88, 89, 90, 91, 92, 93, 94, 95, 96, 97] (by decide +kernel) (by decide +kernel)
set_option maxRecDepth 20000 in
theorem gX4_on_X4_isThere : GoodIn wsX4_on (wsV RX4 85 RX4 yX4_isThere wsX4_isThere) := goodIn_app (goodIn_of _ (by decide +kernel)) ggX4_on_X4_isThere
set_option maxRecDepth 20000 in
theorem ggX4_on_X4_within : GoodIn wsX4_on wsX4_within := goodIn_r _ [10] (by decide +kernel) (by decide +kernel)
set_option maxRecDepth 20000 in
theorem gX4_on_X4_within : GoodIn wsX4_on (va_wsS RX4 44 yX4_within wsX4_within) := goodIn_app (goodIn_of _ (by decide +kernel)) ggX4_on_X4_within
set_option maxRecDepth 20000 in
theorem ggX4_on_X4_finding : GoodIn wsX4_on wsX4_finding := goodIn_r _ [14, 15, 16, 85, 86, 87, 88, 89, 90, 91] (by decide +kernel) (by decide +kernel)
set_option maxRecDepth 20000 in
theorem gX4_on_X4_finding : GoodIn wsX4_on (wsV RX4 52 RX4 yX4_finding wsX4_finding) := goodIn_app (goodIn_of _ (by decide +kernel)) ggX4_on_X4_finding
set_option maxRecDepth 20000 in
theorem ggX4_on_X4_lookAhead : GoodIn wsX4_on wsX4_lookAhead := goodIn_r _ [20, 1, 7, 21, 22, 23, 24, 25, 26, 27, 28, 29, 30, 31, 32, 33, 34, 35, 36, 37, 38, 39, 40, 41, 42, 85, 86, 87, 88, 89, 90, 91, 92, 93, 94, 95, 96, 97, 98, 99, 100, 101, 102, 103, 104, 105] (by decide +kernel) (by decide +kernel)
set_option maxRecDepth 20000 in
theorem gX4_on_X4_lookAhead : GoodIn wsX4_on (wsV RX4 130 RX4 yX4_lookAhead wsX4_lookAhead) := goodIn_app (goodIn_of _ (by decide +kernel)) ggX4_on_X4_lookAhead
set_option maxRecDepth 20000 in
theorem ggX4_on_X0_passHours : GoodIn wsX4_on wsX0_passHours := goodIn_r _ [45, 46, 47, 48, 22, 49, 29, 30, 25, 50, 51, 52, 53, 54, 55, 56, 57, 58, 59, 60, 61, 28, 62, 63, 64, 65, 66, 32, 67, 68, 37, 36, 69, 70, 71, 72, 26, 73, 74, 75, 76, 77, 78, 79, 80, 27, 81, 82, 83, 84, 92, 93, 94, 95, 96, 97, 98, 99, 100, 101, 102, 103, 104, 105] (by decide +kernel) (by decide +kernel)
set_option maxRecDepth 20000 in
theorem gX4_on_X0_passHours_n120 : GoodIn wsX4_on (wsX0_passHours) := ggX4_on_X0_passHours
theorem dX4_on_0 : decode cX4_on 0 = .ok (.aload_n 0, 1) := by decide +kernel
theorem dX4_on_1 : decode cX4_on 1 = .ok (.iload_n 1, 1) := by decide +kernel
theorem dX4_on_2 : decode cX4_on 2 = .ok (.invokevirtual 85, 3) := by decide +kernel
theorem dX4_on_5 : decode cX4_on 5 = .ok (.ifCond .eq 23, 3) := by decide +kernel
theorem dX4_on_8 : decode cX4_on 8 = .ok (.iload_n 2, 1) := by decide +kernel
theorem dX4_on_9 : decode cX4_on 9 = .ok (.iconst 0, 1) := by decide +kernel
theorem dX4_on_10 : decode cX4_on 10 = .ok (.sipush 200, 3) := by decide +kernel
theorem dX4_on_13 : decode cX4_on 13 = .ok (.invokestatic 44, 3) := by decide +kernel
theorem dX4_on_16 : decode cX4_on 16 = .ok (.ifCond .eq 12, 3) := by decide +kernel
theorem dX4_on_19 : decode cX4_on 19 = .ok (.iload_n 3, 1) := by decide +kernel
theorem dX4_on_20 : decode cX4_on 20 = .ok (.iconst 0, 1) := by decide +kernel
theorem dX4_on_21 : decode cX4_on 21 = .ok (.iconst 2, 1) := by decide +kernel
theorem dX4_on_22 : decode cX4_on 22 = .ok (.invokestatic 44, 3) := by decide +kernel
theorem dX4_on_25 : decode cX4_on 25 = .ok (.ifCond .ne 9, 3) := by decide +kernel
theorem dX4_on_28 : decode cX4_on 28 = .ok (.aload_n 0, 1) := by decide +kernel
theorem dX4_on_29 : decode cX4_on 29 = .ok (.iconst 0, 1) := by decide +kernel
theorem dX4_on_30 : decode cX4_on 30 = .ok (.invokevirtual 52, 3) := by decide +kernel
theorem dX4_on_33 : decode cX4_on 33 = .ok (.ireturn, 1) := by decide +kernel
theorem dX4_on_34 : decode cX4_on 34 = .ok (.aload_n 0, 1) := by decide +kernel
theorem dX4_on_35 : decode cX4_on 35 = .ok (.invokevirtual 130, 3) := by decide +kernel
theorem dX4_on_38 : decode cX4_on 38 = .ok (.aload_n 0, 1) := by decide +kernel
theorem dX4_on_39 : decode cX4_on 39 = .ok (.getfield 16, 3) := by decide +kernel
theorem dX4_on_42 : decode cX4_on 42 = .ok (.iload_n 2, 1) := by decide +kernel
theorem dX4_on_43 : decode cX4_on 43 = .ok (.invokevirtual 120, 3) := by decide +kernel
theorem dX4_on_46 : decode cX4_on 46 = .ok (.aload_n 0, 1) := by decide +kernel
theorem dX4_on_47 : decode cX4_on 47 = .ok (.getfield 16, 3) := by decide +kernel
theorem dX4_on_50 : decode cX4_on 50 = .ok (.getfield 68, 3) := by decide +kernel
theorem dX4_on_53 : decode cX4_on 53 = .ok (.iload_n 1, 1) := by decide +kernel
theorem dX4_on_54 : decode cX4_on 54 = .ok (.aaload, 1) := by decide +kernel
theorem dX4_on_55 : decode cX4_on 55 = .ok (.astore 4, 2) := by decide +kernel
theorem dX4_on_57 : decode cX4_on 57 = .ok (.iload_n 3, 1) := by decide +kernel
theorem dX4_on_58 : decode cX4_on 58 = .ok (.ifCond .ne 9, 3) := by decide +kernel
theorem dX4_on_61 : decode cX4_on 61 = .ok (.aload 4, 2) := by decide +kernel
theorem dX4_on_63 : decode cX4_on 63 = .ok (.getfield 72, 3) := by decide +kernel
theorem dX4_on_66 : decode cX4_on 66 = .ok (.ireturn, 1) := by decide +kernel
theorem dX4_on_67 : decode cX4_on 67 = .ok (.iload_n 3, 1) := by decide +kernel
theorem dX4_on_68 : decode cX4_on 68 = .ok (.iconst 1, 1) := by decide +kernel
theorem dX4_on_69 : decode cX4_on 69 = .ok (.if_icmp .ne 11, 3) := by decide +kernel
theorem dX4_on_72 : decode cX4_on 72 = .ok (.aload 4, 2) := by decide +kernel
theorem dX4_on_74 : decode cX4_on 74 = .ok (.getfield 133, 3) := by decide +kernel
theorem dX4_on_77 : decode cX4_on 77 = .ok (.goto 8, 3) := by decide +kernel
theorem dX4_on_80 : decode cX4_on 80 = .ok (.aload 4, 2) := by decide +kernel
theorem dX4_on_82 : decode cX4_on 82 = .ok (.getfield 113, 3) := by decide +kernel
theorem dX4_on_85 : decode cX4_on 85 = .ok (.ireturn, 1) := by decide +kernel
set_option maxRecDepth 20000 in
theorem ggX4_fund_X4_within : GoodIn wsX4_fund wsX4_within := goodIn_r _ [5] (by decide +kernel) (by decide +kernel)
set_option maxRecDepth 20000 in
theorem gX4_fund_X4_within : GoodIn wsX4_fund (va_wsS RX4 44 yX4_within wsX4_within) := goodIn_app (goodIn_of _ (by decide +kernel)) ggX4_fund_X4_within
set_option maxRecDepth 20000 in
theorem ggX4_fund_X4_finding : GoodIn wsX4_fund wsX4_finding := goodIn_r _ [9, 10, 11, 81, 82, 83, 84, 85, 86, 87] (by decide +kernel) (by decide +kernel)
set_option maxRecDepth 20000 in
theorem gX4_fund_X4_finding : GoodIn wsX4_fund (wsV RX4 52 RX4 yX4_finding wsX4_finding) := goodIn_app (goodIn_of _ (by decide +kernel)) ggX4_fund_X4_finding
set_option maxRecDepth 20000 in
theorem ggX4_fund_X4_lookAhead : GoodIn wsX4_fund wsX4_lookAhead := goodIn_r _ [15, 1, 16, 17, 18, 19, 20, 21, 22, 23, 24, 25, 26, 27, 28, 29, 30, 31, 32, 33, 34, 35, 36, 37, 38, 81, 82, 83, 84, 85, 86, 87, 88, 89, 90, 91, 92, 93, 94, 95, 96, 97, 98, 99, 100, 101] (by decide +kernel) (by decide +kernel)
set_option maxRecDepth 20000 in
theorem gX4_fund_X4_lookAhead : GoodIn wsX4_fund (wsV RX4 130 RX4 yX4_lookAhead wsX4_lookAhead) := goodIn_app (goodIn_of _ (by decide +kernel)) ggX4_fund_X4_lookAhead
set_option maxRecDepth 20000 in
theorem ggX4_fund_X0_passHours : GoodIn wsX4_fund wsX0_passHours := goodIn_r _ [41, 42, 43, 44, 18, 45, 25, 26, 21, 46, 47, 48, 49, 50, 51, 52, 53, 54, 55, 56, 57, 24, 58, 59, 60, 61, 62, 28, 63, 64, 33, 32, 65, 66, 67, 68, 22, 69, 70, 71, 72, 73, 74, 75, 76, 23, 77, 78, 79, 80, 88, 89, 90, 91, 92, 93, 94, 95, 96, 97, 98, 99, 100, 101] (by decide +kernel) (by decide +kernel)
set_option maxRecDepth 20000 in
theorem gX4_fund_X0_passHours_n120 : GoodIn wsX4_fund (wsX0_passHours) := ggX4_fund_X0_passHours
theorem dX4_fund_0 : decode cX4_fund 0 = .ok (.iload_n 1, 1) := by decide +kernel
theorem dX4_fund_1 : decode cX4_fund 1 = .ok (.iconst 0, 1) := by decide +kernel
theorem dX4_fund_2 : decode cX4_fund 2 = .ok (.sipush 200, 3) := by decide +kernel
theorem dX4_fund_5 : decode cX4_fund 5 = .ok (.invokestatic 44, 3) := by decide +kernel
theorem dX4_fund_8 : decode cX4_fund 8 = .ok (.ifCond .ne 9, 3) := by decide +kernel
theorem dX4_fund_11 : decode cX4_fund 11 = .ok (.aload_n 0, 1) := by decide +kernel
theorem dX4_fund_12 : decode cX4_fund 12 = .ok (.iconst 0, 1) := by decide +kernel
theorem dX4_fund_13 : decode cX4_fund 13 = .ok (.invokevirtual 52, 3) := by decide +kernel
theorem dX4_fund_16 : decode cX4_fund 16 = .ok (.ireturn, 1) := by decide +kernel
theorem dX4_fund_17 : decode cX4_fund 17 = .ok (.aload_n 0, 1) := by decide +kernel
theorem dX4_fund_18 : decode cX4_fund 18 = .ok (.invokevirtual 130, 3) := by decide +kernel
theorem dX4_fund_21 : decode cX4_fund 21 = .ok (.aload_n 0, 1) := by decide +kernel
theorem dX4_fund_22 : decode cX4_fund 22 = .ok (.getfield 16, 3) := by decide +kernel
theorem dX4_fund_25 : decode cX4_fund 25 = .ok (.iload_n 1, 1) := by decide +kernel
theorem dX4_fund_26 : decode cX4_fund 26 = .ok (.invokevirtual 120, 3) := by decide +kernel
theorem dX4_fund_29 : decode cX4_fund 29 = .ok (.aload_n 0, 1) := by decide +kernel
theorem dX4_fund_30 : decode cX4_fund 30 = .ok (.getfield 16, 3) := by decide +kernel
theorem dX4_fund_33 : decode cX4_fund 33 = .ok (.getfield 55, 3) := by decide +kernel
theorem dX4_fund_36 : decode cX4_fund 36 = .ok (.ireturn, 1) := by decide +kernel
set_option maxRecDepth 20000 in
theorem ggX4_empty_X4_lookAhead : GoodIn wsX4_empty wsX4_lookAhead := goodIn_r _ [6, 1, 7, 8, 9, 10, 11, 12, 13, 14, 15, 16, 17, 18, 19, 20, 21, 22, 23, 24, 25, 26, 27, 28, 29, 74, 75, 76, 77, 78, 79, 80, 81, 82, 83, 84, 85, 86, 87, 88, 89, 90, 91, 92, 93, 94] (by decide +kernel) (by decide +kernel)
set_option maxRecDepth 20000 in
theorem gX4_empty_X4_lookAhead : GoodIn wsX4_empty (wsV RX4 130 RX4 yX4_lookAhead wsX4_lookAhead) := goodIn_app (goodIn_of _ (by decide +kernel)) ggX4_empty_X4_lookAhead
set_option maxRecDepth 20000 in
theorem ggX4_empty_X0_passHour : GoodIn wsX4_empty wsX0_passHour := goodIn_r _ [32, 16, 17, 12, 33, 34, 35, 9, 36, 37, 38, 39, 40, 41, 42, 43, 44, 15, 45, 46, 47, 48, 49, 19, 50, 51, 24, 23, 52, 53, 54, 55, 13, 56, 57, 58, 59, 60, 61, 62, 63, 14, 64, 65, 66, 67, 81, 82, 83, 84, 85, 86, 87, 88, 89, 90, 91, 92, 93, 94] (by decide +kernel) (by decide +kernel)
set_option maxRecDepth 20000 in
theorem gX4_empty_X0_passHour_n136 : GoodIn wsX4_empty (wsX0_passHour) := ggX4_empty_X0_passHour
set_option maxRecDepth 20000 in
theorem ggX4_empty_X4_finding : GoodIn wsX4_empty wsX4_finding := goodIn_r _ [71, 72, 73, 74, 75, 76, 77, 78, 79, 80] (by decide +kernel) (by decide +kernel)
set_option maxRecDepth 20000 in
theorem gX4_empty_X4_finding : GoodIn wsX4_empty (wsV RX4 52 RX4 yX4_finding wsX4_finding) := goodIn_app (goodIn_of _ (by decide +kernel)) ggX4_empty_X4_finding
theorem dX4_empty_0 : decode cX4_empty 0 = .ok (.aload_n 0, 1) := by decide +kernel
theorem dX4_empty_1 : decode cX4_empty 1 = .ok (.invokevirtual 130, 3) := by decide +kernel
theorem dX4_empty_4 : decode cX4_empty 4 = .ok (.iconst 0, 1) := by decide +kernel
theorem dX4_empty_5 : decode cX4_empty 5 = .ok (.istore_n 1, 1) := by decide +kernel
theorem dX4_empty_6 : decode cX4_empty 6 = .ok (.iload_n 1, 1) := by decide +kernel
theorem dX4_empty_7 : decode cX4_empty 7 = .ok (.sipush 200, 3) := by decide +kernel
theorem dX4_empty_10 : decode cX4_empty 10 = .ok (.if_icmp .gt 28, 3) := by decide +kernel
theorem dX4_empty_13 : decode cX4_empty 13 = .ok (.aload_n 0, 1) := by decide +kernel
theorem dX4_empty_14 : decode cX4_empty 14 = .ok (.getfield 16, 3) := by decide +kernel
theorem dX4_empty_17 : decode cX4_empty 17 = .ok (.getfield 55, 3) := by decide +kernel
theorem dX4_empty_20 : decode cX4_empty 20 = .ok (.ifCond .ne 5, 3) := by decide +kernel
theorem dX4_empty_23 : decode cX4_empty 23 = .ok (.iload_n 1, 1) := by decide +kernel
theorem dX4_empty_24 : decode cX4_empty 24 = .ok (.ireturn, 1) := by decide +kernel
theorem dX4_empty_25 : decode cX4_empty 25 = .ok (.aload_n 0, 1) := by decide +kernel
theorem dX4_empty_26 : decode cX4_empty 26 = .ok (.getfield 16, 3) := by decide +kernel
theorem dX4_empty_29 : decode cX4_empty 29 = .ok (.invokevirtual 136, 3) := by decide +kernel
theorem dX4_empty_32 : decode cX4_empty 32 = .ok (.iinc 1 1, 3) := by decide +kernel
theorem dX4_empty_35 : decode cX4_empty 35 = .ok (.goto (-29), 3) := by decide +kernel
theorem dX4_empty_38 : decode cX4_empty 38 = .ok (.aload_n 0, 1) := by decide +kernel
theorem dX4_empty_39 : decode cX4_empty 39 = .ok (.iconst 3, 1) := by decide +kernel
theorem dX4_empty_40 : decode cX4_empty 40 = .ok (.invokevirtual 52, 3) := by decide +kernel
theorem dX4_empty_43 : decode cX4_empty 43 = .ok (.ireturn, 1) := by decide +kernel
set_option maxRecDepth 20000 in
theorem ggX4_comes_X4_isThere : GoodIn wsX4_comes wsX4_isThere := goodIn_r _ [6, 7, 8, 9, 5, 10, 81, 82, 83, 84, 85, 86, 87, 88, 89, 90, 91, 92, 93] (by decide +kernel) (by decide +kernel)
set_option maxRecDepth 20000 in
theorem gX4_comes_X4_isThere : GoodIn wsX4_comes (wsV RX4 85 RX4 yX4_isThere wsX4_isThere) := goodIn_app (goodIn_of _ (by decide +kernel)) ggX4_comes_X4_isThere
set_option maxRecDepth 20000 in
theorem ggX4_comes_X4_within : GoodIn wsX4_comes wsX4_within := goodIn_r _ [10] (by decide +kernel) (by decide +kernel)
set_option maxRecDepth 20000 in
theorem gX4_comes_X4_within : GoodIn wsX4_comes (va_wsS RX4 44 yX4_within wsX4_within) := goodIn_app (goodIn_of _ (by decide +kernel)) ggX4_comes_X4_within
set_option maxRecDepth 20000 in
theorem ggX4_comes_X4_finding : GoodIn wsX4_comes wsX4_finding := goodIn_r _ [14, 15, 16, 81, 82, 83, 84, 85, 86, 87] (by decide +kernel) (by decide +kernel)
set_option maxRecDepth 20000 in
theorem gX4_comes_X4_finding : GoodIn wsX4_comes (wsV RX4 52 RX4 yX4_finding wsX4_finding) := goodIn_app (goodIn_of _ (by decide +kernel)) ggX4_comes_X4_finding
set_option maxRecDepth 20000 in
theorem ggX4_comes_X4_lookAhead : GoodIn wsX4_comes wsX4_lookAhead := goodIn_r _ [20, 1, 7, 21, 22, 23, 24, 25, 26, 27, 28, 29, 30, 31, 32, 33, 34, 35, 36, 37, 38, 39, 40, 41, 42, 81, 82, 83, 84, 85, 86, 87, 88, 89, 90, 91, 92, 93, 94, 95, 96, 97, 98, 99, 100, 101] (by decide +kernel) (by decide +kernel)
set_option maxRecDepth 20000 in
theorem gX4_comes_X4_lookAhead : GoodIn wsX4_comes (wsV RX4 130 RX4 yX4_lookAhead wsX4_lookAhead) := goodIn_app (goodIn_of _ (by decide +kernel)) ggX4_comes_X4_lookAhead
set_option maxRecDepth 20000 in
theorem ggX4_comes_X0_passHour : GoodIn wsX4_comes wsX0_passHour := goodIn_r _ [45, 29, 30, 25, 46, 47, 48, 22, 49, 50, 51, 52, 53, 54, 55, 56, 57, 28, 58, 59, 60, 61, 62, 32, 63, 64, 37, 36, 65, 66, 67, 68, 26, 69, 70, 71, 72, 73, 74, 75, 76, 27, 77, 78, 79, 80, 88, 89, 90, 91, 92, 93, 94, 95, 96, 97, 98, 99, 100, 101] (by decide +kernel) (by decide +kernel)
set_option maxRecDepth 20000 in
theorem gX4_comes_X0_passHour_n136 : GoodIn wsX4_comes (wsX0_passHour) := ggX4_comes_X0_passHour
theorem dX4_comes_0 : decode cX4_comes 0 = .ok (.aload_n 0, 1) := by decide +kernel
theorem dX4_comes_1 : decode cX4_comes 1 = .ok (.iload_n 1, 1) := by decide +kernel
theorem dX4_comes_2 : decode cX4_comes 2 = .ok (.invokevirtual 85, 3) := by decide +kernel
theorem dX4_comes_5 : decode cX4_comes 5 = .ok (.ifCond .eq 13, 3) := by decide +kernel
theorem dX4_comes_8 : decode cX4_comes 8 = .ok (.iload_n 2, 1) := by decide +kernel
theorem dX4_comes_9 : decode cX4_comes 9 = .ok (.iconst 0, 1) := by decide +kernel
theorem dX4_comes_10 : decode cX4_comes 10 = .ok (.bipush 12, 2) := by decide +kernel
theorem dX4_comes_12 : decode cX4_comes 12 = .ok (.invokestatic 44, 3) := by decide +kernel
theorem dX4_comes_15 : decode cX4_comes 15 = .ok (.ifCond .ne 9, 3) := by decide +kernel
theorem dX4_comes_18 : decode cX4_comes 18 = .ok (.aload_n 0, 1) := by decide +kernel
theorem dX4_comes_19 : decode cX4_comes 19 = .ok (.iconst 0, 1) := by decide +kernel
theorem dX4_comes_20 : decode cX4_comes 20 = .ok (.invokevirtual 52, 3) := by decide +kernel
theorem dX4_comes_23 : decode cX4_comes 23 = .ok (.ireturn, 1) := by decide +kernel
theorem dX4_comes_24 : decode cX4_comes 24 = .ok (.aload_n 0, 1) := by decide +kernel
theorem dX4_comes_25 : decode cX4_comes 25 = .ok (.invokevirtual 130, 3) := by decide +kernel
theorem dX4_comes_28 : decode cX4_comes 28 = .ok (.aload_n 0, 1) := by decide +kernel
theorem dX4_comes_29 : decode cX4_comes 29 = .ok (.getfield 16, 3) := by decide +kernel
theorem dX4_comes_32 : decode cX4_comes 32 = .ok (.getfield 68, 3) := by decide +kernel
theorem dX4_comes_35 : decode cX4_comes 35 = .ok (.iload_n 1, 1) := by decide +kernel
theorem dX4_comes_36 : decode cX4_comes 36 = .ok (.aaload, 1) := by decide +kernel
theorem dX4_comes_37 : decode cX4_comes 37 = .ok (.astore_n 3, 1) := by decide +kernel
theorem dX4_comes_38 : decode cX4_comes 38 = .ok (.iconst 0, 1) := by decide +kernel
theorem dX4_comes_39 : decode cX4_comes 39 = .ok (.istore 4, 2) := by decide +kernel
theorem dX4_comes_41 : decode cX4_comes 41 = .ok (.iload 4, 2) := by decide +kernel
theorem dX4_comes_43 : decode cX4_comes 43 = .ok (.sipush 200, 3) := by decide +kernel
theorem dX4_comes_46 : decode cX4_comes 46 = .ok (.if_icmp .gt 27, 3) := by decide +kernel
theorem dX4_comes_49 : decode cX4_comes 49 = .ok (.aload_n 3, 1) := by decide +kernel
theorem dX4_comes_50 : decode cX4_comes 50 = .ok (.getfield 72, 3) := by decide +kernel
theorem dX4_comes_53 : decode cX4_comes 53 = .ok (.iload_n 2, 1) := by decide +kernel
theorem dX4_comes_54 : decode cX4_comes 54 = .ok (.if_icmp .ne 6, 3) := by decide +kernel
theorem dX4_comes_57 : decode cX4_comes 57 = .ok (.iload 4, 2) := by decide +kernel
theorem dX4_comes_59 : decode cX4_comes 59 = .ok (.ireturn, 1) := by decide +kernel
theorem dX4_comes_60 : decode cX4_comes 60 = .ok (.aload_n 0, 1) := by decide +kernel
theorem dX4_comes_61 : decode cX4_comes 61 = .ok (.getfield 16, 3) := by decide +kernel
theorem dX4_comes_64 : decode cX4_comes 64 = .ok (.invokevirtual 136, 3) := by decide +kernel
theorem dX4_comes_67 : decode cX4_comes 67 = .ok (.iinc 4 1, 3) := by decide +kernel
theorem dX4_comes_70 : decode cX4_comes 70 = .ok (.goto (-29), 3) := by decide +kernel
theorem dX4_comes_73 : decode cX4_comes 73 = .ok (.aload_n 0, 1) := by decide +kernel
theorem dX4_comes_74 : decode cX4_comes 74 = .ok (.iconst 3, 1) := by decide +kernel
theorem dX4_comes_75 : decode cX4_comes 75 = .ok (.invokevirtual 52, 3) := by decide +kernel
theorem dX4_comes_78 : decode cX4_comes 78 = .ok (.ireturn, 1) := by decide +kernel
set_option maxRecDepth 20000 in
theorem ggX4_meet_X4_areTwo : GoodIn wsX4_meet wsX4_areTwo := goodIn_r _ [6, 7, 8, 9, 5, 10, 11, 12, 13, 14, 85, 86, 87, 88, 89, 90, 91, 92, 93, 94, 95, 96, 97] (by decide +kernel) (by decide +kernel)
set_option maxRecDepth 20000 in
theorem gX4_meet_X4_areTwo : GoodIn wsX4_meet (wsV RX4 139 RX4 yX4_areTwo wsX4_areTwo) := goodIn_app (goodIn_of _ (by decide +kernel)) ggX4_meet_X4_areTwo
set_option maxRecDepth 20000 in
theorem ggX4_meet_X4_finding : GoodIn wsX4_meet wsX4_finding := goodIn_r _ [18, 19, 20, 85, 86, 87, 88, 89, 90, 91] (by decide +kernel) (by decide +kernel)
set_option maxRecDepth 20000 in
theorem gX4_meet_X4_finding : GoodIn wsX4_meet (wsV RX4 52 RX4 yX4_finding wsX4_finding) := goodIn_app (goodIn_of _ (by decide +kernel)) ggX4_meet_X4_finding
set_option maxRecDepth 20000 in
theorem ggX4_meet_X4_lookAhead : GoodIn wsX4_meet wsX4_lookAhead := goodIn_r _ [24, 1, 11, 25, 26, 27, 28, 29, 30, 31, 32, 33, 34, 35, 36, 37, 38, 39, 40, 41, 42, 43, 44, 45, 46, 85, 86, 87, 88, 89, 90, 91, 92, 93, 94, 95, 96, 97, 98, 99, 100, 101, 102, 103, 104, 105] (by decide +kernel) (by decide +kernel)
set_option maxRecDepth 20000 in
theorem gX4_meet_X4_lookAhead : GoodIn wsX4_meet (wsV RX4 130 RX4 yX4_lookAhead wsX4_lookAhead) := goodIn_app (goodIn_of _ (by decide +kernel)) ggX4_meet_X4_lookAhead
set_option maxRecDepth 20000 in
theorem ggX4_meet_X0_passHour : GoodIn wsX4_meet wsX0_passHour := goodIn_r _ [49, 33, 34, 29, 50, 51, 52, 26, 53, 54, 55, 56, 57, 58, 59, 60, 61, 32, 62, 63, 64, 65, 66, 36, 67, 68, 41, 40, 69, 70, 71, 72, 30, 73, 74, 75, 76, 77, 78, 79, 80, 31, 81, 82, 83, 84, 92, 93, 94, 95, 96, 97, 98, 99, 100, 101, 102, 103, 104, 105] (by decide +kernel) (by decide +kernel)
set_option maxRecDepth 20000 in
theorem gX4_meet_X0_passHour_n136 : GoodIn wsX4_meet (wsX0_passHour) := ggX4_meet_X0_passHour
theorem dX4_meet_0 : decode cX4_meet 0 = .ok (.aload_n 0, 1) := by decide +kernel
theorem dX4_meet_1 : decode cX4_meet 1 = .ok (.iload_n 1, 1) := by decide +kernel
theorem dX4_meet_2 : decode cX4_meet 2 = .ok (.iload_n 2, 1) := by decide +kernel
theorem dX4_meet_3 : decode cX4_meet 3 = .ok (.invokevirtual 139, 3) := by decide +kernel
theorem dX4_meet_6 : decode cX4_meet 6 = .ok (.ifCond .ne 9, 3) := by decide +kernel
theorem dX4_meet_9 : decode cX4_meet 9 = .ok (.aload_n 0, 1) := by decide +kernel
theorem dX4_meet_10 : decode cX4_meet 10 = .ok (.iconst 0, 1) := by decide +kernel
theorem dX4_meet_11 : decode cX4_meet 11 = .ok (.invokevirtual 52, 3) := by decide +kernel
theorem dX4_meet_14 : decode cX4_meet 14 = .ok (.ireturn, 1) := by decide +kernel
theorem dX4_meet_15 : decode cX4_meet 15 = .ok (.aload_n 0, 1) := by decide +kernel
theorem dX4_meet_16 : decode cX4_meet 16 = .ok (.invokevirtual 130, 3) := by decide +kernel
theorem dX4_meet_19 : decode cX4_meet 19 = .ok (.aload_n 0, 1) := by decide +kernel
theorem dX4_meet_20 : decode cX4_meet 20 = .ok (.getfield 16, 3) := by decide +kernel
theorem dX4_meet_23 : decode cX4_meet 23 = .ok (.getfield 68, 3) := by decide +kernel
theorem dX4_meet_26 : decode cX4_meet 26 = .ok (.iload_n 1, 1) := by decide +kernel
theorem dX4_meet_27 : decode cX4_meet 27 = .ok (.aaload, 1) := by decide +kernel
theorem dX4_meet_28 : decode cX4_meet 28 = .ok (.astore_n 3, 1) := by decide +kernel
theorem dX4_meet_29 : decode cX4_meet 29 = .ok (.aload_n 0, 1) := by decide +kernel
theorem dX4_meet_30 : decode cX4_meet 30 = .ok (.getfield 16, 3) := by decide +kernel
theorem dX4_meet_33 : decode cX4_meet 33 = .ok (.getfield 68, 3) := by decide +kernel
theorem dX4_meet_36 : decode cX4_meet 36 = .ok (.iload_n 2, 1) := by decide +kernel
theorem dX4_meet_37 : decode cX4_meet 37 = .ok (.aaload, 1) := by decide +kernel
theorem dX4_meet_38 : decode cX4_meet 38 = .ok (.astore 4, 2) := by decide +kernel
theorem dX4_meet_40 : decode cX4_meet 40 = .ok (.iconst 0, 1) := by decide +kernel
theorem dX4_meet_41 : decode cX4_meet 41 = .ok (.istore 5, 2) := by decide +kernel
theorem dX4_meet_43 : decode cX4_meet 43 = .ok (.iload 5, 2) := by decide +kernel
theorem dX4_meet_45 : decode cX4_meet 45 = .ok (.sipush 200, 3) := by decide +kernel
theorem dX4_meet_48 : decode cX4_meet 48 = .ok (.if_icmp .gt 31, 3) := by decide +kernel
theorem dX4_meet_51 : decode cX4_meet 51 = .ok (.aload_n 3, 1) := by decide +kernel
theorem dX4_meet_52 : decode cX4_meet 52 = .ok (.getfield 72, 3) := by decide +kernel
theorem dX4_meet_55 : decode cX4_meet 55 = .ok (.aload 4, 2) := by decide +kernel
theorem dX4_meet_57 : decode cX4_meet 57 = .ok (.getfield 72, 3) := by decide +kernel
theorem dX4_meet_60 : decode cX4_meet 60 = .ok (.if_icmp .ne 6, 3) := by decide +kernel
theorem dX4_meet_63 : decode cX4_meet 63 = .ok (.iload 5, 2) := by decide +kernel
theorem dX4_meet_65 : decode cX4_meet 65 = .ok (.ireturn, 1) := by decide +kernel
theorem dX4_meet_66 : decode cX4_meet 66 = .ok (.aload_n 0, 1) := by decide +kernel
theorem dX4_meet_67 : decode cX4_meet 67 = .ok (.getfield 16, 3) := by decide +kernel
theorem dX4_meet_70 : decode cX4_meet 70 = .ok (.invokevirtual 136, 3) := by decide +kernel
theorem dX4_meet_73 : decode cX4_meet 73 = .ok (.iinc 5 1, 3) := by decide +kernel
theorem dX4_meet_76 : decode cX4_meet 76 = .ok (.goto (-33), 3) := by decide +kernel
theorem dX4_meet_79 : decode cX4_meet 79 = .ok (.aload_n 0, 1) := by decide +kernel
theorem dX4_meet_80 : decode cX4_meet 80 = .ok (.iconst 3, 1) := by decide +kernel
theorem dX4_meet_81 : decode cX4_meet 81 = .ok (.invokevirtual 52, 3) := by decide +kernel
theorem dX4_meet_84 : decode cX4_meet 84 = .ok (.ireturn, 1) := by decide +kernel
set_option maxRecDepth 20000 in
theorem ggX4_worn_X4_isThere : GoodIn wsX4_worn wsX4_isThere := goodIn_r _ [6, 7, 8, 9, 5, 10, 81, 82, 83, 84, 85, 86, 87, 88, 89, 90, 91, 92, 93] (by decide +kernel) (by decide +kernel)
set_option maxRecDepth 20000 in
theorem gX4_worn_X4_isThere : GoodIn wsX4_worn (wsV RX4 85 RX4 yX4_isThere wsX4_isThere) := goodIn_app (goodIn_of _ (by decide +kernel)) ggX4_worn_X4_isThere
set_option maxRecDepth 20000 in
theorem ggX4_worn_X4_finding : GoodIn wsX4_worn wsX4_finding := goodIn_r _ [14, 15, 16, 81, 82, 83, 84, 85, 86, 87] (by decide +kernel) (by decide +kernel)
set_option maxRecDepth 20000 in
theorem gX4_worn_X4_finding : GoodIn wsX4_worn (wsV RX4 52 RX4 yX4_finding wsX4_finding) := goodIn_app (goodIn_of _ (by decide +kernel)) ggX4_worn_X4_finding
set_option maxRecDepth 20000 in
theorem ggX4_worn_X4_lookAhead : GoodIn wsX4_worn wsX4_lookAhead := goodIn_r _ [20, 1, 7, 21, 22, 23, 24, 25, 26, 27, 28, 29, 30, 31, 32, 33, 34, 35, 36, 37, 38, 39, 40, 41, 42, 81, 82, 83, 84, 85, 86, 87, 88, 89, 90, 91, 92, 93, 94, 95, 96, 97, 98, 99, 100, 101] (by decide +kernel) (by decide +kernel)
set_option maxRecDepth 20000 in
theorem gX4_worn_X4_lookAhead : GoodIn wsX4_worn (wsV RX4 130 RX4 yX4_lookAhead wsX4_lookAhead) := goodIn_app (goodIn_of _ (by decide +kernel)) ggX4_worn_X4_lookAhead
set_option maxRecDepth 20000 in
theorem ggX4_worn_X0_passHour : GoodIn wsX4_worn wsX0_passHour := goodIn_r _ [45, 29, 30, 25, 46, 47, 48, 22, 49, 50, 51, 52, 53, 54, 55, 56, 57, 28, 58, 59, 60, 61, 62, 32, 63, 64, 37, 36, 65, 66, 67, 68, 26, 69, 70, 71, 72, 73, 74, 75, 76, 27, 77, 78, 79, 80, 88, 89, 90, 91, 92, 93, 94, 95, 96, 97, 98, 99, 100, 101] (by decide +kernel) (by decide +kernel)
set_option maxRecDepth 20000 in
theorem gX4_worn_X0_passHour_n136 : GoodIn wsX4_worn (wsX0_passHour) := ggX4_worn_X0_passHour
theorem dX4_worn_0 : decode cX4_worn 0 = .ok (.aload_n 0, 1) := by decide +kernel
theorem dX4_worn_1 : decode cX4_worn 1 = .ok (.iload_n 1, 1) := by decide +kernel
theorem dX4_worn_2 : decode cX4_worn 2 = .ok (.invokevirtual 85, 3) := by decide +kernel
theorem dX4_worn_5 : decode cX4_worn 5 = .ok (.ifCond .ne 9, 3) := by decide +kernel
theorem dX4_worn_8 : decode cX4_worn 8 = .ok (.aload_n 0, 1) := by decide +kernel
theorem dX4_worn_9 : decode cX4_worn 9 = .ok (.iconst 0, 1) := by decide +kernel
theorem dX4_worn_10 : decode cX4_worn 10 = .ok (.invokevirtual 52, 3) := by decide +kernel
theorem dX4_worn_13 : decode cX4_worn 13 = .ok (.ireturn, 1) := by decide +kernel
theorem dX4_worn_14 : decode cX4_worn 14 = .ok (.aload_n 0, 1) := by decide +kernel
theorem dX4_worn_15 : decode cX4_worn 15 = .ok (.invokevirtual 130, 3) := by decide +kernel
theorem dX4_worn_18 : decode cX4_worn 18 = .ok (.aload_n 0, 1) := by decide +kernel
theorem dX4_worn_19 : decode cX4_worn 19 = .ok (.getfield 16, 3) := by decide +kernel
theorem dX4_worn_22 : decode cX4_worn 22 = .ok (.getfield 68, 3) := by decide +kernel
theorem dX4_worn_25 : decode cX4_worn 25 = .ok (.iload_n 1, 1) := by decide +kernel
theorem dX4_worn_26 : decode cX4_worn 26 = .ok (.aaload, 1) := by decide +kernel
theorem dX4_worn_27 : decode cX4_worn 27 = .ok (.astore_n 2, 1) := by decide +kernel
theorem dX4_worn_28 : decode cX4_worn 28 = .ok (.iconst 0, 1) := by decide +kernel
theorem dX4_worn_29 : decode cX4_worn 29 = .ok (.istore_n 3, 1) := by decide +kernel
theorem dX4_worn_30 : decode cX4_worn 30 = .ok (.iload_n 3, 1) := by decide +kernel
theorem dX4_worn_31 : decode cX4_worn 31 = .ok (.sipush 200, 3) := by decide +kernel
theorem dX4_worn_34 : decode cX4_worn 34 = .ok (.if_icmp .gt 25, 3) := by decide +kernel
theorem dX4_worn_37 : decode cX4_worn 37 = .ok (.aload_n 2, 1) := by decide +kernel
theorem dX4_worn_38 : decode cX4_worn 38 = .ok (.getfield 113, 3) := by decide +kernel
theorem dX4_worn_41 : decode cX4_worn 41 = .ok (.ifCond .ne 5, 3) := by decide +kernel
theorem dX4_worn_44 : decode cX4_worn 44 = .ok (.iload_n 3, 1) := by decide +kernel
theorem dX4_worn_45 : decode cX4_worn 45 = .ok (.ireturn, 1) := by decide +kernel
theorem dX4_worn_46 : decode cX4_worn 46 = .ok (.aload_n 0, 1) := by decide +kernel
theorem dX4_worn_47 : decode cX4_worn 47 = .ok (.getfield 16, 3) := by decide +kernel
theorem dX4_worn_50 : decode cX4_worn 50 = .ok (.invokevirtual 136, 3) := by decide +kernel
theorem dX4_worn_53 : decode cX4_worn 53 = .ok (.iinc 3 1, 3) := by decide +kernel
theorem dX4_worn_56 : decode cX4_worn 56 = .ok (.goto (-26), 3) := by decide +kernel
theorem dX4_worn_59 : decode cX4_worn 59 = .ok (.aload_n 0, 1) := by decide +kernel
theorem dX4_worn_60 : decode cX4_worn 60 = .ok (.iconst 3, 1) := by decide +kernel
theorem dX4_worn_61 : decode cX4_worn 61 = .ok (.invokevirtual 52, 3) := by decide +kernel
theorem dX4_worn_64 : decode cX4_worn 64 = .ok (.ireturn, 1) := by decide +kernel
set_option maxRecDepth 20000 in
theorem ggX4_stop_X4_within : GoodIn wsX4_stop wsX4_within := goodIn_r _ [5] (by decide +kernel) (by decide +kernel)
set_option maxRecDepth 20000 in
theorem gX4_stop_X4_within : GoodIn wsX4_stop (va_wsS RX4 44 yX4_within wsX4_within) := goodIn_app (goodIn_of _ (by decide +kernel)) ggX4_stop_X4_within
set_option maxRecDepth 20000 in
theorem ggX4_stop_X4_finding : GoodIn wsX4_stop wsX4_finding := goodIn_r _ [9, 10, 11, 94, 95, 96, 97, 98, 99, 100] (by decide +kernel) (by decide +kernel)
set_option maxRecDepth 20000 in
theorem gX4_stop_X4_finding : GoodIn wsX4_stop (wsV RX4 52 RX4 yX4_finding wsX4_finding) := goodIn_app (goodIn_of _ (by decide +kernel)) ggX4_stop_X4_finding
set_option maxRecDepth 20000 in
theorem ggX4_stop_X0_setWith : GoodIn wsX4_stop wsX0_setWith := goodIn_r _ [15, 16, 17, 18, 19, 20, 21, 22, 23, 24, 25, 26, 27, 28, 29, 101, 102, 103, 104, 105, 106, 107, 108, 109, 110, 111, 112, 113, 114] (by decide +kernel) (by decide +kernel)
set_option maxRecDepth 20000 in
theorem gX4_stop_X0_setWith_n127 : GoodIn wsX4_stop (wsX0_setWith) := ggX4_stop_X0_setWith
set_option maxRecDepth 20000 in
theorem ggX4_stop_J6_bitCount_0f7a4 : GoodIn wsX4_stop wsJ6_bitCount_0f7a4 := goodIn_r _ [33, 34, 35, 36] (by decide +kernel) (by decide +kernel)
set_option maxRecDepth 20000 in
theorem gX4_stop_J6_bitCount_0f7a4 : GoodIn wsX4_stop (va_wsS RX4 142 yJ6_bitCount_0f7a4 wsJ6_bitCount_0f7a4) := goodIn_app (goodIn_of _ (by decide +kernel)) ggX4_stop_J6_bitCount_0f7a4
set_option maxRecDepth 20000 in
theorem ggX4_stop_X4_lastsWithout : GoodIn wsX4_stop wsX4_lastsWithout := goodIn_r _ [40, 41, 42, 43, 44, 4, 45, 1, 46, 13, 47, 48, 49, 50, 51, 52, 16, 17, 53, 19, 54, 55, 29, 22, 23, 24, 25, 26, 27, 28, 56, 57, 58, 59, 60, 61, 62, 63, 64, 65, 66, 67, 68, 69, 70, 71, 72, 73, 74, 75, 76, 77, 78, 79, 80, 81, 82, 83, 84, 85, 86, 87, 88, 89, 90, 91, 92, 93, 94, 95, 96, 97, 98, 99, 100, 101, 102, 103, 104, 105, 106, 107, 108, 109, 110, 111, 112, 113, 114] (by decide +kernel) (by decide +kernel)
set_option maxRecDepth 20000 in
theorem gX4_stop_X4_lastsWithout : GoodIn wsX4_stop (wsV RX4 147 RX4 yX4_lastsWithout wsX4_lastsWithout) := goodIn_app (goodIn_of _ (by decide +kernel)) ggX4_stop_X4_lastsWithout
theorem dX4_stop_0 : decode cX4_stop 0 = .ok (.iload_n 1, 1) := by decide +kernel
theorem dX4_stop_1 : decode cX4_stop 1 = .ok (.iconst 1, 1) := by decide +kernel
theorem dX4_stop_2 : decode cX4_stop 2 = .ok (.bipush 60, 2) := by decide +kernel
theorem dX4_stop_4 : decode cX4_stop 4 = .ok (.invokestatic 44, 3) := by decide +kernel
theorem dX4_stop_7 : decode cX4_stop 7 = .ok (.ifCond .ne 9, 3) := by decide +kernel
theorem dX4_stop_10 : decode cX4_stop 10 = .ok (.aload_n 0, 1) := by decide +kernel
theorem dX4_stop_11 : decode cX4_stop 11 = .ok (.iconst 0, 1) := by decide +kernel
theorem dX4_stop_12 : decode cX4_stop 12 = .ok (.invokevirtual 52, 3) := by decide +kernel
theorem dX4_stop_15 : decode cX4_stop 15 = .ok (.ireturn, 1) := by decide +kernel
theorem dX4_stop_16 : decode cX4_stop 16 = .ok (.aload_n 0, 1) := by decide +kernel
theorem dX4_stop_17 : decode cX4_stop 17 = .ok (.getfield 10, 3) := by decide +kernel
theorem dX4_stop_20 : decode cX4_stop 20 = .ok (.bipush 7, 2) := by decide +kernel
theorem dX4_stop_22 : decode cX4_stop 22 = .ok (.invokevirtual 127, 3) := by decide +kernel
theorem dX4_stop_25 : decode cX4_stop 25 = .ok (.istore_n 2, 1) := by decide +kernel
theorem dX4_stop_26 : decode cX4_stop 26 = .ok (.iconst 0, 1) := by decide +kernel
theorem dX4_stop_27 : decode cX4_stop 27 = .ok (.istore_n 3, 1) := by decide +kernel
theorem dX4_stop_28 : decode cX4_stop 28 = .ok (.iload_n 3, 1) := by decide +kernel
theorem dX4_stop_29 : decode cX4_stop 29 = .ok (.aload_n 0, 1) := by decide +kernel
theorem dX4_stop_30 : decode cX4_stop 30 = .ok (.getfield 10, 3) := by decide +kernel
theorem dX4_stop_33 : decode cX4_stop 33 = .ok (.getfield 65, 3) := by decide +kernel
theorem dX4_stop_36 : decode cX4_stop 36 = .ok (.if_icmp .gt 61, 3) := by decide +kernel
theorem dX4_stop_39 : decode cX4_stop 39 = .ok (.iconst 0, 1) := by decide +kernel
theorem dX4_stop_40 : decode cX4_stop 40 = .ok (.istore 4, 2) := by decide +kernel
theorem dX4_stop_42 : decode cX4_stop 42 = .ok (.iload 4, 2) := by decide +kernel
theorem dX4_stop_44 : decode cX4_stop 44 = .ok (.iconst 1, 1) := by decide +kernel
theorem dX4_stop_45 : decode cX4_stop 45 = .ok (.aload_n 0, 1) := by decide +kernel
theorem dX4_stop_46 : decode cX4_stop 46 = .ok (.getfield 10, 3) := by decide +kernel
theorem dX4_stop_49 : decode cX4_stop 49 = .ok (.getfield 65, 3) := by decide +kernel
theorem dX4_stop_52 : decode cX4_stop 52 = .ok (.ishl, 1) := by decide +kernel
theorem dX4_stop_53 : decode cX4_stop 53 = .ok (.if_icmp .ge 38, 3) := by decide +kernel
theorem dX4_stop_56 : decode cX4_stop 56 = .ok (.iload 4, 2) := by decide +kernel
theorem dX4_stop_58 : decode cX4_stop 58 = .ok (.invokestatic 142, 3) := by decide +kernel
theorem dX4_stop_61 : decode cX4_stop 61 = .ok (.iload_n 3, 1) := by decide +kernel
theorem dX4_stop_62 : decode cX4_stop 62 = .ok (.if_icmp .ne 23, 3) := by decide +kernel
theorem dX4_stop_65 : decode cX4_stop 65 = .ok (.iload 4, 2) := by decide +kernel
theorem dX4_stop_67 : decode cX4_stop 67 = .ok (.iload_n 2, 1) := by decide +kernel
theorem dX4_stop_68 : decode cX4_stop 68 = .ok (.iand, 1) := by decide +kernel
theorem dX4_stop_69 : decode cX4_stop 69 = .ok (.ifCond .ne 16, 3) := by decide +kernel
theorem dX4_stop_72 : decode cX4_stop 72 = .ok (.aload_n 0, 1) := by decide +kernel
theorem dX4_stop_73 : decode cX4_stop 73 = .ok (.iload 4, 2) := by decide +kernel
theorem dX4_stop_75 : decode cX4_stop 75 = .ok (.iload_n 1, 1) := by decide +kernel
theorem dX4_stop_76 : decode cX4_stop 76 = .ok (.invokevirtual 147, 3) := by decide +kernel
theorem dX4_stop_79 : decode cX4_stop 79 = .ok (.ifCond .eq 6, 3) := by decide +kernel
theorem dX4_stop_82 : decode cX4_stop 82 = .ok (.iload 4, 2) := by decide +kernel
theorem dX4_stop_84 : decode cX4_stop 84 = .ok (.ireturn, 1) := by decide +kernel
theorem dX4_stop_85 : decode cX4_stop 85 = .ok (.iinc 4 1, 3) := by decide +kernel
theorem dX4_stop_88 : decode cX4_stop 88 = .ok (.goto (-46), 3) := by decide +kernel
theorem dX4_stop_91 : decode cX4_stop 91 = .ok (.iinc 3 1, 3) := by decide +kernel
theorem dX4_stop_94 : decode cX4_stop 94 = .ok (.goto (-66), 3) := by decide +kernel
theorem dX4_stop_97 : decode cX4_stop 97 = .ok (.aload_n 0, 1) := by decide +kernel
theorem dX4_stop_98 : decode cX4_stop 98 = .ok (.iconst 3, 1) := by decide +kernel
theorem dX4_stop_99 : decode cX4_stop 99 = .ok (.invokevirtual 52, 3) := by decide +kernel
theorem dX4_stop_102 : decode cX4_stop 102 = .ok (.ireturn, 1) := by decide +kernel
set_option maxRecDepth 20000 in
theorem ggX4_penny_X4_within : GoodIn wsX4_penny wsX4_within := goodIn_r _ [6] (by decide +kernel) (by decide +kernel)
set_option maxRecDepth 20000 in
theorem gX4_penny_X4_within : GoodIn wsX4_penny (va_wsS RX4 44 yX4_within wsX4_within) := goodIn_app (goodIn_of _ (by decide +kernel)) ggX4_penny_X4_within
set_option maxRecDepth 20000 in
theorem ggX4_penny_X4_finding : GoodIn wsX4_penny wsX4_finding := goodIn_r _ [10, 11, 12, 82, 83, 84, 85, 86, 87, 88] (by decide +kernel) (by decide +kernel)
set_option maxRecDepth 20000 in
theorem gX4_penny_X4_finding : GoodIn wsX4_penny (wsV RX4 52 RX4 yX4_finding wsX4_finding) := goodIn_app (goodIn_of _ (by decide +kernel)) ggX4_penny_X4_finding
set_option maxRecDepth 20000 in
theorem ggX4_penny_X4_lookAhead : GoodIn wsX4_penny wsX4_lookAhead := goodIn_r _ [16, 2, 17, 18, 19, 20, 21, 22, 23, 24, 25, 26, 27, 28, 29, 30, 31, 32, 33, 34, 35, 36, 37, 38, 39, 82, 83, 84, 85, 86, 87, 88, 89, 90, 91, 92, 93, 94, 95, 96, 97, 98, 99, 100, 101, 102] (by decide +kernel) (by decide +kernel)
set_option maxRecDepth 20000 in
theorem gX4_penny_X4_lookAhead : GoodIn wsX4_penny (wsV RX4 130 RX4 yX4_lookAhead wsX4_lookAhead) := goodIn_app (goodIn_of _ (by decide +kernel)) ggX4_penny_X4_lookAhead
set_option maxRecDepth 20000 in
theorem ggX4_penny_X0_passHours : GoodIn wsX4_penny wsX0_passHours := goodIn_r _ [42, 43, 44, 45, 19, 46, 26, 27, 22, 47, 48, 49, 50, 51, 52, 53, 54, 55, 56, 57, 58, 25, 59, 60, 61, 62, 63, 29, 64, 65, 34, 33, 66, 67, 68, 69, 23, 70, 71, 72, 73, 74, 75, 76, 77, 24, 78, 79, 80, 81, 89, 90, 91, 92, 93, 94, 95, 96, 97, 98, 99, 100, 101, 102] (by decide +kernel) (by decide +kernel)
set_option maxRecDepth 20000 in
theorem gX4_penny_X0_passHours_n120 : GoodIn wsX4_penny (wsX0_passHours) := ggX4_penny_X0_passHours
theorem dX4_penny_0 : decode cX4_penny 0 = .ok (.iload_n 1, 1) := by decide +kernel
theorem dX4_penny_1 : decode cX4_penny 1 = .ok (.iconst 1, 1) := by decide +kernel
theorem dX4_penny_2 : decode cX4_penny 2 = .ok (.bipush 100, 2) := by decide +kernel
theorem dX4_penny_4 : decode cX4_penny 4 = .ok (.invokestatic 44, 3) := by decide +kernel
theorem dX4_penny_7 : decode cX4_penny 7 = .ok (.ifCond .eq 13, 3) := by decide +kernel
theorem dX4_penny_10 : decode cX4_penny 10 = .ok (.iload_n 2, 1) := by decide +kernel
theorem dX4_penny_11 : decode cX4_penny 11 = .ok (.iconst 0, 1) := by decide +kernel
theorem dX4_penny_12 : decode cX4_penny 12 = .ok (.ldc 150, 2) := by decide +kernel
theorem dX4_penny_14 : decode cX4_penny 14 = .ok (.invokestatic 44, 3) := by decide +kernel
theorem dX4_penny_17 : decode cX4_penny 17 = .ok (.ifCond .ne 9, 3) := by decide +kernel
theorem dX4_penny_20 : decode cX4_penny 20 = .ok (.aload_n 0, 1) := by decide +kernel
theorem dX4_penny_21 : decode cX4_penny 21 = .ok (.iconst 0, 1) := by decide +kernel
theorem dX4_penny_22 : decode cX4_penny 22 = .ok (.invokevirtual 52, 3) := by decide +kernel
theorem dX4_penny_25 : decode cX4_penny 25 = .ok (.ireturn, 1) := by decide +kernel
theorem dX4_penny_26 : decode cX4_penny 26 = .ok (.bipush 20, 2) := by decide +kernel
theorem dX4_penny_28 : decode cX4_penny 28 = .ok (.istore_n 3, 1) := by decide +kernel
theorem dX4_penny_29 : decode cX4_penny 29 = .ok (.iload_n 3, 1) := by decide +kernel
theorem dX4_penny_30 : decode cX4_penny 30 = .ok (.ifCond .lt 42, 3) := by decide +kernel
theorem dX4_penny_33 : decode cX4_penny 33 = .ok (.aload_n 0, 1) := by decide +kernel
theorem dX4_penny_34 : decode cX4_penny 34 = .ok (.invokevirtual 130, 3) := by decide +kernel
theorem dX4_penny_37 : decode cX4_penny 37 = .ok (.aload_n 0, 1) := by decide +kernel
theorem dX4_penny_38 : decode cX4_penny 38 = .ok (.getfield 16, 3) := by decide +kernel
theorem dX4_penny_41 : decode cX4_penny 41 = .ok (.iload_n 3, 1) := by decide +kernel
theorem dX4_penny_42 : decode cX4_penny 42 = .ok (.putfield 59, 3) := by decide +kernel
theorem dX4_penny_45 : decode cX4_penny 45 = .ok (.aload_n 0, 1) := by decide +kernel
theorem dX4_penny_46 : decode cX4_penny 46 = .ok (.getfield 16, 3) := by decide +kernel
theorem dX4_penny_49 : decode cX4_penny 49 = .ok (.iload_n 1, 1) := by decide +kernel
theorem dX4_penny_50 : decode cX4_penny 50 = .ok (.invokevirtual 120, 3) := by decide +kernel
theorem dX4_penny_53 : decode cX4_penny 53 = .ok (.aload_n 0, 1) := by decide +kernel
theorem dX4_penny_54 : decode cX4_penny 54 = .ok (.getfield 16, 3) := by decide +kernel
theorem dX4_penny_57 : decode cX4_penny 57 = .ok (.getfield 55, 3) := by decide +kernel
theorem dX4_penny_60 : decode cX4_penny 60 = .ok (.iload_n 2, 1) := by decide +kernel
theorem dX4_penny_61 : decode cX4_penny 61 = .ok (.if_icmp .lt 5, 3) := by decide +kernel
theorem dX4_penny_64 : decode cX4_penny 64 = .ok (.iload_n 3, 1) := by decide +kernel
theorem dX4_penny_65 : decode cX4_penny 65 = .ok (.ireturn, 1) := by decide +kernel
theorem dX4_penny_66 : decode cX4_penny 66 = .ok (.iinc 3 (-1), 3) := by decide +kernel
theorem dX4_penny_69 : decode cX4_penny 69 = .ok (.goto (-40), 3) := by decide +kernel
theorem dX4_penny_72 : decode cX4_penny 72 = .ok (.aload_n 0, 1) := by decide +kernel
theorem dX4_penny_73 : decode cX4_penny 73 = .ok (.iconst 3, 1) := by decide +kernel
theorem dX4_penny_74 : decode cX4_penny 74 = .ok (.invokevirtual 52, 3) := by decide +kernel
theorem dX4_penny_77 : decode cX4_penny 77 = .ok (.ireturn, 1) := by decide +kernel
set_option maxRecDepth 20000 in
theorem ggX4_reason_X4_isThere : GoodIn wsX4_reason wsX4_isThere := goodIn_r _ [7, 8, 9, 10, 6, 11, 90, 91, 92, 93, 94, 95, 96, 97, 98, 99, 100, 101, 102] (by decide +kernel) (by decide +kernel)
set_option maxRecDepth 20000 in
theorem gX4_reason_X4_isThere : GoodIn wsX4_reason (wsV RX4 85 RX4 yX4_isThere wsX4_isThere) := goodIn_app (goodIn_of _ (by decide +kernel)) ggX4_reason_X4_isThere
set_option maxRecDepth 20000 in
theorem ggX4_reason_X4_within : GoodIn wsX4_reason wsX4_within := goodIn_r _ [11] (by decide +kernel) (by decide +kernel)
set_option maxRecDepth 20000 in
theorem gX4_reason_X4_within : GoodIn wsX4_reason (va_wsS RX4 44 yX4_within wsX4_within) := goodIn_app (goodIn_of _ (by decide +kernel)) ggX4_reason_X4_within
set_option maxRecDepth 20000 in
theorem ggX4_reason_X4_finding : GoodIn wsX4_reason wsX4_finding := goodIn_r _ [15, 16, 17, 90, 91, 92, 93, 94, 95, 96] (by decide +kernel) (by decide +kernel)
set_option maxRecDepth 20000 in
theorem gX4_reason_X4_finding : GoodIn wsX4_reason (wsV RX4 52 RX4 yX4_finding wsX4_finding) := goodIn_app (goodIn_of _ (by decide +kernel)) ggX4_reason_X4_finding
set_option maxRecDepth 20000 in
theorem ggX4_reason_X4_lookAhead : GoodIn wsX4_reason wsX4_lookAhead := goodIn_r _ [21, 2, 8, 22, 23, 24, 25, 26, 27, 28, 29, 30, 31, 32, 33, 34, 35, 36, 37, 38, 39, 40, 41, 42, 43, 90, 91, 92, 93, 94, 95, 96, 97, 98, 99, 100, 101, 102, 103, 104, 105, 106, 107, 108, 109, 110] (by decide +kernel) (by decide +kernel)
set_option maxRecDepth 20000 in
theorem gX4_reason_X4_lookAhead : GoodIn wsX4_reason (wsV RX4 130 RX4 yX4_lookAhead wsX4_lookAhead) := goodIn_app (goodIn_of _ (by decide +kernel)) ggX4_reason_X4_lookAhead
set_option maxRecDepth 20000 in
theorem ggX4_reason_X4_purseAhead : GoodIn wsX4_reason wsX4_purseAhead := goodIn_r _ [47, 2, 48, 23, 49, 50, 51, 52, 53, 54, 30, 31, 26, 55, 56, 57, 58, 59, 60, 61, 62, 63, 64, 65, 66, 29, 67, 68, 69, 70, 71, 33, 72, 73, 38, 37, 74, 75, 76, 77, 27, 78, 79, 80, 81, 82, 83, 84, 85, 28, 86, 87, 88, 89, 90, 91, 92, 93, 94, 95, 96, 97, 98, 99, 100, 101, 102, 103, 104, 105, 106, 107, 108, 109, 110] (by decide +kernel) (by decide +kernel)
set_option maxRecDepth 20000 in
theorem gX4_reason_X4_purseAhead : GoodIn wsX4_reason (wsV RX4 151 RX4 yX4_purseAhead wsX4_purseAhead) := goodIn_app (goodIn_of _ (by decide +kernel)) ggX4_reason_X4_purseAhead
theorem dX4_reason_0 : decode cX4_reason 0 = .ok (.aload_n 0, 1) := by decide +kernel
theorem dX4_reason_1 : decode cX4_reason 1 = .ok (.iload_n 1, 1) := by decide +kernel
theorem dX4_reason_2 : decode cX4_reason 2 = .ok (.invokevirtual 85, 3) := by decide +kernel
theorem dX4_reason_5 : decode cX4_reason 5 = .ok (.ifCond .eq 23, 3) := by decide +kernel
theorem dX4_reason_8 : decode cX4_reason 8 = .ok (.iload_n 2, 1) := by decide +kernel
theorem dX4_reason_9 : decode cX4_reason 9 = .ok (.iconst 1, 1) := by decide +kernel
theorem dX4_reason_10 : decode cX4_reason 10 = .ok (.bipush 100, 2) := by decide +kernel
theorem dX4_reason_12 : decode cX4_reason 12 = .ok (.invokestatic 44, 3) := by decide +kernel
theorem dX4_reason_15 : decode cX4_reason 15 = .ok (.ifCond .eq 13, 3) := by decide +kernel
theorem dX4_reason_18 : decode cX4_reason 18 = .ok (.iload_n 3, 1) := by decide +kernel
theorem dX4_reason_19 : decode cX4_reason 19 = .ok (.iconst 0, 1) := by decide +kernel
theorem dX4_reason_20 : decode cX4_reason 20 = .ok (.ldc 150, 2) := by decide +kernel
theorem dX4_reason_22 : decode cX4_reason 22 = .ok (.invokestatic 44, 3) := by decide +kernel
theorem dX4_reason_25 : decode cX4_reason 25 = .ok (.ifCond .ne 9, 3) := by decide +kernel
theorem dX4_reason_28 : decode cX4_reason 28 = .ok (.aload_n 0, 1) := by decide +kernel
theorem dX4_reason_29 : decode cX4_reason 29 = .ok (.iconst 0, 1) := by decide +kernel
theorem dX4_reason_30 : decode cX4_reason 30 = .ok (.invokevirtual 52, 3) := by decide +kernel
theorem dX4_reason_33 : decode cX4_reason 33 = .ok (.ireturn, 1) := by decide +kernel
theorem dX4_reason_34 : decode cX4_reason 34 = .ok (.iconst 0, 1) := by decide +kernel
theorem dX4_reason_35 : decode cX4_reason 35 = .ok (.istore 4, 2) := by decide +kernel
theorem dX4_reason_37 : decode cX4_reason 37 = .ok (.iload 4, 2) := by decide +kernel
theorem dX4_reason_39 : decode cX4_reason 39 = .ok (.bipush 9, 2) := by decide +kernel
theorem dX4_reason_41 : decode cX4_reason 41 = .ok (.if_icmp .gt 40, 3) := by decide +kernel
theorem dX4_reason_44 : decode cX4_reason 44 = .ok (.aload_n 0, 1) := by decide +kernel
theorem dX4_reason_45 : decode cX4_reason 45 = .ok (.invokevirtual 130, 3) := by decide +kernel
theorem dX4_reason_48 : decode cX4_reason 48 = .ok (.aload_n 0, 1) := by decide +kernel
theorem dX4_reason_49 : decode cX4_reason 49 = .ok (.getfield 16, 3) := by decide +kernel
theorem dX4_reason_52 : decode cX4_reason 52 = .ok (.getfield 68, 3) := by decide +kernel
theorem dX4_reason_55 : decode cX4_reason 55 = .ok (.iload_n 1, 1) := by decide +kernel
theorem dX4_reason_56 : decode cX4_reason 56 = .ok (.aaload, 1) := by decide +kernel
theorem dX4_reason_57 : decode cX4_reason 57 = .ok (.iload 4, 2) := by decide +kernel
theorem dX4_reason_59 : decode cX4_reason 59 = .ok (.putfield 113, 3) := by decide +kernel
theorem dX4_reason_62 : decode cX4_reason 62 = .ok (.aload_n 0, 1) := by decide +kernel
theorem dX4_reason_63 : decode cX4_reason 63 = .ok (.iload_n 1, 1) := by decide +kernel
theorem dX4_reason_64 : decode cX4_reason 64 = .ok (.iload_n 2, 1) := by decide +kernel
theorem dX4_reason_65 : decode cX4_reason 65 = .ok (.invokevirtual 151, 3) := by decide +kernel
theorem dX4_reason_68 : decode cX4_reason 68 = .ok (.iload_n 3, 1) := by decide +kernel
theorem dX4_reason_69 : decode cX4_reason 69 = .ok (.if_icmp .lt 6, 3) := by decide +kernel
theorem dX4_reason_72 : decode cX4_reason 72 = .ok (.iload 4, 2) := by decide +kernel
theorem dX4_reason_74 : decode cX4_reason 74 = .ok (.ireturn, 1) := by decide +kernel
theorem dX4_reason_75 : decode cX4_reason 75 = .ok (.iinc 4 1, 3) := by decide +kernel
theorem dX4_reason_78 : decode cX4_reason 78 = .ok (.goto (-41), 3) := by decide +kernel
theorem dX4_reason_81 : decode cX4_reason 81 = .ok (.aload_n 0, 1) := by decide +kernel
theorem dX4_reason_82 : decode cX4_reason 82 = .ok (.iconst 3, 1) := by decide +kernel
theorem dX4_reason_83 : decode cX4_reason 83 = .ok (.invokevirtual 52, 3) := by decide +kernel
theorem dX4_reason_86 : decode cX4_reason 86 = .ok (.ireturn, 1) := by decide +kernel
set_option maxRecDepth 20000 in
theorem ggX4_kind_X4_isThere : GoodIn wsX4_kind wsX4_isThere := goodIn_r _ [6, 7, 8, 9, 5, 10, 89, 90, 91, 92, 93, 94, 95, 96, 97, 98, 99, 100, 101] (by decide +kernel) (by decide +kernel)
set_option maxRecDepth 20000 in
theorem gX4_kind_X4_isThere : GoodIn wsX4_kind (wsV RX4 85 RX4 yX4_isThere wsX4_isThere) := goodIn_app (goodIn_of _ (by decide +kernel)) ggX4_kind_X4_isThere
set_option maxRecDepth 20000 in
theorem ggX4_kind_X4_within : GoodIn wsX4_kind wsX4_within := goodIn_r _ [10] (by decide +kernel) (by decide +kernel)
set_option maxRecDepth 20000 in
theorem gX4_kind_X4_within : GoodIn wsX4_kind (va_wsS RX4 44 yX4_within wsX4_within) := goodIn_app (goodIn_of _ (by decide +kernel)) ggX4_kind_X4_within
set_option maxRecDepth 20000 in
theorem ggX4_kind_X4_finding : GoodIn wsX4_kind wsX4_finding := goodIn_r _ [14, 15, 16, 89, 90, 91, 92, 93, 94, 95] (by decide +kernel) (by decide +kernel)
set_option maxRecDepth 20000 in
theorem gX4_kind_X4_finding : GoodIn wsX4_kind (wsV RX4 52 RX4 yX4_finding wsX4_finding) := goodIn_app (goodIn_of _ (by decide +kernel)) ggX4_kind_X4_finding
set_option maxRecDepth 20000 in
theorem ggX4_kind_X4_lookAhead : GoodIn wsX4_kind wsX4_lookAhead := goodIn_r _ [20, 1, 7, 21, 22, 23, 24, 25, 26, 27, 28, 29, 30, 31, 32, 33, 34, 35, 36, 37, 38, 39, 40, 41, 42, 89, 90, 91, 92, 93, 94, 95, 96, 97, 98, 99, 100, 101, 102, 103, 104, 105, 106, 107, 108, 109] (by decide +kernel) (by decide +kernel)
set_option maxRecDepth 20000 in
theorem gX4_kind_X4_lookAhead : GoodIn wsX4_kind (wsV RX4 130 RX4 yX4_lookAhead wsX4_lookAhead) := goodIn_app (goodIn_of _ (by decide +kernel)) ggX4_kind_X4_lookAhead
set_option maxRecDepth 20000 in
theorem ggX4_kind_X4_purseAhead : GoodIn wsX4_kind wsX4_purseAhead := goodIn_r _ [46, 1, 47, 22, 48, 49, 50, 51, 52, 53, 29, 30, 25, 54, 55, 56, 57, 58, 59, 60, 61, 62, 63, 64, 65, 28, 66, 67, 68, 69, 70, 32, 71, 72, 37, 36, 73, 74, 75, 76, 26, 77, 78, 79, 80, 81, 82, 83, 84, 27, 85, 86, 87, 88, 89, 90, 91, 92, 93, 94, 95, 96, 97, 98, 99, 100, 101, 102, 103, 104, 105, 106, 107, 108, 109] (by decide +kernel) (by decide +kernel)
set_option maxRecDepth 20000 in
theorem gX4_kind_X4_purseAhead : GoodIn wsX4_kind (wsV RX4 151 RX4 yX4_purseAhead wsX4_purseAhead) := goodIn_app (goodIn_of _ (by decide +kernel)) ggX4_kind_X4_purseAhead
theorem dX4_kind_0 : decode cX4_kind 0 = .ok (.aload_n 0, 1) := by decide +kernel
theorem dX4_kind_1 : decode cX4_kind 1 = .ok (.iload_n 1, 1) := by decide +kernel
theorem dX4_kind_2 : decode cX4_kind 2 = .ok (.invokevirtual 85, 3) := by decide +kernel
theorem dX4_kind_5 : decode cX4_kind 5 = .ok (.ifCond .eq 13, 3) := by decide +kernel
theorem dX4_kind_8 : decode cX4_kind 8 = .ok (.iload_n 2, 1) := by decide +kernel
theorem dX4_kind_9 : decode cX4_kind 9 = .ok (.iconst 1, 1) := by decide +kernel
theorem dX4_kind_10 : decode cX4_kind 10 = .ok (.bipush 100, 2) := by decide +kernel
theorem dX4_kind_12 : decode cX4_kind 12 = .ok (.invokestatic 44, 3) := by decide +kernel
theorem dX4_kind_15 : decode cX4_kind 15 = .ok (.ifCond .ne 9, 3) := by decide +kernel
theorem dX4_kind_18 : decode cX4_kind 18 = .ok (.aload_n 0, 1) := by decide +kernel
theorem dX4_kind_19 : decode cX4_kind 19 = .ok (.iconst 0, 1) := by decide +kernel
theorem dX4_kind_20 : decode cX4_kind 20 = .ok (.invokevirtual 52, 3) := by decide +kernel
theorem dX4_kind_23 : decode cX4_kind 23 = .ok (.ireturn, 1) := by decide +kernel
theorem dX4_kind_24 : decode cX4_kind 24 = .ok (.iconst 0, 1) := by decide +kernel
theorem dX4_kind_25 : decode cX4_kind 25 = .ok (.istore_n 3, 1) := by decide +kernel
theorem dX4_kind_26 : decode cX4_kind 26 = .ok (.iconst (-1), 1) := by decide +kernel
theorem dX4_kind_27 : decode cX4_kind 27 = .ok (.istore 4, 2) := by decide +kernel
theorem dX4_kind_29 : decode cX4_kind 29 = .ok (.iconst 0, 1) := by decide +kernel
theorem dX4_kind_30 : decode cX4_kind 30 = .ok (.istore 5, 2) := by decide +kernel
theorem dX4_kind_32 : decode cX4_kind 32 = .ok (.iload 5, 2) := by decide +kernel
theorem dX4_kind_34 : decode cX4_kind 34 = .ok (.iconst 5, 1) := by decide +kernel
theorem dX4_kind_35 : decode cX4_kind 35 = .ok (.if_icmp .gt 49, 3) := by decide +kernel
theorem dX4_kind_38 : decode cX4_kind 38 = .ok (.aload_n 0, 1) := by decide +kernel
theorem dX4_kind_39 : decode cX4_kind 39 = .ok (.invokevirtual 130, 3) := by decide +kernel
theorem dX4_kind_42 : decode cX4_kind 42 = .ok (.aload_n 0, 1) := by decide +kernel
theorem dX4_kind_43 : decode cX4_kind 43 = .ok (.getfield 16, 3) := by decide +kernel
theorem dX4_kind_46 : decode cX4_kind 46 = .ok (.getfield 68, 3) := by decide +kernel
theorem dX4_kind_49 : decode cX4_kind 49 = .ok (.iload_n 1, 1) := by decide +kernel
theorem dX4_kind_50 : decode cX4_kind 50 = .ok (.aaload, 1) := by decide +kernel
theorem dX4_kind_51 : decode cX4_kind 51 = .ok (.iload 5, 2) := by decide +kernel
theorem dX4_kind_53 : decode cX4_kind 53 = .ok (.putfield 106, 3) := by decide +kernel
theorem dX4_kind_56 : decode cX4_kind 56 = .ok (.aload_n 0, 1) := by decide +kernel
theorem dX4_kind_57 : decode cX4_kind 57 = .ok (.iload_n 1, 1) := by decide +kernel
theorem dX4_kind_58 : decode cX4_kind 58 = .ok (.iload_n 2, 1) := by decide +kernel
theorem dX4_kind_59 : decode cX4_kind 59 = .ok (.invokevirtual 151, 3) := by decide +kernel
theorem dX4_kind_62 : decode cX4_kind 62 = .ok (.istore 6, 2) := by decide +kernel
theorem dX4_kind_64 : decode cX4_kind 64 = .ok (.iload 6, 2) := by decide +kernel
theorem dX4_kind_66 : decode cX4_kind 66 = .ok (.iload 4, 2) := by decide +kernel
theorem dX4_kind_68 : decode cX4_kind 68 = .ok (.if_icmp .le 10, 3) := by decide +kernel
theorem dX4_kind_71 : decode cX4_kind 71 = .ok (.iload 6, 2) := by decide +kernel
theorem dX4_kind_73 : decode cX4_kind 73 = .ok (.istore 4, 2) := by decide +kernel
theorem dX4_kind_75 : decode cX4_kind 75 = .ok (.iload 5, 2) := by decide +kernel
theorem dX4_kind_77 : decode cX4_kind 77 = .ok (.istore_n 3, 1) := by decide +kernel
theorem dX4_kind_78 : decode cX4_kind 78 = .ok (.iinc 5 1, 3) := by decide +kernel
theorem dX4_kind_81 : decode cX4_kind 81 = .ok (.goto (-49), 3) := by decide +kernel
theorem dX4_kind_84 : decode cX4_kind 84 = .ok (.iload_n 3, 1) := by decide +kernel
theorem dX4_kind_85 : decode cX4_kind 85 = .ok (.ireturn, 1) := by decide +kernel
set_option maxRecDepth 20000 in
theorem ggX4_begin_X4_isThere : GoodIn wsX4_begin wsX4_isThere := goodIn_r _ [6, 7, 8, 9, 5, 10, 89, 90, 91, 92, 93, 94, 95, 96, 97, 98, 99, 100, 101] (by decide +kernel) (by decide +kernel)
set_option maxRecDepth 20000 in
theorem gX4_begin_X4_isThere : GoodIn wsX4_begin (wsV RX4 85 RX4 yX4_isThere wsX4_isThere) := goodIn_app (goodIn_of _ (by decide +kernel)) ggX4_begin_X4_isThere
set_option maxRecDepth 20000 in
theorem ggX4_begin_X4_within : GoodIn wsX4_begin wsX4_within := goodIn_r _ [10] (by decide +kernel) (by decide +kernel)
set_option maxRecDepth 20000 in
theorem gX4_begin_X4_within : GoodIn wsX4_begin (va_wsS RX4 44 yX4_within wsX4_within) := goodIn_app (goodIn_of _ (by decide +kernel)) ggX4_begin_X4_within
set_option maxRecDepth 20000 in
theorem ggX4_begin_X4_finding : GoodIn wsX4_begin wsX4_finding := goodIn_r _ [14, 15, 16, 89, 90, 91, 92, 93, 94, 95] (by decide +kernel) (by decide +kernel)
set_option maxRecDepth 20000 in
theorem gX4_begin_X4_finding : GoodIn wsX4_begin (wsV RX4 52 RX4 yX4_finding wsX4_finding) := goodIn_app (goodIn_of _ (by decide +kernel)) ggX4_begin_X4_finding
set_option maxRecDepth 20000 in
theorem ggX4_begin_X4_lookAhead : GoodIn wsX4_begin wsX4_lookAhead := goodIn_r _ [20, 1, 7, 21, 22, 23, 24, 25, 26, 27, 28, 29, 30, 31, 32, 33, 34, 35, 36, 37, 38, 39, 40, 41, 42, 89, 90, 91, 92, 93, 94, 95, 96, 97, 98, 99, 100, 101, 102, 103, 104, 105, 106, 107, 108, 109] (by decide +kernel) (by decide +kernel)
set_option maxRecDepth 20000 in
theorem gX4_begin_X4_lookAhead : GoodIn wsX4_begin (wsV RX4 130 RX4 yX4_lookAhead wsX4_lookAhead) := goodIn_app (goodIn_of _ (by decide +kernel)) ggX4_begin_X4_lookAhead
set_option maxRecDepth 20000 in
theorem ggX4_begin_X4_purseAhead : GoodIn wsX4_begin wsX4_purseAhead := goodIn_r _ [46, 1, 47, 22, 48, 49, 50, 51, 52, 53, 29, 30, 25, 54, 55, 56, 57, 58, 59, 60, 61, 62, 63, 64, 65, 28, 66, 67, 68, 69, 70, 32, 71, 72, 37, 36, 73, 74, 75, 76, 26, 77, 78, 79, 80, 81, 82, 83, 84, 27, 85, 86, 87, 88, 89, 90, 91, 92, 93, 94, 95, 96, 97, 98, 99, 100, 101, 102, 103, 104, 105, 106, 107, 108, 109] (by decide +kernel) (by decide +kernel)
set_option maxRecDepth 20000 in
theorem gX4_begin_X4_purseAhead : GoodIn wsX4_begin (wsV RX4 151 RX4 yX4_purseAhead wsX4_purseAhead) := goodIn_app (goodIn_of _ (by decide +kernel)) ggX4_begin_X4_purseAhead
theorem dX4_begin_0 : decode cX4_begin 0 = .ok (.aload_n 0, 1) := by decide +kernel
theorem dX4_begin_1 : decode cX4_begin 1 = .ok (.iload_n 1, 1) := by decide +kernel
theorem dX4_begin_2 : decode cX4_begin 2 = .ok (.invokevirtual 85, 3) := by decide +kernel
theorem dX4_begin_5 : decode cX4_begin 5 = .ok (.ifCond .eq 13, 3) := by decide +kernel
theorem dX4_begin_8 : decode cX4_begin 8 = .ok (.iload_n 2, 1) := by decide +kernel
theorem dX4_begin_9 : decode cX4_begin 9 = .ok (.iconst 1, 1) := by decide +kernel
theorem dX4_begin_10 : decode cX4_begin 10 = .ok (.bipush 100, 2) := by decide +kernel
theorem dX4_begin_12 : decode cX4_begin 12 = .ok (.invokestatic 44, 3) := by decide +kernel
theorem dX4_begin_15 : decode cX4_begin 15 = .ok (.ifCond .ne 9, 3) := by decide +kernel
theorem dX4_begin_18 : decode cX4_begin 18 = .ok (.aload_n 0, 1) := by decide +kernel
theorem dX4_begin_19 : decode cX4_begin 19 = .ok (.iconst 0, 1) := by decide +kernel
theorem dX4_begin_20 : decode cX4_begin 20 = .ok (.invokevirtual 52, 3) := by decide +kernel
theorem dX4_begin_23 : decode cX4_begin 23 = .ok (.ireturn, 1) := by decide +kernel
theorem dX4_begin_24 : decode cX4_begin 24 = .ok (.iconst 0, 1) := by decide +kernel
theorem dX4_begin_25 : decode cX4_begin 25 = .ok (.istore_n 3, 1) := by decide +kernel
theorem dX4_begin_26 : decode cX4_begin 26 = .ok (.iconst (-1), 1) := by decide +kernel
theorem dX4_begin_27 : decode cX4_begin 27 = .ok (.istore 4, 2) := by decide +kernel
theorem dX4_begin_29 : decode cX4_begin 29 = .ok (.iconst 0, 1) := by decide +kernel
theorem dX4_begin_30 : decode cX4_begin 30 = .ok (.istore 5, 2) := by decide +kernel
theorem dX4_begin_32 : decode cX4_begin 32 = .ok (.iload 5, 2) := by decide +kernel
theorem dX4_begin_34 : decode cX4_begin 34 = .ok (.bipush 12, 2) := by decide +kernel
theorem dX4_begin_36 : decode cX4_begin 36 = .ok (.if_icmp .gt 62, 3) := by decide +kernel
theorem dX4_begin_39 : decode cX4_begin 39 = .ok (.aload_n 0, 1) := by decide +kernel
theorem dX4_begin_40 : decode cX4_begin 40 = .ok (.invokevirtual 130, 3) := by decide +kernel
theorem dX4_begin_43 : decode cX4_begin 43 = .ok (.aload_n 0, 1) := by decide +kernel
theorem dX4_begin_44 : decode cX4_begin 44 = .ok (.getfield 16, 3) := by decide +kernel
theorem dX4_begin_47 : decode cX4_begin 47 = .ok (.getfield 68, 3) := by decide +kernel
theorem dX4_begin_50 : decode cX4_begin 50 = .ok (.iload_n 1, 1) := by decide +kernel
theorem dX4_begin_51 : decode cX4_begin 51 = .ok (.aaload, 1) := by decide +kernel
theorem dX4_begin_52 : decode cX4_begin 52 = .ok (.iload 5, 2) := by decide +kernel
theorem dX4_begin_54 : decode cX4_begin 54 = .ok (.putfield 72, 3) := by decide +kernel
theorem dX4_begin_57 : decode cX4_begin 57 = .ok (.aload_n 0, 1) := by decide +kernel
theorem dX4_begin_58 : decode cX4_begin 58 = .ok (.getfield 16, 3) := by decide +kernel
theorem dX4_begin_61 : decode cX4_begin 61 = .ok (.getfield 68, 3) := by decide +kernel
theorem dX4_begin_64 : decode cX4_begin 64 = .ok (.iload_n 1, 1) := by decide +kernel
theorem dX4_begin_65 : decode cX4_begin 65 = .ok (.aaload, 1) := by decide +kernel
theorem dX4_begin_66 : decode cX4_begin 66 = .ok (.iconst 0, 1) := by decide +kernel
theorem dX4_begin_67 : decode cX4_begin 67 = .ok (.putfield 155, 3) := by decide +kernel
theorem dX4_begin_70 : decode cX4_begin 70 = .ok (.aload_n 0, 1) := by decide +kernel
theorem dX4_begin_71 : decode cX4_begin 71 = .ok (.iload_n 1, 1) := by decide +kernel
theorem dX4_begin_72 : decode cX4_begin 72 = .ok (.iload_n 2, 1) := by decide +kernel
theorem dX4_begin_73 : decode cX4_begin 73 = .ok (.invokevirtual 151, 3) := by decide +kernel
theorem dX4_begin_76 : decode cX4_begin 76 = .ok (.istore 6, 2) := by decide +kernel
theorem dX4_begin_78 : decode cX4_begin 78 = .ok (.iload 6, 2) := by decide +kernel
theorem dX4_begin_80 : decode cX4_begin 80 = .ok (.iload 4, 2) := by decide +kernel
theorem dX4_begin_82 : decode cX4_begin 82 = .ok (.if_icmp .le 10, 3) := by decide +kernel
theorem dX4_begin_85 : decode cX4_begin 85 = .ok (.iload 6, 2) := by decide +kernel
theorem dX4_begin_87 : decode cX4_begin 87 = .ok (.istore 4, 2) := by decide +kernel
theorem dX4_begin_89 : decode cX4_begin 89 = .ok (.iload 5, 2) := by decide +kernel
theorem dX4_begin_91 : decode cX4_begin 91 = .ok (.istore_n 3, 1) := by decide +kernel
theorem dX4_begin_92 : decode cX4_begin 92 = .ok (.iinc 5 1, 3) := by decide +kernel
theorem dX4_begin_95 : decode cX4_begin 95 = .ok (.goto (-63), 3) := by decide +kernel
theorem dX4_begin_98 : decode cX4_begin 98 = .ok (.iload_n 3, 1) := by decide +kernel
theorem dX4_begin_99 : decode cX4_begin 99 = .ok (.ireturn, 1) := by decide +kernel
set_option maxRecDepth 20000 in
theorem ggX4_richest_X4_within : GoodIn wsX4_richest wsX4_within := goodIn_r _ [6] (by decide +kernel) (by decide +kernel)
set_option maxRecDepth 20000 in
theorem gX4_richest_X4_within : GoodIn wsX4_richest (va_wsS RX4 44 yX4_within wsX4_within) := goodIn_app (goodIn_of _ (by decide +kernel)) ggX4_richest_X4_within
set_option maxRecDepth 20000 in
theorem ggX4_richest_X4_finding : GoodIn wsX4_richest wsX4_finding := goodIn_r _ [10, 11, 12, 81, 82, 83, 84, 85, 86, 87] (by decide +kernel) (by decide +kernel)
set_option maxRecDepth 20000 in
theorem gX4_richest_X4_finding : GoodIn wsX4_richest (wsV RX4 52 RX4 yX4_finding wsX4_finding) := goodIn_app (goodIn_of _ (by decide +kernel)) ggX4_richest_X4_finding
set_option maxRecDepth 20000 in
theorem ggX4_richest_X4_lookAhead : GoodIn wsX4_richest wsX4_lookAhead := goodIn_r _ [16, 2, 1, 17, 18, 19, 20, 21, 22, 23, 24, 25, 26, 27, 28, 29, 30, 31, 32, 33, 34, 35, 36, 37, 38, 81, 82, 83, 84, 85, 86, 87, 88, 89, 90, 91, 92, 93, 94, 95, 96, 97, 98, 99, 100, 101] (by decide +kernel) (by decide +kernel)
set_option maxRecDepth 20000 in
theorem gX4_richest_X4_lookAhead : GoodIn wsX4_richest (wsV RX4 130 RX4 yX4_lookAhead wsX4_lookAhead) := goodIn_app (goodIn_of _ (by decide +kernel)) ggX4_richest_X4_lookAhead
set_option maxRecDepth 20000 in
theorem ggX4_richest_X0_passHours : GoodIn wsX4_richest wsX0_passHours := goodIn_r _ [41, 42, 43, 44, 18, 45, 25, 26, 21, 46, 47, 48, 49, 50, 51, 52, 53, 54, 55, 56, 57, 24, 58, 59, 60, 61, 62, 28, 63, 64, 33, 32, 65, 66, 67, 68, 22, 69, 70, 71, 72, 73, 74, 75, 76, 23, 77, 78, 79, 80, 88, 89, 90, 91, 92, 93, 94, 95, 96, 97, 98, 99, 100, 101] (by decide +kernel) (by decide +kernel)
set_option maxRecDepth 20000 in
theorem gX4_richest_X0_passHours_n120 : GoodIn wsX4_richest (wsX0_passHours) := ggX4_richest_X0_passHours
theorem dX4_richest_0 : decode cX4_richest 0 = .ok (.iload_n 1, 1) := by decide +kernel
theorem dX4_richest_1 : decode cX4_richest 1 = .ok (.iconst 0, 1) := by decide +kernel
theorem dX4_richest_2 : decode cX4_richest 2 = .ok (.sipush 200, 3) := by decide +kernel
theorem dX4_richest_5 : decode cX4_richest 5 = .ok (.invokestatic 44, 3) := by decide +kernel
theorem dX4_richest_8 : decode cX4_richest 8 = .ok (.ifCond .ne 9, 3) := by decide +kernel
theorem dX4_richest_11 : decode cX4_richest 11 = .ok (.aload_n 0, 1) := by decide +kernel
theorem dX4_richest_12 : decode cX4_richest 12 = .ok (.iconst 0, 1) := by decide +kernel
theorem dX4_richest_13 : decode cX4_richest 13 = .ok (.invokevirtual 52, 3) := by decide +kernel
theorem dX4_richest_16 : decode cX4_richest 16 = .ok (.ireturn, 1) := by decide +kernel
theorem dX4_richest_17 : decode cX4_richest 17 = .ok (.aload_n 0, 1) := by decide +kernel
theorem dX4_richest_18 : decode cX4_richest 18 = .ok (.getfield 10, 3) := by decide +kernel
theorem dX4_richest_21 : decode cX4_richest 21 = .ok (.getfield 65, 3) := by decide +kernel
theorem dX4_richest_24 : decode cX4_richest 24 = .ok (.ifCond .ne 9, 3) := by decide +kernel
theorem dX4_richest_27 : decode cX4_richest 27 = .ok (.aload_n 0, 1) := by decide +kernel
theorem dX4_richest_28 : decode cX4_richest 28 = .ok (.iconst 3, 1) := by decide +kernel
theorem dX4_richest_29 : decode cX4_richest 29 = .ok (.invokevirtual 52, 3) := by decide +kernel
theorem dX4_richest_32 : decode cX4_richest 32 = .ok (.ireturn, 1) := by decide +kernel
theorem dX4_richest_33 : decode cX4_richest 33 = .ok (.aload_n 0, 1) := by decide +kernel
theorem dX4_richest_34 : decode cX4_richest 34 = .ok (.invokevirtual 130, 3) := by decide +kernel
theorem dX4_richest_37 : decode cX4_richest 37 = .ok (.aload_n 0, 1) := by decide +kernel
theorem dX4_richest_38 : decode cX4_richest 38 = .ok (.getfield 16, 3) := by decide +kernel
theorem dX4_richest_41 : decode cX4_richest 41 = .ok (.iload_n 1, 1) := by decide +kernel
theorem dX4_richest_42 : decode cX4_richest 42 = .ok (.invokevirtual 120, 3) := by decide +kernel
theorem dX4_richest_45 : decode cX4_richest 45 = .ok (.iconst 0, 1) := by decide +kernel
theorem dX4_richest_46 : decode cX4_richest 46 = .ok (.istore_n 2, 1) := by decide +kernel
theorem dX4_richest_47 : decode cX4_richest 47 = .ok (.iconst 1, 1) := by decide +kernel
theorem dX4_richest_48 : decode cX4_richest 48 = .ok (.istore_n 3, 1) := by decide +kernel
theorem dX4_richest_49 : decode cX4_richest 49 = .ok (.iload_n 3, 1) := by decide +kernel
theorem dX4_richest_50 : decode cX4_richest 50 = .ok (.aload_n 0, 1) := by decide +kernel
theorem dX4_richest_51 : decode cX4_richest 51 = .ok (.getfield 16, 3) := by decide +kernel
theorem dX4_richest_54 : decode cX4_richest 54 = .ok (.getfield 65, 3) := by decide +kernel
theorem dX4_richest_57 : decode cX4_richest 57 = .ok (.if_icmp .ge 38, 3) := by decide +kernel
theorem dX4_richest_60 : decode cX4_richest 60 = .ok (.aload_n 0, 1) := by decide +kernel
theorem dX4_richest_61 : decode cX4_richest 61 = .ok (.getfield 16, 3) := by decide +kernel
theorem dX4_richest_64 : decode cX4_richest 64 = .ok (.getfield 68, 3) := by decide +kernel
theorem dX4_richest_67 : decode cX4_richest 67 = .ok (.iload_n 3, 1) := by decide +kernel
theorem dX4_richest_68 : decode cX4_richest 68 = .ok (.aaload, 1) := by decide +kernel
theorem dX4_richest_69 : decode cX4_richest 69 = .ok (.getfield 133, 3) := by decide +kernel
theorem dX4_richest_72 : decode cX4_richest 72 = .ok (.aload_n 0, 1) := by decide +kernel
theorem dX4_richest_73 : decode cX4_richest 73 = .ok (.getfield 16, 3) := by decide +kernel
theorem dX4_richest_76 : decode cX4_richest 76 = .ok (.getfield 68, 3) := by decide +kernel
theorem dX4_richest_79 : decode cX4_richest 79 = .ok (.iload_n 2, 1) := by decide +kernel
theorem dX4_richest_80 : decode cX4_richest 80 = .ok (.aaload, 1) := by decide +kernel
theorem dX4_richest_81 : decode cX4_richest 81 = .ok (.getfield 133, 3) := by decide +kernel
theorem dX4_richest_84 : decode cX4_richest 84 = .ok (.if_icmp .le 5, 3) := by decide +kernel
theorem dX4_richest_87 : decode cX4_richest 87 = .ok (.iload_n 3, 1) := by decide +kernel
theorem dX4_richest_88 : decode cX4_richest 88 = .ok (.istore_n 2, 1) := by decide +kernel
theorem dX4_richest_89 : decode cX4_richest 89 = .ok (.iinc 3 1, 3) := by decide +kernel
theorem dX4_richest_92 : decode cX4_richest 92 = .ok (.goto (-43), 3) := by decide +kernel
theorem dX4_richest_95 : decode cX4_richest 95 = .ok (.iload_n 2, 1) := by decide +kernel
theorem dX4_richest_96 : decode cX4_richest 96 = .ok (.ireturn, 1) := by decide +kernel
set_option maxRecDepth 20000 in
theorem ggX4_rival_X4_areTwo : GoodIn wsX4_rival wsX4_areTwo := goodIn_r _ [6, 7, 8, 9, 5, 10, 11, 12, 13, 14, 93, 94, 95, 96, 97, 98, 99, 100, 101, 102, 103, 104, 105] (by decide +kernel) (by decide +kernel)
set_option maxRecDepth 20000 in
theorem gX4_rival_X4_areTwo : GoodIn wsX4_rival (wsV RX4 139 RX4 yX4_areTwo wsX4_areTwo) := goodIn_app (goodIn_of _ (by decide +kernel)) ggX4_rival_X4_areTwo
set_option maxRecDepth 20000 in
theorem ggX4_rival_X4_within : GoodIn wsX4_rival wsX4_within := goodIn_r _ [14] (by decide +kernel) (by decide +kernel)
set_option maxRecDepth 20000 in
theorem gX4_rival_X4_within : GoodIn wsX4_rival (va_wsS RX4 44 yX4_within wsX4_within) := goodIn_app (goodIn_of _ (by decide +kernel)) ggX4_rival_X4_within
set_option maxRecDepth 20000 in
theorem ggX4_rival_X4_finding : GoodIn wsX4_rival wsX4_finding := goodIn_r _ [18, 19, 20, 93, 94, 95, 96, 97, 98, 99] (by decide +kernel) (by decide +kernel)
set_option maxRecDepth 20000 in
theorem gX4_rival_X4_finding : GoodIn wsX4_rival (wsV RX4 52 RX4 yX4_finding wsX4_finding) := goodIn_app (goodIn_of _ (by decide +kernel)) ggX4_rival_X4_finding
set_option maxRecDepth 20000 in
theorem ggX4_rival_X4_lookAhead : GoodIn wsX4_rival wsX4_lookAhead := goodIn_r _ [24, 1, 11, 25, 26, 27, 28, 29, 30, 31, 32, 33, 34, 35, 36, 37, 38, 39, 40, 41, 42, 43, 44, 45, 46, 93, 94, 95, 96, 97, 98, 99, 100, 101, 102, 103, 104, 105, 106, 107, 108, 109, 110, 111, 112, 113] (by decide +kernel) (by decide +kernel)
set_option maxRecDepth 20000 in
theorem gX4_rival_X4_lookAhead : GoodIn wsX4_rival (wsV RX4 130 RX4 yX4_lookAhead wsX4_lookAhead) := goodIn_app (goodIn_of _ (by decide +kernel)) ggX4_rival_X4_lookAhead
set_option maxRecDepth 20000 in
theorem ggX4_rival_X4_purseAhead : GoodIn wsX4_rival wsX4_purseAhead := goodIn_r _ [50, 1, 51, 26, 52, 53, 54, 55, 56, 57, 33, 34, 29, 58, 59, 60, 61, 62, 63, 64, 65, 66, 67, 68, 69, 32, 70, 71, 72, 73, 74, 36, 75, 76, 41, 40, 77, 78, 79, 80, 30, 81, 82, 83, 84, 85, 86, 87, 88, 31, 89, 90, 91, 92, 93, 94, 95, 96, 97, 98, 99, 100, 101, 102, 103, 104, 105, 106, 107, 108, 109, 110, 111, 112, 113] (by decide +kernel) (by decide +kernel)
set_option maxRecDepth 20000 in
theorem gX4_rival_X4_purseAhead : GoodIn wsX4_rival (wsV RX4 151 RX4 yX4_purseAhead wsX4_purseAhead) := goodIn_app (goodIn_of _ (by decide +kernel)) ggX4_rival_X4_purseAhead
theorem dX4_rival_0 : decode cX4_rival 0 = .ok (.aload_n 0, 1) := by decide +kernel
theorem dX4_rival_1 : decode cX4_rival 1 = .ok (.iload_n 1, 1) := by decide +kernel
theorem dX4_rival_2 : decode cX4_rival 2 = .ok (.iload_n 2, 1) := by decide +kernel
theorem dX4_rival_3 : decode cX4_rival 3 = .ok (.invokevirtual 139, 3) := by decide +kernel
theorem dX4_rival_6 : decode cX4_rival 6 = .ok (.ifCond .eq 13, 3) := by decide +kernel
theorem dX4_rival_9 : decode cX4_rival 9 = .ok (.iload_n 3, 1) := by decide +kernel
theorem dX4_rival_10 : decode cX4_rival 10 = .ok (.iconst 1, 1) := by decide +kernel
theorem dX4_rival_11 : decode cX4_rival 11 = .ok (.bipush 100, 2) := by decide +kernel
theorem dX4_rival_13 : decode cX4_rival 13 = .ok (.invokestatic 44, 3) := by decide +kernel
theorem dX4_rival_16 : decode cX4_rival 16 = .ok (.ifCond .ne 9, 3) := by decide +kernel
theorem dX4_rival_19 : decode cX4_rival 19 = .ok (.aload_n 0, 1) := by decide +kernel
theorem dX4_rival_20 : decode cX4_rival 20 = .ok (.iconst 0, 1) := by decide +kernel
theorem dX4_rival_21 : decode cX4_rival 21 = .ok (.invokevirtual 52, 3) := by decide +kernel
theorem dX4_rival_24 : decode cX4_rival 24 = .ok (.ireturn, 1) := by decide +kernel
theorem dX4_rival_25 : decode cX4_rival 25 = .ok (.aload_n 0, 1) := by decide +kernel
theorem dX4_rival_26 : decode cX4_rival 26 = .ok (.invokevirtual 130, 3) := by decide +kernel
theorem dX4_rival_29 : decode cX4_rival 29 = .ok (.aload_n 0, 1) := by decide +kernel
theorem dX4_rival_30 : decode cX4_rival 30 = .ok (.iload_n 1, 1) := by decide +kernel
theorem dX4_rival_31 : decode cX4_rival 31 = .ok (.iload_n 3, 1) := by decide +kernel
theorem dX4_rival_32 : decode cX4_rival 32 = .ok (.invokevirtual 151, 3) := by decide +kernel
theorem dX4_rival_35 : decode cX4_rival 35 = .ok (.istore 4, 2) := by decide +kernel
theorem dX4_rival_37 : decode cX4_rival 37 = .ok (.aload_n 0, 1) := by decide +kernel
theorem dX4_rival_38 : decode cX4_rival 38 = .ok (.invokevirtual 130, 3) := by decide +kernel
theorem dX4_rival_41 : decode cX4_rival 41 = .ok (.aload_n 0, 1) := by decide +kernel
theorem dX4_rival_42 : decode cX4_rival 42 = .ok (.getfield 16, 3) := by decide +kernel
theorem dX4_rival_45 : decode cX4_rival 45 = .ok (.getfield 68, 3) := by decide +kernel
theorem dX4_rival_48 : decode cX4_rival 48 = .ok (.iload_n 2, 1) := by decide +kernel
theorem dX4_rival_49 : decode cX4_rival 49 = .ok (.aaload, 1) := by decide +kernel
theorem dX4_rival_50 : decode cX4_rival 50 = .ok (.iconst 1, 1) := by decide +kernel
theorem dX4_rival_51 : decode cX4_rival 51 = .ok (.putfield 158, 3) := by decide +kernel
theorem dX4_rival_54 : decode cX4_rival 54 = .ok (.aload_n 0, 1) := by decide +kernel
theorem dX4_rival_55 : decode cX4_rival 55 = .ok (.iload_n 1, 1) := by decide +kernel
theorem dX4_rival_56 : decode cX4_rival 56 = .ok (.iload_n 3, 1) := by decide +kernel
theorem dX4_rival_57 : decode cX4_rival 57 = .ok (.invokevirtual 151, 3) := by decide +kernel
theorem dX4_rival_60 : decode cX4_rival 60 = .ok (.iload 4, 2) := by decide +kernel
theorem dX4_rival_62 : decode cX4_rival 62 = .ok (.isub, 1) := by decide +kernel
theorem dX4_rival_63 : decode cX4_rival 63 = .ok (.ireturn, 1) := by decide +kernel
set_option maxRecDepth 20000 in
theorem ggX4_enough_X4_within : GoodIn wsX4_enough wsX4_within := goodIn_r _ [6] (by decide +kernel) (by decide +kernel)
set_option maxRecDepth 20000 in
theorem gX4_enough_X4_within : GoodIn wsX4_enough (va_wsS RX4 44 yX4_within wsX4_within) := goodIn_app (goodIn_of _ (by decide +kernel)) ggX4_enough_X4_within
set_option maxRecDepth 20000 in
theorem ggX4_enough_X4_finding : GoodIn wsX4_enough wsX4_finding := goodIn_r _ [10, 11, 12, 82, 83, 84, 85, 86, 87, 88] (by decide +kernel) (by decide +kernel)
set_option maxRecDepth 20000 in
theorem gX4_enough_X4_finding : GoodIn wsX4_enough (wsV RX4 52 RX4 yX4_finding wsX4_finding) := goodIn_app (goodIn_of _ (by decide +kernel)) ggX4_enough_X4_finding
set_option maxRecDepth 20000 in
theorem ggX4_enough_X4_lookAhead : GoodIn wsX4_enough wsX4_lookAhead := goodIn_r _ [16, 1, 17, 18, 19, 20, 21, 22, 23, 24, 25, 26, 27, 28, 29, 30, 31, 32, 33, 34, 35, 36, 37, 38, 39, 82, 83, 84, 85, 86, 87, 88, 89, 90, 91, 92, 93, 94, 95, 96, 97, 98, 99, 100, 101, 102] (by decide +kernel) (by decide +kernel)
set_option maxRecDepth 20000 in
theorem gX4_enough_X4_lookAhead : GoodIn wsX4_enough (wsV RX4 130 RX4 yX4_lookAhead wsX4_lookAhead) := goodIn_app (goodIn_of _ (by decide +kernel)) ggX4_enough_X4_lookAhead
set_option maxRecDepth 20000 in
theorem ggX4_enough_X0_passHours : GoodIn wsX4_enough wsX0_passHours := goodIn_r _ [42, 43, 44, 45, 19, 46, 26, 27, 22, 47, 48, 49, 50, 51, 52, 53, 54, 55, 56, 57, 58, 25, 59, 60, 61, 62, 63, 29, 64, 65, 34, 33, 66, 67, 68, 69, 23, 70, 71, 72, 73, 74, 75, 76, 77, 24, 78, 79, 80, 81, 89, 90, 91, 92, 93, 94, 95, 96, 97, 98, 99, 100, 101, 102] (by decide +kernel) (by decide +kernel)
set_option maxRecDepth 20000 in
theorem gX4_enough_X0_passHours_n120 : GoodIn wsX4_enough (wsX0_passHours) := ggX4_enough_X0_passHours
theorem dX4_enough_0 : decode cX4_enough 0 = .ok (.iload_n 1, 1) := by decide +kernel
theorem dX4_enough_1 : decode cX4_enough 1 = .ok (.iconst 1, 1) := by decide +kernel
theorem dX4_enough_2 : decode cX4_enough 2 = .ok (.bipush 60, 2) := by decide +kernel
theorem dX4_enough_4 : decode cX4_enough 4 = .ok (.invokestatic 44, 3) := by decide +kernel
theorem dX4_enough_7 : decode cX4_enough 7 = .ok (.ifCond .ne 9, 3) := by decide +kernel
theorem dX4_enough_10 : decode cX4_enough 10 = .ok (.aload_n 0, 1) := by decide +kernel
theorem dX4_enough_11 : decode cX4_enough 11 = .ok (.iconst 0, 1) := by decide +kernel
theorem dX4_enough_12 : decode cX4_enough 12 = .ok (.invokevirtual 52, 3) := by decide +kernel
theorem dX4_enough_15 : decode cX4_enough 15 = .ok (.ireturn, 1) := by decide +kernel
theorem dX4_enough_16 : decode cX4_enough 16 = .ok (.aload_n 0, 1) := by decide +kernel
theorem dX4_enough_17 : decode cX4_enough 17 = .ok (.invokevirtual 130, 3) := by decide +kernel
theorem dX4_enough_20 : decode cX4_enough 20 = .ok (.aload_n 0, 1) := by decide +kernel
theorem dX4_enough_21 : decode cX4_enough 21 = .ok (.getfield 16, 3) := by decide +kernel
theorem dX4_enough_24 : decode cX4_enough 24 = .ok (.ldc 150, 2) := by decide +kernel
theorem dX4_enough_26 : decode cX4_enough 26 = .ok (.putfield 55, 3) := by decide +kernel
theorem dX4_enough_29 : decode cX4_enough 29 = .ok (.aload_n 0, 1) := by decide +kernel
theorem dX4_enough_30 : decode cX4_enough 30 = .ok (.getfield 16, 3) := by decide +kernel
theorem dX4_enough_33 : decode cX4_enough 33 = .ok (.iload_n 1, 1) := by decide +kernel
theorem dX4_enough_34 : decode cX4_enough 34 = .ok (.invokevirtual 120, 3) := by decide +kernel
theorem dX4_enough_37 : decode cX4_enough 37 = .ok (.ldc 150, 2) := by decide +kernel
theorem dX4_enough_39 : decode cX4_enough 39 = .ok (.aload_n 0, 1) := by decide +kernel
theorem dX4_enough_40 : decode cX4_enough 40 = .ok (.getfield 16, 3) := by decide +kernel
theorem dX4_enough_43 : decode cX4_enough 43 = .ok (.getfield 55, 3) := by decide +kernel
theorem dX4_enough_46 : decode cX4_enough 46 = .ok (.isub, 1) := by decide +kernel
theorem dX4_enough_47 : decode cX4_enough 47 = .ok (.iconst 1, 1) := by decide +kernel
theorem dX4_enough_48 : decode cX4_enough 48 = .ok (.iadd, 1) := by decide +kernel
theorem dX4_enough_49 : decode cX4_enough 49 = .ok (.istore_n 2, 1) := by decide +kernel
theorem dX4_enough_50 : decode cX4_enough 50 = .ok (.iload_n 2, 1) := by decide +kernel
theorem dX4_enough_51 : decode cX4_enough 51 = .ok (.sipush 999, 3) := by decide +kernel
theorem dX4_enough_54 : decode cX4_enough 54 = .ok (.if_icmp .gt 7, 3) := by decide +kernel
theorem dX4_enough_57 : decode cX4_enough 57 = .ok (.iload_n 2, 1) := by decide +kernel
theorem dX4_enough_58 : decode cX4_enough 58 = .ok (.goto 8, 3) := by decide +kernel
theorem dX4_enough_61 : decode cX4_enough 61 = .ok (.aload_n 0, 1) := by decide +kernel
theorem dX4_enough_62 : decode cX4_enough 62 = .ok (.iconst 3, 1) := by decide +kernel
theorem dX4_enough_63 : decode cX4_enough 63 = .ok (.invokevirtual 52, 3) := by decide +kernel
theorem dX4_enough_66 : decode cX4_enough 66 = .ok (.ireturn, 1) := by decide +kernel
set_option maxRecDepth 20000 in
theorem ggX4_feed_X4_within : GoodIn wsX4_feed wsX4_within := goodIn_r _ [5] (by decide +kernel) (by decide +kernel)
set_option maxRecDepth 20000 in
theorem gX4_feed_X4_within : GoodIn wsX4_feed (va_wsS RX4 44 yX4_within wsX4_within) := goodIn_app (goodIn_of _ (by decide +kernel)) ggX4_feed_X4_within
set_option maxRecDepth 20000 in
theorem ggX4_feed_X4_finding : GoodIn wsX4_feed wsX4_finding := goodIn_r _ [9, 10, 11, 18, 19, 20, 21, 22, 23, 24] (by decide +kernel) (by decide +kernel)
set_option maxRecDepth 20000 in
theorem gX4_feed_X4_finding : GoodIn wsX4_feed (wsV RX4 52 RX4 yX4_finding wsX4_finding) := goodIn_app (goodIn_of _ (by decide +kernel)) ggX4_feed_X4_finding
set_option maxRecDepth 20000 in
theorem ggX4_feed_X2_append : GoodIn wsX4_feed wsX2_append := goodIn_r _ [15, 16, 17, 25, 26, 27, 28, 29, 30] (by decide +kernel) (by decide +kernel)
set_option maxRecDepth 20000 in
theorem gX4_feed_X2_append_n164 : GoodIn wsX4_feed (wsX2_append) := ggX4_feed_X2_append
theorem dX4_feed_0 : decode cX4_feed 0 = .ok (.iload_n 2, 1) := by decide +kernel
theorem dX4_feed_1 : decode cX4_feed 1 = .ok (.iconst 1, 1) := by decide +kernel
theorem dX4_feed_2 : decode cX4_feed 2 = .ok (.iconst 4, 1) := by decide +kernel
theorem dX4_feed_3 : decode cX4_feed 3 = .ok (.invokestatic 44, 3) := by decide +kernel
theorem dX4_feed_6 : decode cX4_feed 6 = .ok (.ifCond .ne 9, 3) := by decide +kernel
theorem dX4_feed_9 : decode cX4_feed 9 = .ok (.aload_n 0, 1) := by decide +kernel
theorem dX4_feed_10 : decode cX4_feed 10 = .ok (.iconst 0, 1) := by decide +kernel
theorem dX4_feed_11 : decode cX4_feed 11 = .ok (.invokevirtual 52, 3) := by decide +kernel
theorem dX4_feed_14 : decode cX4_feed 14 = .ok (.ireturn, 1) := by decide +kernel
theorem dX4_feed_15 : decode cX4_feed 15 = .ok (.aload_n 0, 1) := by decide +kernel
theorem dX4_feed_16 : decode cX4_feed 16 = .ok (.getfield 29, 3) := by decide +kernel
theorem dX4_feed_19 : decode cX4_feed 19 = .ok (.getfield 161, 3) := by decide +kernel
theorem dX4_feed_22 : decode cX4_feed 22 = .ok (.iload_n 2, 1) := by decide +kernel
theorem dX4_feed_23 : decode cX4_feed 23 = .ok (.iadd, 1) := by decide +kernel
theorem dX4_feed_24 : decode cX4_feed 24 = .ok (.bipush 120, 2) := by decide +kernel
theorem dX4_feed_26 : decode cX4_feed 26 = .ok (.if_icmp .le 9, 3) := by decide +kernel
theorem dX4_feed_29 : decode cX4_feed 29 = .ok (.aload_n 0, 1) := by decide +kernel
theorem dX4_feed_30 : decode cX4_feed 30 = .ok (.iconst 1, 1) := by decide +kernel
theorem dX4_feed_31 : decode cX4_feed 31 = .ok (.invokevirtual 52, 3) := by decide +kernel
theorem dX4_feed_34 : decode cX4_feed 34 = .ok (.ireturn, 1) := by decide +kernel
theorem dX4_feed_35 : decode cX4_feed 35 = .ok (.iload_n 2, 1) := by decide +kernel
theorem dX4_feed_36 : decode cX4_feed 36 = .ok (.iconst 1, 1) := by decide +kernel
theorem dX4_feed_37 : decode cX4_feed 37 = .ok (.isub, 1) := by decide +kernel
theorem dX4_feed_38 : decode cX4_feed 38 = .ok (.istore_n 3, 1) := by decide +kernel
theorem dX4_feed_39 : decode cX4_feed 39 = .ok (.iload_n 3, 1) := by decide +kernel
theorem dX4_feed_40 : decode cX4_feed 40 = .ok (.ifCond .lt 23, 3) := by decide +kernel
theorem dX4_feed_43 : decode cX4_feed 43 = .ok (.aload_n 0, 1) := by decide +kernel
theorem dX4_feed_44 : decode cX4_feed 44 = .ok (.getfield 29, 3) := by decide +kernel
theorem dX4_feed_47 : decode cX4_feed 47 = .ok (.iload_n 1, 1) := by decide +kernel
theorem dX4_feed_48 : decode cX4_feed 48 = .ok (.bipush 8, 2) := by decide +kernel
theorem dX4_feed_50 : decode cX4_feed 50 = .ok (.iload_n 3, 1) := by decide +kernel
theorem dX4_feed_51 : decode cX4_feed 51 = .ok (.imul, 1) := by decide +kernel
theorem dX4_feed_52 : decode cX4_feed 52 = .ok (.ishr, 1) := by decide +kernel
theorem dX4_feed_53 : decode cX4_feed 53 = .ok (.i2b, 1) := by decide +kernel
theorem dX4_feed_54 : decode cX4_feed 54 = .ok (.invokevirtual 164, 3) := by decide +kernel
theorem dX4_feed_57 : decode cX4_feed 57 = .ok (.iinc 3 (-1), 3) := by decide +kernel
theorem dX4_feed_60 : decode cX4_feed 60 = .ok (.goto (-21), 3) := by decide +kernel
theorem dX4_feed_63 : decode cX4_feed 63 = .ok (.aload_n 0, 1) := by decide +kernel
theorem dX4_feed_64 : decode cX4_feed 64 = .ok (.getfield 29, 3) := by decide +kernel
theorem dX4_feed_67 : decode cX4_feed 67 = .ok (.getfield 161, 3) := by decide +kernel
theorem dX4_feed_70 : decode cX4_feed 70 = .ok (.ireturn, 1) := by decide +kernel
theorem dX4_wipe_0 : decode cX4_wipe 0 = .ok (.aload_n 0, 1) := by decide +kernel
theorem dX4_wipe_1 : decode cX4_wipe 1 = .ok (.getfield 29, 3) := by decide +kernel
theorem dX4_wipe_4 : decode cX4_wipe 4 = .ok (.getfield 161, 3) := by decide +kernel
theorem dX4_wipe_7 : decode cX4_wipe 7 = .ok (.istore_n 1, 1) := by decide +kernel
theorem dX4_wipe_8 : decode cX4_wipe 8 = .ok (.aload_n 0, 1) := by decide +kernel
theorem dX4_wipe_9 : decode cX4_wipe 9 = .ok (.getfield 29, 3) := by decide +kernel
theorem dX4_wipe_12 : decode cX4_wipe 12 = .ok (.iconst 0, 1) := by decide +kernel
theorem dX4_wipe_13 : decode cX4_wipe 13 = .ok (.putfield 161, 3) := by decide +kernel
theorem dX4_wipe_16 : decode cX4_wipe 16 = .ok (.iload_n 1, 1) := by decide +kernel
theorem dX4_wipe_17 : decode cX4_wipe 17 = .ok (.ireturn, 1) := by decide +kernel
set_option maxRecDepth 20000 in
theorem ggX4_text_X4_lookAhead : GoodIn wsX4_text wsX4_lookAhead := goodIn_r _ [8, 2, 3, 9, 10, 11, 12, 13, 14, 15, 16, 17, 18, 19, 20, 21, 22, 23, 24, 25, 26, 27, 28, 29, 30, 144, 145, 146, 147, 148, 149, 150, 157, 158, 159, 160, 161, 162, 163, 164, 165, 166, 167, 168, 169, 170] (by decide +kernel) (by decide +kernel)
set_option maxRecDepth 20000 in
theorem gX4_text_X4_lookAhead : GoodIn wsX4_text (wsV RX4 130 RX4 yX4_lookAhead wsX4_lookAhead) := goodIn_app (goodIn_of _ (by decide +kernel)) ggX4_text_X4_lookAhead
set_option maxRecDepth 20000 in
theorem ggX4_text_X2_tellOnto : GoodIn wsX4_text wsX2_tellOnto := goodIn_r _ [34, 35, 36, 37, 38, 39, 40, 32, 41, 42, 43, 44, 45, 46, 47, 48, 49, 50, 51, 52, 53, 54, 55, 56, 57, 58, 59, 60, 61, 62, 63, 64, 65, 66, 67, 68, 69, 70, 71, 72, 73, 74, 75, 76, 77, 78, 79, 80, 81, 82, 83, 84, 85, 86, 87, 88, 89, 90, 91, 92, 93, 94, 95, 96, 97, 98, 99, 100, 101, 102, 103, 104, 105, 106, 107, 108, 109, 110, 111, 112, 113, 114, 115, 116, 117, 118, 119, 120, 121, 122, 123, 124, 125, 126, 127, 10, 128, 129, 17, 130, 131, 132, 18, 133, 20, 134, 135, 23, 24, 25, 26, 27, 28, 29, 30, 136, 137, 138, 139, 140, 141, 142, 143, 151, 152, 153, 154, 155, 156, 157, 158, 159, 160, 161, 162, 163, 164, 165, 166, 167, 168, 169, 170] (by decide +kernel) (by decide +kernel)
set_option maxRecDepth 20000 in
theorem gX4_text_X2_tellOnto_n168 : GoodIn wsX4_text (wsX2_tellOnto) := ggX4_text_X2_tellOnto
set_option maxRecDepth 20000 in
theorem ggX4_text_X0_takeFrom : GoodIn wsX4_text wsX0_takeFrom := goodIn_r _ [12, 13, 14, 15, 16, 17, 18, 19, 20, 21, 22, 23, 24, 25, 26, 27, 28, 29, 30, 157, 158, 159, 160, 161, 162, 163, 164, 165, 166, 167, 168, 169, 170] (by decide +kernel) (by decide +kernel)
set_option maxRecDepth 20000 in
theorem gX4_text_X0_takeFrom_n172 : GoodIn wsX4_text (wsX0_takeFrom) := ggX4_text_X0_takeFrom
theorem dX4_text_0 : decode cX4_text 0 = .ok (.aload_n 0, 1) := by decide +kernel
theorem dX4_text_1 : decode cX4_text 1 = .ok (.invokevirtual 130, 3) := by decide +kernel
theorem dX4_text_4 : decode cX4_text 4 = .ok (.aload_n 0, 1) := by decide +kernel
theorem dX4_text_5 : decode cX4_text 5 = .ok (.getfield 29, 3) := by decide +kernel
theorem dX4_text_8 : decode cX4_text 8 = .ok (.aload_n 0, 1) := by decide +kernel
theorem dX4_text_9 : decode cX4_text 9 = .ok (.getfield 16, 3) := by decide +kernel
theorem dX4_text_12 : decode cX4_text 12 = .ok (.invokevirtual 168, 3) := by decide +kernel
theorem dX4_text_15 : decode cX4_text 15 = .ok (.istore_n 1, 1) := by decide +kernel
theorem dX4_text_16 : decode cX4_text 16 = .ok (.iload_n 1, 1) := by decide +kernel
theorem dX4_text_17 : decode cX4_text 17 = .ok (.ifCond .lt 14, 3) := by decide +kernel
theorem dX4_text_20 : decode cX4_text 20 = .ok (.aload_n 0, 1) := by decide +kernel
theorem dX4_text_21 : decode cX4_text 21 = .ok (.getfield 10, 3) := by decide +kernel
theorem dX4_text_24 : decode cX4_text 24 = .ok (.aload_n 0, 1) := by decide +kernel
theorem dX4_text_25 : decode cX4_text 25 = .ok (.getfield 16, 3) := by decide +kernel
theorem dX4_text_28 : decode cX4_text 28 = .ok (.invokevirtual 172, 3) := by decide +kernel
theorem dX4_text_31 : decode cX4_text 31 = .ok (.aload_n 0, 1) := by decide +kernel
theorem dX4_text_32 : decode cX4_text 32 = .ok (.getfield 29, 3) := by decide +kernel
theorem dX4_text_35 : decode cX4_text 35 = .ok (.iconst 0, 1) := by decide +kernel
theorem dX4_text_36 : decode cX4_text 36 = .ok (.putfield 161, 3) := by decide +kernel
theorem dX4_text_39 : decode cX4_text 39 = .ok (.iload_n 1, 1) := by decide +kernel
theorem dX4_text_40 : decode cX4_text 40 = .ok (.ireturn, 1) := by decide +kernel
set_option maxRecDepth 20000 in
theorem ggX4_sheet_X4_isSheet : GoodIn wsX4_sheet wsX4_isSheet := goodIn_r _ [5, 6, 7, 4, 8] (by decide +kernel) (by decide +kernel)
set_option maxRecDepth 20000 in
theorem gX4_sheet_X4_isSheet : GoodIn wsX4_sheet (va_wsS RX4 176 yX4_isSheet wsX4_isSheet) := goodIn_app (goodIn_of _ (by decide +kernel)) ggX4_sheet_X4_isSheet
set_option maxRecDepth 20000 in
theorem ggX4_sheet_X4_finding : GoodIn wsX4_sheet wsX4_finding := goodIn_r _ [12, 13, 14, 22, 23, 24, 25, 26, 27, 28] (by decide +kernel) (by decide +kernel)
set_option maxRecDepth 20000 in
theorem gX4_sheet_X4_finding : GoodIn wsX4_sheet (wsV RX4 52 RX4 yX4_finding wsX4_finding) := goodIn_app (goodIn_of _ (by decide +kernel)) ggX4_sheet_X4_finding
set_option maxRecDepth 20000 in
theorem ggX4_sheet_X1_rule : GoodIn wsX4_sheet wsX1_rule := goodIn_r _ [18, 19, 20, 21, 29, 30, 31] (by decide +kernel) (by decide +kernel)
set_option maxRecDepth 20000 in
theorem gX4_sheet_X1_rule_n179 : GoodIn wsX4_sheet (wsX1_rule) := ggX4_sheet_X1_rule
theorem dX4_sheet_0 : decode cX4_sheet 0 = .ok (.iload_n 1, 1) := by decide +kernel
theorem dX4_sheet_1 : decode cX4_sheet 1 = .ok (.invokestatic 176, 3) := by decide +kernel
theorem dX4_sheet_4 : decode cX4_sheet 4 = .ok (.ifCond .eq 25, 3) := by decide +kernel
theorem dX4_sheet_7 : decode cX4_sheet 7 = .ok (.iload_n 2, 1) := by decide +kernel
theorem dX4_sheet_8 : decode cX4_sheet 8 = .ok (.ifCond .eq 27, 3) := by decide +kernel
theorem dX4_sheet_11 : decode cX4_sheet 11 = .ok (.iload_n 2, 1) := by decide +kernel
theorem dX4_sheet_12 : decode cX4_sheet 12 = .ok (.bipush 8, 2) := by decide +kernel
theorem dX4_sheet_14 : decode cX4_sheet 14 = .ok (.if_icmp .eq 21, 3) := by decide +kernel
theorem dX4_sheet_17 : decode cX4_sheet 17 = .ok (.iload_n 2, 1) := by decide +kernel
theorem dX4_sheet_18 : decode cX4_sheet 18 = .ok (.bipush 16, 2) := by decide +kernel
theorem dX4_sheet_20 : decode cX4_sheet 20 = .ok (.if_icmp .eq 15, 3) := by decide +kernel
theorem dX4_sheet_23 : decode cX4_sheet 23 = .ok (.iload_n 2, 1) := by decide +kernel
theorem dX4_sheet_24 : decode cX4_sheet 24 = .ok (.bipush 64, 2) := by decide +kernel
theorem dX4_sheet_26 : decode cX4_sheet 26 = .ok (.if_icmp .eq 9, 3) := by decide +kernel
theorem dX4_sheet_29 : decode cX4_sheet 29 = .ok (.aload_n 0, 1) := by decide +kernel
theorem dX4_sheet_30 : decode cX4_sheet 30 = .ok (.iconst 0, 1) := by decide +kernel
theorem dX4_sheet_31 : decode cX4_sheet 31 = .ok (.invokevirtual 52, 3) := by decide +kernel
theorem dX4_sheet_34 : decode cX4_sheet 34 = .ok (.ireturn, 1) := by decide +kernel
theorem dX4_sheet_35 : decode cX4_sheet 35 = .ok (.iload_n 3, 1) := by decide +kernel
theorem dX4_sheet_36 : decode cX4_sheet 36 = .ok (.ifCond .ge 10, 3) := by decide +kernel
theorem dX4_sheet_39 : decode cX4_sheet 39 = .ok (.aload_n 0, 1) := by decide +kernel
theorem dX4_sheet_40 : decode cX4_sheet 40 = .ok (.bipush 6, 2) := by decide +kernel
theorem dX4_sheet_42 : decode cX4_sheet 42 = .ok (.invokevirtual 52, 3) := by decide +kernel
theorem dX4_sheet_45 : decode cX4_sheet 45 = .ok (.ireturn, 1) := by decide +kernel
theorem dX4_sheet_46 : decode cX4_sheet 46 = .ok (.iload_n 3, 1) := by decide +kernel
theorem dX4_sheet_47 : decode cX4_sheet 47 = .ok (.bipush 40, 2) := by decide +kernel
theorem dX4_sheet_49 : decode cX4_sheet 49 = .ok (.if_icmp .le 9, 3) := by decide +kernel
theorem dX4_sheet_52 : decode cX4_sheet 52 = .ok (.aload_n 0, 1) := by decide +kernel
theorem dX4_sheet_53 : decode cX4_sheet 53 = .ok (.iconst 0, 1) := by decide +kernel
theorem dX4_sheet_54 : decode cX4_sheet 54 = .ok (.invokevirtual 52, 3) := by decide +kernel
theorem dX4_sheet_57 : decode cX4_sheet 57 = .ok (.ireturn, 1) := by decide +kernel
theorem dX4_sheet_58 : decode cX4_sheet 58 = .ok (.aload_n 0, 1) := by decide +kernel
theorem dX4_sheet_59 : decode cX4_sheet 59 = .ok (.getfield 35, 3) := by decide +kernel
theorem dX4_sheet_62 : decode cX4_sheet 62 = .ok (.iload_n 1, 1) := by decide +kernel
theorem dX4_sheet_63 : decode cX4_sheet 63 = .ok (.aaload, 1) := by decide +kernel
theorem dX4_sheet_64 : decode cX4_sheet 64 = .ok (.iload_n 2, 1) := by decide +kernel
theorem dX4_sheet_65 : decode cX4_sheet 65 = .ok (.iload_n 2, 1) := by decide +kernel
theorem dX4_sheet_66 : decode cX4_sheet 66 = .ok (.ifCond .ne 7, 3) := by decide +kernel
theorem dX4_sheet_69 : decode cX4_sheet 69 = .ok (.iconst 0, 1) := by decide +kernel
theorem dX4_sheet_70 : decode cX4_sheet 70 = .ok (.goto 4, 3) := by decide +kernel
theorem dX4_sheet_73 : decode cX4_sheet 73 = .ok (.iload_n 3, 1) := by decide +kernel
theorem dX4_sheet_74 : decode cX4_sheet 74 = .ok (.invokevirtual 179, 3) := by decide +kernel
theorem dX4_sheet_77 : decode cX4_sheet 77 = .ok (.aload_n 0, 1) := by decide +kernel
theorem dX4_sheet_78 : decode cX4_sheet 78 = .ok (.getfield 35, 3) := by decide +kernel
theorem dX4_sheet_81 : decode cX4_sheet 81 = .ok (.iload_n 1, 1) := by decide +kernel
theorem dX4_sheet_82 : decode cX4_sheet 82 = .ok (.aaload, 1) := by decide +kernel
theorem dX4_sheet_83 : decode cX4_sheet 83 = .ok (.getfield 182, 3) := by decide +kernel
theorem dX4_sheet_86 : decode cX4_sheet 86 = .ok (.ireturn, 1) := by decide +kernel
set_option maxRecDepth 20000 in
theorem ggX4_write_X4_isSheet : GoodIn wsX4_write wsX4_isSheet := goodIn_r _ [5, 6, 7, 4, 8] (by decide +kernel) (by decide +kernel)
set_option maxRecDepth 20000 in
theorem gX4_write_X4_isSheet : GoodIn wsX4_write (va_wsS RX4 176 yX4_isSheet wsX4_isSheet) := goodIn_app (goodIn_of _ (by decide +kernel)) ggX4_write_X4_isSheet
set_option maxRecDepth 20000 in
theorem ggX4_write_X4_finding : GoodIn wsX4_write wsX4_finding := goodIn_r _ [12, 13, 14, 24, 25, 26, 27, 28, 29, 30] (by decide +kernel) (by decide +kernel)
set_option maxRecDepth 20000 in
theorem gX4_write_X4_finding : GoodIn wsX4_write (wsV RX4 52 RX4 yX4_finding wsX4_finding) := goodIn_app (goodIn_of _ (by decide +kernel)) ggX4_write_X4_finding
set_option maxRecDepth 20000 in
theorem ggX4_write_X1_isMissing : GoodIn wsX4_write wsX1_isMissing := goodIn_r _ [18, 19, 31, 32, 33] (by decide +kernel) (by decide +kernel)
set_option maxRecDepth 20000 in
theorem gX4_write_X1_isMissing_n183 : GoodIn wsX4_write (wsX1_isMissing) := ggX4_write_X1_isMissing
set_option maxRecDepth 20000 in
theorem ggX4_write_X4_within : GoodIn wsX4_write wsX4_within := goodIn_r _ [8] (by decide +kernel) (by decide +kernel)
set_option maxRecDepth 20000 in
theorem gX4_write_X4_within : GoodIn wsX4_write (va_wsS RX4 44 yX4_within wsX4_within) := goodIn_app (goodIn_of _ (by decide +kernel)) ggX4_write_X4_within
set_option maxRecDepth 20000 in
theorem ggX4_write_X1_put : GoodIn wsX4_write wsX1_put := goodIn_r _ [22, 19, 23, 31, 32, 33] (by decide +kernel) (by decide +kernel)
set_option maxRecDepth 20000 in
theorem gX4_write_X1_put_n190 : GoodIn wsX4_write (wsX1_put) := ggX4_write_X1_put
theorem dX4_write_0 : decode cX4_write 0 = .ok (.iload_n 1, 1) := by decide +kernel
theorem dX4_write_1 : decode cX4_write 1 = .ok (.invokestatic 176, 3) := by decide +kernel
theorem dX4_write_4 : decode cX4_write 4 = .ok (.ifCond .ne 10, 3) := by decide +kernel
theorem dX4_write_7 : decode cX4_write 7 = .ok (.aload_n 0, 1) := by decide +kernel
theorem dX4_write_8 : decode cX4_write 8 = .ok (.iconst 0, 1) := by decide +kernel
theorem dX4_write_9 : decode cX4_write 9 = .ok (.invokevirtual 52, 3) := by decide +kernel
theorem dX4_write_12 : decode cX4_write 12 = .ok (.i2l, 1) := by decide +kernel
theorem dX4_write_13 : decode cX4_write 13 = .ok (.lreturn, 1) := by decide +kernel
theorem dX4_write_14 : decode cX4_write 14 = .ok (.aload_n 0, 1) := by decide +kernel
theorem dX4_write_15 : decode cX4_write 15 = .ok (.getfield 35, 3) := by decide +kernel
theorem dX4_write_18 : decode cX4_write 18 = .ok (.iload_n 1, 1) := by decide +kernel
theorem dX4_write_19 : decode cX4_write 19 = .ok (.aaload, 1) := by decide +kernel
theorem dX4_write_20 : decode cX4_write 20 = .ok (.astore 5, 2) := by decide +kernel
theorem dX4_write_22 : decode cX4_write 22 = .ok (.aload 5, 2) := by decide +kernel
theorem dX4_write_24 : decode cX4_write 24 = .ok (.invokevirtual 183, 3) := by decide +kernel
theorem dX4_write_27 : decode cX4_write 27 = .ok (.ifCond .eq 10, 3) := by decide +kernel
theorem dX4_write_30 : decode cX4_write 30 = .ok (.aload_n 0, 1) := by decide +kernel
theorem dX4_write_31 : decode cX4_write 31 = .ok (.iconst 5, 1) := by decide +kernel
theorem dX4_write_32 : decode cX4_write 32 = .ok (.invokevirtual 52, 3) := by decide +kernel
theorem dX4_write_35 : decode cX4_write 35 = .ok (.i2l, 1) := by decide +kernel
theorem dX4_write_36 : decode cX4_write 36 = .ok (.lreturn, 1) := by decide +kernel
theorem dX4_write_37 : decode cX4_write 37 = .ok (.iload_n 2, 1) := by decide +kernel
theorem dX4_write_38 : decode cX4_write 38 = .ok (.iconst 0, 1) := by decide +kernel
theorem dX4_write_39 : decode cX4_write 39 = .ok (.aload 5, 2) := by decide +kernel
theorem dX4_write_41 : decode cX4_write 41 = .ok (.getfield 182, 3) := by decide +kernel
theorem dX4_write_44 : decode cX4_write 44 = .ok (.iconst 1, 1) := by decide +kernel
theorem dX4_write_45 : decode cX4_write 45 = .ok (.isub, 1) := by decide +kernel
theorem dX4_write_46 : decode cX4_write 46 = .ok (.invokestatic 44, 3) := by decide +kernel
theorem dX4_write_49 : decode cX4_write 49 = .ok (.ifCond .ne 10, 3) := by decide +kernel
theorem dX4_write_52 : decode cX4_write 52 = .ok (.aload_n 0, 1) := by decide +kernel
theorem dX4_write_53 : decode cX4_write 53 = .ok (.iconst 0, 1) := by decide +kernel
theorem dX4_write_54 : decode cX4_write 54 = .ok (.invokevirtual 52, 3) := by decide +kernel
theorem dX4_write_57 : decode cX4_write 57 = .ok (.i2l, 1) := by decide +kernel
theorem dX4_write_58 : decode cX4_write 58 = .ok (.lreturn, 1) := by decide +kernel
theorem dX4_write_59 : decode cX4_write 59 = .ok (.aload 5, 2) := by decide +kernel
theorem dX4_write_61 : decode cX4_write 61 = .ok (.getfield 186, 3) := by decide +kernel
theorem dX4_write_64 : decode cX4_write 64 = .ok (.iload_n 2, 1) := by decide +kernel
theorem dX4_write_65 : decode cX4_write 65 = .ok (.laload, 1) := by decide +kernel
theorem dX4_write_66 : decode cX4_write 66 = .ok (.lstore 6, 2) := by decide +kernel
theorem dX4_write_68 : decode cX4_write 68 = .ok (.aload 5, 2) := by decide +kernel
theorem dX4_write_70 : decode cX4_write 70 = .ok (.iload_n 2, 1) := by decide +kernel
theorem dX4_write_71 : decode cX4_write 71 = .ok (.lload_n 3, 1) := by decide +kernel
theorem dX4_write_72 : decode cX4_write 72 = .ok (.invokevirtual 190, 3) := by decide +kernel
theorem dX4_write_75 : decode cX4_write 75 = .ok (.lload 6, 2) := by decide +kernel
theorem dX4_write_77 : decode cX4_write 77 = .ok (.lreturn, 1) := by decide +kernel
set_option maxRecDepth 20000 in
theorem ggX4_copy_X4_isSheet : GoodIn wsX4_copy wsX4_isSheet := goodIn_r _ [9, 10, 11, 8, 12] (by decide +kernel) (by decide +kernel)
set_option maxRecDepth 20000 in
theorem gX4_copy_X4_isSheet : GoodIn wsX4_copy (va_wsS RX4 176 yX4_isSheet wsX4_isSheet) := goodIn_app (goodIn_of _ (by decide +kernel)) ggX4_copy_X4_isSheet
set_option maxRecDepth 20000 in
theorem ggX4_copy_X4_finding : GoodIn wsX4_copy wsX4_finding := goodIn_r _ [16, 17, 18, 28, 29, 30, 31, 32, 33, 34] (by decide +kernel) (by decide +kernel)
set_option maxRecDepth 20000 in
theorem gX4_copy_X4_finding : GoodIn wsX4_copy (wsV RX4 52 RX4 yX4_finding wsX4_finding) := goodIn_app (goodIn_of _ (by decide +kernel)) ggX4_copy_X4_finding
set_option maxRecDepth 20000 in
theorem ggX4_copy_X1_isMissing : GoodIn wsX4_copy wsX1_isMissing := goodIn_r _ [22, 23, 35, 36, 37] (by decide +kernel) (by decide +kernel)
set_option maxRecDepth 20000 in
theorem gX4_copy_X1_isMissing_n183 : GoodIn wsX4_copy (wsX1_isMissing) := ggX4_copy_X1_isMissing
set_option maxRecDepth 20000 in
theorem ggX4_copy_X1_hasPart : GoodIn wsX4_copy wsX1_hasPart := goodIn_r _ [26, 27, 35, 36, 37] (by decide +kernel) (by decide +kernel)
set_option maxRecDepth 20000 in
theorem gX4_copy_X1_hasPart_n197 : GoodIn wsX4_copy (wsX1_hasPart) := ggX4_copy_X1_hasPart
theorem dX4_copy_0 : decode cX4_copy 0 = .ok (.iload_n 1, 1) := by decide +kernel
theorem dX4_copy_1 : decode cX4_copy 1 = .ok (.invokestatic 176, 3) := by decide +kernel
theorem dX4_copy_4 : decode cX4_copy 4 = .ok (.ifCond .eq 10, 3) := by decide +kernel
theorem dX4_copy_7 : decode cX4_copy 7 = .ok (.iload_n 3, 1) := by decide +kernel
theorem dX4_copy_8 : decode cX4_copy 8 = .ok (.invokestatic 176, 3) := by decide +kernel
theorem dX4_copy_11 : decode cX4_copy 11 = .ok (.ifCond .ne 9, 3) := by decide +kernel
theorem dX4_copy_14 : decode cX4_copy 14 = .ok (.aload_n 0, 1) := by decide +kernel
theorem dX4_copy_15 : decode cX4_copy 15 = .ok (.iconst 0, 1) := by decide +kernel
theorem dX4_copy_16 : decode cX4_copy 16 = .ok (.invokevirtual 52, 3) := by decide +kernel
theorem dX4_copy_19 : decode cX4_copy 19 = .ok (.ireturn, 1) := by decide +kernel
theorem dX4_copy_20 : decode cX4_copy 20 = .ok (.aload_n 0, 1) := by decide +kernel
theorem dX4_copy_21 : decode cX4_copy 21 = .ok (.getfield 35, 3) := by decide +kernel
theorem dX4_copy_24 : decode cX4_copy 24 = .ok (.iload_n 1, 1) := by decide +kernel
theorem dX4_copy_25 : decode cX4_copy 25 = .ok (.aaload, 1) := by decide +kernel
theorem dX4_copy_26 : decode cX4_copy 26 = .ok (.astore 6, 2) := by decide +kernel
theorem dX4_copy_28 : decode cX4_copy 28 = .ok (.aload_n 0, 1) := by decide +kernel
theorem dX4_copy_29 : decode cX4_copy 29 = .ok (.getfield 35, 3) := by decide +kernel
theorem dX4_copy_32 : decode cX4_copy 32 = .ok (.iload_n 3, 1) := by decide +kernel
theorem dX4_copy_33 : decode cX4_copy 33 = .ok (.aaload, 1) := by decide +kernel
theorem dX4_copy_34 : decode cX4_copy 34 = .ok (.astore 7, 2) := by decide +kernel
theorem dX4_copy_36 : decode cX4_copy 36 = .ok (.aload 6, 2) := by decide +kernel
theorem dX4_copy_38 : decode cX4_copy 38 = .ok (.invokevirtual 183, 3) := by decide +kernel
theorem dX4_copy_41 : decode cX4_copy 41 = .ok (.ifCond .ne 11, 3) := by decide +kernel
theorem dX4_copy_44 : decode cX4_copy 44 = .ok (.aload 7, 2) := by decide +kernel
theorem dX4_copy_46 : decode cX4_copy 46 = .ok (.invokevirtual 183, 3) := by decide +kernel
theorem dX4_copy_49 : decode cX4_copy 49 = .ok (.ifCond .eq 9, 3) := by decide +kernel
theorem dX4_copy_52 : decode cX4_copy 52 = .ok (.aload_n 0, 1) := by decide +kernel
theorem dX4_copy_53 : decode cX4_copy 53 = .ok (.iconst 5, 1) := by decide +kernel
theorem dX4_copy_54 : decode cX4_copy 54 = .ok (.invokevirtual 52, 3) := by decide +kernel
theorem dX4_copy_57 : decode cX4_copy 57 = .ok (.ireturn, 1) := by decide +kernel
theorem dX4_copy_58 : decode cX4_copy 58 = .ok (.aload 6, 2) := by decide +kernel
theorem dX4_copy_60 : decode cX4_copy 60 = .ok (.getfield 194, 3) := by decide +kernel
theorem dX4_copy_63 : decode cX4_copy 63 = .ok (.aload 7, 2) := by decide +kernel
theorem dX4_copy_65 : decode cX4_copy 65 = .ok (.getfield 194, 3) := by decide +kernel
theorem dX4_copy_68 : decode cX4_copy 68 = .ok (.if_icmp .eq 9, 3) := by decide +kernel
theorem dX4_copy_71 : decode cX4_copy 71 = .ok (.aload_n 0, 1) := by decide +kernel
theorem dX4_copy_72 : decode cX4_copy 72 = .ok (.iconst 2, 1) := by decide +kernel
theorem dX4_copy_73 : decode cX4_copy 73 = .ok (.invokevirtual 52, 3) := by decide +kernel
theorem dX4_copy_76 : decode cX4_copy 76 = .ok (.ireturn, 1) := by decide +kernel
theorem dX4_copy_77 : decode cX4_copy 77 = .ok (.aload 6, 2) := by decide +kernel
theorem dX4_copy_79 : decode cX4_copy 79 = .ok (.iload_n 2, 1) := by decide +kernel
theorem dX4_copy_80 : decode cX4_copy 80 = .ok (.iload 5, 2) := by decide +kernel
theorem dX4_copy_82 : decode cX4_copy 82 = .ok (.invokevirtual 197, 3) := by decide +kernel
theorem dX4_copy_85 : decode cX4_copy 85 = .ok (.ifCond .eq 15, 3) := by decide +kernel
theorem dX4_copy_88 : decode cX4_copy 88 = .ok (.aload 7, 2) := by decide +kernel
theorem dX4_copy_90 : decode cX4_copy 90 = .ok (.iload 4, 2) := by decide +kernel
theorem dX4_copy_92 : decode cX4_copy 92 = .ok (.iload 5, 2) := by decide +kernel
theorem dX4_copy_94 : decode cX4_copy 94 = .ok (.invokevirtual 197, 3) := by decide +kernel
theorem dX4_copy_97 : decode cX4_copy 97 = .ok (.ifCond .ne 9, 3) := by decide +kernel
theorem dX4_copy_100 : decode cX4_copy 100 = .ok (.aload_n 0, 1) := by decide +kernel
theorem dX4_copy_101 : decode cX4_copy 101 = .ok (.iconst 0, 1) := by decide +kernel
theorem dX4_copy_102 : decode cX4_copy 102 = .ok (.invokevirtual 52, 3) := by decide +kernel
theorem dX4_copy_105 : decode cX4_copy 105 = .ok (.ireturn, 1) := by decide +kernel
theorem dX4_copy_106 : decode cX4_copy 106 = .ok (.aload 6, 2) := by decide +kernel
theorem dX4_copy_108 : decode cX4_copy 108 = .ok (.getfield 186, 3) := by decide +kernel
theorem dX4_copy_111 : decode cX4_copy 111 = .ok (.iload_n 2, 1) := by decide +kernel
theorem dX4_copy_112 : decode cX4_copy 112 = .ok (.aload 7, 2) := by decide +kernel
theorem dX4_copy_114 : decode cX4_copy 114 = .ok (.getfield 186, 3) := by decide +kernel
theorem dX4_copy_117 : decode cX4_copy 117 = .ok (.iload 4, 2) := by decide +kernel
theorem dX4_copy_119 : decode cX4_copy 119 = .ok (.iload 5, 2) := by decide +kernel
theorem dX4_copy_121 : decode cX4_copy 121 = .ok (.invokestatic 200, 3) := by decide +kernel
theorem dX4_copy_124 : decode cX4_copy 124 = .ok (.iload 5, 2) := by decide +kernel
theorem dX4_copy_126 : decode cX4_copy 126 = .ok (.ireturn, 1) := by decide +kernel
set_option maxRecDepth 20000 in
theorem ggX4_lays_X4_isSheet : GoodIn wsX4_lays wsX4_isSheet := goodIn_r _ [7, 8, 9, 6, 10] (by decide +kernel) (by decide +kernel)
set_option maxRecDepth 20000 in
theorem gX4_lays_X4_isSheet : GoodIn wsX4_lays (va_wsS RX4 176 yX4_isSheet wsX4_isSheet) := goodIn_app (goodIn_of _ (by decide +kernel)) ggX4_lays_X4_isSheet
set_option maxRecDepth 20000 in
theorem ggX4_lays_X4_finding : GoodIn wsX4_lays wsX4_finding := goodIn_r _ [14, 15, 16, 22, 23, 24, 25, 26, 27, 28] (by decide +kernel) (by decide +kernel)
set_option maxRecDepth 20000 in
theorem gX4_lays_X4_finding : GoodIn wsX4_lays (wsV RX4 52 RX4 yX4_finding wsX4_finding) := goodIn_app (goodIn_of _ (by decide +kernel)) ggX4_lays_X4_finding
set_option maxRecDepth 20000 in
theorem ggX4_lays_X1_isMissing : GoodIn wsX4_lays wsX1_isMissing := goodIn_r _ [20, 21, 29, 30, 31] (by decide +kernel) (by decide +kernel)
set_option maxRecDepth 20000 in
theorem gX4_lays_X1_isMissing_n183 : GoodIn wsX4_lays (wsX1_isMissing) := ggX4_lays_X1_isMissing
theorem dX4_lays_0 : decode cX4_lays 0 = .ok (.iload_n 1, 1) := by decide +kernel
theorem dX4_lays_1 : decode cX4_lays 1 = .ok (.invokestatic 176, 3) := by decide +kernel
theorem dX4_lays_4 : decode cX4_lays 4 = .ok (.ifCond .ne 9, 3) := by decide +kernel
theorem dX4_lays_7 : decode cX4_lays 7 = .ok (.aload_n 0, 1) := by decide +kernel
theorem dX4_lays_8 : decode cX4_lays 8 = .ok (.iconst 0, 1) := by decide +kernel
theorem dX4_lays_9 : decode cX4_lays 9 = .ok (.invokevirtual 52, 3) := by decide +kernel
theorem dX4_lays_12 : decode cX4_lays 12 = .ok (.ireturn, 1) := by decide +kernel
theorem dX4_lays_13 : decode cX4_lays 13 = .ok (.aload_n 0, 1) := by decide +kernel
theorem dX4_lays_14 : decode cX4_lays 14 = .ok (.getfield 35, 3) := by decide +kernel
theorem dX4_lays_17 : decode cX4_lays 17 = .ok (.iload_n 1, 1) := by decide +kernel
theorem dX4_lays_18 : decode cX4_lays 18 = .ok (.aaload, 1) := by decide +kernel
theorem dX4_lays_19 : decode cX4_lays 19 = .ok (.astore_n 2, 1) := by decide +kernel
theorem dX4_lays_20 : decode cX4_lays 20 = .ok (.aload_n 2, 1) := by decide +kernel
theorem dX4_lays_21 : decode cX4_lays 21 = .ok (.invokevirtual 183, 3) := by decide +kernel
theorem dX4_lays_24 : decode cX4_lays 24 = .ok (.ifCond .eq 9, 3) := by decide +kernel
theorem dX4_lays_27 : decode cX4_lays 27 = .ok (.aload_n 0, 1) := by decide +kernel
theorem dX4_lays_28 : decode cX4_lays 28 = .ok (.iconst 5, 1) := by decide +kernel
theorem dX4_lays_29 : decode cX4_lays 29 = .ok (.invokevirtual 52, 3) := by decide +kernel
theorem dX4_lays_32 : decode cX4_lays 32 = .ok (.ireturn, 1) := by decide +kernel
theorem dX4_lays_33 : decode cX4_lays 33 = .ok (.iconst 0, 1) := by decide +kernel
theorem dX4_lays_34 : decode cX4_lays 34 = .ok (.istore_n 3, 1) := by decide +kernel
theorem dX4_lays_35 : decode cX4_lays 35 = .ok (.iconst 0, 1) := by decide +kernel
theorem dX4_lays_36 : decode cX4_lays 36 = .ok (.istore 4, 2) := by decide +kernel
theorem dX4_lays_38 : decode cX4_lays 38 = .ok (.iload 4, 2) := by decide +kernel
theorem dX4_lays_40 : decode cX4_lays 40 = .ok (.aload_n 2, 1) := by decide +kernel
theorem dX4_lays_41 : decode cX4_lays 41 = .ok (.getfield 182, 3) := by decide +kernel
theorem dX4_lays_44 : decode cX4_lays 44 = .ok (.if_icmp .ge 65, 3) := by decide +kernel
theorem dX4_lays_47 : decode cX4_lays 47 = .ok (.iload 4, 2) := by decide +kernel
theorem dX4_lays_49 : decode cX4_lays 49 = .ok (.aload_n 0, 1) := by decide +kernel
theorem dX4_lays_50 : decode cX4_lays 50 = .ok (.getfield 10, 3) := by decide +kernel
theorem dX4_lays_53 : decode cX4_lays 53 = .ok (.getfield 65, 3) := by decide +kernel
theorem dX4_lays_56 : decode cX4_lays 56 = .ok (.if_icmp .ge 53, 3) := by decide +kernel
theorem dX4_lays_59 : decode cX4_lays 59 = .ok (.aload_n 2, 1) := by decide +kernel
theorem dX4_lays_60 : decode cX4_lays 60 = .ok (.getfield 186, 3) := by decide +kernel
theorem dX4_lays_63 : decode cX4_lays 63 = .ok (.iload 4, 2) := by decide +kernel
theorem dX4_lays_65 : decode cX4_lays 65 = .ok (.laload, 1) := by decide +kernel
theorem dX4_lays_66 : decode cX4_lays 66 = .ok (.lstore 5, 2) := by decide +kernel
theorem dX4_lays_68 : decode cX4_lays 68 = .ok (.lload 5, 2) := by decide +kernel
theorem dX4_lays_70 : decode cX4_lays 70 = .ok (.lconst 0, 1) := by decide +kernel
theorem dX4_lays_71 : decode cX4_lays 71 = .ok (.lcmp, 1) := by decide +kernel
theorem dX4_lays_72 : decode cX4_lays 72 = .ok (.ifCond .lt 31, 3) := by decide +kernel
theorem dX4_lays_75 : decode cX4_lays 75 = .ok (.lload 5, 2) := by decide +kernel
theorem dX4_lays_77 : decode cX4_lays 77 = .ok (.ldc2_w 206, 3) := by decide +kernel
theorem dX4_lays_80 : decode cX4_lays 80 = .ok (.lcmp, 1) := by decide +kernel
theorem dX4_lays_81 : decode cX4_lays 81 = .ok (.ifCond .gt 22, 3) := by decide +kernel
theorem dX4_lays_84 : decode cX4_lays 84 = .ok (.aload_n 0, 1) := by decide +kernel
theorem dX4_lays_85 : decode cX4_lays 85 = .ok (.getfield 10, 3) := by decide +kernel
theorem dX4_lays_88 : decode cX4_lays 88 = .ok (.getfield 68, 3) := by decide +kernel
theorem dX4_lays_91 : decode cX4_lays 91 = .ok (.iload 4, 2) := by decide +kernel
theorem dX4_lays_93 : decode cX4_lays 93 = .ok (.aaload, 1) := by decide +kernel
theorem dX4_lays_94 : decode cX4_lays 94 = .ok (.lload 5, 2) := by decide +kernel
theorem dX4_lays_96 : decode cX4_lays 96 = .ok (.l2i, 1) := by decide +kernel
theorem dX4_lays_97 : decode cX4_lays 97 = .ok (.putfield 113, 3) := by decide +kernel
theorem dX4_lays_100 : decode cX4_lays 100 = .ok (.iinc 3 1, 3) := by decide +kernel
theorem dX4_lays_103 : decode cX4_lays 103 = .ok (.iinc 4 1, 3) := by decide +kernel
theorem dX4_lays_106 : decode cX4_lays 106 = .ok (.goto (-68), 3) := by decide +kernel
theorem dX4_lays_109 : decode cX4_lays 109 = .ok (.iload_n 3, 1) := by decide +kernel
theorem dX4_lays_110 : decode cX4_lays 110 = .ok (.ireturn, 1) := by decide +kernel
set_option maxRecDepth 20000 in
theorem ggX4_book_X4_isSheet : GoodIn wsX4_book wsX4_isSheet := goodIn_r _ [6, 7, 8, 5, 9] (by decide +kernel) (by decide +kernel)
set_option maxRecDepth 20000 in
theorem gX4_book_X4_isSheet : GoodIn wsX4_book (va_wsS RX4 176 yX4_isSheet wsX4_isSheet) := goodIn_app (goodIn_of _ (by decide +kernel)) ggX4_book_X4_isSheet
set_option maxRecDepth 20000 in
theorem ggX4_book_X4_finding : GoodIn wsX4_book wsX4_finding := goodIn_r _ [13, 14, 15, 94, 95, 96, 97, 98, 99, 100] (by decide +kernel) (by decide +kernel)
set_option maxRecDepth 20000 in
theorem gX4_book_X4_finding : GoodIn wsX4_book (wsV RX4 52 RX4 yX4_finding wsX4_finding) := goodIn_app (goodIn_of _ (by decide +kernel)) ggX4_book_X4_finding
set_option maxRecDepth 20000 in
theorem ggX4_book_X1_isMissing : GoodIn wsX4_book wsX1_isMissing := goodIn_r _ [19, 20, 101, 102, 103] (by decide +kernel) (by decide +kernel)
set_option maxRecDepth 20000 in
theorem gX4_book_X1_isMissing_n183 : GoodIn wsX4_book (wsX1_isMissing) := ggX4_book_X1_isMissing
set_option maxRecDepth 20000 in
theorem ggX4_book_X4_isThere : GoodIn wsX4_book wsX4_isThere := goodIn_r _ [24, 25, 7, 8, 5, 9, 94, 95, 96, 97, 98, 99, 100, 104, 105, 106, 107, 108, 109] (by decide +kernel) (by decide +kernel)
set_option maxRecDepth 20000 in
theorem gX4_book_X4_isThere : GoodIn wsX4_book (wsV RX4 85 RX4 yX4_isThere wsX4_isThere) := goodIn_app (goodIn_of _ (by decide +kernel)) ggX4_book_X4_isThere
set_option maxRecDepth 20000 in
theorem ggX4_book_X4_lookAhead : GoodIn wsX4_book wsX4_lookAhead := goodIn_r _ [29, 2, 25, 30, 31, 32, 33, 34, 35, 36, 37, 38, 39, 40, 41, 42, 43, 44, 45, 46, 47, 48, 49, 50, 51, 94, 95, 96, 97, 98, 99, 100, 104, 105, 106, 107, 108, 109, 110, 111, 112, 113, 114, 115, 116, 117] (by decide +kernel) (by decide +kernel)
set_option maxRecDepth 20000 in
theorem gX4_book_X4_lookAhead : GoodIn wsX4_book (wsV RX4 130 RX4 yX4_lookAhead wsX4_lookAhead) := goodIn_app (goodIn_of _ (by decide +kernel)) ggX4_book_X4_lookAhead
set_option maxRecDepth 20000 in
theorem ggX4_book_X1_put : GoodIn wsX4_book wsX1_put := goodIn_r _ [54, 20, 55, 101, 102, 103] (by decide +kernel) (by decide +kernel)
set_option maxRecDepth 20000 in
theorem gX4_book_X1_put_n190 : GoodIn wsX4_book (wsX1_put) := ggX4_book_X1_put
set_option maxRecDepth 20000 in
theorem ggX4_book_X0_passHour : GoodIn wsX4_book wsX0_passHour := goodIn_r _ [58, 38, 39, 34, 59, 60, 61, 31, 62, 63, 64, 65, 66, 67, 68, 69, 70, 37, 71, 72, 73, 74, 75, 41, 76, 77, 46, 45, 78, 79, 80, 81, 35, 82, 83, 84, 85, 86, 87, 88, 89, 36, 90, 91, 92, 93, 104, 105, 106, 107, 108, 109, 110, 111, 112, 113, 114, 115, 116, 117] (by decide +kernel) (by decide +kernel)
set_option maxRecDepth 20000 in
theorem gX4_book_X0_passHour_n136 : GoodIn wsX4_book (wsX0_passHour) := ggX4_book_X0_passHour
theorem dX4_book_0 : decode cX4_book 0 = .ok (.iload_n 1, 1) := by decide +kernel
theorem dX4_book_1 : decode cX4_book 1 = .ok (.invokestatic 176, 3) := by decide +kernel
theorem dX4_book_4 : decode cX4_book 4 = .ok (.ifCond .ne 9, 3) := by decide +kernel
theorem dX4_book_7 : decode cX4_book 7 = .ok (.aload_n 0, 1) := by decide +kernel
theorem dX4_book_8 : decode cX4_book 8 = .ok (.iconst 0, 1) := by decide +kernel
theorem dX4_book_9 : decode cX4_book 9 = .ok (.invokevirtual 52, 3) := by decide +kernel
theorem dX4_book_12 : decode cX4_book 12 = .ok (.ireturn, 1) := by decide +kernel
theorem dX4_book_13 : decode cX4_book 13 = .ok (.aload_n 0, 1) := by decide +kernel
theorem dX4_book_14 : decode cX4_book 14 = .ok (.getfield 35, 3) := by decide +kernel
theorem dX4_book_17 : decode cX4_book 17 = .ok (.iload_n 1, 1) := by decide +kernel
theorem dX4_book_18 : decode cX4_book 18 = .ok (.aaload, 1) := by decide +kernel
theorem dX4_book_19 : decode cX4_book 19 = .ok (.astore_n 3, 1) := by decide +kernel
theorem dX4_book_20 : decode cX4_book 20 = .ok (.aload_n 3, 1) := by decide +kernel
theorem dX4_book_21 : decode cX4_book 21 = .ok (.invokevirtual 183, 3) := by decide +kernel
theorem dX4_book_24 : decode cX4_book 24 = .ok (.ifCond .eq 9, 3) := by decide +kernel
theorem dX4_book_27 : decode cX4_book 27 = .ok (.aload_n 0, 1) := by decide +kernel
theorem dX4_book_28 : decode cX4_book 28 = .ok (.iconst 5, 1) := by decide +kernel
theorem dX4_book_29 : decode cX4_book 29 = .ok (.invokevirtual 52, 3) := by decide +kernel
theorem dX4_book_32 : decode cX4_book 32 = .ok (.ireturn, 1) := by decide +kernel
theorem dX4_book_33 : decode cX4_book 33 = .ok (.aload_n 0, 1) := by decide +kernel
theorem dX4_book_34 : decode cX4_book 34 = .ok (.iload_n 2, 1) := by decide +kernel
theorem dX4_book_35 : decode cX4_book 35 = .ok (.invokevirtual 85, 3) := by decide +kernel
theorem dX4_book_38 : decode cX4_book 38 = .ok (.ifCond .ne 9, 3) := by decide +kernel
theorem dX4_book_41 : decode cX4_book 41 = .ok (.aload_n 0, 1) := by decide +kernel
theorem dX4_book_42 : decode cX4_book 42 = .ok (.iconst 0, 1) := by decide +kernel
theorem dX4_book_43 : decode cX4_book 43 = .ok (.invokevirtual 52, 3) := by decide +kernel
theorem dX4_book_46 : decode cX4_book 46 = .ok (.ireturn, 1) := by decide +kernel
theorem dX4_book_47 : decode cX4_book 47 = .ok (.aload_n 0, 1) := by decide +kernel
theorem dX4_book_48 : decode cX4_book 48 = .ok (.invokevirtual 130, 3) := by decide +kernel
theorem dX4_book_51 : decode cX4_book 51 = .ok (.iconst 0, 1) := by decide +kernel
theorem dX4_book_52 : decode cX4_book 52 = .ok (.istore 4, 2) := by decide +kernel
theorem dX4_book_54 : decode cX4_book 54 = .ok (.iload 4, 2) := by decide +kernel
theorem dX4_book_56 : decode cX4_book 56 = .ok (.aload_n 3, 1) := by decide +kernel
theorem dX4_book_57 : decode cX4_book 57 = .ok (.getfield 182, 3) := by decide +kernel
theorem dX4_book_60 : decode cX4_book 60 = .ok (.if_icmp .ge 35, 3) := by decide +kernel
theorem dX4_book_63 : decode cX4_book 63 = .ok (.aload_n 3, 1) := by decide +kernel
theorem dX4_book_64 : decode cX4_book 64 = .ok (.iload 4, 2) := by decide +kernel
theorem dX4_book_66 : decode cX4_book 66 = .ok (.aload_n 0, 1) := by decide +kernel
theorem dX4_book_67 : decode cX4_book 67 = .ok (.getfield 16, 3) := by decide +kernel
theorem dX4_book_70 : decode cX4_book 70 = .ok (.getfield 68, 3) := by decide +kernel
theorem dX4_book_73 : decode cX4_book 73 = .ok (.iload_n 2, 1) := by decide +kernel
theorem dX4_book_74 : decode cX4_book 74 = .ok (.aaload, 1) := by decide +kernel
theorem dX4_book_75 : decode cX4_book 75 = .ok (.getfield 133, 3) := by decide +kernel
theorem dX4_book_78 : decode cX4_book 78 = .ok (.i2l, 1) := by decide +kernel
theorem dX4_book_79 : decode cX4_book 79 = .ok (.invokevirtual 190, 3) := by decide +kernel
theorem dX4_book_82 : decode cX4_book 82 = .ok (.aload_n 0, 1) := by decide +kernel
theorem dX4_book_83 : decode cX4_book 83 = .ok (.getfield 16, 3) := by decide +kernel
theorem dX4_book_86 : decode cX4_book 86 = .ok (.invokevirtual 136, 3) := by decide +kernel
theorem dX4_book_89 : decode cX4_book 89 = .ok (.iinc 4 1, 3) := by decide +kernel
theorem dX4_book_92 : decode cX4_book 92 = .ok (.goto (-38), 3) := by decide +kernel
theorem dX4_book_95 : decode cX4_book 95 = .ok (.aload_n 3, 1) := by decide +kernel
theorem dX4_book_96 : decode cX4_book 96 = .ok (.getfield 182, 3) := by decide +kernel
theorem dX4_book_99 : decode cX4_book 99 = .ok (.ireturn, 1) := by decide +kernel
set_option maxRecDepth 20000 in
theorem ggX4_read_X4_isSheet : GoodIn wsX4_read wsX4_isSheet := goodIn_r _ [6, 7, 8, 5, 9] (by decide +kernel) (by decide +kernel)
set_option maxRecDepth 20000 in
theorem gX4_read_X4_isSheet : GoodIn wsX4_read (va_wsS RX4 176 yX4_isSheet wsX4_isSheet) := goodIn_app (goodIn_of _ (by decide +kernel)) ggX4_read_X4_isSheet
set_option maxRecDepth 20000 in
theorem ggX4_read_X4_finding : GoodIn wsX4_read wsX4_finding := goodIn_r _ [13, 14, 15, 94, 95, 96, 97, 98, 99, 100] (by decide +kernel) (by decide +kernel)
set_option maxRecDepth 20000 in
theorem gX4_read_X4_finding : GoodIn wsX4_read (wsV RX4 52 RX4 yX4_finding wsX4_finding) := goodIn_app (goodIn_of _ (by decide +kernel)) ggX4_read_X4_finding
set_option maxRecDepth 20000 in
theorem ggX4_read_X1_isMissing : GoodIn wsX4_read wsX1_isMissing := goodIn_r _ [19, 20, 115, 116, 117] (by decide +kernel) (by decide +kernel)
set_option maxRecDepth 20000 in
theorem gX4_read_X1_isMissing_n183 : GoodIn wsX4_read (wsX1_isMissing) := ggX4_read_X1_isMissing
set_option maxRecDepth 20000 in
theorem ggX4_read_X4_isThere : GoodIn wsX4_read wsX4_isThere := goodIn_r _ [24, 25, 7, 8, 5, 9, 94, 95, 96, 97, 98, 99, 100, 101, 102, 103, 104, 105, 106] (by decide +kernel) (by decide +kernel)
set_option maxRecDepth 20000 in
theorem gX4_read_X4_isThere : GoodIn wsX4_read (wsV RX4 85 RX4 yX4_isThere wsX4_isThere) := goodIn_app (goodIn_of _ (by decide +kernel)) ggX4_read_X4_isThere
set_option maxRecDepth 20000 in
theorem ggX4_read_X4_lookAhead : GoodIn wsX4_read wsX4_lookAhead := goodIn_r _ [29, 2, 25, 30, 31, 32, 33, 34, 35, 36, 37, 38, 39, 40, 41, 42, 43, 44, 45, 46, 47, 48, 49, 50, 51, 94, 95, 96, 97, 98, 99, 100, 101, 102, 103, 104, 105, 106, 107, 108, 109, 110, 111, 112, 113, 114] (by decide +kernel) (by decide +kernel)
set_option maxRecDepth 20000 in
theorem gX4_read_X4_lookAhead : GoodIn wsX4_read (wsV RX4 130 RX4 yX4_lookAhead wsX4_lookAhead) := goodIn_app (goodIn_of _ (by decide +kernel)) ggX4_read_X4_lookAhead
set_option maxRecDepth 20000 in
theorem ggX4_read_X4_goesBy : GoodIn wsX4_read wsX4_goesBy := goodIn_r _ [55, 2, 56, 31, 57, 58, 38, 39, 34, 59, 60, 61, 62, 63, 64, 65, 66, 67, 68, 69, 70, 37, 71, 72, 73, 74, 75, 41, 76, 77, 46, 45, 78, 79, 80, 81, 35, 82, 83, 84, 85, 86, 87, 88, 89, 36, 90, 91, 92, 93, 115, 116, 117, 94, 95, 96, 97, 98, 99, 100, 101, 102, 103, 104, 105, 106, 107, 108, 109, 110, 111, 112, 113, 114] (by decide +kernel) (by decide +kernel)
set_option maxRecDepth 20000 in
theorem gX4_read_X4_goesBy : GoodIn wsX4_read (wsV RX4 211 RX4 yX4_goesBy wsX4_goesBy) := goodIn_app (goodIn_of _ (by decide +kernel)) ggX4_read_X4_goesBy
theorem dX4_read_0 : decode cX4_read 0 = .ok (.iload_n 1, 1) := by decide +kernel
theorem dX4_read_1 : decode cX4_read 1 = .ok (.invokestatic 176, 3) := by decide +kernel
theorem dX4_read_4 : decode cX4_read 4 = .ok (.ifCond .ne 9, 3) := by decide +kernel
theorem dX4_read_7 : decode cX4_read 7 = .ok (.aload_n 0, 1) := by decide +kernel
theorem dX4_read_8 : decode cX4_read 8 = .ok (.iconst 0, 1) := by decide +kernel
theorem dX4_read_9 : decode cX4_read 9 = .ok (.invokevirtual 52, 3) := by decide +kernel
theorem dX4_read_12 : decode cX4_read 12 = .ok (.ireturn, 1) := by decide +kernel
theorem dX4_read_13 : decode cX4_read 13 = .ok (.aload_n 0, 1) := by decide +kernel
theorem dX4_read_14 : decode cX4_read 14 = .ok (.getfield 35, 3) := by decide +kernel
theorem dX4_read_17 : decode cX4_read 17 = .ok (.iload_n 1, 1) := by decide +kernel
theorem dX4_read_18 : decode cX4_read 18 = .ok (.aaload, 1) := by decide +kernel
theorem dX4_read_19 : decode cX4_read 19 = .ok (.astore_n 3, 1) := by decide +kernel
theorem dX4_read_20 : decode cX4_read 20 = .ok (.aload_n 3, 1) := by decide +kernel
theorem dX4_read_21 : decode cX4_read 21 = .ok (.invokevirtual 183, 3) := by decide +kernel
theorem dX4_read_24 : decode cX4_read 24 = .ok (.ifCond .eq 9, 3) := by decide +kernel
theorem dX4_read_27 : decode cX4_read 27 = .ok (.aload_n 0, 1) := by decide +kernel
theorem dX4_read_28 : decode cX4_read 28 = .ok (.iconst 5, 1) := by decide +kernel
theorem dX4_read_29 : decode cX4_read 29 = .ok (.invokevirtual 52, 3) := by decide +kernel
theorem dX4_read_32 : decode cX4_read 32 = .ok (.ireturn, 1) := by decide +kernel
theorem dX4_read_33 : decode cX4_read 33 = .ok (.aload_n 0, 1) := by decide +kernel
theorem dX4_read_34 : decode cX4_read 34 = .ok (.iload_n 2, 1) := by decide +kernel
theorem dX4_read_35 : decode cX4_read 35 = .ok (.invokevirtual 85, 3) := by decide +kernel
theorem dX4_read_38 : decode cX4_read 38 = .ok (.ifCond .ne 9, 3) := by decide +kernel
theorem dX4_read_41 : decode cX4_read 41 = .ok (.aload_n 0, 1) := by decide +kernel
theorem dX4_read_42 : decode cX4_read 42 = .ok (.iconst 0, 1) := by decide +kernel
theorem dX4_read_43 : decode cX4_read 43 = .ok (.invokevirtual 52, 3) := by decide +kernel
theorem dX4_read_46 : decode cX4_read 46 = .ok (.ireturn, 1) := by decide +kernel
theorem dX4_read_47 : decode cX4_read 47 = .ok (.iconst 0, 1) := by decide +kernel
theorem dX4_read_48 : decode cX4_read 48 = .ok (.istore 4, 2) := by decide +kernel
theorem dX4_read_50 : decode cX4_read 50 = .ok (.iconst 0, 1) := by decide +kernel
theorem dX4_read_51 : decode cX4_read 51 = .ok (.istore 5, 2) := by decide +kernel
theorem dX4_read_53 : decode cX4_read 53 = .ok (.iload 5, 2) := by decide +kernel
theorem dX4_read_55 : decode cX4_read 55 = .ok (.iconst 5, 1) := by decide +kernel
theorem dX4_read_56 : decode cX4_read 56 = .ok (.if_icmp .gt 69, 3) := by decide +kernel
theorem dX4_read_59 : decode cX4_read 59 = .ok (.iconst 0, 1) := by decide +kernel
theorem dX4_read_60 : decode cX4_read 60 = .ok (.istore 6, 2) := by decide +kernel
theorem dX4_read_62 : decode cX4_read 62 = .ok (.iload 6, 2) := by decide +kernel
theorem dX4_read_64 : decode cX4_read 64 = .ok (.bipush 10, 2) := by decide +kernel
theorem dX4_read_66 : decode cX4_read 66 = .ok (.if_icmp .gt 53, 3) := by decide +kernel
theorem dX4_read_69 : decode cX4_read 69 = .ok (.aload_n 0, 1) := by decide +kernel
theorem dX4_read_70 : decode cX4_read 70 = .ok (.invokevirtual 130, 3) := by decide +kernel
theorem dX4_read_73 : decode cX4_read 73 = .ok (.aload_n 0, 1) := by decide +kernel
theorem dX4_read_74 : decode cX4_read 74 = .ok (.getfield 16, 3) := by decide +kernel
theorem dX4_read_77 : decode cX4_read 77 = .ok (.getfield 68, 3) := by decide +kernel
theorem dX4_read_80 : decode cX4_read 80 = .ok (.iload_n 2, 1) := by decide +kernel
theorem dX4_read_81 : decode cX4_read 81 = .ok (.aaload, 1) := by decide +kernel
theorem dX4_read_82 : decode cX4_read 82 = .ok (.iload 5, 2) := by decide +kernel
theorem dX4_read_84 : decode cX4_read 84 = .ok (.putfield 106, 3) := by decide +kernel
theorem dX4_read_87 : decode cX4_read 87 = .ok (.aload_n 0, 1) := by decide +kernel
theorem dX4_read_88 : decode cX4_read 88 = .ok (.getfield 16, 3) := by decide +kernel
theorem dX4_read_91 : decode cX4_read 91 = .ok (.getfield 68, 3) := by decide +kernel
theorem dX4_read_94 : decode cX4_read 94 = .ok (.iload_n 2, 1) := by decide +kernel
theorem dX4_read_95 : decode cX4_read 95 = .ok (.aaload, 1) := by decide +kernel
theorem dX4_read_96 : decode cX4_read 96 = .ok (.iload 6, 2) := by decide +kernel
theorem dX4_read_98 : decode cX4_read 98 = .ok (.putfield 208, 3) := by decide +kernel
theorem dX4_read_101 : decode cX4_read 101 = .ok (.aload_n 0, 1) := by decide +kernel
theorem dX4_read_102 : decode cX4_read 102 = .ok (.aload_n 3, 1) := by decide +kernel
theorem dX4_read_103 : decode cX4_read 103 = .ok (.iload_n 2, 1) := by decide +kernel
theorem dX4_read_104 : decode cX4_read 104 = .ok (.invokevirtual 211, 3) := by decide +kernel
theorem dX4_read_107 : decode cX4_read 107 = .ok (.ifCond .eq 6, 3) := by decide +kernel
theorem dX4_read_110 : decode cX4_read 110 = .ok (.iinc 4 1, 3) := by decide +kernel
theorem dX4_read_113 : decode cX4_read 113 = .ok (.iinc 6 1, 3) := by decide +kernel
theorem dX4_read_116 : decode cX4_read 116 = .ok (.goto (-54), 3) := by decide +kernel
theorem dX4_read_119 : decode cX4_read 119 = .ok (.iinc 5 1, 3) := by decide +kernel
theorem dX4_read_122 : decode cX4_read 122 = .ok (.goto (-69), 3) := by decide +kernel
theorem dX4_read_125 : decode cX4_read 125 = .ok (.iload 4, 2) := by decide +kernel
theorem dX4_read_127 : decode cX4_read 127 = .ok (.ireturn, 1) := by decide +kernel
set_option maxRecDepth 20000 in
theorem ggX4_image_X0_takeFrom : GoodIn wsX4_image wsX0_takeFrom := goodIn_r _ [7, 8, 9, 10, 11, 12, 13, 14, 15, 16, 17, 18, 19, 20, 21, 22, 23, 24, 25, 33, 34, 35, 36, 37, 38, 39, 40, 41, 42, 43, 44, 45, 46] (by decide +kernel) (by decide +kernel)
set_option maxRecDepth 20000 in
theorem gX4_image_X0_takeFrom_n172 : GoodIn wsX4_image (wsX0_takeFrom) := ggX4_image_X0_takeFrom
theorem dX4_image_0 : decode cX4_image 0 = .ok (.aload_n 0, 1) := by decide +kernel
theorem dX4_image_1 : decode cX4_image 1 = .ok (.getfield 19, 3) := by decide +kernel
theorem dX4_image_4 : decode cX4_image 4 = .ok (.aload_n 0, 1) := by decide +kernel
theorem dX4_image_5 : decode cX4_image 5 = .ok (.getfield 10, 3) := by decide +kernel
theorem dX4_image_8 : decode cX4_image 8 = .ok (.invokevirtual 172, 3) := by decide +kernel
theorem dX4_image_11 : decode cX4_image 11 = .ok (.aload_n 0, 1) := by decide +kernel
theorem dX4_image_12 : decode cX4_image 12 = .ok (.iconst 1, 1) := by decide +kernel
theorem dX4_image_13 : decode cX4_image 13 = .ok (.putfield 22, 3) := by decide +kernel
theorem dX4_image_16 : decode cX4_image 16 = .ok (.iconst 1, 1) := by decide +kernel
theorem dX4_image_17 : decode cX4_image 17 = .ok (.ireturn, 1) := by decide +kernel
set_option maxRecDepth 20000 in
theorem ggX4_undo_X4_finding : GoodIn wsX4_undo wsX4_finding := goodIn_r _ [8, 9, 10, 33, 34, 35, 36, 37, 38, 39] (by decide +kernel) (by decide +kernel)
set_option maxRecDepth 20000 in
theorem gX4_undo_X4_finding : GoodIn wsX4_undo (wsV RX4 52 RX4 yX4_finding wsX4_finding) := goodIn_app (goodIn_of _ (by decide +kernel)) ggX4_undo_X4_finding
set_option maxRecDepth 20000 in
theorem ggX4_undo_X0_takeFrom : GoodIn wsX4_undo wsX0_takeFrom := goodIn_r _ [14, 15, 16, 17, 18, 19, 20, 21, 22, 23, 24, 25, 26, 27, 28, 29, 30, 31, 32, 40, 41, 42, 43, 44, 45, 46, 47, 48, 49, 50, 51, 52, 53] (by decide +kernel) (by decide +kernel)
set_option maxRecDepth 20000 in
theorem gX4_undo_X0_takeFrom_n172 : GoodIn wsX4_undo (wsX0_takeFrom) := ggX4_undo_X0_takeFrom
theorem dX4_undo_0 : decode cX4_undo 0 = .ok (.aload_n 0, 1) := by decide +kernel
theorem dX4_undo_1 : decode cX4_undo 1 = .ok (.getfield 22, 3) := by decide +kernel
theorem dX4_undo_4 : decode cX4_undo 4 = .ok (.ifCond .ne 9, 3) := by decide +kernel
theorem dX4_undo_7 : decode cX4_undo 7 = .ok (.aload_n 0, 1) := by decide +kernel
theorem dX4_undo_8 : decode cX4_undo 8 = .ok (.iconst 3, 1) := by decide +kernel
theorem dX4_undo_9 : decode cX4_undo 9 = .ok (.invokevirtual 52, 3) := by decide +kernel
theorem dX4_undo_12 : decode cX4_undo 12 = .ok (.ireturn, 1) := by decide +kernel
theorem dX4_undo_13 : decode cX4_undo 13 = .ok (.aload_n 0, 1) := by decide +kernel
theorem dX4_undo_14 : decode cX4_undo 14 = .ok (.getfield 10, 3) := by decide +kernel
theorem dX4_undo_17 : decode cX4_undo 17 = .ok (.aload_n 0, 1) := by decide +kernel
theorem dX4_undo_18 : decode cX4_undo 18 = .ok (.getfield 19, 3) := by decide +kernel
theorem dX4_undo_21 : decode cX4_undo 21 = .ok (.invokevirtual 172, 3) := by decide +kernel
theorem dX4_undo_24 : decode cX4_undo 24 = .ok (.aload_n 0, 1) := by decide +kernel
theorem dX4_undo_25 : decode cX4_undo 25 = .ok (.getfield 10, 3) := by decide +kernel
theorem dX4_undo_28 : decode cX4_undo 28 = .ok (.getfield 65, 3) := by decide +kernel
theorem dX4_undo_31 : decode cX4_undo 31 = .ok (.ireturn, 1) := by decide +kernel
theorem dX4_tear_0 : decode cX4_tear 0 = .ok (.aload_n 0, 1) := by decide +kernel
theorem dX4_tear_1 : decode cX4_tear 1 = .ok (.getfield 22, 3) := by decide +kernel
theorem dX4_tear_4 : decode cX4_tear 4 = .ok (.ifCond .eq 7, 3) := by decide +kernel
theorem dX4_tear_7 : decode cX4_tear 7 = .ok (.iconst 1, 1) := by decide +kernel
theorem dX4_tear_8 : decode cX4_tear 8 = .ok (.goto 4, 3) := by decide +kernel
theorem dX4_tear_11 : decode cX4_tear 11 = .ok (.iconst 0, 1) := by decide +kernel
theorem dX4_tear_12 : decode cX4_tear 12 = .ok (.istore_n 1, 1) := by decide +kernel
theorem dX4_tear_13 : decode cX4_tear 13 = .ok (.aload_n 0, 1) := by decide +kernel
theorem dX4_tear_14 : decode cX4_tear 14 = .ok (.iconst 0, 1) := by decide +kernel
theorem dX4_tear_15 : decode cX4_tear 15 = .ok (.putfield 22, 3) := by decide +kernel
theorem dX4_tear_18 : decode cX4_tear 18 = .ok (.iload_n 1, 1) := by decide +kernel
theorem dX4_tear_19 : decode cX4_tear 19 = .ok (.ireturn, 1) := by decide +kernel
set_option maxRecDepth 20000 in
theorem ggX4_count_X0_sumOf : GoodIn wsX4_count wsX0_sumOf := goodIn_r _ [6, 7, 8, 9, 10, 11, 12, 13, 14, 15, 16, 17, 18, 19, 20, 35, 36, 37, 38, 39, 40, 47, 48, 49, 50, 51, 52, 53, 54] (by decide +kernel) (by decide +kernel)
set_option maxRecDepth 20000 in
theorem gX4_count_X0_sumOf_n124 : GoodIn wsX4_count (wsX0_sumOf) := ggX4_count_X0_sumOf
set_option maxRecDepth 20000 in
theorem ggX4_count_X4_finding : GoodIn wsX4_count wsX4_finding := goodIn_r _ [25, 26, 27, 28, 29, 30, 31, 32, 33, 34] (by decide +kernel) (by decide +kernel)
set_option maxRecDepth 20000 in
theorem gX4_count_X4_finding : GoodIn wsX4_count (wsV RX4 52 RX4 yX4_finding wsX4_finding) := goodIn_app (goodIn_of _ (by decide +kernel)) ggX4_count_X4_finding
theorem dX4_count_0 : decode cX4_count 0 = .ok (.iload_n 1, 1) := by decide +kernel
theorem dX4_count_1 : decode cX4_count 1 = .ok (.tableswitch 65 0 3 #[31, 39, 47, 56], 31) := by decide +kernel
theorem dX4_count_32 : decode cX4_count 32 = .ok (.aload_n 0, 1) := by decide +kernel
theorem dX4_count_33 : decode cX4_count 33 = .ok (.getfield 10, 3) := by decide +kernel
theorem dX4_count_36 : decode cX4_count 36 = .ok (.getfield 65, 3) := by decide +kernel
theorem dX4_count_39 : decode cX4_count 39 = .ok (.ireturn, 1) := by decide +kernel
theorem dX4_count_40 : decode cX4_count 40 = .ok (.aload_n 0, 1) := by decide +kernel
theorem dX4_count_41 : decode cX4_count 41 = .ok (.getfield 29, 3) := by decide +kernel
theorem dX4_count_44 : decode cX4_count 44 = .ok (.getfield 161, 3) := by decide +kernel
theorem dX4_count_47 : decode cX4_count 47 = .ok (.ireturn, 1) := by decide +kernel
theorem dX4_count_48 : decode cX4_count 48 = .ok (.aload_n 0, 1) := by decide +kernel
theorem dX4_count_49 : decode cX4_count 49 = .ok (.getfield 10, 3) := by decide +kernel
theorem dX4_count_52 : decode cX4_count 52 = .ok (.iconst 2, 1) := by decide +kernel
theorem dX4_count_53 : decode cX4_count 53 = .ok (.invokevirtual 124, 3) := by decide +kernel
theorem dX4_count_56 : decode cX4_count 56 = .ok (.ireturn, 1) := by decide +kernel
theorem dX4_count_57 : decode cX4_count 57 = .ok (.aload_n 0, 1) := by decide +kernel
theorem dX4_count_58 : decode cX4_count 58 = .ok (.getfield 10, 3) := by decide +kernel
theorem dX4_count_61 : decode cX4_count 61 = .ok (.iconst 3, 1) := by decide +kernel
theorem dX4_count_62 : decode cX4_count 62 = .ok (.invokevirtual 124, 3) := by decide +kernel
theorem dX4_count_65 : decode cX4_count 65 = .ok (.ireturn, 1) := by decide +kernel
theorem dX4_count_66 : decode cX4_count 66 = .ok (.aload_n 0, 1) := by decide +kernel
theorem dX4_count_67 : decode cX4_count 67 = .ok (.iconst 0, 1) := by decide +kernel
theorem dX4_count_68 : decode cX4_count 68 = .ok (.invokevirtual 52, 3) := by decide +kernel
theorem dX4_count_71 : decode cX4_count 71 = .ok (.ireturn, 1) := by decide +kernel
set_option maxRecDepth 20000 in
theorem ggX4_status_X4_within : GoodIn wsX4_status wsX4_within := goodIn_r _ [5] (by decide +kernel) (by decide +kernel)
set_option maxRecDepth 20000 in
theorem gX4_status_X4_within : GoodIn wsX4_status (va_wsS RX4 44 yX4_within wsX4_within) := goodIn_app (goodIn_of _ (by decide +kernel)) ggX4_status_X4_within
set_option maxRecDepth 20000 in
theorem ggX4_status_X4_finding : GoodIn wsX4_status wsX4_finding := goodIn_r _ [9, 1, 10, 11, 12, 13, 14, 15, 16, 17] (by decide +kernel) (by decide +kernel)
set_option maxRecDepth 20000 in
theorem gX4_status_X4_finding : GoodIn wsX4_status (wsV RX4 52 RX4 yX4_finding wsX4_finding) := goodIn_app (goodIn_of _ (by decide +kernel)) ggX4_status_X4_finding
theorem dX4_status_0 : decode cX4_status 0 = .ok (.iload_n 1, 1) := by decide +kernel
theorem dX4_status_1 : decode cX4_status 1 = .ok (.iconst (-1), 1) := by decide +kernel
theorem dX4_status_2 : decode cX4_status 2 = .ok (.bipush 6, 2) := by decide +kernel
theorem dX4_status_4 : decode cX4_status 4 = .ok (.invokestatic 44, 3) := by decide +kernel
theorem dX4_status_7 : decode cX4_status 7 = .ok (.ifCond .ne 9, 3) := by decide +kernel
theorem dX4_status_10 : decode cX4_status 10 = .ok (.aload_n 0, 1) := by decide +kernel
theorem dX4_status_11 : decode cX4_status 11 = .ok (.iconst 0, 1) := by decide +kernel
theorem dX4_status_12 : decode cX4_status 12 = .ok (.invokevirtual 52, 3) := by decide +kernel
theorem dX4_status_15 : decode cX4_status 15 = .ok (.ireturn, 1) := by decide +kernel
theorem dX4_status_16 : decode cX4_status 16 = .ok (.iload_n 1, 1) := by decide +kernel
theorem dX4_status_17 : decode cX4_status 17 = .ok (.ifCond .lt 10, 3) := by decide +kernel
theorem dX4_status_20 : decode cX4_status 20 = .ok (.aload_n 0, 1) := by decide +kernel
theorem dX4_status_21 : decode cX4_status 21 = .ok (.getfield 39, 3) := by decide +kernel
theorem dX4_status_24 : decode cX4_status 24 = .ok (.iload_n 1, 1) := by decide +kernel
theorem dX4_status_25 : decode cX4_status 25 = .ok (.iaload, 1) := by decide +kernel
theorem dX4_status_26 : decode cX4_status 26 = .ok (.ireturn, 1) := by decide +kernel
theorem dX4_status_27 : decode cX4_status 27 = .ok (.iconst 0, 1) := by decide +kernel
theorem dX4_status_28 : decode cX4_status 28 = .ok (.istore_n 2, 1) := by decide +kernel
theorem dX4_status_29 : decode cX4_status 29 = .ok (.iconst 0, 1) := by decide +kernel
theorem dX4_status_30 : decode cX4_status 30 = .ok (.istore_n 3, 1) := by decide +kernel
theorem dX4_status_31 : decode cX4_status 31 = .ok (.iload_n 3, 1) := by decide +kernel
theorem dX4_status_32 : decode cX4_status 32 = .ok (.bipush 7, 2) := by decide +kernel
theorem dX4_status_34 : decode cX4_status 34 = .ok (.if_icmp .ge 18, 3) := by decide +kernel
theorem dX4_status_37 : decode cX4_status 37 = .ok (.iload_n 2, 1) := by decide +kernel
theorem dX4_status_38 : decode cX4_status 38 = .ok (.aload_n 0, 1) := by decide +kernel
theorem dX4_status_39 : decode cX4_status 39 = .ok (.getfield 39, 3) := by decide +kernel
theorem dX4_status_42 : decode cX4_status 42 = .ok (.iload_n 3, 1) := by decide +kernel
theorem dX4_status_43 : decode cX4_status 43 = .ok (.iaload, 1) := by decide +kernel
theorem dX4_status_44 : decode cX4_status 44 = .ok (.iadd, 1) := by decide +kernel
theorem dX4_status_45 : decode cX4_status 45 = .ok (.istore_n 2, 1) := by decide +kernel
theorem dX4_status_46 : decode cX4_status 46 = .ok (.iinc 3 1, 3) := by decide +kernel
theorem dX4_status_49 : decode cX4_status 49 = .ok (.goto (-18), 3) := by decide +kernel
theorem dX4_status_52 : decode cX4_status 52 = .ok (.iload_n 2, 1) := by decide +kernel
theorem dX4_status_53 : decode cX4_status 53 = .ok (.ireturn, 1) := by decide +kernel
theorem dX4_finding_0 : decode cX4_finding 0 = .ok (.aload_n 0, 1) := by decide +kernel
theorem dX4_finding_1 : decode cX4_finding 1 = .ok (.getfield 39, 3) := by decide +kernel
theorem dX4_finding_4 : decode cX4_finding 4 = .ok (.iload_n 1, 1) := by decide +kernel
theorem dX4_finding_5 : decode cX4_finding 5 = .ok (.dup2, 1) := by decide +kernel
theorem dX4_finding_6 : decode cX4_finding 6 = .ok (.iaload, 1) := by decide +kernel
theorem dX4_finding_7 : decode cX4_finding 7 = .ok (.iconst 1, 1) := by decide +kernel
theorem dX4_finding_8 : decode cX4_finding 8 = .ok (.iadd, 1) := by decide +kernel
theorem dX4_finding_9 : decode cX4_finding 9 = .ok (.iastore, 1) := by decide +kernel
theorem dX4_finding_10 : decode cX4_finding 10 = .ok (.ldc 215, 2) := by decide +kernel
theorem dX4_finding_12 : decode cX4_finding 12 = .ok (.iload_n 1, 1) := by decide +kernel
theorem dX4_finding_13 : decode cX4_finding 13 = .ok (.isub, 1) := by decide +kernel
theorem dX4_finding_14 : decode cX4_finding 14 = .ok (.ireturn, 1) := by decide +kernel
theorem dX4_within_0 : decode cX4_within 0 = .ok (.iload_n 0, 1) := by decide +kernel
theorem dX4_within_1 : decode cX4_within 1 = .ok (.iload_n 1, 1) := by decide +kernel
theorem dX4_within_2 : decode cX4_within 2 = .ok (.if_icmp .lt 12, 3) := by decide +kernel
theorem dX4_within_5 : decode cX4_within 5 = .ok (.iload_n 0, 1) := by decide +kernel
theorem dX4_within_6 : decode cX4_within 6 = .ok (.iload_n 2, 1) := by decide +kernel
theorem dX4_within_7 : decode cX4_within 7 = .ok (.if_icmp .gt 7, 3) := by decide +kernel
theorem dX4_within_10 : decode cX4_within 10 = .ok (.iconst 1, 1) := by decide +kernel
theorem dX4_within_11 : decode cX4_within 11 = .ok (.goto 4, 3) := by decide +kernel
theorem dX4_within_14 : decode cX4_within 14 = .ok (.iconst 0, 1) := by decide +kernel
theorem dX4_within_15 : decode cX4_within 15 = .ok (.ireturn, 1) := by decide +kernel
set_option maxRecDepth 20000 in
theorem ggX4_isThere_X4_within : GoodIn wsX4_isThere wsX4_within := goodIn_r _ [5] (by decide +kernel) (by decide +kernel)
set_option maxRecDepth 20000 in
theorem gX4_isThere_X4_within : GoodIn wsX4_isThere (va_wsS RX4 44 yX4_within wsX4_within) := goodIn_app (goodIn_of _ (by decide +kernel)) ggX4_isThere_X4_within
theorem dX4_isThere_0 : decode cX4_isThere 0 = .ok (.iload_n 1, 1) := by decide +kernel
theorem dX4_isThere_1 : decode cX4_isThere 1 = .ok (.iconst 0, 1) := by decide +kernel
theorem dX4_isThere_2 : decode cX4_isThere 2 = .ok (.aload_n 0, 1) := by decide +kernel
theorem dX4_isThere_3 : decode cX4_isThere 3 = .ok (.getfield 10, 3) := by decide +kernel
theorem dX4_isThere_6 : decode cX4_isThere 6 = .ok (.getfield 65, 3) := by decide +kernel
theorem dX4_isThere_9 : decode cX4_isThere 9 = .ok (.iconst 1, 1) := by decide +kernel
theorem dX4_isThere_10 : decode cX4_isThere 10 = .ok (.isub, 1) := by decide +kernel
theorem dX4_isThere_11 : decode cX4_isThere 11 = .ok (.invokestatic 44, 3) := by decide +kernel
theorem dX4_isThere_14 : decode cX4_isThere 14 = .ok (.ireturn, 1) := by decide +kernel
set_option maxRecDepth 20000 in
theorem ggX4_areTwo_X4_isThere : GoodIn wsX4_areTwo wsX4_isThere := goodIn_r _ [5, 6, 7, 8, 4, 9, 10, 11, 12, 13, 14, 15, 16, 17, 18, 19, 20, 21, 22] (by decide +kernel) (by decide +kernel)
set_option maxRecDepth 20000 in
theorem gX4_areTwo_X4_isThere : GoodIn wsX4_areTwo (wsV RX4 85 RX4 yX4_isThere wsX4_isThere) := goodIn_app (goodIn_of _ (by decide +kernel)) ggX4_areTwo_X4_isThere
theorem dX4_areTwo_0 : decode cX4_areTwo 0 = .ok (.aload_n 0, 1) := by decide +kernel
theorem dX4_areTwo_1 : decode cX4_areTwo 1 = .ok (.iload_n 1, 1) := by decide +kernel
theorem dX4_areTwo_2 : decode cX4_areTwo 2 = .ok (.invokevirtual 85, 3) := by decide +kernel
theorem dX4_areTwo_5 : decode cX4_areTwo 5 = .ok (.ifCond .eq 20, 3) := by decide +kernel
theorem dX4_areTwo_8 : decode cX4_areTwo 8 = .ok (.aload_n 0, 1) := by decide +kernel
theorem dX4_areTwo_9 : decode cX4_areTwo 9 = .ok (.iload_n 2, 1) := by decide +kernel
theorem dX4_areTwo_10 : decode cX4_areTwo 10 = .ok (.invokevirtual 85, 3) := by decide +kernel
theorem dX4_areTwo_13 : decode cX4_areTwo 13 = .ok (.ifCond .eq 12, 3) := by decide +kernel
theorem dX4_areTwo_16 : decode cX4_areTwo 16 = .ok (.iload_n 1, 1) := by decide +kernel
theorem dX4_areTwo_17 : decode cX4_areTwo 17 = .ok (.iload_n 2, 1) := by decide +kernel
theorem dX4_areTwo_18 : decode cX4_areTwo 18 = .ok (.if_icmp .eq 7, 3) := by decide +kernel
theorem dX4_areTwo_21 : decode cX4_areTwo 21 = .ok (.iconst 1, 1) := by decide +kernel
theorem dX4_areTwo_22 : decode cX4_areTwo 22 = .ok (.goto 4, 3) := by decide +kernel
theorem dX4_areTwo_25 : decode cX4_areTwo 25 = .ok (.iconst 0, 1) := by decide +kernel
theorem dX4_areTwo_26 : decode cX4_areTwo 26 = .ok (.ireturn, 1) := by decide +kernel
set_option maxRecDepth 20000 in
theorem ggX4_isSheet_X4_within : GoodIn wsX4_isSheet wsX4_within := goodIn_r _ [4] (by decide +kernel) (by decide +kernel)
set_option maxRecDepth 20000 in
theorem gX4_isSheet_X4_within : GoodIn wsX4_isSheet (va_wsS RX4 44 yX4_within wsX4_within) := goodIn_app (goodIn_of _ (by decide +kernel)) ggX4_isSheet_X4_within
theorem dX4_isSheet_0 : decode cX4_isSheet 0 = .ok (.iload_n 0, 1) := by decide +kernel
theorem dX4_isSheet_1 : decode cX4_isSheet 1 = .ok (.iconst 0, 1) := by decide +kernel
theorem dX4_isSheet_2 : decode cX4_isSheet 2 = .ok (.iconst 3, 1) := by decide +kernel
theorem dX4_isSheet_3 : decode cX4_isSheet 3 = .ok (.invokestatic 44, 3) := by decide +kernel
theorem dX4_isSheet_6 : decode cX4_isSheet 6 = .ok (.ireturn, 1) := by decide +kernel
theorem dX4_mostOfRoad_0 : decode cX4_mostOfRoad 0 = .ok (.iload_n 0, 1) := by decide +kernel
theorem dX4_mostOfRoad_1 : decode cX4_mostOfRoad 1 = .ok (.ifCond .ne 6, 3) := by decide +kernel
theorem dX4_mostOfRoad_4 : decode cX4_mostOfRoad 4 = .ok (.ldc 150, 2) := by decide +kernel
theorem dX4_mostOfRoad_6 : decode cX4_mostOfRoad 6 = .ok (.ireturn, 1) := by decide +kernel
theorem dX4_mostOfRoad_7 : decode cX4_mostOfRoad 7 = .ok (.iload_n 0, 1) := by decide +kernel
theorem dX4_mostOfRoad_8 : decode cX4_mostOfRoad 8 = .ok (.iconst 1, 1) := by decide +kernel
theorem dX4_mostOfRoad_9 : decode cX4_mostOfRoad 9 = .ok (.if_icmp .ne 8, 3) := by decide +kernel
theorem dX4_mostOfRoad_12 : decode cX4_mostOfRoad 12 = .ok (.bipush 20, 2) := by decide +kernel
theorem dX4_mostOfRoad_14 : decode cX4_mostOfRoad 14 = .ok (.goto 4, 3) := by decide +kernel
theorem dX4_mostOfRoad_17 : decode cX4_mostOfRoad 17 = .ok (.iconst 1, 1) := by decide +kernel
theorem dX4_mostOfRoad_18 : decode cX4_mostOfRoad 18 = .ok (.ireturn, 1) := by decide +kernel
theorem dX4_mostOfTrait_0 : decode cX4_mostOfTrait 0 = .ok (.iload_n 0, 1) := by decide +kernel
theorem dX4_mostOfTrait_1 : decode cX4_mostOfTrait 1 = .ok (.tableswitch 54 1 6 #[39, 54, 42, 45, 48, 51], 39) := by decide +kernel
theorem dX4_mostOfTrait_40 : decode cX4_mostOfTrait 40 = .ok (.bipush 12, 2) := by decide +kernel
theorem dX4_mostOfTrait_42 : decode cX4_mostOfTrait 42 = .ok (.ireturn, 1) := by decide +kernel
theorem dX4_mostOfTrait_43 : decode cX4_mostOfTrait 43 = .ok (.bipush 9, 2) := by decide +kernel
theorem dX4_mostOfTrait_45 : decode cX4_mostOfTrait 45 = .ok (.ireturn, 1) := by decide +kernel
theorem dX4_mostOfTrait_46 : decode cX4_mostOfTrait 46 = .ok (.bipush 99, 2) := by decide +kernel
theorem dX4_mostOfTrait_48 : decode cX4_mostOfTrait 48 = .ok (.ireturn, 1) := by decide +kernel
theorem dX4_mostOfTrait_49 : decode cX4_mostOfTrait 49 = .ok (.bipush 12, 2) := by decide +kernel
theorem dX4_mostOfTrait_51 : decode cX4_mostOfTrait 51 = .ok (.ireturn, 1) := by decide +kernel
theorem dX4_mostOfTrait_52 : decode cX4_mostOfTrait 52 = .ok (.ldc 150, 2) := by decide +kernel
theorem dX4_mostOfTrait_54 : decode cX4_mostOfTrait 54 = .ok (.ireturn, 1) := by decide +kernel
theorem dX4_mostOfTrait_55 : decode cX4_mostOfTrait 55 = .ok (.iconst 1, 1) := by decide +kernel
theorem dX4_mostOfTrait_56 : decode cX4_mostOfTrait 56 = .ok (.ireturn, 1) := by decide +kernel
theorem dX4_isUnder_0 : decode cX4_isUnder 0 = .ok (.iload_n 0, 1) := by decide +kernel
theorem dX4_isUnder_1 : decode cX4_isUnder 1 = .ok (.iload_n 1, 1) := by decide +kernel
theorem dX4_isUnder_2 : decode cX4_isUnder 2 = .ok (.if_icmp .eq 7, 3) := by decide +kernel
theorem dX4_isUnder_5 : decode cX4_isUnder 5 = .ok (.iload_n 1, 1) := by decide +kernel
theorem dX4_isUnder_6 : decode cX4_isUnder 6 = .ok (.ifCond .ne 5, 3) := by decide +kernel
theorem dX4_isUnder_9 : decode cX4_isUnder 9 = .ok (.iconst 1, 1) := by decide +kernel
theorem dX4_isUnder_10 : decode cX4_isUnder 10 = .ok (.ireturn, 1) := by decide +kernel
theorem dX4_isUnder_11 : decode cX4_isUnder 11 = .ok (.iload_n 0, 1) := by decide +kernel
theorem dX4_isUnder_12 : decode cX4_isUnder 12 = .ok (.iconst 4, 1) := by decide +kernel
theorem dX4_isUnder_13 : decode cX4_isUnder 13 = .ok (.if_icmp .ne 8, 3) := by decide +kernel
theorem dX4_isUnder_16 : decode cX4_isUnder 16 = .ok (.iload_n 1, 1) := by decide +kernel
theorem dX4_isUnder_17 : decode cX4_isUnder 17 = .ok (.iconst 1, 1) := by decide +kernel
theorem dX4_isUnder_18 : decode cX4_isUnder 18 = .ok (.if_icmp .eq 13, 3) := by decide +kernel
theorem dX4_isUnder_21 : decode cX4_isUnder 21 = .ok (.iload_n 0, 1) := by decide +kernel
theorem dX4_isUnder_22 : decode cX4_isUnder 22 = .ok (.iconst 5, 1) := by decide +kernel
theorem dX4_isUnder_23 : decode cX4_isUnder 23 = .ok (.if_icmp .ne 12, 3) := by decide +kernel
theorem dX4_isUnder_26 : decode cX4_isUnder 26 = .ok (.iload_n 1, 1) := by decide +kernel
theorem dX4_isUnder_27 : decode cX4_isUnder 27 = .ok (.iconst 3, 1) := by decide +kernel
theorem dX4_isUnder_28 : decode cX4_isUnder 28 = .ok (.if_icmp .ne 7, 3) := by decide +kernel
theorem dX4_isUnder_31 : decode cX4_isUnder 31 = .ok (.iconst 1, 1) := by decide +kernel
theorem dX4_isUnder_32 : decode cX4_isUnder 32 = .ok (.goto 4, 3) := by decide +kernel
theorem dX4_isUnder_35 : decode cX4_isUnder 35 = .ok (.iconst 0, 1) := by decide +kernel
theorem dX4_isUnder_36 : decode cX4_isUnder 36 = .ok (.ireturn, 1) := by decide +kernel
set_option maxRecDepth 20000 in
theorem ggX4_lookAhead_X0_takeFrom : GoodIn wsX4_lookAhead wsX0_takeFrom := goodIn_r _ [6, 7, 8, 9, 10, 11, 12, 13, 14, 15, 16, 17, 18, 19, 20, 21, 22, 23, 24, 32, 33, 34, 35, 36, 37, 38, 39, 40, 41, 42, 43, 44, 45] (by decide +kernel) (by decide +kernel)
set_option maxRecDepth 20000 in
theorem gX4_lookAhead_X0_takeFrom_n172 : GoodIn wsX4_lookAhead (wsX0_takeFrom) := ggX4_lookAhead_X0_takeFrom
theorem dX4_lookAhead_0 : decode cX4_lookAhead 0 = .ok (.aload_n 0, 1) := by decide +kernel
theorem dX4_lookAhead_1 : decode cX4_lookAhead 1 = .ok (.getfield 16, 3) := by decide +kernel
theorem dX4_lookAhead_4 : decode cX4_lookAhead 4 = .ok (.aload_n 0, 1) := by decide +kernel
theorem dX4_lookAhead_5 : decode cX4_lookAhead 5 = .ok (.getfield 10, 3) := by decide +kernel
theorem dX4_lookAhead_8 : decode cX4_lookAhead 8 = .ok (.invokevirtual 172, 3) := by decide +kernel
theorem dX4_lookAhead_11 : decode cX4_lookAhead 11 = .ok (.return_, 1) := by decide +kernel
set_option maxRecDepth 20000 in
theorem ggX4_purseAhead_X0_passHours : GoodIn wsX4_purseAhead wsX0_passHours := goodIn_r _ [5, 6, 7, 8, 3, 9, 10, 11, 12, 13, 14, 15, 16, 17, 18, 19, 20, 21, 22, 23, 24, 25, 26, 27, 28, 29, 30, 31, 32, 33, 34, 35, 36, 37, 38, 39, 40, 41, 42, 43, 44, 45, 46, 47, 48, 49, 50, 51, 52, 53, 61, 62, 63, 64, 65, 66, 67, 68, 69, 70, 71, 72, 73, 74] (by decide +kernel) (by decide +kernel)
set_option maxRecDepth 20000 in
theorem gX4_purseAhead_X0_passHours_n120 : GoodIn wsX4_purseAhead (wsX0_passHours) := ggX4_purseAhead_X0_passHours
theorem dX4_purseAhead_0 : decode cX4_purseAhead 0 = .ok (.aload_n 0, 1) := by decide +kernel
theorem dX4_purseAhead_1 : decode cX4_purseAhead 1 = .ok (.getfield 16, 3) := by decide +kernel
theorem dX4_purseAhead_4 : decode cX4_purseAhead 4 = .ok (.iload_n 2, 1) := by decide +kernel
theorem dX4_purseAhead_5 : decode cX4_purseAhead 5 = .ok (.invokevirtual 120, 3) := by decide +kernel
theorem dX4_purseAhead_8 : decode cX4_purseAhead 8 = .ok (.aload_n 0, 1) := by decide +kernel
theorem dX4_purseAhead_9 : decode cX4_purseAhead 9 = .ok (.getfield 16, 3) := by decide +kernel
theorem dX4_purseAhead_12 : decode cX4_purseAhead 12 = .ok (.getfield 68, 3) := by decide +kernel
theorem dX4_purseAhead_15 : decode cX4_purseAhead 15 = .ok (.iload_n 1, 1) := by decide +kernel
theorem dX4_purseAhead_16 : decode cX4_purseAhead 16 = .ok (.aaload, 1) := by decide +kernel
theorem dX4_purseAhead_17 : decode cX4_purseAhead 17 = .ok (.getfield 133, 3) := by decide +kernel
theorem dX4_purseAhead_20 : decode cX4_purseAhead 20 = .ok (.ireturn, 1) := by decide +kernel
set_option maxRecDepth 20000 in
theorem ggX4_lastsWithout_X4_lookAhead : GoodIn wsX4_lastsWithout wsX4_lookAhead := goodIn_r _ [6, 1, 7, 8, 9, 10, 11, 12, 13, 14, 15, 16, 17, 18, 19, 20, 21, 22, 23, 24, 25, 26, 27, 28, 29, 68, 69, 70, 71, 72, 73, 74, 75, 76, 77, 78, 79, 80, 81, 82, 83, 84, 85, 86, 87, 88] (by decide +kernel) (by decide +kernel)
set_option maxRecDepth 20000 in
theorem gX4_lastsWithout_X4_lookAhead : GoodIn wsX4_lastsWithout (wsV RX4 130 RX4 yX4_lookAhead wsX4_lookAhead) := goodIn_app (goodIn_of _ (by decide +kernel)) ggX4_lastsWithout_X4_lookAhead
set_option maxRecDepth 20000 in
theorem ggX4_lastsWithout_X0_passHour : GoodIn wsX4_lastsWithout wsX0_passHour := goodIn_r _ [32, 16, 17, 12, 33, 34, 35, 9, 36, 37, 38, 39, 40, 41, 42, 43, 44, 15, 45, 46, 47, 48, 49, 19, 50, 51, 24, 23, 52, 53, 54, 55, 13, 56, 57, 58, 59, 60, 61, 62, 63, 14, 64, 65, 66, 67, 75, 76, 77, 78, 79, 80, 81, 82, 83, 84, 85, 86, 87, 88] (by decide +kernel) (by decide +kernel)
set_option maxRecDepth 20000 in
theorem gX4_lastsWithout_X0_passHour_n136 : GoodIn wsX4_lastsWithout (wsX0_passHour) := ggX4_lastsWithout_X0_passHour
theorem dX4_lastsWithout_0 : decode cX4_lastsWithout 0 = .ok (.aload_n 0, 1) := by decide +kernel
theorem dX4_lastsWithout_1 : decode cX4_lastsWithout 1 = .ok (.invokevirtual 130, 3) := by decide +kernel
theorem dX4_lastsWithout_4 : decode cX4_lastsWithout 4 = .ok (.iconst 0, 1) := by decide +kernel
theorem dX4_lastsWithout_5 : decode cX4_lastsWithout 5 = .ok (.istore_n 3, 1) := by decide +kernel
theorem dX4_lastsWithout_6 : decode cX4_lastsWithout 6 = .ok (.iload_n 3, 1) := by decide +kernel
theorem dX4_lastsWithout_7 : decode cX4_lastsWithout 7 = .ok (.aload_n 0, 1) := by decide +kernel
theorem dX4_lastsWithout_8 : decode cX4_lastsWithout 8 = .ok (.getfield 16, 3) := by decide +kernel
theorem dX4_lastsWithout_11 : decode cX4_lastsWithout 11 = .ok (.getfield 65, 3) := by decide +kernel
theorem dX4_lastsWithout_14 : decode cX4_lastsWithout 14 = .ok (.if_icmp .ge 31, 3) := by decide +kernel
theorem dX4_lastsWithout_17 : decode cX4_lastsWithout 17 = .ok (.iload_n 1, 1) := by decide +kernel
theorem dX4_lastsWithout_18 : decode cX4_lastsWithout 18 = .ok (.iload_n 3, 1) := by decide +kernel
theorem dX4_lastsWithout_19 : decode cX4_lastsWithout 19 = .ok (.ishr, 1) := by decide +kernel
theorem dX4_lastsWithout_20 : decode cX4_lastsWithout 20 = .ok (.iconst 1, 1) := by decide +kernel
theorem dX4_lastsWithout_21 : decode cX4_lastsWithout 21 = .ok (.iand, 1) := by decide +kernel
theorem dX4_lastsWithout_22 : decode cX4_lastsWithout 22 = .ok (.iconst 1, 1) := by decide +kernel
theorem dX4_lastsWithout_23 : decode cX4_lastsWithout 23 = .ok (.if_icmp .ne 16, 3) := by decide +kernel
theorem dX4_lastsWithout_26 : decode cX4_lastsWithout 26 = .ok (.aload_n 0, 1) := by decide +kernel
theorem dX4_lastsWithout_27 : decode cX4_lastsWithout 27 = .ok (.getfield 16, 3) := by decide +kernel
theorem dX4_lastsWithout_30 : decode cX4_lastsWithout 30 = .ok (.getfield 68, 3) := by decide +kernel
theorem dX4_lastsWithout_33 : decode cX4_lastsWithout 33 = .ok (.iload_n 3, 1) := by decide +kernel
theorem dX4_lastsWithout_34 : decode cX4_lastsWithout 34 = .ok (.aaload, 1) := by decide +kernel
theorem dX4_lastsWithout_35 : decode cX4_lastsWithout 35 = .ok (.iconst 1, 1) := by decide +kernel
theorem dX4_lastsWithout_36 : decode cX4_lastsWithout 36 = .ok (.putfield 158, 3) := by decide +kernel
theorem dX4_lastsWithout_39 : decode cX4_lastsWithout 39 = .ok (.iinc 3 1, 3) := by decide +kernel
theorem dX4_lastsWithout_42 : decode cX4_lastsWithout 42 = .ok (.goto (-36), 3) := by decide +kernel
theorem dX4_lastsWithout_45 : decode cX4_lastsWithout 45 = .ok (.iconst 0, 1) := by decide +kernel
theorem dX4_lastsWithout_46 : decode cX4_lastsWithout 46 = .ok (.istore_n 3, 1) := by decide +kernel
theorem dX4_lastsWithout_47 : decode cX4_lastsWithout 47 = .ok (.iload_n 3, 1) := by decide +kernel
theorem dX4_lastsWithout_48 : decode cX4_lastsWithout 48 = .ok (.iload_n 2, 1) := by decide +kernel
theorem dX4_lastsWithout_49 : decode cX4_lastsWithout 49 = .ok (.if_icmp .ge 26, 3) := by decide +kernel
theorem dX4_lastsWithout_52 : decode cX4_lastsWithout 52 = .ok (.aload_n 0, 1) := by decide +kernel
theorem dX4_lastsWithout_53 : decode cX4_lastsWithout 53 = .ok (.getfield 16, 3) := by decide +kernel
theorem dX4_lastsWithout_56 : decode cX4_lastsWithout 56 = .ok (.getfield 55, 3) := by decide +kernel
theorem dX4_lastsWithout_59 : decode cX4_lastsWithout 59 = .ok (.ifCond .le 16, 3) := by decide +kernel
theorem dX4_lastsWithout_62 : decode cX4_lastsWithout 62 = .ok (.aload_n 0, 1) := by decide +kernel
theorem dX4_lastsWithout_63 : decode cX4_lastsWithout 63 = .ok (.getfield 16, 3) := by decide +kernel
theorem dX4_lastsWithout_66 : decode cX4_lastsWithout 66 = .ok (.invokevirtual 136, 3) := by decide +kernel
theorem dX4_lastsWithout_69 : decode cX4_lastsWithout 69 = .ok (.iinc 3 1, 3) := by decide +kernel
theorem dX4_lastsWithout_72 : decode cX4_lastsWithout 72 = .ok (.goto (-25), 3) := by decide +kernel
theorem dX4_lastsWithout_75 : decode cX4_lastsWithout 75 = .ok (.aload_n 0, 1) := by decide +kernel
theorem dX4_lastsWithout_76 : decode cX4_lastsWithout 76 = .ok (.getfield 16, 3) := by decide +kernel
theorem dX4_lastsWithout_79 : decode cX4_lastsWithout 79 = .ok (.getfield 55, 3) := by decide +kernel
theorem dX4_lastsWithout_82 : decode cX4_lastsWithout 82 = .ok (.ifCond .le 7, 3) := by decide +kernel
theorem dX4_lastsWithout_85 : decode cX4_lastsWithout 85 = .ok (.iconst 1, 1) := by decide +kernel
theorem dX4_lastsWithout_86 : decode cX4_lastsWithout 86 = .ok (.goto 4, 3) := by decide +kernel
theorem dX4_lastsWithout_89 : decode cX4_lastsWithout 89 = .ok (.iconst 0, 1) := by decide +kernel
theorem dX4_lastsWithout_90 : decode cX4_lastsWithout 90 = .ok (.ireturn, 1) := by decide +kernel
set_option maxRecDepth 20000 in
theorem ggX4_goesBy_X0_passHour : GoodIn wsX4_goesBy wsX0_passHour := goodIn_r _ [5, 6, 7, 8, 9, 10, 11, 3, 12, 13, 14, 15, 16, 17, 18, 19, 20, 21, 22, 23, 24, 25, 26, 27, 28, 29, 30, 31, 32, 33, 34, 35, 36, 37, 38, 39, 40, 41, 42, 43, 44, 45, 46, 47, 48, 49, 60, 61, 62, 63, 64, 65, 66, 67, 68, 69, 70, 71, 72, 73] (by decide +kernel) (by decide +kernel)
set_option maxRecDepth 20000 in
theorem gX4_goesBy_X0_passHour_n136 : GoodIn wsX4_goesBy (wsX0_passHour) := ggX4_goesBy_X0_passHour
theorem dX4_goesBy_0 : decode cX4_goesBy 0 = .ok (.iconst 0, 1) := by decide +kernel
theorem dX4_goesBy_1 : decode cX4_goesBy 1 = .ok (.istore_n 3, 1) := by decide +kernel
theorem dX4_goesBy_2 : decode cX4_goesBy 2 = .ok (.iload_n 3, 1) := by decide +kernel
theorem dX4_goesBy_3 : decode cX4_goesBy 3 = .ok (.aload_n 1, 1) := by decide +kernel
theorem dX4_goesBy_4 : decode cX4_goesBy 4 = .ok (.getfield 182, 3) := by decide +kernel
theorem dX4_goesBy_7 : decode cX4_goesBy 7 = .ok (.if_icmp .ge 41, 3) := by decide +kernel
theorem dX4_goesBy_10 : decode cX4_goesBy 10 = .ok (.aload_n 0, 1) := by decide +kernel
theorem dX4_goesBy_11 : decode cX4_goesBy 11 = .ok (.getfield 16, 3) := by decide +kernel
theorem dX4_goesBy_14 : decode cX4_goesBy 14 = .ok (.getfield 68, 3) := by decide +kernel
theorem dX4_goesBy_17 : decode cX4_goesBy 17 = .ok (.iload_n 2, 1) := by decide +kernel
theorem dX4_goesBy_18 : decode cX4_goesBy 18 = .ok (.aaload, 1) := by decide +kernel
theorem dX4_goesBy_19 : decode cX4_goesBy 19 = .ok (.getfield 72, 3) := by decide +kernel
theorem dX4_goesBy_22 : decode cX4_goesBy 22 = .ok (.i2l, 1) := by decide +kernel
theorem dX4_goesBy_23 : decode cX4_goesBy 23 = .ok (.aload_n 1, 1) := by decide +kernel
theorem dX4_goesBy_24 : decode cX4_goesBy 24 = .ok (.getfield 186, 3) := by decide +kernel
theorem dX4_goesBy_27 : decode cX4_goesBy 27 = .ok (.iload_n 3, 1) := by decide +kernel
theorem dX4_goesBy_28 : decode cX4_goesBy 28 = .ok (.laload, 1) := by decide +kernel
theorem dX4_goesBy_29 : decode cX4_goesBy 29 = .ok (.lcmp, 1) := by decide +kernel
theorem dX4_goesBy_30 : decode cX4_goesBy 30 = .ok (.ifCond .eq 5, 3) := by decide +kernel
theorem dX4_goesBy_33 : decode cX4_goesBy 33 = .ok (.iconst 0, 1) := by decide +kernel
theorem dX4_goesBy_34 : decode cX4_goesBy 34 = .ok (.ireturn, 1) := by decide +kernel
theorem dX4_goesBy_35 : decode cX4_goesBy 35 = .ok (.aload_n 0, 1) := by decide +kernel
theorem dX4_goesBy_36 : decode cX4_goesBy 36 = .ok (.getfield 16, 3) := by decide +kernel
theorem dX4_goesBy_39 : decode cX4_goesBy 39 = .ok (.invokevirtual 136, 3) := by decide +kernel
theorem dX4_goesBy_42 : decode cX4_goesBy 42 = .ok (.iinc 3 1, 3) := by decide +kernel
theorem dX4_goesBy_45 : decode cX4_goesBy 45 = .ok (.goto (-43), 3) := by decide +kernel
theorem dX4_goesBy_48 : decode cX4_goesBy 48 = .ok (.iconst 1, 1) := by decide +kernel
theorem dX4_goesBy_49 : decode cX4_goesBy 49 = .ok (.ireturn, 1) := by decide +kernel
