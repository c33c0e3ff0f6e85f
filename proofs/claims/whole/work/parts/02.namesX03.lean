set_option maxRecDepth 20000 in
theorem ggX0_init_X3_init : GoodIn wsX0_init wsX3_init := goodIn_r _ [14, 15, 2, 3] (by decide +kernel) (by decide +kernel)
set_option maxRecDepth 20000 in
theorem gX0_init_X3_init_n33 : GoodIn wsX0_init (wsX3_init) := ggX0_init_X3_init
theorem dX0_init_0 : decode cX0_init 0 = .ok (.aload_n 0, 1) := by decide +kernel
theorem dX0_init_1 : decode cX0_init 1 = .ok (.invokespecial 3, 3) := by decide +kernel
theorem dX0_init_4 : decode cX0_init 4 = .ok (.aload_n 0, 1) := by decide +kernel
theorem dX0_init_5 : decode cX0_init 5 = .ok (.iconst 0, 1) := by decide +kernel
theorem dX0_init_6 : decode cX0_init 6 = .ok (.putfield 9, 3) := by decide +kernel
theorem dX0_init_9 : decode cX0_init 9 = .ok (.aload_n 0, 1) := by decide +kernel
theorem dX0_init_10 : decode cX0_init 10 = .ok (.sipush 1000, 3) := by decide +kernel
theorem dX0_init_13 : decode cX0_init 13 = .ok (.putfield 15, 3) := by decide +kernel
theorem dX0_init_16 : decode cX0_init 16 = .ok (.aload_n 0, 1) := by decide +kernel
theorem dX0_init_17 : decode cX0_init 17 = .ok (.iconst 1, 1) := by decide +kernel
theorem dX0_init_18 : decode cX0_init 18 = .ok (.putfield 18, 3) := by decide +kernel
theorem dX0_init_21 : decode cX0_init 21 = .ok (.aload_n 0, 1) := by decide +kernel
theorem dX0_init_22 : decode cX0_init 22 = .ok (.iconst 0, 1) := by decide +kernel
theorem dX0_init_23 : decode cX0_init 23 = .ok (.putfield 21, 3) := by decide +kernel
theorem dX0_init_26 : decode cX0_init 26 = .ok (.aload_n 0, 1) := by decide +kernel
theorem dX0_init_27 : decode cX0_init 27 = .ok (.iconst 0, 1) := by decide +kernel
theorem dX0_init_28 : decode cX0_init 28 = .ok (.putfield 24, 3) := by decide +kernel
theorem dX0_init_31 : decode cX0_init 31 = .ok (.aload_n 0, 1) := by decide +kernel
theorem dX0_init_32 : decode cX0_init 32 = .ok (.bipush 8, 2) := by decide +kernel
theorem dX0_init_34 : decode cX0_init 34 = .ok (.anewarray 27, 3) := by decide +kernel
theorem dX0_init_37 : decode cX0_init 37 = .ok (.putfield 29, 3) := by decide +kernel
theorem dX0_init_40 : decode cX0_init 40 = .ok (.iconst 0, 1) := by decide +kernel
theorem dX0_init_41 : decode cX0_init 41 = .ok (.istore_n 1, 1) := by decide +kernel
theorem dX0_init_42 : decode cX0_init 42 = .ok (.iload_n 1, 1) := by decide +kernel
theorem dX0_init_43 : decode cX0_init 43 = .ok (.bipush 8, 2) := by decide +kernel
theorem dX0_init_45 : decode cX0_init 45 = .ok (.if_icmp .ge 22, 3) := by decide +kernel
theorem dX0_init_48 : decode cX0_init 48 = .ok (.aload_n 0, 1) := by decide +kernel
theorem dX0_init_49 : decode cX0_init 49 = .ok (.getfield 29, 3) := by decide +kernel
theorem dX0_init_52 : decode cX0_init 52 = .ok (.iload_n 1, 1) := by decide +kernel
theorem dX0_init_53 : decode cX0_init 53 = .ok (.new 27, 3) := by decide +kernel
theorem dX0_init_56 : decode cX0_init 56 = .ok (.dup, 1) := by decide +kernel
theorem dX0_init_57 : decode cX0_init 57 = .ok (.invokespecial 33, 3) := by decide +kernel
theorem dX0_init_60 : decode cX0_init 60 = .ok (.aastore, 1) := by decide +kernel
theorem dX0_init_61 : decode cX0_init 61 = .ok (.iinc 1 1, 3) := by decide +kernel
theorem dX0_init_64 : decode cX0_init 64 = .ok (.goto (-22), 3) := by decide +kernel
theorem dX0_init_67 : decode cX0_init 67 = .ok (.return_, 1) := by decide +kernel
set_option maxRecDepth 20000 in
theorem ggX0_takeFrom_X3_becomeLike : GoodIn wsX0_takeFrom wsX3_becomeLike := goodIn_r _ [10, 11, 12, 13, 14, 15, 16, 17, 18, 25, 26, 27, 28, 29, 30, 31, 32] (by decide +kernel) (by decide +kernel)
set_option maxRecDepth 20000 in
theorem gX0_takeFrom_X3_becomeLike_n34 : GoodIn wsX0_takeFrom (wsX3_becomeLike) := ggX0_takeFrom_X3_becomeLike
theorem dX0_takeFrom_0 : decode cX0_takeFrom 0 = .ok (.aload_n 0, 1) := by decide +kernel
theorem dX0_takeFrom_1 : decode cX0_takeFrom 1 = .ok (.aload_n 1, 1) := by decide +kernel
theorem dX0_takeFrom_2 : decode cX0_takeFrom 2 = .ok (.getfield 9, 3) := by decide +kernel
theorem dX0_takeFrom_5 : decode cX0_takeFrom 5 = .ok (.putfield 9, 3) := by decide +kernel
theorem dX0_takeFrom_8 : decode cX0_takeFrom 8 = .ok (.aload_n 0, 1) := by decide +kernel
theorem dX0_takeFrom_9 : decode cX0_takeFrom 9 = .ok (.aload_n 1, 1) := by decide +kernel
theorem dX0_takeFrom_10 : decode cX0_takeFrom 10 = .ok (.getfield 15, 3) := by decide +kernel
theorem dX0_takeFrom_13 : decode cX0_takeFrom 13 = .ok (.putfield 15, 3) := by decide +kernel
theorem dX0_takeFrom_16 : decode cX0_takeFrom 16 = .ok (.aload_n 0, 1) := by decide +kernel
theorem dX0_takeFrom_17 : decode cX0_takeFrom 17 = .ok (.aload_n 1, 1) := by decide +kernel
theorem dX0_takeFrom_18 : decode cX0_takeFrom 18 = .ok (.getfield 18, 3) := by decide +kernel
theorem dX0_takeFrom_21 : decode cX0_takeFrom 21 = .ok (.putfield 18, 3) := by decide +kernel
theorem dX0_takeFrom_24 : decode cX0_takeFrom 24 = .ok (.aload_n 0, 1) := by decide +kernel
theorem dX0_takeFrom_25 : decode cX0_takeFrom 25 = .ok (.aload_n 1, 1) := by decide +kernel
theorem dX0_takeFrom_26 : decode cX0_takeFrom 26 = .ok (.getfield 21, 3) := by decide +kernel
theorem dX0_takeFrom_29 : decode cX0_takeFrom 29 = .ok (.putfield 21, 3) := by decide +kernel
theorem dX0_takeFrom_32 : decode cX0_takeFrom 32 = .ok (.aload_n 0, 1) := by decide +kernel
theorem dX0_takeFrom_33 : decode cX0_takeFrom 33 = .ok (.aload_n 1, 1) := by decide +kernel
theorem dX0_takeFrom_34 : decode cX0_takeFrom 34 = .ok (.getfield 24, 3) := by decide +kernel
theorem dX0_takeFrom_37 : decode cX0_takeFrom 37 = .ok (.putfield 24, 3) := by decide +kernel
theorem dX0_takeFrom_40 : decode cX0_takeFrom 40 = .ok (.iconst 0, 1) := by decide +kernel
theorem dX0_takeFrom_41 : decode cX0_takeFrom 41 = .ok (.istore_n 2, 1) := by decide +kernel
theorem dX0_takeFrom_42 : decode cX0_takeFrom 42 = .ok (.iload_n 2, 1) := by decide +kernel
theorem dX0_takeFrom_43 : decode cX0_takeFrom 43 = .ok (.aload_n 0, 1) := by decide +kernel
theorem dX0_takeFrom_44 : decode cX0_takeFrom 44 = .ok (.getfield 24, 3) := by decide +kernel
theorem dX0_takeFrom_47 : decode cX0_takeFrom 47 = .ok (.if_icmp .ge 24, 3) := by decide +kernel
theorem dX0_takeFrom_50 : decode cX0_takeFrom 50 = .ok (.aload_n 0, 1) := by decide +kernel
theorem dX0_takeFrom_51 : decode cX0_takeFrom 51 = .ok (.getfield 29, 3) := by decide +kernel
theorem dX0_takeFrom_54 : decode cX0_takeFrom 54 = .ok (.iload_n 2, 1) := by decide +kernel
theorem dX0_takeFrom_55 : decode cX0_takeFrom 55 = .ok (.aaload, 1) := by decide +kernel
theorem dX0_takeFrom_56 : decode cX0_takeFrom 56 = .ok (.aload_n 1, 1) := by decide +kernel
theorem dX0_takeFrom_57 : decode cX0_takeFrom 57 = .ok (.getfield 29, 3) := by decide +kernel
theorem dX0_takeFrom_60 : decode cX0_takeFrom 60 = .ok (.iload_n 2, 1) := by decide +kernel
theorem dX0_takeFrom_61 : decode cX0_takeFrom 61 = .ok (.aaload, 1) := by decide +kernel
theorem dX0_takeFrom_62 : decode cX0_takeFrom 62 = .ok (.invokevirtual 34, 3) := by decide +kernel
theorem dX0_takeFrom_65 : decode cX0_takeFrom 65 = .ok (.iinc 2 1, 3) := by decide +kernel
theorem dX0_takeFrom_68 : decode cX0_takeFrom 68 = .ok (.goto (-26), 3) := by decide +kernel
theorem dX0_takeFrom_71 : decode cX0_takeFrom 71 = .ok (.return_, 1) := by decide +kernel
theorem dX0_isFull_0 : decode cX0_isFull 0 = .ok (.aload_n 0, 1) := by decide +kernel
theorem dX0_isFull_1 : decode cX0_isFull 1 = .ok (.getfield 24, 3) := by decide +kernel
theorem dX0_isFull_4 : decode cX0_isFull 4 = .ok (.bipush 8, 2) := by decide +kernel
theorem dX0_isFull_6 : decode cX0_isFull 6 = .ok (.if_icmp .lt 7, 3) := by decide +kernel
theorem dX0_isFull_9 : decode cX0_isFull 9 = .ok (.iconst 1, 1) := by decide +kernel
theorem dX0_isFull_10 : decode cX0_isFull 10 = .ok (.goto 4, 3) := by decide +kernel
theorem dX0_isFull_13 : decode cX0_isFull 13 = .ok (.iconst 0, 1) := by decide +kernel
theorem dX0_isFull_14 : decode cX0_isFull 14 = .ok (.ireturn, 1) := by decide +kernel
set_option maxRecDepth 20000 in
theorem ggX0_join_X3_startAs : GoodIn wsX0_join wsX3_startAs := goodIn_r _ [6, 7, 8, 9, 10, 11, 12, 13, 14, 21, 22, 23, 24, 25, 26, 27, 28] (by decide +kernel) (by decide +kernel)
set_option maxRecDepth 20000 in
theorem gX0_join_X3_startAs_n38 : GoodIn wsX0_join (wsX3_startAs) := ggX0_join_X3_startAs
theorem dX0_join_0 : decode cX0_join 0 = .ok (.aload_n 0, 1) := by decide +kernel
theorem dX0_join_1 : decode cX0_join 1 = .ok (.getfield 29, 3) := by decide +kernel
theorem dX0_join_4 : decode cX0_join 4 = .ok (.aload_n 0, 1) := by decide +kernel
theorem dX0_join_5 : decode cX0_join 5 = .ok (.getfield 24, 3) := by decide +kernel
theorem dX0_join_8 : decode cX0_join 8 = .ok (.aaload, 1) := by decide +kernel
theorem dX0_join_9 : decode cX0_join 9 = .ok (.astore_n 3, 1) := by decide +kernel
theorem dX0_join_10 : decode cX0_join 10 = .ok (.aload_n 3, 1) := by decide +kernel
theorem dX0_join_11 : decode cX0_join 11 = .ok (.iload_n 1, 1) := by decide +kernel
theorem dX0_join_12 : decode cX0_join 12 = .ok (.iload_n 2, 1) := by decide +kernel
theorem dX0_join_13 : decode cX0_join 13 = .ok (.invokevirtual 38, 3) := by decide +kernel
theorem dX0_join_16 : decode cX0_join 16 = .ok (.aload_n 0, 1) := by decide +kernel
theorem dX0_join_17 : decode cX0_join 17 = .ok (.dup, 1) := by decide +kernel
theorem dX0_join_18 : decode cX0_join 18 = .ok (.getfield 24, 3) := by decide +kernel
theorem dX0_join_21 : decode cX0_join 21 = .ok (.iconst 1, 1) := by decide +kernel
theorem dX0_join_22 : decode cX0_join 22 = .ok (.iadd, 1) := by decide +kernel
theorem dX0_join_23 : decode cX0_join 23 = .ok (.putfield 24, 3) := by decide +kernel
theorem dX0_join_26 : decode cX0_join 26 = .ok (.aload_n 3, 1) := by decide +kernel
theorem dX0_join_27 : decode cX0_join 27 = .ok (.areturn, 1) := by decide +kernel
set_option maxRecDepth 20000 in
theorem ggX0_sumOf_X3_trait : GoodIn wsX0_sumOf wsX3_trait := goodIn_r _ [6, 7, 8, 9, 10, 11, 12, 13, 14, 21, 22, 23, 24, 25, 26, 27, 28] (by decide +kernel) (by decide +kernel)
set_option maxRecDepth 20000 in
theorem gX0_sumOf_X3_trait_n42 : GoodIn wsX0_sumOf (wsX3_trait) := ggX0_sumOf_X3_trait
theorem dX0_sumOf_0 : decode cX0_sumOf 0 = .ok (.iconst 0, 1) := by decide +kernel
theorem dX0_sumOf_1 : decode cX0_sumOf 1 = .ok (.istore_n 2, 1) := by decide +kernel
theorem dX0_sumOf_2 : decode cX0_sumOf 2 = .ok (.iconst 0, 1) := by decide +kernel
theorem dX0_sumOf_3 : decode cX0_sumOf 3 = .ok (.istore_n 3, 1) := by decide +kernel
theorem dX0_sumOf_4 : decode cX0_sumOf 4 = .ok (.iload_n 3, 1) := by decide +kernel
theorem dX0_sumOf_5 : decode cX0_sumOf 5 = .ok (.aload_n 0, 1) := by decide +kernel
theorem dX0_sumOf_6 : decode cX0_sumOf 6 = .ok (.getfield 24, 3) := by decide +kernel
theorem dX0_sumOf_9 : decode cX0_sumOf 9 = .ok (.if_icmp .ge 22, 3) := by decide +kernel
theorem dX0_sumOf_12 : decode cX0_sumOf 12 = .ok (.iload_n 2, 1) := by decide +kernel
theorem dX0_sumOf_13 : decode cX0_sumOf 13 = .ok (.aload_n 0, 1) := by decide +kernel
theorem dX0_sumOf_14 : decode cX0_sumOf 14 = .ok (.getfield 29, 3) := by decide +kernel
theorem dX0_sumOf_17 : decode cX0_sumOf 17 = .ok (.iload_n 3, 1) := by decide +kernel
theorem dX0_sumOf_18 : decode cX0_sumOf 18 = .ok (.aaload, 1) := by decide +kernel
theorem dX0_sumOf_19 : decode cX0_sumOf 19 = .ok (.iload_n 1, 1) := by decide +kernel
theorem dX0_sumOf_20 : decode cX0_sumOf 20 = .ok (.invokevirtual 42, 3) := by decide +kernel
theorem dX0_sumOf_23 : decode cX0_sumOf 23 = .ok (.iadd, 1) := by decide +kernel
theorem dX0_sumOf_24 : decode cX0_sumOf 24 = .ok (.istore_n 2, 1) := by decide +kernel
theorem dX0_sumOf_25 : decode cX0_sumOf 25 = .ok (.iinc 3 1, 3) := by decide +kernel
theorem dX0_sumOf_28 : decode cX0_sumOf 28 = .ok (.goto (-24), 3) := by decide +kernel
theorem dX0_sumOf_31 : decode cX0_sumOf 31 = .ok (.iload_n 2, 1) := by decide +kernel
theorem dX0_sumOf_32 : decode cX0_sumOf 32 = .ok (.ireturn, 1) := by decide +kernel
set_option maxRecDepth 20000 in
theorem ggX0_setWith_X3_trait : GoodIn wsX0_setWith wsX3_trait := goodIn_r _ [6, 7, 8, 9, 10, 11, 12, 13, 14, 21, 22, 23, 24, 25, 26, 27, 28] (by decide +kernel) (by decide +kernel)
set_option maxRecDepth 20000 in
theorem gX0_setWith_X3_trait_n42 : GoodIn wsX0_setWith (wsX3_trait) := ggX0_setWith_X3_trait
theorem dX0_setWith_0 : decode cX0_setWith 0 = .ok (.iconst 0, 1) := by decide +kernel
theorem dX0_setWith_1 : decode cX0_setWith 1 = .ok (.istore_n 2, 1) := by decide +kernel
theorem dX0_setWith_2 : decode cX0_setWith 2 = .ok (.iconst 0, 1) := by decide +kernel
theorem dX0_setWith_3 : decode cX0_setWith 3 = .ok (.istore_n 3, 1) := by decide +kernel
theorem dX0_setWith_4 : decode cX0_setWith 4 = .ok (.iload_n 3, 1) := by decide +kernel
theorem dX0_setWith_5 : decode cX0_setWith 5 = .ok (.aload_n 0, 1) := by decide +kernel
theorem dX0_setWith_6 : decode cX0_setWith 6 = .ok (.getfield 24, 3) := by decide +kernel
theorem dX0_setWith_9 : decode cX0_setWith 9 = .ok (.if_icmp .ge 28, 3) := by decide +kernel
theorem dX0_setWith_12 : decode cX0_setWith 12 = .ok (.aload_n 0, 1) := by decide +kernel
theorem dX0_setWith_13 : decode cX0_setWith 13 = .ok (.getfield 29, 3) := by decide +kernel
theorem dX0_setWith_16 : decode cX0_setWith 16 = .ok (.iload_n 3, 1) := by decide +kernel
theorem dX0_setWith_17 : decode cX0_setWith 17 = .ok (.aaload, 1) := by decide +kernel
theorem dX0_setWith_18 : decode cX0_setWith 18 = .ok (.iload_n 1, 1) := by decide +kernel
theorem dX0_setWith_19 : decode cX0_setWith 19 = .ok (.invokevirtual 42, 3) := by decide +kernel
theorem dX0_setWith_22 : decode cX0_setWith 22 = .ok (.ifCond .le 9, 3) := by decide +kernel
theorem dX0_setWith_25 : decode cX0_setWith 25 = .ok (.iload_n 2, 1) := by decide +kernel
theorem dX0_setWith_26 : decode cX0_setWith 26 = .ok (.iconst 1, 1) := by decide +kernel
theorem dX0_setWith_27 : decode cX0_setWith 27 = .ok (.iload_n 3, 1) := by decide +kernel
theorem dX0_setWith_28 : decode cX0_setWith 28 = .ok (.ishl, 1) := by decide +kernel
theorem dX0_setWith_29 : decode cX0_setWith 29 = .ok (.ior, 1) := by decide +kernel
theorem dX0_setWith_30 : decode cX0_setWith 30 = .ok (.istore_n 2, 1) := by decide +kernel
theorem dX0_setWith_31 : decode cX0_setWith 31 = .ok (.iinc 3 1, 3) := by decide +kernel
theorem dX0_setWith_34 : decode cX0_setWith 34 = .ok (.goto (-30), 3) := by decide +kernel
theorem dX0_setWith_37 : decode cX0_setWith 37 = .ok (.iload_n 2, 1) := by decide +kernel
theorem dX0_setWith_38 : decode cX0_setWith 38 = .ok (.ireturn, 1) := by decide +kernel
set_option maxRecDepth 20000 in
theorem ggX0_passHours_X0_passHour : GoodIn wsX0_passHours wsX0_passHour := goodIn_r _ [5, 6, 7, 8, 9, 10, 11, 4, 12, 13, 14, 15, 16, 17, 18, 19, 20, 21, 22, 23, 24, 25, 26, 27, 28, 29, 30, 31, 32, 33, 34, 35, 36, 37, 38, 39, 40, 41, 42, 43, 44, 45, 46, 47, 48, 49, 50, 51, 52, 53, 54, 55, 56, 57, 58, 59, 60, 61, 62, 63] (by decide +kernel) (by decide +kernel)
set_option maxRecDepth 20000 in
theorem gX0_passHours_X0_passHour : GoodIn wsX0_passHours (wsV RX0 46 RX0 yX0_passHour wsX0_passHour) := goodIn_app (goodIn_of _ (by decide +kernel)) ggX0_passHours_X0_passHour
theorem dX0_passHours_0 : decode cX0_passHours 0 = .ok (.iconst 0, 1) := by decide +kernel
theorem dX0_passHours_1 : decode cX0_passHours 1 = .ok (.istore_n 2, 1) := by decide +kernel
theorem dX0_passHours_2 : decode cX0_passHours 2 = .ok (.iload_n 2, 1) := by decide +kernel
theorem dX0_passHours_3 : decode cX0_passHours 3 = .ok (.iload_n 1, 1) := by decide +kernel
theorem dX0_passHours_4 : decode cX0_passHours 4 = .ok (.if_icmp .ge 13, 3) := by decide +kernel
theorem dX0_passHours_7 : decode cX0_passHours 7 = .ok (.aload_n 0, 1) := by decide +kernel
theorem dX0_passHours_8 : decode cX0_passHours 8 = .ok (.invokevirtual 46, 3) := by decide +kernel
theorem dX0_passHours_11 : decode cX0_passHours 11 = .ok (.iinc 2 1, 3) := by decide +kernel
theorem dX0_passHours_14 : decode cX0_passHours 14 = .ok (.goto (-12), 3) := by decide +kernel
theorem dX0_passHours_17 : decode cX0_passHours 17 = .ok (.return_, 1) := by decide +kernel
set_option maxRecDepth 20000 in
theorem ggX0_passHour_X0_go : GoodIn wsX0_passHour wsX0_go := goodIn_r _ [8, 9, 10, 11, 12, 13, 14, 15, 7, 16, 17, 18, 19, 20, 21, 1, 2, 22, 23, 24, 25, 26, 27, 28, 29, 30, 31, 32, 33, 34, 35, 36, 37, 38, 39, 40, 41, 42, 43, 44, 45, 3, 52, 53, 54, 55, 56, 57, 58, 59, 46, 47, 48, 49, 50, 51] (by decide +kernel) (by decide +kernel)
set_option maxRecDepth 20000 in
theorem gX0_passHour_X0_go : GoodIn wsX0_passHour (wsV RX0 52 RX0 yX0_go wsX0_go) := goodIn_app (goodIn_of _ (by decide +kernel)) ggX0_passHour_X0_go
theorem dX0_passHour_0 : decode cX0_passHour 0 = .ok (.iconst 0, 1) := by decide +kernel
theorem dX0_passHour_1 : decode cX0_passHour 1 = .ok (.istore_n 1, 1) := by decide +kernel
theorem dX0_passHour_2 : decode cX0_passHour 2 = .ok (.iload_n 1, 1) := by decide +kernel
theorem dX0_passHour_3 : decode cX0_passHour 3 = .ok (.aload_n 0, 1) := by decide +kernel
theorem dX0_passHour_4 : decode cX0_passHour 4 = .ok (.getfield 24, 3) := by decide +kernel
theorem dX0_passHour_7 : decode cX0_passHour 7 = .ok (.if_icmp .ge 31, 3) := by decide +kernel
theorem dX0_passHour_10 : decode cX0_passHour 10 = .ok (.aload_n 0, 1) := by decide +kernel
theorem dX0_passHour_11 : decode cX0_passHour 11 = .ok (.getfield 29, 3) := by decide +kernel
theorem dX0_passHour_14 : decode cX0_passHour 14 = .ok (.iload_n 1, 1) := by decide +kernel
theorem dX0_passHour_15 : decode cX0_passHour 15 = .ok (.aaload, 1) := by decide +kernel
theorem dX0_passHour_16 : decode cX0_passHour 16 = .ok (.getfield 49, 3) := by decide +kernel
theorem dX0_passHour_19 : decode cX0_passHour 19 = .ok (.ifCond .ne 13, 3) := by decide +kernel
theorem dX0_passHour_22 : decode cX0_passHour 22 = .ok (.aload_n 0, 1) := by decide +kernel
theorem dX0_passHour_23 : decode cX0_passHour 23 = .ok (.aload_n 0, 1) := by decide +kernel
theorem dX0_passHour_24 : decode cX0_passHour 24 = .ok (.getfield 29, 3) := by decide +kernel
theorem dX0_passHour_27 : decode cX0_passHour 27 = .ok (.iload_n 1, 1) := by decide +kernel
theorem dX0_passHour_28 : decode cX0_passHour 28 = .ok (.aaload, 1) := by decide +kernel
theorem dX0_passHour_29 : decode cX0_passHour 29 = .ok (.invokevirtual 52, 3) := by decide +kernel
theorem dX0_passHour_32 : decode cX0_passHour 32 = .ok (.iinc 1 1, 3) := by decide +kernel
theorem dX0_passHour_35 : decode cX0_passHour 35 = .ok (.goto (-33), 3) := by decide +kernel
theorem dX0_passHour_38 : decode cX0_passHour 38 = .ok (.aload_n 0, 1) := by decide +kernel
theorem dX0_passHour_39 : decode cX0_passHour 39 = .ok (.dup, 1) := by decide +kernel
theorem dX0_passHour_40 : decode cX0_passHour 40 = .ok (.getfield 9, 3) := by decide +kernel
theorem dX0_passHour_43 : decode cX0_passHour 43 = .ok (.iconst 1, 1) := by decide +kernel
theorem dX0_passHour_44 : decode cX0_passHour 44 = .ok (.iadd, 1) := by decide +kernel
theorem dX0_passHour_45 : decode cX0_passHour 45 = .ok (.putfield 9, 3) := by decide +kernel
theorem dX0_passHour_48 : decode cX0_passHour 48 = .ok (.return_, 1) := by decide +kernel
set_option maxRecDepth 20000 in
theorem ggX0_go_X0_paceOf : GoodIn wsX0_go wsX0_paceOf := goodIn_r _ [9, 10, 11, 12, 13, 8, 14, 15, 16, 42, 43, 44, 45, 46, 47, 48, 49, 50, 51, 52, 53, 54, 55] (by decide +kernel) (by decide +kernel)
set_option maxRecDepth 20000 in
theorem gX0_go_X0_paceOf : GoodIn wsX0_go (wsV RX0 55 RX0 yX0_paceOf wsX0_paceOf) := goodIn_app (goodIn_of _ (by decide +kernel)) ggX0_go_X0_paceOf
set_option maxRecDepth 20000 in
theorem ggX0_go_X3_milesToHatch : GoodIn wsX0_go wsX3_milesToHatch := goodIn_r _ [20, 21, 22, 42, 43, 44, 45, 46, 47, 48, 49] (by decide +kernel) (by decide +kernel)
set_option maxRecDepth 20000 in
theorem gX0_go_X3_milesToHatch_n59 : GoodIn wsX0_go (wsX3_milesToHatch) := ggX0_go_X3_milesToHatch
set_option maxRecDepth 20000 in
theorem ggX0_go_X0_arrive : GoodIn wsX0_go wsX0_arrive := goodIn_r _ [26, 27, 1, 2, 3, 4, 28, 29, 30, 31, 32, 33, 34, 8, 35, 36, 10, 37, 38, 39, 40, 41, 42, 43, 44, 45, 46, 47, 48, 49, 50, 51, 52, 53, 54, 55] (by decide +kernel) (by decide +kernel)
set_option maxRecDepth 20000 in
theorem gX0_go_X0_arrive : GoodIn wsX0_go (wsV RX0 81 RX0 yX0_arrive wsX0_arrive) := goodIn_app (goodIn_of _ (by decide +kernel)) ggX0_go_X0_arrive
theorem dX0_go_0 : decode cX0_go 0 = .ok (.aload_n 0, 1) := by decide +kernel
theorem dX0_go_1 : decode cX0_go 1 = .ok (.aload_n 1, 1) := by decide +kernel
theorem dX0_go_2 : decode cX0_go 2 = .ok (.invokevirtual 55, 3) := by decide +kernel
theorem dX0_go_5 : decode cX0_go 5 = .ok (.aload_n 1, 1) := by decide +kernel
theorem dX0_go_6 : decode cX0_go 6 = .ok (.invokevirtual 59, 3) := by decide +kernel
theorem dX0_go_9 : decode cX0_go 9 = .ok (.invokestatic 63, 3) := by decide +kernel
theorem dX0_go_12 : decode cX0_go 12 = .ok (.istore_n 2, 1) := by decide +kernel
theorem dX0_go_13 : decode cX0_go 13 = .ok (.aload_n 1, 1) := by decide +kernel
theorem dX0_go_14 : decode cX0_go 14 = .ok (.dup, 1) := by decide +kernel
theorem dX0_go_15 : decode cX0_go 15 = .ok (.getfield 69, 3) := by decide +kernel
theorem dX0_go_18 : decode cX0_go 18 = .ok (.aload_n 1, 1) := by decide +kernel
theorem dX0_go_19 : decode cX0_go 19 = .ok (.getfield 72, 3) := by decide +kernel
theorem dX0_go_22 : decode cX0_go 22 = .ok (.iconst 1, 1) := by decide +kernel
theorem dX0_go_23 : decode cX0_go 23 = .ok (.if_icmp .ne 7, 3) := by decide +kernel
theorem dX0_go_26 : decode cX0_go 26 = .ok (.iload_n 2, 1) := by decide +kernel
theorem dX0_go_27 : decode cX0_go 27 = .ok (.goto 5, 3) := by decide +kernel
theorem dX0_go_30 : decode cX0_go 30 = .ok (.iload_n 2, 1) := by decide +kernel
theorem dX0_go_31 : decode cX0_go 31 = .ok (.ineg, 1) := by decide +kernel
theorem dX0_go_32 : decode cX0_go 32 = .ok (.iadd, 1) := by decide +kernel
theorem dX0_go_33 : decode cX0_go 33 = .ok (.putfield 69, 3) := by decide +kernel
theorem dX0_go_36 : decode cX0_go 36 = .ok (.aload_n 1, 1) := by decide +kernel
theorem dX0_go_37 : decode cX0_go 37 = .ok (.bipush 12, 2) := by decide +kernel
theorem dX0_go_39 : decode cX0_go 39 = .ok (.aload_n 1, 1) := by decide +kernel
theorem dX0_go_40 : decode cX0_go 40 = .ok (.getfield 75, 3) := by decide +kernel
theorem dX0_go_43 : decode cX0_go 43 = .ok (.iload_n 2, 1) := by decide +kernel
theorem dX0_go_44 : decode cX0_go 44 = .ok (.iadd, 1) := by decide +kernel
theorem dX0_go_45 : decode cX0_go 45 = .ok (.invokestatic 63, 3) := by decide +kernel
theorem dX0_go_48 : decode cX0_go 48 = .ok (.putfield 75, 3) := by decide +kernel
theorem dX0_go_51 : decode cX0_go 51 = .ok (.aload_n 1, 1) := by decide +kernel
theorem dX0_go_52 : decode cX0_go 52 = .ok (.bipush 99, 2) := by decide +kernel
theorem dX0_go_54 : decode cX0_go 54 = .ok (.aload_n 1, 1) := by decide +kernel
theorem dX0_go_55 : decode cX0_go 55 = .ok (.getfield 78, 3) := by decide +kernel
theorem dX0_go_58 : decode cX0_go 58 = .ok (.iconst 1, 1) := by decide +kernel
theorem dX0_go_59 : decode cX0_go 59 = .ok (.iadd, 1) := by decide +kernel
theorem dX0_go_60 : decode cX0_go 60 = .ok (.invokestatic 63, 3) := by decide +kernel
theorem dX0_go_63 : decode cX0_go 63 = .ok (.putfield 78, 3) := by decide +kernel
theorem dX0_go_66 : decode cX0_go 66 = .ok (.aload_n 1, 1) := by decide +kernel
theorem dX0_go_67 : decode cX0_go 67 = .ok (.getfield 69, 3) := by decide +kernel
theorem dX0_go_70 : decode cX0_go 70 = .ok (.bipush 6, 2) := by decide +kernel
theorem dX0_go_72 : decode cX0_go 72 = .ok (.if_icmp .ne 8, 3) := by decide +kernel
theorem dX0_go_75 : decode cX0_go 75 = .ok (.aload_n 1, 1) := by decide +kernel
theorem dX0_go_76 : decode cX0_go 76 = .ok (.iconst 0, 1) := by decide +kernel
theorem dX0_go_77 : decode cX0_go 77 = .ok (.putfield 78, 3) := by decide +kernel
theorem dX0_go_80 : decode cX0_go 80 = .ok (.aload_n 1, 1) := by decide +kernel
theorem dX0_go_81 : decode cX0_go 81 = .ok (.invokevirtual 59, 3) := by decide +kernel
theorem dX0_go_84 : decode cX0_go 84 = .ok (.ifCond .ne 8, 3) := by decide +kernel
theorem dX0_go_87 : decode cX0_go 87 = .ok (.aload_n 0, 1) := by decide +kernel
theorem dX0_go_88 : decode cX0_go 88 = .ok (.aload_n 1, 1) := by decide +kernel
theorem dX0_go_89 : decode cX0_go 89 = .ok (.invokevirtual 81, 3) := by decide +kernel
theorem dX0_go_92 : decode cX0_go 92 = .ok (.return_, 1) := by decide +kernel
set_option maxRecDepth 20000 in
theorem ggX0_arrive_X0_payOf : GoodIn wsX0_arrive wsX0_payOf := goodIn_r _ [14, 15, 16, 22, 23, 24, 25, 26, 27, 28, 29, 30, 31, 32, 33, 34, 35] (by decide +kernel) (by decide +kernel)
set_option maxRecDepth 20000 in
theorem gX0_arrive_X0_payOf : GoodIn wsX0_arrive (wsV RX0 87 RX0 yX0_payOf wsX0_payOf) := goodIn_app (goodIn_of _ (by decide +kernel)) ggX0_arrive_X0_payOf
set_option maxRecDepth 20000 in
theorem ggX0_arrive_X0_wearOf : GoodIn wsX0_arrive wsX0_wearOf := goodIn_r _ [20, 21, 30, 31, 32, 33, 34, 35, 22, 23, 24, 25, 26, 27, 28, 29] (by decide +kernel) (by decide +kernel)
set_option maxRecDepth 20000 in
theorem gX0_arrive_X0_wearOf : GoodIn wsX0_arrive (wsV RX0 94 RX0 yX0_wearOf wsX0_wearOf) := goodIn_app (goodIn_of _ (by decide +kernel)) ggX0_arrive_X0_wearOf
theorem dX0_arrive_0 : decode cX0_arrive 0 = .ok (.aload_n 1, 1) := by decide +kernel
theorem dX0_arrive_1 : decode cX0_arrive 1 = .ok (.getfield 84, 3) := by decide +kernel
theorem dX0_arrive_4 : decode cX0_arrive 4 = .ok (.ifCond .le 59, 3) := by decide +kernel
theorem dX0_arrive_7 : decode cX0_arrive 7 = .ok (.aload_n 0, 1) := by decide +kernel
theorem dX0_arrive_8 : decode cX0_arrive 8 = .ok (.aload_n 1, 1) := by decide +kernel
theorem dX0_arrive_9 : decode cX0_arrive 9 = .ok (.invokevirtual 87, 3) := by decide +kernel
theorem dX0_arrive_12 : decode cX0_arrive 12 = .ok (.aload_n 0, 1) := by decide +kernel
theorem dX0_arrive_13 : decode cX0_arrive 13 = .ok (.getfield 15, 3) := by decide +kernel
theorem dX0_arrive_16 : decode cX0_arrive 16 = .ok (.invokestatic 63, 3) := by decide +kernel
theorem dX0_arrive_19 : decode cX0_arrive 19 = .ok (.istore_n 2, 1) := by decide +kernel
theorem dX0_arrive_20 : decode cX0_arrive 20 = .ok (.aload_n 0, 1) := by decide +kernel
theorem dX0_arrive_21 : decode cX0_arrive 21 = .ok (.dup, 1) := by decide +kernel
theorem dX0_arrive_22 : decode cX0_arrive 22 = .ok (.getfield 15, 3) := by decide +kernel
theorem dX0_arrive_25 : decode cX0_arrive 25 = .ok (.iload_n 2, 1) := by decide +kernel
theorem dX0_arrive_26 : decode cX0_arrive 26 = .ok (.isub, 1) := by decide +kernel
theorem dX0_arrive_27 : decode cX0_arrive 27 = .ok (.putfield 15, 3) := by decide +kernel
theorem dX0_arrive_30 : decode cX0_arrive 30 = .ok (.aload_n 1, 1) := by decide +kernel
theorem dX0_arrive_31 : decode cX0_arrive 31 = .ok (.ldc 90, 2) := by decide +kernel
theorem dX0_arrive_33 : decode cX0_arrive 33 = .ok (.aload_n 1, 1) := by decide +kernel
theorem dX0_arrive_34 : decode cX0_arrive 34 = .ok (.getfield 91, 3) := by decide +kernel
theorem dX0_arrive_37 : decode cX0_arrive 37 = .ok (.iload_n 2, 1) := by decide +kernel
theorem dX0_arrive_38 : decode cX0_arrive 38 = .ok (.iadd, 1) := by decide +kernel
theorem dX0_arrive_39 : decode cX0_arrive 39 = .ok (.invokestatic 63, 3) := by decide +kernel
theorem dX0_arrive_42 : decode cX0_arrive 42 = .ok (.putfield 91, 3) := by decide +kernel
theorem dX0_arrive_45 : decode cX0_arrive 45 = .ok (.aload_n 1, 1) := by decide +kernel
theorem dX0_arrive_46 : decode cX0_arrive 46 = .ok (.iconst 0, 1) := by decide +kernel
theorem dX0_arrive_47 : decode cX0_arrive 47 = .ok (.aload_n 1, 1) := by decide +kernel
theorem dX0_arrive_48 : decode cX0_arrive 48 = .ok (.getfield 84, 3) := by decide +kernel
theorem dX0_arrive_51 : decode cX0_arrive 51 = .ok (.aload_n 0, 1) := by decide +kernel
theorem dX0_arrive_52 : decode cX0_arrive 52 = .ok (.aload_n 1, 1) := by decide +kernel
theorem dX0_arrive_53 : decode cX0_arrive 53 = .ok (.invokevirtual 94, 3) := by decide +kernel
theorem dX0_arrive_56 : decode cX0_arrive 56 = .ok (.isub, 1) := by decide +kernel
theorem dX0_arrive_57 : decode cX0_arrive 57 = .ok (.invokestatic 97, 3) := by decide +kernel
theorem dX0_arrive_60 : decode cX0_arrive 60 = .ok (.putfield 84, 3) := by decide +kernel
theorem dX0_arrive_63 : decode cX0_arrive 63 = .ok (.aload_n 1, 1) := by decide +kernel
theorem dX0_arrive_64 : decode cX0_arrive 64 = .ok (.iconst 0, 1) := by decide +kernel
theorem dX0_arrive_65 : decode cX0_arrive 65 = .ok (.putfield 75, 3) := by decide +kernel
theorem dX0_arrive_68 : decode cX0_arrive 68 = .ok (.aload_n 1, 1) := by decide +kernel
theorem dX0_arrive_69 : decode cX0_arrive 69 = .ok (.iconst 1, 1) := by decide +kernel
theorem dX0_arrive_70 : decode cX0_arrive 70 = .ok (.aload_n 1, 1) := by decide +kernel
theorem dX0_arrive_71 : decode cX0_arrive 71 = .ok (.getfield 72, 3) := by decide +kernel
theorem dX0_arrive_74 : decode cX0_arrive 74 = .ok (.isub, 1) := by decide +kernel
theorem dX0_arrive_75 : decode cX0_arrive 75 = .ok (.putfield 72, 3) := by decide +kernel
theorem dX0_arrive_78 : decode cX0_arrive 78 = .ok (.return_, 1) := by decide +kernel
set_option maxRecDepth 20000 in
theorem ggX0_paceOf_X0_hasCompany : GoodIn wsX0_paceOf wsX0_hasCompany := goodIn_r _ [6, 7, 8, 17, 18, 19, 20, 21, 22, 9, 10, 11, 12, 13, 14, 15, 16] (by decide +kernel) (by decide +kernel)
set_option maxRecDepth 20000 in
theorem gX0_paceOf_X0_hasCompany : GoodIn wsX0_paceOf (wsV RX0 103 RX0 yX0_hasCompany wsX0_hasCompany) := goodIn_app (goodIn_of _ (by decide +kernel)) ggX0_paceOf_X0_hasCompany
theorem dX0_paceOf_0 : decode cX0_paceOf 0 = .ok (.aload_n 1, 1) := by decide +kernel
theorem dX0_paceOf_1 : decode cX0_paceOf 1 = .ok (.getfield 78, 3) := by decide +kernel
theorem dX0_paceOf_4 : decode cX0_paceOf 4 = .ok (.bipush 9, 2) := by decide +kernel
theorem dX0_paceOf_6 : decode cX0_paceOf 6 = .ok (.if_icmp .le 7, 3) := by decide +kernel
theorem dX0_paceOf_9 : decode cX0_paceOf 9 = .ok (.iconst 2, 1) := by decide +kernel
theorem dX0_paceOf_10 : decode cX0_paceOf 10 = .ok (.goto 4, 3) := by decide +kernel
theorem dX0_paceOf_13 : decode cX0_paceOf 13 = .ok (.iconst 3, 1) := by decide +kernel
theorem dX0_paceOf_14 : decode cX0_paceOf 14 = .ok (.istore_n 2, 1) := by decide +kernel
theorem dX0_paceOf_15 : decode cX0_paceOf 15 = .ok (.aload_n 1, 1) := by decide +kernel
theorem dX0_paceOf_16 : decode cX0_paceOf 16 = .ok (.getfield 100, 3) := by decide +kernel
theorem dX0_paceOf_19 : decode cX0_paceOf 19 = .ok (.tableswitch 73 2 5 #[29, 45, 49, 64], 29) := by decide +kernel
theorem dX0_paceOf_48 : decode cX0_paceOf 48 = .ok (.aload_n 0, 1) := by decide +kernel
theorem dX0_paceOf_49 : decode cX0_paceOf 49 = .ok (.aload_n 1, 1) := by decide +kernel
theorem dX0_paceOf_50 : decode cX0_paceOf 50 = .ok (.invokevirtual 103, 3) := by decide +kernel
theorem dX0_paceOf_53 : decode cX0_paceOf 53 = .ok (.ifCond .eq 9, 3) := by decide +kernel
theorem dX0_paceOf_56 : decode cX0_paceOf 56 = .ok (.iload_n 2, 1) := by decide +kernel
theorem dX0_paceOf_57 : decode cX0_paceOf 57 = .ok (.iconst 1, 1) := by decide +kernel
theorem dX0_paceOf_58 : decode cX0_paceOf 58 = .ok (.iadd, 1) := by decide +kernel
theorem dX0_paceOf_59 : decode cX0_paceOf 59 = .ok (.goto 4, 3) := by decide +kernel
theorem dX0_paceOf_62 : decode cX0_paceOf 62 = .ok (.iload_n 2, 1) := by decide +kernel
theorem dX0_paceOf_63 : decode cX0_paceOf 63 = .ok (.ireturn, 1) := by decide +kernel
theorem dX0_paceOf_64 : decode cX0_paceOf 64 = .ok (.iload_n 2, 1) := by decide +kernel
theorem dX0_paceOf_65 : decode cX0_paceOf 65 = .ok (.iconst 2, 1) := by decide +kernel
theorem dX0_paceOf_66 : decode cX0_paceOf 66 = .ok (.idiv, 1) := by decide +kernel
theorem dX0_paceOf_67 : decode cX0_paceOf 67 = .ok (.ireturn, 1) := by decide +kernel
theorem dX0_paceOf_68 : decode cX0_paceOf 68 = .ok (.aload_n 1, 1) := by decide +kernel
theorem dX0_paceOf_69 : decode cX0_paceOf 69 = .ok (.getfield 84, 3) := by decide +kernel
theorem dX0_paceOf_72 : decode cX0_paceOf 72 = .ok (.ifCond .ne 9, 3) := by decide +kernel
theorem dX0_paceOf_75 : decode cX0_paceOf 75 = .ok (.iload_n 2, 1) := by decide +kernel
theorem dX0_paceOf_76 : decode cX0_paceOf 76 = .ok (.iconst 1, 1) := by decide +kernel
theorem dX0_paceOf_77 : decode cX0_paceOf 77 = .ok (.iadd, 1) := by decide +kernel
theorem dX0_paceOf_78 : decode cX0_paceOf 78 = .ok (.goto 4, 3) := by decide +kernel
theorem dX0_paceOf_81 : decode cX0_paceOf 81 = .ok (.iload_n 2, 1) := by decide +kernel
theorem dX0_paceOf_82 : decode cX0_paceOf 82 = .ok (.ireturn, 1) := by decide +kernel
theorem dX0_paceOf_83 : decode cX0_paceOf 83 = .ok (.iload_n 2, 1) := by decide +kernel
theorem dX0_paceOf_84 : decode cX0_paceOf 84 = .ok (.iconst 2, 1) := by decide +kernel
theorem dX0_paceOf_85 : decode cX0_paceOf 85 = .ok (.idiv, 1) := by decide +kernel
theorem dX0_paceOf_86 : decode cX0_paceOf 86 = .ok (.aload_n 0, 1) := by decide +kernel
theorem dX0_paceOf_87 : decode cX0_paceOf 87 = .ok (.getfield 21, 3) := by decide +kernel
theorem dX0_paceOf_90 : decode cX0_paceOf 90 = .ok (.iadd, 1) := by decide +kernel
theorem dX0_paceOf_91 : decode cX0_paceOf 91 = .ok (.ireturn, 1) := by decide +kernel
theorem dX0_paceOf_92 : decode cX0_paceOf 92 = .ok (.iload_n 2, 1) := by decide +kernel
theorem dX0_paceOf_93 : decode cX0_paceOf 93 = .ok (.ireturn, 1) := by decide +kernel
theorem dX0_hasCompany_0 : decode cX0_hasCompany 0 = .ok (.iconst 0, 1) := by decide +kernel
theorem dX0_hasCompany_1 : decode cX0_hasCompany 1 = .ok (.istore_n 2, 1) := by decide +kernel
theorem dX0_hasCompany_2 : decode cX0_hasCompany 2 = .ok (.iconst 0, 1) := by decide +kernel
theorem dX0_hasCompany_3 : decode cX0_hasCompany 3 = .ok (.istore_n 3, 1) := by decide +kernel
theorem dX0_hasCompany_4 : decode cX0_hasCompany 4 = .ok (.iload_n 3, 1) := by decide +kernel
theorem dX0_hasCompany_5 : decode cX0_hasCompany 5 = .ok (.aload_n 0, 1) := by decide +kernel
theorem dX0_hasCompany_6 : decode cX0_hasCompany 6 = .ok (.getfield 24, 3) := by decide +kernel
theorem dX0_hasCompany_9 : decode cX0_hasCompany 9 = .ok (.if_icmp .ge 28, 3) := by decide +kernel
theorem dX0_hasCompany_12 : decode cX0_hasCompany 12 = .ok (.aload_n 0, 1) := by decide +kernel
theorem dX0_hasCompany_13 : decode cX0_hasCompany 13 = .ok (.getfield 29, 3) := by decide +kernel
theorem dX0_hasCompany_16 : decode cX0_hasCompany 16 = .ok (.iload_n 3, 1) := by decide +kernel
theorem dX0_hasCompany_17 : decode cX0_hasCompany 17 = .ok (.aaload, 1) := by decide +kernel
theorem dX0_hasCompany_18 : decode cX0_hasCompany 18 = .ok (.getfield 69, 3) := by decide +kernel
theorem dX0_hasCompany_21 : decode cX0_hasCompany 21 = .ok (.aload_n 1, 1) := by decide +kernel
theorem dX0_hasCompany_22 : decode cX0_hasCompany 22 = .ok (.getfield 69, 3) := by decide +kernel
theorem dX0_hasCompany_25 : decode cX0_hasCompany 25 = .ok (.if_icmp .ne 6, 3) := by decide +kernel
theorem dX0_hasCompany_28 : decode cX0_hasCompany 28 = .ok (.iinc 2 1, 3) := by decide +kernel
theorem dX0_hasCompany_31 : decode cX0_hasCompany 31 = .ok (.iinc 3 1, 3) := by decide +kernel
theorem dX0_hasCompany_34 : decode cX0_hasCompany 34 = .ok (.goto (-30), 3) := by decide +kernel
theorem dX0_hasCompany_37 : decode cX0_hasCompany 37 = .ok (.iload_n 2, 1) := by decide +kernel
theorem dX0_hasCompany_38 : decode cX0_hasCompany 38 = .ok (.iconst 1, 1) := by decide +kernel
theorem dX0_hasCompany_39 : decode cX0_hasCompany 39 = .ok (.if_icmp .le 7, 3) := by decide +kernel
theorem dX0_hasCompany_42 : decode cX0_hasCompany 42 = .ok (.iconst 1, 1) := by decide +kernel
theorem dX0_hasCompany_43 : decode cX0_hasCompany 43 = .ok (.goto 4, 3) := by decide +kernel
theorem dX0_hasCompany_46 : decode cX0_hasCompany 46 = .ok (.iconst 0, 1) := by decide +kernel
theorem dX0_hasCompany_47 : decode cX0_hasCompany 47 = .ok (.ireturn, 1) := by decide +kernel
theorem dX0_payOf_0 : decode cX0_payOf 0 = .ok (.aload_n 1, 1) := by decide +kernel
theorem dX0_payOf_1 : decode cX0_payOf 1 = .ok (.getfield 75, 3) := by decide +kernel
theorem dX0_payOf_4 : decode cX0_payOf 4 = .ok (.aload_n 0, 1) := by decide +kernel
theorem dX0_payOf_5 : decode cX0_payOf 5 = .ok (.getfield 18, 3) := by decide +kernel
theorem dX0_payOf_8 : decode cX0_payOf 8 = .ok (.aload_n 0, 1) := by decide +kernel
theorem dX0_payOf_9 : decode cX0_payOf 9 = .ok (.getfield 21, 3) := by decide +kernel
theorem dX0_payOf_12 : decode cX0_payOf 12 = .ok (.iadd, 1) := by decide +kernel
theorem dX0_payOf_13 : decode cX0_payOf 13 = .ok (.imul, 1) := by decide +kernel
theorem dX0_payOf_14 : decode cX0_payOf 14 = .ok (.istore_n 2, 1) := by decide +kernel
theorem dX0_payOf_15 : decode cX0_payOf 15 = .ok (.aload_n 1, 1) := by decide +kernel
theorem dX0_payOf_16 : decode cX0_payOf 16 = .ok (.getfield 100, 3) := by decide +kernel
theorem dX0_payOf_19 : decode cX0_payOf 19 = .ok (.tableswitch 56 1 5 #[33, 37, 41, 50, 54], 33) := by decide +kernel
theorem dX0_payOf_52 : decode cX0_payOf 52 = .ok (.iload_n 2, 1) := by decide +kernel
theorem dX0_payOf_53 : decode cX0_payOf 53 = .ok (.iconst 2, 1) := by decide +kernel
theorem dX0_payOf_54 : decode cX0_payOf 54 = .ok (.iadd, 1) := by decide +kernel
theorem dX0_payOf_55 : decode cX0_payOf 55 = .ok (.ireturn, 1) := by decide +kernel
theorem dX0_payOf_56 : decode cX0_payOf 56 = .ok (.iconst 2, 1) := by decide +kernel
theorem dX0_payOf_57 : decode cX0_payOf 57 = .ok (.iload_n 2, 1) := by decide +kernel
theorem dX0_payOf_58 : decode cX0_payOf 58 = .ok (.imul, 1) := by decide +kernel
theorem dX0_payOf_59 : decode cX0_payOf 59 = .ok (.ireturn, 1) := by decide +kernel
theorem dX0_payOf_60 : decode cX0_payOf 60 = .ok (.iload_n 2, 1) := by decide +kernel
theorem dX0_payOf_61 : decode cX0_payOf 61 = .ok (.aload_n 1, 1) := by decide +kernel
theorem dX0_payOf_62 : decode cX0_payOf 62 = .ok (.getfield 75, 3) := by decide +kernel
theorem dX0_payOf_65 : decode cX0_payOf 65 = .ok (.iconst 2, 1) := by decide +kernel
theorem dX0_payOf_66 : decode cX0_payOf 66 = .ok (.idiv, 1) := by decide +kernel
theorem dX0_payOf_67 : decode cX0_payOf 67 = .ok (.iadd, 1) := by decide +kernel
theorem dX0_payOf_68 : decode cX0_payOf 68 = .ok (.ireturn, 1) := by decide +kernel
theorem dX0_payOf_69 : decode cX0_payOf 69 = .ok (.iload_n 2, 1) := by decide +kernel
theorem dX0_payOf_70 : decode cX0_payOf 70 = .ok (.iconst 2, 1) := by decide +kernel
theorem dX0_payOf_71 : decode cX0_payOf 71 = .ok (.iadd, 1) := by decide +kernel
theorem dX0_payOf_72 : decode cX0_payOf 72 = .ok (.ireturn, 1) := by decide +kernel
theorem dX0_payOf_73 : decode cX0_payOf 73 = .ok (.iconst 0, 1) := by decide +kernel
theorem dX0_payOf_74 : decode cX0_payOf 74 = .ok (.ireturn, 1) := by decide +kernel
theorem dX0_payOf_75 : decode cX0_payOf 75 = .ok (.iload_n 2, 1) := by decide +kernel
theorem dX0_payOf_76 : decode cX0_payOf 76 = .ok (.ireturn, 1) := by decide +kernel
theorem dX0_wearOf_0 : decode cX0_wearOf 0 = .ok (.aload_n 0, 1) := by decide +kernel
theorem dX0_wearOf_1 : decode cX0_wearOf 1 = .ok (.getfield 9, 3) := by decide +kernel
theorem dX0_wearOf_4 : decode cX0_wearOf 4 = .ok (.iconst 5, 1) := by decide +kernel
theorem dX0_wearOf_5 : decode cX0_wearOf 5 = .ok (.irem, 1) := by decide +kernel
theorem dX0_wearOf_6 : decode cX0_wearOf 6 = .ok (.ifCond .ne 7, 3) := by decide +kernel
theorem dX0_wearOf_9 : decode cX0_wearOf 9 = .ok (.iconst 0, 1) := by decide +kernel
theorem dX0_wearOf_10 : decode cX0_wearOf 10 = .ok (.goto 4, 3) := by decide +kernel
theorem dX0_wearOf_13 : decode cX0_wearOf 13 = .ok (.iconst 1, 1) := by decide +kernel
theorem dX0_wearOf_14 : decode cX0_wearOf 14 = .ok (.istore_n 2, 1) := by decide +kernel
theorem dX0_wearOf_15 : decode cX0_wearOf 15 = .ok (.aload_n 1, 1) := by decide +kernel
theorem dX0_wearOf_16 : decode cX0_wearOf 16 = .ok (.getfield 100, 3) := by decide +kernel
theorem dX0_wearOf_19 : decode cX0_wearOf 19 = .ok (.tableswitch 45 1 5 #[33, 45, 35, 37, 43], 33) := by decide +kernel
theorem dX0_wearOf_52 : decode cX0_wearOf 52 = .ok (.iload_n 2, 1) := by decide +kernel
theorem dX0_wearOf_53 : decode cX0_wearOf 53 = .ok (.ireturn, 1) := by decide +kernel
theorem dX0_wearOf_54 : decode cX0_wearOf 54 = .ok (.iconst 0, 1) := by decide +kernel
theorem dX0_wearOf_55 : decode cX0_wearOf 55 = .ok (.ireturn, 1) := by decide +kernel
theorem dX0_wearOf_56 : decode cX0_wearOf 56 = .ok (.iconst 2, 1) := by decide +kernel
theorem dX0_wearOf_57 : decode cX0_wearOf 57 = .ok (.iload_n 2, 1) := by decide +kernel
theorem dX0_wearOf_58 : decode cX0_wearOf 58 = .ok (.imul, 1) := by decide +kernel
theorem dX0_wearOf_59 : decode cX0_wearOf 59 = .ok (.iconst 1, 1) := by decide +kernel
theorem dX0_wearOf_60 : decode cX0_wearOf 60 = .ok (.iadd, 1) := by decide +kernel
theorem dX0_wearOf_61 : decode cX0_wearOf 61 = .ok (.ireturn, 1) := by decide +kernel
theorem dX0_wearOf_62 : decode cX0_wearOf 62 = .ok (.iconst 0, 1) := by decide +kernel
theorem dX0_wearOf_63 : decode cX0_wearOf 63 = .ok (.ireturn, 1) := by decide +kernel
theorem dX0_wearOf_64 : decode cX0_wearOf 64 = .ok (.iconst 1, 1) := by decide +kernel
theorem dX0_wearOf_65 : decode cX0_wearOf 65 = .ok (.ireturn, 1) := by decide +kernel
theorem dX1_init_0 : decode cX1_init 0 = .ok (.aload_n 0, 1) := by decide +kernel
theorem dX1_init_1 : decode cX1_init 1 = .ok (.invokespecial 3, 3) := by decide +kernel
theorem dX1_init_4 : decode cX1_init 4 = .ok (.aload_n 0, 1) := by decide +kernel
theorem dX1_init_5 : decode cX1_init 5 = .ok (.bipush 40, 2) := by decide +kernel
theorem dX1_init_7 : decode cX1_init 7 = .ok (.newarray .long, 2) := by decide +kernel
theorem dX1_init_9 : decode cX1_init 9 = .ok (.putfield 9, 3) := by decide +kernel
theorem dX1_init_12 : decode cX1_init 12 = .ok (.aload_n 0, 1) := by decide +kernel
theorem dX1_init_13 : decode cX1_init 13 = .ok (.iconst 0, 1) := by decide +kernel
theorem dX1_init_14 : decode cX1_init 14 = .ok (.putfield 15, 3) := by decide +kernel
theorem dX1_init_17 : decode cX1_init 17 = .ok (.aload_n 0, 1) := by decide +kernel
theorem dX1_init_18 : decode cX1_init 18 = .ok (.iconst 0, 1) := by decide +kernel
theorem dX1_init_19 : decode cX1_init 19 = .ok (.putfield 19, 3) := by decide +kernel
theorem dX1_init_22 : decode cX1_init 22 = .ok (.return_, 1) := by decide +kernel
theorem dX1_rule_0 : decode cX1_rule 0 = .ok (.aload_n 0, 1) := by decide +kernel
theorem dX1_rule_1 : decode cX1_rule 1 = .ok (.iload_n 1, 1) := by decide +kernel
theorem dX1_rule_2 : decode cX1_rule 2 = .ok (.putfield 15, 3) := by decide +kernel
theorem dX1_rule_5 : decode cX1_rule 5 = .ok (.aload_n 0, 1) := by decide +kernel
theorem dX1_rule_6 : decode cX1_rule 6 = .ok (.iload_n 2, 1) := by decide +kernel
theorem dX1_rule_7 : decode cX1_rule 7 = .ok (.putfield 19, 3) := by decide +kernel
theorem dX1_rule_10 : decode cX1_rule 10 = .ok (.iconst 0, 1) := by decide +kernel
theorem dX1_rule_11 : decode cX1_rule 11 = .ok (.istore_n 3, 1) := by decide +kernel
theorem dX1_rule_12 : decode cX1_rule 12 = .ok (.iload_n 3, 1) := by decide +kernel
theorem dX1_rule_13 : decode cX1_rule 13 = .ok (.bipush 40, 2) := by decide +kernel
theorem dX1_rule_15 : decode cX1_rule 15 = .ok (.if_icmp .ge 16, 3) := by decide +kernel
theorem dX1_rule_18 : decode cX1_rule 18 = .ok (.aload_n 0, 1) := by decide +kernel
theorem dX1_rule_19 : decode cX1_rule 19 = .ok (.getfield 9, 3) := by decide +kernel
theorem dX1_rule_22 : decode cX1_rule 22 = .ok (.iload_n 3, 1) := by decide +kernel
theorem dX1_rule_23 : decode cX1_rule 23 = .ok (.lconst 0, 1) := by decide +kernel
theorem dX1_rule_24 : decode cX1_rule 24 = .ok (.lastore, 1) := by decide +kernel
theorem dX1_rule_25 : decode cX1_rule 25 = .ok (.iinc 3 1, 3) := by decide +kernel
theorem dX1_rule_28 : decode cX1_rule 28 = .ok (.goto (-16), 3) := by decide +kernel
theorem dX1_rule_31 : decode cX1_rule 31 = .ok (.return_, 1) := by decide +kernel
theorem dX1_isMissing_0 : decode cX1_isMissing 0 = .ok (.aload_n 0, 1) := by decide +kernel
theorem dX1_isMissing_1 : decode cX1_isMissing 1 = .ok (.getfield 15, 3) := by decide +kernel
theorem dX1_isMissing_4 : decode cX1_isMissing 4 = .ok (.ifCond .ne 7, 3) := by decide +kernel
theorem dX1_isMissing_7 : decode cX1_isMissing 7 = .ok (.iconst 1, 1) := by decide +kernel
theorem dX1_isMissing_8 : decode cX1_isMissing 8 = .ok (.goto 4, 3) := by decide +kernel
theorem dX1_isMissing_11 : decode cX1_isMissing 11 = .ok (.iconst 0, 1) := by decide +kernel
theorem dX1_isMissing_12 : decode cX1_isMissing 12 = .ok (.ireturn, 1) := by decide +kernel
theorem dX1_hasPart_0 : decode cX1_hasPart 0 = .ok (.iload_n 1, 1) := by decide +kernel
theorem dX1_hasPart_1 : decode cX1_hasPart 1 = .ok (.ifCond .lt 29, 3) := by decide +kernel
theorem dX1_hasPart_4 : decode cX1_hasPart 4 = .ok (.iload_n 2, 1) := by decide +kernel
theorem dX1_hasPart_5 : decode cX1_hasPart 5 = .ok (.ifCond .lt 25, 3) := by decide +kernel
theorem dX1_hasPart_8 : decode cX1_hasPart 8 = .ok (.iload_n 2, 1) := by decide +kernel
theorem dX1_hasPart_9 : decode cX1_hasPart 9 = .ok (.aload_n 0, 1) := by decide +kernel
theorem dX1_hasPart_10 : decode cX1_hasPart 10 = .ok (.getfield 19, 3) := by decide +kernel
theorem dX1_hasPart_13 : decode cX1_hasPart 13 = .ok (.if_icmp .gt 17, 3) := by decide +kernel
theorem dX1_hasPart_16 : decode cX1_hasPart 16 = .ok (.iload_n 1, 1) := by decide +kernel
theorem dX1_hasPart_17 : decode cX1_hasPart 17 = .ok (.aload_n 0, 1) := by decide +kernel
theorem dX1_hasPart_18 : decode cX1_hasPart 18 = .ok (.getfield 19, 3) := by decide +kernel
theorem dX1_hasPart_21 : decode cX1_hasPart 21 = .ok (.iload_n 2, 1) := by decide +kernel
theorem dX1_hasPart_22 : decode cX1_hasPart 22 = .ok (.isub, 1) := by decide +kernel
theorem dX1_hasPart_23 : decode cX1_hasPart 23 = .ok (.if_icmp .gt 7, 3) := by decide +kernel
theorem dX1_hasPart_26 : decode cX1_hasPart 26 = .ok (.iconst 1, 1) := by decide +kernel
theorem dX1_hasPart_27 : decode cX1_hasPart 27 = .ok (.goto 4, 3) := by decide +kernel
theorem dX1_hasPart_30 : decode cX1_hasPart 30 = .ok (.iconst 0, 1) := by decide +kernel
theorem dX1_hasPart_31 : decode cX1_hasPart 31 = .ok (.ireturn, 1) := by decide +kernel
theorem dX1_put_0 : decode cX1_put 0 = .ok (.aload_n 0, 1) := by decide +kernel
theorem dX1_put_1 : decode cX1_put 1 = .ok (.getfield 15, 3) := by decide +kernel
theorem dX1_put_4 : decode cX1_put 4 = .ok (.bipush 8, 2) := by decide +kernel
theorem dX1_put_6 : decode cX1_put 6 = .ok (.if_icmp .ne 16, 3) := by decide +kernel
theorem dX1_put_9 : decode cX1_put 9 = .ok (.aload_n 0, 1) := by decide +kernel
theorem dX1_put_10 : decode cX1_put 10 = .ok (.getfield 9, 3) := by decide +kernel
theorem dX1_put_13 : decode cX1_put 13 = .ok (.iload_n 1, 1) := by decide +kernel
theorem dX1_put_14 : decode cX1_put 14 = .ok (.lload_n 2, 1) := by decide +kernel
theorem dX1_put_15 : decode cX1_put 15 = .ok (.l2i, 1) := by decide +kernel
theorem dX1_put_16 : decode cX1_put 16 = .ok (.i2b, 1) := by decide +kernel
theorem dX1_put_17 : decode cX1_put 17 = .ok (.i2l, 1) := by decide +kernel
theorem dX1_put_18 : decode cX1_put 18 = .ok (.lastore, 1) := by decide +kernel
theorem dX1_put_19 : decode cX1_put 19 = .ok (.goto 32, 3) := by decide +kernel
theorem dX1_put_22 : decode cX1_put 22 = .ok (.aload_n 0, 1) := by decide +kernel
theorem dX1_put_23 : decode cX1_put 23 = .ok (.getfield 15, 3) := by decide +kernel
theorem dX1_put_26 : decode cX1_put 26 = .ok (.bipush 16, 2) := by decide +kernel
theorem dX1_put_28 : decode cX1_put 28 = .ok (.if_icmp .ne 16, 3) := by decide +kernel
theorem dX1_put_31 : decode cX1_put 31 = .ok (.aload_n 0, 1) := by decide +kernel
theorem dX1_put_32 : decode cX1_put 32 = .ok (.getfield 9, 3) := by decide +kernel
theorem dX1_put_35 : decode cX1_put 35 = .ok (.iload_n 1, 1) := by decide +kernel
theorem dX1_put_36 : decode cX1_put 36 = .ok (.lload_n 2, 1) := by decide +kernel
theorem dX1_put_37 : decode cX1_put 37 = .ok (.l2i, 1) := by decide +kernel
theorem dX1_put_38 : decode cX1_put 38 = .ok (.i2s, 1) := by decide +kernel
theorem dX1_put_39 : decode cX1_put 39 = .ok (.i2l, 1) := by decide +kernel
theorem dX1_put_40 : decode cX1_put 40 = .ok (.lastore, 1) := by decide +kernel
theorem dX1_put_41 : decode cX1_put 41 = .ok (.goto 10, 3) := by decide +kernel
theorem dX1_put_44 : decode cX1_put 44 = .ok (.aload_n 0, 1) := by decide +kernel
theorem dX1_put_45 : decode cX1_put 45 = .ok (.getfield 9, 3) := by decide +kernel
theorem dX1_put_48 : decode cX1_put 48 = .ok (.iload_n 1, 1) := by decide +kernel
theorem dX1_put_49 : decode cX1_put 49 = .ok (.lload_n 2, 1) := by decide +kernel
theorem dX1_put_50 : decode cX1_put 50 = .ok (.lastore, 1) := by decide +kernel
theorem dX1_put_51 : decode cX1_put 51 = .ok (.return_, 1) := by decide +kernel
theorem dX2_init_0 : decode cX2_init 0 = .ok (.aload_n 0, 1) := by decide +kernel
theorem dX2_init_1 : decode cX2_init 1 = .ok (.invokespecial 3, 3) := by decide +kernel
theorem dX2_init_4 : decode cX2_init 4 = .ok (.aload_n 0, 1) := by decide +kernel
theorem dX2_init_5 : decode cX2_init 5 = .ok (.bipush 120, 2) := by decide +kernel
theorem dX2_init_7 : decode cX2_init 7 = .ok (.newarray .byte, 2) := by decide +kernel
theorem dX2_init_9 : decode cX2_init 9 = .ok (.putfield 9, 3) := by decide +kernel
theorem dX2_init_12 : decode cX2_init 12 = .ok (.aload_n 0, 1) := by decide +kernel
theorem dX2_init_13 : decode cX2_init 13 = .ok (.iconst 0, 1) := by decide +kernel
theorem dX2_init_14 : decode cX2_init 14 = .ok (.putfield 15, 3) := by decide +kernel
theorem dX2_init_17 : decode cX2_init 17 = .ok (.aload_n 0, 1) := by decide +kernel
theorem dX2_init_18 : decode cX2_init 18 = .ok (.iconst 0, 1) := by decide +kernel
theorem dX2_init_19 : decode cX2_init 19 = .ok (.putfield 19, 3) := by decide +kernel
theorem dX2_init_22 : decode cX2_init 22 = .ok (.aload_n 0, 1) := by decide +kernel
theorem dX2_init_23 : decode cX2_init 23 = .ok (.iconst 0, 1) := by decide +kernel
theorem dX2_init_24 : decode cX2_init 24 = .ok (.putfield 22, 3) := by decide +kernel
theorem dX2_init_27 : decode cX2_init 27 = .ok (.aload_n 0, 1) := by decide +kernel
theorem dX2_init_28 : decode cX2_init 28 = .ok (.iconst 0, 1) := by decide +kernel
theorem dX2_init_29 : decode cX2_init 29 = .ok (.putfield 25, 3) := by decide +kernel
theorem dX2_init_32 : decode cX2_init 32 = .ok (.aload_n 0, 1) := by decide +kernel
theorem dX2_init_33 : decode cX2_init 33 = .ok (.iconst 0, 1) := by decide +kernel
theorem dX2_init_34 : decode cX2_init 34 = .ok (.putfield 28, 3) := by decide +kernel
theorem dX2_init_37 : decode cX2_init 37 = .ok (.return_, 1) := by decide +kernel
theorem dX2_append_0 : decode cX2_append 0 = .ok (.aload_n 0, 1) := by decide +kernel
theorem dX2_append_1 : decode cX2_append 1 = .ok (.getfield 9, 3) := by decide +kernel
theorem dX2_append_4 : decode cX2_append 4 = .ok (.aload_n 0, 1) := by decide +kernel
theorem dX2_append_5 : decode cX2_append 5 = .ok (.getfield 15, 3) := by decide +kernel
theorem dX2_append_8 : decode cX2_append 8 = .ok (.iload_n 1, 1) := by decide +kernel
theorem dX2_append_9 : decode cX2_append 9 = .ok (.bastore, 1) := by decide +kernel
theorem dX2_append_10 : decode cX2_append 10 = .ok (.aload_n 0, 1) := by decide +kernel
theorem dX2_append_11 : decode cX2_append 11 = .ok (.dup, 1) := by decide +kernel
theorem dX2_append_12 : decode cX2_append 12 = .ok (.getfield 15, 3) := by decide +kernel
theorem dX2_append_15 : decode cX2_append 15 = .ok (.iconst 1, 1) := by decide +kernel
theorem dX2_append_16 : decode cX2_append 16 = .ok (.iadd, 1) := by decide +kernel
theorem dX2_append_17 : decode cX2_append 17 = .ok (.putfield 15, 3) := by decide +kernel
theorem dX2_append_20 : decode cX2_append 20 = .ok (.return_, 1) := by decide +kernel
set_option maxRecDepth 20000 in
theorem ggX2_tellOnto_X2_advance : GoodIn wsX2_tellOnto wsX2_advance := goodIn_r _ [8, 1, 3, 9, 2, 10, 11, 12, 13, 14, 15, 16, 17, 7, 18, 19, 20, 21, 22, 23, 24, 25, 123, 124, 125, 126, 127, 128] (by decide +kernel) (by decide +kernel)
set_option maxRecDepth 20000 in
theorem gX2_tellOnto_X2_advance : GoodIn wsX2_tellOnto (wsV RX2 31 RX2 yX2_advance wsX2_advance) := goodIn_app (goodIn_of _ (by decide +kernel)) ggX2_tellOnto_X2_advance
set_option maxRecDepth 20000 in
theorem ggX2_tellOnto_X2_takeItem : GoodIn wsX2_tellOnto wsX2_takeItem := goodIn_r _ [29, 30, 31, 32, 7, 33, 34, 35, 36, 37, 38, 39, 40, 2, 1, 3, 41, 42, 43, 44, 45, 46, 47, 48, 49, 50, 51, 52, 15, 16, 17, 18, 9, 19, 53, 54, 55, 56, 57, 58, 59, 60, 61, 62, 63, 64, 65, 66, 67, 68, 69, 70, 71, 72, 73, 74, 75, 76, 77, 78, 79, 80, 81, 82, 83, 84, 85, 86, 87, 88, 89, 90, 91, 92, 93, 94, 95, 96, 97, 98, 4, 5, 6, 8, 10, 11, 12, 13, 14, 20, 21, 22, 23, 24, 25, 99, 100, 101, 102, 103, 104, 105, 106, 107, 108, 109, 110, 111, 112, 113, 114, 115, 116, 117, 118, 119, 120, 121, 122, 129, 130, 131, 132, 133, 134, 123, 124, 125, 126, 127, 128, 135, 136, 137, 138, 139, 140, 141, 142] (by decide +kernel) (by decide +kernel)
set_option maxRecDepth 20000 in
theorem gX2_tellOnto_X2_takeItem : GoodIn wsX2_tellOnto (wsV RX2 34 RX2 yX2_takeItem wsX2_takeItem) := goodIn_app (goodIn_of _ (by decide +kernel)) ggX2_tellOnto_X2_takeItem
theorem dX2_tellOnto_0 : decode cX2_tellOnto 0 = .ok (.aload_n 0, 1) := by decide +kernel
theorem dX2_tellOnto_1 : decode cX2_tellOnto 1 = .ok (.iconst 0, 1) := by decide +kernel
theorem dX2_tellOnto_2 : decode cX2_tellOnto 2 = .ok (.putfield 25, 3) := by decide +kernel
theorem dX2_tellOnto_5 : decode cX2_tellOnto 5 = .ok (.aload_n 0, 1) := by decide +kernel
theorem dX2_tellOnto_6 : decode cX2_tellOnto 6 = .ok (.invokevirtual 31, 3) := by decide +kernel
theorem dX2_tellOnto_9 : decode cX2_tellOnto 9 = .ok (.iconst 0, 1) := by decide +kernel
theorem dX2_tellOnto_10 : decode cX2_tellOnto 10 = .ok (.istore_n 2, 1) := by decide +kernel
theorem dX2_tellOnto_11 : decode cX2_tellOnto 11 = .ok (.iload_n 2, 1) := by decide +kernel
theorem dX2_tellOnto_12 : decode cX2_tellOnto 12 = .ok (.bipush 120, 2) := by decide +kernel
theorem dX2_tellOnto_14 : decode cX2_tellOnto 14 = .ok (.if_icmp .ge 41, 3) := by decide +kernel
theorem dX2_tellOnto_17 : decode cX2_tellOnto 17 = .ok (.aload_n 0, 1) := by decide +kernel
theorem dX2_tellOnto_18 : decode cX2_tellOnto 18 = .ok (.aload_n 1, 1) := by decide +kernel
theorem dX2_tellOnto_19 : decode cX2_tellOnto 19 = .ok (.invokevirtual 34, 3) := by decide +kernel
theorem dX2_tellOnto_22 : decode cX2_tellOnto 22 = .ok (.ifCond .eq 33, 3) := by decide +kernel
theorem dX2_tellOnto_25 : decode cX2_tellOnto 25 = .ok (.iinc 2 1, 3) := by decide +kernel
theorem dX2_tellOnto_28 : decode cX2_tellOnto 28 = .ok (.aload_n 0, 1) := by decide +kernel
theorem dX2_tellOnto_29 : decode cX2_tellOnto 29 = .ok (.getfield 19, 3) := by decide +kernel
theorem dX2_tellOnto_32 : decode cX2_tellOnto 32 = .ok (.ifCond .ne 5, 3) := by decide +kernel
theorem dX2_tellOnto_35 : decode cX2_tellOnto 35 = .ok (.iload_n 2, 1) := by decide +kernel
theorem dX2_tellOnto_36 : decode cX2_tellOnto 36 = .ok (.ireturn, 1) := by decide +kernel
theorem dX2_tellOnto_37 : decode cX2_tellOnto 37 = .ok (.aload_n 0, 1) := by decide +kernel
theorem dX2_tellOnto_38 : decode cX2_tellOnto 38 = .ok (.getfield 19, 3) := by decide +kernel
theorem dX2_tellOnto_41 : decode cX2_tellOnto 41 = .ok (.iconst 3, 1) := by decide +kernel
theorem dX2_tellOnto_42 : decode cX2_tellOnto 42 = .ok (.if_icmp .eq 6, 3) := by decide +kernel
theorem dX2_tellOnto_45 : decode cX2_tellOnto 45 = .ok (.goto 10, 3) := by decide +kernel
theorem dX2_tellOnto_48 : decode cX2_tellOnto 48 = .ok (.aload_n 0, 1) := by decide +kernel
theorem dX2_tellOnto_49 : decode cX2_tellOnto 49 = .ok (.invokevirtual 31, 3) := by decide +kernel
theorem dX2_tellOnto_52 : decode cX2_tellOnto 52 = .ok (.goto (-41), 3) := by decide +kernel
theorem dX2_tellOnto_55 : decode cX2_tellOnto 55 = .ok (.iconst (-1), 1) := by decide +kernel
theorem dX2_tellOnto_56 : decode cX2_tellOnto 56 = .ok (.aload_n 0, 1) := by decide +kernel
theorem dX2_tellOnto_57 : decode cX2_tellOnto 57 = .ok (.getfield 22, 3) := by decide +kernel
theorem dX2_tellOnto_60 : decode cX2_tellOnto 60 = .ok (.isub, 1) := by decide +kernel
theorem dX2_tellOnto_61 : decode cX2_tellOnto 61 = .ok (.ireturn, 1) := by decide +kernel
set_option maxRecDepth 20000 in
theorem ggX2_takeItem_X2_kindNamed : GoodIn wsX2_takeItem wsX2_kindNamed := goodIn_r _ [5, 6, 7, 4, 8, 9, 10, 11, 12, 13, 14, 15, 16, 17, 18, 19, 20, 21, 22, 23, 24, 25, 26, 27, 28, 29, 30, 31, 32, 33, 34, 35, 36, 37, 38, 39, 40, 41, 42, 43, 44, 45, 46, 47, 48, 49, 50, 51, 52, 53, 54, 55, 56, 57, 58, 59, 60, 61, 62, 63, 64, 65, 66, 67, 68, 69, 70, 125, 126, 127, 128, 129, 130] (by decide +kernel) (by decide +kernel)
set_option maxRecDepth 20000 in
theorem gX2_takeItem_X2_kindNamed : GoodIn wsX2_takeItem (wsV RX2 38 RX2 yX2_kindNamed wsX2_kindNamed) := goodIn_app (goodIn_of _ (by decide +kernel)) ggX2_takeItem_X2_kindNamed
set_option maxRecDepth 20000 in
theorem ggX2_takeItem_X2_takeWalker : GoodIn wsX2_takeItem wsX2_takeWalker := goodIn_r _ [74, 75, 76, 77, 78, 79, 80, 81, 82, 4, 83, 14, 15, 32, 13, 84, 85, 86, 87, 88, 28, 29, 30, 31, 33, 89, 90, 91, 92, 93, 94, 95, 96, 97, 98, 99, 100, 101, 102, 103, 104, 105, 106, 107, 108, 109, 110, 111, 112, 113, 114, 9, 10, 11, 12, 16, 17, 18, 19, 20, 21, 22, 23, 24, 25, 26, 27, 34, 35, 36, 37, 38, 39, 40, 41, 42, 43, 44, 45, 46, 47, 48, 49, 50, 51, 52, 53, 54, 55, 56, 57, 58, 59, 60, 61, 62, 63, 64, 65, 66, 67, 68, 69, 70, 115, 116, 117, 118, 131, 132, 133, 134, 135, 136, 137, 138, 119, 120, 121, 122, 123, 124, 125, 126, 127, 128, 129, 130] (by decide +kernel) (by decide +kernel)
set_option maxRecDepth 20000 in
theorem gX2_takeItem_X2_takeWalker : GoodIn wsX2_takeItem (wsV RX2 42 RX2 yX2_takeWalker wsX2_takeWalker) := goodIn_app (goodIn_of _ (by decide +kernel)) ggX2_takeItem_X2_takeWalker
set_option maxRecDepth 20000 in
theorem ggX2_takeItem_X2_takeWord : GoodIn wsX2_takeItem wsX2_takeWord := goodIn_r _ [114, 9, 10, 11, 4, 12, 13, 14, 15, 16, 17, 18, 19, 20, 21, 22, 23, 24, 25, 26, 27, 28, 29, 30, 31, 32, 33, 34, 35, 36, 37, 38, 39, 40, 41, 42, 43, 44, 45, 46, 47, 48, 49, 50, 51, 52, 53, 54, 55, 56, 57, 58, 59, 60, 61, 62, 63, 64, 65, 66, 67, 68, 69, 70, 80, 81, 82, 83, 84, 85, 86, 87, 88, 89, 90, 91, 92, 93, 94, 125, 126, 127, 128, 129, 130] (by decide +kernel) (by decide +kernel)
set_option maxRecDepth 20000 in
theorem gX2_takeItem_X2_takeWord : GoodIn wsX2_takeItem (wsV RX2 48 RX2 yX2_takeWord wsX2_takeWord) := goodIn_app (goodIn_of _ (by decide +kernel)) ggX2_takeItem_X2_takeWord
set_option maxRecDepth 20000 in
theorem ggX2_takeItem_X2_takeNumber : GoodIn wsX2_takeItem wsX2_takeNumber := goodIn_r _ [118, 13, 84, 80, 81, 82, 4, 83, 14, 15, 32, 85, 86, 87, 88, 28, 29, 30, 31, 33, 89, 90, 91, 92, 93, 94, 125, 126, 127, 128, 129, 130] (by decide +kernel) (by decide +kernel)
set_option maxRecDepth 20000 in
theorem gX2_takeItem_X2_takeNumber : GoodIn wsX2_takeItem (wsV RX2 52 RX2 yX2_takeNumber wsX2_takeNumber) := goodIn_app (goodIn_of _ (by decide +kernel)) ggX2_takeItem_X2_takeNumber
theorem dX2_takeItem_0 : decode cX2_takeItem 0 = .ok (.aload_n 0, 1) := by decide +kernel
theorem dX2_takeItem_1 : decode cX2_takeItem 1 = .ok (.invokevirtual 38, 3) := by decide +kernel
theorem dX2_takeItem_4 : decode cX2_takeItem 4 = .ok (.istore_n 2, 1) := by decide +kernel
theorem dX2_takeItem_5 : decode cX2_takeItem 5 = .ok (.iload_n 2, 1) := by decide +kernel
theorem dX2_takeItem_6 : decode cX2_takeItem 6 = .ok (.ifCond .lt 10, 3) := by decide +kernel
theorem dX2_takeItem_9 : decode cX2_takeItem 9 = .ok (.aload_n 0, 1) := by decide +kernel
theorem dX2_takeItem_10 : decode cX2_takeItem 10 = .ok (.aload_n 1, 1) := by decide +kernel
theorem dX2_takeItem_11 : decode cX2_takeItem 11 = .ok (.iload_n 2, 1) := by decide +kernel
theorem dX2_takeItem_12 : decode cX2_takeItem 12 = .ok (.invokevirtual 42, 3) := by decide +kernel
theorem dX2_takeItem_15 : decode cX2_takeItem 15 = .ok (.ireturn, 1) := by decide +kernel
theorem dX2_takeItem_16 : decode cX2_takeItem 16 = .ok (.aload_n 0, 1) := by decide +kernel
theorem dX2_takeItem_17 : decode cX2_takeItem 17 = .ok (.ldc 46, 2) := by decide +kernel
theorem dX2_takeItem_19 : decode cX2_takeItem 19 = .ok (.invokevirtual 48, 3) := by decide +kernel
theorem dX2_takeItem_22 : decode cX2_takeItem 22 = .ok (.ifCond .eq 27, 3) := by decide +kernel
theorem dX2_takeItem_25 : decode cX2_takeItem 25 = .ok (.aload_n 1, 1) := by decide +kernel
theorem dX2_takeItem_26 : decode cX2_takeItem 26 = .ok (.aload_n 0, 1) := by decide +kernel
theorem dX2_takeItem_27 : decode cX2_takeItem 27 = .ok (.sipush 9999, 3) := by decide +kernel
theorem dX2_takeItem_30 : decode cX2_takeItem 30 = .ok (.invokevirtual 52, 3) := by decide +kernel
theorem dX2_takeItem_33 : decode cX2_takeItem 33 = .ok (.putfield 56, 3) := by decide +kernel
theorem dX2_takeItem_36 : decode cX2_takeItem 36 = .ok (.aload_n 1, 1) := by decide +kernel
theorem dX2_takeItem_37 : decode cX2_takeItem 37 = .ok (.getfield 56, 3) := by decide +kernel
theorem dX2_takeItem_40 : decode cX2_takeItem 40 = .ok (.ifCond .lt 7, 3) := by decide +kernel
theorem dX2_takeItem_43 : decode cX2_takeItem 43 = .ok (.iconst 1, 1) := by decide +kernel
theorem dX2_takeItem_44 : decode cX2_takeItem 44 = .ok (.goto 4, 3) := by decide +kernel
theorem dX2_takeItem_47 : decode cX2_takeItem 47 = .ok (.iconst 0, 1) := by decide +kernel
theorem dX2_takeItem_48 : decode cX2_takeItem 48 = .ok (.ireturn, 1) := by decide +kernel
theorem dX2_takeItem_49 : decode cX2_takeItem 49 = .ok (.aload_n 0, 1) := by decide +kernel
theorem dX2_takeItem_50 : decode cX2_takeItem 50 = .ok (.ldc 60, 2) := by decide +kernel
theorem dX2_takeItem_52 : decode cX2_takeItem 52 = .ok (.invokevirtual 48, 3) := by decide +kernel
theorem dX2_takeItem_55 : decode cX2_takeItem 55 = .ok (.ifCond .eq 26, 3) := by decide +kernel
theorem dX2_takeItem_58 : decode cX2_takeItem 58 = .ok (.aload_n 1, 1) := by decide +kernel
theorem dX2_takeItem_59 : decode cX2_takeItem 59 = .ok (.aload_n 0, 1) := by decide +kernel
theorem dX2_takeItem_60 : decode cX2_takeItem 60 = .ok (.bipush 20, 2) := by decide +kernel
theorem dX2_takeItem_62 : decode cX2_takeItem 62 = .ok (.invokevirtual 52, 3) := by decide +kernel
theorem dX2_takeItem_65 : decode cX2_takeItem 65 = .ok (.putfield 62, 3) := by decide +kernel
theorem dX2_takeItem_68 : decode cX2_takeItem 68 = .ok (.aload_n 1, 1) := by decide +kernel
theorem dX2_takeItem_69 : decode cX2_takeItem 69 = .ok (.getfield 62, 3) := by decide +kernel
theorem dX2_takeItem_72 : decode cX2_takeItem 72 = .ok (.ifCond .lt 7, 3) := by decide +kernel
theorem dX2_takeItem_75 : decode cX2_takeItem 75 = .ok (.iconst 1, 1) := by decide +kernel
theorem dX2_takeItem_76 : decode cX2_takeItem 76 = .ok (.goto 4, 3) := by decide +kernel
theorem dX2_takeItem_79 : decode cX2_takeItem 79 = .ok (.iconst 0, 1) := by decide +kernel
theorem dX2_takeItem_80 : decode cX2_takeItem 80 = .ok (.ireturn, 1) := by decide +kernel
theorem dX2_takeItem_81 : decode cX2_takeItem 81 = .ok (.aload_n 0, 1) := by decide +kernel
theorem dX2_takeItem_82 : decode cX2_takeItem 82 = .ok (.ldc 64, 2) := by decide +kernel
theorem dX2_takeItem_84 : decode cX2_takeItem 84 = .ok (.invokevirtual 48, 3) := by decide +kernel
theorem dX2_takeItem_87 : decode cX2_takeItem 87 = .ok (.ifCond .eq 10, 3) := by decide +kernel
theorem dX2_takeItem_90 : decode cX2_takeItem 90 = .ok (.aload_n 1, 1) := by decide +kernel
theorem dX2_takeItem_91 : decode cX2_takeItem 91 = .ok (.iconst 1, 1) := by decide +kernel
theorem dX2_takeItem_92 : decode cX2_takeItem 92 = .ok (.putfield 66, 3) := by decide +kernel
theorem dX2_takeItem_95 : decode cX2_takeItem 95 = .ok (.iconst 1, 1) := by decide +kernel
theorem dX2_takeItem_96 : decode cX2_takeItem 96 = .ok (.ireturn, 1) := by decide +kernel
theorem dX2_takeItem_97 : decode cX2_takeItem 97 = .ok (.aload_n 0, 1) := by decide +kernel
theorem dX2_takeItem_98 : decode cX2_takeItem 98 = .ok (.ldc 68, 2) := by decide +kernel
theorem dX2_takeItem_100 : decode cX2_takeItem 100 = .ok (.invokevirtual 48, 3) := by decide +kernel
theorem dX2_takeItem_103 : decode cX2_takeItem 103 = .ok (.ifCond .eq 10, 3) := by decide +kernel
theorem dX2_takeItem_106 : decode cX2_takeItem 106 = .ok (.aload_n 1, 1) := by decide +kernel
theorem dX2_takeItem_107 : decode cX2_takeItem 107 = .ok (.iconst 0, 1) := by decide +kernel
theorem dX2_takeItem_108 : decode cX2_takeItem 108 = .ok (.putfield 66, 3) := by decide +kernel
theorem dX2_takeItem_111 : decode cX2_takeItem 111 = .ok (.iconst 1, 1) := by decide +kernel
theorem dX2_takeItem_112 : decode cX2_takeItem 112 = .ok (.ireturn, 1) := by decide +kernel
theorem dX2_takeItem_113 : decode cX2_takeItem 113 = .ok (.iconst 0, 1) := by decide +kernel
theorem dX2_takeItem_114 : decode cX2_takeItem 114 = .ok (.ireturn, 1) := by decide +kernel
set_option maxRecDepth 20000 in
theorem ggX2_takeWalker_X0_isFull : GoodIn wsX2_takeWalker wsX0_isFull := goodIn_r _ [4, 5, 116, 117, 118, 119, 120, 121] (by decide +kernel) (by decide +kernel)
set_option maxRecDepth 20000 in
theorem gX2_takeWalker_X0_isFull_n70 : GoodIn wsX2_takeWalker (wsX0_isFull) := ggX2_takeWalker_X0_isFull
set_option maxRecDepth 20000 in
theorem ggX2_takeWalker_X2_advance : GoodIn wsX2_takeWalker wsX2_advance := goodIn_r _ [10, 11, 12, 13, 14, 15, 16, 17, 18, 19, 20, 21, 22, 9, 23, 24, 25, 26, 27, 28, 29, 30, 122, 123, 124, 125, 126, 127] (by decide +kernel) (by decide +kernel)
set_option maxRecDepth 20000 in
theorem gX2_takeWalker_X2_advance : GoodIn wsX2_takeWalker (wsV RX2 31 RX2 yX2_advance wsX2_advance) := goodIn_app (goodIn_of _ (by decide +kernel)) ggX2_takeWalker_X2_advance
set_option maxRecDepth 20000 in
theorem ggX2_takeWalker_X0_join : GoodIn wsX2_takeWalker wsX0_join := goodIn_r _ [33, 34, 5, 35, 36, 37, 38, 39, 40, 41, 42, 43, 44, 45, 46, 116, 117, 118, 119, 120, 121, 108, 109, 110, 111, 112, 113, 114, 115] (by decide +kernel) (by decide +kernel)
set_option maxRecDepth 20000 in
theorem gX2_takeWalker_X0_join_n74 : GoodIn wsX2_takeWalker (wsX0_join) := ggX2_takeWalker_X0_join
set_option maxRecDepth 20000 in
theorem ggX2_takeWalker_X2_takeWord : GoodIn wsX2_takeWalker wsX2_takeWord := goodIn_r _ [50, 51, 52, 53, 9, 54, 14, 11, 12, 55, 56, 57, 58, 59, 60, 61, 62, 63, 64, 65, 66, 20, 21, 22, 23, 13, 24, 67, 68, 69, 70, 71, 72, 73, 74, 75, 76, 77, 78, 79, 80, 81, 82, 83, 84, 85, 86, 87, 88, 89, 90, 91, 92, 93, 94, 95, 96, 97, 98, 99, 100, 101, 102, 103, 6, 7, 8, 10, 15, 16, 17, 18, 19, 25, 26, 27, 28, 29, 30, 122, 123, 124, 125, 126, 127] (by decide +kernel) (by decide +kernel)
set_option maxRecDepth 20000 in
theorem gX2_takeWalker_X2_takeWord : GoodIn wsX2_takeWalker (wsV RX2 48 RX2 yX2_takeWord wsX2_takeWord) := goodIn_app (goodIn_of _ (by decide +kernel)) ggX2_takeWalker_X2_takeWord
set_option maxRecDepth 20000 in
theorem ggX2_takeWalker_X2_takeNumber : GoodIn wsX2_takeWalker wsX2_takeNumber := goodIn_r _ [107, 14, 15, 6, 7, 8, 9, 10, 11, 12, 13, 16, 17, 18, 19, 20, 21, 22, 23, 24, 25, 26, 27, 28, 29, 30, 122, 123, 124, 125, 126, 127] (by decide +kernel) (by decide +kernel)
set_option maxRecDepth 20000 in
theorem gX2_takeWalker_X2_takeNumber : GoodIn wsX2_takeWalker (wsV RX2 52 RX2 yX2_takeNumber wsX2_takeNumber) := goodIn_app (goodIn_of _ (by decide +kernel)) ggX2_takeWalker_X2_takeNumber
theorem dX2_takeWalker_0 : decode cX2_takeWalker 0 = .ok (.aload_n 1, 1) := by decide +kernel
theorem dX2_takeWalker_1 : decode cX2_takeWalker 1 = .ok (.invokevirtual 70, 3) := by decide +kernel
theorem dX2_takeWalker_4 : decode cX2_takeWalker 4 = .ok (.ifCond .eq 5, 3) := by decide +kernel
theorem dX2_takeWalker_7 : decode cX2_takeWalker 7 = .ok (.iconst 0, 1) := by decide +kernel
theorem dX2_takeWalker_8 : decode cX2_takeWalker 8 = .ok (.ireturn, 1) := by decide +kernel
theorem dX2_takeWalker_9 : decode cX2_takeWalker 9 = .ok (.aload_n 0, 1) := by decide +kernel
theorem dX2_takeWalker_10 : decode cX2_takeWalker 10 = .ok (.invokevirtual 31, 3) := by decide +kernel
theorem dX2_takeWalker_13 : decode cX2_takeWalker 13 = .ok (.aload_n 1, 1) := by decide +kernel
theorem dX2_takeWalker_14 : decode cX2_takeWalker 14 = .ok (.iload_n 2, 1) := by decide +kernel
theorem dX2_takeWalker_15 : decode cX2_takeWalker 15 = .ok (.iconst 0, 1) := by decide +kernel
theorem dX2_takeWalker_16 : decode cX2_takeWalker 16 = .ok (.invokevirtual 74, 3) := by decide +kernel
theorem dX2_takeWalker_19 : decode cX2_takeWalker 19 = .ok (.astore_n 3, 1) := by decide +kernel
theorem dX2_takeWalker_20 : decode cX2_takeWalker 20 = .ok (.aload_n 0, 1) := by decide +kernel
theorem dX2_takeWalker_21 : decode cX2_takeWalker 21 = .ok (.ldc 78, 2) := by decide +kernel
theorem dX2_takeWalker_23 : decode cX2_takeWalker 23 = .ok (.invokevirtual 48, 3) := by decide +kernel
theorem dX2_takeWalker_26 : decode cX2_takeWalker 26 = .ok (.ifCond .eq 22, 3) := by decide +kernel
theorem dX2_takeWalker_29 : decode cX2_takeWalker 29 = .ok (.aload_n 3, 1) := by decide +kernel
theorem dX2_takeWalker_30 : decode cX2_takeWalker 30 = .ok (.aload_n 0, 1) := by decide +kernel
theorem dX2_takeWalker_31 : decode cX2_takeWalker 31 = .ok (.bipush 12, 2) := by decide +kernel
theorem dX2_takeWalker_33 : decode cX2_takeWalker 33 = .ok (.invokevirtual 52, 3) := by decide +kernel
theorem dX2_takeWalker_36 : decode cX2_takeWalker 36 = .ok (.putfield 80, 3) := by decide +kernel
theorem dX2_takeWalker_39 : decode cX2_takeWalker 39 = .ok (.aload_n 3, 1) := by decide +kernel
theorem dX2_takeWalker_40 : decode cX2_takeWalker 40 = .ok (.getfield 80, 3) := by decide +kernel
theorem dX2_takeWalker_43 : decode cX2_takeWalker 43 = .ok (.ifCond .ge 5, 3) := by decide +kernel
theorem dX2_takeWalker_46 : decode cX2_takeWalker 46 = .ok (.iconst 0, 1) := by decide +kernel
theorem dX2_takeWalker_47 : decode cX2_takeWalker 47 = .ok (.ireturn, 1) := by decide +kernel
theorem dX2_takeWalker_48 : decode cX2_takeWalker 48 = .ok (.aload_n 0, 1) := by decide +kernel
theorem dX2_takeWalker_49 : decode cX2_takeWalker 49 = .ok (.ldc 85, 2) := by decide +kernel
theorem dX2_takeWalker_51 : decode cX2_takeWalker 51 = .ok (.invokevirtual 48, 3) := by decide +kernel
theorem dX2_takeWalker_54 : decode cX2_takeWalker 54 = .ok (.ifCond .eq 8, 3) := by decide +kernel
theorem dX2_takeWalker_57 : decode cX2_takeWalker 57 = .ok (.aload_n 3, 1) := by decide +kernel
theorem dX2_takeWalker_58 : decode cX2_takeWalker 58 = .ok (.iconst 0, 1) := by decide +kernel
theorem dX2_takeWalker_59 : decode cX2_takeWalker 59 = .ok (.putfield 87, 3) := by decide +kernel
theorem dX2_takeWalker_62 : decode cX2_takeWalker 62 = .ok (.aload_n 0, 1) := by decide +kernel
theorem dX2_takeWalker_63 : decode cX2_takeWalker 63 = .ok (.ldc 90, 2) := by decide +kernel
theorem dX2_takeWalker_65 : decode cX2_takeWalker 65 = .ok (.invokevirtual 48, 3) := by decide +kernel
theorem dX2_takeWalker_68 : decode cX2_takeWalker 68 = .ok (.ifCond .eq 13, 3) := by decide +kernel
theorem dX2_takeWalker_71 : decode cX2_takeWalker 71 = .ok (.aload_n 3, 1) := by decide +kernel
theorem dX2_takeWalker_72 : decode cX2_takeWalker 72 = .ok (.aload_n 0, 1) := by decide +kernel
theorem dX2_takeWalker_73 : decode cX2_takeWalker 73 = .ok (.bipush 9, 2) := by decide +kernel
theorem dX2_takeWalker_75 : decode cX2_takeWalker 75 = .ok (.invokevirtual 52, 3) := by decide +kernel
theorem dX2_takeWalker_78 : decode cX2_takeWalker 78 = .ok (.putfield 92, 3) := by decide +kernel
theorem dX2_takeWalker_81 : decode cX2_takeWalker 81 = .ok (.aload_n 3, 1) := by decide +kernel
theorem dX2_takeWalker_82 : decode cX2_takeWalker 82 = .ok (.getfield 92, 3) := by decide +kernel
theorem dX2_takeWalker_85 : decode cX2_takeWalker 85 = .ok (.ifCond .lt 7, 3) := by decide +kernel
theorem dX2_takeWalker_88 : decode cX2_takeWalker 88 = .ok (.iconst 1, 1) := by decide +kernel
theorem dX2_takeWalker_89 : decode cX2_takeWalker 89 = .ok (.goto 4, 3) := by decide +kernel
theorem dX2_takeWalker_92 : decode cX2_takeWalker 92 = .ok (.iconst 0, 1) := by decide +kernel
theorem dX2_takeWalker_93 : decode cX2_takeWalker 93 = .ok (.ireturn, 1) := by decide +kernel
set_option maxRecDepth 20000 in
theorem ggX2_kindNamed_X2_nameOf : GoodIn wsX2_kindNamed wsX2_nameOf := goodIn_r _ [4] (by decide +kernel) (by decide +kernel)
set_option maxRecDepth 20000 in
theorem gX2_kindNamed_X2_nameOf : GoodIn wsX2_kindNamed (va_wsS RX2 94 yX2_nameOf wsX2_nameOf) := goodIn_app (goodIn_of _ (by decide +kernel)) ggX2_kindNamed_X2_nameOf
set_option maxRecDepth 20000 in
theorem ggX2_kindNamed_X2_isWord : GoodIn wsX2_kindNamed wsX2_isWord := goodIn_r _ [8, 9, 10, 11, 12, 13, 14, 15, 16, 17, 18, 19, 20, 21, 22, 23, 24, 25, 26, 3, 27, 28, 29, 30, 31, 32, 33, 34, 35, 36, 37, 38, 39, 40, 41, 42, 43, 44, 45, 46, 47, 48, 49, 50, 51, 52, 53, 54, 55, 56, 57, 58, 59, 60, 61, 62, 63, 64, 65, 66, 67, 68, 69, 70, 71, 72] (by decide +kernel) (by decide +kernel)
set_option maxRecDepth 20000 in
theorem gX2_kindNamed_X2_isWord : GoodIn wsX2_kindNamed (wsV RX2 98 RX2 yX2_isWord wsX2_isWord) := goodIn_app (goodIn_of _ (by decide +kernel)) ggX2_kindNamed_X2_isWord
theorem dX2_kindNamed_0 : decode cX2_kindNamed 0 = .ok (.iconst 0, 1) := by decide +kernel
theorem dX2_kindNamed_1 : decode cX2_kindNamed 1 = .ok (.istore_n 1, 1) := by decide +kernel
theorem dX2_kindNamed_2 : decode cX2_kindNamed 2 = .ok (.iload_n 1, 1) := by decide +kernel
theorem dX2_kindNamed_3 : decode cX2_kindNamed 3 = .ok (.iconst 5, 1) := by decide +kernel
theorem dX2_kindNamed_4 : decode cX2_kindNamed 4 = .ok (.if_icmp .gt 22, 3) := by decide +kernel
theorem dX2_kindNamed_7 : decode cX2_kindNamed 7 = .ok (.aload_n 0, 1) := by decide +kernel
theorem dX2_kindNamed_8 : decode cX2_kindNamed 8 = .ok (.iload_n 1, 1) := by decide +kernel
theorem dX2_kindNamed_9 : decode cX2_kindNamed 9 = .ok (.invokestatic 94, 3) := by decide +kernel
theorem dX2_kindNamed_12 : decode cX2_kindNamed 12 = .ok (.invokevirtual 98, 3) := by decide +kernel
theorem dX2_kindNamed_15 : decode cX2_kindNamed 15 = .ok (.ifCond .eq 5, 3) := by decide +kernel
theorem dX2_kindNamed_18 : decode cX2_kindNamed 18 = .ok (.iload_n 1, 1) := by decide +kernel
theorem dX2_kindNamed_19 : decode cX2_kindNamed 19 = .ok (.ireturn, 1) := by decide +kernel
theorem dX2_kindNamed_20 : decode cX2_kindNamed 20 = .ok (.iinc 1 1, 3) := by decide +kernel
theorem dX2_kindNamed_23 : decode cX2_kindNamed 23 = .ok (.goto (-21), 3) := by decide +kernel
theorem dX2_kindNamed_26 : decode cX2_kindNamed 26 = .ok (.iconst (-1), 1) := by decide +kernel
theorem dX2_kindNamed_27 : decode cX2_kindNamed 27 = .ok (.ireturn, 1) := by decide +kernel
theorem dX2_nameOf_0 : decode cX2_nameOf 0 = .ok (.iload_n 0, 1) := by decide +kernel
theorem dX2_nameOf_1 : decode cX2_nameOf 1 = .ok (.tableswitch 50 1 5 #[35, 38, 41, 44, 47], 35) := by decide +kernel
theorem dX2_nameOf_36 : decode cX2_nameOf 36 = .ok (.ldc 101, 2) := by decide +kernel
theorem dX2_nameOf_38 : decode cX2_nameOf 38 = .ok (.areturn, 1) := by decide +kernel
theorem dX2_nameOf_39 : decode cX2_nameOf 39 = .ok (.ldc 103, 2) := by decide +kernel
theorem dX2_nameOf_41 : decode cX2_nameOf 41 = .ok (.areturn, 1) := by decide +kernel
theorem dX2_nameOf_42 : decode cX2_nameOf 42 = .ok (.ldc 105, 2) := by decide +kernel
theorem dX2_nameOf_44 : decode cX2_nameOf 44 = .ok (.areturn, 1) := by decide +kernel
theorem dX2_nameOf_45 : decode cX2_nameOf 45 = .ok (.ldc 107, 2) := by decide +kernel
theorem dX2_nameOf_47 : decode cX2_nameOf 47 = .ok (.areturn, 1) := by decide +kernel
theorem dX2_nameOf_48 : decode cX2_nameOf 48 = .ok (.ldc 109, 2) := by decide +kernel
theorem dX2_nameOf_50 : decode cX2_nameOf 50 = .ok (.areturn, 1) := by decide +kernel
theorem dX2_nameOf_51 : decode cX2_nameOf 51 = .ok (.ldc 111, 2) := by decide +kernel
theorem dX2_nameOf_53 : decode cX2_nameOf 53 = .ok (.areturn, 1) := by decide +kernel
set_option maxRecDepth 20000 in
theorem ggX2_takeWord_X2_isWord : GoodIn wsX2_takeWord wsX2_isWord := goodIn_r _ [5, 6, 7, 8, 9, 10, 11, 12, 13, 14, 15, 16, 17, 18, 19, 20, 21, 22, 23, 4, 24, 25, 26, 27, 28, 29, 30, 31, 32, 33, 34, 35, 36, 37, 38, 39, 40, 41, 42, 43, 44, 45, 46, 47, 48, 49, 50, 51, 52, 53, 54, 55, 56, 57, 58, 59, 60, 61, 62, 63, 79, 80, 81, 82, 83, 84] (by decide +kernel) (by decide +kernel)
set_option maxRecDepth 20000 in
theorem gX2_takeWord_X2_isWord : GoodIn wsX2_takeWord (wsV RX2 98 RX2 yX2_isWord wsX2_isWord) := goodIn_app (goodIn_of _ (by decide +kernel)) ggX2_takeWord_X2_isWord
set_option maxRecDepth 20000 in
theorem ggX2_takeWord_X2_advance : GoodIn wsX2_takeWord wsX2_advance := goodIn_r _ [67, 7, 8, 25, 6, 68, 69, 70, 71, 72, 21, 22, 23, 4, 24, 26, 73, 74, 75, 76, 77, 78, 79, 80, 81, 82, 83, 84] (by decide +kernel) (by decide +kernel)
set_option maxRecDepth 20000 in
theorem gX2_takeWord_X2_advance : GoodIn wsX2_takeWord (wsV RX2 31 RX2 yX2_advance wsX2_advance) := goodIn_app (goodIn_of _ (by decide +kernel)) ggX2_takeWord_X2_advance
theorem dX2_takeWord_0 : decode cX2_takeWord 0 = .ok (.aload_n 0, 1) := by decide +kernel
theorem dX2_takeWord_1 : decode cX2_takeWord 1 = .ok (.aload_n 1, 1) := by decide +kernel
theorem dX2_takeWord_2 : decode cX2_takeWord 2 = .ok (.invokevirtual 98, 3) := by decide +kernel
theorem dX2_takeWord_5 : decode cX2_takeWord 5 = .ok (.ifCond .ne 5, 3) := by decide +kernel
theorem dX2_takeWord_8 : decode cX2_takeWord 8 = .ok (.iconst 0, 1) := by decide +kernel
theorem dX2_takeWord_9 : decode cX2_takeWord 9 = .ok (.ireturn, 1) := by decide +kernel
theorem dX2_takeWord_10 : decode cX2_takeWord 10 = .ok (.aload_n 0, 1) := by decide +kernel
theorem dX2_takeWord_11 : decode cX2_takeWord 11 = .ok (.invokevirtual 31, 3) := by decide +kernel
theorem dX2_takeWord_14 : decode cX2_takeWord 14 = .ok (.iconst 1, 1) := by decide +kernel
theorem dX2_takeWord_15 : decode cX2_takeWord 15 = .ok (.ireturn, 1) := by decide +kernel
set_option maxRecDepth 20000 in
theorem ggX2_isWord_J0_length_8abf5 : GoodIn wsX2_isWord wsJ0_length_8abf5 := goodIn_r _ [8, 9, 10, 11, 12, 7, 13, 14, 15] (by decide +kernel) (by decide +kernel)
set_option maxRecDepth 20000 in
theorem gX2_isWord_J0_length_8abf5 : GoodIn wsX2_isWord (wsV RX2 113 RJ0 yJ0_length_8abf5 wsJ0_length_8abf5) := goodIn_app (goodIn_of _ (by decide +kernel)) ggX2_isWord_J0_length_8abf5
set_option maxRecDepth 20000 in
theorem ggX2_isWord_X2_byteAt : GoodIn wsX2_isWord wsX2_byteAt := goodIn_r _ [20, 21, 22, 60, 61, 62, 63, 64, 65] (by decide +kernel) (by decide +kernel)
set_option maxRecDepth 20000 in
theorem gX2_isWord_X2_byteAt : GoodIn wsX2_isWord (wsV RX2 117 RX2 yX2_byteAt wsX2_byteAt) := goodIn_app (goodIn_of _ (by decide +kernel)) ggX2_isWord_X2_byteAt
set_option maxRecDepth 20000 in
theorem ggX2_isWord_J0_charAt_5068e : GoodIn wsX2_isWord wsJ0_charAt_5068e := goodIn_r _ [26, 9, 27, 28, 29, 7, 30, 14, 15, 31, 32, 33, 34, 35, 36, 37, 38, 39, 40, 41, 42, 43, 44, 45, 46, 47, 48, 49, 50, 51, 52, 53, 54, 55, 56, 57, 58, 59] (by decide +kernel) (by decide +kernel)
set_option maxRecDepth 20000 in
theorem gX2_isWord_J0_charAt_5068e : GoodIn wsX2_isWord (wsV RX2 120 RJ0 yJ0_charAt_5068e wsJ0_charAt_5068e) := goodIn_app (goodIn_of _ (by decide +kernel)) ggX2_isWord_J0_charAt_5068e
theorem dX2_isWord_0 : decode cX2_isWord 0 = .ok (.aload_n 0, 1) := by decide +kernel
theorem dX2_isWord_1 : decode cX2_isWord 1 = .ok (.getfield 19, 3) := by decide +kernel
theorem dX2_isWord_4 : decode cX2_isWord 4 = .ok (.iconst 1, 1) := by decide +kernel
theorem dX2_isWord_5 : decode cX2_isWord 5 = .ok (.if_icmp .ne 19, 3) := by decide +kernel
theorem dX2_isWord_8 : decode cX2_isWord 8 = .ok (.aload_n 0, 1) := by decide +kernel
theorem dX2_isWord_9 : decode cX2_isWord 9 = .ok (.getfield 25, 3) := by decide +kernel
theorem dX2_isWord_12 : decode cX2_isWord 12 = .ok (.aload_n 0, 1) := by decide +kernel
theorem dX2_isWord_13 : decode cX2_isWord 13 = .ok (.getfield 22, 3) := by decide +kernel
theorem dX2_isWord_16 : decode cX2_isWord 16 = .ok (.isub, 1) := by decide +kernel
theorem dX2_isWord_17 : decode cX2_isWord 17 = .ok (.aload_n 1, 1) := by decide +kernel
theorem dX2_isWord_18 : decode cX2_isWord 18 = .ok (.invokevirtual 113, 3) := by decide +kernel
theorem dX2_isWord_21 : decode cX2_isWord 21 = .ok (.if_icmp .eq 5, 3) := by decide +kernel
theorem dX2_isWord_24 : decode cX2_isWord 24 = .ok (.iconst 0, 1) := by decide +kernel
theorem dX2_isWord_25 : decode cX2_isWord 25 = .ok (.ireturn, 1) := by decide +kernel
theorem dX2_isWord_26 : decode cX2_isWord 26 = .ok (.iconst 0, 1) := by decide +kernel
theorem dX2_isWord_27 : decode cX2_isWord 27 = .ok (.istore_n 2, 1) := by decide +kernel
theorem dX2_isWord_28 : decode cX2_isWord 28 = .ok (.iload_n 2, 1) := by decide +kernel
theorem dX2_isWord_29 : decode cX2_isWord 29 = .ok (.aload_n 1, 1) := by decide +kernel
theorem dX2_isWord_30 : decode cX2_isWord 30 = .ok (.invokevirtual 113, 3) := by decide +kernel
theorem dX2_isWord_33 : decode cX2_isWord 33 = .ok (.if_icmp .ge 29, 3) := by decide +kernel
theorem dX2_isWord_36 : decode cX2_isWord 36 = .ok (.aload_n 0, 1) := by decide +kernel
theorem dX2_isWord_37 : decode cX2_isWord 37 = .ok (.aload_n 0, 1) := by decide +kernel
theorem dX2_isWord_38 : decode cX2_isWord 38 = .ok (.getfield 22, 3) := by decide +kernel
theorem dX2_isWord_41 : decode cX2_isWord 41 = .ok (.iload_n 2, 1) := by decide +kernel
theorem dX2_isWord_42 : decode cX2_isWord 42 = .ok (.iadd, 1) := by decide +kernel
theorem dX2_isWord_43 : decode cX2_isWord 43 = .ok (.invokevirtual 117, 3) := by decide +kernel
theorem dX2_isWord_46 : decode cX2_isWord 46 = .ok (.aload_n 1, 1) := by decide +kernel
theorem dX2_isWord_47 : decode cX2_isWord 47 = .ok (.iload_n 2, 1) := by decide +kernel
theorem dX2_isWord_48 : decode cX2_isWord 48 = .ok (.invokevirtual 120, 3) := by decide +kernel
theorem dX2_isWord_51 : decode cX2_isWord 51 = .ok (.if_icmp .eq 5, 3) := by decide +kernel
theorem dX2_isWord_54 : decode cX2_isWord 54 = .ok (.iconst 0, 1) := by decide +kernel
theorem dX2_isWord_55 : decode cX2_isWord 55 = .ok (.ireturn, 1) := by decide +kernel
theorem dX2_isWord_56 : decode cX2_isWord 56 = .ok (.iinc 2 1, 3) := by decide +kernel
theorem dX2_isWord_59 : decode cX2_isWord 59 = .ok (.goto (-31), 3) := by decide +kernel
theorem dX2_isWord_62 : decode cX2_isWord 62 = .ok (.iconst 1, 1) := by decide +kernel
theorem dX2_isWord_63 : decode cX2_isWord 63 = .ok (.ireturn, 1) := by decide +kernel
set_option maxRecDepth 20000 in
theorem ggX2_takeNumber_X2_advance : GoodIn wsX2_takeNumber wsX2_advance := goodIn_r _ [7, 8, 9, 10, 1, 2, 11, 12, 13, 14, 15, 16, 17, 6, 18, 19, 20, 21, 22, 23, 24, 25, 26, 27, 28, 29, 30, 31] (by decide +kernel) (by decide +kernel)
set_option maxRecDepth 20000 in
theorem gX2_takeNumber_X2_advance : GoodIn wsX2_takeNumber (wsV RX2 31 RX2 yX2_advance wsX2_advance) := goodIn_app (goodIn_of _ (by decide +kernel)) ggX2_takeNumber_X2_advance
theorem dX2_takeNumber_0 : decode cX2_takeNumber 0 = .ok (.aload_n 0, 1) := by decide +kernel
theorem dX2_takeNumber_1 : decode cX2_takeNumber 1 = .ok (.getfield 19, 3) := by decide +kernel
theorem dX2_takeNumber_4 : decode cX2_takeNumber 4 = .ok (.iconst 2, 1) := by decide +kernel
theorem dX2_takeNumber_5 : decode cX2_takeNumber 5 = .ok (.if_icmp .ne 11, 3) := by decide +kernel
theorem dX2_takeNumber_8 : decode cX2_takeNumber 8 = .ok (.aload_n 0, 1) := by decide +kernel
theorem dX2_takeNumber_9 : decode cX2_takeNumber 9 = .ok (.getfield 28, 3) := by decide +kernel
theorem dX2_takeNumber_12 : decode cX2_takeNumber 12 = .ok (.iload_n 1, 1) := by decide +kernel
theorem dX2_takeNumber_13 : decode cX2_takeNumber 13 = .ok (.if_icmp .le 5, 3) := by decide +kernel
theorem dX2_takeNumber_16 : decode cX2_takeNumber 16 = .ok (.iconst (-1), 1) := by decide +kernel
theorem dX2_takeNumber_17 : decode cX2_takeNumber 17 = .ok (.ireturn, 1) := by decide +kernel
theorem dX2_takeNumber_18 : decode cX2_takeNumber 18 = .ok (.aload_n 0, 1) := by decide +kernel
theorem dX2_takeNumber_19 : decode cX2_takeNumber 19 = .ok (.getfield 28, 3) := by decide +kernel
theorem dX2_takeNumber_22 : decode cX2_takeNumber 22 = .ok (.istore_n 2, 1) := by decide +kernel
theorem dX2_takeNumber_23 : decode cX2_takeNumber 23 = .ok (.aload_n 0, 1) := by decide +kernel
theorem dX2_takeNumber_24 : decode cX2_takeNumber 24 = .ok (.invokevirtual 31, 3) := by decide +kernel
theorem dX2_takeNumber_27 : decode cX2_takeNumber 27 = .ok (.iload_n 2, 1) := by decide +kernel
theorem dX2_takeNumber_28 : decode cX2_takeNumber 28 = .ok (.ireturn, 1) := by decide +kernel
set_option maxRecDepth 20000 in
theorem ggX2_advance_X2_byteAt : GoodIn wsX2_advance wsX2_byteAt := goodIn_r _ [14, 3, 15, 22, 23, 24, 25, 26, 27] (by decide +kernel) (by decide +kernel)
set_option maxRecDepth 20000 in
theorem gX2_advance_X2_byteAt : GoodIn wsX2_advance (wsV RX2 117 RX2 yX2_byteAt wsX2_byteAt) := goodIn_app (goodIn_of _ (by decide +kernel)) ggX2_advance_X2_byteAt
set_option maxRecDepth 20000 in
theorem ggX2_advance_X2_isLetter : GoodIn wsX2_advance wsX2_isLetter := goodIn_r _ [18] (by decide +kernel) (by decide +kernel)
set_option maxRecDepth 20000 in
theorem gX2_advance_X2_isLetter : GoodIn wsX2_advance (va_wsS RX2 124 yX2_isLetter wsX2_isLetter) := goodIn_app (goodIn_of _ (by decide +kernel)) ggX2_advance_X2_isLetter
set_option maxRecDepth 20000 in
theorem ggX2_advance_X2_isDigit : GoodIn wsX2_advance wsX2_isDigit := goodIn_r _ [21] (by decide +kernel) (by decide +kernel)
set_option maxRecDepth 20000 in
theorem gX2_advance_X2_isDigit : GoodIn wsX2_advance (va_wsS RX2 128 yX2_isDigit wsX2_isDigit) := goodIn_app (goodIn_of _ (by decide +kernel)) ggX2_advance_X2_isDigit
theorem dX2_advance_0 : decode cX2_advance 0 = .ok (.aload_n 0, 1) := by decide +kernel
theorem dX2_advance_1 : decode cX2_advance 1 = .ok (.aload_n 0, 1) := by decide +kernel
theorem dX2_advance_2 : decode cX2_advance 2 = .ok (.getfield 25, 3) := by decide +kernel
theorem dX2_advance_5 : decode cX2_advance 5 = .ok (.putfield 22, 3) := by decide +kernel
theorem dX2_advance_8 : decode cX2_advance 8 = .ok (.aload_n 0, 1) := by decide +kernel
theorem dX2_advance_9 : decode cX2_advance 9 = .ok (.getfield 22, 3) := by decide +kernel
theorem dX2_advance_12 : decode cX2_advance 12 = .ok (.aload_n 0, 1) := by decide +kernel
theorem dX2_advance_13 : decode cX2_advance 13 = .ok (.getfield 15, 3) := by decide +kernel
theorem dX2_advance_16 : decode cX2_advance 16 = .ok (.if_icmp .ge 29, 3) := by decide +kernel
theorem dX2_advance_19 : decode cX2_advance 19 = .ok (.aload_n 0, 1) := by decide +kernel
theorem dX2_advance_20 : decode cX2_advance 20 = .ok (.aload_n 0, 1) := by decide +kernel
theorem dX2_advance_21 : decode cX2_advance 21 = .ok (.getfield 22, 3) := by decide +kernel
theorem dX2_advance_24 : decode cX2_advance 24 = .ok (.invokevirtual 117, 3) := by decide +kernel
theorem dX2_advance_27 : decode cX2_advance 27 = .ok (.bipush 32, 2) := by decide +kernel
theorem dX2_advance_29 : decode cX2_advance 29 = .ok (.if_icmp .ne 16, 3) := by decide +kernel
theorem dX2_advance_32 : decode cX2_advance 32 = .ok (.aload_n 0, 1) := by decide +kernel
theorem dX2_advance_33 : decode cX2_advance 33 = .ok (.dup, 1) := by decide +kernel
theorem dX2_advance_34 : decode cX2_advance 34 = .ok (.getfield 22, 3) := by decide +kernel
theorem dX2_advance_37 : decode cX2_advance 37 = .ok (.iconst 1, 1) := by decide +kernel
theorem dX2_advance_38 : decode cX2_advance 38 = .ok (.iadd, 1) := by decide +kernel
theorem dX2_advance_39 : decode cX2_advance 39 = .ok (.putfield 22, 3) := by decide +kernel
theorem dX2_advance_42 : decode cX2_advance 42 = .ok (.goto (-34), 3) := by decide +kernel
theorem dX2_advance_45 : decode cX2_advance 45 = .ok (.aload_n 0, 1) := by decide +kernel
theorem dX2_advance_46 : decode cX2_advance 46 = .ok (.aload_n 0, 1) := by decide +kernel
theorem dX2_advance_47 : decode cX2_advance 47 = .ok (.getfield 22, 3) := by decide +kernel
theorem dX2_advance_50 : decode cX2_advance 50 = .ok (.putfield 25, 3) := by decide +kernel
theorem dX2_advance_53 : decode cX2_advance 53 = .ok (.aload_n 0, 1) := by decide +kernel
theorem dX2_advance_54 : decode cX2_advance 54 = .ok (.getfield 22, 3) := by decide +kernel
theorem dX2_advance_57 : decode cX2_advance 57 = .ok (.aload_n 0, 1) := by decide +kernel
theorem dX2_advance_58 : decode cX2_advance 58 = .ok (.getfield 15, 3) := by decide +kernel
theorem dX2_advance_61 : decode cX2_advance 61 = .ok (.if_icmp .lt 11, 3) := by decide +kernel
theorem dX2_advance_64 : decode cX2_advance 64 = .ok (.aload_n 0, 1) := by decide +kernel
theorem dX2_advance_65 : decode cX2_advance 65 = .ok (.iconst 0, 1) := by decide +kernel
theorem dX2_advance_66 : decode cX2_advance 66 = .ok (.putfield 19, 3) := by decide +kernel
theorem dX2_advance_69 : decode cX2_advance 69 = .ok (.goto 183, 3) := by decide +kernel
theorem dX2_advance_72 : decode cX2_advance 72 = .ok (.aload_n 0, 1) := by decide +kernel
theorem dX2_advance_73 : decode cX2_advance 73 = .ok (.aload_n 0, 1) := by decide +kernel
theorem dX2_advance_74 : decode cX2_advance 74 = .ok (.getfield 22, 3) := by decide +kernel
theorem dX2_advance_77 : decode cX2_advance 77 = .ok (.invokevirtual 117, 3) := by decide +kernel
theorem dX2_advance_80 : decode cX2_advance 80 = .ok (.invokestatic 124, 3) := by decide +kernel
theorem dX2_advance_83 : decode cX2_advance 83 = .ok (.ifCond .eq 46, 3) := by decide +kernel
theorem dX2_advance_86 : decode cX2_advance 86 = .ok (.aload_n 0, 1) := by decide +kernel
theorem dX2_advance_87 : decode cX2_advance 87 = .ok (.iconst 1, 1) := by decide +kernel
theorem dX2_advance_88 : decode cX2_advance 88 = .ok (.putfield 19, 3) := by decide +kernel
theorem dX2_advance_91 : decode cX2_advance 91 = .ok (.aload_n 0, 1) := by decide +kernel
theorem dX2_advance_92 : decode cX2_advance 92 = .ok (.getfield 25, 3) := by decide +kernel
theorem dX2_advance_95 : decode cX2_advance 95 = .ok (.aload_n 0, 1) := by decide +kernel
theorem dX2_advance_96 : decode cX2_advance 96 = .ok (.getfield 15, 3) := by decide +kernel
theorem dX2_advance_99 : decode cX2_advance 99 = .ok (.if_icmp .ge 153, 3) := by decide +kernel
theorem dX2_advance_102 : decode cX2_advance 102 = .ok (.aload_n 0, 1) := by decide +kernel
theorem dX2_advance_103 : decode cX2_advance 103 = .ok (.aload_n 0, 1) := by decide +kernel
theorem dX2_advance_104 : decode cX2_advance 104 = .ok (.getfield 25, 3) := by decide +kernel
theorem dX2_advance_107 : decode cX2_advance 107 = .ok (.invokevirtual 117, 3) := by decide +kernel
theorem dX2_advance_110 : decode cX2_advance 110 = .ok (.invokestatic 124, 3) := by decide +kernel
theorem dX2_advance_113 : decode cX2_advance 113 = .ok (.ifCond .eq 139, 3) := by decide +kernel
theorem dX2_advance_116 : decode cX2_advance 116 = .ok (.aload_n 0, 1) := by decide +kernel
theorem dX2_advance_117 : decode cX2_advance 117 = .ok (.dup, 1) := by decide +kernel
theorem dX2_advance_118 : decode cX2_advance 118 = .ok (.getfield 25, 3) := by decide +kernel
theorem dX2_advance_121 : decode cX2_advance 121 = .ok (.iconst 1, 1) := by decide +kernel
theorem dX2_advance_122 : decode cX2_advance 122 = .ok (.iadd, 1) := by decide +kernel
theorem dX2_advance_123 : decode cX2_advance 123 = .ok (.putfield 25, 3) := by decide +kernel
theorem dX2_advance_126 : decode cX2_advance 126 = .ok (.goto (-35), 3) := by decide +kernel
theorem dX2_advance_129 : decode cX2_advance 129 = .ok (.aload_n 0, 1) := by decide +kernel
theorem dX2_advance_130 : decode cX2_advance 130 = .ok (.aload_n 0, 1) := by decide +kernel
theorem dX2_advance_131 : decode cX2_advance 131 = .ok (.getfield 22, 3) := by decide +kernel
theorem dX2_advance_134 : decode cX2_advance 134 = .ok (.invokevirtual 117, 3) := by decide +kernel
theorem dX2_advance_137 : decode cX2_advance 137 = .ok (.invokestatic 128, 3) := by decide +kernel
theorem dX2_advance_140 : decode cX2_advance 140 = .ok (.ifCond .eq 80, 3) := by decide +kernel
theorem dX2_advance_143 : decode cX2_advance 143 = .ok (.aload_n 0, 1) := by decide +kernel
theorem dX2_advance_144 : decode cX2_advance 144 = .ok (.iconst 2, 1) := by decide +kernel
theorem dX2_advance_145 : decode cX2_advance 145 = .ok (.putfield 19, 3) := by decide +kernel
theorem dX2_advance_148 : decode cX2_advance 148 = .ok (.aload_n 0, 1) := by decide +kernel
theorem dX2_advance_149 : decode cX2_advance 149 = .ok (.iconst 0, 1) := by decide +kernel
theorem dX2_advance_150 : decode cX2_advance 150 = .ok (.putfield 28, 3) := by decide +kernel
theorem dX2_advance_153 : decode cX2_advance 153 = .ok (.aload_n 0, 1) := by decide +kernel
theorem dX2_advance_154 : decode cX2_advance 154 = .ok (.getfield 25, 3) := by decide +kernel
theorem dX2_advance_157 : decode cX2_advance 157 = .ok (.aload_n 0, 1) := by decide +kernel
theorem dX2_advance_158 : decode cX2_advance 158 = .ok (.getfield 15, 3) := by decide +kernel
theorem dX2_advance_161 : decode cX2_advance 161 = .ok (.if_icmp .ge 91, 3) := by decide +kernel
theorem dX2_advance_164 : decode cX2_advance 164 = .ok (.aload_n 0, 1) := by decide +kernel
theorem dX2_advance_165 : decode cX2_advance 165 = .ok (.aload_n 0, 1) := by decide +kernel
theorem dX2_advance_166 : decode cX2_advance 166 = .ok (.getfield 25, 3) := by decide +kernel
theorem dX2_advance_169 : decode cX2_advance 169 = .ok (.invokevirtual 117, 3) := by decide +kernel
theorem dX2_advance_172 : decode cX2_advance 172 = .ok (.invokestatic 128, 3) := by decide +kernel
theorem dX2_advance_175 : decode cX2_advance 175 = .ok (.ifCond .eq 77, 3) := by decide +kernel
theorem dX2_advance_178 : decode cX2_advance 178 = .ok (.aload_n 0, 1) := by decide +kernel
theorem dX2_advance_179 : decode cX2_advance 179 = .ok (.sipush 10000, 3) := by decide +kernel
theorem dX2_advance_182 : decode cX2_advance 182 = .ok (.bipush 10, 2) := by decide +kernel
theorem dX2_advance_184 : decode cX2_advance 184 = .ok (.aload_n 0, 1) := by decide +kernel
theorem dX2_advance_185 : decode cX2_advance 185 = .ok (.getfield 28, 3) := by decide +kernel
theorem dX2_advance_188 : decode cX2_advance 188 = .ok (.imul, 1) := by decide +kernel
theorem dX2_advance_189 : decode cX2_advance 189 = .ok (.aload_n 0, 1) := by decide +kernel
theorem dX2_advance_190 : decode cX2_advance 190 = .ok (.aload_n 0, 1) := by decide +kernel
theorem dX2_advance_191 : decode cX2_advance 191 = .ok (.getfield 25, 3) := by decide +kernel
theorem dX2_advance_194 : decode cX2_advance 194 = .ok (.invokevirtual 117, 3) := by decide +kernel
theorem dX2_advance_197 : decode cX2_advance 197 = .ok (.iadd, 1) := by decide +kernel
theorem dX2_advance_198 : decode cX2_advance 198 = .ok (.bipush 48, 2) := by decide +kernel
theorem dX2_advance_200 : decode cX2_advance 200 = .ok (.isub, 1) := by decide +kernel
theorem dX2_advance_201 : decode cX2_advance 201 = .ok (.invokestatic 131, 3) := by decide +kernel
theorem dX2_advance_204 : decode cX2_advance 204 = .ok (.putfield 28, 3) := by decide +kernel
theorem dX2_advance_207 : decode cX2_advance 207 = .ok (.aload_n 0, 1) := by decide +kernel
theorem dX2_advance_208 : decode cX2_advance 208 = .ok (.dup, 1) := by decide +kernel
theorem dX2_advance_209 : decode cX2_advance 209 = .ok (.getfield 25, 3) := by decide +kernel
theorem dX2_advance_212 : decode cX2_advance 212 = .ok (.iconst 1, 1) := by decide +kernel
theorem dX2_advance_213 : decode cX2_advance 213 = .ok (.iadd, 1) := by decide +kernel
theorem dX2_advance_214 : decode cX2_advance 214 = .ok (.putfield 25, 3) := by decide +kernel
theorem dX2_advance_217 : decode cX2_advance 217 = .ok (.goto (-64), 3) := by decide +kernel
theorem dX2_advance_220 : decode cX2_advance 220 = .ok (.aload_n 0, 1) := by decide +kernel
theorem dX2_advance_221 : decode cX2_advance 221 = .ok (.aload_n 0, 1) := by decide +kernel
theorem dX2_advance_222 : decode cX2_advance 222 = .ok (.aload_n 0, 1) := by decide +kernel
theorem dX2_advance_223 : decode cX2_advance 223 = .ok (.getfield 22, 3) := by decide +kernel
theorem dX2_advance_226 : decode cX2_advance 226 = .ok (.invokevirtual 117, 3) := by decide +kernel
theorem dX2_advance_229 : decode cX2_advance 229 = .ok (.bipush 59, 2) := by decide +kernel
theorem dX2_advance_231 : decode cX2_advance 231 = .ok (.if_icmp .ne 7, 3) := by decide +kernel
theorem dX2_advance_234 : decode cX2_advance 234 = .ok (.iconst 3, 1) := by decide +kernel
theorem dX2_advance_235 : decode cX2_advance 235 = .ok (.goto 4, 3) := by decide +kernel
theorem dX2_advance_238 : decode cX2_advance 238 = .ok (.iconst 4, 1) := by decide +kernel
theorem dX2_advance_239 : decode cX2_advance 239 = .ok (.putfield 19, 3) := by decide +kernel
theorem dX2_advance_242 : decode cX2_advance 242 = .ok (.aload_n 0, 1) := by decide +kernel
theorem dX2_advance_243 : decode cX2_advance 243 = .ok (.aload_n 0, 1) := by decide +kernel
theorem dX2_advance_244 : decode cX2_advance 244 = .ok (.getfield 22, 3) := by decide +kernel
theorem dX2_advance_247 : decode cX2_advance 247 = .ok (.iconst 1, 1) := by decide +kernel
theorem dX2_advance_248 : decode cX2_advance 248 = .ok (.iadd, 1) := by decide +kernel
theorem dX2_advance_249 : decode cX2_advance 249 = .ok (.putfield 25, 3) := by decide +kernel
theorem dX2_advance_252 : decode cX2_advance 252 = .ok (.return_, 1) := by decide +kernel
theorem dX2_byteAt_0 : decode cX2_byteAt 0 = .ok (.iload_n 1, 1) := by decide +kernel
theorem dX2_byteAt_1 : decode cX2_byteAt 1 = .ok (.ifCond .lt 24, 3) := by decide +kernel
theorem dX2_byteAt_4 : decode cX2_byteAt 4 = .ok (.iload_n 1, 1) := by decide +kernel
theorem dX2_byteAt_5 : decode cX2_byteAt 5 = .ok (.aload_n 0, 1) := by decide +kernel
theorem dX2_byteAt_6 : decode cX2_byteAt 6 = .ok (.getfield 15, 3) := by decide +kernel
theorem dX2_byteAt_9 : decode cX2_byteAt 9 = .ok (.if_icmp .ge 16, 3) := by decide +kernel
theorem dX2_byteAt_12 : decode cX2_byteAt 12 = .ok (.aload_n 0, 1) := by decide +kernel
theorem dX2_byteAt_13 : decode cX2_byteAt 13 = .ok (.getfield 9, 3) := by decide +kernel
theorem dX2_byteAt_16 : decode cX2_byteAt 16 = .ok (.iload_n 1, 1) := by decide +kernel
theorem dX2_byteAt_17 : decode cX2_byteAt 17 = .ok (.baload, 1) := by decide +kernel
theorem dX2_byteAt_18 : decode cX2_byteAt 18 = .ok (.sipush 255, 3) := by decide +kernel
theorem dX2_byteAt_21 : decode cX2_byteAt 21 = .ok (.iand, 1) := by decide +kernel
theorem dX2_byteAt_22 : decode cX2_byteAt 22 = .ok (.goto 4, 3) := by decide +kernel
theorem dX2_byteAt_25 : decode cX2_byteAt 25 = .ok (.iconst 0, 1) := by decide +kernel
theorem dX2_byteAt_26 : decode cX2_byteAt 26 = .ok (.ireturn, 1) := by decide +kernel
theorem dX2_isLetter_0 : decode cX2_isLetter 0 = .ok (.iload_n 0, 1) := by decide +kernel
theorem dX2_isLetter_1 : decode cX2_isLetter 1 = .ok (.bipush 97, 2) := by decide +kernel
theorem dX2_isLetter_3 : decode cX2_isLetter 3 = .ok (.if_icmp .lt 13, 3) := by decide +kernel
theorem dX2_isLetter_6 : decode cX2_isLetter 6 = .ok (.iload_n 0, 1) := by decide +kernel
theorem dX2_isLetter_7 : decode cX2_isLetter 7 = .ok (.bipush 122, 2) := by decide +kernel
theorem dX2_isLetter_9 : decode cX2_isLetter 9 = .ok (.if_icmp .gt 7, 3) := by decide +kernel
theorem dX2_isLetter_12 : decode cX2_isLetter 12 = .ok (.iconst 1, 1) := by decide +kernel
theorem dX2_isLetter_13 : decode cX2_isLetter 13 = .ok (.goto 4, 3) := by decide +kernel
theorem dX2_isLetter_16 : decode cX2_isLetter 16 = .ok (.iconst 0, 1) := by decide +kernel
theorem dX2_isLetter_17 : decode cX2_isLetter 17 = .ok (.ireturn, 1) := by decide +kernel
theorem dX2_isDigit_0 : decode cX2_isDigit 0 = .ok (.iload_n 0, 1) := by decide +kernel
theorem dX2_isDigit_1 : decode cX2_isDigit 1 = .ok (.bipush 48, 2) := by decide +kernel
theorem dX2_isDigit_3 : decode cX2_isDigit 3 = .ok (.if_icmp .lt 13, 3) := by decide +kernel
theorem dX2_isDigit_6 : decode cX2_isDigit 6 = .ok (.iload_n 0, 1) := by decide +kernel
theorem dX2_isDigit_7 : decode cX2_isDigit 7 = .ok (.bipush 57, 2) := by decide +kernel
theorem dX2_isDigit_9 : decode cX2_isDigit 9 = .ok (.if_icmp .gt 7, 3) := by decide +kernel
theorem dX2_isDigit_12 : decode cX2_isDigit 12 = .ok (.iconst 1, 1) := by decide +kernel
theorem dX2_isDigit_13 : decode cX2_isDigit 13 = .ok (.goto 4, 3) := by decide +kernel
theorem dX2_isDigit_16 : decode cX2_isDigit 16 = .ok (.iconst 0, 1) := by decide +kernel
theorem dX2_isDigit_17 : decode cX2_isDigit 17 = .ok (.ireturn, 1) := by decide +kernel
theorem dX3_init_0 : decode cX3_init 0 = .ok (.aload_n 0, 1) := by decide +kernel
theorem dX3_init_1 : decode cX3_init 1 = .ok (.invokespecial 3, 3) := by decide +kernel
theorem dX3_init_4 : decode cX3_init 4 = .ok (.return_, 1) := by decide +kernel
theorem dX3_startAs_0 : decode cX3_startAs 0 = .ok (.aload_n 0, 1) := by decide +kernel
theorem dX3_startAs_1 : decode cX3_startAs 1 = .ok (.iload_n 1, 1) := by decide +kernel
theorem dX3_startAs_2 : decode cX3_startAs 2 = .ok (.putfield 9, 3) := by decide +kernel
theorem dX3_startAs_5 : decode cX3_startAs 5 = .ok (.aload_n 0, 1) := by decide +kernel
theorem dX3_startAs_6 : decode cX3_startAs 6 = .ok (.iload_n 2, 1) := by decide +kernel
theorem dX3_startAs_7 : decode cX3_startAs 7 = .ok (.putfield 15, 3) := by decide +kernel
theorem dX3_startAs_10 : decode cX3_startAs 10 = .ok (.aload_n 0, 1) := by decide +kernel
theorem dX3_startAs_11 : decode cX3_startAs 11 = .ok (.iconst 1, 1) := by decide +kernel
theorem dX3_startAs_12 : decode cX3_startAs 12 = .ok (.putfield 18, 3) := by decide +kernel
theorem dX3_startAs_15 : decode cX3_startAs 15 = .ok (.aload_n 0, 1) := by decide +kernel
theorem dX3_startAs_16 : decode cX3_startAs 16 = .ok (.iconst 5, 1) := by decide +kernel
theorem dX3_startAs_17 : decode cX3_startAs 17 = .ok (.putfield 21, 3) := by decide +kernel
theorem dX3_startAs_20 : decode cX3_startAs 20 = .ok (.aload_n 0, 1) := by decide +kernel
theorem dX3_startAs_21 : decode cX3_startAs 21 = .ok (.iconst 0, 1) := by decide +kernel
theorem dX3_startAs_22 : decode cX3_startAs 22 = .ok (.putfield 24, 3) := by decide +kernel
theorem dX3_startAs_25 : decode cX3_startAs 25 = .ok (.aload_n 0, 1) := by decide +kernel
theorem dX3_startAs_26 : decode cX3_startAs 26 = .ok (.iconst 0, 1) := by decide +kernel
theorem dX3_startAs_27 : decode cX3_startAs 27 = .ok (.putfield 27, 3) := by decide +kernel
theorem dX3_startAs_30 : decode cX3_startAs 30 = .ok (.aload_n 0, 1) := by decide +kernel
theorem dX3_startAs_31 : decode cX3_startAs 31 = .ok (.iconst 0, 1) := by decide +kernel
theorem dX3_startAs_32 : decode cX3_startAs 32 = .ok (.putfield 30, 3) := by decide +kernel
theorem dX3_startAs_35 : decode cX3_startAs 35 = .ok (.aload_n 0, 1) := by decide +kernel
theorem dX3_startAs_36 : decode cX3_startAs 36 = .ok (.iconst 0, 1) := by decide +kernel
theorem dX3_startAs_37 : decode cX3_startAs 37 = .ok (.putfield 33, 3) := by decide +kernel
theorem dX3_startAs_40 : decode cX3_startAs 40 = .ok (.return_, 1) := by decide +kernel
theorem dX3_becomeLike_0 : decode cX3_becomeLike 0 = .ok (.aload_n 0, 1) := by decide +kernel
theorem dX3_becomeLike_1 : decode cX3_becomeLike 1 = .ok (.aload_n 1, 1) := by decide +kernel
theorem dX3_becomeLike_2 : decode cX3_becomeLike 2 = .ok (.getfield 9, 3) := by decide +kernel
theorem dX3_becomeLike_5 : decode cX3_becomeLike 5 = .ok (.putfield 9, 3) := by decide +kernel
theorem dX3_becomeLike_8 : decode cX3_becomeLike 8 = .ok (.aload_n 0, 1) := by decide +kernel
theorem dX3_becomeLike_9 : decode cX3_becomeLike 9 = .ok (.aload_n 1, 1) := by decide +kernel
theorem dX3_becomeLike_10 : decode cX3_becomeLike 10 = .ok (.getfield 15, 3) := by decide +kernel
theorem dX3_becomeLike_13 : decode cX3_becomeLike 13 = .ok (.putfield 15, 3) := by decide +kernel
theorem dX3_becomeLike_16 : decode cX3_becomeLike 16 = .ok (.aload_n 0, 1) := by decide +kernel
theorem dX3_becomeLike_17 : decode cX3_becomeLike 17 = .ok (.aload_n 1, 1) := by decide +kernel
theorem dX3_becomeLike_18 : decode cX3_becomeLike 18 = .ok (.getfield 18, 3) := by decide +kernel
theorem dX3_becomeLike_21 : decode cX3_becomeLike 21 = .ok (.putfield 18, 3) := by decide +kernel
theorem dX3_becomeLike_24 : decode cX3_becomeLike 24 = .ok (.aload_n 0, 1) := by decide +kernel
theorem dX3_becomeLike_25 : decode cX3_becomeLike 25 = .ok (.aload_n 1, 1) := by decide +kernel
theorem dX3_becomeLike_26 : decode cX3_becomeLike 26 = .ok (.getfield 21, 3) := by decide +kernel
theorem dX3_becomeLike_29 : decode cX3_becomeLike 29 = .ok (.putfield 21, 3) := by decide +kernel
theorem dX3_becomeLike_32 : decode cX3_becomeLike 32 = .ok (.aload_n 0, 1) := by decide +kernel
theorem dX3_becomeLike_33 : decode cX3_becomeLike 33 = .ok (.aload_n 1, 1) := by decide +kernel
theorem dX3_becomeLike_34 : decode cX3_becomeLike 34 = .ok (.getfield 24, 3) := by decide +kernel
theorem dX3_becomeLike_37 : decode cX3_becomeLike 37 = .ok (.putfield 24, 3) := by decide +kernel
theorem dX3_becomeLike_40 : decode cX3_becomeLike 40 = .ok (.aload_n 0, 1) := by decide +kernel
theorem dX3_becomeLike_41 : decode cX3_becomeLike 41 = .ok (.aload_n 1, 1) := by decide +kernel
theorem dX3_becomeLike_42 : decode cX3_becomeLike 42 = .ok (.getfield 27, 3) := by decide +kernel
theorem dX3_becomeLike_45 : decode cX3_becomeLike 45 = .ok (.putfield 27, 3) := by decide +kernel
theorem dX3_becomeLike_48 : decode cX3_becomeLike 48 = .ok (.aload_n 0, 1) := by decide +kernel
theorem dX3_becomeLike_49 : decode cX3_becomeLike 49 = .ok (.aload_n 1, 1) := by decide +kernel
theorem dX3_becomeLike_50 : decode cX3_becomeLike 50 = .ok (.getfield 30, 3) := by decide +kernel
theorem dX3_becomeLike_53 : decode cX3_becomeLike 53 = .ok (.putfield 30, 3) := by decide +kernel
theorem dX3_becomeLike_56 : decode cX3_becomeLike 56 = .ok (.aload_n 0, 1) := by decide +kernel
theorem dX3_becomeLike_57 : decode cX3_becomeLike 57 = .ok (.aload_n 1, 1) := by decide +kernel
theorem dX3_becomeLike_58 : decode cX3_becomeLike 58 = .ok (.getfield 33, 3) := by decide +kernel
theorem dX3_becomeLike_61 : decode cX3_becomeLike 61 = .ok (.putfield 33, 3) := by decide +kernel
theorem dX3_becomeLike_64 : decode cX3_becomeLike 64 = .ok (.return_, 1) := by decide +kernel
theorem dX3_trait_0 : decode cX3_trait 0 = .ok (.iload_n 1, 1) := by decide +kernel
theorem dX3_trait_1 : decode cX3_trait 1 = .ok (.tableswitch 78 1 7 #[43, 48, 53, 58, 63, 68, 73], 43) := by decide +kernel
theorem dX3_trait_44 : decode cX3_trait 44 = .ok (.aload_n 0, 1) := by decide +kernel
theorem dX3_trait_45 : decode cX3_trait 45 = .ok (.getfield 15, 3) := by decide +kernel
theorem dX3_trait_48 : decode cX3_trait 48 = .ok (.ireturn, 1) := by decide +kernel
theorem dX3_trait_49 : decode cX3_trait 49 = .ok (.aload_n 0, 1) := by decide +kernel
theorem dX3_trait_50 : decode cX3_trait 50 = .ok (.getfield 18, 3) := by decide +kernel
theorem dX3_trait_53 : decode cX3_trait 53 = .ok (.ireturn, 1) := by decide +kernel
theorem dX3_trait_54 : decode cX3_trait 54 = .ok (.aload_n 0, 1) := by decide +kernel
theorem dX3_trait_55 : decode cX3_trait 55 = .ok (.getfield 21, 3) := by decide +kernel
theorem dX3_trait_58 : decode cX3_trait 58 = .ok (.ireturn, 1) := by decide +kernel
theorem dX3_trait_59 : decode cX3_trait 59 = .ok (.aload_n 0, 1) := by decide +kernel
theorem dX3_trait_60 : decode cX3_trait 60 = .ok (.getfield 24, 3) := by decide +kernel
theorem dX3_trait_63 : decode cX3_trait 63 = .ok (.ireturn, 1) := by decide +kernel
theorem dX3_trait_64 : decode cX3_trait 64 = .ok (.aload_n 0, 1) := by decide +kernel
theorem dX3_trait_65 : decode cX3_trait 65 = .ok (.getfield 27, 3) := by decide +kernel
theorem dX3_trait_68 : decode cX3_trait 68 = .ok (.ireturn, 1) := by decide +kernel
theorem dX3_trait_69 : decode cX3_trait 69 = .ok (.aload_n 0, 1) := by decide +kernel
theorem dX3_trait_70 : decode cX3_trait 70 = .ok (.getfield 30, 3) := by decide +kernel
theorem dX3_trait_73 : decode cX3_trait 73 = .ok (.ireturn, 1) := by decide +kernel
theorem dX3_trait_74 : decode cX3_trait 74 = .ok (.aload_n 0, 1) := by decide +kernel
theorem dX3_trait_75 : decode cX3_trait 75 = .ok (.getfield 33, 3) := by decide +kernel
theorem dX3_trait_78 : decode cX3_trait 78 = .ok (.ireturn, 1) := by decide +kernel
theorem dX3_trait_79 : decode cX3_trait 79 = .ok (.aload_n 0, 1) := by decide +kernel
theorem dX3_trait_80 : decode cX3_trait 80 = .ok (.getfield 9, 3) := by decide +kernel
theorem dX3_trait_83 : decode cX3_trait 83 = .ok (.ireturn, 1) := by decide +kernel
theorem dX3_giveTrait_0 : decode cX3_giveTrait 0 = .ok (.iload_n 1, 1) := by decide +kernel
theorem dX3_giveTrait_1 : decode cX3_giveTrait 1 = .ok (.tableswitch 99 1 7 #[43, 51, 59, 67, 75, 83, 91], 43) := by decide +kernel
theorem dX3_giveTrait_44 : decode cX3_giveTrait 44 = .ok (.aload_n 0, 1) := by decide +kernel
theorem dX3_giveTrait_45 : decode cX3_giveTrait 45 = .ok (.iload_n 2, 1) := by decide +kernel
theorem dX3_giveTrait_46 : decode cX3_giveTrait 46 = .ok (.putfield 15, 3) := by decide +kernel
theorem dX3_giveTrait_49 : decode cX3_giveTrait 49 = .ok (.goto 51, 3) := by decide +kernel
theorem dX3_giveTrait_52 : decode cX3_giveTrait 52 = .ok (.aload_n 0, 1) := by decide +kernel
theorem dX3_giveTrait_53 : decode cX3_giveTrait 53 = .ok (.iload_n 2, 1) := by decide +kernel
theorem dX3_giveTrait_54 : decode cX3_giveTrait 54 = .ok (.putfield 18, 3) := by decide +kernel
theorem dX3_giveTrait_57 : decode cX3_giveTrait 57 = .ok (.goto 43, 3) := by decide +kernel
theorem dX3_giveTrait_60 : decode cX3_giveTrait 60 = .ok (.aload_n 0, 1) := by decide +kernel
theorem dX3_giveTrait_61 : decode cX3_giveTrait 61 = .ok (.iload_n 2, 1) := by decide +kernel
theorem dX3_giveTrait_62 : decode cX3_giveTrait 62 = .ok (.putfield 21, 3) := by decide +kernel
theorem dX3_giveTrait_65 : decode cX3_giveTrait 65 = .ok (.goto 35, 3) := by decide +kernel
theorem dX3_giveTrait_68 : decode cX3_giveTrait 68 = .ok (.aload_n 0, 1) := by decide +kernel
theorem dX3_giveTrait_69 : decode cX3_giveTrait 69 = .ok (.iload_n 2, 1) := by decide +kernel
theorem dX3_giveTrait_70 : decode cX3_giveTrait 70 = .ok (.putfield 24, 3) := by decide +kernel
theorem dX3_giveTrait_73 : decode cX3_giveTrait 73 = .ok (.goto 27, 3) := by decide +kernel
theorem dX3_giveTrait_76 : decode cX3_giveTrait 76 = .ok (.aload_n 0, 1) := by decide +kernel
theorem dX3_giveTrait_77 : decode cX3_giveTrait 77 = .ok (.iload_n 2, 1) := by decide +kernel
theorem dX3_giveTrait_78 : decode cX3_giveTrait 78 = .ok (.putfield 27, 3) := by decide +kernel
theorem dX3_giveTrait_81 : decode cX3_giveTrait 81 = .ok (.goto 19, 3) := by decide +kernel
theorem dX3_giveTrait_84 : decode cX3_giveTrait 84 = .ok (.aload_n 0, 1) := by decide +kernel
theorem dX3_giveTrait_85 : decode cX3_giveTrait 85 = .ok (.iload_n 2, 1) := by decide +kernel
theorem dX3_giveTrait_86 : decode cX3_giveTrait 86 = .ok (.putfield 30, 3) := by decide +kernel
theorem dX3_giveTrait_89 : decode cX3_giveTrait 89 = .ok (.goto 11, 3) := by decide +kernel
theorem dX3_giveTrait_92 : decode cX3_giveTrait 92 = .ok (.aload_n 0, 1) := by decide +kernel
theorem dX3_giveTrait_93 : decode cX3_giveTrait 93 = .ok (.iload_n 2, 1) := by decide +kernel
theorem dX3_giveTrait_94 : decode cX3_giveTrait 94 = .ok (.putfield 33, 3) := by decide +kernel
theorem dX3_giveTrait_97 : decode cX3_giveTrait 97 = .ok (.goto 3, 3) := by decide +kernel
theorem dX3_giveTrait_100 : decode cX3_giveTrait 100 = .ok (.return_, 1) := by decide +kernel
theorem dX3_milesToHatch_0 : decode cX3_milesToHatch 0 = .ok (.aload_n 0, 1) := by decide +kernel
theorem dX3_milesToHatch_1 : decode cX3_milesToHatch 1 = .ok (.getfield 18, 3) := by decide +kernel
theorem dX3_milesToHatch_4 : decode cX3_milesToHatch 4 = .ok (.iconst 1, 1) := by decide +kernel
theorem dX3_milesToHatch_5 : decode cX3_milesToHatch 5 = .ok (.if_icmp .ne 13, 3) := by decide +kernel
theorem dX3_milesToHatch_8 : decode cX3_milesToHatch 8 = .ok (.bipush 12, 2) := by decide +kernel
theorem dX3_milesToHatch_10 : decode cX3_milesToHatch 10 = .ok (.aload_n 0, 1) := by decide +kernel
theorem dX3_milesToHatch_11 : decode cX3_milesToHatch 11 = .ok (.getfield 15, 3) := by decide +kernel
theorem dX3_milesToHatch_14 : decode cX3_milesToHatch 14 = .ok (.isub, 1) := by decide +kernel
theorem dX3_milesToHatch_15 : decode cX3_milesToHatch 15 = .ok (.goto 7, 3) := by decide +kernel
theorem dX3_milesToHatch_18 : decode cX3_milesToHatch 18 = .ok (.aload_n 0, 1) := by decide +kernel
theorem dX3_milesToHatch_19 : decode cX3_milesToHatch 19 = .ok (.getfield 15, 3) := by decide +kernel
theorem dX3_milesToHatch_22 : decode cX3_milesToHatch 22 = .ok (.ireturn, 1) := by decide +kernel
