theorem dX5_init_0 : decode cX5_init 0 = .ok (.aload_n 0, 1) := by decide +kernel
theorem dX5_init_1 : decode cX5_init 1 = .ok (.invokespecial 1, 3) := by decide +kernel
theorem dX5_init_4 : decode cX5_init 4 = .ok (.aload_n 0, 1) := by decide +kernel
theorem dX5_init_5 : decode cX5_init 5 = .ok (.bipush 69, 2) := by decide +kernel
theorem dX5_init_7 : decode cX5_init 7 = .ok (.newarray .int, 2) := by decide +kernel
theorem dX5_init_9 : decode cX5_init 9 = .ok (.putfield 7, 3) := by decide +kernel
theorem dX5_init_12 : decode cX5_init 12 = .ok (.aload_n 0, 1) := by decide +kernel
theorem dX5_init_13 : decode cX5_init 13 = .ok (.bipush 69, 2) := by decide +kernel
theorem dX5_init_15 : decode cX5_init 15 = .ok (.newarray .int, 2) := by decide +kernel
theorem dX5_init_17 : decode cX5_init 17 = .ok (.putfield 13, 3) := by decide +kernel
theorem dX5_init_20 : decode cX5_init 20 = .ok (.aload_n 0, 1) := by decide +kernel
theorem dX5_init_21 : decode cX5_init 21 = .ok (.bipush 69, 2) := by decide +kernel
theorem dX5_init_23 : decode cX5_init 23 = .ok (.newarray .int, 2) := by decide +kernel
theorem dX5_init_25 : decode cX5_init 25 = .ok (.putfield 16, 3) := by decide +kernel
theorem dX5_init_28 : decode cX5_init 28 = .ok (.aload_n 0, 1) := by decide +kernel
theorem dX5_init_29 : decode cX5_init 29 = .ok (.bipush 69, 2) := by decide +kernel
theorem dX5_init_31 : decode cX5_init 31 = .ok (.newarray .int, 2) := by decide +kernel
theorem dX5_init_33 : decode cX5_init 33 = .ok (.putfield 19, 3) := by decide +kernel
theorem dX5_init_36 : decode cX5_init 36 = .ok (.aload_n 0, 1) := by decide +kernel
theorem dX5_init_37 : decode cX5_init 37 = .ok (.bipush 7, 2) := by decide +kernel
theorem dX5_init_39 : decode cX5_init 39 = .ok (.newarray .int, 2) := by decide +kernel
theorem dX5_init_41 : decode cX5_init 41 = .ok (.putfield 22, 3) := by decide +kernel
theorem dX5_init_44 : decode cX5_init 44 = .ok (.aload_n 0, 1) := by decide +kernel
theorem dX5_init_45 : decode cX5_init 45 = .ok (.bipush 120, 2) := by decide +kernel
theorem dX5_init_47 : decode cX5_init 47 = .ok (.newarray .int, 2) := by decide +kernel
theorem dX5_init_49 : decode cX5_init 49 = .ok (.putfield 25, 3) := by decide +kernel
theorem dX5_init_52 : decode cX5_init 52 = .ok (.aload_n 0, 1) := by decide +kernel
theorem dX5_init_53 : decode cX5_init 53 = .ok (.iconst 4, 1) := by decide +kernel
theorem dX5_init_54 : decode cX5_init 54 = .ok (.newarray .int, 2) := by decide +kernel
theorem dX5_init_56 : decode cX5_init 56 = .ok (.putfield 28, 3) := by decide +kernel
theorem dX5_init_59 : decode cX5_init 59 = .ok (.aload_n 0, 1) := by decide +kernel
theorem dX5_init_60 : decode cX5_init 60 = .ok (.iconst 4, 1) := by decide +kernel
theorem dX5_init_61 : decode cX5_init 61 = .ok (.newarray .int, 2) := by decide +kernel
theorem dX5_init_63 : decode cX5_init 63 = .ok (.putfield 31, 3) := by decide +kernel
theorem dX5_init_66 : decode cX5_init 66 = .ok (.aload_n 0, 1) := by decide +kernel
theorem dX5_init_67 : decode cX5_init 67 = .ok (.sipush 160, 3) := by decide +kernel
theorem dX5_init_70 : decode cX5_init 70 = .ok (.newarray .long, 2) := by decide +kernel
theorem dX5_init_72 : decode cX5_init 72 = .ok (.putfield 34, 3) := by decide +kernel
theorem dX5_init_75 : decode cX5_init 75 = .ok (.aload_n 0, 1) := by decide +kernel
theorem dX5_init_76 : decode cX5_init 76 = .ok (.bipush 40, 2) := by decide +kernel
theorem dX5_init_78 : decode cX5_init 78 = .ok (.newarray .long, 2) := by decide +kernel
theorem dX5_init_80 : decode cX5_init 80 = .ok (.putfield 38, 3) := by decide +kernel
theorem dX5_init_83 : decode cX5_init 83 = .ok (.aload_n 0, 1) := by decide +kernel
theorem dX5_init_84 : decode cX5_init 84 = .ok (.getfield 7, 3) := by decide +kernel
theorem dX5_init_87 : decode cX5_init 87 = .ok (.iconst 2, 1) := by decide +kernel
theorem dX5_init_88 : decode cX5_init 88 = .ok (.sipush 1000, 3) := by decide +kernel
theorem dX5_init_91 : decode cX5_init 91 = .ok (.iastore, 1) := by decide +kernel
theorem dX5_init_92 : decode cX5_init 92 = .ok (.aload_n 0, 1) := by decide +kernel
theorem dX5_init_93 : decode cX5_init 93 = .ok (.getfield 7, 3) := by decide +kernel
theorem dX5_init_96 : decode cX5_init 96 = .ok (.iconst 3, 1) := by decide +kernel
theorem dX5_init_97 : decode cX5_init 97 = .ok (.iconst 1, 1) := by decide +kernel
theorem dX5_init_98 : decode cX5_init 98 = .ok (.iastore, 1) := by decide +kernel
theorem dX5_init_99 : decode cX5_init 99 = .ok (.return_, 1) := by decide +kernel
theorem dX5_in_0 : decode cX5_in 0 = .ok (.lload_n 0, 1) := by decide +kernel
theorem dX5_in_1 : decode cX5_in 1 = .ok (.lload_n 2, 1) := by decide +kernel
theorem dX5_in_2 : decode cX5_in 2 = .ok (.lcmp, 1) := by decide +kernel
theorem dX5_in_3 : decode cX5_in 3 = .ok (.ifCond .lt 14, 3) := by decide +kernel
theorem dX5_in_6 : decode cX5_in 6 = .ok (.lload_n 0, 1) := by decide +kernel
theorem dX5_in_7 : decode cX5_in 7 = .ok (.lload 4, 2) := by decide +kernel
theorem dX5_in_9 : decode cX5_in 9 = .ok (.lcmp, 1) := by decide +kernel
theorem dX5_in_10 : decode cX5_in 10 = .ok (.ifCond .gt 7, 3) := by decide +kernel
theorem dX5_in_13 : decode cX5_in 13 = .ok (.iconst 1, 1) := by decide +kernel
theorem dX5_in_14 : decode cX5_in 14 = .ok (.goto 4, 3) := by decide +kernel
theorem dX5_in_17 : decode cX5_in 17 = .ok (.iconst 0, 1) := by decide +kernel
theorem dX5_in_18 : decode cX5_in 18 = .ok (.ireturn, 1) := by decide +kernel
theorem dX5_finds_0 : decode cX5_finds 0 = .ok (.aload_n 0, 1) := by decide +kernel
theorem dX5_finds_1 : decode cX5_finds 1 = .ok (.getfield 22, 3) := by decide +kernel
theorem dX5_finds_4 : decode cX5_finds 4 = .ok (.ldc 41, 2) := by decide +kernel
theorem dX5_finds_6 : decode cX5_finds 6 = .ok (.iload_n 1, 1) := by decide +kernel
theorem dX5_finds_7 : decode cX5_finds 7 = .ok (.isub, 1) := by decide +kernel
theorem dX5_finds_8 : decode cX5_finds 8 = .ok (.dup2, 1) := by decide +kernel
theorem dX5_finds_9 : decode cX5_finds 9 = .ok (.iaload, 1) := by decide +kernel
theorem dX5_finds_10 : decode cX5_finds 10 = .ok (.iconst 1, 1) := by decide +kernel
theorem dX5_finds_11 : decode cX5_finds 11 = .ok (.iadd, 1) := by decide +kernel
theorem dX5_finds_12 : decode cX5_finds 12 = .ok (.iastore, 1) := by decide +kernel
theorem dX5_finds_13 : decode cX5_finds 13 = .ok (.iload_n 1, 1) := by decide +kernel
theorem dX5_finds_14 : decode cX5_finds 14 = .ok (.ireturn, 1) := by decide +kernel
theorem dX5_saves_0 : decode cX5_saves 0 = .ok (.iconst 0, 1) := by decide +kernel
theorem dX5_saves_1 : decode cX5_saves 1 = .ok (.istore_n 1, 1) := by decide +kernel
theorem dX5_saves_2 : decode cX5_saves 2 = .ok (.iload_n 1, 1) := by decide +kernel
theorem dX5_saves_3 : decode cX5_saves 3 = .ok (.bipush 69, 2) := by decide +kernel
theorem dX5_saves_5 : decode cX5_saves 5 = .ok (.if_icmp .ge 21, 3) := by decide +kernel
theorem dX5_saves_8 : decode cX5_saves 8 = .ok (.aload_n 0, 1) := by decide +kernel
theorem dX5_saves_9 : decode cX5_saves 9 = .ok (.getfield 16, 3) := by decide +kernel
theorem dX5_saves_12 : decode cX5_saves 12 = .ok (.iload_n 1, 1) := by decide +kernel
theorem dX5_saves_13 : decode cX5_saves 13 = .ok (.aload_n 0, 1) := by decide +kernel
theorem dX5_saves_14 : decode cX5_saves 14 = .ok (.getfield 7, 3) := by decide +kernel
theorem dX5_saves_17 : decode cX5_saves 17 = .ok (.iload_n 1, 1) := by decide +kernel
theorem dX5_saves_18 : decode cX5_saves 18 = .ok (.iaload, 1) := by decide +kernel
theorem dX5_saves_19 : decode cX5_saves 19 = .ok (.iastore, 1) := by decide +kernel
theorem dX5_saves_20 : decode cX5_saves 20 = .ok (.iinc 1 1, 3) := by decide +kernel
theorem dX5_saves_23 : decode cX5_saves 23 = .ok (.goto (-21), 3) := by decide +kernel
theorem dX5_saves_26 : decode cX5_saves 26 = .ok (.return_, 1) := by decide +kernel
theorem dX5_putsBack_0 : decode cX5_putsBack 0 = .ok (.iconst 0, 1) := by decide +kernel
theorem dX5_putsBack_1 : decode cX5_putsBack 1 = .ok (.istore_n 1, 1) := by decide +kernel
theorem dX5_putsBack_2 : decode cX5_putsBack 2 = .ok (.iload_n 1, 1) := by decide +kernel
theorem dX5_putsBack_3 : decode cX5_putsBack 3 = .ok (.bipush 69, 2) := by decide +kernel
theorem dX5_putsBack_5 : decode cX5_putsBack 5 = .ok (.if_icmp .ge 21, 3) := by decide +kernel
theorem dX5_putsBack_8 : decode cX5_putsBack 8 = .ok (.aload_n 0, 1) := by decide +kernel
theorem dX5_putsBack_9 : decode cX5_putsBack 9 = .ok (.getfield 7, 3) := by decide +kernel
theorem dX5_putsBack_12 : decode cX5_putsBack 12 = .ok (.iload_n 1, 1) := by decide +kernel
theorem dX5_putsBack_13 : decode cX5_putsBack 13 = .ok (.aload_n 0, 1) := by decide +kernel
theorem dX5_putsBack_14 : decode cX5_putsBack 14 = .ok (.getfield 16, 3) := by decide +kernel
theorem dX5_putsBack_17 : decode cX5_putsBack 17 = .ok (.iload_n 1, 1) := by decide +kernel
theorem dX5_putsBack_18 : decode cX5_putsBack 18 = .ok (.iaload, 1) := by decide +kernel
theorem dX5_putsBack_19 : decode cX5_putsBack 19 = .ok (.iastore, 1) := by decide +kernel
theorem dX5_putsBack_20 : decode cX5_putsBack 20 = .ok (.iinc 1 1, 3) := by decide +kernel
theorem dX5_putsBack_23 : decode cX5_putsBack 23 = .ok (.goto (-21), 3) := by decide +kernel
theorem dX5_putsBack_26 : decode cX5_putsBack 26 = .ok (.return_, 1) := by decide +kernel
theorem dX5_laysAside_0 : decode cX5_laysAside 0 = .ok (.iconst 0, 1) := by decide +kernel
theorem dX5_laysAside_1 : decode cX5_laysAside 1 = .ok (.istore_n 1, 1) := by decide +kernel
theorem dX5_laysAside_2 : decode cX5_laysAside 2 = .ok (.iload_n 1, 1) := by decide +kernel
theorem dX5_laysAside_3 : decode cX5_laysAside 3 = .ok (.bipush 69, 2) := by decide +kernel
theorem dX5_laysAside_5 : decode cX5_laysAside 5 = .ok (.if_icmp .ge 21, 3) := by decide +kernel
theorem dX5_laysAside_8 : decode cX5_laysAside 8 = .ok (.aload_n 0, 1) := by decide +kernel
theorem dX5_laysAside_9 : decode cX5_laysAside 9 = .ok (.getfield 19, 3) := by decide +kernel
theorem dX5_laysAside_12 : decode cX5_laysAside 12 = .ok (.iload_n 1, 1) := by decide +kernel
theorem dX5_laysAside_13 : decode cX5_laysAside 13 = .ok (.aload_n 0, 1) := by decide +kernel
theorem dX5_laysAside_14 : decode cX5_laysAside 14 = .ok (.getfield 7, 3) := by decide +kernel
theorem dX5_laysAside_17 : decode cX5_laysAside 17 = .ok (.iload_n 1, 1) := by decide +kernel
theorem dX5_laysAside_18 : decode cX5_laysAside 18 = .ok (.iaload, 1) := by decide +kernel
theorem dX5_laysAside_19 : decode cX5_laysAside 19 = .ok (.iastore, 1) := by decide +kernel
theorem dX5_laysAside_20 : decode cX5_laysAside 20 = .ok (.iinc 1 1, 3) := by decide +kernel
theorem dX5_laysAside_23 : decode cX5_laysAside 23 = .ok (.goto (-21), 3) := by decide +kernel
theorem dX5_laysAside_26 : decode cX5_laysAside 26 = .ok (.return_, 1) := by decide +kernel
theorem dX5_takesBack_0 : decode cX5_takesBack 0 = .ok (.iconst 0, 1) := by decide +kernel
theorem dX5_takesBack_1 : decode cX5_takesBack 1 = .ok (.istore_n 2, 1) := by decide +kernel
theorem dX5_takesBack_2 : decode cX5_takesBack 2 = .ok (.iload_n 2, 1) := by decide +kernel
theorem dX5_takesBack_3 : decode cX5_takesBack 3 = .ok (.bipush 69, 2) := by decide +kernel
theorem dX5_takesBack_5 : decode cX5_takesBack 5 = .ok (.if_icmp .ge 21, 3) := by decide +kernel
theorem dX5_takesBack_8 : decode cX5_takesBack 8 = .ok (.aload_n 0, 1) := by decide +kernel
theorem dX5_takesBack_9 : decode cX5_takesBack 9 = .ok (.getfield 7, 3) := by decide +kernel
theorem dX5_takesBack_12 : decode cX5_takesBack 12 = .ok (.iload_n 2, 1) := by decide +kernel
theorem dX5_takesBack_13 : decode cX5_takesBack 13 = .ok (.aload_n 0, 1) := by decide +kernel
theorem dX5_takesBack_14 : decode cX5_takesBack 14 = .ok (.getfield 19, 3) := by decide +kernel
theorem dX5_takesBack_17 : decode cX5_takesBack 17 = .ok (.iload_n 2, 1) := by decide +kernel
theorem dX5_takesBack_18 : decode cX5_takesBack 18 = .ok (.iaload, 1) := by decide +kernel
theorem dX5_takesBack_19 : decode cX5_takesBack 19 = .ok (.iastore, 1) := by decide +kernel
theorem dX5_takesBack_20 : decode cX5_takesBack 20 = .ok (.iinc 2 1, 3) := by decide +kernel
theorem dX5_takesBack_23 : decode cX5_takesBack 23 = .ok (.goto (-21), 3) := by decide +kernel
theorem dX5_takesBack_26 : decode cX5_takesBack 26 = .ok (.iload_n 1, 1) := by decide +kernel
theorem dX5_takesBack_27 : decode cX5_takesBack 27 = .ok (.ireturn, 1) := by decide +kernel
theorem dX5_becomes_0 : decode cX5_becomes 0 = .ok (.aload_n 0, 1) := by decide +kernel
theorem dX5_becomes_1 : decode cX5_becomes 1 = .ok (.getfield 7, 3) := by decide +kernel
theorem dX5_becomes_4 : decode cX5_becomes 4 = .ok (.iload_n 1, 1) := by decide +kernel
theorem dX5_becomes_5 : decode cX5_becomes 5 = .ok (.iaload, 1) := by decide +kernel
theorem dX5_becomes_6 : decode cX5_becomes 6 = .ok (.istore_n 3, 1) := by decide +kernel
theorem dX5_becomes_7 : decode cX5_becomes 7 = .ok (.aload_n 0, 1) := by decide +kernel
theorem dX5_becomes_8 : decode cX5_becomes 8 = .ok (.getfield 7, 3) := by decide +kernel
theorem dX5_becomes_11 : decode cX5_becomes 11 = .ok (.iload_n 1, 1) := by decide +kernel
theorem dX5_becomes_12 : decode cX5_becomes 12 = .ok (.iload_n 2, 1) := by decide +kernel
theorem dX5_becomes_13 : decode cX5_becomes 13 = .ok (.iastore, 1) := by decide +kernel
theorem dX5_becomes_14 : decode cX5_becomes 14 = .ok (.iload_n 3, 1) := by decide +kernel
theorem dX5_becomes_15 : decode cX5_becomes 15 = .ok (.ireturn, 1) := by decide +kernel
set_option maxRecDepth 20000 in
theorem ggX5_isMile_X5_in : GoodIn wsX5_isMile wsX5_in := goodIn_r _ [5] (by decide +kernel) (by decide +kernel)
set_option maxRecDepth 20000 in
theorem gX5_isMile_X5_in : GoodIn wsX5_isMile (va_wsS RX5 44 yX5_in wsX5_in) := goodIn_app (goodIn_of _ (by decide +kernel)) ggX5_isMile_X5_in
theorem dX5_isMile_0 : decode cX5_isMile 0 = .ok (.iload_n 0, 1) := by decide +kernel
theorem dX5_isMile_1 : decode cX5_isMile 1 = .ok (.i2l, 1) := by decide +kernel
theorem dX5_isMile_2 : decode cX5_isMile 2 = .ok (.lconst 0, 1) := by decide +kernel
theorem dX5_isMile_3 : decode cX5_isMile 3 = .ok (.ldc2_w 42, 3) := by decide +kernel
theorem dX5_isMile_6 : decode cX5_isMile 6 = .ok (.invokestatic 44, 3) := by decide +kernel
theorem dX5_isMile_9 : decode cX5_isMile 9 = .ok (.ireturn, 1) := by decide +kernel
set_option maxRecDepth 20000 in
theorem ggX5_isWalker_X5_in : GoodIn wsX5_isWalker wsX5_in := goodIn_r _ [5] (by decide +kernel) (by decide +kernel)
set_option maxRecDepth 20000 in
theorem gX5_isWalker_X5_in : GoodIn wsX5_isWalker (va_wsS RX5 44 yX5_in wsX5_in) := goodIn_app (goodIn_of _ (by decide +kernel)) ggX5_isWalker_X5_in
theorem dX5_isWalker_0 : decode cX5_isWalker 0 = .ok (.iload_n 1, 1) := by decide +kernel
theorem dX5_isWalker_1 : decode cX5_isWalker 1 = .ok (.i2l, 1) := by decide +kernel
theorem dX5_isWalker_2 : decode cX5_isWalker 2 = .ok (.lconst 0, 1) := by decide +kernel
theorem dX5_isWalker_3 : decode cX5_isWalker 3 = .ok (.aload_n 0, 1) := by decide +kernel
theorem dX5_isWalker_4 : decode cX5_isWalker 4 = .ok (.getfield 7, 3) := by decide +kernel
theorem dX5_isWalker_7 : decode cX5_isWalker 7 = .ok (.iconst 0, 1) := by decide +kernel
theorem dX5_isWalker_8 : decode cX5_isWalker 8 = .ok (.iaload, 1) := by decide +kernel
theorem dX5_isWalker_9 : decode cX5_isWalker 9 = .ok (.iconst 1, 1) := by decide +kernel
theorem dX5_isWalker_10 : decode cX5_isWalker 10 = .ok (.isub, 1) := by decide +kernel
theorem dX5_isWalker_11 : decode cX5_isWalker 11 = .ok (.i2l, 1) := by decide +kernel
theorem dX5_isWalker_12 : decode cX5_isWalker 12 = .ok (.invokestatic 44, 3) := by decide +kernel
theorem dX5_isWalker_15 : decode cX5_isWalker 15 = .ok (.ireturn, 1) := by decide +kernel
set_option maxRecDepth 20000 in
theorem ggX5_areTwo_X5_isWalker : GoodIn wsX5_areTwo wsX5_isWalker := goodIn_r _ [5, 6, 7, 8, 4, 9, 10, 11, 12, 13, 14, 15, 16, 17, 18, 19, 20, 21, 22, 23, 24, 25] (by decide +kernel) (by decide +kernel)
set_option maxRecDepth 20000 in
theorem gX5_areTwo_X5_isWalker : GoodIn wsX5_areTwo (wsV RX5 48 RX5 yX5_isWalker wsX5_isWalker) := goodIn_app (goodIn_of _ (by decide +kernel)) ggX5_areTwo_X5_isWalker
theorem dX5_areTwo_0 : decode cX5_areTwo 0 = .ok (.aload_n 0, 1) := by decide +kernel
theorem dX5_areTwo_1 : decode cX5_areTwo 1 = .ok (.iload_n 1, 1) := by decide +kernel
theorem dX5_areTwo_2 : decode cX5_areTwo 2 = .ok (.invokevirtual 48, 3) := by decide +kernel
theorem dX5_areTwo_5 : decode cX5_areTwo 5 = .ok (.ifCond .eq 20, 3) := by decide +kernel
theorem dX5_areTwo_8 : decode cX5_areTwo 8 = .ok (.aload_n 0, 1) := by decide +kernel
theorem dX5_areTwo_9 : decode cX5_areTwo 9 = .ok (.iload_n 2, 1) := by decide +kernel
theorem dX5_areTwo_10 : decode cX5_areTwo 10 = .ok (.invokevirtual 48, 3) := by decide +kernel
theorem dX5_areTwo_13 : decode cX5_areTwo 13 = .ok (.ifCond .eq 12, 3) := by decide +kernel
theorem dX5_areTwo_16 : decode cX5_areTwo 16 = .ok (.iload_n 1, 1) := by decide +kernel
theorem dX5_areTwo_17 : decode cX5_areTwo 17 = .ok (.iload_n 2, 1) := by decide +kernel
theorem dX5_areTwo_18 : decode cX5_areTwo 18 = .ok (.if_icmp .eq 7, 3) := by decide +kernel
theorem dX5_areTwo_21 : decode cX5_areTwo 21 = .ok (.iconst 1, 1) := by decide +kernel
theorem dX5_areTwo_22 : decode cX5_areTwo 22 = .ok (.goto 4, 3) := by decide +kernel
theorem dX5_areTwo_25 : decode cX5_areTwo 25 = .ok (.iconst 0, 1) := by decide +kernel
theorem dX5_areTwo_26 : decode cX5_areTwo 26 = .ok (.ireturn, 1) := by decide +kernel
set_option maxRecDepth 20000 in
theorem ggX5_isKind_X5_in : GoodIn wsX5_isKind wsX5_in := goodIn_r _ [5] (by decide +kernel) (by decide +kernel)
set_option maxRecDepth 20000 in
theorem gX5_isKind_X5_in : GoodIn wsX5_isKind (va_wsS RX5 44 yX5_in wsX5_in) := goodIn_app (goodIn_of _ (by decide +kernel)) ggX5_isKind_X5_in
theorem dX5_isKind_0 : decode cX5_isKind 0 = .ok (.iload_n 0, 1) := by decide +kernel
theorem dX5_isKind_1 : decode cX5_isKind 1 = .ok (.i2l, 1) := by decide +kernel
theorem dX5_isKind_2 : decode cX5_isKind 2 = .ok (.lconst 0, 1) := by decide +kernel
theorem dX5_isKind_3 : decode cX5_isKind 3 = .ok (.ldc2_w 52, 3) := by decide +kernel
theorem dX5_isKind_6 : decode cX5_isKind 6 = .ok (.invokestatic 44, 3) := by decide +kernel
theorem dX5_isKind_9 : decode cX5_isKind 9 = .ok (.ireturn, 1) := by decide +kernel
theorem dX5_spotOf_0 : decode cX5_spotOf 0 = .ok (.iconst 5, 1) := by decide +kernel
theorem dX5_spotOf_1 : decode cX5_spotOf 1 = .ok (.bipush 8, 2) := by decide +kernel
theorem dX5_spotOf_3 : decode cX5_spotOf 3 = .ok (.iload_n 0, 1) := by decide +kernel
theorem dX5_spotOf_4 : decode cX5_spotOf 4 = .ok (.imul, 1) := by decide +kernel
theorem dX5_spotOf_5 : decode cX5_spotOf 5 = .ok (.iadd, 1) := by decide +kernel
theorem dX5_spotOf_6 : decode cX5_spotOf 6 = .ok (.iload_n 1, 1) := by decide +kernel
theorem dX5_spotOf_7 : decode cX5_spotOf 7 = .ok (.iadd, 1) := by decide +kernel
theorem dX5_spotOf_8 : decode cX5_spotOf 8 = .ok (.ireturn, 1) := by decide +kernel
set_option maxRecDepth 20000 in
theorem ggX5_its_X5_spotOf : GoodIn wsX5_its wsX5_spotOf := goodIn_r _ [5] (by decide +kernel) (by decide +kernel)
set_option maxRecDepth 20000 in
theorem gX5_its_X5_spotOf : GoodIn wsX5_its (va_wsS RX5 54 yX5_spotOf wsX5_spotOf) := goodIn_app (goodIn_of _ (by decide +kernel)) ggX5_its_X5_spotOf
theorem dX5_its_0 : decode cX5_its 0 = .ok (.aload_n 0, 1) := by decide +kernel
theorem dX5_its_1 : decode cX5_its 1 = .ok (.getfield 7, 3) := by decide +kernel
theorem dX5_its_4 : decode cX5_its 4 = .ok (.iload_n 1, 1) := by decide +kernel
theorem dX5_its_5 : decode cX5_its 5 = .ok (.iload_n 2, 1) := by decide +kernel
theorem dX5_its_6 : decode cX5_its 6 = .ok (.invokestatic 54, 3) := by decide +kernel
theorem dX5_its_9 : decode cX5_its 9 = .ok (.iaload, 1) := by decide +kernel
theorem dX5_its_10 : decode cX5_its 10 = .ok (.ireturn, 1) := by decide +kernel
set_option maxRecDepth 20000 in
theorem ggX5_road_X5_in : GoodIn wsX5_road wsX5_in := goodIn_r _ [8] (by decide +kernel) (by decide +kernel)
set_option maxRecDepth 20000 in
theorem gX5_road_X5_in : GoodIn wsX5_road (va_wsS RX5 44 yX5_in wsX5_in) := goodIn_app (goodIn_of _ (by decide +kernel)) ggX5_road_X5_in
set_option maxRecDepth 20000 in
theorem ggX5_road_X5_becomes : GoodIn wsX5_road wsX5_becomes := goodIn_r _ [12, 13, 19, 20, 21, 22, 23, 24, 25, 26, 27, 28, 29, 30, 31, 32, 33, 34] (by decide +kernel) (by decide +kernel)
set_option maxRecDepth 20000 in
theorem gX5_road_X5_becomes : GoodIn wsX5_road (wsV RX5 64 RX5 yX5_becomes wsX5_becomes) := goodIn_app (goodIn_of _ (by decide +kernel)) ggX5_road_X5_becomes
set_option maxRecDepth 20000 in
theorem ggX5_road_X5_finds : GoodIn wsX5_road wsX5_finds := goodIn_r _ [17, 18, 4, 19, 20, 21, 22, 23, 24, 25, 26, 27, 28, 29, 30, 31, 32, 33, 34] (by decide +kernel) (by decide +kernel)
set_option maxRecDepth 20000 in
theorem gX5_road_X5_finds : GoodIn wsX5_road (wsV RX5 67 RX5 yX5_finds wsX5_finds) := goodIn_app (goodIn_of _ (by decide +kernel)) ggX5_road_X5_finds
theorem dX5_road_0 : decode cX5_road 0 = .ok (.iload_n 1, 1) := by decide +kernel
theorem dX5_road_1 : decode cX5_road 1 = .ok (.i2l, 1) := by decide +kernel
theorem dX5_road_2 : decode cX5_road 2 = .ok (.lconst 0, 1) := by decide +kernel
theorem dX5_road_3 : decode cX5_road 3 = .ok (.ldc2_w 58, 3) := by decide +kernel
theorem dX5_road_6 : decode cX5_road 6 = .ok (.invokestatic 44, 3) := by decide +kernel
theorem dX5_road_9 : decode cX5_road 9 = .ok (.ifCond .eq 38, 3) := by decide +kernel
theorem dX5_road_12 : decode cX5_road 12 = .ok (.iload_n 2, 1) := by decide +kernel
theorem dX5_road_13 : decode cX5_road 13 = .ok (.i2l, 1) := by decide +kernel
theorem dX5_road_14 : decode cX5_road 14 = .ok (.lconst 0, 1) := by decide +kernel
theorem dX5_road_15 : decode cX5_road 15 = .ok (.iload_n 1, 1) := by decide +kernel
theorem dX5_road_16 : decode cX5_road 16 = .ok (.ifCond .ne 9, 3) := by decide +kernel
theorem dX5_road_19 : decode cX5_road 19 = .ok (.ldc2_w 60, 3) := by decide +kernel
theorem dX5_road_22 : decode cX5_road 22 = .ok (.goto 15, 3) := by decide +kernel
theorem dX5_road_25 : decode cX5_road 25 = .ok (.iload_n 1, 1) := by decide +kernel
theorem dX5_road_26 : decode cX5_road 26 = .ok (.iconst 1, 1) := by decide +kernel
theorem dX5_road_27 : decode cX5_road 27 = .ok (.if_icmp .ne 9, 3) := by decide +kernel
theorem dX5_road_30 : decode cX5_road 30 = .ok (.ldc2_w 62, 3) := by decide +kernel
theorem dX5_road_33 : decode cX5_road 33 = .ok (.goto 4, 3) := by decide +kernel
theorem dX5_road_36 : decode cX5_road 36 = .ok (.lconst 1, 1) := by decide +kernel
theorem dX5_road_37 : decode cX5_road 37 = .ok (.invokestatic 44, 3) := by decide +kernel
theorem dX5_road_40 : decode cX5_road 40 = .ok (.ifCond .eq 7, 3) := by decide +kernel
theorem dX5_road_43 : decode cX5_road 43 = .ok (.iconst 1, 1) := by decide +kernel
theorem dX5_road_44 : decode cX5_road 44 = .ok (.goto 4, 3) := by decide +kernel
theorem dX5_road_47 : decode cX5_road 47 = .ok (.iconst 0, 1) := by decide +kernel
theorem dX5_road_48 : decode cX5_road 48 = .ok (.istore_n 3, 1) := by decide +kernel
theorem dX5_road_49 : decode cX5_road 49 = .ok (.iload_n 3, 1) := by decide +kernel
theorem dX5_road_50 : decode cX5_road 50 = .ok (.ifCond .eq 14, 3) := by decide +kernel
theorem dX5_road_53 : decode cX5_road 53 = .ok (.aload_n 0, 1) := by decide +kernel
theorem dX5_road_54 : decode cX5_road 54 = .ok (.iconst 2, 1) := by decide +kernel
theorem dX5_road_55 : decode cX5_road 55 = .ok (.iload_n 1, 1) := by decide +kernel
theorem dX5_road_56 : decode cX5_road 56 = .ok (.iadd, 1) := by decide +kernel
theorem dX5_road_57 : decode cX5_road 57 = .ok (.iload_n 2, 1) := by decide +kernel
theorem dX5_road_58 : decode cX5_road 58 = .ok (.invokevirtual 64, 3) := by decide +kernel
theorem dX5_road_61 : decode cX5_road 61 = .ok (.goto 9, 3) := by decide +kernel
theorem dX5_road_64 : decode cX5_road 64 = .ok (.aload_n 0, 1) := by decide +kernel
theorem dX5_road_65 : decode cX5_road 65 = .ok (.ldc 41, 2) := by decide +kernel
theorem dX5_road_67 : decode cX5_road 67 = .ok (.invokevirtual 67, 3) := by decide +kernel
theorem dX5_road_70 : decode cX5_road 70 = .ok (.ireturn, 1) := by decide +kernel
set_option maxRecDepth 20000 in
theorem ggX5_thoseAt_X5_its : GoodIn wsX5_thoseAt wsX5_its := goodIn_r _ [6, 1, 7, 8, 5, 9, 10, 11, 12, 13, 14, 15, 16, 17, 18, 19, 20, 21, 22, 23, 24, 25] (by decide +kernel) (by decide +kernel)
set_option maxRecDepth 20000 in
theorem gX5_thoseAt_X5_its : GoodIn wsX5_thoseAt (wsV RX5 71 RX5 yX5_its wsX5_its) := goodIn_app (goodIn_of _ (by decide +kernel)) ggX5_thoseAt_X5_its
theorem dX5_thoseAt_0 : decode cX5_thoseAt 0 = .ok (.iconst 0, 1) := by decide +kernel
theorem dX5_thoseAt_1 : decode cX5_thoseAt 1 = .ok (.istore_n 2, 1) := by decide +kernel
theorem dX5_thoseAt_2 : decode cX5_thoseAt 2 = .ok (.iconst 0, 1) := by decide +kernel
theorem dX5_thoseAt_3 : decode cX5_thoseAt 3 = .ok (.istore_n 3, 1) := by decide +kernel
theorem dX5_thoseAt_4 : decode cX5_thoseAt 4 = .ok (.iload_n 3, 1) := by decide +kernel
theorem dX5_thoseAt_5 : decode cX5_thoseAt 5 = .ok (.aload_n 0, 1) := by decide +kernel
theorem dX5_thoseAt_6 : decode cX5_thoseAt 6 = .ok (.getfield 7, 3) := by decide +kernel
theorem dX5_thoseAt_9 : decode cX5_thoseAt 9 = .ok (.iconst 0, 1) := by decide +kernel
theorem dX5_thoseAt_10 : decode cX5_thoseAt 10 = .ok (.iaload, 1) := by decide +kernel
theorem dX5_thoseAt_11 : decode cX5_thoseAt 11 = .ok (.if_icmp .ge 29, 3) := by decide +kernel
theorem dX5_thoseAt_14 : decode cX5_thoseAt 14 = .ok (.iload_n 2, 1) := by decide +kernel
theorem dX5_thoseAt_15 : decode cX5_thoseAt 15 = .ok (.aload_n 0, 1) := by decide +kernel
theorem dX5_thoseAt_16 : decode cX5_thoseAt 16 = .ok (.iload_n 3, 1) := by decide +kernel
theorem dX5_thoseAt_17 : decode cX5_thoseAt 17 = .ok (.iconst 1, 1) := by decide +kernel
theorem dX5_thoseAt_18 : decode cX5_thoseAt 18 = .ok (.invokevirtual 71, 3) := by decide +kernel
theorem dX5_thoseAt_21 : decode cX5_thoseAt 21 = .ok (.iload_n 1, 1) := by decide +kernel
theorem dX5_thoseAt_22 : decode cX5_thoseAt 22 = .ok (.if_icmp .ne 9, 3) := by decide +kernel
theorem dX5_thoseAt_25 : decode cX5_thoseAt 25 = .ok (.iconst 1, 1) := by decide +kernel
theorem dX5_thoseAt_26 : decode cX5_thoseAt 26 = .ok (.iload_n 3, 1) := by decide +kernel
theorem dX5_thoseAt_27 : decode cX5_thoseAt 27 = .ok (.ishl, 1) := by decide +kernel
theorem dX5_thoseAt_28 : decode cX5_thoseAt 28 = .ok (.goto 4, 3) := by decide +kernel
theorem dX5_thoseAt_31 : decode cX5_thoseAt 31 = .ok (.iconst 0, 1) := by decide +kernel
theorem dX5_thoseAt_32 : decode cX5_thoseAt 32 = .ok (.ior, 1) := by decide +kernel
theorem dX5_thoseAt_33 : decode cX5_thoseAt 33 = .ok (.istore_n 2, 1) := by decide +kernel
theorem dX5_thoseAt_34 : decode cX5_thoseAt 34 = .ok (.iinc 3 1, 3) := by decide +kernel
theorem dX5_thoseAt_37 : decode cX5_thoseAt 37 = .ok (.goto (-33), 3) := by decide +kernel
theorem dX5_thoseAt_40 : decode cX5_thoseAt 40 = .ok (.iload_n 2, 1) := by decide +kernel
theorem dX5_thoseAt_41 : decode cX5_thoseAt 41 = .ok (.ireturn, 1) := by decide +kernel
set_option maxRecDepth 20000 in
theorem ggX5_at_X5_isMile : GoodIn wsX5_at wsX5_isMile := goodIn_r _ [5, 6, 7, 8, 4, 9] (by decide +kernel) (by decide +kernel)
set_option maxRecDepth 20000 in
theorem gX5_at_X5_isMile : GoodIn wsX5_at (va_wsS RX5 74 yX5_isMile wsX5_isMile) := goodIn_app (goodIn_of _ (by decide +kernel)) ggX5_at_X5_isMile
set_option maxRecDepth 20000 in
theorem ggX5_at_X5_thoseAt : GoodIn wsX5_at wsX5_thoseAt := goodIn_r _ [13, 14, 15, 16, 17, 4, 18, 19, 20, 21, 27, 28, 29, 30, 31, 32, 33, 34, 35, 36, 37, 38, 39, 40, 41, 42] (by decide +kernel) (by decide +kernel)
set_option maxRecDepth 20000 in
theorem gX5_at_X5_thoseAt : GoodIn wsX5_at (wsV RX5 77 RX5 yX5_thoseAt wsX5_thoseAt) := goodIn_app (goodIn_of _ (by decide +kernel)) ggX5_at_X5_thoseAt
set_option maxRecDepth 20000 in
theorem ggX5_at_X5_finds : GoodIn wsX5_at wsX5_finds := goodIn_r _ [25, 26, 1, 27, 28, 29, 30, 31, 32, 33, 34, 35, 36, 37, 38, 39, 40, 41, 42] (by decide +kernel) (by decide +kernel)
set_option maxRecDepth 20000 in
theorem gX5_at_X5_finds : GoodIn wsX5_at (wsV RX5 67 RX5 yX5_finds wsX5_finds) := goodIn_app (goodIn_of _ (by decide +kernel)) ggX5_at_X5_finds
theorem dX5_at_0 : decode cX5_at 0 = .ok (.iload_n 1, 1) := by decide +kernel
theorem dX5_at_1 : decode cX5_at 1 = .ok (.invokestatic 74, 3) := by decide +kernel
theorem dX5_at_4 : decode cX5_at 4 = .ok (.ifCond .eq 11, 3) := by decide +kernel
theorem dX5_at_7 : decode cX5_at 7 = .ok (.aload_n 0, 1) := by decide +kernel
theorem dX5_at_8 : decode cX5_at 8 = .ok (.iload_n 1, 1) := by decide +kernel
theorem dX5_at_9 : decode cX5_at 9 = .ok (.invokevirtual 77, 3) := by decide +kernel
theorem dX5_at_12 : decode cX5_at 12 = .ok (.goto 9, 3) := by decide +kernel
theorem dX5_at_15 : decode cX5_at 15 = .ok (.aload_n 0, 1) := by decide +kernel
theorem dX5_at_16 : decode cX5_at 16 = .ok (.ldc 41, 2) := by decide +kernel
theorem dX5_at_18 : decode cX5_at 18 = .ok (.invokevirtual 67, 3) := by decide +kernel
theorem dX5_at_21 : decode cX5_at 21 = .ok (.ireturn, 1) := by decide +kernel
set_option maxRecDepth 20000 in
theorem ggX5_adds_X5_spotOf : GoodIn wsX5_adds wsX5_spotOf := goodIn_r _ [5] (by decide +kernel) (by decide +kernel)
set_option maxRecDepth 20000 in
theorem gX5_adds_X5_spotOf : GoodIn wsX5_adds (va_wsS RX5 54 yX5_spotOf wsX5_spotOf) := goodIn_app (goodIn_of _ (by decide +kernel)) ggX5_adds_X5_spotOf
theorem dX5_adds_0 : decode cX5_adds 0 = .ok (.aload_n 0, 1) := by decide +kernel
theorem dX5_adds_1 : decode cX5_adds 1 = .ok (.getfield 7, 3) := by decide +kernel
theorem dX5_adds_4 : decode cX5_adds 4 = .ok (.iconst 0, 1) := by decide +kernel
theorem dX5_adds_5 : decode cX5_adds 5 = .ok (.iaload, 1) := by decide +kernel
theorem dX5_adds_6 : decode cX5_adds 6 = .ok (.istore_n 3, 1) := by decide +kernel
theorem dX5_adds_7 : decode cX5_adds 7 = .ok (.iconst 0, 1) := by decide +kernel
theorem dX5_adds_8 : decode cX5_adds 8 = .ok (.istore 4, 2) := by decide +kernel
theorem dX5_adds_10 : decode cX5_adds 10 = .ok (.iload 4, 2) := by decide +kernel
theorem dX5_adds_12 : decode cX5_adds 12 = .ok (.bipush 8, 2) := by decide +kernel
theorem dX5_adds_14 : decode cX5_adds 14 = .ok (.if_icmp .ge 21, 3) := by decide +kernel
theorem dX5_adds_17 : decode cX5_adds 17 = .ok (.aload_n 0, 1) := by decide +kernel
theorem dX5_adds_18 : decode cX5_adds 18 = .ok (.getfield 7, 3) := by decide +kernel
theorem dX5_adds_21 : decode cX5_adds 21 = .ok (.iload_n 3, 1) := by decide +kernel
theorem dX5_adds_22 : decode cX5_adds 22 = .ok (.iload 4, 2) := by decide +kernel
theorem dX5_adds_24 : decode cX5_adds 24 = .ok (.invokestatic 54, 3) := by decide +kernel
theorem dX5_adds_27 : decode cX5_adds 27 = .ok (.iconst 0, 1) := by decide +kernel
theorem dX5_adds_28 : decode cX5_adds 28 = .ok (.iastore, 1) := by decide +kernel
theorem dX5_adds_29 : decode cX5_adds 29 = .ok (.iinc 4 1, 3) := by decide +kernel
theorem dX5_adds_32 : decode cX5_adds 32 = .ok (.goto (-22), 3) := by decide +kernel
theorem dX5_adds_35 : decode cX5_adds 35 = .ok (.aload_n 0, 1) := by decide +kernel
theorem dX5_adds_36 : decode cX5_adds 36 = .ok (.getfield 7, 3) := by decide +kernel
theorem dX5_adds_39 : decode cX5_adds 39 = .ok (.iload_n 3, 1) := by decide +kernel
theorem dX5_adds_40 : decode cX5_adds 40 = .ok (.iconst 0, 1) := by decide +kernel
theorem dX5_adds_41 : decode cX5_adds 41 = .ok (.invokestatic 54, 3) := by decide +kernel
theorem dX5_adds_44 : decode cX5_adds 44 = .ok (.iload_n 1, 1) := by decide +kernel
theorem dX5_adds_45 : decode cX5_adds 45 = .ok (.iastore, 1) := by decide +kernel
theorem dX5_adds_46 : decode cX5_adds 46 = .ok (.aload_n 0, 1) := by decide +kernel
theorem dX5_adds_47 : decode cX5_adds 47 = .ok (.getfield 7, 3) := by decide +kernel
theorem dX5_adds_50 : decode cX5_adds 50 = .ok (.iload_n 3, 1) := by decide +kernel
theorem dX5_adds_51 : decode cX5_adds 51 = .ok (.iconst 1, 1) := by decide +kernel
theorem dX5_adds_52 : decode cX5_adds 52 = .ok (.invokestatic 54, 3) := by decide +kernel
theorem dX5_adds_55 : decode cX5_adds 55 = .ok (.iload_n 2, 1) := by decide +kernel
theorem dX5_adds_56 : decode cX5_adds 56 = .ok (.iastore, 1) := by decide +kernel
theorem dX5_adds_57 : decode cX5_adds 57 = .ok (.aload_n 0, 1) := by decide +kernel
theorem dX5_adds_58 : decode cX5_adds 58 = .ok (.getfield 7, 3) := by decide +kernel
theorem dX5_adds_61 : decode cX5_adds 61 = .ok (.iload_n 3, 1) := by decide +kernel
theorem dX5_adds_62 : decode cX5_adds 62 = .ok (.iconst 2, 1) := by decide +kernel
theorem dX5_adds_63 : decode cX5_adds 63 = .ok (.invokestatic 54, 3) := by decide +kernel
theorem dX5_adds_66 : decode cX5_adds 66 = .ok (.iconst 1, 1) := by decide +kernel
theorem dX5_adds_67 : decode cX5_adds 67 = .ok (.iastore, 1) := by decide +kernel
theorem dX5_adds_68 : decode cX5_adds 68 = .ok (.aload_n 0, 1) := by decide +kernel
theorem dX5_adds_69 : decode cX5_adds 69 = .ok (.getfield 7, 3) := by decide +kernel
theorem dX5_adds_72 : decode cX5_adds 72 = .ok (.iload_n 3, 1) := by decide +kernel
theorem dX5_adds_73 : decode cX5_adds 73 = .ok (.iconst 3, 1) := by decide +kernel
theorem dX5_adds_74 : decode cX5_adds 74 = .ok (.invokestatic 54, 3) := by decide +kernel
theorem dX5_adds_77 : decode cX5_adds 77 = .ok (.iconst 5, 1) := by decide +kernel
theorem dX5_adds_78 : decode cX5_adds 78 = .ok (.iastore, 1) := by decide +kernel
theorem dX5_adds_79 : decode cX5_adds 79 = .ok (.aload_n 0, 1) := by decide +kernel
theorem dX5_adds_80 : decode cX5_adds 80 = .ok (.getfield 7, 3) := by decide +kernel
theorem dX5_adds_83 : decode cX5_adds 83 = .ok (.iconst 0, 1) := by decide +kernel
theorem dX5_adds_84 : decode cX5_adds 84 = .ok (.dup2, 1) := by decide +kernel
theorem dX5_adds_85 : decode cX5_adds 85 = .ok (.iaload, 1) := by decide +kernel
theorem dX5_adds_86 : decode cX5_adds 86 = .ok (.iconst 1, 1) := by decide +kernel
theorem dX5_adds_87 : decode cX5_adds 87 = .ok (.iadd, 1) := by decide +kernel
theorem dX5_adds_88 : decode cX5_adds 88 = .ok (.iastore, 1) := by decide +kernel
theorem dX5_adds_89 : decode cX5_adds 89 = .ok (.iload_n 3, 1) := by decide +kernel
theorem dX5_adds_90 : decode cX5_adds 90 = .ok (.ireturn, 1) := by decide +kernel
set_option maxRecDepth 20000 in
theorem ggX5_walker_X5_isKind : GoodIn wsX5_walker wsX5_isKind := goodIn_r _ [7, 8, 9, 10, 6, 11] (by decide +kernel) (by decide +kernel)
set_option maxRecDepth 20000 in
theorem gX5_walker_X5_isKind : GoodIn wsX5_walker (va_wsS RX5 80 yX5_isKind wsX5_isKind) := goodIn_app (goodIn_of _ (by decide +kernel)) ggX5_walker_X5_isKind
set_option maxRecDepth 20000 in
theorem ggX5_walker_X5_isMile : GoodIn wsX5_walker wsX5_isMile := goodIn_r _ [14, 15, 9, 10, 6, 11] (by decide +kernel) (by decide +kernel)
set_option maxRecDepth 20000 in
theorem gX5_walker_X5_isMile : GoodIn wsX5_walker (va_wsS RX5 74 yX5_isMile wsX5_isMile) := goodIn_app (goodIn_of _ (by decide +kernel)) ggX5_walker_X5_isMile
set_option maxRecDepth 20000 in
theorem ggX5_walker_X5_finds : GoodIn wsX5_walker wsX5_finds := goodIn_r _ [19, 20, 1, 28, 29, 30, 31, 32, 33, 34, 35, 36, 37, 38, 39, 40, 41, 42, 43] (by decide +kernel) (by decide +kernel)
set_option maxRecDepth 20000 in
theorem gX5_walker_X5_finds : GoodIn wsX5_walker (wsV RX5 67 RX5 yX5_finds wsX5_finds) := goodIn_app (goodIn_of _ (by decide +kernel)) ggX5_walker_X5_finds
set_option maxRecDepth 20000 in
theorem ggX5_walker_X5_adds : GoodIn wsX5_walker wsX5_adds := goodIn_r _ [24, 2, 25, 26, 6, 27, 28, 29, 30, 31, 32, 33, 34, 35, 36, 37, 38, 39, 40, 41, 42, 43] (by decide +kernel) (by decide +kernel)
set_option maxRecDepth 20000 in
theorem gX5_walker_X5_adds : GoodIn wsX5_walker (wsV RX5 84 RX5 yX5_adds wsX5_adds) := goodIn_app (goodIn_of _ (by decide +kernel)) ggX5_walker_X5_adds
theorem dX5_walker_0 : decode cX5_walker 0 = .ok (.iload_n 1, 1) := by decide +kernel
theorem dX5_walker_1 : decode cX5_walker 1 = .ok (.invokestatic 80, 3) := by decide +kernel
theorem dX5_walker_4 : decode cX5_walker 4 = .ok (.ifCond .eq 10, 3) := by decide +kernel
theorem dX5_walker_7 : decode cX5_walker 7 = .ok (.iload_n 2, 1) := by decide +kernel
theorem dX5_walker_8 : decode cX5_walker 8 = .ok (.invokestatic 74, 3) := by decide +kernel
theorem dX5_walker_11 : decode cX5_walker 11 = .ok (.ifCond .ne 10, 3) := by decide +kernel
theorem dX5_walker_14 : decode cX5_walker 14 = .ok (.aload_n 0, 1) := by decide +kernel
theorem dX5_walker_15 : decode cX5_walker 15 = .ok (.ldc 41, 2) := by decide +kernel
theorem dX5_walker_17 : decode cX5_walker 17 = .ok (.invokevirtual 67, 3) := by decide +kernel
theorem dX5_walker_20 : decode cX5_walker 20 = .ok (.ireturn, 1) := by decide +kernel
theorem dX5_walker_21 : decode cX5_walker 21 = .ok (.aload_n 0, 1) := by decide +kernel
theorem dX5_walker_22 : decode cX5_walker 22 = .ok (.getfield 7, 3) := by decide +kernel
theorem dX5_walker_25 : decode cX5_walker 25 = .ok (.iconst 0, 1) := by decide +kernel
theorem dX5_walker_26 : decode cX5_walker 26 = .ok (.iaload, 1) := by decide +kernel
theorem dX5_walker_27 : decode cX5_walker 27 = .ok (.bipush 8, 2) := by decide +kernel
theorem dX5_walker_29 : decode cX5_walker 29 = .ok (.if_icmp .ne 12, 3) := by decide +kernel
theorem dX5_walker_32 : decode cX5_walker 32 = .ok (.aload_n 0, 1) := by decide +kernel
theorem dX5_walker_33 : decode cX5_walker 33 = .ok (.ldc 83, 2) := by decide +kernel
theorem dX5_walker_35 : decode cX5_walker 35 = .ok (.invokevirtual 67, 3) := by decide +kernel
theorem dX5_walker_38 : decode cX5_walker 38 = .ok (.goto 9, 3) := by decide +kernel
theorem dX5_walker_41 : decode cX5_walker 41 = .ok (.aload_n 0, 1) := by decide +kernel
theorem dX5_walker_42 : decode cX5_walker 42 = .ok (.iload_n 1, 1) := by decide +kernel
theorem dX5_walker_43 : decode cX5_walker 43 = .ok (.iload_n 2, 1) := by decide +kernel
theorem dX5_walker_44 : decode cX5_walker 44 = .ok (.invokevirtual 84, 3) := by decide +kernel
theorem dX5_walker_47 : decode cX5_walker 47 = .ok (.ireturn, 1) := by decide +kernel
set_option maxRecDepth 20000 in
theorem ggX5_paceOf_X5_its : GoodIn wsX5_paceOf wsX5_its := goodIn_r _ [6, 1, 7, 8, 5, 9, 14, 15, 16, 17, 18, 19, 20, 21, 22, 23, 24, 25, 26, 27, 28, 29] (by decide +kernel) (by decide +kernel)
set_option maxRecDepth 20000 in
theorem gX5_paceOf_X5_its : GoodIn wsX5_paceOf (wsV RX5 71 RX5 yX5_its wsX5_its) := goodIn_app (goodIn_of _ (by decide +kernel)) ggX5_paceOf_X5_its
set_option maxRecDepth 20000 in
theorem ggX5_paceOf_X5_thoseAt : GoodIn wsX5_paceOf wsX5_thoseAt := goodIn_r _ [13, 1, 2, 3, 4, 5, 6, 7, 8, 9, 14, 15, 16, 17, 18, 19, 20, 21, 22, 23, 24, 25, 26, 27, 28, 29] (by decide +kernel) (by decide +kernel)
set_option maxRecDepth 20000 in
theorem gX5_paceOf_X5_thoseAt : GoodIn wsX5_paceOf (wsV RX5 77 RX5 yX5_thoseAt wsX5_thoseAt) := goodIn_app (goodIn_of _ (by decide +kernel)) ggX5_paceOf_X5_thoseAt
theorem dX5_paceOf_0 : decode cX5_paceOf 0 = .ok (.aload_n 0, 1) := by decide +kernel
theorem dX5_paceOf_1 : decode cX5_paceOf 1 = .ok (.iload_n 1, 1) := by decide +kernel
theorem dX5_paceOf_2 : decode cX5_paceOf 2 = .ok (.iconst 4, 1) := by decide +kernel
theorem dX5_paceOf_3 : decode cX5_paceOf 3 = .ok (.invokevirtual 71, 3) := by decide +kernel
theorem dX5_paceOf_6 : decode cX5_paceOf 6 = .ok (.bipush 9, 2) := by decide +kernel
theorem dX5_paceOf_8 : decode cX5_paceOf 8 = .ok (.if_icmp .le 7, 3) := by decide +kernel
theorem dX5_paceOf_11 : decode cX5_paceOf 11 = .ok (.iconst 2, 1) := by decide +kernel
theorem dX5_paceOf_12 : decode cX5_paceOf 12 = .ok (.goto 4, 3) := by decide +kernel
theorem dX5_paceOf_15 : decode cX5_paceOf 15 = .ok (.iconst 3, 1) := by decide +kernel
theorem dX5_paceOf_16 : decode cX5_paceOf 16 = .ok (.istore_n 2, 1) := by decide +kernel
theorem dX5_paceOf_17 : decode cX5_paceOf 17 = .ok (.aload_n 0, 1) := by decide +kernel
theorem dX5_paceOf_18 : decode cX5_paceOf 18 = .ok (.iload_n 1, 1) := by decide +kernel
theorem dX5_paceOf_19 : decode cX5_paceOf 19 = .ok (.iconst 0, 1) := by decide +kernel
theorem dX5_paceOf_20 : decode cX5_paceOf 20 = .ok (.invokevirtual 71, 3) := by decide +kernel
theorem dX5_paceOf_23 : decode cX5_paceOf 23 = .ok (.tableswitch 85 2 5 #[29, 53, 57, 74], 29) := by decide +kernel
theorem dX5_paceOf_52 : decode cX5_paceOf 52 = .ok (.aload_n 0, 1) := by decide +kernel
theorem dX5_paceOf_53 : decode cX5_paceOf 53 = .ok (.aload_n 0, 1) := by decide +kernel
theorem dX5_paceOf_54 : decode cX5_paceOf 54 = .ok (.iload_n 1, 1) := by decide +kernel
theorem dX5_paceOf_55 : decode cX5_paceOf 55 = .ok (.iconst 1, 1) := by decide +kernel
theorem dX5_paceOf_56 : decode cX5_paceOf 56 = .ok (.invokevirtual 71, 3) := by decide +kernel
theorem dX5_paceOf_59 : decode cX5_paceOf 59 = .ok (.invokevirtual 77, 3) := by decide +kernel
theorem dX5_paceOf_62 : decode cX5_paceOf 62 = .ok (.iconst 1, 1) := by decide +kernel
theorem dX5_paceOf_63 : decode cX5_paceOf 63 = .ok (.iload_n 1, 1) := by decide +kernel
theorem dX5_paceOf_64 : decode cX5_paceOf 64 = .ok (.ishl, 1) := by decide +kernel
theorem dX5_paceOf_65 : decode cX5_paceOf 65 = .ok (.if_icmp .ne 7, 3) := by decide +kernel
theorem dX5_paceOf_68 : decode cX5_paceOf 68 = .ok (.iload_n 2, 1) := by decide +kernel
theorem dX5_paceOf_69 : decode cX5_paceOf 69 = .ok (.goto 6, 3) := by decide +kernel
theorem dX5_paceOf_72 : decode cX5_paceOf 72 = .ok (.iload_n 2, 1) := by decide +kernel
theorem dX5_paceOf_73 : decode cX5_paceOf 73 = .ok (.iconst 1, 1) := by decide +kernel
theorem dX5_paceOf_74 : decode cX5_paceOf 74 = .ok (.iadd, 1) := by decide +kernel
theorem dX5_paceOf_75 : decode cX5_paceOf 75 = .ok (.ireturn, 1) := by decide +kernel
theorem dX5_paceOf_76 : decode cX5_paceOf 76 = .ok (.iload_n 2, 1) := by decide +kernel
theorem dX5_paceOf_77 : decode cX5_paceOf 77 = .ok (.iconst 2, 1) := by decide +kernel
theorem dX5_paceOf_78 : decode cX5_paceOf 78 = .ok (.idiv, 1) := by decide +kernel
theorem dX5_paceOf_79 : decode cX5_paceOf 79 = .ok (.ireturn, 1) := by decide +kernel
theorem dX5_paceOf_80 : decode cX5_paceOf 80 = .ok (.aload_n 0, 1) := by decide +kernel
theorem dX5_paceOf_81 : decode cX5_paceOf 81 = .ok (.iload_n 1, 1) := by decide +kernel
theorem dX5_paceOf_82 : decode cX5_paceOf 82 = .ok (.iconst 3, 1) := by decide +kernel
theorem dX5_paceOf_83 : decode cX5_paceOf 83 = .ok (.invokevirtual 71, 3) := by decide +kernel
theorem dX5_paceOf_86 : decode cX5_paceOf 86 = .ok (.ifCond .ne 9, 3) := by decide +kernel
theorem dX5_paceOf_89 : decode cX5_paceOf 89 = .ok (.iload_n 2, 1) := by decide +kernel
theorem dX5_paceOf_90 : decode cX5_paceOf 90 = .ok (.iconst 1, 1) := by decide +kernel
theorem dX5_paceOf_91 : decode cX5_paceOf 91 = .ok (.iadd, 1) := by decide +kernel
theorem dX5_paceOf_92 : decode cX5_paceOf 92 = .ok (.goto 4, 3) := by decide +kernel
theorem dX5_paceOf_95 : decode cX5_paceOf 95 = .ok (.iload_n 2, 1) := by decide +kernel
theorem dX5_paceOf_96 : decode cX5_paceOf 96 = .ok (.ireturn, 1) := by decide +kernel
theorem dX5_paceOf_97 : decode cX5_paceOf 97 = .ok (.iload_n 2, 1) := by decide +kernel
theorem dX5_paceOf_98 : decode cX5_paceOf 98 = .ok (.iconst 2, 1) := by decide +kernel
theorem dX5_paceOf_99 : decode cX5_paceOf 99 = .ok (.idiv, 1) := by decide +kernel
theorem dX5_paceOf_100 : decode cX5_paceOf 100 = .ok (.aload_n 0, 1) := by decide +kernel
theorem dX5_paceOf_101 : decode cX5_paceOf 101 = .ok (.getfield 7, 3) := by decide +kernel
theorem dX5_paceOf_104 : decode cX5_paceOf 104 = .ok (.iconst 4, 1) := by decide +kernel
theorem dX5_paceOf_105 : decode cX5_paceOf 105 = .ok (.iaload, 1) := by decide +kernel
theorem dX5_paceOf_106 : decode cX5_paceOf 106 = .ok (.iadd, 1) := by decide +kernel
theorem dX5_paceOf_107 : decode cX5_paceOf 107 = .ok (.ireturn, 1) := by decide +kernel
theorem dX5_paceOf_108 : decode cX5_paceOf 108 = .ok (.iload_n 2, 1) := by decide +kernel
theorem dX5_paceOf_109 : decode cX5_paceOf 109 = .ok (.ireturn, 1) := by decide +kernel
set_option maxRecDepth 20000 in
theorem ggX5_payOf_X5_its : GoodIn wsX5_payOf wsX5_its := goodIn_r _ [6, 1, 7, 8, 5, 9, 10, 11, 12, 13, 14, 15, 16, 17, 18, 19, 20, 21, 22, 23, 24, 25] (by decide +kernel) (by decide +kernel)
set_option maxRecDepth 20000 in
theorem gX5_payOf_X5_its : GoodIn wsX5_payOf (wsV RX5 71 RX5 yX5_its wsX5_its) := goodIn_app (goodIn_of _ (by decide +kernel)) ggX5_payOf_X5_its
theorem dX5_payOf_0 : decode cX5_payOf 0 = .ok (.aload_n 0, 1) := by decide +kernel
theorem dX5_payOf_1 : decode cX5_payOf 1 = .ok (.iload_n 1, 1) := by decide +kernel
theorem dX5_payOf_2 : decode cX5_payOf 2 = .ok (.iconst 5, 1) := by decide +kernel
theorem dX5_payOf_3 : decode cX5_payOf 3 = .ok (.invokevirtual 71, 3) := by decide +kernel
theorem dX5_payOf_6 : decode cX5_payOf 6 = .ok (.istore_n 2, 1) := by decide +kernel
theorem dX5_payOf_7 : decode cX5_payOf 7 = .ok (.iload_n 2, 1) := by decide +kernel
theorem dX5_payOf_8 : decode cX5_payOf 8 = .ok (.aload_n 0, 1) := by decide +kernel
theorem dX5_payOf_9 : decode cX5_payOf 9 = .ok (.getfield 7, 3) := by decide +kernel
theorem dX5_payOf_12 : decode cX5_payOf 12 = .ok (.iconst 3, 1) := by decide +kernel
theorem dX5_payOf_13 : decode cX5_payOf 13 = .ok (.iaload, 1) := by decide +kernel
theorem dX5_payOf_14 : decode cX5_payOf 14 = .ok (.imul, 1) := by decide +kernel
theorem dX5_payOf_15 : decode cX5_payOf 15 = .ok (.iload_n 2, 1) := by decide +kernel
theorem dX5_payOf_16 : decode cX5_payOf 16 = .ok (.aload_n 0, 1) := by decide +kernel
theorem dX5_payOf_17 : decode cX5_payOf 17 = .ok (.getfield 7, 3) := by decide +kernel
theorem dX5_payOf_20 : decode cX5_payOf 20 = .ok (.iconst 4, 1) := by decide +kernel
theorem dX5_payOf_21 : decode cX5_payOf 21 = .ok (.iaload, 1) := by decide +kernel
theorem dX5_payOf_22 : decode cX5_payOf 22 = .ok (.imul, 1) := by decide +kernel
theorem dX5_payOf_23 : decode cX5_payOf 23 = .ok (.iadd, 1) := by decide +kernel
theorem dX5_payOf_24 : decode cX5_payOf 24 = .ok (.istore_n 3, 1) := by decide +kernel
theorem dX5_payOf_25 : decode cX5_payOf 25 = .ok (.aload_n 0, 1) := by decide +kernel
theorem dX5_payOf_26 : decode cX5_payOf 26 = .ok (.iload_n 1, 1) := by decide +kernel
theorem dX5_payOf_27 : decode cX5_payOf 27 = .ok (.iconst 0, 1) := by decide +kernel
theorem dX5_payOf_28 : decode cX5_payOf 28 = .ok (.invokevirtual 71, 3) := by decide +kernel
theorem dX5_payOf_31 : decode cX5_payOf 31 = .ok (.tableswitch 49 1 5 #[33, 37, 41, 33, 47], 33) := by decide +kernel
theorem dX5_payOf_64 : decode cX5_payOf 64 = .ok (.iload_n 3, 1) := by decide +kernel
theorem dX5_payOf_65 : decode cX5_payOf 65 = .ok (.iconst 2, 1) := by decide +kernel
theorem dX5_payOf_66 : decode cX5_payOf 66 = .ok (.iadd, 1) := by decide +kernel
theorem dX5_payOf_67 : decode cX5_payOf 67 = .ok (.ireturn, 1) := by decide +kernel
theorem dX5_payOf_68 : decode cX5_payOf 68 = .ok (.iconst 2, 1) := by decide +kernel
theorem dX5_payOf_69 : decode cX5_payOf 69 = .ok (.iload_n 3, 1) := by decide +kernel
theorem dX5_payOf_70 : decode cX5_payOf 70 = .ok (.imul, 1) := by decide +kernel
theorem dX5_payOf_71 : decode cX5_payOf 71 = .ok (.ireturn, 1) := by decide +kernel
theorem dX5_payOf_72 : decode cX5_payOf 72 = .ok (.iload_n 3, 1) := by decide +kernel
theorem dX5_payOf_73 : decode cX5_payOf 73 = .ok (.iload_n 2, 1) := by decide +kernel
theorem dX5_payOf_74 : decode cX5_payOf 74 = .ok (.iconst 2, 1) := by decide +kernel
theorem dX5_payOf_75 : decode cX5_payOf 75 = .ok (.idiv, 1) := by decide +kernel
theorem dX5_payOf_76 : decode cX5_payOf 76 = .ok (.iadd, 1) := by decide +kernel
theorem dX5_payOf_77 : decode cX5_payOf 77 = .ok (.ireturn, 1) := by decide +kernel
theorem dX5_payOf_78 : decode cX5_payOf 78 = .ok (.iconst 0, 1) := by decide +kernel
theorem dX5_payOf_79 : decode cX5_payOf 79 = .ok (.ireturn, 1) := by decide +kernel
theorem dX5_payOf_80 : decode cX5_payOf 80 = .ok (.iload_n 3, 1) := by decide +kernel
theorem dX5_payOf_81 : decode cX5_payOf 81 = .ok (.ireturn, 1) := by decide +kernel
set_option maxRecDepth 20000 in
theorem ggX5_wearsOf_X5_its : GoodIn wsX5_wearsOf wsX5_its := goodIn_r _ [6, 1, 7, 8, 5, 9, 10, 11, 12, 13, 14, 15, 16, 17, 18, 19, 20, 21, 22, 23, 24, 25] (by decide +kernel) (by decide +kernel)
set_option maxRecDepth 20000 in
theorem gX5_wearsOf_X5_its : GoodIn wsX5_wearsOf (wsV RX5 71 RX5 yX5_its wsX5_its) := goodIn_app (goodIn_of _ (by decide +kernel)) ggX5_wearsOf_X5_its
theorem dX5_wearsOf_0 : decode cX5_wearsOf 0 = .ok (.aload_n 0, 1) := by decide +kernel
theorem dX5_wearsOf_1 : decode cX5_wearsOf 1 = .ok (.getfield 7, 3) := by decide +kernel
theorem dX5_wearsOf_4 : decode cX5_wearsOf 4 = .ok (.iconst 1, 1) := by decide +kernel
theorem dX5_wearsOf_5 : decode cX5_wearsOf 5 = .ok (.iaload, 1) := by decide +kernel
theorem dX5_wearsOf_6 : decode cX5_wearsOf 6 = .ok (.iconst 5, 1) := by decide +kernel
theorem dX5_wearsOf_7 : decode cX5_wearsOf 7 = .ok (.irem, 1) := by decide +kernel
theorem dX5_wearsOf_8 : decode cX5_wearsOf 8 = .ok (.ifCond .ne 7, 3) := by decide +kernel
theorem dX5_wearsOf_11 : decode cX5_wearsOf 11 = .ok (.iconst 0, 1) := by decide +kernel
theorem dX5_wearsOf_12 : decode cX5_wearsOf 12 = .ok (.goto 4, 3) := by decide +kernel
theorem dX5_wearsOf_15 : decode cX5_wearsOf 15 = .ok (.iconst 1, 1) := by decide +kernel
theorem dX5_wearsOf_16 : decode cX5_wearsOf 16 = .ok (.istore_n 2, 1) := by decide +kernel
theorem dX5_wearsOf_17 : decode cX5_wearsOf 17 = .ok (.aload_n 0, 1) := by decide +kernel
theorem dX5_wearsOf_18 : decode cX5_wearsOf 18 = .ok (.iload_n 1, 1) := by decide +kernel
theorem dX5_wearsOf_19 : decode cX5_wearsOf 19 = .ok (.iconst 0, 1) := by decide +kernel
theorem dX5_wearsOf_20 : decode cX5_wearsOf 20 = .ok (.invokevirtual 71, 3) := by decide +kernel
theorem dX5_wearsOf_23 : decode cX5_wearsOf 23 = .ok (.tableswitch 43 1 5 #[33, 43, 35, 37, 35], 33) := by decide +kernel
theorem dX5_wearsOf_56 : decode cX5_wearsOf 56 = .ok (.iload_n 2, 1) := by decide +kernel
theorem dX5_wearsOf_57 : decode cX5_wearsOf 57 = .ok (.ireturn, 1) := by decide +kernel
theorem dX5_wearsOf_58 : decode cX5_wearsOf 58 = .ok (.iconst 0, 1) := by decide +kernel
theorem dX5_wearsOf_59 : decode cX5_wearsOf 59 = .ok (.ireturn, 1) := by decide +kernel
theorem dX5_wearsOf_60 : decode cX5_wearsOf 60 = .ok (.iconst 2, 1) := by decide +kernel
theorem dX5_wearsOf_61 : decode cX5_wearsOf 61 = .ok (.iload_n 2, 1) := by decide +kernel
theorem dX5_wearsOf_62 : decode cX5_wearsOf 62 = .ok (.imul, 1) := by decide +kernel
theorem dX5_wearsOf_63 : decode cX5_wearsOf 63 = .ok (.iconst 1, 1) := by decide +kernel
theorem dX5_wearsOf_64 : decode cX5_wearsOf 64 = .ok (.iadd, 1) := by decide +kernel
theorem dX5_wearsOf_65 : decode cX5_wearsOf 65 = .ok (.ireturn, 1) := by decide +kernel
theorem dX5_wearsOf_66 : decode cX5_wearsOf 66 = .ok (.iconst 1, 1) := by decide +kernel
theorem dX5_wearsOf_67 : decode cX5_wearsOf 67 = .ok (.ireturn, 1) := by decide +kernel
set_option maxRecDepth 20000 in
theorem ggX5_of_X5_isWalker : GoodIn wsX5_of wsX5_isWalker := goodIn_r _ [7, 8, 9, 10, 6, 11, 36, 37, 38, 39, 40, 41, 42, 43, 44, 45, 46, 47, 48, 49, 50, 51] (by decide +kernel) (by decide +kernel)
set_option maxRecDepth 20000 in
theorem gX5_of_X5_isWalker : GoodIn wsX5_of (wsV RX5 48 RX5 yX5_isWalker wsX5_isWalker) := goodIn_app (goodIn_of _ (by decide +kernel)) ggX5_of_X5_isWalker
set_option maxRecDepth 20000 in
theorem ggX5_of_X5_in : GoodIn wsX5_of wsX5_in := goodIn_r _ [11] (by decide +kernel) (by decide +kernel)
set_option maxRecDepth 20000 in
theorem gX5_of_X5_in : GoodIn wsX5_of (va_wsS RX5 44 yX5_in wsX5_in) := goodIn_app (goodIn_of _ (by decide +kernel)) ggX5_of_X5_in
set_option maxRecDepth 20000 in
theorem ggX5_of_X5_finds : GoodIn wsX5_of wsX5_finds := goodIn_r _ [15, 16, 2, 36, 37, 38, 39, 40, 41, 42, 43, 44, 45, 46, 47, 48, 49, 50, 51] (by decide +kernel) (by decide +kernel)
set_option maxRecDepth 20000 in
theorem gX5_of_X5_finds : GoodIn wsX5_of (wsV RX5 67 RX5 yX5_finds wsX5_finds) := goodIn_app (goodIn_of _ (by decide +kernel)) ggX5_of_X5_finds
set_option maxRecDepth 20000 in
theorem ggX5_of_X5_its : GoodIn wsX5_of wsX5_its := goodIn_r _ [20, 8, 21, 22, 6, 23, 36, 37, 38, 39, 40, 41, 42, 43, 44, 45, 46, 47, 48, 49, 50, 51] (by decide +kernel) (by decide +kernel)
set_option maxRecDepth 20000 in
theorem gX5_of_X5_its : GoodIn wsX5_of (wsV RX5 71 RX5 yX5_its wsX5_its) := goodIn_app (goodIn_of _ (by decide +kernel)) ggX5_of_X5_its
set_option maxRecDepth 20000 in
theorem ggX5_of_X5_paceOf : GoodIn wsX5_of wsX5_paceOf := goodIn_r _ [27, 8, 17, 18, 19, 6, 20, 21, 22, 23, 28, 29, 30, 31, 36, 37, 38, 39, 40, 41, 42, 43, 44, 45, 46, 47, 48, 49, 50, 51] (by decide +kernel) (by decide +kernel)
set_option maxRecDepth 20000 in
theorem gX5_of_X5_paceOf : GoodIn wsX5_of (wsV RX5 89 RX5 yX5_paceOf wsX5_paceOf) := goodIn_app (goodIn_of _ (by decide +kernel)) ggX5_of_X5_paceOf
set_option maxRecDepth 20000 in
theorem ggX5_of_X5_payOf : GoodIn wsX5_of wsX5_payOf := goodIn_r _ [35, 8, 17, 18, 19, 6, 20, 21, 22, 23, 36, 37, 38, 39, 40, 41, 42, 43, 44, 45, 46, 47, 48, 49, 50, 51] (by decide +kernel) (by decide +kernel)
set_option maxRecDepth 20000 in
theorem gX5_of_X5_payOf : GoodIn wsX5_of (wsV RX5 92 RX5 yX5_payOf wsX5_payOf) := goodIn_app (goodIn_of _ (by decide +kernel)) ggX5_of_X5_payOf
theorem dX5_of_0 : decode cX5_of 0 = .ok (.aload_n 0, 1) := by decide +kernel
theorem dX5_of_1 : decode cX5_of 1 = .ok (.iload_n 1, 1) := by decide +kernel
theorem dX5_of_2 : decode cX5_of 2 = .ok (.invokevirtual 48, 3) := by decide +kernel
theorem dX5_of_5 : decode cX5_of 5 = .ok (.ifCond .eq 15, 3) := by decide +kernel
theorem dX5_of_8 : decode cX5_of 8 = .ok (.iload_n 2, 1) := by decide +kernel
theorem dX5_of_9 : decode cX5_of 9 = .ok (.i2l, 1) := by decide +kernel
theorem dX5_of_10 : decode cX5_of 10 = .ok (.lconst 0, 1) := by decide +kernel
theorem dX5_of_11 : decode cX5_of 11 = .ok (.ldc2_w 87, 3) := by decide +kernel
theorem dX5_of_14 : decode cX5_of 14 = .ok (.invokestatic 44, 3) := by decide +kernel
theorem dX5_of_17 : decode cX5_of 17 = .ok (.ifCond .ne 10, 3) := by decide +kernel
theorem dX5_of_20 : decode cX5_of 20 = .ok (.aload_n 0, 1) := by decide +kernel
theorem dX5_of_21 : decode cX5_of 21 = .ok (.ldc 41, 2) := by decide +kernel
theorem dX5_of_23 : decode cX5_of 23 = .ok (.invokevirtual 67, 3) := by decide +kernel
theorem dX5_of_26 : decode cX5_of 26 = .ok (.ireturn, 1) := by decide +kernel
theorem dX5_of_27 : decode cX5_of 27 = .ok (.iload_n 2, 1) := by decide +kernel
theorem dX5_of_28 : decode cX5_of 28 = .ok (.bipush 7, 2) := by decide +kernel
theorem dX5_of_30 : decode cX5_of 30 = .ok (.if_icmp .gt 12, 3) := by decide +kernel
theorem dX5_of_33 : decode cX5_of 33 = .ok (.aload_n 0, 1) := by decide +kernel
theorem dX5_of_34 : decode cX5_of 34 = .ok (.iload_n 1, 1) := by decide +kernel
theorem dX5_of_35 : decode cX5_of 35 = .ok (.iload_n 2, 1) := by decide +kernel
theorem dX5_of_36 : decode cX5_of 36 = .ok (.invokevirtual 71, 3) := by decide +kernel
theorem dX5_of_39 : decode cX5_of 39 = .ok (.goto 22, 3) := by decide +kernel
theorem dX5_of_42 : decode cX5_of 42 = .ok (.iload_n 2, 1) := by decide +kernel
theorem dX5_of_43 : decode cX5_of 43 = .ok (.bipush 8, 2) := by decide +kernel
theorem dX5_of_45 : decode cX5_of 45 = .ok (.if_icmp .ne 11, 3) := by decide +kernel
theorem dX5_of_48 : decode cX5_of 48 = .ok (.aload_n 0, 1) := by decide +kernel
theorem dX5_of_49 : decode cX5_of 49 = .ok (.iload_n 1, 1) := by decide +kernel
theorem dX5_of_50 : decode cX5_of 50 = .ok (.invokevirtual 89, 3) := by decide +kernel
theorem dX5_of_53 : decode cX5_of 53 = .ok (.goto 8, 3) := by decide +kernel
theorem dX5_of_56 : decode cX5_of 56 = .ok (.aload_n 0, 1) := by decide +kernel
theorem dX5_of_57 : decode cX5_of 57 = .ok (.iload_n 1, 1) := by decide +kernel
theorem dX5_of_58 : decode cX5_of 58 = .ok (.invokevirtual 92, 3) := by decide +kernel
theorem dX5_of_61 : decode cX5_of 61 = .ok (.ireturn, 1) := by decide +kernel
theorem dX5_mostOf_0 : decode cX5_mostOf 0 = .ok (.iload_n 0, 1) := by decide +kernel
theorem dX5_mostOf_1 : decode cX5_mostOf 1 = .ok (.tableswitch 51 1 6 #[39, 51, 42, 45, 39, 48], 39) := by decide +kernel
theorem dX5_mostOf_40 : decode cX5_mostOf 40 = .ok (.bipush 12, 2) := by decide +kernel
theorem dX5_mostOf_42 : decode cX5_mostOf 42 = .ok (.ireturn, 1) := by decide +kernel
theorem dX5_mostOf_43 : decode cX5_mostOf 43 = .ok (.bipush 9, 2) := by decide +kernel
theorem dX5_mostOf_45 : decode cX5_mostOf 45 = .ok (.ireturn, 1) := by decide +kernel
theorem dX5_mostOf_46 : decode cX5_mostOf 46 = .ok (.bipush 99, 2) := by decide +kernel
theorem dX5_mostOf_48 : decode cX5_mostOf 48 = .ok (.ireturn, 1) := by decide +kernel
theorem dX5_mostOf_49 : decode cX5_mostOf 49 = .ok (.ldc 95, 2) := by decide +kernel
theorem dX5_mostOf_51 : decode cX5_mostOf 51 = .ok (.ireturn, 1) := by decide +kernel
theorem dX5_mostOf_52 : decode cX5_mostOf 52 = .ok (.iconst 1, 1) := by decide +kernel
theorem dX5_mostOf_53 : decode cX5_mostOf 53 = .ok (.ireturn, 1) := by decide +kernel
set_option maxRecDepth 20000 in
theorem ggX5_set_X5_in : GoodIn wsX5_set wsX5_in := goodIn_r _ [6] (by decide +kernel) (by decide +kernel)
set_option maxRecDepth 20000 in
theorem gX5_set_X5_in : GoodIn wsX5_set (va_wsS RX5 44 yX5_in wsX5_in) := goodIn_app (goodIn_of _ (by decide +kernel)) ggX5_set_X5_in
set_option maxRecDepth 20000 in
theorem ggX5_set_X5_mostOf : GoodIn wsX5_set wsX5_mostOf := goodIn_r _ [9, 10] (by decide +kernel) (by decide +kernel)
set_option maxRecDepth 20000 in
theorem gX5_set_X5_mostOf : GoodIn wsX5_set (va_wsS RX5 98 yX5_mostOf wsX5_mostOf) := goodIn_app (goodIn_of _ (by decide +kernel)) ggX5_set_X5_mostOf
set_option maxRecDepth 20000 in
theorem ggX5_set_X5_isWalker : GoodIn wsX5_set wsX5_isWalker := goodIn_r _ [14, 15, 3, 4, 5, 6, 28, 29, 30, 31, 32, 33, 34, 35, 36, 37, 38, 39, 40, 41, 42, 43] (by decide +kernel) (by decide +kernel)
set_option maxRecDepth 20000 in
theorem gX5_set_X5_isWalker : GoodIn wsX5_set (wsV RX5 48 RX5 yX5_isWalker wsX5_isWalker) := goodIn_app (goodIn_of _ (by decide +kernel)) ggX5_set_X5_isWalker
set_option maxRecDepth 20000 in
theorem ggX5_set_X5_spotOf : GoodIn wsX5_set wsX5_spotOf := goodIn_r _ [18] (by decide +kernel) (by decide +kernel)
set_option maxRecDepth 20000 in
theorem gX5_set_X5_spotOf : GoodIn wsX5_set (va_wsS RX5 54 yX5_spotOf wsX5_spotOf) := goodIn_app (goodIn_of _ (by decide +kernel)) ggX5_set_X5_spotOf
set_option maxRecDepth 20000 in
theorem ggX5_set_X5_becomes : GoodIn wsX5_set wsX5_becomes := goodIn_r _ [22, 15, 28, 29, 30, 31, 32, 33, 34, 35, 36, 37, 38, 39, 40, 41, 42, 43] (by decide +kernel) (by decide +kernel)
set_option maxRecDepth 20000 in
theorem gX5_set_X5_becomes : GoodIn wsX5_set (wsV RX5 64 RX5 yX5_becomes wsX5_becomes) := goodIn_app (goodIn_of _ (by decide +kernel)) ggX5_set_X5_becomes
set_option maxRecDepth 20000 in
theorem ggX5_set_X5_finds : GoodIn wsX5_set wsX5_finds := goodIn_r _ [26, 27, 2, 28, 29, 30, 31, 32, 33, 34, 35, 36, 37, 38, 39, 40, 41, 42, 43] (by decide +kernel) (by decide +kernel)
set_option maxRecDepth 20000 in
theorem gX5_set_X5_finds : GoodIn wsX5_set (wsV RX5 67 RX5 yX5_finds wsX5_finds) := goodIn_app (goodIn_of _ (by decide +kernel)) ggX5_set_X5_finds
theorem dX5_set_0 : decode cX5_set 0 = .ok (.iload_n 2, 1) := by decide +kernel
theorem dX5_set_1 : decode cX5_set 1 = .ok (.i2l, 1) := by decide +kernel
theorem dX5_set_2 : decode cX5_set 2 = .ok (.lconst 1, 1) := by decide +kernel
theorem dX5_set_3 : decode cX5_set 3 = .ok (.ldc2_w 96, 3) := by decide +kernel
theorem dX5_set_6 : decode cX5_set 6 = .ok (.invokestatic 44, 3) := by decide +kernel
theorem dX5_set_9 : decode cX5_set 9 = .ok (.ifCond .eq 21, 3) := by decide +kernel
theorem dX5_set_12 : decode cX5_set 12 = .ok (.iload_n 3, 1) := by decide +kernel
theorem dX5_set_13 : decode cX5_set 13 = .ok (.i2l, 1) := by decide +kernel
theorem dX5_set_14 : decode cX5_set 14 = .ok (.lconst 0, 1) := by decide +kernel
theorem dX5_set_15 : decode cX5_set 15 = .ok (.iload_n 2, 1) := by decide +kernel
theorem dX5_set_16 : decode cX5_set 16 = .ok (.invokestatic 98, 3) := by decide +kernel
theorem dX5_set_19 : decode cX5_set 19 = .ok (.i2l, 1) := by decide +kernel
theorem dX5_set_20 : decode cX5_set 20 = .ok (.invokestatic 44, 3) := by decide +kernel
theorem dX5_set_23 : decode cX5_set 23 = .ok (.ifCond .eq 7, 3) := by decide +kernel
theorem dX5_set_26 : decode cX5_set 26 = .ok (.iconst 1, 1) := by decide +kernel
theorem dX5_set_27 : decode cX5_set 27 = .ok (.goto 4, 3) := by decide +kernel
theorem dX5_set_30 : decode cX5_set 30 = .ok (.iconst 0, 1) := by decide +kernel
theorem dX5_set_31 : decode cX5_set 31 = .ok (.istore 4, 2) := by decide +kernel
theorem dX5_set_33 : decode cX5_set 33 = .ok (.aload_n 0, 1) := by decide +kernel
theorem dX5_set_34 : decode cX5_set 34 = .ok (.iload_n 1, 1) := by decide +kernel
theorem dX5_set_35 : decode cX5_set 35 = .ok (.invokevirtual 48, 3) := by decide +kernel
theorem dX5_set_38 : decode cX5_set 38 = .ok (.ifCond .eq 21, 3) := by decide +kernel
theorem dX5_set_41 : decode cX5_set 41 = .ok (.iload 4, 2) := by decide +kernel
theorem dX5_set_43 : decode cX5_set 43 = .ok (.ifCond .eq 16, 3) := by decide +kernel
theorem dX5_set_46 : decode cX5_set 46 = .ok (.aload_n 0, 1) := by decide +kernel
theorem dX5_set_47 : decode cX5_set 47 = .ok (.iload_n 1, 1) := by decide +kernel
theorem dX5_set_48 : decode cX5_set 48 = .ok (.iload_n 2, 1) := by decide +kernel
theorem dX5_set_49 : decode cX5_set 49 = .ok (.invokestatic 54, 3) := by decide +kernel
theorem dX5_set_52 : decode cX5_set 52 = .ok (.iload_n 3, 1) := by decide +kernel
theorem dX5_set_53 : decode cX5_set 53 = .ok (.invokevirtual 64, 3) := by decide +kernel
theorem dX5_set_56 : decode cX5_set 56 = .ok (.goto 9, 3) := by decide +kernel
theorem dX5_set_59 : decode cX5_set 59 = .ok (.aload_n 0, 1) := by decide +kernel
theorem dX5_set_60 : decode cX5_set 60 = .ok (.ldc 41, 2) := by decide +kernel
theorem dX5_set_62 : decode cX5_set 62 = .ok (.invokevirtual 67, 3) := by decide +kernel
theorem dX5_set_65 : decode cX5_set 65 = .ok (.ireturn, 1) := by decide +kernel
set_option maxRecDepth 20000 in
theorem ggX5_turn_X5_isWalker : GoodIn wsX5_turn wsX5_isWalker := goodIn_r _ [6, 7, 8, 9, 5, 10, 27, 28, 29, 30, 31, 32, 33, 34, 35, 36, 37, 38, 39, 40, 41, 42] (by decide +kernel) (by decide +kernel)
set_option maxRecDepth 20000 in
theorem gX5_turn_X5_isWalker : GoodIn wsX5_turn (wsV RX5 48 RX5 yX5_isWalker wsX5_isWalker) := goodIn_app (goodIn_of _ (by decide +kernel)) ggX5_turn_X5_isWalker
set_option maxRecDepth 20000 in
theorem ggX5_turn_X5_isKind : GoodIn wsX5_turn wsX5_isKind := goodIn_r _ [13, 14, 8, 9, 5, 10] (by decide +kernel) (by decide +kernel)
set_option maxRecDepth 20000 in
theorem gX5_turn_X5_isKind : GoodIn wsX5_turn (va_wsS RX5 80 yX5_isKind wsX5_isKind) := goodIn_app (goodIn_of _ (by decide +kernel)) ggX5_turn_X5_isKind
set_option maxRecDepth 20000 in
theorem ggX5_turn_X5_spotOf : GoodIn wsX5_turn wsX5_spotOf := goodIn_r _ [17] (by decide +kernel) (by decide +kernel)
set_option maxRecDepth 20000 in
theorem gX5_turn_X5_spotOf : GoodIn wsX5_turn (va_wsS RX5 54 yX5_spotOf wsX5_spotOf) := goodIn_app (goodIn_of _ (by decide +kernel)) ggX5_turn_X5_spotOf
set_option maxRecDepth 20000 in
theorem ggX5_turn_X5_becomes : GoodIn wsX5_turn wsX5_becomes := goodIn_r _ [21, 7, 27, 28, 29, 30, 31, 32, 33, 34, 35, 36, 37, 38, 39, 40, 41, 42] (by decide +kernel) (by decide +kernel)
set_option maxRecDepth 20000 in
theorem gX5_turn_X5_becomes : GoodIn wsX5_turn (wsV RX5 64 RX5 yX5_becomes wsX5_becomes) := goodIn_app (goodIn_of _ (by decide +kernel)) ggX5_turn_X5_becomes
set_option maxRecDepth 20000 in
theorem ggX5_turn_X5_finds : GoodIn wsX5_turn wsX5_finds := goodIn_r _ [25, 26, 1, 27, 28, 29, 30, 31, 32, 33, 34, 35, 36, 37, 38, 39, 40, 41, 42] (by decide +kernel) (by decide +kernel)
set_option maxRecDepth 20000 in
theorem gX5_turn_X5_finds : GoodIn wsX5_turn (wsV RX5 67 RX5 yX5_finds wsX5_finds) := goodIn_app (goodIn_of _ (by decide +kernel)) ggX5_turn_X5_finds
theorem dX5_turn_0 : decode cX5_turn 0 = .ok (.aload_n 0, 1) := by decide +kernel
theorem dX5_turn_1 : decode cX5_turn 1 = .ok (.iload_n 1, 1) := by decide +kernel
theorem dX5_turn_2 : decode cX5_turn 2 = .ok (.invokevirtual 48, 3) := by decide +kernel
theorem dX5_turn_5 : decode cX5_turn 5 = .ok (.ifCond .eq 23, 3) := by decide +kernel
theorem dX5_turn_8 : decode cX5_turn 8 = .ok (.iload_n 2, 1) := by decide +kernel
theorem dX5_turn_9 : decode cX5_turn 9 = .ok (.invokestatic 80, 3) := by decide +kernel
theorem dX5_turn_12 : decode cX5_turn 12 = .ok (.ifCond .eq 16, 3) := by decide +kernel
theorem dX5_turn_15 : decode cX5_turn 15 = .ok (.aload_n 0, 1) := by decide +kernel
theorem dX5_turn_16 : decode cX5_turn 16 = .ok (.iload_n 1, 1) := by decide +kernel
theorem dX5_turn_17 : decode cX5_turn 17 = .ok (.iconst 0, 1) := by decide +kernel
theorem dX5_turn_18 : decode cX5_turn 18 = .ok (.invokestatic 54, 3) := by decide +kernel
theorem dX5_turn_21 : decode cX5_turn 21 = .ok (.iload_n 2, 1) := by decide +kernel
theorem dX5_turn_22 : decode cX5_turn 22 = .ok (.invokevirtual 64, 3) := by decide +kernel
theorem dX5_turn_25 : decode cX5_turn 25 = .ok (.goto 9, 3) := by decide +kernel
theorem dX5_turn_28 : decode cX5_turn 28 = .ok (.aload_n 0, 1) := by decide +kernel
theorem dX5_turn_29 : decode cX5_turn 29 = .ok (.ldc 41, 2) := by decide +kernel
theorem dX5_turn_31 : decode cX5_turn 31 = .ok (.invokevirtual 67, 3) := by decide +kernel
theorem dX5_turn_34 : decode cX5_turn 34 = .ok (.ireturn, 1) := by decide +kernel
theorem dX5_isUnder_0 : decode cX5_isUnder 0 = .ok (.iload_n 1, 1) := by decide +kernel
theorem dX5_isUnder_1 : decode cX5_isUnder 1 = .ok (.ifCond .eq 28, 3) := by decide +kernel
theorem dX5_isUnder_4 : decode cX5_isUnder 4 = .ok (.iload_n 0, 1) := by decide +kernel
theorem dX5_isUnder_5 : decode cX5_isUnder 5 = .ok (.iload_n 1, 1) := by decide +kernel
theorem dX5_isUnder_6 : decode cX5_isUnder 6 = .ok (.if_icmp .eq 23, 3) := by decide +kernel
theorem dX5_isUnder_9 : decode cX5_isUnder 9 = .ok (.iload_n 0, 1) := by decide +kernel
theorem dX5_isUnder_10 : decode cX5_isUnder 10 = .ok (.iconst 4, 1) := by decide +kernel
theorem dX5_isUnder_11 : decode cX5_isUnder 11 = .ok (.if_icmp .ne 8, 3) := by decide +kernel
theorem dX5_isUnder_14 : decode cX5_isUnder 14 = .ok (.iload_n 1, 1) := by decide +kernel
theorem dX5_isUnder_15 : decode cX5_isUnder 15 = .ok (.iconst 1, 1) := by decide +kernel
theorem dX5_isUnder_16 : decode cX5_isUnder 16 = .ok (.if_icmp .eq 13, 3) := by decide +kernel
theorem dX5_isUnder_19 : decode cX5_isUnder 19 = .ok (.iload_n 0, 1) := by decide +kernel
theorem dX5_isUnder_20 : decode cX5_isUnder 20 = .ok (.iconst 5, 1) := by decide +kernel
theorem dX5_isUnder_21 : decode cX5_isUnder 21 = .ok (.if_icmp .ne 12, 3) := by decide +kernel
theorem dX5_isUnder_24 : decode cX5_isUnder 24 = .ok (.iload_n 1, 1) := by decide +kernel
theorem dX5_isUnder_25 : decode cX5_isUnder 25 = .ok (.iconst 3, 1) := by decide +kernel
theorem dX5_isUnder_26 : decode cX5_isUnder 26 = .ok (.if_icmp .ne 7, 3) := by decide +kernel
theorem dX5_isUnder_29 : decode cX5_isUnder 29 = .ok (.iconst 1, 1) := by decide +kernel
theorem dX5_isUnder_30 : decode cX5_isUnder 30 = .ok (.goto 4, 3) := by decide +kernel
theorem dX5_isUnder_33 : decode cX5_isUnder 33 = .ok (.iconst 0, 1) := by decide +kernel
theorem dX5_isUnder_34 : decode cX5_isUnder 34 = .ok (.ireturn, 1) := by decide +kernel
set_option maxRecDepth 20000 in
theorem ggX5_as_X5_isWalker : GoodIn wsX5_as wsX5_isWalker := goodIn_r _ [7, 8, 9, 10, 6, 11, 31, 32, 33, 34, 35, 36, 37, 38, 39, 40, 41, 42, 43, 44, 45, 46] (by decide +kernel) (by decide +kernel)
set_option maxRecDepth 20000 in
theorem gX5_as_X5_isWalker : GoodIn wsX5_as (wsV RX5 48 RX5 yX5_isWalker wsX5_isWalker) := goodIn_app (goodIn_of _ (by decide +kernel)) ggX5_as_X5_isWalker
set_option maxRecDepth 20000 in
theorem ggX5_as_X5_isKind : GoodIn wsX5_as wsX5_isKind := goodIn_r _ [14, 15, 9, 10, 6, 11] (by decide +kernel) (by decide +kernel)
set_option maxRecDepth 20000 in
theorem gX5_as_X5_isKind : GoodIn wsX5_as (va_wsS RX5 80 yX5_isKind wsX5_isKind) := goodIn_app (goodIn_of _ (by decide +kernel)) ggX5_as_X5_isKind
set_option maxRecDepth 20000 in
theorem ggX5_as_X5_finds : GoodIn wsX5_as wsX5_finds := goodIn_r _ [19, 20, 1, 31, 32, 33, 34, 35, 36, 37, 38, 39, 40, 41, 42, 43, 44, 45, 46] (by decide +kernel) (by decide +kernel)
set_option maxRecDepth 20000 in
theorem gX5_as_X5_finds : GoodIn wsX5_as (wsV RX5 67 RX5 yX5_finds wsX5_finds) := goodIn_app (goodIn_of _ (by decide +kernel)) ggX5_as_X5_finds
set_option maxRecDepth 20000 in
theorem ggX5_as_X5_its : GoodIn wsX5_as wsX5_its := goodIn_r _ [24, 8, 25, 26, 6, 27, 31, 32, 33, 34, 35, 36, 37, 38, 39, 40, 41, 42, 43, 44, 45, 46] (by decide +kernel) (by decide +kernel)
set_option maxRecDepth 20000 in
theorem gX5_as_X5_its : GoodIn wsX5_as (wsV RX5 71 RX5 yX5_its wsX5_its) := goodIn_app (goodIn_of _ (by decide +kernel)) ggX5_as_X5_its
set_option maxRecDepth 20000 in
theorem ggX5_as_X5_isUnder : GoodIn wsX5_as wsX5_isUnder := goodIn_r _ [30] (by decide +kernel) (by decide +kernel)
set_option maxRecDepth 20000 in
theorem gX5_as_X5_isUnder : GoodIn wsX5_as (va_wsS RX5 101 yX5_isUnder wsX5_isUnder) := goodIn_app (goodIn_of _ (by decide +kernel)) ggX5_as_X5_isUnder
theorem dX5_as_0 : decode cX5_as 0 = .ok (.aload_n 0, 1) := by decide +kernel
theorem dX5_as_1 : decode cX5_as 1 = .ok (.iload_n 1, 1) := by decide +kernel
theorem dX5_as_2 : decode cX5_as 2 = .ok (.invokevirtual 48, 3) := by decide +kernel
theorem dX5_as_5 : decode cX5_as 5 = .ok (.ifCond .eq 10, 3) := by decide +kernel
theorem dX5_as_8 : decode cX5_as 8 = .ok (.iload_n 2, 1) := by decide +kernel
theorem dX5_as_9 : decode cX5_as 9 = .ok (.invokestatic 80, 3) := by decide +kernel
theorem dX5_as_12 : decode cX5_as 12 = .ok (.ifCond .ne 10, 3) := by decide +kernel
theorem dX5_as_15 : decode cX5_as 15 = .ok (.aload_n 0, 1) := by decide +kernel
theorem dX5_as_16 : decode cX5_as 16 = .ok (.ldc 41, 2) := by decide +kernel
theorem dX5_as_18 : decode cX5_as 18 = .ok (.invokevirtual 67, 3) := by decide +kernel
theorem dX5_as_21 : decode cX5_as 21 = .ok (.ireturn, 1) := by decide +kernel
theorem dX5_as_22 : decode cX5_as 22 = .ok (.aload_n 0, 1) := by decide +kernel
theorem dX5_as_23 : decode cX5_as 23 = .ok (.iload_n 1, 1) := by decide +kernel
theorem dX5_as_24 : decode cX5_as 24 = .ok (.iconst 0, 1) := by decide +kernel
theorem dX5_as_25 : decode cX5_as 25 = .ok (.invokevirtual 71, 3) := by decide +kernel
theorem dX5_as_28 : decode cX5_as 28 = .ok (.iload_n 2, 1) := by decide +kernel
theorem dX5_as_29 : decode cX5_as 29 = .ok (.invokestatic 101, 3) := by decide +kernel
theorem dX5_as_32 : decode cX5_as 32 = .ok (.ifCond .eq 12, 3) := by decide +kernel
theorem dX5_as_35 : decode cX5_as 35 = .ok (.aload_n 0, 1) := by decide +kernel
theorem dX5_as_36 : decode cX5_as 36 = .ok (.iload_n 1, 1) := by decide +kernel
theorem dX5_as_37 : decode cX5_as 37 = .ok (.iconst 3, 1) := by decide +kernel
theorem dX5_as_38 : decode cX5_as 38 = .ok (.invokevirtual 71, 3) := by decide +kernel
theorem dX5_as_41 : decode cX5_as 41 = .ok (.goto 9, 3) := by decide +kernel
theorem dX5_as_44 : decode cX5_as 44 = .ok (.aload_n 0, 1) := by decide +kernel
theorem dX5_as_45 : decode cX5_as 45 = .ok (.ldc 105, 2) := by decide +kernel
theorem dX5_as_47 : decode cX5_as 47 = .ok (.invokevirtual 67, 3) := by decide +kernel
theorem dX5_as_50 : decode cX5_as 50 = .ok (.ireturn, 1) := by decide +kernel
theorem dX5_heldTo_0 : decode cX5_heldTo 0 = .ok (.iload_n 0, 1) := by decide +kernel
theorem dX5_heldTo_1 : decode cX5_heldTo 1 = .ok (.iload_n 1, 1) := by decide +kernel
theorem dX5_heldTo_2 : decode cX5_heldTo 2 = .ok (.if_icmp .le 7, 3) := by decide +kernel
theorem dX5_heldTo_5 : decode cX5_heldTo 5 = .ok (.iload_n 1, 1) := by decide +kernel
theorem dX5_heldTo_6 : decode cX5_heldTo 6 = .ok (.goto 4, 3) := by decide +kernel
theorem dX5_heldTo_9 : decode cX5_heldTo 9 = .ok (.iload_n 0, 1) := by decide +kernel
theorem dX5_heldTo_10 : decode cX5_heldTo 10 = .ok (.ireturn, 1) := by decide +kernel
set_option maxRecDepth 20000 in
theorem ggX5_arrives_X5_its : GoodIn wsX5_arrives wsX5_its := goodIn_r _ [7, 1, 8, 9, 6, 10, 22, 23, 24, 25, 26, 27, 28, 29, 30, 31, 32, 33, 34, 35, 36, 37] (by decide +kernel) (by decide +kernel)
set_option maxRecDepth 20000 in
theorem gX5_arrives_X5_its : GoodIn wsX5_arrives (wsV RX5 71 RX5 yX5_its wsX5_its) := goodIn_app (goodIn_of _ (by decide +kernel)) ggX5_arrives_X5_its
set_option maxRecDepth 20000 in
theorem ggX5_arrives_X5_payOf : GoodIn wsX5_arrives wsX5_payOf := goodIn_r _ [14, 1, 3, 4, 5, 6, 7, 8, 9, 10, 22, 23, 24, 25, 26, 27, 28, 29, 30, 31, 32, 33, 34, 35, 36, 37] (by decide +kernel) (by decide +kernel)
set_option maxRecDepth 20000 in
theorem gX5_arrives_X5_payOf : GoodIn wsX5_arrives (wsV RX5 92 RX5 yX5_payOf wsX5_payOf) := goodIn_app (goodIn_of _ (by decide +kernel)) ggX5_arrives_X5_payOf
set_option maxRecDepth 20000 in
theorem ggX5_arrives_X5_heldTo : GoodIn wsX5_arrives wsX5_heldTo := goodIn_r _ [17] (by decide +kernel) (by decide +kernel)
set_option maxRecDepth 20000 in
theorem gX5_arrives_X5_heldTo : GoodIn wsX5_arrives (va_wsS RX5 106 yX5_heldTo wsX5_heldTo) := goodIn_app (goodIn_of _ (by decide +kernel)) ggX5_arrives_X5_heldTo
set_option maxRecDepth 20000 in
theorem ggX5_arrives_X5_spotOf : GoodIn wsX5_arrives wsX5_spotOf := goodIn_r _ [10] (by decide +kernel) (by decide +kernel)
set_option maxRecDepth 20000 in
theorem gX5_arrives_X5_spotOf : GoodIn wsX5_arrives (va_wsS RX5 54 yX5_spotOf wsX5_spotOf) := goodIn_app (goodIn_of _ (by decide +kernel)) ggX5_arrives_X5_spotOf
set_option maxRecDepth 20000 in
theorem ggX5_arrives_X5_wearsOf : GoodIn wsX5_arrives wsX5_wearsOf := goodIn_r _ [21, 1, 3, 4, 5, 6, 7, 8, 9, 10, 22, 23, 24, 25, 26, 27, 28, 29, 30, 31, 32, 33, 34, 35, 36, 37] (by decide +kernel) (by decide +kernel)
set_option maxRecDepth 20000 in
theorem gX5_arrives_X5_wearsOf : GoodIn wsX5_arrives (wsV RX5 109 RX5 yX5_wearsOf wsX5_wearsOf) := goodIn_app (goodIn_of _ (by decide +kernel)) ggX5_arrives_X5_wearsOf
theorem dX5_arrives_0 : decode cX5_arrives 0 = .ok (.aload_n 0, 1) := by decide +kernel
theorem dX5_arrives_1 : decode cX5_arrives 1 = .ok (.iload_n 1, 1) := by decide +kernel
theorem dX5_arrives_2 : decode cX5_arrives 2 = .ok (.iconst 3, 1) := by decide +kernel
theorem dX5_arrives_3 : decode cX5_arrives 3 = .ok (.invokevirtual 71, 3) := by decide +kernel
theorem dX5_arrives_6 : decode cX5_arrives 6 = .ok (.ifCond .le 85, 3) := by decide +kernel
theorem dX5_arrives_9 : decode cX5_arrives 9 = .ok (.aload_n 0, 1) := by decide +kernel
theorem dX5_arrives_10 : decode cX5_arrives 10 = .ok (.iload_n 1, 1) := by decide +kernel
theorem dX5_arrives_11 : decode cX5_arrives 11 = .ok (.invokevirtual 92, 3) := by decide +kernel
theorem dX5_arrives_14 : decode cX5_arrives 14 = .ok (.aload_n 0, 1) := by decide +kernel
theorem dX5_arrives_15 : decode cX5_arrives 15 = .ok (.getfield 7, 3) := by decide +kernel
theorem dX5_arrives_18 : decode cX5_arrives 18 = .ok (.iconst 2, 1) := by decide +kernel
theorem dX5_arrives_19 : decode cX5_arrives 19 = .ok (.iaload, 1) := by decide +kernel
theorem dX5_arrives_20 : decode cX5_arrives 20 = .ok (.invokestatic 106, 3) := by decide +kernel
theorem dX5_arrives_23 : decode cX5_arrives 23 = .ok (.istore_n 2, 1) := by decide +kernel
theorem dX5_arrives_24 : decode cX5_arrives 24 = .ok (.aload_n 0, 1) := by decide +kernel
theorem dX5_arrives_25 : decode cX5_arrives 25 = .ok (.getfield 7, 3) := by decide +kernel
theorem dX5_arrives_28 : decode cX5_arrives 28 = .ok (.iconst 2, 1) := by decide +kernel
theorem dX5_arrives_29 : decode cX5_arrives 29 = .ok (.dup2, 1) := by decide +kernel
theorem dX5_arrives_30 : decode cX5_arrives 30 = .ok (.iaload, 1) := by decide +kernel
theorem dX5_arrives_31 : decode cX5_arrives 31 = .ok (.iload_n 2, 1) := by decide +kernel
theorem dX5_arrives_32 : decode cX5_arrives 32 = .ok (.isub, 1) := by decide +kernel
theorem dX5_arrives_33 : decode cX5_arrives 33 = .ok (.iastore, 1) := by decide +kernel
theorem dX5_arrives_34 : decode cX5_arrives 34 = .ok (.aload_n 0, 1) := by decide +kernel
theorem dX5_arrives_35 : decode cX5_arrives 35 = .ok (.getfield 7, 3) := by decide +kernel
theorem dX5_arrives_38 : decode cX5_arrives 38 = .ok (.iload_n 1, 1) := by decide +kernel
theorem dX5_arrives_39 : decode cX5_arrives 39 = .ok (.bipush 6, 2) := by decide +kernel
theorem dX5_arrives_41 : decode cX5_arrives 41 = .ok (.invokestatic 54, 3) := by decide +kernel
theorem dX5_arrives_44 : decode cX5_arrives 44 = .ok (.aload_n 0, 1) := by decide +kernel
theorem dX5_arrives_45 : decode cX5_arrives 45 = .ok (.iload_n 1, 1) := by decide +kernel
theorem dX5_arrives_46 : decode cX5_arrives 46 = .ok (.bipush 6, 2) := by decide +kernel
theorem dX5_arrives_48 : decode cX5_arrives 48 = .ok (.invokevirtual 71, 3) := by decide +kernel
theorem dX5_arrives_51 : decode cX5_arrives 51 = .ok (.iload_n 2, 1) := by decide +kernel
theorem dX5_arrives_52 : decode cX5_arrives 52 = .ok (.iadd, 1) := by decide +kernel
theorem dX5_arrives_53 : decode cX5_arrives 53 = .ok (.ldc 95, 2) := by decide +kernel
theorem dX5_arrives_55 : decode cX5_arrives 55 = .ok (.invokestatic 106, 3) := by decide +kernel
theorem dX5_arrives_58 : decode cX5_arrives 58 = .ok (.iastore, 1) := by decide +kernel
theorem dX5_arrives_59 : decode cX5_arrives 59 = .ok (.aload_n 0, 1) := by decide +kernel
theorem dX5_arrives_60 : decode cX5_arrives 60 = .ok (.iload_n 1, 1) := by decide +kernel
theorem dX5_arrives_61 : decode cX5_arrives 61 = .ok (.iconst 3, 1) := by decide +kernel
theorem dX5_arrives_62 : decode cX5_arrives 62 = .ok (.invokevirtual 71, 3) := by decide +kernel
theorem dX5_arrives_65 : decode cX5_arrives 65 = .ok (.aload_n 0, 1) := by decide +kernel
theorem dX5_arrives_66 : decode cX5_arrives 66 = .ok (.iload_n 1, 1) := by decide +kernel
theorem dX5_arrives_67 : decode cX5_arrives 67 = .ok (.invokevirtual 109, 3) := by decide +kernel
theorem dX5_arrives_70 : decode cX5_arrives 70 = .ok (.isub, 1) := by decide +kernel
theorem dX5_arrives_71 : decode cX5_arrives 71 = .ok (.istore_n 3, 1) := by decide +kernel
theorem dX5_arrives_72 : decode cX5_arrives 72 = .ok (.aload_n 0, 1) := by decide +kernel
theorem dX5_arrives_73 : decode cX5_arrives 73 = .ok (.getfield 7, 3) := by decide +kernel
theorem dX5_arrives_76 : decode cX5_arrives 76 = .ok (.iload_n 1, 1) := by decide +kernel
theorem dX5_arrives_77 : decode cX5_arrives 77 = .ok (.iconst 3, 1) := by decide +kernel
theorem dX5_arrives_78 : decode cX5_arrives 78 = .ok (.invokestatic 54, 3) := by decide +kernel
theorem dX5_arrives_81 : decode cX5_arrives 81 = .ok (.iload_n 3, 1) := by decide +kernel
theorem dX5_arrives_82 : decode cX5_arrives 82 = .ok (.ifCond .ge 7, 3) := by decide +kernel
theorem dX5_arrives_85 : decode cX5_arrives 85 = .ok (.iconst 0, 1) := by decide +kernel
theorem dX5_arrives_86 : decode cX5_arrives 86 = .ok (.goto 4, 3) := by decide +kernel
theorem dX5_arrives_89 : decode cX5_arrives 89 = .ok (.iload_n 3, 1) := by decide +kernel
theorem dX5_arrives_90 : decode cX5_arrives 90 = .ok (.iastore, 1) := by decide +kernel
theorem dX5_arrives_91 : decode cX5_arrives 91 = .ok (.aload_n 0, 1) := by decide +kernel
theorem dX5_arrives_92 : decode cX5_arrives 92 = .ok (.getfield 7, 3) := by decide +kernel
theorem dX5_arrives_95 : decode cX5_arrives 95 = .ok (.iload_n 1, 1) := by decide +kernel
theorem dX5_arrives_96 : decode cX5_arrives 96 = .ok (.iconst 5, 1) := by decide +kernel
theorem dX5_arrives_97 : decode cX5_arrives 97 = .ok (.invokestatic 54, 3) := by decide +kernel
theorem dX5_arrives_100 : decode cX5_arrives 100 = .ok (.iconst 0, 1) := by decide +kernel
theorem dX5_arrives_101 : decode cX5_arrives 101 = .ok (.iastore, 1) := by decide +kernel
theorem dX5_arrives_102 : decode cX5_arrives 102 = .ok (.aload_n 0, 1) := by decide +kernel
theorem dX5_arrives_103 : decode cX5_arrives 103 = .ok (.getfield 7, 3) := by decide +kernel
theorem dX5_arrives_106 : decode cX5_arrives 106 = .ok (.iload_n 1, 1) := by decide +kernel
theorem dX5_arrives_107 : decode cX5_arrives 107 = .ok (.iconst 2, 1) := by decide +kernel
theorem dX5_arrives_108 : decode cX5_arrives 108 = .ok (.invokestatic 54, 3) := by decide +kernel
theorem dX5_arrives_111 : decode cX5_arrives 111 = .ok (.iconst 1, 1) := by decide +kernel
theorem dX5_arrives_112 : decode cX5_arrives 112 = .ok (.aload_n 0, 1) := by decide +kernel
theorem dX5_arrives_113 : decode cX5_arrives 113 = .ok (.iload_n 1, 1) := by decide +kernel
theorem dX5_arrives_114 : decode cX5_arrives 114 = .ok (.iconst 2, 1) := by decide +kernel
theorem dX5_arrives_115 : decode cX5_arrives 115 = .ok (.invokevirtual 71, 3) := by decide +kernel
theorem dX5_arrives_118 : decode cX5_arrives 118 = .ok (.isub, 1) := by decide +kernel
theorem dX5_arrives_119 : decode cX5_arrives 119 = .ok (.iastore, 1) := by decide +kernel
theorem dX5_arrives_120 : decode cX5_arrives 120 = .ok (.return_, 1) := by decide +kernel
set_option maxRecDepth 20000 in
theorem ggX5_goes_X5_its : GoodIn wsX5_goes wsX5_its := goodIn_r _ [6, 1, 7, 8, 5, 9, 34, 35, 36, 37, 38, 39, 40, 41, 42, 43, 44, 45, 46, 47, 48, 49] (by decide +kernel) (by decide +kernel)
set_option maxRecDepth 20000 in
theorem gX5_goes_X5_its : GoodIn wsX5_goes (wsV RX5 71 RX5 yX5_its wsX5_its) := goodIn_app (goodIn_of _ (by decide +kernel)) ggX5_goes_X5_its
set_option maxRecDepth 20000 in
theorem ggX5_goes_X5_paceOf : GoodIn wsX5_goes wsX5_paceOf := goodIn_r _ [13, 1, 2, 3, 4, 5, 6, 7, 8, 9, 14, 15, 16, 17, 34, 35, 36, 37, 38, 39, 40, 41, 42, 43, 44, 45, 46, 47, 48, 49] (by decide +kernel) (by decide +kernel)
set_option maxRecDepth 20000 in
theorem gX5_goes_X5_paceOf : GoodIn wsX5_goes (wsV RX5 89 RX5 yX5_paceOf wsX5_paceOf) := goodIn_app (goodIn_of _ (by decide +kernel)) ggX5_goes_X5_paceOf
set_option maxRecDepth 20000 in
theorem ggX5_goes_X5_heldTo : GoodIn wsX5_goes wsX5_heldTo := goodIn_r _ [20] (by decide +kernel) (by decide +kernel)
set_option maxRecDepth 20000 in
theorem gX5_goes_X5_heldTo : GoodIn wsX5_goes (va_wsS RX5 106 yX5_heldTo wsX5_heldTo) := goodIn_app (goodIn_of _ (by decide +kernel)) ggX5_goes_X5_heldTo
set_option maxRecDepth 20000 in
theorem ggX5_goes_X5_spotOf : GoodIn wsX5_goes wsX5_spotOf := goodIn_r _ [9] (by decide +kernel) (by decide +kernel)
set_option maxRecDepth 20000 in
theorem gX5_goes_X5_spotOf : GoodIn wsX5_goes (va_wsS RX5 54 yX5_spotOf wsX5_spotOf) := goodIn_app (goodIn_of _ (by decide +kernel)) ggX5_goes_X5_spotOf
set_option maxRecDepth 20000 in
theorem ggX5_goes_X5_arrives : GoodIn wsX5_goes wsX5_arrives := goodIn_r _ [24, 1, 25, 2, 3, 4, 5, 6, 7, 8, 9, 26, 27, 28, 29, 18, 19, 20, 30, 31, 32, 33, 34, 35, 36, 37, 38, 39, 40, 41, 42, 43, 44, 45, 46, 47, 48, 49] (by decide +kernel) (by decide +kernel)
set_option maxRecDepth 20000 in
theorem gX5_goes_X5_arrives : GoodIn wsX5_goes (wsV RX5 112 RX5 yX5_arrives wsX5_arrives) := goodIn_app (goodIn_of _ (by decide +kernel)) ggX5_goes_X5_arrives
theorem dX5_goes_0 : decode cX5_goes 0 = .ok (.aload_n 0, 1) := by decide +kernel
theorem dX5_goes_1 : decode cX5_goes 1 = .ok (.iload_n 1, 1) := by decide +kernel
theorem dX5_goes_2 : decode cX5_goes 2 = .ok (.iconst 2, 1) := by decide +kernel
theorem dX5_goes_3 : decode cX5_goes 3 = .ok (.invokevirtual 71, 3) := by decide +kernel
theorem dX5_goes_6 : decode cX5_goes 6 = .ok (.iconst 1, 1) := by decide +kernel
theorem dX5_goes_7 : decode cX5_goes 7 = .ok (.if_icmp .ne 8, 3) := by decide +kernel
theorem dX5_goes_10 : decode cX5_goes 10 = .ok (.bipush 12, 2) := by decide +kernel
theorem dX5_goes_12 : decode cX5_goes 12 = .ok (.goto 4, 3) := by decide +kernel
theorem dX5_goes_15 : decode cX5_goes 15 = .ok (.iconst 0, 1) := by decide +kernel
theorem dX5_goes_16 : decode cX5_goes 16 = .ok (.istore_n 2, 1) := by decide +kernel
theorem dX5_goes_17 : decode cX5_goes 17 = .ok (.aload_n 0, 1) := by decide +kernel
theorem dX5_goes_18 : decode cX5_goes 18 = .ok (.iload_n 1, 1) := by decide +kernel
theorem dX5_goes_19 : decode cX5_goes 19 = .ok (.iconst 2, 1) := by decide +kernel
theorem dX5_goes_20 : decode cX5_goes 20 = .ok (.invokevirtual 71, 3) := by decide +kernel
theorem dX5_goes_23 : decode cX5_goes 23 = .ok (.iconst 1, 1) := by decide +kernel
theorem dX5_goes_24 : decode cX5_goes 24 = .ok (.if_icmp .ne 15, 3) := by decide +kernel
theorem dX5_goes_27 : decode cX5_goes 27 = .ok (.bipush 12, 2) := by decide +kernel
theorem dX5_goes_29 : decode cX5_goes 29 = .ok (.aload_n 0, 1) := by decide +kernel
theorem dX5_goes_30 : decode cX5_goes 30 = .ok (.iload_n 1, 1) := by decide +kernel
theorem dX5_goes_31 : decode cX5_goes 31 = .ok (.iconst 1, 1) := by decide +kernel
theorem dX5_goes_32 : decode cX5_goes 32 = .ok (.invokevirtual 71, 3) := by decide +kernel
theorem dX5_goes_35 : decode cX5_goes 35 = .ok (.isub, 1) := by decide +kernel
theorem dX5_goes_36 : decode cX5_goes 36 = .ok (.goto 9, 3) := by decide +kernel
theorem dX5_goes_39 : decode cX5_goes 39 = .ok (.aload_n 0, 1) := by decide +kernel
theorem dX5_goes_40 : decode cX5_goes 40 = .ok (.iload_n 1, 1) := by decide +kernel
theorem dX5_goes_41 : decode cX5_goes 41 = .ok (.iconst 1, 1) := by decide +kernel
theorem dX5_goes_42 : decode cX5_goes 42 = .ok (.invokevirtual 71, 3) := by decide +kernel
theorem dX5_goes_45 : decode cX5_goes 45 = .ok (.istore_n 3, 1) := by decide +kernel
theorem dX5_goes_46 : decode cX5_goes 46 = .ok (.aload_n 0, 1) := by decide +kernel
theorem dX5_goes_47 : decode cX5_goes 47 = .ok (.iload_n 1, 1) := by decide +kernel
theorem dX5_goes_48 : decode cX5_goes 48 = .ok (.invokevirtual 89, 3) := by decide +kernel
theorem dX5_goes_51 : decode cX5_goes 51 = .ok (.iload_n 3, 1) := by decide +kernel
theorem dX5_goes_52 : decode cX5_goes 52 = .ok (.invokestatic 106, 3) := by decide +kernel
theorem dX5_goes_55 : decode cX5_goes 55 = .ok (.istore 4, 2) := by decide +kernel
theorem dX5_goes_57 : decode cX5_goes 57 = .ok (.aload_n 0, 1) := by decide +kernel
theorem dX5_goes_58 : decode cX5_goes 58 = .ok (.getfield 7, 3) := by decide +kernel
theorem dX5_goes_61 : decode cX5_goes 61 = .ok (.iload_n 1, 1) := by decide +kernel
theorem dX5_goes_62 : decode cX5_goes 62 = .ok (.iconst 1, 1) := by decide +kernel
theorem dX5_goes_63 : decode cX5_goes 63 = .ok (.invokestatic 54, 3) := by decide +kernel
theorem dX5_goes_66 : decode cX5_goes 66 = .ok (.dup2, 1) := by decide +kernel
theorem dX5_goes_67 : decode cX5_goes 67 = .ok (.iaload, 1) := by decide +kernel
theorem dX5_goes_68 : decode cX5_goes 68 = .ok (.aload_n 0, 1) := by decide +kernel
theorem dX5_goes_69 : decode cX5_goes 69 = .ok (.iload_n 1, 1) := by decide +kernel
theorem dX5_goes_70 : decode cX5_goes 70 = .ok (.iconst 2, 1) := by decide +kernel
theorem dX5_goes_71 : decode cX5_goes 71 = .ok (.invokevirtual 71, 3) := by decide +kernel
theorem dX5_goes_74 : decode cX5_goes 74 = .ok (.iconst 1, 1) := by decide +kernel
theorem dX5_goes_75 : decode cX5_goes 75 = .ok (.if_icmp .ne 8, 3) := by decide +kernel
theorem dX5_goes_78 : decode cX5_goes 78 = .ok (.iload 4, 2) := by decide +kernel
theorem dX5_goes_80 : decode cX5_goes 80 = .ok (.goto 6, 3) := by decide +kernel
theorem dX5_goes_83 : decode cX5_goes 83 = .ok (.iload 4, 2) := by decide +kernel
theorem dX5_goes_85 : decode cX5_goes 85 = .ok (.ineg, 1) := by decide +kernel
theorem dX5_goes_86 : decode cX5_goes 86 = .ok (.iadd, 1) := by decide +kernel
theorem dX5_goes_87 : decode cX5_goes 87 = .ok (.iastore, 1) := by decide +kernel
theorem dX5_goes_88 : decode cX5_goes 88 = .ok (.aload_n 0, 1) := by decide +kernel
theorem dX5_goes_89 : decode cX5_goes 89 = .ok (.getfield 7, 3) := by decide +kernel
theorem dX5_goes_92 : decode cX5_goes 92 = .ok (.iload_n 1, 1) := by decide +kernel
theorem dX5_goes_93 : decode cX5_goes 93 = .ok (.iconst 5, 1) := by decide +kernel
theorem dX5_goes_94 : decode cX5_goes 94 = .ok (.invokestatic 54, 3) := by decide +kernel
theorem dX5_goes_97 : decode cX5_goes 97 = .ok (.aload_n 0, 1) := by decide +kernel
theorem dX5_goes_98 : decode cX5_goes 98 = .ok (.iload_n 1, 1) := by decide +kernel
theorem dX5_goes_99 : decode cX5_goes 99 = .ok (.iconst 5, 1) := by decide +kernel
theorem dX5_goes_100 : decode cX5_goes 100 = .ok (.invokevirtual 71, 3) := by decide +kernel
theorem dX5_goes_103 : decode cX5_goes 103 = .ok (.iload 4, 2) := by decide +kernel
theorem dX5_goes_105 : decode cX5_goes 105 = .ok (.iadd, 1) := by decide +kernel
theorem dX5_goes_106 : decode cX5_goes 106 = .ok (.bipush 12, 2) := by decide +kernel
theorem dX5_goes_108 : decode cX5_goes 108 = .ok (.invokestatic 106, 3) := by decide +kernel
theorem dX5_goes_111 : decode cX5_goes 111 = .ok (.iastore, 1) := by decide +kernel
theorem dX5_goes_112 : decode cX5_goes 112 = .ok (.aload_n 0, 1) := by decide +kernel
theorem dX5_goes_113 : decode cX5_goes 113 = .ok (.getfield 7, 3) := by decide +kernel
theorem dX5_goes_116 : decode cX5_goes 116 = .ok (.iload_n 1, 1) := by decide +kernel
theorem dX5_goes_117 : decode cX5_goes 117 = .ok (.iconst 4, 1) := by decide +kernel
theorem dX5_goes_118 : decode cX5_goes 118 = .ok (.invokestatic 54, 3) := by decide +kernel
theorem dX5_goes_121 : decode cX5_goes 121 = .ok (.aload_n 0, 1) := by decide +kernel
theorem dX5_goes_122 : decode cX5_goes 122 = .ok (.iload_n 1, 1) := by decide +kernel
theorem dX5_goes_123 : decode cX5_goes 123 = .ok (.iconst 1, 1) := by decide +kernel
theorem dX5_goes_124 : decode cX5_goes 124 = .ok (.invokevirtual 71, 3) := by decide +kernel
theorem dX5_goes_127 : decode cX5_goes 127 = .ok (.bipush 6, 2) := by decide +kernel
theorem dX5_goes_129 : decode cX5_goes 129 = .ok (.if_icmp .ne 7, 3) := by decide +kernel
theorem dX5_goes_132 : decode cX5_goes 132 = .ok (.iconst 0, 1) := by decide +kernel
theorem dX5_goes_133 : decode cX5_goes 133 = .ok (.goto 16, 3) := by decide +kernel
theorem dX5_goes_136 : decode cX5_goes 136 = .ok (.aload_n 0, 1) := by decide +kernel
theorem dX5_goes_137 : decode cX5_goes 137 = .ok (.iload_n 1, 1) := by decide +kernel
theorem dX5_goes_138 : decode cX5_goes 138 = .ok (.iconst 4, 1) := by decide +kernel
theorem dX5_goes_139 : decode cX5_goes 139 = .ok (.invokevirtual 71, 3) := by decide +kernel
theorem dX5_goes_142 : decode cX5_goes 142 = .ok (.iconst 1, 1) := by decide +kernel
theorem dX5_goes_143 : decode cX5_goes 143 = .ok (.iadd, 1) := by decide +kernel
theorem dX5_goes_144 : decode cX5_goes 144 = .ok (.bipush 99, 2) := by decide +kernel
theorem dX5_goes_146 : decode cX5_goes 146 = .ok (.invokestatic 106, 3) := by decide +kernel
theorem dX5_goes_149 : decode cX5_goes 149 = .ok (.iastore, 1) := by decide +kernel
theorem dX5_goes_150 : decode cX5_goes 150 = .ok (.aload_n 0, 1) := by decide +kernel
theorem dX5_goes_151 : decode cX5_goes 151 = .ok (.iload_n 1, 1) := by decide +kernel
theorem dX5_goes_152 : decode cX5_goes 152 = .ok (.iconst 1, 1) := by decide +kernel
theorem dX5_goes_153 : decode cX5_goes 153 = .ok (.invokevirtual 71, 3) := by decide +kernel
theorem dX5_goes_156 : decode cX5_goes 156 = .ok (.iload_n 2, 1) := by decide +kernel
theorem dX5_goes_157 : decode cX5_goes 157 = .ok (.if_icmp .ne 8, 3) := by decide +kernel
theorem dX5_goes_160 : decode cX5_goes 160 = .ok (.aload_n 0, 1) := by decide +kernel
theorem dX5_goes_161 : decode cX5_goes 161 = .ok (.iload_n 1, 1) := by decide +kernel
theorem dX5_goes_162 : decode cX5_goes 162 = .ok (.invokevirtual 112, 3) := by decide +kernel
theorem dX5_goes_165 : decode cX5_goes 165 = .ok (.return_, 1) := by decide +kernel
set_option maxRecDepth 20000 in
theorem ggX5_hour_X5_its : GoodIn wsX5_hour wsX5_its := goodIn_r _ [6, 1, 7, 8, 5, 9, 38, 39, 40, 41, 42, 43, 44, 45, 46, 47, 48, 49, 50, 51, 52, 53] (by decide +kernel) (by decide +kernel)
set_option maxRecDepth 20000 in
theorem gX5_hour_X5_its : GoodIn wsX5_hour (wsV RX5 71 RX5 yX5_its wsX5_its) := goodIn_app (goodIn_of _ (by decide +kernel)) ggX5_hour_X5_its
set_option maxRecDepth 20000 in
theorem ggX5_hour_X5_goes : GoodIn wsX5_hour wsX5_goes := goodIn_r _ [13, 1, 2, 3, 4, 5, 6, 7, 8, 9, 14, 15, 16, 17, 18, 19, 20, 21, 22, 23, 24, 25, 26, 27, 28, 29, 30, 31, 32, 33, 34, 35, 36, 37, 38, 39, 40, 41, 42, 43, 44, 45, 46, 47, 48, 49, 50, 51, 52, 53] (by decide +kernel) (by decide +kernel)
set_option maxRecDepth 20000 in
theorem gX5_hour_X5_goes : GoodIn wsX5_hour (wsV RX5 116 RX5 yX5_goes wsX5_goes) := goodIn_app (goodIn_of _ (by decide +kernel)) ggX5_hour_X5_goes
theorem dX5_hour_0 : decode cX5_hour 0 = .ok (.iconst 0, 1) := by decide +kernel
theorem dX5_hour_1 : decode cX5_hour 1 = .ok (.istore_n 1, 1) := by decide +kernel
theorem dX5_hour_2 : decode cX5_hour 2 = .ok (.iload_n 1, 1) := by decide +kernel
theorem dX5_hour_3 : decode cX5_hour 3 = .ok (.aload_n 0, 1) := by decide +kernel
theorem dX5_hour_4 : decode cX5_hour 4 = .ok (.getfield 7, 3) := by decide +kernel
theorem dX5_hour_7 : decode cX5_hour 7 = .ok (.iconst 0, 1) := by decide +kernel
theorem dX5_hour_8 : decode cX5_hour 8 = .ok (.iaload, 1) := by decide +kernel
theorem dX5_hour_9 : decode cX5_hour 9 = .ok (.if_icmp .ge 24, 3) := by decide +kernel
theorem dX5_hour_12 : decode cX5_hour 12 = .ok (.aload_n 0, 1) := by decide +kernel
theorem dX5_hour_13 : decode cX5_hour 13 = .ok (.iload_n 1, 1) := by decide +kernel
theorem dX5_hour_14 : decode cX5_hour 14 = .ok (.bipush 7, 2) := by decide +kernel
theorem dX5_hour_16 : decode cX5_hour 16 = .ok (.invokevirtual 71, 3) := by decide +kernel
theorem dX5_hour_19 : decode cX5_hour 19 = .ok (.ifCond .ne 8, 3) := by decide +kernel
theorem dX5_hour_22 : decode cX5_hour 22 = .ok (.aload_n 0, 1) := by decide +kernel
theorem dX5_hour_23 : decode cX5_hour 23 = .ok (.iload_n 1, 1) := by decide +kernel
theorem dX5_hour_24 : decode cX5_hour 24 = .ok (.invokevirtual 116, 3) := by decide +kernel
theorem dX5_hour_27 : decode cX5_hour 27 = .ok (.iinc 1 1, 3) := by decide +kernel
theorem dX5_hour_30 : decode cX5_hour 30 = .ok (.goto (-28), 3) := by decide +kernel
theorem dX5_hour_33 : decode cX5_hour 33 = .ok (.aload_n 0, 1) := by decide +kernel
theorem dX5_hour_34 : decode cX5_hour 34 = .ok (.getfield 7, 3) := by decide +kernel
theorem dX5_hour_37 : decode cX5_hour 37 = .ok (.iconst 1, 1) := by decide +kernel
theorem dX5_hour_38 : decode cX5_hour 38 = .ok (.dup2, 1) := by decide +kernel
theorem dX5_hour_39 : decode cX5_hour 39 = .ok (.iaload, 1) := by decide +kernel
theorem dX5_hour_40 : decode cX5_hour 40 = .ok (.iconst 1, 1) := by decide +kernel
theorem dX5_hour_41 : decode cX5_hour 41 = .ok (.iadd, 1) := by decide +kernel
theorem dX5_hour_42 : decode cX5_hour 42 = .ok (.iastore, 1) := by decide +kernel
theorem dX5_hour_43 : decode cX5_hour 43 = .ok (.return_, 1) := by decide +kernel
set_option maxRecDepth 20000 in
theorem ggX5_hoursGo_X5_hour : GoodIn wsX5_hoursGo wsX5_hour := goodIn_r _ [5, 6, 7, 8, 9, 4, 10, 11, 12, 13, 14, 15, 16, 17, 18, 19, 20, 21, 22, 23, 24, 25, 26, 27, 28, 29, 30, 31, 32, 33, 34, 35, 36, 37, 38, 39, 40, 41, 42, 43, 44, 45, 46, 47, 48, 49, 50, 51, 52, 53, 54, 55, 56, 57] (by decide +kernel) (by decide +kernel)
set_option maxRecDepth 20000 in
theorem gX5_hoursGo_X5_hour : GoodIn wsX5_hoursGo (wsV RX5 119 RX5 yX5_hour wsX5_hour) := goodIn_app (goodIn_of _ (by decide +kernel)) ggX5_hoursGo_X5_hour
theorem dX5_hoursGo_0 : decode cX5_hoursGo 0 = .ok (.iconst 0, 1) := by decide +kernel
theorem dX5_hoursGo_1 : decode cX5_hoursGo 1 = .ok (.istore_n 2, 1) := by decide +kernel
theorem dX5_hoursGo_2 : decode cX5_hoursGo 2 = .ok (.iload_n 2, 1) := by decide +kernel
theorem dX5_hoursGo_3 : decode cX5_hoursGo 3 = .ok (.iload_n 1, 1) := by decide +kernel
theorem dX5_hoursGo_4 : decode cX5_hoursGo 4 = .ok (.if_icmp .ge 13, 3) := by decide +kernel
theorem dX5_hoursGo_7 : decode cX5_hoursGo 7 = .ok (.aload_n 0, 1) := by decide +kernel
theorem dX5_hoursGo_8 : decode cX5_hoursGo 8 = .ok (.invokevirtual 119, 3) := by decide +kernel
theorem dX5_hoursGo_11 : decode cX5_hoursGo 11 = .ok (.iinc 2 1, 3) := by decide +kernel
theorem dX5_hoursGo_14 : decode cX5_hoursGo 14 = .ok (.goto (-12), 3) := by decide +kernel
theorem dX5_hoursGo_17 : decode cX5_hoursGo 17 = .ok (.return_, 1) := by decide +kernel
set_option maxRecDepth 20000 in
theorem ggX5_hours_X5_in : GoodIn wsX5_hours wsX5_in := goodIn_r _ [9] (by decide +kernel) (by decide +kernel)
set_option maxRecDepth 20000 in
theorem gX5_hours_X5_in : GoodIn wsX5_hours (va_wsS RX5 44 yX5_in wsX5_in) := goodIn_app (goodIn_of _ (by decide +kernel)) ggX5_hours_X5_in
set_option maxRecDepth 20000 in
theorem ggX5_hours_X5_finds : GoodIn wsX5_hours wsX5_finds := goodIn_r _ [13, 14, 2, 58, 59, 60, 61, 62, 63, 64, 65, 66, 67, 68, 69, 70, 71, 72, 73] (by decide +kernel) (by decide +kernel)
set_option maxRecDepth 20000 in
theorem gX5_hours_X5_finds : GoodIn wsX5_hours (wsV RX5 67 RX5 yX5_finds wsX5_finds) := goodIn_app (goodIn_of _ (by decide +kernel)) ggX5_hours_X5_finds
set_option maxRecDepth 20000 in
theorem ggX5_hours_X5_hoursGo : GoodIn wsX5_hours wsX5_hoursGo := goodIn_r _ [18, 19, 20, 21, 8, 22, 3, 23, 24, 25, 26, 27, 28, 29, 30, 31, 32, 33, 34, 35, 36, 37, 38, 39, 40, 41, 42, 43, 44, 45, 46, 47, 48, 49, 50, 51, 52, 53, 54, 55, 56, 57, 58, 59, 60, 61, 62, 63, 64, 65, 66, 67, 68, 69, 70, 71, 72, 73] (by decide +kernel) (by decide +kernel)
set_option maxRecDepth 20000 in
theorem gX5_hours_X5_hoursGo : GoodIn wsX5_hours (wsV RX5 126 RX5 yX5_hoursGo wsX5_hoursGo) := goodIn_app (goodIn_of _ (by decide +kernel)) ggX5_hours_X5_hoursGo
theorem dX5_hours_0 : decode cX5_hours 0 = .ok (.iload_n 1, 1) := by decide +kernel
theorem dX5_hours_1 : decode cX5_hours 1 = .ok (.i2l, 1) := by decide +kernel
theorem dX5_hours_2 : decode cX5_hours 2 = .ok (.lconst 1, 1) := by decide +kernel
theorem dX5_hours_3 : decode cX5_hours 3 = .ok (.ldc2_w 122, 3) := by decide +kernel
theorem dX5_hours_6 : decode cX5_hours 6 = .ok (.invokestatic 44, 3) := by decide +kernel
theorem dX5_hours_9 : decode cX5_hours 9 = .ok (.ifCond .ne 10, 3) := by decide +kernel
theorem dX5_hours_12 : decode cX5_hours 12 = .ok (.aload_n 0, 1) := by decide +kernel
theorem dX5_hours_13 : decode cX5_hours 13 = .ok (.ldc 41, 2) := by decide +kernel
theorem dX5_hours_15 : decode cX5_hours 15 = .ok (.invokevirtual 67, 3) := by decide +kernel
theorem dX5_hours_18 : decode cX5_hours 18 = .ok (.ireturn, 1) := by decide +kernel
theorem dX5_hours_19 : decode cX5_hours 19 = .ok (.aload_n 0, 1) := by decide +kernel
theorem dX5_hours_20 : decode cX5_hours 20 = .ok (.getfield 7, 3) := by decide +kernel
theorem dX5_hours_23 : decode cX5_hours 23 = .ok (.iconst 1, 1) := by decide +kernel
theorem dX5_hours_24 : decode cX5_hours 24 = .ok (.iaload, 1) := by decide +kernel
theorem dX5_hours_25 : decode cX5_hours 25 = .ok (.iload_n 1, 1) := by decide +kernel
theorem dX5_hours_26 : decode cX5_hours 26 = .ok (.iadd, 1) := by decide +kernel
theorem dX5_hours_27 : decode cX5_hours 27 = .ok (.ldc 124, 2) := by decide +kernel
theorem dX5_hours_29 : decode cX5_hours 29 = .ok (.if_icmp .le 10, 3) := by decide +kernel
theorem dX5_hours_32 : decode cX5_hours 32 = .ok (.aload_n 0, 1) := by decide +kernel
theorem dX5_hours_33 : decode cX5_hours 33 = .ok (.ldc 125, 2) := by decide +kernel
theorem dX5_hours_35 : decode cX5_hours 35 = .ok (.invokevirtual 67, 3) := by decide +kernel
theorem dX5_hours_38 : decode cX5_hours 38 = .ok (.ireturn, 1) := by decide +kernel
theorem dX5_hours_39 : decode cX5_hours 39 = .ok (.aload_n 0, 1) := by decide +kernel
theorem dX5_hours_40 : decode cX5_hours 40 = .ok (.iload_n 1, 1) := by decide +kernel
theorem dX5_hours_41 : decode cX5_hours 41 = .ok (.invokevirtual 126, 3) := by decide +kernel
theorem dX5_hours_44 : decode cX5_hours 44 = .ok (.aload_n 0, 1) := by decide +kernel
theorem dX5_hours_45 : decode cX5_hours 45 = .ok (.getfield 7, 3) := by decide +kernel
theorem dX5_hours_48 : decode cX5_hours 48 = .ok (.iconst 2, 1) := by decide +kernel
theorem dX5_hours_49 : decode cX5_hours 49 = .ok (.iaload, 1) := by decide +kernel
theorem dX5_hours_50 : decode cX5_hours 50 = .ok (.ireturn, 1) := by decide +kernel
set_option maxRecDepth 20000 in
theorem ggX5_together_X5_its : GoodIn wsX5_together wsX5_its := goodIn_r _ [6, 1, 7, 8, 5, 9, 10, 11, 12, 13, 14, 15, 16, 17, 18, 19, 20, 21, 22, 23, 24, 25] (by decide +kernel) (by decide +kernel)
set_option maxRecDepth 20000 in
theorem gX5_together_X5_its : GoodIn wsX5_together (wsV RX5 71 RX5 yX5_its wsX5_its) := goodIn_app (goodIn_of _ (by decide +kernel)) ggX5_together_X5_its
theorem dX5_together_0 : decode cX5_together 0 = .ok (.iconst 0, 1) := by decide +kernel
theorem dX5_together_1 : decode cX5_together 1 = .ok (.istore_n 2, 1) := by decide +kernel
theorem dX5_together_2 : decode cX5_together 2 = .ok (.iconst 0, 1) := by decide +kernel
theorem dX5_together_3 : decode cX5_together 3 = .ok (.istore_n 3, 1) := by decide +kernel
theorem dX5_together_4 : decode cX5_together 4 = .ok (.iload_n 3, 1) := by decide +kernel
theorem dX5_together_5 : decode cX5_together 5 = .ok (.aload_n 0, 1) := by decide +kernel
theorem dX5_together_6 : decode cX5_together 6 = .ok (.getfield 7, 3) := by decide +kernel
theorem dX5_together_9 : decode cX5_together 9 = .ok (.iconst 0, 1) := by decide +kernel
theorem dX5_together_10 : decode cX5_together 10 = .ok (.iaload, 1) := by decide +kernel
theorem dX5_together_11 : decode cX5_together 11 = .ok (.if_icmp .ge 18, 3) := by decide +kernel
theorem dX5_together_14 : decode cX5_together 14 = .ok (.iload_n 2, 1) := by decide +kernel
theorem dX5_together_15 : decode cX5_together 15 = .ok (.aload_n 0, 1) := by decide +kernel
theorem dX5_together_16 : decode cX5_together 16 = .ok (.iload_n 3, 1) := by decide +kernel
theorem dX5_together_17 : decode cX5_together 17 = .ok (.iload_n 1, 1) := by decide +kernel
theorem dX5_together_18 : decode cX5_together 18 = .ok (.invokevirtual 71, 3) := by decide +kernel
theorem dX5_together_21 : decode cX5_together 21 = .ok (.iadd, 1) := by decide +kernel
theorem dX5_together_22 : decode cX5_together 22 = .ok (.istore_n 2, 1) := by decide +kernel
theorem dX5_together_23 : decode cX5_together 23 = .ok (.iinc 3 1, 3) := by decide +kernel
theorem dX5_together_26 : decode cX5_together 26 = .ok (.goto (-22), 3) := by decide +kernel
theorem dX5_together_29 : decode cX5_together 29 = .ok (.iload_n 2, 1) := by decide +kernel
theorem dX5_together_30 : decode cX5_together 30 = .ok (.ireturn, 1) := by decide +kernel
set_option maxRecDepth 20000 in
theorem ggX5_thoseWith_X5_its : GoodIn wsX5_thoseWith wsX5_its := goodIn_r _ [6, 1, 7, 8, 5, 9, 10, 11, 12, 13, 14, 15, 16, 17, 18, 19, 20, 21, 22, 23, 24, 25] (by decide +kernel) (by decide +kernel)
set_option maxRecDepth 20000 in
theorem gX5_thoseWith_X5_its : GoodIn wsX5_thoseWith (wsV RX5 71 RX5 yX5_its wsX5_its) := goodIn_app (goodIn_of _ (by decide +kernel)) ggX5_thoseWith_X5_its
theorem dX5_thoseWith_0 : decode cX5_thoseWith 0 = .ok (.iconst 0, 1) := by decide +kernel
theorem dX5_thoseWith_1 : decode cX5_thoseWith 1 = .ok (.istore_n 2, 1) := by decide +kernel
theorem dX5_thoseWith_2 : decode cX5_thoseWith 2 = .ok (.iconst 0, 1) := by decide +kernel
theorem dX5_thoseWith_3 : decode cX5_thoseWith 3 = .ok (.istore_n 3, 1) := by decide +kernel
theorem dX5_thoseWith_4 : decode cX5_thoseWith 4 = .ok (.iload_n 3, 1) := by decide +kernel
theorem dX5_thoseWith_5 : decode cX5_thoseWith 5 = .ok (.aload_n 0, 1) := by decide +kernel
theorem dX5_thoseWith_6 : decode cX5_thoseWith 6 = .ok (.getfield 7, 3) := by decide +kernel
theorem dX5_thoseWith_9 : decode cX5_thoseWith 9 = .ok (.iconst 0, 1) := by decide +kernel
theorem dX5_thoseWith_10 : decode cX5_thoseWith 10 = .ok (.iaload, 1) := by decide +kernel
theorem dX5_thoseWith_11 : decode cX5_thoseWith 11 = .ok (.if_icmp .ge 28, 3) := by decide +kernel
theorem dX5_thoseWith_14 : decode cX5_thoseWith 14 = .ok (.iload_n 2, 1) := by decide +kernel
theorem dX5_thoseWith_15 : decode cX5_thoseWith 15 = .ok (.aload_n 0, 1) := by decide +kernel
theorem dX5_thoseWith_16 : decode cX5_thoseWith 16 = .ok (.iload_n 3, 1) := by decide +kernel
theorem dX5_thoseWith_17 : decode cX5_thoseWith 17 = .ok (.iload_n 1, 1) := by decide +kernel
theorem dX5_thoseWith_18 : decode cX5_thoseWith 18 = .ok (.invokevirtual 71, 3) := by decide +kernel
theorem dX5_thoseWith_21 : decode cX5_thoseWith 21 = .ok (.ifCond .le 9, 3) := by decide +kernel
theorem dX5_thoseWith_24 : decode cX5_thoseWith 24 = .ok (.iconst 1, 1) := by decide +kernel
theorem dX5_thoseWith_25 : decode cX5_thoseWith 25 = .ok (.iload_n 3, 1) := by decide +kernel
theorem dX5_thoseWith_26 : decode cX5_thoseWith 26 = .ok (.ishl, 1) := by decide +kernel
theorem dX5_thoseWith_27 : decode cX5_thoseWith 27 = .ok (.goto 4, 3) := by decide +kernel
theorem dX5_thoseWith_30 : decode cX5_thoseWith 30 = .ok (.iconst 0, 1) := by decide +kernel
theorem dX5_thoseWith_31 : decode cX5_thoseWith 31 = .ok (.ior, 1) := by decide +kernel
theorem dX5_thoseWith_32 : decode cX5_thoseWith 32 = .ok (.istore_n 2, 1) := by decide +kernel
theorem dX5_thoseWith_33 : decode cX5_thoseWith 33 = .ok (.iinc 3 1, 3) := by decide +kernel
theorem dX5_thoseWith_36 : decode cX5_thoseWith 36 = .ok (.goto (-32), 3) := by decide +kernel
theorem dX5_thoseWith_39 : decode cX5_thoseWith 39 = .ok (.iload_n 2, 1) := by decide +kernel
theorem dX5_thoseWith_40 : decode cX5_thoseWith 40 = .ok (.ireturn, 1) := by decide +kernel
set_option maxRecDepth 20000 in
theorem ggX5_now_X5_together : GoodIn wsX5_now wsX5_together := goodIn_r _ [7, 1, 8, 9, 10, 6, 11, 12, 13, 14, 24, 25, 26, 27, 28, 29, 30, 31, 32, 33, 34, 35, 36, 37, 38, 39] (by decide +kernel) (by decide +kernel)
set_option maxRecDepth 20000 in
theorem gX5_now_X5_together : GoodIn wsX5_now (wsV RX5 129 RX5 yX5_together wsX5_together) := goodIn_app (goodIn_of _ (by decide +kernel)) ggX5_now_X5_together
set_option maxRecDepth 20000 in
theorem ggX5_now_X5_thoseWith : GoodIn wsX5_now wsX5_thoseWith := goodIn_r _ [18, 1, 8, 9, 10, 6, 11, 12, 13, 14, 24, 25, 26, 27, 28, 29, 30, 31, 32, 33, 34, 35, 36, 37, 38, 39] (by decide +kernel) (by decide +kernel)
set_option maxRecDepth 20000 in
theorem gX5_now_X5_thoseWith : GoodIn wsX5_now (wsV RX5 132 RX5 yX5_thoseWith wsX5_thoseWith) := goodIn_app (goodIn_of _ (by decide +kernel)) ggX5_now_X5_thoseWith
set_option maxRecDepth 20000 in
theorem ggX5_now_X5_finds : GoodIn wsX5_now wsX5_finds := goodIn_r _ [22, 23, 2, 24, 25, 26, 27, 28, 29, 30, 31, 32, 33, 34, 35, 36, 37, 38, 39] (by decide +kernel) (by decide +kernel)
set_option maxRecDepth 20000 in
theorem gX5_now_X5_finds : GoodIn wsX5_now (wsV RX5 67 RX5 yX5_finds wsX5_finds) := goodIn_app (goodIn_of _ (by decide +kernel)) ggX5_now_X5_finds
theorem dX5_now_0 : decode cX5_now 0 = .ok (.iload_n 1, 1) := by decide +kernel
theorem dX5_now_1 : decode cX5_now 1 = .ok (.tableswitch 82 0 7 #[47, 47, 47, 47, 56, 63, 69, 76], 47) := by decide +kernel
theorem dX5_now_48 : decode cX5_now 48 = .ok (.aload_n 0, 1) := by decide +kernel
theorem dX5_now_49 : decode cX5_now 49 = .ok (.getfield 7, 3) := by decide +kernel
theorem dX5_now_52 : decode cX5_now 52 = .ok (.iconst 1, 1) := by decide +kernel
theorem dX5_now_53 : decode cX5_now 53 = .ok (.iload_n 1, 1) := by decide +kernel
theorem dX5_now_54 : decode cX5_now 54 = .ok (.iadd, 1) := by decide +kernel
theorem dX5_now_55 : decode cX5_now 55 = .ok (.iaload, 1) := by decide +kernel
theorem dX5_now_56 : decode cX5_now 56 = .ok (.ireturn, 1) := by decide +kernel
theorem dX5_now_57 : decode cX5_now 57 = .ok (.aload_n 0, 1) := by decide +kernel
theorem dX5_now_58 : decode cX5_now 58 = .ok (.bipush 6, 2) := by decide +kernel
theorem dX5_now_60 : decode cX5_now 60 = .ok (.invokevirtual 129, 3) := by decide +kernel
theorem dX5_now_63 : decode cX5_now 63 = .ok (.ireturn, 1) := by decide +kernel
theorem dX5_now_64 : decode cX5_now 64 = .ok (.aload_n 0, 1) := by decide +kernel
theorem dX5_now_65 : decode cX5_now 65 = .ok (.iconst 3, 1) := by decide +kernel
theorem dX5_now_66 : decode cX5_now 66 = .ok (.invokevirtual 132, 3) := by decide +kernel
theorem dX5_now_69 : decode cX5_now 69 = .ok (.ireturn, 1) := by decide +kernel
theorem dX5_now_70 : decode cX5_now 70 = .ok (.aload_n 0, 1) := by decide +kernel
theorem dX5_now_71 : decode cX5_now 71 = .ok (.bipush 7, 2) := by decide +kernel
theorem dX5_now_73 : decode cX5_now 73 = .ok (.invokevirtual 132, 3) := by decide +kernel
theorem dX5_now_76 : decode cX5_now 76 = .ok (.ireturn, 1) := by decide +kernel
theorem dX5_now_77 : decode cX5_now 77 = .ok (.aload_n 0, 1) := by decide +kernel
theorem dX5_now_78 : decode cX5_now 78 = .ok (.iconst 5, 1) := by decide +kernel
theorem dX5_now_79 : decode cX5_now 79 = .ok (.invokevirtual 129, 3) := by decide +kernel
theorem dX5_now_82 : decode cX5_now 82 = .ok (.ireturn, 1) := by decide +kernel
theorem dX5_now_83 : decode cX5_now 83 = .ok (.aload_n 0, 1) := by decide +kernel
theorem dX5_now_84 : decode cX5_now 84 = .ok (.ldc 41, 2) := by decide +kernel
theorem dX5_now_86 : decode cX5_now 86 = .ok (.invokevirtual 67, 3) := by decide +kernel
theorem dX5_now_89 : decode cX5_now 89 = .ok (.ireturn, 1) := by decide +kernel
set_option maxRecDepth 20000 in
theorem ggX5_behind_X5_laysAside : GoodIn wsX5_behind wsX5_laysAside := goodIn_r _ [6, 7, 1, 55, 56, 57, 58, 59, 60, 61, 62, 63, 64, 65, 66, 67, 68, 69, 70] (by decide +kernel) (by decide +kernel)
set_option maxRecDepth 20000 in
theorem gX5_behind_X5_laysAside : GoodIn wsX5_behind (wsV RX5 135 RX5 yX5_laysAside wsX5_laysAside) := goodIn_app (goodIn_of _ (by decide +kernel)) ggX5_behind_X5_laysAside
set_option maxRecDepth 20000 in
theorem ggX5_behind_X5_hoursGo : GoodIn wsX5_behind wsX5_hoursGo := goodIn_r _ [11, 12, 13, 14, 5, 15, 1, 16, 17, 18, 19, 20, 21, 22, 23, 24, 25, 26, 27, 28, 29, 30, 31, 32, 33, 34, 35, 36, 37, 38, 39, 40, 41, 42, 43, 44, 45, 46, 47, 48, 49, 50, 55, 56, 57, 58, 59, 60, 61, 62, 63, 64, 65, 66, 67, 68, 69, 70] (by decide +kernel) (by decide +kernel)
set_option maxRecDepth 20000 in
theorem gX5_behind_X5_hoursGo : GoodIn wsX5_behind (wsV RX5 126 RX5 yX5_hoursGo wsX5_hoursGo) := goodIn_app (goodIn_of _ (by decide +kernel)) ggX5_behind_X5_hoursGo
set_option maxRecDepth 20000 in
theorem ggX5_behind_X5_takesBack : GoodIn wsX5_behind wsX5_takesBack := goodIn_r _ [54, 1, 7, 55, 56, 57, 58, 59, 60, 61, 62, 63, 64, 65, 66, 67, 68, 69, 70] (by decide +kernel) (by decide +kernel)
set_option maxRecDepth 20000 in
theorem gX5_behind_X5_takesBack : GoodIn wsX5_behind (wsV RX5 138 RX5 yX5_takesBack wsX5_takesBack) := goodIn_app (goodIn_of _ (by decide +kernel)) ggX5_behind_X5_takesBack
theorem dX5_behind_0 : decode cX5_behind 0 = .ok (.aload_n 0, 1) := by decide +kernel
theorem dX5_behind_1 : decode cX5_behind 1 = .ok (.invokevirtual 135, 3) := by decide +kernel
theorem dX5_behind_4 : decode cX5_behind 4 = .ok (.aload_n 0, 1) := by decide +kernel
theorem dX5_behind_5 : decode cX5_behind 5 = .ok (.iload_n 2, 1) := by decide +kernel
theorem dX5_behind_6 : decode cX5_behind 6 = .ok (.invokevirtual 126, 3) := by decide +kernel
theorem dX5_behind_9 : decode cX5_behind 9 = .ok (.aload_n 0, 1) := by decide +kernel
theorem dX5_behind_10 : decode cX5_behind 10 = .ok (.aload_n 0, 1) := by decide +kernel
theorem dX5_behind_11 : decode cX5_behind 11 = .ok (.getfield 7, 3) := by decide +kernel
theorem dX5_behind_14 : decode cX5_behind 14 = .ok (.iload_n 1, 1) := by decide +kernel
theorem dX5_behind_15 : decode cX5_behind 15 = .ok (.iaload, 1) := by decide +kernel
theorem dX5_behind_16 : decode cX5_behind 16 = .ok (.invokevirtual 138, 3) := by decide +kernel
theorem dX5_behind_19 : decode cX5_behind 19 = .ok (.ireturn, 1) := by decide +kernel
set_option maxRecDepth 20000 in
theorem ggX5_on_X5_isWalker : GoodIn wsX5_on wsX5_isWalker := goodIn_r _ [8, 9, 10, 11, 7, 12, 74, 75, 76, 77, 78, 79, 80, 81, 82, 83, 84, 85, 86, 87, 88, 89] (by decide +kernel) (by decide +kernel)
set_option maxRecDepth 20000 in
theorem gX5_on_X5_isWalker : GoodIn wsX5_on (wsV RX5 48 RX5 yX5_isWalker wsX5_isWalker) := goodIn_app (goodIn_of _ (by decide +kernel)) ggX5_on_X5_isWalker
set_option maxRecDepth 20000 in
theorem ggX5_on_X5_in : GoodIn wsX5_on wsX5_in := goodIn_r _ [12] (by decide +kernel) (by decide +kernel)
set_option maxRecDepth 20000 in
theorem gX5_on_X5_in : GoodIn wsX5_on (va_wsS RX5 44 yX5_in wsX5_in) := goodIn_app (goodIn_of _ (by decide +kernel)) ggX5_on_X5_in
set_option maxRecDepth 20000 in
theorem ggX5_on_X5_finds : GoodIn wsX5_on wsX5_finds := goodIn_r _ [16, 17, 3, 74, 75, 76, 77, 78, 79, 80, 81, 82, 83, 84, 85, 86, 87, 88, 89] (by decide +kernel) (by decide +kernel)
set_option maxRecDepth 20000 in
theorem gX5_on_X5_finds : GoodIn wsX5_on (wsV RX5 67 RX5 yX5_finds wsX5_finds) := goodIn_app (goodIn_of _ (by decide +kernel)) ggX5_on_X5_finds
set_option maxRecDepth 20000 in
theorem ggX5_on_X5_spotOf : GoodIn wsX5_on wsX5_spotOf := goodIn_r _ [20] (by decide +kernel) (by decide +kernel)
set_option maxRecDepth 20000 in
theorem gX5_on_X5_spotOf : GoodIn wsX5_on (va_wsS RX5 54 yX5_spotOf wsX5_spotOf) := goodIn_app (goodIn_of _ (by decide +kernel)) ggX5_on_X5_spotOf
set_option maxRecDepth 20000 in
theorem ggX5_on_X5_behind : GoodIn wsX5_on wsX5_behind := goodIn_r _ [24, 9, 25, 26, 27, 7, 28, 29, 30, 31, 32, 33, 34, 35, 36, 37, 38, 39, 40, 41, 18, 19, 20, 42, 43, 44, 45, 46, 47, 48, 49, 50, 51, 52, 53, 54, 55, 56, 57, 58, 59, 60, 61, 62, 63, 64, 65, 66, 67, 68, 69, 70, 71, 72, 73, 74, 75, 76, 77, 78, 79, 80, 81, 82, 83, 84, 85, 86, 87, 88, 89] (by decide +kernel) (by decide +kernel)
set_option maxRecDepth 20000 in
theorem gX5_on_X5_behind : GoodIn wsX5_on (wsV RX5 141 RX5 yX5_behind wsX5_behind) := goodIn_app (goodIn_of _ (by decide +kernel)) ggX5_on_X5_behind
theorem dX5_on_0 : decode cX5_on 0 = .ok (.aload_n 0, 1) := by decide +kernel
theorem dX5_on_1 : decode cX5_on 1 = .ok (.iload_n 1, 1) := by decide +kernel
theorem dX5_on_2 : decode cX5_on 2 = .ok (.invokevirtual 48, 3) := by decide +kernel
theorem dX5_on_5 : decode cX5_on 5 = .ok (.ifCond .eq 27, 3) := by decide +kernel
theorem dX5_on_8 : decode cX5_on 8 = .ok (.iload_n 2, 1) := by decide +kernel
theorem dX5_on_9 : decode cX5_on 9 = .ok (.i2l, 1) := by decide +kernel
theorem dX5_on_10 : decode cX5_on 10 = .ok (.lconst 0, 1) := by decide +kernel
theorem dX5_on_11 : decode cX5_on 11 = .ok (.ldc2_w 122, 3) := by decide +kernel
theorem dX5_on_14 : decode cX5_on 14 = .ok (.invokestatic 44, 3) := by decide +kernel
theorem dX5_on_17 : decode cX5_on 17 = .ok (.ifCond .eq 15, 3) := by decide +kernel
theorem dX5_on_20 : decode cX5_on 20 = .ok (.iload_n 3, 1) := by decide +kernel
theorem dX5_on_21 : decode cX5_on 21 = .ok (.i2l, 1) := by decide +kernel
theorem dX5_on_22 : decode cX5_on 22 = .ok (.lconst 0, 1) := by decide +kernel
theorem dX5_on_23 : decode cX5_on 23 = .ok (.ldc2_w 58, 3) := by decide +kernel
theorem dX5_on_26 : decode cX5_on 26 = .ok (.invokestatic 44, 3) := by decide +kernel
theorem dX5_on_29 : decode cX5_on 29 = .ok (.ifCond .ne 10, 3) := by decide +kernel
theorem dX5_on_32 : decode cX5_on 32 = .ok (.aload_n 0, 1) := by decide +kernel
theorem dX5_on_33 : decode cX5_on 33 = .ok (.ldc 41, 2) := by decide +kernel
theorem dX5_on_35 : decode cX5_on 35 = .ok (.invokevirtual 67, 3) := by decide +kernel
theorem dX5_on_38 : decode cX5_on 38 = .ok (.ireturn, 1) := by decide +kernel
theorem dX5_on_39 : decode cX5_on 39 = .ok (.aload_n 0, 1) := by decide +kernel
theorem dX5_on_40 : decode cX5_on 40 = .ok (.iload_n 1, 1) := by decide +kernel
theorem dX5_on_41 : decode cX5_on 41 = .ok (.iload_n 3, 1) := by decide +kernel
theorem dX5_on_42 : decode cX5_on 42 = .ok (.ifCond .ne 7, 3) := by decide +kernel
theorem dX5_on_45 : decode cX5_on 45 = .ok (.iconst 1, 1) := by decide +kernel
theorem dX5_on_46 : decode cX5_on 46 = .ok (.goto 14, 3) := by decide +kernel
theorem dX5_on_49 : decode cX5_on 49 = .ok (.iload_n 3, 1) := by decide +kernel
theorem dX5_on_50 : decode cX5_on 50 = .ok (.iconst 1, 1) := by decide +kernel
theorem dX5_on_51 : decode cX5_on 51 = .ok (.if_icmp .ne 8, 3) := by decide +kernel
theorem dX5_on_54 : decode cX5_on 54 = .ok (.bipush 6, 2) := by decide +kernel
theorem dX5_on_56 : decode cX5_on 56 = .ok (.goto 4, 3) := by decide +kernel
theorem dX5_on_59 : decode cX5_on 59 = .ok (.iconst 3, 1) := by decide +kernel
theorem dX5_on_60 : decode cX5_on 60 = .ok (.invokestatic 54, 3) := by decide +kernel
theorem dX5_on_63 : decode cX5_on 63 = .ok (.iload_n 2, 1) := by decide +kernel
theorem dX5_on_64 : decode cX5_on 64 = .ok (.invokevirtual 141, 3) := by decide +kernel
theorem dX5_on_67 : decode cX5_on 67 = .ok (.ireturn, 1) := by decide +kernel
set_option maxRecDepth 20000 in
theorem ggX5_fund_X5_in : GoodIn wsX5_fund wsX5_in := goodIn_r _ [6] (by decide +kernel) (by decide +kernel)
set_option maxRecDepth 20000 in
theorem gX5_fund_X5_in : GoodIn wsX5_fund (va_wsS RX5 44 yX5_in wsX5_in) := goodIn_app (goodIn_of _ (by decide +kernel)) ggX5_fund_X5_in
set_option maxRecDepth 20000 in
theorem ggX5_fund_X5_behind : GoodIn wsX5_fund wsX5_behind := goodIn_r _ [10, 11, 12, 13, 14, 5, 15, 16, 17, 18, 19, 20, 21, 22, 23, 24, 25, 26, 27, 28, 29, 30, 31, 32, 33, 34, 35, 36, 37, 38, 39, 40, 41, 42, 43, 44, 45, 46, 47, 48, 49, 50, 51, 52, 53, 54, 55, 56, 57, 58, 59, 60, 61, 62, 63, 69, 70, 71, 72, 73, 74, 75, 76, 77, 78, 79, 80, 81, 82, 83, 84] (by decide +kernel) (by decide +kernel)
set_option maxRecDepth 20000 in
theorem gX5_fund_X5_behind : GoodIn wsX5_fund (wsV RX5 141 RX5 yX5_behind wsX5_behind) := goodIn_app (goodIn_of _ (by decide +kernel)) ggX5_fund_X5_behind
set_option maxRecDepth 20000 in
theorem ggX5_fund_X5_finds : GoodIn wsX5_fund wsX5_finds := goodIn_r _ [67, 68, 2, 69, 70, 71, 72, 73, 74, 75, 76, 77, 78, 79, 80, 81, 82, 83, 84] (by decide +kernel) (by decide +kernel)
set_option maxRecDepth 20000 in
theorem gX5_fund_X5_finds : GoodIn wsX5_fund (wsV RX5 67 RX5 yX5_finds wsX5_finds) := goodIn_app (goodIn_of _ (by decide +kernel)) ggX5_fund_X5_finds
theorem dX5_fund_0 : decode cX5_fund 0 = .ok (.iload_n 1, 1) := by decide +kernel
theorem dX5_fund_1 : decode cX5_fund 1 = .ok (.i2l, 1) := by decide +kernel
theorem dX5_fund_2 : decode cX5_fund 2 = .ok (.lconst 0, 1) := by decide +kernel
theorem dX5_fund_3 : decode cX5_fund 3 = .ok (.ldc2_w 122, 3) := by decide +kernel
theorem dX5_fund_6 : decode cX5_fund 6 = .ok (.invokestatic 44, 3) := by decide +kernel
theorem dX5_fund_9 : decode cX5_fund 9 = .ok (.ifCond .eq 12, 3) := by decide +kernel
theorem dX5_fund_12 : decode cX5_fund 12 = .ok (.aload_n 0, 1) := by decide +kernel
theorem dX5_fund_13 : decode cX5_fund 13 = .ok (.iconst 2, 1) := by decide +kernel
theorem dX5_fund_14 : decode cX5_fund 14 = .ok (.iload_n 1, 1) := by decide +kernel
theorem dX5_fund_15 : decode cX5_fund 15 = .ok (.invokevirtual 141, 3) := by decide +kernel
theorem dX5_fund_18 : decode cX5_fund 18 = .ok (.goto 9, 3) := by decide +kernel
theorem dX5_fund_21 : decode cX5_fund 21 = .ok (.aload_n 0, 1) := by decide +kernel
theorem dX5_fund_22 : decode cX5_fund 22 = .ok (.ldc 41, 2) := by decide +kernel
theorem dX5_fund_24 : decode cX5_fund 24 = .ok (.invokevirtual 67, 3) := by decide +kernel
theorem dX5_fund_27 : decode cX5_fund 27 = .ok (.ireturn, 1) := by decide +kernel
set_option maxRecDepth 20000 in
theorem ggX5_firstAs_X5_laysAside : GoodIn wsX5_firstAs wsX5_laysAside := goodIn_r _ [7, 8, 1, 58, 59, 60, 61, 62, 63, 64, 65, 66, 67, 68, 69, 70, 71, 72, 73] (by decide +kernel) (by decide +kernel)
set_option maxRecDepth 20000 in
theorem gX5_firstAs_X5_laysAside : GoodIn wsX5_firstAs (wsV RX5 135 RX5 yX5_laysAside wsX5_laysAside) := goodIn_app (goodIn_of _ (by decide +kernel)) ggX5_firstAs_X5_laysAside
set_option maxRecDepth 20000 in
theorem ggX5_firstAs_X5_hour : GoodIn wsX5_firstAs wsX5_hour := goodIn_r _ [12, 1, 13, 14, 15, 6, 16, 17, 18, 19, 20, 21, 22, 23, 24, 25, 26, 27, 28, 29, 30, 31, 32, 33, 34, 35, 36, 37, 38, 39, 40, 41, 42, 43, 44, 45, 46, 47, 58, 59, 60, 61, 62, 63, 64, 65, 66, 67, 68, 69, 70, 71, 72, 73] (by decide +kernel) (by decide +kernel)
set_option maxRecDepth 20000 in
theorem gX5_firstAs_X5_hour : GoodIn wsX5_firstAs (wsV RX5 119 RX5 yX5_hour wsX5_hour) := goodIn_app (goodIn_of _ (by decide +kernel)) ggX5_firstAs_X5_hour
set_option maxRecDepth 20000 in
theorem ggX5_firstAs_X5_takesBack : GoodIn wsX5_firstAs wsX5_takesBack := goodIn_r _ [51, 1, 8, 58, 59, 60, 61, 62, 63, 64, 65, 66, 67, 68, 69, 70, 71, 72, 73] (by decide +kernel) (by decide +kernel)
set_option maxRecDepth 20000 in
theorem gX5_firstAs_X5_takesBack : GoodIn wsX5_firstAs (wsV RX5 138 RX5 yX5_takesBack wsX5_takesBack) := goodIn_app (goodIn_of _ (by decide +kernel)) ggX5_firstAs_X5_takesBack
set_option maxRecDepth 20000 in
theorem ggX5_firstAs_X5_finds : GoodIn wsX5_firstAs wsX5_finds := goodIn_r _ [55, 56, 57, 58, 59, 60, 61, 62, 63, 64, 65, 66, 67, 68, 69, 70, 71, 72, 73] (by decide +kernel) (by decide +kernel)
set_option maxRecDepth 20000 in
theorem gX5_firstAs_X5_finds : GoodIn wsX5_firstAs (wsV RX5 67 RX5 yX5_finds wsX5_finds) := goodIn_app (goodIn_of _ (by decide +kernel)) ggX5_firstAs_X5_finds
theorem dX5_firstAs_0 : decode cX5_firstAs 0 = .ok (.aload_n 0, 1) := by decide +kernel
theorem dX5_firstAs_1 : decode cX5_firstAs 1 = .ok (.invokevirtual 135, 3) := by decide +kernel
theorem dX5_firstAs_4 : decode cX5_firstAs 4 = .ok (.iconst 0, 1) := by decide +kernel
theorem dX5_firstAs_5 : decode cX5_firstAs 5 = .ok (.istore_n 3, 1) := by decide +kernel
theorem dX5_firstAs_6 : decode cX5_firstAs 6 = .ok (.iload_n 3, 1) := by decide +kernel
theorem dX5_firstAs_7 : decode cX5_firstAs 7 = .ok (.sipush 200, 3) := by decide +kernel
theorem dX5_firstAs_10 : decode cX5_firstAs 10 = .ok (.if_icmp .gt 23, 3) := by decide +kernel
theorem dX5_firstAs_13 : decode cX5_firstAs 13 = .ok (.aload_n 0, 1) := by decide +kernel
theorem dX5_firstAs_14 : decode cX5_firstAs 14 = .ok (.getfield 7, 3) := by decide +kernel
theorem dX5_firstAs_17 : decode cX5_firstAs 17 = .ok (.iload_n 1, 1) := by decide +kernel
theorem dX5_firstAs_18 : decode cX5_firstAs 18 = .ok (.iaload, 1) := by decide +kernel
theorem dX5_firstAs_19 : decode cX5_firstAs 19 = .ok (.iload_n 2, 1) := by decide +kernel
theorem dX5_firstAs_20 : decode cX5_firstAs 20 = .ok (.if_icmp .eq 13, 3) := by decide +kernel
theorem dX5_firstAs_23 : decode cX5_firstAs 23 = .ok (.aload_n 0, 1) := by decide +kernel
theorem dX5_firstAs_24 : decode cX5_firstAs 24 = .ok (.invokevirtual 119, 3) := by decide +kernel
theorem dX5_firstAs_27 : decode cX5_firstAs 27 = .ok (.iinc 3 1, 3) := by decide +kernel
theorem dX5_firstAs_30 : decode cX5_firstAs 30 = .ok (.goto (-24), 3) := by decide +kernel
theorem dX5_firstAs_33 : decode cX5_firstAs 33 = .ok (.aload_n 0, 1) := by decide +kernel
theorem dX5_firstAs_34 : decode cX5_firstAs 34 = .ok (.iload_n 3, 1) := by decide +kernel
theorem dX5_firstAs_35 : decode cX5_firstAs 35 = .ok (.invokevirtual 138, 3) := by decide +kernel
theorem dX5_firstAs_38 : decode cX5_firstAs 38 = .ok (.istore 4, 2) := by decide +kernel
theorem dX5_firstAs_40 : decode cX5_firstAs 40 = .ok (.iload 4, 2) := by decide +kernel
theorem dX5_firstAs_42 : decode cX5_firstAs 42 = .ok (.sipush 200, 3) := by decide +kernel
theorem dX5_firstAs_45 : decode cX5_firstAs 45 = .ok (.if_icmp .le 12, 3) := by decide +kernel
theorem dX5_firstAs_48 : decode cX5_firstAs 48 = .ok (.aload_n 0, 1) := by decide +kernel
theorem dX5_firstAs_49 : decode cX5_firstAs 49 = .ok (.ldc 144, 2) := by decide +kernel
theorem dX5_firstAs_51 : decode cX5_firstAs 51 = .ok (.invokevirtual 67, 3) := by decide +kernel
theorem dX5_firstAs_54 : decode cX5_firstAs 54 = .ok (.goto 5, 3) := by decide +kernel
theorem dX5_firstAs_57 : decode cX5_firstAs 57 = .ok (.iload 4, 2) := by decide +kernel
theorem dX5_firstAs_59 : decode cX5_firstAs 59 = .ok (.ireturn, 1) := by decide +kernel
set_option maxRecDepth 20000 in
theorem ggX5_empty_X5_firstAs : GoodIn wsX5_empty wsX5_firstAs := goodIn_r _ [5, 6, 7, 8, 9, 10, 4, 11, 12, 13, 14, 15, 16, 17, 18, 19, 20, 21, 22, 23, 24, 25, 26, 27, 28, 29, 30, 31, 32, 33, 34, 35, 36, 37, 38, 39, 40, 41, 42, 43, 44, 45, 46, 47, 48, 49, 50, 51, 52, 53, 54, 55, 56, 57, 58, 59, 60, 61, 62, 63, 64, 65, 66, 67, 68, 69, 70, 71, 72, 73, 74, 75, 76, 77] (by decide +kernel) (by decide +kernel)
set_option maxRecDepth 20000 in
theorem gX5_empty_X5_firstAs : GoodIn wsX5_empty (wsV RX5 145 RX5 yX5_firstAs wsX5_firstAs) := goodIn_app (goodIn_of _ (by decide +kernel)) ggX5_empty_X5_firstAs
theorem dX5_empty_0 : decode cX5_empty 0 = .ok (.aload_n 0, 1) := by decide +kernel
theorem dX5_empty_1 : decode cX5_empty 1 = .ok (.iconst 2, 1) := by decide +kernel
theorem dX5_empty_2 : decode cX5_empty 2 = .ok (.iconst 0, 1) := by decide +kernel
theorem dX5_empty_3 : decode cX5_empty 3 = .ok (.invokevirtual 145, 3) := by decide +kernel
theorem dX5_empty_6 : decode cX5_empty 6 = .ok (.ireturn, 1) := by decide +kernel
set_option maxRecDepth 20000 in
theorem ggX5_comes_X5_isWalker : GoodIn wsX5_comes wsX5_isWalker := goodIn_r _ [6, 7, 8, 9, 5, 10, 73, 74, 75, 76, 77, 78, 79, 80, 81, 82, 83, 84, 85, 86, 87, 88] (by decide +kernel) (by decide +kernel)
set_option maxRecDepth 20000 in
theorem gX5_comes_X5_isWalker : GoodIn wsX5_comes (wsV RX5 48 RX5 yX5_isWalker wsX5_isWalker) := goodIn_app (goodIn_of _ (by decide +kernel)) ggX5_comes_X5_isWalker
set_option maxRecDepth 20000 in
theorem ggX5_comes_X5_isMile : GoodIn wsX5_comes wsX5_isMile := goodIn_r _ [13, 14, 8, 9, 5, 10] (by decide +kernel) (by decide +kernel)
set_option maxRecDepth 20000 in
theorem gX5_comes_X5_isMile : GoodIn wsX5_comes (va_wsS RX5 74 yX5_isMile wsX5_isMile) := goodIn_app (goodIn_of _ (by decide +kernel)) ggX5_comes_X5_isMile
set_option maxRecDepth 20000 in
theorem ggX5_comes_X5_spotOf : GoodIn wsX5_comes wsX5_spotOf := goodIn_r _ [17] (by decide +kernel) (by decide +kernel)
set_option maxRecDepth 20000 in
theorem gX5_comes_X5_spotOf : GoodIn wsX5_comes (va_wsS RX5 54 yX5_spotOf wsX5_spotOf) := goodIn_app (goodIn_of _ (by decide +kernel)) ggX5_comes_X5_spotOf
set_option maxRecDepth 20000 in
theorem ggX5_comes_X5_firstAs : GoodIn wsX5_comes wsX5_firstAs := goodIn_r _ [21, 7, 22, 23, 24, 25, 5, 26, 27, 28, 29, 30, 31, 32, 33, 34, 35, 15, 16, 17, 36, 37, 38, 39, 40, 41, 42, 43, 44, 45, 46, 47, 48, 49, 50, 51, 52, 53, 54, 55, 56, 57, 58, 59, 60, 61, 62, 63, 64, 65, 66, 67, 68, 69, 70, 71, 72, 1, 73, 74, 75, 76, 77, 78, 79, 80, 81, 82, 83, 84, 85, 86, 87, 88] (by decide +kernel) (by decide +kernel)
set_option maxRecDepth 20000 in
theorem gX5_comes_X5_firstAs : GoodIn wsX5_comes (wsV RX5 145 RX5 yX5_firstAs wsX5_firstAs) := goodIn_app (goodIn_of _ (by decide +kernel)) ggX5_comes_X5_firstAs
set_option maxRecDepth 20000 in
theorem ggX5_comes_X5_finds : GoodIn wsX5_comes wsX5_finds := goodIn_r _ [71, 72, 1, 73, 74, 75, 76, 77, 78, 79, 80, 81, 82, 83, 84, 85, 86, 87, 88] (by decide +kernel) (by decide +kernel)
set_option maxRecDepth 20000 in
theorem gX5_comes_X5_finds : GoodIn wsX5_comes (wsV RX5 67 RX5 yX5_finds wsX5_finds) := goodIn_app (goodIn_of _ (by decide +kernel)) ggX5_comes_X5_finds
theorem dX5_comes_0 : decode cX5_comes 0 = .ok (.aload_n 0, 1) := by decide +kernel
theorem dX5_comes_1 : decode cX5_comes 1 = .ok (.iload_n 1, 1) := by decide +kernel
theorem dX5_comes_2 : decode cX5_comes 2 = .ok (.invokevirtual 48, 3) := by decide +kernel
theorem dX5_comes_5 : decode cX5_comes 5 = .ok (.ifCond .eq 23, 3) := by decide +kernel
theorem dX5_comes_8 : decode cX5_comes 8 = .ok (.iload_n 2, 1) := by decide +kernel
theorem dX5_comes_9 : decode cX5_comes 9 = .ok (.invokestatic 74, 3) := by decide +kernel
theorem dX5_comes_12 : decode cX5_comes 12 = .ok (.ifCond .eq 16, 3) := by decide +kernel
theorem dX5_comes_15 : decode cX5_comes 15 = .ok (.aload_n 0, 1) := by decide +kernel
theorem dX5_comes_16 : decode cX5_comes 16 = .ok (.iload_n 1, 1) := by decide +kernel
theorem dX5_comes_17 : decode cX5_comes 17 = .ok (.iconst 1, 1) := by decide +kernel
theorem dX5_comes_18 : decode cX5_comes 18 = .ok (.invokestatic 54, 3) := by decide +kernel
theorem dX5_comes_21 : decode cX5_comes 21 = .ok (.iload_n 2, 1) := by decide +kernel
theorem dX5_comes_22 : decode cX5_comes 22 = .ok (.invokevirtual 145, 3) := by decide +kernel
theorem dX5_comes_25 : decode cX5_comes 25 = .ok (.goto 9, 3) := by decide +kernel
theorem dX5_comes_28 : decode cX5_comes 28 = .ok (.aload_n 0, 1) := by decide +kernel
theorem dX5_comes_29 : decode cX5_comes 29 = .ok (.ldc 41, 2) := by decide +kernel
theorem dX5_comes_31 : decode cX5_comes 31 = .ok (.invokevirtual 67, 3) := by decide +kernel
theorem dX5_comes_34 : decode cX5_comes 34 = .ok (.ireturn, 1) := by decide +kernel
set_option maxRecDepth 20000 in
theorem ggX5_meet_X5_areTwo : GoodIn wsX5_meet wsX5_areTwo := goodIn_r _ [7, 8, 9, 10, 6, 11, 12, 13, 14, 15, 69, 70, 71, 72, 73, 74, 75, 76, 77, 78, 79, 80, 81, 82, 83, 84] (by decide +kernel) (by decide +kernel)
set_option maxRecDepth 20000 in
theorem gX5_meet_X5_areTwo : GoodIn wsX5_meet (wsV RX5 148 RX5 yX5_areTwo wsX5_areTwo) := goodIn_app (goodIn_of _ (by decide +kernel)) ggX5_meet_X5_areTwo
set_option maxRecDepth 20000 in
theorem ggX5_meet_X5_finds : GoodIn wsX5_meet wsX5_finds := goodIn_r _ [19, 20, 1, 69, 70, 71, 72, 73, 74, 75, 76, 77, 78, 79, 80, 81, 82, 83, 84] (by decide +kernel) (by decide +kernel)
set_option maxRecDepth 20000 in
theorem gX5_meet_X5_finds : GoodIn wsX5_meet (wsV RX5 67 RX5 yX5_finds wsX5_finds) := goodIn_app (goodIn_of _ (by decide +kernel)) ggX5_meet_X5_finds
set_option maxRecDepth 20000 in
theorem ggX5_meet_X5_laysAside : GoodIn wsX5_meet wsX5_laysAside := goodIn_r _ [24, 25, 12, 69, 70, 71, 72, 73, 74, 75, 76, 77, 78, 79, 80, 81, 82, 83, 84] (by decide +kernel) (by decide +kernel)
set_option maxRecDepth 20000 in
theorem gX5_meet_X5_laysAside : GoodIn wsX5_meet (wsV RX5 135 RX5 yX5_laysAside wsX5_laysAside) := goodIn_app (goodIn_of _ (by decide +kernel)) ggX5_meet_X5_laysAside
set_option maxRecDepth 20000 in
theorem ggX5_meet_X5_its : GoodIn wsX5_meet wsX5_its := goodIn_r _ [29, 12, 30, 31, 6, 32, 69, 70, 71, 72, 73, 74, 75, 76, 77, 78, 79, 80, 81, 82, 83, 84] (by decide +kernel) (by decide +kernel)
set_option maxRecDepth 20000 in
theorem gX5_meet_X5_its : GoodIn wsX5_meet (wsV RX5 71 RX5 yX5_its wsX5_its) := goodIn_app (goodIn_of _ (by decide +kernel)) ggX5_meet_X5_its
set_option maxRecDepth 20000 in
theorem ggX5_meet_X5_hour : GoodIn wsX5_meet wsX5_hour := goodIn_r _ [36, 12, 26, 27, 28, 6, 29, 30, 31, 32, 37, 38, 39, 40, 41, 42, 43, 44, 45, 46, 47, 48, 49, 50, 51, 52, 53, 54, 55, 56, 57, 58, 59, 60, 61, 62, 63, 64, 69, 70, 71, 72, 73, 74, 75, 76, 77, 78, 79, 80, 81, 82, 83, 84] (by decide +kernel) (by decide +kernel)
set_option maxRecDepth 20000 in
theorem gX5_meet_X5_hour : GoodIn wsX5_meet (wsV RX5 119 RX5 yX5_hour wsX5_hour) := goodIn_app (goodIn_of _ (by decide +kernel)) ggX5_meet_X5_hour
set_option maxRecDepth 20000 in
theorem ggX5_meet_X5_takesBack : GoodIn wsX5_meet wsX5_takesBack := goodIn_r _ [68, 12, 25, 69, 70, 71, 72, 73, 74, 75, 76, 77, 78, 79, 80, 81, 82, 83, 84] (by decide +kernel) (by decide +kernel)
set_option maxRecDepth 20000 in
theorem gX5_meet_X5_takesBack : GoodIn wsX5_meet (wsV RX5 138 RX5 yX5_takesBack wsX5_takesBack) := goodIn_app (goodIn_of _ (by decide +kernel)) ggX5_meet_X5_takesBack
theorem dX5_meet_0 : decode cX5_meet 0 = .ok (.aload_n 0, 1) := by decide +kernel
theorem dX5_meet_1 : decode cX5_meet 1 = .ok (.iload_n 1, 1) := by decide +kernel
theorem dX5_meet_2 : decode cX5_meet 2 = .ok (.iload_n 2, 1) := by decide +kernel
theorem dX5_meet_3 : decode cX5_meet 3 = .ok (.invokevirtual 148, 3) := by decide +kernel
theorem dX5_meet_6 : decode cX5_meet 6 = .ok (.ifCond .ne 10, 3) := by decide +kernel
theorem dX5_meet_9 : decode cX5_meet 9 = .ok (.aload_n 0, 1) := by decide +kernel
theorem dX5_meet_10 : decode cX5_meet 10 = .ok (.ldc 41, 2) := by decide +kernel
theorem dX5_meet_12 : decode cX5_meet 12 = .ok (.invokevirtual 67, 3) := by decide +kernel
theorem dX5_meet_15 : decode cX5_meet 15 = .ok (.ireturn, 1) := by decide +kernel
theorem dX5_meet_16 : decode cX5_meet 16 = .ok (.aload_n 0, 1) := by decide +kernel
theorem dX5_meet_17 : decode cX5_meet 17 = .ok (.invokevirtual 135, 3) := by decide +kernel
theorem dX5_meet_20 : decode cX5_meet 20 = .ok (.iconst 0, 1) := by decide +kernel
theorem dX5_meet_21 : decode cX5_meet 21 = .ok (.istore_n 3, 1) := by decide +kernel
theorem dX5_meet_22 : decode cX5_meet 22 = .ok (.iload_n 3, 1) := by decide +kernel
theorem dX5_meet_23 : decode cX5_meet 23 = .ok (.sipush 200, 3) := by decide +kernel
theorem dX5_meet_26 : decode cX5_meet 26 = .ok (.if_icmp .gt 28, 3) := by decide +kernel
theorem dX5_meet_29 : decode cX5_meet 29 = .ok (.aload_n 0, 1) := by decide +kernel
theorem dX5_meet_30 : decode cX5_meet 30 = .ok (.iload_n 1, 1) := by decide +kernel
theorem dX5_meet_31 : decode cX5_meet 31 = .ok (.iconst 1, 1) := by decide +kernel
theorem dX5_meet_32 : decode cX5_meet 32 = .ok (.invokevirtual 71, 3) := by decide +kernel
theorem dX5_meet_35 : decode cX5_meet 35 = .ok (.aload_n 0, 1) := by decide +kernel
theorem dX5_meet_36 : decode cX5_meet 36 = .ok (.iload_n 2, 1) := by decide +kernel
theorem dX5_meet_37 : decode cX5_meet 37 = .ok (.iconst 1, 1) := by decide +kernel
theorem dX5_meet_38 : decode cX5_meet 38 = .ok (.invokevirtual 71, 3) := by decide +kernel
theorem dX5_meet_41 : decode cX5_meet 41 = .ok (.if_icmp .eq 13, 3) := by decide +kernel
theorem dX5_meet_44 : decode cX5_meet 44 = .ok (.aload_n 0, 1) := by decide +kernel
theorem dX5_meet_45 : decode cX5_meet 45 = .ok (.invokevirtual 119, 3) := by decide +kernel
theorem dX5_meet_48 : decode cX5_meet 48 = .ok (.iinc 3 1, 3) := by decide +kernel
theorem dX5_meet_51 : decode cX5_meet 51 = .ok (.goto (-29), 3) := by decide +kernel
theorem dX5_meet_54 : decode cX5_meet 54 = .ok (.aload_n 0, 1) := by decide +kernel
theorem dX5_meet_55 : decode cX5_meet 55 = .ok (.iload_n 3, 1) := by decide +kernel
theorem dX5_meet_56 : decode cX5_meet 56 = .ok (.invokevirtual 138, 3) := by decide +kernel
theorem dX5_meet_59 : decode cX5_meet 59 = .ok (.istore 4, 2) := by decide +kernel
theorem dX5_meet_61 : decode cX5_meet 61 = .ok (.iload 4, 2) := by decide +kernel
theorem dX5_meet_63 : decode cX5_meet 63 = .ok (.sipush 200, 3) := by decide +kernel
theorem dX5_meet_66 : decode cX5_meet 66 = .ok (.if_icmp .le 12, 3) := by decide +kernel
theorem dX5_meet_69 : decode cX5_meet 69 = .ok (.aload_n 0, 1) := by decide +kernel
theorem dX5_meet_70 : decode cX5_meet 70 = .ok (.ldc 144, 2) := by decide +kernel
theorem dX5_meet_72 : decode cX5_meet 72 = .ok (.invokevirtual 67, 3) := by decide +kernel
theorem dX5_meet_75 : decode cX5_meet 75 = .ok (.goto 5, 3) := by decide +kernel
theorem dX5_meet_78 : decode cX5_meet 78 = .ok (.iload 4, 2) := by decide +kernel
theorem dX5_meet_80 : decode cX5_meet 80 = .ok (.ireturn, 1) := by decide +kernel
set_option maxRecDepth 20000 in
theorem ggX5_worn_X5_isWalker : GoodIn wsX5_worn wsX5_isWalker := goodIn_r _ [6, 7, 8, 9, 5, 10, 69, 70, 71, 72, 73, 74, 75, 76, 77, 78, 79, 80, 81, 82, 83, 84] (by decide +kernel) (by decide +kernel)
set_option maxRecDepth 20000 in
theorem gX5_worn_X5_isWalker : GoodIn wsX5_worn (wsV RX5 48 RX5 yX5_isWalker wsX5_isWalker) := goodIn_app (goodIn_of _ (by decide +kernel)) ggX5_worn_X5_isWalker
set_option maxRecDepth 20000 in
theorem ggX5_worn_X5_spotOf : GoodIn wsX5_worn wsX5_spotOf := goodIn_r _ [13] (by decide +kernel) (by decide +kernel)
set_option maxRecDepth 20000 in
theorem gX5_worn_X5_spotOf : GoodIn wsX5_worn (va_wsS RX5 54 yX5_spotOf wsX5_spotOf) := goodIn_app (goodIn_of _ (by decide +kernel)) ggX5_worn_X5_spotOf
set_option maxRecDepth 20000 in
theorem ggX5_worn_X5_firstAs : GoodIn wsX5_worn wsX5_firstAs := goodIn_r _ [17, 7, 18, 19, 20, 21, 5, 22, 23, 24, 25, 26, 27, 28, 29, 30, 31, 11, 12, 13, 32, 33, 34, 35, 36, 37, 38, 39, 40, 41, 42, 43, 44, 45, 46, 47, 48, 49, 50, 51, 52, 53, 54, 55, 56, 57, 58, 59, 60, 61, 62, 63, 64, 65, 66, 67, 68, 1, 69, 70, 71, 72, 73, 74, 75, 76, 77, 78, 79, 80, 81, 82, 83, 84] (by decide +kernel) (by decide +kernel)
set_option maxRecDepth 20000 in
theorem gX5_worn_X5_firstAs : GoodIn wsX5_worn (wsV RX5 145 RX5 yX5_firstAs wsX5_firstAs) := goodIn_app (goodIn_of _ (by decide +kernel)) ggX5_worn_X5_firstAs
set_option maxRecDepth 20000 in
theorem ggX5_worn_X5_finds : GoodIn wsX5_worn wsX5_finds := goodIn_r _ [67, 68, 1, 69, 70, 71, 72, 73, 74, 75, 76, 77, 78, 79, 80, 81, 82, 83, 84] (by decide +kernel) (by decide +kernel)
set_option maxRecDepth 20000 in
theorem gX5_worn_X5_finds : GoodIn wsX5_worn (wsV RX5 67 RX5 yX5_finds wsX5_finds) := goodIn_app (goodIn_of _ (by decide +kernel)) ggX5_worn_X5_finds
theorem dX5_worn_0 : decode cX5_worn 0 = .ok (.aload_n 0, 1) := by decide +kernel
theorem dX5_worn_1 : decode cX5_worn 1 = .ok (.iload_n 1, 1) := by decide +kernel
theorem dX5_worn_2 : decode cX5_worn 2 = .ok (.invokevirtual 48, 3) := by decide +kernel
theorem dX5_worn_5 : decode cX5_worn 5 = .ok (.ifCond .eq 16, 3) := by decide +kernel
theorem dX5_worn_8 : decode cX5_worn 8 = .ok (.aload_n 0, 1) := by decide +kernel
theorem dX5_worn_9 : decode cX5_worn 9 = .ok (.iload_n 1, 1) := by decide +kernel
theorem dX5_worn_10 : decode cX5_worn 10 = .ok (.iconst 3, 1) := by decide +kernel
theorem dX5_worn_11 : decode cX5_worn 11 = .ok (.invokestatic 54, 3) := by decide +kernel
theorem dX5_worn_14 : decode cX5_worn 14 = .ok (.iconst 0, 1) := by decide +kernel
theorem dX5_worn_15 : decode cX5_worn 15 = .ok (.invokevirtual 145, 3) := by decide +kernel
theorem dX5_worn_18 : decode cX5_worn 18 = .ok (.goto 9, 3) := by decide +kernel
theorem dX5_worn_21 : decode cX5_worn 21 = .ok (.aload_n 0, 1) := by decide +kernel
theorem dX5_worn_22 : decode cX5_worn 22 = .ok (.ldc 41, 2) := by decide +kernel
theorem dX5_worn_24 : decode cX5_worn 24 = .ok (.invokevirtual 67, 3) := by decide +kernel
theorem dX5_worn_27 : decode cX5_worn 27 = .ok (.ireturn, 1) := by decide +kernel
theorem dX5_ones_0 : decode cX5_ones 0 = .ok (.iconst 0, 1) := by decide +kernel
theorem dX5_ones_1 : decode cX5_ones 1 = .ok (.istore_n 1, 1) := by decide +kernel
theorem dX5_ones_2 : decode cX5_ones 2 = .ok (.iload_n 0, 1) := by decide +kernel
theorem dX5_ones_3 : decode cX5_ones 3 = .ok (.istore_n 2, 1) := by decide +kernel
theorem dX5_ones_4 : decode cX5_ones 4 = .ok (.iload_n 2, 1) := by decide +kernel
theorem dX5_ones_5 : decode cX5_ones 5 = .ok (.ifCond .eq 15, 3) := by decide +kernel
theorem dX5_ones_8 : decode cX5_ones 8 = .ok (.iinc 1 1, 3) := by decide +kernel
theorem dX5_ones_11 : decode cX5_ones 11 = .ok (.iload_n 2, 1) := by decide +kernel
theorem dX5_ones_12 : decode cX5_ones 12 = .ok (.iload_n 2, 1) := by decide +kernel
theorem dX5_ones_13 : decode cX5_ones 13 = .ok (.iconst 1, 1) := by decide +kernel
theorem dX5_ones_14 : decode cX5_ones 14 = .ok (.isub, 1) := by decide +kernel
theorem dX5_ones_15 : decode cX5_ones 15 = .ok (.iand, 1) := by decide +kernel
theorem dX5_ones_16 : decode cX5_ones 16 = .ok (.istore_n 2, 1) := by decide +kernel
theorem dX5_ones_17 : decode cX5_ones 17 = .ok (.goto (-13), 3) := by decide +kernel
theorem dX5_ones_20 : decode cX5_ones 20 = .ok (.iload_n 1, 1) := by decide +kernel
theorem dX5_ones_21 : decode cX5_ones 21 = .ok (.ireturn, 1) := by decide +kernel
set_option maxRecDepth 20000 in
theorem ggX5_stop_X5_in : GoodIn wsX5_stop wsX5_in := goodIn_r _ [8] (by decide +kernel) (by decide +kernel)
set_option maxRecDepth 20000 in
theorem gX5_stop_X5_in : GoodIn wsX5_stop (va_wsS RX5 44 yX5_in wsX5_in) := goodIn_app (goodIn_of _ (by decide +kernel)) ggX5_stop_X5_in
set_option maxRecDepth 20000 in
theorem ggX5_stop_X5_finds : GoodIn wsX5_stop wsX5_finds := goodIn_r _ [12, 13, 2, 73, 74, 75, 76, 77, 78, 79, 80, 81, 82, 83, 84, 85, 86, 87, 88] (by decide +kernel) (by decide +kernel)
set_option maxRecDepth 20000 in
theorem gX5_stop_X5_finds : GoodIn wsX5_stop (wsV RX5 67 RX5 yX5_finds wsX5_finds) := goodIn_app (goodIn_of _ (by decide +kernel)) ggX5_stop_X5_finds
set_option maxRecDepth 20000 in
theorem ggX5_stop_X5_thoseWith : GoodIn wsX5_stop wsX5_thoseWith := goodIn_r _ [17, 3, 18, 19, 20, 7, 21, 22, 23, 24, 73, 74, 75, 76, 77, 78, 79, 80, 81, 82, 83, 84, 85, 86, 87, 88] (by decide +kernel) (by decide +kernel)
set_option maxRecDepth 20000 in
theorem gX5_stop_X5_thoseWith : GoodIn wsX5_stop (wsV RX5 132 RX5 yX5_thoseWith wsX5_thoseWith) := goodIn_app (goodIn_of _ (by decide +kernel)) ggX5_stop_X5_thoseWith
set_option maxRecDepth 20000 in
theorem ggX5_stop_X5_laysAside : GoodIn wsX5_stop wsX5_laysAside := goodIn_r _ [28, 29, 3, 73, 74, 75, 76, 77, 78, 79, 80, 81, 82, 83, 84, 85, 86, 87, 88] (by decide +kernel) (by decide +kernel)
set_option maxRecDepth 20000 in
theorem gX5_stop_X5_laysAside : GoodIn wsX5_stop (wsV RX5 135 RX5 yX5_laysAside wsX5_laysAside) := goodIn_app (goodIn_of _ (by decide +kernel)) ggX5_stop_X5_laysAside
set_option maxRecDepth 20000 in
theorem ggX5_stop_X5_ones : GoodIn wsX5_stop wsX5_ones := goodIn_r _ [32] (by decide +kernel) (by decide +kernel)
set_option maxRecDepth 20000 in
theorem gX5_stop_X5_ones : GoodIn wsX5_stop (va_wsS RX5 153 yX5_ones wsX5_ones) := goodIn_app (goodIn_of _ (by decide +kernel)) ggX5_stop_X5_ones
set_option maxRecDepth 20000 in
theorem ggX5_stop_X5_spotOf : GoodIn wsX5_stop wsX5_spotOf := goodIn_r _ [24] (by decide +kernel) (by decide +kernel)
set_option maxRecDepth 20000 in
theorem gX5_stop_X5_spotOf : GoodIn wsX5_stop (va_wsS RX5 54 yX5_spotOf wsX5_spotOf) := goodIn_app (goodIn_of _ (by decide +kernel)) ggX5_stop_X5_spotOf
set_option maxRecDepth 20000 in
theorem ggX5_stop_X5_hoursGo : GoodIn wsX5_stop wsX5_hoursGo := goodIn_r _ [36, 37, 38, 39, 7, 40, 3, 18, 19, 20, 21, 22, 23, 24, 41, 42, 43, 44, 45, 46, 47, 48, 49, 50, 51, 52, 53, 54, 55, 56, 57, 58, 59, 60, 61, 62, 63, 64, 65, 66, 67, 68, 73, 74, 75, 76, 77, 78, 79, 80, 81, 82, 83, 84, 85, 86, 87, 88] (by decide +kernel) (by decide +kernel)
set_option maxRecDepth 20000 in
theorem gX5_stop_X5_hoursGo : GoodIn wsX5_stop (wsV RX5 126 RX5 yX5_hoursGo wsX5_hoursGo) := goodIn_app (goodIn_of _ (by decide +kernel)) ggX5_stop_X5_hoursGo
set_option maxRecDepth 20000 in
theorem ggX5_stop_X5_takesBack : GoodIn wsX5_stop wsX5_takesBack := goodIn_r _ [72, 3, 29, 73, 74, 75, 76, 77, 78, 79, 80, 81, 82, 83, 84, 85, 86, 87, 88] (by decide +kernel) (by decide +kernel)
set_option maxRecDepth 20000 in
theorem gX5_stop_X5_takesBack : GoodIn wsX5_stop (wsV RX5 138 RX5 yX5_takesBack wsX5_takesBack) := goodIn_app (goodIn_of _ (by decide +kernel)) ggX5_stop_X5_takesBack
theorem dX5_stop_0 : decode cX5_stop 0 = .ok (.iload_n 1, 1) := by decide +kernel
theorem dX5_stop_1 : decode cX5_stop 1 = .ok (.i2l, 1) := by decide +kernel
theorem dX5_stop_2 : decode cX5_stop 2 = .ok (.lconst 1, 1) := by decide +kernel
theorem dX5_stop_3 : decode cX5_stop 3 = .ok (.ldc2_w 151, 3) := by decide +kernel
theorem dX5_stop_6 : decode cX5_stop 6 = .ok (.invokestatic 44, 3) := by decide +kernel
theorem dX5_stop_9 : decode cX5_stop 9 = .ok (.ifCond .ne 10, 3) := by decide +kernel
theorem dX5_stop_12 : decode cX5_stop 12 = .ok (.aload_n 0, 1) := by decide +kernel
theorem dX5_stop_13 : decode cX5_stop 13 = .ok (.ldc 41, 2) := by decide +kernel
theorem dX5_stop_15 : decode cX5_stop 15 = .ok (.invokevirtual 67, 3) := by decide +kernel
theorem dX5_stop_18 : decode cX5_stop 18 = .ok (.ireturn, 1) := by decide +kernel
theorem dX5_stop_19 : decode cX5_stop 19 = .ok (.iconst 1, 1) := by decide +kernel
theorem dX5_stop_20 : decode cX5_stop 20 = .ok (.aload_n 0, 1) := by decide +kernel
theorem dX5_stop_21 : decode cX5_stop 21 = .ok (.getfield 7, 3) := by decide +kernel
theorem dX5_stop_24 : decode cX5_stop 24 = .ok (.iconst 0, 1) := by decide +kernel
theorem dX5_stop_25 : decode cX5_stop 25 = .ok (.iaload, 1) := by decide +kernel
theorem dX5_stop_26 : decode cX5_stop 26 = .ok (.ishl, 1) := by decide +kernel
theorem dX5_stop_27 : decode cX5_stop 27 = .ok (.iconst 1, 1) := by decide +kernel
theorem dX5_stop_28 : decode cX5_stop 28 = .ok (.isub, 1) := by decide +kernel
theorem dX5_stop_29 : decode cX5_stop 29 = .ok (.aload_n 0, 1) := by decide +kernel
theorem dX5_stop_30 : decode cX5_stop 30 = .ok (.bipush 7, 2) := by decide +kernel
theorem dX5_stop_32 : decode cX5_stop 32 = .ok (.invokevirtual 132, 3) := by decide +kernel
theorem dX5_stop_35 : decode cX5_stop 35 = .ok (.iconst (-1), 1) := by decide +kernel
theorem dX5_stop_36 : decode cX5_stop 36 = .ok (.ixor, 1) := by decide +kernel
theorem dX5_stop_37 : decode cX5_stop 37 = .ok (.iand, 1) := by decide +kernel
theorem dX5_stop_38 : decode cX5_stop 38 = .ok (.istore_n 2, 1) := by decide +kernel
theorem dX5_stop_39 : decode cX5_stop 39 = .ok (.iconst (-1), 1) := by decide +kernel
theorem dX5_stop_40 : decode cX5_stop 40 = .ok (.istore_n 3, 1) := by decide +kernel
theorem dX5_stop_41 : decode cX5_stop 41 = .ok (.aload_n 0, 1) := by decide +kernel
theorem dX5_stop_42 : decode cX5_stop 42 = .ok (.invokevirtual 135, 3) := by decide +kernel
theorem dX5_stop_45 : decode cX5_stop 45 = .ok (.iconst 0, 1) := by decide +kernel
theorem dX5_stop_46 : decode cX5_stop 46 = .ok (.istore 4, 2) := by decide +kernel
theorem dX5_stop_48 : decode cX5_stop 48 = .ok (.iload 4, 2) := by decide +kernel
theorem dX5_stop_50 : decode cX5_stop 50 = .ok (.iload_n 2, 1) := by decide +kernel
theorem dX5_stop_51 : decode cX5_stop 51 = .ok (.if_icmp .gt 101, 3) := by decide +kernel
theorem dX5_stop_54 : decode cX5_stop 54 = .ok (.iload 4, 2) := by decide +kernel
theorem dX5_stop_56 : decode cX5_stop 56 = .ok (.iload_n 2, 1) := by decide +kernel
theorem dX5_stop_57 : decode cX5_stop 57 = .ok (.iconst (-1), 1) := by decide +kernel
theorem dX5_stop_58 : decode cX5_stop 58 = .ok (.ixor, 1) := by decide +kernel
theorem dX5_stop_59 : decode cX5_stop 59 = .ok (.iand, 1) := by decide +kernel
theorem dX5_stop_60 : decode cX5_stop 60 = .ok (.ifCond .ne 86, 3) := by decide +kernel
theorem dX5_stop_63 : decode cX5_stop 63 = .ok (.iload_n 3, 1) := by decide +kernel
theorem dX5_stop_64 : decode cX5_stop 64 = .ok (.ifCond .lt 15, 3) := by decide +kernel
theorem dX5_stop_67 : decode cX5_stop 67 = .ok (.iload 4, 2) := by decide +kernel
theorem dX5_stop_69 : decode cX5_stop 69 = .ok (.invokestatic 153, 3) := by decide +kernel
theorem dX5_stop_72 : decode cX5_stop 72 = .ok (.iload_n 3, 1) := by decide +kernel
theorem dX5_stop_73 : decode cX5_stop 73 = .ok (.invokestatic 153, 3) := by decide +kernel
theorem dX5_stop_76 : decode cX5_stop 76 = .ok (.if_icmp .ge 70, 3) := by decide +kernel
theorem dX5_stop_79 : decode cX5_stop 79 = .ok (.iconst 0, 1) := by decide +kernel
theorem dX5_stop_80 : decode cX5_stop 80 = .ok (.istore 5, 2) := by decide +kernel
theorem dX5_stop_82 : decode cX5_stop 82 = .ok (.iload 5, 2) := by decide +kernel
theorem dX5_stop_84 : decode cX5_stop 84 = .ok (.aload_n 0, 1) := by decide +kernel
theorem dX5_stop_85 : decode cX5_stop 85 = .ok (.getfield 7, 3) := by decide +kernel
theorem dX5_stop_88 : decode cX5_stop 88 = .ok (.iconst 0, 1) := by decide +kernel
theorem dX5_stop_89 : decode cX5_stop 89 = .ok (.iaload, 1) := by decide +kernel
theorem dX5_stop_90 : decode cX5_stop 90 = .ok (.if_icmp .ge 31, 3) := by decide +kernel
theorem dX5_stop_93 : decode cX5_stop 93 = .ok (.aload_n 0, 1) := by decide +kernel
theorem dX5_stop_94 : decode cX5_stop 94 = .ok (.getfield 7, 3) := by decide +kernel
theorem dX5_stop_97 : decode cX5_stop 97 = .ok (.iload 5, 2) := by decide +kernel
theorem dX5_stop_99 : decode cX5_stop 99 = .ok (.bipush 7, 2) := by decide +kernel
theorem dX5_stop_101 : decode cX5_stop 101 = .ok (.invokestatic 54, 3) := by decide +kernel
theorem dX5_stop_104 : decode cX5_stop 104 = .ok (.dup2, 1) := by decide +kernel
theorem dX5_stop_105 : decode cX5_stop 105 = .ok (.iaload, 1) := by decide +kernel
theorem dX5_stop_106 : decode cX5_stop 106 = .ok (.iload 4, 2) := by decide +kernel
theorem dX5_stop_108 : decode cX5_stop 108 = .ok (.iload 5, 2) := by decide +kernel
theorem dX5_stop_110 : decode cX5_stop 110 = .ok (.ishr, 1) := by decide +kernel
theorem dX5_stop_111 : decode cX5_stop 111 = .ok (.iconst 1, 1) := by decide +kernel
theorem dX5_stop_112 : decode cX5_stop 112 = .ok (.iand, 1) := by decide +kernel
theorem dX5_stop_113 : decode cX5_stop 113 = .ok (.ior, 1) := by decide +kernel
theorem dX5_stop_114 : decode cX5_stop 114 = .ok (.iastore, 1) := by decide +kernel
theorem dX5_stop_115 : decode cX5_stop 115 = .ok (.iinc 5 1, 3) := by decide +kernel
theorem dX5_stop_118 : decode cX5_stop 118 = .ok (.goto (-36), 3) := by decide +kernel
theorem dX5_stop_121 : decode cX5_stop 121 = .ok (.aload_n 0, 1) := by decide +kernel
theorem dX5_stop_122 : decode cX5_stop 122 = .ok (.iload_n 1, 1) := by decide +kernel
theorem dX5_stop_123 : decode cX5_stop 123 = .ok (.invokevirtual 126, 3) := by decide +kernel
theorem dX5_stop_126 : decode cX5_stop 126 = .ok (.aload_n 0, 1) := by decide +kernel
theorem dX5_stop_127 : decode cX5_stop 127 = .ok (.aload_n 0, 1) := by decide +kernel
theorem dX5_stop_128 : decode cX5_stop 128 = .ok (.getfield 7, 3) := by decide +kernel
theorem dX5_stop_131 : decode cX5_stop 131 = .ok (.iconst 2, 1) := by decide +kernel
theorem dX5_stop_132 : decode cX5_stop 132 = .ok (.iaload, 1) := by decide +kernel
theorem dX5_stop_133 : decode cX5_stop 133 = .ok (.ifCond .le 8, 3) := by decide +kernel
theorem dX5_stop_136 : decode cX5_stop 136 = .ok (.iload 4, 2) := by decide +kernel
theorem dX5_stop_138 : decode cX5_stop 138 = .ok (.goto 4, 3) := by decide +kernel
theorem dX5_stop_141 : decode cX5_stop 141 = .ok (.iload_n 3, 1) := by decide +kernel
theorem dX5_stop_142 : decode cX5_stop 142 = .ok (.invokevirtual 138, 3) := by decide +kernel
theorem dX5_stop_145 : decode cX5_stop 145 = .ok (.istore_n 3, 1) := by decide +kernel
theorem dX5_stop_146 : decode cX5_stop 146 = .ok (.iinc 4 1, 3) := by decide +kernel
theorem dX5_stop_149 : decode cX5_stop 149 = .ok (.goto (-101), 3) := by decide +kernel
theorem dX5_stop_152 : decode cX5_stop 152 = .ok (.iload_n 3, 1) := by decide +kernel
theorem dX5_stop_153 : decode cX5_stop 153 = .ok (.ifCond .ge 12, 3) := by decide +kernel
theorem dX5_stop_156 : decode cX5_stop 156 = .ok (.aload_n 0, 1) := by decide +kernel
theorem dX5_stop_157 : decode cX5_stop 157 = .ok (.ldc 144, 2) := by decide +kernel
theorem dX5_stop_159 : decode cX5_stop 159 = .ok (.invokevirtual 67, 3) := by decide +kernel
theorem dX5_stop_162 : decode cX5_stop 162 = .ok (.goto 4, 3) := by decide +kernel
theorem dX5_stop_165 : decode cX5_stop 165 = .ok (.iload_n 3, 1) := by decide +kernel
theorem dX5_stop_166 : decode cX5_stop 166 = .ok (.ireturn, 1) := by decide +kernel
set_option maxRecDepth 20000 in
theorem ggX5_isFar_X5_in : GoodIn wsX5_isFar wsX5_in := goodIn_r _ [5] (by decide +kernel) (by decide +kernel)
set_option maxRecDepth 20000 in
theorem gX5_isFar_X5_in : GoodIn wsX5_isFar (va_wsS RX5 44 yX5_in wsX5_in) := goodIn_app (goodIn_of _ (by decide +kernel)) ggX5_isFar_X5_in
theorem dX5_isFar_0 : decode cX5_isFar 0 = .ok (.iload_n 0, 1) := by decide +kernel
theorem dX5_isFar_1 : decode cX5_isFar 1 = .ok (.i2l, 1) := by decide +kernel
theorem dX5_isFar_2 : decode cX5_isFar 2 = .ok (.lconst 1, 1) := by decide +kernel
theorem dX5_isFar_3 : decode cX5_isFar 3 = .ok (.ldc2_w 156, 3) := by decide +kernel
theorem dX5_isFar_6 : decode cX5_isFar 6 = .ok (.invokestatic 44, 3) := by decide +kernel
theorem dX5_isFar_9 : decode cX5_isFar 9 = .ok (.ireturn, 1) := by decide +kernel
set_option maxRecDepth 20000 in
theorem ggX5_penny_X5_isFar : GoodIn wsX5_penny wsX5_isFar := goodIn_r _ [8, 9, 10, 11, 7, 12] (by decide +kernel) (by decide +kernel)
set_option maxRecDepth 20000 in
theorem gX5_penny_X5_isFar : GoodIn wsX5_penny (va_wsS RX5 158 yX5_isFar wsX5_isFar) := goodIn_app (goodIn_of _ (by decide +kernel)) ggX5_penny_X5_isFar
set_option maxRecDepth 20000 in
theorem ggX5_penny_X5_in : GoodIn wsX5_penny wsX5_in := goodIn_r _ [12] (by decide +kernel) (by decide +kernel)
set_option maxRecDepth 20000 in
theorem gX5_penny_X5_in : GoodIn wsX5_penny (va_wsS RX5 44 yX5_in wsX5_in) := goodIn_app (goodIn_of _ (by decide +kernel)) ggX5_penny_X5_in
set_option maxRecDepth 20000 in
theorem ggX5_penny_X5_finds : GoodIn wsX5_penny wsX5_finds := goodIn_r _ [16, 17, 2, 74, 75, 76, 77, 78, 79, 80, 81, 82, 83, 84, 85, 86, 87, 88, 89] (by decide +kernel) (by decide +kernel)
set_option maxRecDepth 20000 in
theorem gX5_penny_X5_finds : GoodIn wsX5_penny (wsV RX5 67 RX5 yX5_finds wsX5_finds) := goodIn_app (goodIn_of _ (by decide +kernel)) ggX5_penny_X5_finds
set_option maxRecDepth 20000 in
theorem ggX5_penny_X5_behind : GoodIn wsX5_penny wsX5_behind := goodIn_r _ [21, 3, 22, 23, 24, 7, 25, 26, 27, 28, 29, 30, 31, 32, 33, 34, 35, 36, 37, 38, 39, 40, 41, 42, 43, 44, 45, 46, 47, 48, 49, 50, 51, 52, 53, 54, 55, 56, 57, 58, 59, 60, 61, 62, 63, 64, 65, 66, 67, 68, 69, 70, 71, 72, 73, 74, 75, 76, 77, 78, 79, 80, 81, 82, 83, 84, 85, 86, 87, 88, 89] (by decide +kernel) (by decide +kernel)
set_option maxRecDepth 20000 in
theorem gX5_penny_X5_behind : GoodIn wsX5_penny (wsV RX5 141 RX5 yX5_behind wsX5_behind) := goodIn_app (goodIn_of _ (by decide +kernel)) ggX5_penny_X5_behind
theorem dX5_penny_0 : decode cX5_penny 0 = .ok (.iload_n 1, 1) := by decide +kernel
theorem dX5_penny_1 : decode cX5_penny 1 = .ok (.invokestatic 158, 3) := by decide +kernel
theorem dX5_penny_4 : decode cX5_penny 4 = .ok (.ifCond .eq 15, 3) := by decide +kernel
theorem dX5_penny_7 : decode cX5_penny 7 = .ok (.iload_n 2, 1) := by decide +kernel
theorem dX5_penny_8 : decode cX5_penny 8 = .ok (.i2l, 1) := by decide +kernel
theorem dX5_penny_9 : decode cX5_penny 9 = .ok (.lconst 0, 1) := by decide +kernel
theorem dX5_penny_10 : decode cX5_penny 10 = .ok (.ldc2_w 60, 3) := by decide +kernel
theorem dX5_penny_13 : decode cX5_penny 13 = .ok (.invokestatic 44, 3) := by decide +kernel
theorem dX5_penny_16 : decode cX5_penny 16 = .ok (.ifCond .ne 10, 3) := by decide +kernel
theorem dX5_penny_19 : decode cX5_penny 19 = .ok (.aload_n 0, 1) := by decide +kernel
theorem dX5_penny_20 : decode cX5_penny 20 = .ok (.ldc 41, 2) := by decide +kernel
theorem dX5_penny_22 : decode cX5_penny 22 = .ok (.invokevirtual 67, 3) := by decide +kernel
theorem dX5_penny_25 : decode cX5_penny 25 = .ok (.ireturn, 1) := by decide +kernel
theorem dX5_penny_26 : decode cX5_penny 26 = .ok (.aload_n 0, 1) := by decide +kernel
theorem dX5_penny_27 : decode cX5_penny 27 = .ok (.getfield 7, 3) := by decide +kernel
theorem dX5_penny_30 : decode cX5_penny 30 = .ok (.iconst 3, 1) := by decide +kernel
theorem dX5_penny_31 : decode cX5_penny 31 = .ok (.iaload, 1) := by decide +kernel
theorem dX5_penny_32 : decode cX5_penny 32 = .ok (.istore_n 3, 1) := by decide +kernel
theorem dX5_penny_33 : decode cX5_penny 33 = .ok (.iconst (-1), 1) := by decide +kernel
theorem dX5_penny_34 : decode cX5_penny 34 = .ok (.istore 4, 2) := by decide +kernel
theorem dX5_penny_36 : decode cX5_penny 36 = .ok (.bipush 20, 2) := by decide +kernel
theorem dX5_penny_38 : decode cX5_penny 38 = .ok (.istore 5, 2) := by decide +kernel
theorem dX5_penny_40 : decode cX5_penny 40 = .ok (.iload 5, 2) := by decide +kernel
theorem dX5_penny_42 : decode cX5_penny 42 = .ok (.ifCond .lt 40, 3) := by decide +kernel
theorem dX5_penny_45 : decode cX5_penny 45 = .ok (.iload 4, 2) := by decide +kernel
theorem dX5_penny_47 : decode cX5_penny 47 = .ok (.ifCond .ge 35, 3) := by decide +kernel
theorem dX5_penny_50 : decode cX5_penny 50 = .ok (.aload_n 0, 1) := by decide +kernel
theorem dX5_penny_51 : decode cX5_penny 51 = .ok (.getfield 7, 3) := by decide +kernel
theorem dX5_penny_54 : decode cX5_penny 54 = .ok (.iconst 3, 1) := by decide +kernel
theorem dX5_penny_55 : decode cX5_penny 55 = .ok (.iload 5, 2) := by decide +kernel
theorem dX5_penny_57 : decode cX5_penny 57 = .ok (.iastore, 1) := by decide +kernel
theorem dX5_penny_58 : decode cX5_penny 58 = .ok (.aload_n 0, 1) := by decide +kernel
theorem dX5_penny_59 : decode cX5_penny 59 = .ok (.iconst 2, 1) := by decide +kernel
theorem dX5_penny_60 : decode cX5_penny 60 = .ok (.iload_n 1, 1) := by decide +kernel
theorem dX5_penny_61 : decode cX5_penny 61 = .ok (.invokevirtual 141, 3) := by decide +kernel
theorem dX5_penny_64 : decode cX5_penny 64 = .ok (.iload_n 2, 1) := by decide +kernel
theorem dX5_penny_65 : decode cX5_penny 65 = .ok (.if_icmp .lt 8, 3) := by decide +kernel
theorem dX5_penny_68 : decode cX5_penny 68 = .ok (.iload 5, 2) := by decide +kernel
theorem dX5_penny_70 : decode cX5_penny 70 = .ok (.goto 4, 3) := by decide +kernel
theorem dX5_penny_73 : decode cX5_penny 73 = .ok (.iconst (-1), 1) := by decide +kernel
theorem dX5_penny_74 : decode cX5_penny 74 = .ok (.istore 4, 2) := by decide +kernel
theorem dX5_penny_76 : decode cX5_penny 76 = .ok (.iinc 5 (-1), 3) := by decide +kernel
theorem dX5_penny_79 : decode cX5_penny 79 = .ok (.goto (-39), 3) := by decide +kernel
theorem dX5_penny_82 : decode cX5_penny 82 = .ok (.aload_n 0, 1) := by decide +kernel
theorem dX5_penny_83 : decode cX5_penny 83 = .ok (.getfield 7, 3) := by decide +kernel
theorem dX5_penny_86 : decode cX5_penny 86 = .ok (.iconst 3, 1) := by decide +kernel
theorem dX5_penny_87 : decode cX5_penny 87 = .ok (.iload_n 3, 1) := by decide +kernel
theorem dX5_penny_88 : decode cX5_penny 88 = .ok (.iastore, 1) := by decide +kernel
theorem dX5_penny_89 : decode cX5_penny 89 = .ok (.iload 4, 2) := by decide +kernel
theorem dX5_penny_91 : decode cX5_penny 91 = .ok (.ifCond .ge 12, 3) := by decide +kernel
theorem dX5_penny_94 : decode cX5_penny 94 = .ok (.aload_n 0, 1) := by decide +kernel
theorem dX5_penny_95 : decode cX5_penny 95 = .ok (.ldc 144, 2) := by decide +kernel
theorem dX5_penny_97 : decode cX5_penny 97 = .ok (.invokevirtual 67, 3) := by decide +kernel
theorem dX5_penny_100 : decode cX5_penny 100 = .ok (.goto 5, 3) := by decide +kernel
theorem dX5_penny_103 : decode cX5_penny 103 = .ok (.iload 4, 2) := by decide +kernel
theorem dX5_penny_105 : decode cX5_penny 105 = .ok (.ireturn, 1) := by decide +kernel
set_option maxRecDepth 20000 in
theorem ggX5_reason_X5_isWalker : GoodIn wsX5_reason wsX5_isWalker := goodIn_r _ [9, 3, 10, 11, 8, 12, 78, 79, 80, 81, 82, 83, 84, 85, 86, 87, 88, 89, 90, 91, 92, 93] (by decide +kernel) (by decide +kernel)
set_option maxRecDepth 20000 in
theorem gX5_reason_X5_isWalker : GoodIn wsX5_reason (wsV RX5 48 RX5 yX5_isWalker wsX5_isWalker) := goodIn_app (goodIn_of _ (by decide +kernel)) ggX5_reason_X5_isWalker
set_option maxRecDepth 20000 in
theorem ggX5_reason_X5_isFar : GoodIn wsX5_reason wsX5_isFar := goodIn_r _ [15, 16, 10, 11, 8, 12] (by decide +kernel) (by decide +kernel)
set_option maxRecDepth 20000 in
theorem gX5_reason_X5_isFar : GoodIn wsX5_reason (va_wsS RX5 158 yX5_isFar wsX5_isFar) := goodIn_app (goodIn_of _ (by decide +kernel)) ggX5_reason_X5_isFar
set_option maxRecDepth 20000 in
theorem ggX5_reason_X5_in : GoodIn wsX5_reason wsX5_in := goodIn_r _ [12] (by decide +kernel) (by decide +kernel)
set_option maxRecDepth 20000 in
theorem gX5_reason_X5_in : GoodIn wsX5_reason (va_wsS RX5 44 yX5_in wsX5_in) := goodIn_app (goodIn_of _ (by decide +kernel)) ggX5_reason_X5_in
set_option maxRecDepth 20000 in
theorem ggX5_reason_X5_finds : GoodIn wsX5_reason wsX5_finds := goodIn_r _ [20, 21, 2, 78, 79, 80, 81, 82, 83, 84, 85, 86, 87, 88, 89, 90, 91, 92, 93] (by decide +kernel) (by decide +kernel)
set_option maxRecDepth 20000 in
theorem gX5_reason_X5_finds : GoodIn wsX5_reason (wsV RX5 67 RX5 yX5_finds wsX5_finds) := goodIn_app (goodIn_of _ (by decide +kernel)) ggX5_reason_X5_finds
set_option maxRecDepth 20000 in
theorem ggX5_reason_X5_its : GoodIn wsX5_reason wsX5_its := goodIn_r _ [25, 3, 26, 27, 8, 28, 78, 79, 80, 81, 82, 83, 84, 85, 86, 87, 88, 89, 90, 91, 92, 93] (by decide +kernel) (by decide +kernel)
set_option maxRecDepth 20000 in
theorem gX5_reason_X5_its : GoodIn wsX5_reason (wsV RX5 71 RX5 yX5_its wsX5_its) := goodIn_app (goodIn_of _ (by decide +kernel)) ggX5_reason_X5_its
set_option maxRecDepth 20000 in
theorem ggX5_reason_X5_spotOf : GoodIn wsX5_reason wsX5_spotOf := goodIn_r _ [28] (by decide +kernel) (by decide +kernel)
set_option maxRecDepth 20000 in
theorem gX5_reason_X5_spotOf : GoodIn wsX5_reason (va_wsS RX5 54 yX5_spotOf wsX5_spotOf) := goodIn_app (goodIn_of _ (by decide +kernel)) ggX5_reason_X5_spotOf
set_option maxRecDepth 20000 in
theorem ggX5_reason_X5_behind : GoodIn wsX5_reason wsX5_behind := goodIn_r _ [32, 3, 33, 34, 35, 8, 36, 37, 38, 39, 40, 41, 42, 43, 44, 45, 22, 23, 24, 25, 26, 27, 28, 46, 47, 48, 49, 50, 51, 52, 53, 54, 55, 56, 57, 58, 59, 60, 61, 62, 63, 64, 65, 66, 67, 68, 69, 70, 71, 72, 73, 74, 75, 76, 77, 78, 79, 80, 81, 82, 83, 84, 85, 86, 87, 88, 89, 90, 91, 92, 93] (by decide +kernel) (by decide +kernel)
set_option maxRecDepth 20000 in
theorem gX5_reason_X5_behind : GoodIn wsX5_reason (wsV RX5 141 RX5 yX5_behind wsX5_behind) := goodIn_app (goodIn_of _ (by decide +kernel)) ggX5_reason_X5_behind
theorem dX5_reason_0 : decode cX5_reason 0 = .ok (.aload_n 0, 1) := by decide +kernel
theorem dX5_reason_1 : decode cX5_reason 1 = .ok (.iload_n 1, 1) := by decide +kernel
theorem dX5_reason_2 : decode cX5_reason 2 = .ok (.invokevirtual 48, 3) := by decide +kernel
theorem dX5_reason_5 : decode cX5_reason 5 = .ok (.ifCond .eq 22, 3) := by decide +kernel
theorem dX5_reason_8 : decode cX5_reason 8 = .ok (.iload_n 2, 1) := by decide +kernel
theorem dX5_reason_9 : decode cX5_reason 9 = .ok (.invokestatic 158, 3) := by decide +kernel
theorem dX5_reason_12 : decode cX5_reason 12 = .ok (.ifCond .eq 15, 3) := by decide +kernel
theorem dX5_reason_15 : decode cX5_reason 15 = .ok (.iload_n 3, 1) := by decide +kernel
theorem dX5_reason_16 : decode cX5_reason 16 = .ok (.i2l, 1) := by decide +kernel
theorem dX5_reason_17 : decode cX5_reason 17 = .ok (.lconst 0, 1) := by decide +kernel
theorem dX5_reason_18 : decode cX5_reason 18 = .ok (.ldc2_w 60, 3) := by decide +kernel
theorem dX5_reason_21 : decode cX5_reason 21 = .ok (.invokestatic 44, 3) := by decide +kernel
theorem dX5_reason_24 : decode cX5_reason 24 = .ok (.ifCond .ne 10, 3) := by decide +kernel
theorem dX5_reason_27 : decode cX5_reason 27 = .ok (.aload_n 0, 1) := by decide +kernel
theorem dX5_reason_28 : decode cX5_reason 28 = .ok (.ldc 41, 2) := by decide +kernel
theorem dX5_reason_30 : decode cX5_reason 30 = .ok (.invokevirtual 67, 3) := by decide +kernel
theorem dX5_reason_33 : decode cX5_reason 33 = .ok (.ireturn, 1) := by decide +kernel
theorem dX5_reason_34 : decode cX5_reason 34 = .ok (.aload_n 0, 1) := by decide +kernel
theorem dX5_reason_35 : decode cX5_reason 35 = .ok (.iload_n 1, 1) := by decide +kernel
theorem dX5_reason_36 : decode cX5_reason 36 = .ok (.iconst 3, 1) := by decide +kernel
theorem dX5_reason_37 : decode cX5_reason 37 = .ok (.invokevirtual 71, 3) := by decide +kernel
theorem dX5_reason_40 : decode cX5_reason 40 = .ok (.istore 4, 2) := by decide +kernel
theorem dX5_reason_42 : decode cX5_reason 42 = .ok (.iconst (-1), 1) := by decide +kernel
theorem dX5_reason_43 : decode cX5_reason 43 = .ok (.istore 5, 2) := by decide +kernel
theorem dX5_reason_45 : decode cX5_reason 45 = .ok (.iconst 0, 1) := by decide +kernel
theorem dX5_reason_46 : decode cX5_reason 46 = .ok (.istore 6, 2) := by decide +kernel
theorem dX5_reason_48 : decode cX5_reason 48 = .ok (.iload 6, 2) := by decide +kernel
theorem dX5_reason_50 : decode cX5_reason 50 = .ok (.bipush 9, 2) := by decide +kernel
theorem dX5_reason_52 : decode cX5_reason 52 = .ok (.if_icmp .gt 49, 3) := by decide +kernel
theorem dX5_reason_55 : decode cX5_reason 55 = .ok (.iload 5, 2) := by decide +kernel
theorem dX5_reason_57 : decode cX5_reason 57 = .ok (.ifCond .ge 44, 3) := by decide +kernel
theorem dX5_reason_60 : decode cX5_reason 60 = .ok (.aload_n 0, 1) := by decide +kernel
theorem dX5_reason_61 : decode cX5_reason 61 = .ok (.getfield 7, 3) := by decide +kernel
theorem dX5_reason_64 : decode cX5_reason 64 = .ok (.iload_n 1, 1) := by decide +kernel
theorem dX5_reason_65 : decode cX5_reason 65 = .ok (.iconst 3, 1) := by decide +kernel
theorem dX5_reason_66 : decode cX5_reason 66 = .ok (.invokestatic 54, 3) := by decide +kernel
theorem dX5_reason_69 : decode cX5_reason 69 = .ok (.iload 6, 2) := by decide +kernel
theorem dX5_reason_71 : decode cX5_reason 71 = .ok (.iastore, 1) := by decide +kernel
theorem dX5_reason_72 : decode cX5_reason 72 = .ok (.aload_n 0, 1) := by decide +kernel
theorem dX5_reason_73 : decode cX5_reason 73 = .ok (.iload_n 1, 1) := by decide +kernel
theorem dX5_reason_74 : decode cX5_reason 74 = .ok (.bipush 6, 2) := by decide +kernel
theorem dX5_reason_76 : decode cX5_reason 76 = .ok (.invokestatic 54, 3) := by decide +kernel
theorem dX5_reason_79 : decode cX5_reason 79 = .ok (.iload_n 2, 1) := by decide +kernel
theorem dX5_reason_80 : decode cX5_reason 80 = .ok (.invokevirtual 141, 3) := by decide +kernel
theorem dX5_reason_83 : decode cX5_reason 83 = .ok (.iload_n 3, 1) := by decide +kernel
theorem dX5_reason_84 : decode cX5_reason 84 = .ok (.if_icmp .lt 8, 3) := by decide +kernel
theorem dX5_reason_87 : decode cX5_reason 87 = .ok (.iload 6, 2) := by decide +kernel
theorem dX5_reason_89 : decode cX5_reason 89 = .ok (.goto 4, 3) := by decide +kernel
theorem dX5_reason_92 : decode cX5_reason 92 = .ok (.iconst (-1), 1) := by decide +kernel
theorem dX5_reason_93 : decode cX5_reason 93 = .ok (.istore 5, 2) := by decide +kernel
theorem dX5_reason_95 : decode cX5_reason 95 = .ok (.iinc 6 1, 3) := by decide +kernel
theorem dX5_reason_98 : decode cX5_reason 98 = .ok (.goto (-50), 3) := by decide +kernel
theorem dX5_reason_101 : decode cX5_reason 101 = .ok (.aload_n 0, 1) := by decide +kernel
theorem dX5_reason_102 : decode cX5_reason 102 = .ok (.getfield 7, 3) := by decide +kernel
theorem dX5_reason_105 : decode cX5_reason 105 = .ok (.iload_n 1, 1) := by decide +kernel
theorem dX5_reason_106 : decode cX5_reason 106 = .ok (.iconst 3, 1) := by decide +kernel
theorem dX5_reason_107 : decode cX5_reason 107 = .ok (.invokestatic 54, 3) := by decide +kernel
theorem dX5_reason_110 : decode cX5_reason 110 = .ok (.iload 4, 2) := by decide +kernel
theorem dX5_reason_112 : decode cX5_reason 112 = .ok (.iastore, 1) := by decide +kernel
theorem dX5_reason_113 : decode cX5_reason 113 = .ok (.iload 5, 2) := by decide +kernel
theorem dX5_reason_115 : decode cX5_reason 115 = .ok (.ifCond .ge 12, 3) := by decide +kernel
theorem dX5_reason_118 : decode cX5_reason 118 = .ok (.aload_n 0, 1) := by decide +kernel
theorem dX5_reason_119 : decode cX5_reason 119 = .ok (.ldc 144, 2) := by decide +kernel
theorem dX5_reason_121 : decode cX5_reason 121 = .ok (.invokevirtual 67, 3) := by decide +kernel
theorem dX5_reason_124 : decode cX5_reason 124 = .ok (.goto 5, 3) := by decide +kernel
theorem dX5_reason_127 : decode cX5_reason 127 = .ok (.iload 5, 2) := by decide +kernel
theorem dX5_reason_129 : decode cX5_reason 129 = .ok (.ireturn, 1) := by decide +kernel
set_option maxRecDepth 20000 in
theorem ggX5_mostBy_X5_spotOf : GoodIn wsX5_mostBy wsX5_spotOf := goodIn_r _ [5] (by decide +kernel) (by decide +kernel)
set_option maxRecDepth 20000 in
theorem gX5_mostBy_X5_spotOf : GoodIn wsX5_mostBy (va_wsS RX5 54 yX5_spotOf wsX5_spotOf) := goodIn_app (goodIn_of _ (by decide +kernel)) ggX5_mostBy_X5_spotOf
set_option maxRecDepth 20000 in
theorem ggX5_mostBy_X5_behind : GoodIn wsX5_mostBy wsX5_behind := goodIn_r _ [9, 1, 10, 11, 12, 4, 13, 14, 15, 16, 17, 18, 19, 20, 21, 22, 23, 24, 25, 26, 2, 3, 5, 27, 28, 29, 30, 31, 32, 33, 34, 35, 36, 37, 38, 39, 40, 41, 42, 43, 44, 45, 46, 47, 48, 49, 50, 51, 52, 53, 54, 55, 56, 57, 58, 59, 60, 61, 62, 63, 64, 65, 66, 67, 68, 69, 70, 71, 72, 73, 74] (by decide +kernel) (by decide +kernel)
set_option maxRecDepth 20000 in
theorem gX5_mostBy_X5_behind : GoodIn wsX5_mostBy (wsV RX5 141 RX5 yX5_behind wsX5_behind) := goodIn_app (goodIn_of _ (by decide +kernel)) ggX5_mostBy_X5_behind
theorem dX5_mostBy_0 : decode cX5_mostBy 0 = .ok (.aload_n 0, 1) := by decide +kernel
theorem dX5_mostBy_1 : decode cX5_mostBy 1 = .ok (.getfield 7, 3) := by decide +kernel
theorem dX5_mostBy_4 : decode cX5_mostBy 4 = .ok (.iload_n 1, 1) := by decide +kernel
theorem dX5_mostBy_5 : decode cX5_mostBy 5 = .ok (.iaload, 1) := by decide +kernel
theorem dX5_mostBy_6 : decode cX5_mostBy 6 = .ok (.istore 5, 2) := by decide +kernel
theorem dX5_mostBy_8 : decode cX5_mostBy 8 = .ok (.iconst 0, 1) := by decide +kernel
theorem dX5_mostBy_9 : decode cX5_mostBy 9 = .ok (.istore 6, 2) := by decide +kernel
theorem dX5_mostBy_11 : decode cX5_mostBy 11 = .ok (.iconst (-1), 1) := by decide +kernel
theorem dX5_mostBy_12 : decode cX5_mostBy 12 = .ok (.istore 7, 2) := by decide +kernel
theorem dX5_mostBy_14 : decode cX5_mostBy 14 = .ok (.iconst 0, 1) := by decide +kernel
theorem dX5_mostBy_15 : decode cX5_mostBy 15 = .ok (.istore 8, 2) := by decide +kernel
theorem dX5_mostBy_17 : decode cX5_mostBy 17 = .ok (.iload 8, 2) := by decide +kernel
theorem dX5_mostBy_19 : decode cX5_mostBy 19 = .ok (.iload_n 2, 1) := by decide +kernel
theorem dX5_mostBy_20 : decode cX5_mostBy 20 = .ok (.if_icmp .gt 63, 3) := by decide +kernel
theorem dX5_mostBy_23 : decode cX5_mostBy 23 = .ok (.aload_n 0, 1) := by decide +kernel
theorem dX5_mostBy_24 : decode cX5_mostBy 24 = .ok (.getfield 7, 3) := by decide +kernel
theorem dX5_mostBy_27 : decode cX5_mostBy 27 = .ok (.iload_n 1, 1) := by decide +kernel
theorem dX5_mostBy_28 : decode cX5_mostBy 28 = .ok (.iload 8, 2) := by decide +kernel
theorem dX5_mostBy_30 : decode cX5_mostBy 30 = .ok (.iastore, 1) := by decide +kernel
theorem dX5_mostBy_31 : decode cX5_mostBy 31 = .ok (.aload_n 0, 1) := by decide +kernel
theorem dX5_mostBy_32 : decode cX5_mostBy 32 = .ok (.iload_n 3, 1) := by decide +kernel
theorem dX5_mostBy_33 : decode cX5_mostBy 33 = .ok (.bipush 6, 2) := by decide +kernel
theorem dX5_mostBy_35 : decode cX5_mostBy 35 = .ok (.invokestatic 54, 3) := by decide +kernel
theorem dX5_mostBy_38 : decode cX5_mostBy 38 = .ok (.iload 4, 2) := by decide +kernel
theorem dX5_mostBy_40 : decode cX5_mostBy 40 = .ok (.invokevirtual 141, 3) := by decide +kernel
theorem dX5_mostBy_43 : decode cX5_mostBy 43 = .ok (.istore 9, 2) := by decide +kernel
theorem dX5_mostBy_45 : decode cX5_mostBy 45 = .ok (.iload 9, 2) := by decide +kernel
theorem dX5_mostBy_47 : decode cX5_mostBy 47 = .ok (.iload 7, 2) := by decide +kernel
theorem dX5_mostBy_49 : decode cX5_mostBy 49 = .ok (.if_icmp .le 8, 3) := by decide +kernel
theorem dX5_mostBy_52 : decode cX5_mostBy 52 = .ok (.iload 8, 2) := by decide +kernel
theorem dX5_mostBy_54 : decode cX5_mostBy 54 = .ok (.goto 5, 3) := by decide +kernel
theorem dX5_mostBy_57 : decode cX5_mostBy 57 = .ok (.iload 6, 2) := by decide +kernel
theorem dX5_mostBy_59 : decode cX5_mostBy 59 = .ok (.istore 6, 2) := by decide +kernel
theorem dX5_mostBy_61 : decode cX5_mostBy 61 = .ok (.iload 9, 2) := by decide +kernel
theorem dX5_mostBy_63 : decode cX5_mostBy 63 = .ok (.iload 7, 2) := by decide +kernel
theorem dX5_mostBy_65 : decode cX5_mostBy 65 = .ok (.if_icmp .le 8, 3) := by decide +kernel
theorem dX5_mostBy_68 : decode cX5_mostBy 68 = .ok (.iload 9, 2) := by decide +kernel
theorem dX5_mostBy_70 : decode cX5_mostBy 70 = .ok (.goto 5, 3) := by decide +kernel
theorem dX5_mostBy_73 : decode cX5_mostBy 73 = .ok (.iload 7, 2) := by decide +kernel
theorem dX5_mostBy_75 : decode cX5_mostBy 75 = .ok (.istore 7, 2) := by decide +kernel
theorem dX5_mostBy_77 : decode cX5_mostBy 77 = .ok (.iinc 8 1, 3) := by decide +kernel
theorem dX5_mostBy_80 : decode cX5_mostBy 80 = .ok (.goto (-63), 3) := by decide +kernel
theorem dX5_mostBy_83 : decode cX5_mostBy 83 = .ok (.aload_n 0, 1) := by decide +kernel
theorem dX5_mostBy_84 : decode cX5_mostBy 84 = .ok (.getfield 7, 3) := by decide +kernel
theorem dX5_mostBy_87 : decode cX5_mostBy 87 = .ok (.iload_n 1, 1) := by decide +kernel
theorem dX5_mostBy_88 : decode cX5_mostBy 88 = .ok (.iload 5, 2) := by decide +kernel
theorem dX5_mostBy_90 : decode cX5_mostBy 90 = .ok (.iastore, 1) := by decide +kernel
theorem dX5_mostBy_91 : decode cX5_mostBy 91 = .ok (.iload 6, 2) := by decide +kernel
theorem dX5_mostBy_93 : decode cX5_mostBy 93 = .ok (.ireturn, 1) := by decide +kernel
set_option maxRecDepth 20000 in
theorem ggX5_kind_X5_isWalker : GoodIn wsX5_kind wsX5_isWalker := goodIn_r _ [6, 7, 8, 9, 5, 10, 80, 81, 82, 83, 84, 85, 86, 87, 88, 89, 90, 91, 92, 93, 94, 95] (by decide +kernel) (by decide +kernel)
set_option maxRecDepth 20000 in
theorem gX5_kind_X5_isWalker : GoodIn wsX5_kind (wsV RX5 48 RX5 yX5_isWalker wsX5_isWalker) := goodIn_app (goodIn_of _ (by decide +kernel)) ggX5_kind_X5_isWalker
set_option maxRecDepth 20000 in
theorem ggX5_kind_X5_isFar : GoodIn wsX5_kind wsX5_isFar := goodIn_r _ [13, 14, 8, 9, 5, 10] (by decide +kernel) (by decide +kernel)
set_option maxRecDepth 20000 in
theorem gX5_kind_X5_isFar : GoodIn wsX5_kind (va_wsS RX5 158 yX5_isFar wsX5_isFar) := goodIn_app (goodIn_of _ (by decide +kernel)) ggX5_kind_X5_isFar
set_option maxRecDepth 20000 in
theorem ggX5_kind_X5_spotOf : GoodIn wsX5_kind wsX5_spotOf := goodIn_r _ [17] (by decide +kernel) (by decide +kernel)
set_option maxRecDepth 20000 in
theorem gX5_kind_X5_spotOf : GoodIn wsX5_kind (va_wsS RX5 54 yX5_spotOf wsX5_spotOf) := goodIn_app (goodIn_of _ (by decide +kernel)) ggX5_kind_X5_spotOf
set_option maxRecDepth 20000 in
theorem ggX5_kind_X5_mostBy : GoodIn wsX5_kind wsX5_mostBy := goodIn_r _ [21, 7, 15, 16, 5, 17, 22, 23, 24, 25, 26, 27, 28, 29, 30, 31, 32, 33, 34, 35, 36, 37, 38, 39, 40, 41, 42, 43, 44, 45, 46, 47, 48, 49, 50, 51, 52, 53, 54, 55, 56, 57, 58, 59, 60, 61, 62, 63, 64, 65, 66, 67, 68, 69, 70, 71, 72, 73, 74, 80, 81, 82, 83, 84, 85, 86, 87, 88, 89, 90, 91, 92, 93, 94, 95] (by decide +kernel) (by decide +kernel)
set_option maxRecDepth 20000 in
theorem gX5_kind_X5_mostBy : GoodIn wsX5_kind (wsV RX5 161 RX5 yX5_mostBy wsX5_mostBy) := goodIn_app (goodIn_of _ (by decide +kernel)) ggX5_kind_X5_mostBy
set_option maxRecDepth 20000 in
theorem ggX5_kind_X5_finds : GoodIn wsX5_kind wsX5_finds := goodIn_r _ [78, 79, 1, 80, 81, 82, 83, 84, 85, 86, 87, 88, 89, 90, 91, 92, 93, 94, 95] (by decide +kernel) (by decide +kernel)
set_option maxRecDepth 20000 in
theorem gX5_kind_X5_finds : GoodIn wsX5_kind (wsV RX5 67 RX5 yX5_finds wsX5_finds) := goodIn_app (goodIn_of _ (by decide +kernel)) ggX5_kind_X5_finds
theorem dX5_kind_0 : decode cX5_kind 0 = .ok (.aload_n 0, 1) := by decide +kernel
theorem dX5_kind_1 : decode cX5_kind 1 = .ok (.iload_n 1, 1) := by decide +kernel
theorem dX5_kind_2 : decode cX5_kind 2 = .ok (.invokevirtual 48, 3) := by decide +kernel
theorem dX5_kind_5 : decode cX5_kind 5 = .ok (.ifCond .eq 25, 3) := by decide +kernel
theorem dX5_kind_8 : decode cX5_kind 8 = .ok (.iload_n 2, 1) := by decide +kernel
theorem dX5_kind_9 : decode cX5_kind 9 = .ok (.invokestatic 158, 3) := by decide +kernel
theorem dX5_kind_12 : decode cX5_kind 12 = .ok (.ifCond .eq 18, 3) := by decide +kernel
theorem dX5_kind_15 : decode cX5_kind 15 = .ok (.aload_n 0, 1) := by decide +kernel
theorem dX5_kind_16 : decode cX5_kind 16 = .ok (.iload_n 1, 1) := by decide +kernel
theorem dX5_kind_17 : decode cX5_kind 17 = .ok (.iconst 0, 1) := by decide +kernel
theorem dX5_kind_18 : decode cX5_kind 18 = .ok (.invokestatic 54, 3) := by decide +kernel
theorem dX5_kind_21 : decode cX5_kind 21 = .ok (.iconst 5, 1) := by decide +kernel
theorem dX5_kind_22 : decode cX5_kind 22 = .ok (.iload_n 1, 1) := by decide +kernel
theorem dX5_kind_23 : decode cX5_kind 23 = .ok (.iload_n 2, 1) := by decide +kernel
theorem dX5_kind_24 : decode cX5_kind 24 = .ok (.invokevirtual 161, 3) := by decide +kernel
theorem dX5_kind_27 : decode cX5_kind 27 = .ok (.goto 9, 3) := by decide +kernel
theorem dX5_kind_30 : decode cX5_kind 30 = .ok (.aload_n 0, 1) := by decide +kernel
theorem dX5_kind_31 : decode cX5_kind 31 = .ok (.ldc 41, 2) := by decide +kernel
theorem dX5_kind_33 : decode cX5_kind 33 = .ok (.invokevirtual 67, 3) := by decide +kernel
theorem dX5_kind_36 : decode cX5_kind 36 = .ok (.ireturn, 1) := by decide +kernel
set_option maxRecDepth 20000 in
theorem ggX5_begin_X5_isWalker : GoodIn wsX5_begin wsX5_isWalker := goodIn_r _ [7, 2, 8, 9, 6, 10, 84, 85, 86, 87, 88, 89, 90, 91, 92, 93, 94, 95, 96, 97, 98, 99] (by decide +kernel) (by decide +kernel)
set_option maxRecDepth 20000 in
theorem gX5_begin_X5_isWalker : GoodIn wsX5_begin (wsV RX5 48 RX5 yX5_isWalker wsX5_isWalker) := goodIn_app (goodIn_of _ (by decide +kernel)) ggX5_begin_X5_isWalker
set_option maxRecDepth 20000 in
theorem ggX5_begin_X5_isFar : GoodIn wsX5_begin wsX5_isFar := goodIn_r _ [13, 14, 8, 9, 6, 10] (by decide +kernel) (by decide +kernel)
set_option maxRecDepth 20000 in
theorem gX5_begin_X5_isFar : GoodIn wsX5_begin (va_wsS RX5 158 yX5_isFar wsX5_isFar) := goodIn_app (goodIn_of _ (by decide +kernel)) ggX5_begin_X5_isFar
set_option maxRecDepth 20000 in
theorem ggX5_begin_X5_finds : GoodIn wsX5_begin wsX5_finds := goodIn_r _ [18, 19, 1, 84, 85, 86, 87, 88, 89, 90, 91, 92, 93, 94, 95, 96, 97, 98, 99] (by decide +kernel) (by decide +kernel)
set_option maxRecDepth 20000 in
theorem gX5_begin_X5_finds : GoodIn wsX5_begin (wsV RX5 67 RX5 yX5_finds wsX5_finds) := goodIn_app (goodIn_of _ (by decide +kernel)) ggX5_begin_X5_finds
set_option maxRecDepth 20000 in
theorem ggX5_begin_X5_spotOf : GoodIn wsX5_begin wsX5_spotOf := goodIn_r _ [22] (by decide +kernel) (by decide +kernel)
set_option maxRecDepth 20000 in
theorem gX5_begin_X5_spotOf : GoodIn wsX5_begin (va_wsS RX5 54 yX5_spotOf wsX5_spotOf) := goodIn_app (goodIn_of _ (by decide +kernel)) ggX5_begin_X5_spotOf
set_option maxRecDepth 20000 in
theorem ggX5_begin_X5_becomes : GoodIn wsX5_begin wsX5_becomes := goodIn_r _ [26, 2, 84, 85, 86, 87, 88, 89, 90, 91, 92, 93, 94, 95, 96, 97, 98, 99] (by decide +kernel) (by decide +kernel)
set_option maxRecDepth 20000 in
theorem gX5_begin_X5_becomes : GoodIn wsX5_begin (wsV RX5 64 RX5 yX5_becomes wsX5_becomes) := goodIn_app (goodIn_of _ (by decide +kernel)) ggX5_begin_X5_becomes
set_option maxRecDepth 20000 in
theorem ggX5_begin_X5_mostBy : GoodIn wsX5_begin wsX5_mostBy := goodIn_r _ [30, 2, 20, 21, 6, 22, 31, 32, 33, 34, 35, 36, 37, 38, 39, 40, 41, 42, 43, 44, 45, 46, 47, 48, 49, 50, 51, 52, 53, 54, 55, 56, 57, 58, 59, 60, 61, 62, 63, 64, 65, 66, 67, 68, 69, 70, 71, 72, 73, 74, 75, 76, 77, 78, 79, 80, 81, 82, 83, 84, 85, 86, 87, 88, 89, 90, 91, 92, 93, 94, 95, 96, 97, 98, 99] (by decide +kernel) (by decide +kernel)
set_option maxRecDepth 20000 in
theorem gX5_begin_X5_mostBy : GoodIn wsX5_begin (wsV RX5 161 RX5 yX5_mostBy wsX5_mostBy) := goodIn_app (goodIn_of _ (by decide +kernel)) ggX5_begin_X5_mostBy
theorem dX5_begin_0 : decode cX5_begin 0 = .ok (.aload_n 0, 1) := by decide +kernel
theorem dX5_begin_1 : decode cX5_begin 1 = .ok (.iload_n 1, 1) := by decide +kernel
theorem dX5_begin_2 : decode cX5_begin 2 = .ok (.invokevirtual 48, 3) := by decide +kernel
theorem dX5_begin_5 : decode cX5_begin 5 = .ok (.ifCond .eq 10, 3) := by decide +kernel
theorem dX5_begin_8 : decode cX5_begin 8 = .ok (.iload_n 2, 1) := by decide +kernel
theorem dX5_begin_9 : decode cX5_begin 9 = .ok (.invokestatic 158, 3) := by decide +kernel
theorem dX5_begin_12 : decode cX5_begin 12 = .ok (.ifCond .ne 10, 3) := by decide +kernel
theorem dX5_begin_15 : decode cX5_begin 15 = .ok (.aload_n 0, 1) := by decide +kernel
theorem dX5_begin_16 : decode cX5_begin 16 = .ok (.ldc 41, 2) := by decide +kernel
theorem dX5_begin_18 : decode cX5_begin 18 = .ok (.invokevirtual 67, 3) := by decide +kernel
theorem dX5_begin_21 : decode cX5_begin 21 = .ok (.ireturn, 1) := by decide +kernel
theorem dX5_begin_22 : decode cX5_begin 22 = .ok (.aload_n 0, 1) := by decide +kernel
theorem dX5_begin_23 : decode cX5_begin 23 = .ok (.iload_n 1, 1) := by decide +kernel
theorem dX5_begin_24 : decode cX5_begin 24 = .ok (.iconst 5, 1) := by decide +kernel
theorem dX5_begin_25 : decode cX5_begin 25 = .ok (.invokestatic 54, 3) := by decide +kernel
theorem dX5_begin_28 : decode cX5_begin 28 = .ok (.iconst 0, 1) := by decide +kernel
theorem dX5_begin_29 : decode cX5_begin 29 = .ok (.invokevirtual 64, 3) := by decide +kernel
theorem dX5_begin_32 : decode cX5_begin 32 = .ok (.istore_n 3, 1) := by decide +kernel
theorem dX5_begin_33 : decode cX5_begin 33 = .ok (.aload_n 0, 1) := by decide +kernel
theorem dX5_begin_34 : decode cX5_begin 34 = .ok (.iload_n 1, 1) := by decide +kernel
theorem dX5_begin_35 : decode cX5_begin 35 = .ok (.iconst 1, 1) := by decide +kernel
theorem dX5_begin_36 : decode cX5_begin 36 = .ok (.invokestatic 54, 3) := by decide +kernel
theorem dX5_begin_39 : decode cX5_begin 39 = .ok (.bipush 12, 2) := by decide +kernel
theorem dX5_begin_41 : decode cX5_begin 41 = .ok (.iload_n 1, 1) := by decide +kernel
theorem dX5_begin_42 : decode cX5_begin 42 = .ok (.iload_n 2, 1) := by decide +kernel
theorem dX5_begin_43 : decode cX5_begin 43 = .ok (.invokevirtual 161, 3) := by decide +kernel
theorem dX5_begin_46 : decode cX5_begin 46 = .ok (.istore 4, 2) := by decide +kernel
theorem dX5_begin_48 : decode cX5_begin 48 = .ok (.aload_n 0, 1) := by decide +kernel
theorem dX5_begin_49 : decode cX5_begin 49 = .ok (.getfield 7, 3) := by decide +kernel
theorem dX5_begin_52 : decode cX5_begin 52 = .ok (.iload_n 1, 1) := by decide +kernel
theorem dX5_begin_53 : decode cX5_begin 53 = .ok (.iconst 5, 1) := by decide +kernel
theorem dX5_begin_54 : decode cX5_begin 54 = .ok (.invokestatic 54, 3) := by decide +kernel
theorem dX5_begin_57 : decode cX5_begin 57 = .ok (.iload_n 3, 1) := by decide +kernel
theorem dX5_begin_58 : decode cX5_begin 58 = .ok (.iastore, 1) := by decide +kernel
theorem dX5_begin_59 : decode cX5_begin 59 = .ok (.iload 4, 2) := by decide +kernel
theorem dX5_begin_61 : decode cX5_begin 61 = .ok (.ireturn, 1) := by decide +kernel
set_option maxRecDepth 20000 in
theorem ggX5_richest_X5_in : GoodIn wsX5_richest wsX5_in := goodIn_r _ [8] (by decide +kernel) (by decide +kernel)
set_option maxRecDepth 20000 in
theorem gX5_richest_X5_in : GoodIn wsX5_richest (va_wsS RX5 44 yX5_in wsX5_in) := goodIn_app (goodIn_of _ (by decide +kernel)) ggX5_richest_X5_in
set_option maxRecDepth 20000 in
theorem ggX5_richest_X5_finds : GoodIn wsX5_richest wsX5_finds := goodIn_r _ [12, 13, 2, 66, 67, 68, 69, 70, 71, 72, 73, 74, 75, 76, 77, 78, 79, 80, 81] (by decide +kernel) (by decide +kernel)
set_option maxRecDepth 20000 in
theorem gX5_richest_X5_finds : GoodIn wsX5_richest (wsV RX5 67 RX5 yX5_finds wsX5_finds) := goodIn_app (goodIn_of _ (by decide +kernel)) ggX5_richest_X5_finds
set_option maxRecDepth 20000 in
theorem ggX5_richest_X5_laysAside : GoodIn wsX5_richest wsX5_laysAside := goodIn_r _ [17, 18, 3, 66, 67, 68, 69, 70, 71, 72, 73, 74, 75, 76, 77, 78, 79, 80, 81] (by decide +kernel) (by decide +kernel)
set_option maxRecDepth 20000 in
theorem gX5_richest_X5_laysAside : GoodIn wsX5_richest (wsV RX5 135 RX5 yX5_laysAside wsX5_laysAside) := goodIn_app (goodIn_of _ (by decide +kernel)) ggX5_richest_X5_laysAside
set_option maxRecDepth 20000 in
theorem ggX5_richest_X5_hoursGo : GoodIn wsX5_richest wsX5_hoursGo := goodIn_r _ [22, 23, 24, 25, 7, 26, 3, 27, 28, 29, 30, 31, 32, 33, 34, 35, 36, 37, 38, 39, 40, 41, 42, 43, 44, 45, 46, 47, 48, 49, 50, 51, 52, 53, 54, 55, 56, 57, 58, 59, 60, 61, 66, 67, 68, 69, 70, 71, 72, 73, 74, 75, 76, 77, 78, 79, 80, 81] (by decide +kernel) (by decide +kernel)
set_option maxRecDepth 20000 in
theorem gX5_richest_X5_hoursGo : GoodIn wsX5_richest (wsV RX5 126 RX5 yX5_hoursGo wsX5_hoursGo) := goodIn_app (goodIn_of _ (by decide +kernel)) ggX5_richest_X5_hoursGo
set_option maxRecDepth 20000 in
theorem ggX5_richest_X5_its : GoodIn wsX5_richest wsX5_its := goodIn_r _ [30, 3, 31, 32, 7, 33, 66, 67, 68, 69, 70, 71, 72, 73, 74, 75, 76, 77, 78, 79, 80, 81] (by decide +kernel) (by decide +kernel)
set_option maxRecDepth 20000 in
theorem gX5_richest_X5_its : GoodIn wsX5_richest (wsV RX5 71 RX5 yX5_its wsX5_its) := goodIn_app (goodIn_of _ (by decide +kernel)) ggX5_richest_X5_its
set_option maxRecDepth 20000 in
theorem ggX5_richest_X5_takesBack : GoodIn wsX5_richest wsX5_takesBack := goodIn_r _ [65, 3, 18, 66, 67, 68, 69, 70, 71, 72, 73, 74, 75, 76, 77, 78, 79, 80, 81] (by decide +kernel) (by decide +kernel)
set_option maxRecDepth 20000 in
theorem gX5_richest_X5_takesBack : GoodIn wsX5_richest (wsV RX5 138 RX5 yX5_takesBack wsX5_takesBack) := goodIn_app (goodIn_of _ (by decide +kernel)) ggX5_richest_X5_takesBack
theorem dX5_richest_0 : decode cX5_richest 0 = .ok (.iload_n 1, 1) := by decide +kernel
theorem dX5_richest_1 : decode cX5_richest 1 = .ok (.i2l, 1) := by decide +kernel
theorem dX5_richest_2 : decode cX5_richest 2 = .ok (.lconst 0, 1) := by decide +kernel
theorem dX5_richest_3 : decode cX5_richest 3 = .ok (.ldc2_w 122, 3) := by decide +kernel
theorem dX5_richest_6 : decode cX5_richest 6 = .ok (.invokestatic 44, 3) := by decide +kernel
theorem dX5_richest_9 : decode cX5_richest 9 = .ok (.ifCond .ne 10, 3) := by decide +kernel
theorem dX5_richest_12 : decode cX5_richest 12 = .ok (.aload_n 0, 1) := by decide +kernel
theorem dX5_richest_13 : decode cX5_richest 13 = .ok (.ldc 41, 2) := by decide +kernel
theorem dX5_richest_15 : decode cX5_richest 15 = .ok (.invokevirtual 67, 3) := by decide +kernel
theorem dX5_richest_18 : decode cX5_richest 18 = .ok (.ireturn, 1) := by decide +kernel
theorem dX5_richest_19 : decode cX5_richest 19 = .ok (.aload_n 0, 1) := by decide +kernel
theorem dX5_richest_20 : decode cX5_richest 20 = .ok (.invokevirtual 135, 3) := by decide +kernel
theorem dX5_richest_23 : decode cX5_richest 23 = .ok (.aload_n 0, 1) := by decide +kernel
theorem dX5_richest_24 : decode cX5_richest 24 = .ok (.iload_n 1, 1) := by decide +kernel
theorem dX5_richest_25 : decode cX5_richest 25 = .ok (.invokevirtual 126, 3) := by decide +kernel
theorem dX5_richest_28 : decode cX5_richest 28 = .ok (.iconst (-1), 1) := by decide +kernel
theorem dX5_richest_29 : decode cX5_richest 29 = .ok (.istore_n 2, 1) := by decide +kernel
theorem dX5_richest_30 : decode cX5_richest 30 = .ok (.iconst 0, 1) := by decide +kernel
theorem dX5_richest_31 : decode cX5_richest 31 = .ok (.istore_n 3, 1) := by decide +kernel
theorem dX5_richest_32 : decode cX5_richest 32 = .ok (.iload_n 3, 1) := by decide +kernel
theorem dX5_richest_33 : decode cX5_richest 33 = .ok (.aload_n 0, 1) := by decide +kernel
theorem dX5_richest_34 : decode cX5_richest 34 = .ok (.getfield 7, 3) := by decide +kernel
theorem dX5_richest_37 : decode cX5_richest 37 = .ok (.iconst 0, 1) := by decide +kernel
theorem dX5_richest_38 : decode cX5_richest 38 = .ok (.iaload, 1) := by decide +kernel
theorem dX5_richest_39 : decode cX5_richest 39 = .ok (.if_icmp .ge 36, 3) := by decide +kernel
theorem dX5_richest_42 : decode cX5_richest 42 = .ok (.iload_n 2, 1) := by decide +kernel
theorem dX5_richest_43 : decode cX5_richest 43 = .ok (.ifCond .lt 20, 3) := by decide +kernel
theorem dX5_richest_46 : decode cX5_richest 46 = .ok (.aload_n 0, 1) := by decide +kernel
theorem dX5_richest_47 : decode cX5_richest 47 = .ok (.iload_n 3, 1) := by decide +kernel
theorem dX5_richest_48 : decode cX5_richest 48 = .ok (.bipush 6, 2) := by decide +kernel
theorem dX5_richest_50 : decode cX5_richest 50 = .ok (.invokevirtual 71, 3) := by decide +kernel
theorem dX5_richest_53 : decode cX5_richest 53 = .ok (.aload_n 0, 1) := by decide +kernel
theorem dX5_richest_54 : decode cX5_richest 54 = .ok (.iload_n 2, 1) := by decide +kernel
theorem dX5_richest_55 : decode cX5_richest 55 = .ok (.bipush 6, 2) := by decide +kernel
theorem dX5_richest_57 : decode cX5_richest 57 = .ok (.invokevirtual 71, 3) := by decide +kernel
theorem dX5_richest_60 : decode cX5_richest 60 = .ok (.if_icmp .le 7, 3) := by decide +kernel
theorem dX5_richest_63 : decode cX5_richest 63 = .ok (.iload_n 3, 1) := by decide +kernel
theorem dX5_richest_64 : decode cX5_richest 64 = .ok (.goto 4, 3) := by decide +kernel
theorem dX5_richest_67 : decode cX5_richest 67 = .ok (.iload_n 2, 1) := by decide +kernel
theorem dX5_richest_68 : decode cX5_richest 68 = .ok (.istore_n 2, 1) := by decide +kernel
theorem dX5_richest_69 : decode cX5_richest 69 = .ok (.iinc 3 1, 3) := by decide +kernel
theorem dX5_richest_72 : decode cX5_richest 72 = .ok (.goto (-40), 3) := by decide +kernel
theorem dX5_richest_75 : decode cX5_richest 75 = .ok (.aload_n 0, 1) := by decide +kernel
theorem dX5_richest_76 : decode cX5_richest 76 = .ok (.iload_n 2, 1) := by decide +kernel
theorem dX5_richest_77 : decode cX5_richest 77 = .ok (.invokevirtual 138, 3) := by decide +kernel
theorem dX5_richest_80 : decode cX5_richest 80 = .ok (.istore_n 3, 1) := by decide +kernel
theorem dX5_richest_81 : decode cX5_richest 81 = .ok (.iload_n 3, 1) := by decide +kernel
theorem dX5_richest_82 : decode cX5_richest 82 = .ok (.ifCond .ge 12, 3) := by decide +kernel
theorem dX5_richest_85 : decode cX5_richest 85 = .ok (.aload_n 0, 1) := by decide +kernel
theorem dX5_richest_86 : decode cX5_richest 86 = .ok (.ldc 144, 2) := by decide +kernel
theorem dX5_richest_88 : decode cX5_richest 88 = .ok (.invokevirtual 67, 3) := by decide +kernel
theorem dX5_richest_91 : decode cX5_richest 91 = .ok (.goto 4, 3) := by decide +kernel
theorem dX5_richest_94 : decode cX5_richest 94 = .ok (.iload_n 3, 1) := by decide +kernel
theorem dX5_richest_95 : decode cX5_richest 95 = .ok (.ireturn, 1) := by decide +kernel
set_option maxRecDepth 20000 in
theorem ggX5_rival_X5_areTwo : GoodIn wsX5_rival wsX5_areTwo := goodIn_r _ [7, 8, 9, 10, 6, 11, 2, 12, 13, 14, 84, 85, 86, 87, 88, 89, 90, 91, 92, 93, 94, 95, 96, 97, 98, 99] (by decide +kernel) (by decide +kernel)
set_option maxRecDepth 20000 in
theorem gX5_rival_X5_areTwo : GoodIn wsX5_rival (wsV RX5 148 RX5 yX5_areTwo wsX5_areTwo) := goodIn_app (goodIn_of _ (by decide +kernel)) ggX5_rival_X5_areTwo
set_option maxRecDepth 20000 in
theorem ggX5_rival_X5_isFar : GoodIn wsX5_rival wsX5_isFar := goodIn_r _ [17, 18, 12, 13, 6, 14] (by decide +kernel) (by decide +kernel)
set_option maxRecDepth 20000 in
theorem gX5_rival_X5_isFar : GoodIn wsX5_rival (va_wsS RX5 158 yX5_isFar wsX5_isFar) := goodIn_app (goodIn_of _ (by decide +kernel)) ggX5_rival_X5_isFar
set_option maxRecDepth 20000 in
theorem ggX5_rival_X5_finds : GoodIn wsX5_rival wsX5_finds := goodIn_r _ [22, 23, 1, 84, 85, 86, 87, 88, 89, 90, 91, 92, 93, 94, 95, 96, 97, 98, 99] (by decide +kernel) (by decide +kernel)
set_option maxRecDepth 20000 in
theorem gX5_rival_X5_finds : GoodIn wsX5_rival (wsV RX5 67 RX5 yX5_finds wsX5_finds) := goodIn_app (goodIn_of _ (by decide +kernel)) ggX5_rival_X5_finds
set_option maxRecDepth 20000 in
theorem ggX5_rival_X5_spotOf : GoodIn wsX5_rival wsX5_spotOf := goodIn_r _ [26] (by decide +kernel) (by decide +kernel)
set_option maxRecDepth 20000 in
theorem gX5_rival_X5_spotOf : GoodIn wsX5_rival (va_wsS RX5 54 yX5_spotOf wsX5_spotOf) := goodIn_app (goodIn_of _ (by decide +kernel)) ggX5_rival_X5_spotOf
set_option maxRecDepth 20000 in
theorem ggX5_rival_X5_behind : GoodIn wsX5_rival wsX5_behind := goodIn_r _ [30, 2, 31, 32, 33, 6, 34, 35, 36, 37, 38, 39, 40, 41, 42, 43, 44, 45, 46, 47, 24, 25, 26, 48, 49, 50, 51, 52, 53, 54, 55, 56, 57, 58, 59, 60, 61, 62, 63, 64, 65, 66, 67, 68, 69, 70, 71, 72, 73, 74, 75, 76, 77, 78, 79, 84, 85, 86, 87, 88, 89, 90, 91, 92, 93, 94, 95, 96, 97, 98, 99] (by decide +kernel) (by decide +kernel)
set_option maxRecDepth 20000 in
theorem gX5_rival_X5_behind : GoodIn wsX5_rival (wsV RX5 141 RX5 yX5_behind wsX5_behind) := goodIn_app (goodIn_of _ (by decide +kernel)) ggX5_rival_X5_behind
set_option maxRecDepth 20000 in
theorem ggX5_rival_X5_becomes : GoodIn wsX5_rival wsX5_becomes := goodIn_r _ [83, 2, 84, 85, 86, 87, 88, 89, 90, 91, 92, 93, 94, 95, 96, 97, 98, 99] (by decide +kernel) (by decide +kernel)
set_option maxRecDepth 20000 in
theorem gX5_rival_X5_becomes : GoodIn wsX5_rival (wsV RX5 64 RX5 yX5_becomes wsX5_becomes) := goodIn_app (goodIn_of _ (by decide +kernel)) ggX5_rival_X5_becomes
theorem dX5_rival_0 : decode cX5_rival 0 = .ok (.aload_n 0, 1) := by decide +kernel
theorem dX5_rival_1 : decode cX5_rival 1 = .ok (.iload_n 1, 1) := by decide +kernel
theorem dX5_rival_2 : decode cX5_rival 2 = .ok (.iload_n 2, 1) := by decide +kernel
theorem dX5_rival_3 : decode cX5_rival 3 = .ok (.invokevirtual 148, 3) := by decide +kernel
theorem dX5_rival_6 : decode cX5_rival 6 = .ok (.ifCond .eq 10, 3) := by decide +kernel
theorem dX5_rival_9 : decode cX5_rival 9 = .ok (.iload_n 3, 1) := by decide +kernel
theorem dX5_rival_10 : decode cX5_rival 10 = .ok (.invokestatic 158, 3) := by decide +kernel
theorem dX5_rival_13 : decode cX5_rival 13 = .ok (.ifCond .ne 10, 3) := by decide +kernel
theorem dX5_rival_16 : decode cX5_rival 16 = .ok (.aload_n 0, 1) := by decide +kernel
theorem dX5_rival_17 : decode cX5_rival 17 = .ok (.ldc 41, 2) := by decide +kernel
theorem dX5_rival_19 : decode cX5_rival 19 = .ok (.invokevirtual 67, 3) := by decide +kernel
theorem dX5_rival_22 : decode cX5_rival 22 = .ok (.ireturn, 1) := by decide +kernel
theorem dX5_rival_23 : decode cX5_rival 23 = .ok (.aload_n 0, 1) := by decide +kernel
theorem dX5_rival_24 : decode cX5_rival 24 = .ok (.iload_n 1, 1) := by decide +kernel
theorem dX5_rival_25 : decode cX5_rival 25 = .ok (.bipush 6, 2) := by decide +kernel
theorem dX5_rival_27 : decode cX5_rival 27 = .ok (.invokestatic 54, 3) := by decide +kernel
theorem dX5_rival_30 : decode cX5_rival 30 = .ok (.iload_n 3, 1) := by decide +kernel
theorem dX5_rival_31 : decode cX5_rival 31 = .ok (.invokevirtual 141, 3) := by decide +kernel
theorem dX5_rival_34 : decode cX5_rival 34 = .ok (.istore 4, 2) := by decide +kernel
theorem dX5_rival_36 : decode cX5_rival 36 = .ok (.aload_n 0, 1) := by decide +kernel
theorem dX5_rival_37 : decode cX5_rival 37 = .ok (.iload_n 2, 1) := by decide +kernel
theorem dX5_rival_38 : decode cX5_rival 38 = .ok (.bipush 7, 2) := by decide +kernel
theorem dX5_rival_40 : decode cX5_rival 40 = .ok (.invokestatic 54, 3) := by decide +kernel
theorem dX5_rival_43 : decode cX5_rival 43 = .ok (.iconst 1, 1) := by decide +kernel
theorem dX5_rival_44 : decode cX5_rival 44 = .ok (.invokevirtual 64, 3) := by decide +kernel
theorem dX5_rival_47 : decode cX5_rival 47 = .ok (.istore 5, 2) := by decide +kernel
theorem dX5_rival_49 : decode cX5_rival 49 = .ok (.aload_n 0, 1) := by decide +kernel
theorem dX5_rival_50 : decode cX5_rival 50 = .ok (.iload_n 1, 1) := by decide +kernel
theorem dX5_rival_51 : decode cX5_rival 51 = .ok (.bipush 6, 2) := by decide +kernel
theorem dX5_rival_53 : decode cX5_rival 53 = .ok (.invokestatic 54, 3) := by decide +kernel
theorem dX5_rival_56 : decode cX5_rival 56 = .ok (.iload_n 3, 1) := by decide +kernel
theorem dX5_rival_57 : decode cX5_rival 57 = .ok (.invokevirtual 141, 3) := by decide +kernel
theorem dX5_rival_60 : decode cX5_rival 60 = .ok (.istore 6, 2) := by decide +kernel
theorem dX5_rival_62 : decode cX5_rival 62 = .ok (.aload_n 0, 1) := by decide +kernel
theorem dX5_rival_63 : decode cX5_rival 63 = .ok (.getfield 7, 3) := by decide +kernel
theorem dX5_rival_66 : decode cX5_rival 66 = .ok (.iload_n 2, 1) := by decide +kernel
theorem dX5_rival_67 : decode cX5_rival 67 = .ok (.bipush 7, 2) := by decide +kernel
theorem dX5_rival_69 : decode cX5_rival 69 = .ok (.invokestatic 54, 3) := by decide +kernel
theorem dX5_rival_72 : decode cX5_rival 72 = .ok (.iload 5, 2) := by decide +kernel
theorem dX5_rival_74 : decode cX5_rival 74 = .ok (.iastore, 1) := by decide +kernel
theorem dX5_rival_75 : decode cX5_rival 75 = .ok (.iload 6, 2) := by decide +kernel
theorem dX5_rival_77 : decode cX5_rival 77 = .ok (.iload 4, 2) := by decide +kernel
theorem dX5_rival_79 : decode cX5_rival 79 = .ok (.isub, 1) := by decide +kernel
theorem dX5_rival_80 : decode cX5_rival 80 = .ok (.ireturn, 1) := by decide +kernel
set_option maxRecDepth 20000 in
theorem ggX5_enough_X5_in : GoodIn wsX5_enough wsX5_in := goodIn_r _ [9] (by decide +kernel) (by decide +kernel)
set_option maxRecDepth 20000 in
theorem gX5_enough_X5_in : GoodIn wsX5_enough (va_wsS RX5 44 yX5_in wsX5_in) := goodIn_app (goodIn_of _ (by decide +kernel)) ggX5_enough_X5_in
set_option maxRecDepth 20000 in
theorem ggX5_enough_X5_finds : GoodIn wsX5_enough wsX5_finds := goodIn_r _ [13, 14, 2, 74, 75, 76, 77, 78, 79, 80, 81, 82, 83, 84, 85, 86, 87, 88, 89] (by decide +kernel) (by decide +kernel)
set_option maxRecDepth 20000 in
theorem gX5_enough_X5_finds : GoodIn wsX5_enough (wsV RX5 67 RX5 yX5_finds wsX5_finds) := goodIn_app (goodIn_of _ (by decide +kernel)) ggX5_enough_X5_finds
set_option maxRecDepth 20000 in
theorem ggX5_enough_X5_becomes : GoodIn wsX5_enough wsX5_becomes := goodIn_r _ [18, 4, 74, 75, 76, 77, 78, 79, 80, 81, 82, 83, 84, 85, 86, 87, 88, 89] (by decide +kernel) (by decide +kernel)
set_option maxRecDepth 20000 in
theorem gX5_enough_X5_becomes : GoodIn wsX5_enough (wsV RX5 64 RX5 yX5_becomes wsX5_becomes) := goodIn_app (goodIn_of _ (by decide +kernel)) ggX5_enough_X5_becomes
set_option maxRecDepth 20000 in
theorem ggX5_enough_X5_behind : GoodIn wsX5_enough wsX5_behind := goodIn_r _ [22, 4, 23, 24, 25, 8, 26, 27, 28, 29, 30, 31, 32, 33, 34, 35, 36, 37, 38, 39, 40, 41, 42, 43, 44, 45, 46, 47, 48, 49, 50, 51, 52, 53, 54, 55, 56, 57, 58, 59, 60, 61, 3, 62, 63, 64, 65, 66, 67, 68, 69, 70, 71, 72, 73, 74, 75, 76, 77, 78, 79, 80, 81, 82, 83, 84, 85, 86, 87, 88, 89] (by decide +kernel) (by decide +kernel)
set_option maxRecDepth 20000 in
theorem gX5_enough_X5_behind : GoodIn wsX5_enough (wsV RX5 141 RX5 yX5_behind wsX5_behind) := goodIn_app (goodIn_of _ (by decide +kernel)) ggX5_enough_X5_behind
theorem dX5_enough_0 : decode cX5_enough 0 = .ok (.iload_n 1, 1) := by decide +kernel
theorem dX5_enough_1 : decode cX5_enough 1 = .ok (.i2l, 1) := by decide +kernel
theorem dX5_enough_2 : decode cX5_enough 2 = .ok (.lconst 1, 1) := by decide +kernel
theorem dX5_enough_3 : decode cX5_enough 3 = .ok (.ldc2_w 151, 3) := by decide +kernel
theorem dX5_enough_6 : decode cX5_enough 6 = .ok (.invokestatic 44, 3) := by decide +kernel
theorem dX5_enough_9 : decode cX5_enough 9 = .ok (.ifCond .ne 10, 3) := by decide +kernel
theorem dX5_enough_12 : decode cX5_enough 12 = .ok (.aload_n 0, 1) := by decide +kernel
theorem dX5_enough_13 : decode cX5_enough 13 = .ok (.ldc 41, 2) := by decide +kernel
theorem dX5_enough_15 : decode cX5_enough 15 = .ok (.invokevirtual 67, 3) := by decide +kernel
theorem dX5_enough_18 : decode cX5_enough 18 = .ok (.ireturn, 1) := by decide +kernel
theorem dX5_enough_19 : decode cX5_enough 19 = .ok (.aload_n 0, 1) := by decide +kernel
theorem dX5_enough_20 : decode cX5_enough 20 = .ok (.iconst 2, 1) := by decide +kernel
theorem dX5_enough_21 : decode cX5_enough 21 = .ok (.ldc 95, 2) := by decide +kernel
theorem dX5_enough_23 : decode cX5_enough 23 = .ok (.invokevirtual 64, 3) := by decide +kernel
theorem dX5_enough_26 : decode cX5_enough 26 = .ok (.istore_n 2, 1) := by decide +kernel
theorem dX5_enough_27 : decode cX5_enough 27 = .ok (.ldc 95, 2) := by decide +kernel
theorem dX5_enough_29 : decode cX5_enough 29 = .ok (.aload_n 0, 1) := by decide +kernel
theorem dX5_enough_30 : decode cX5_enough 30 = .ok (.iconst 2, 1) := by decide +kernel
theorem dX5_enough_31 : decode cX5_enough 31 = .ok (.iload_n 1, 1) := by decide +kernel
theorem dX5_enough_32 : decode cX5_enough 32 = .ok (.invokevirtual 141, 3) := by decide +kernel
theorem dX5_enough_35 : decode cX5_enough 35 = .ok (.isub, 1) := by decide +kernel
theorem dX5_enough_36 : decode cX5_enough 36 = .ok (.iconst 1, 1) := by decide +kernel
theorem dX5_enough_37 : decode cX5_enough 37 = .ok (.iadd, 1) := by decide +kernel
theorem dX5_enough_38 : decode cX5_enough 38 = .ok (.istore_n 3, 1) := by decide +kernel
theorem dX5_enough_39 : decode cX5_enough 39 = .ok (.aload_n 0, 1) := by decide +kernel
theorem dX5_enough_40 : decode cX5_enough 40 = .ok (.getfield 7, 3) := by decide +kernel
theorem dX5_enough_43 : decode cX5_enough 43 = .ok (.iconst 2, 1) := by decide +kernel
theorem dX5_enough_44 : decode cX5_enough 44 = .ok (.iload_n 2, 1) := by decide +kernel
theorem dX5_enough_45 : decode cX5_enough 45 = .ok (.iastore, 1) := by decide +kernel
theorem dX5_enough_46 : decode cX5_enough 46 = .ok (.iload_n 3, 1) := by decide +kernel
theorem dX5_enough_47 : decode cX5_enough 47 = .ok (.sipush 999, 3) := by decide +kernel
theorem dX5_enough_50 : decode cX5_enough 50 = .ok (.if_icmp .le 12, 3) := by decide +kernel
theorem dX5_enough_53 : decode cX5_enough 53 = .ok (.aload_n 0, 1) := by decide +kernel
theorem dX5_enough_54 : decode cX5_enough 54 = .ok (.ldc 144, 2) := by decide +kernel
theorem dX5_enough_56 : decode cX5_enough 56 = .ok (.invokevirtual 67, 3) := by decide +kernel
theorem dX5_enough_59 : decode cX5_enough 59 = .ok (.goto 4, 3) := by decide +kernel
theorem dX5_enough_62 : decode cX5_enough 62 = .ok (.iload_n 3, 1) := by decide +kernel
theorem dX5_enough_63 : decode cX5_enough 63 = .ok (.ireturn, 1) := by decide +kernel
set_option maxRecDepth 20000 in
theorem ggX5_feed_X5_in : GoodIn wsX5_feed wsX5_in := goodIn_r _ [9] (by decide +kernel) (by decide +kernel)
set_option maxRecDepth 20000 in
theorem gX5_feed_X5_in : GoodIn wsX5_feed (va_wsS RX5 44 yX5_in wsX5_in) := goodIn_app (goodIn_of _ (by decide +kernel)) ggX5_feed_X5_in
set_option maxRecDepth 20000 in
theorem ggX5_feed_X5_finds : GoodIn wsX5_feed wsX5_finds := goodIn_r _ [13, 14, 2, 15, 16, 17, 18, 19, 20, 21, 22, 23, 24, 25, 26, 27, 28, 29, 30] (by decide +kernel) (by decide +kernel)
set_option maxRecDepth 20000 in
theorem gX5_feed_X5_finds : GoodIn wsX5_feed (wsV RX5 67 RX5 yX5_finds wsX5_finds) := goodIn_app (goodIn_of _ (by decide +kernel)) ggX5_feed_X5_finds
theorem dX5_feed_0 : decode cX5_feed 0 = .ok (.iload_n 2, 1) := by decide +kernel
theorem dX5_feed_1 : decode cX5_feed 1 = .ok (.i2l, 1) := by decide +kernel
theorem dX5_feed_2 : decode cX5_feed 2 = .ok (.lconst 1, 1) := by decide +kernel
theorem dX5_feed_3 : decode cX5_feed 3 = .ok (.ldc2_w 165, 3) := by decide +kernel
theorem dX5_feed_6 : decode cX5_feed 6 = .ok (.invokestatic 44, 3) := by decide +kernel
theorem dX5_feed_9 : decode cX5_feed 9 = .ok (.ifCond .ne 10, 3) := by decide +kernel
theorem dX5_feed_12 : decode cX5_feed 12 = .ok (.aload_n 0, 1) := by decide +kernel
theorem dX5_feed_13 : decode cX5_feed 13 = .ok (.ldc 41, 2) := by decide +kernel
theorem dX5_feed_15 : decode cX5_feed 15 = .ok (.invokevirtual 67, 3) := by decide +kernel
theorem dX5_feed_18 : decode cX5_feed 18 = .ok (.ireturn, 1) := by decide +kernel
theorem dX5_feed_19 : decode cX5_feed 19 = .ok (.aload_n 0, 1) := by decide +kernel
theorem dX5_feed_20 : decode cX5_feed 20 = .ok (.getfield 167, 3) := by decide +kernel
theorem dX5_feed_23 : decode cX5_feed 23 = .ok (.iload_n 2, 1) := by decide +kernel
theorem dX5_feed_24 : decode cX5_feed 24 = .ok (.iadd, 1) := by decide +kernel
theorem dX5_feed_25 : decode cX5_feed 25 = .ok (.bipush 120, 2) := by decide +kernel
theorem dX5_feed_27 : decode cX5_feed 27 = .ok (.if_icmp .le 10, 3) := by decide +kernel
theorem dX5_feed_30 : decode cX5_feed 30 = .ok (.aload_n 0, 1) := by decide +kernel
theorem dX5_feed_31 : decode cX5_feed 31 = .ok (.ldc 83, 2) := by decide +kernel
theorem dX5_feed_33 : decode cX5_feed 33 = .ok (.invokevirtual 67, 3) := by decide +kernel
theorem dX5_feed_36 : decode cX5_feed 36 = .ok (.ireturn, 1) := by decide +kernel
theorem dX5_feed_37 : decode cX5_feed 37 = .ok (.iload_n 2, 1) := by decide +kernel
theorem dX5_feed_38 : decode cX5_feed 38 = .ok (.iconst 1, 1) := by decide +kernel
theorem dX5_feed_39 : decode cX5_feed 39 = .ok (.isub, 1) := by decide +kernel
theorem dX5_feed_40 : decode cX5_feed 40 = .ok (.istore_n 3, 1) := by decide +kernel
theorem dX5_feed_41 : decode cX5_feed 41 = .ok (.iload_n 3, 1) := by decide +kernel
theorem dX5_feed_42 : decode cX5_feed 42 = .ok (.ifCond .lt 38, 3) := by decide +kernel
theorem dX5_feed_45 : decode cX5_feed 45 = .ok (.aload_n 0, 1) := by decide +kernel
theorem dX5_feed_46 : decode cX5_feed 46 = .ok (.getfield 25, 3) := by decide +kernel
theorem dX5_feed_49 : decode cX5_feed 49 = .ok (.aload_n 0, 1) := by decide +kernel
theorem dX5_feed_50 : decode cX5_feed 50 = .ok (.getfield 167, 3) := by decide +kernel
theorem dX5_feed_53 : decode cX5_feed 53 = .ok (.iload_n 1, 1) := by decide +kernel
theorem dX5_feed_54 : decode cX5_feed 54 = .ok (.bipush 8, 2) := by decide +kernel
theorem dX5_feed_56 : decode cX5_feed 56 = .ok (.iload_n 3, 1) := by decide +kernel
theorem dX5_feed_57 : decode cX5_feed 57 = .ok (.imul, 1) := by decide +kernel
theorem dX5_feed_58 : decode cX5_feed 58 = .ok (.ishr, 1) := by decide +kernel
theorem dX5_feed_59 : decode cX5_feed 59 = .ok (.sipush 255, 3) := by decide +kernel
theorem dX5_feed_62 : decode cX5_feed 62 = .ok (.iand, 1) := by decide +kernel
theorem dX5_feed_63 : decode cX5_feed 63 = .ok (.iastore, 1) := by decide +kernel
theorem dX5_feed_64 : decode cX5_feed 64 = .ok (.aload_n 0, 1) := by decide +kernel
theorem dX5_feed_65 : decode cX5_feed 65 = .ok (.dup, 1) := by decide +kernel
theorem dX5_feed_66 : decode cX5_feed 66 = .ok (.getfield 167, 3) := by decide +kernel
theorem dX5_feed_69 : decode cX5_feed 69 = .ok (.iconst 1, 1) := by decide +kernel
theorem dX5_feed_70 : decode cX5_feed 70 = .ok (.iadd, 1) := by decide +kernel
theorem dX5_feed_71 : decode cX5_feed 71 = .ok (.putfield 167, 3) := by decide +kernel
theorem dX5_feed_74 : decode cX5_feed 74 = .ok (.iinc 3 (-1), 3) := by decide +kernel
theorem dX5_feed_77 : decode cX5_feed 77 = .ok (.goto (-36), 3) := by decide +kernel
theorem dX5_feed_80 : decode cX5_feed 80 = .ok (.aload_n 0, 1) := by decide +kernel
theorem dX5_feed_81 : decode cX5_feed 81 = .ok (.getfield 167, 3) := by decide +kernel
theorem dX5_feed_84 : decode cX5_feed 84 = .ok (.ireturn, 1) := by decide +kernel
theorem dX5_wipe_0 : decode cX5_wipe 0 = .ok (.aload_n 0, 1) := by decide +kernel
theorem dX5_wipe_1 : decode cX5_wipe 1 = .ok (.getfield 167, 3) := by decide +kernel
theorem dX5_wipe_4 : decode cX5_wipe 4 = .ok (.istore_n 1, 1) := by decide +kernel
theorem dX5_wipe_5 : decode cX5_wipe 5 = .ok (.aload_n 0, 1) := by decide +kernel
theorem dX5_wipe_6 : decode cX5_wipe 6 = .ok (.iconst 0, 1) := by decide +kernel
theorem dX5_wipe_7 : decode cX5_wipe 7 = .ok (.putfield 167, 3) := by decide +kernel
theorem dX5_wipe_10 : decode cX5_wipe 10 = .ok (.iload_n 1, 1) := by decide +kernel
theorem dX5_wipe_11 : decode cX5_wipe 11 = .ok (.ireturn, 1) := by decide +kernel
theorem dX5_byteAt_0 : decode cX5_byteAt 0 = .ok (.iload_n 1, 1) := by decide +kernel
theorem dX5_byteAt_1 : decode cX5_byteAt 1 = .ok (.aload_n 0, 1) := by decide +kernel
theorem dX5_byteAt_2 : decode cX5_byteAt 2 = .ok (.getfield 167, 3) := by decide +kernel
theorem dX5_byteAt_5 : decode cX5_byteAt 5 = .ok (.if_icmp .ge 12, 3) := by decide +kernel
theorem dX5_byteAt_8 : decode cX5_byteAt 8 = .ok (.aload_n 0, 1) := by decide +kernel
theorem dX5_byteAt_9 : decode cX5_byteAt 9 = .ok (.getfield 25, 3) := by decide +kernel
theorem dX5_byteAt_12 : decode cX5_byteAt 12 = .ok (.iload_n 1, 1) := by decide +kernel
theorem dX5_byteAt_13 : decode cX5_byteAt 13 = .ok (.iaload, 1) := by decide +kernel
theorem dX5_byteAt_14 : decode cX5_byteAt 14 = .ok (.goto 4, 3) := by decide +kernel
theorem dX5_byteAt_17 : decode cX5_byteAt 17 = .ok (.iconst (-1), 1) := by decide +kernel
theorem dX5_byteAt_18 : decode cX5_byteAt 18 = .ok (.ireturn, 1) := by decide +kernel
set_option maxRecDepth 20000 in
theorem ggX5_isLetter_X5_in : GoodIn wsX5_isLetter wsX5_in := goodIn_r _ [6] (by decide +kernel) (by decide +kernel)
set_option maxRecDepth 20000 in
theorem gX5_isLetter_X5_in : GoodIn wsX5_isLetter (va_wsS RX5 44 yX5_in wsX5_in) := goodIn_app (goodIn_of _ (by decide +kernel)) ggX5_isLetter_X5_in
theorem dX5_isLetter_0 : decode cX5_isLetter 0 = .ok (.iload_n 0, 1) := by decide +kernel
theorem dX5_isLetter_1 : decode cX5_isLetter 1 = .ok (.i2l, 1) := by decide +kernel
theorem dX5_isLetter_2 : decode cX5_isLetter 2 = .ok (.ldc2_w 171, 3) := by decide +kernel
theorem dX5_isLetter_5 : decode cX5_isLetter 5 = .ok (.ldc2_w 173, 3) := by decide +kernel
theorem dX5_isLetter_8 : decode cX5_isLetter 8 = .ok (.invokestatic 44, 3) := by decide +kernel
theorem dX5_isLetter_11 : decode cX5_isLetter 11 = .ok (.ireturn, 1) := by decide +kernel
set_option maxRecDepth 20000 in
theorem ggX5_isDigit_X5_in : GoodIn wsX5_isDigit wsX5_in := goodIn_r _ [6] (by decide +kernel) (by decide +kernel)
set_option maxRecDepth 20000 in
theorem gX5_isDigit_X5_in : GoodIn wsX5_isDigit (va_wsS RX5 44 yX5_in wsX5_in) := goodIn_app (goodIn_of _ (by decide +kernel)) ggX5_isDigit_X5_in
theorem dX5_isDigit_0 : decode cX5_isDigit 0 = .ok (.iload_n 0, 1) := by decide +kernel
theorem dX5_isDigit_1 : decode cX5_isDigit 1 = .ok (.i2l, 1) := by decide +kernel
theorem dX5_isDigit_2 : decode cX5_isDigit 2 = .ok (.ldc2_w 175, 3) := by decide +kernel
theorem dX5_isDigit_5 : decode cX5_isDigit 5 = .ok (.ldc2_w 177, 3) := by decide +kernel
theorem dX5_isDigit_8 : decode cX5_isDigit 8 = .ok (.invokestatic 44, 3) := by decide +kernel
theorem dX5_isDigit_11 : decode cX5_isDigit 11 = .ok (.ireturn, 1) := by decide +kernel
set_option maxRecDepth 20000 in
theorem ggX5_token_X5_byteAt : GoodIn wsX5_token wsX5_byteAt := goodIn_r _ [8, 3, 9, 23, 24, 25, 26, 27, 28, 29, 30, 31, 32, 33, 34, 35, 36, 37, 38] (by decide +kernel) (by decide +kernel)
set_option maxRecDepth 20000 in
theorem gX5_token_X5_byteAt : GoodIn wsX5_token (wsV RX5 185 RX5 yX5_byteAt wsX5_byteAt) := goodIn_app (goodIn_of _ (by decide +kernel)) ggX5_token_X5_byteAt
set_option maxRecDepth 20000 in
theorem ggX5_token_X5_isLetter : GoodIn wsX5_token wsX5_isLetter := goodIn_r _ [12, 13, 14, 15, 16, 7, 17] (by decide +kernel) (by decide +kernel)
set_option maxRecDepth 20000 in
theorem gX5_token_X5_isLetter : GoodIn wsX5_token (va_wsS RX5 188 yX5_isLetter wsX5_isLetter) := goodIn_app (goodIn_of _ (by decide +kernel)) ggX5_token_X5_isLetter
set_option maxRecDepth 20000 in
theorem ggX5_token_X5_isDigit : GoodIn wsX5_token wsX5_isDigit := goodIn_r _ [20, 21, 22, 15, 16, 7, 17] (by decide +kernel) (by decide +kernel)
set_option maxRecDepth 20000 in
theorem gX5_token_X5_isDigit : GoodIn wsX5_token (va_wsS RX5 191 yX5_isDigit wsX5_isDigit) := goodIn_app (goodIn_of _ (by decide +kernel)) ggX5_token_X5_isDigit
theorem dX5_token_0 : decode cX5_token 0 = .ok (.aload_n 0, 1) := by decide +kernel
theorem dX5_token_1 : decode cX5_token 1 = .ok (.aload_n 0, 1) := by decide +kernel
theorem dX5_token_2 : decode cX5_token 2 = .ok (.getfield 179, 3) := by decide +kernel
theorem dX5_token_5 : decode cX5_token 5 = .ok (.putfield 182, 3) := by decide +kernel
theorem dX5_token_8 : decode cX5_token 8 = .ok (.aload_n 0, 1) := by decide +kernel
theorem dX5_token_9 : decode cX5_token 9 = .ok (.aload_n 0, 1) := by decide +kernel
theorem dX5_token_10 : decode cX5_token 10 = .ok (.getfield 182, 3) := by decide +kernel
theorem dX5_token_13 : decode cX5_token 13 = .ok (.invokevirtual 185, 3) := by decide +kernel
theorem dX5_token_16 : decode cX5_token 16 = .ok (.bipush 32, 2) := by decide +kernel
theorem dX5_token_18 : decode cX5_token 18 = .ok (.if_icmp .ne 16, 3) := by decide +kernel
theorem dX5_token_21 : decode cX5_token 21 = .ok (.aload_n 0, 1) := by decide +kernel
theorem dX5_token_22 : decode cX5_token 22 = .ok (.dup, 1) := by decide +kernel
theorem dX5_token_23 : decode cX5_token 23 = .ok (.getfield 182, 3) := by decide +kernel
theorem dX5_token_26 : decode cX5_token 26 = .ok (.iconst 1, 1) := by decide +kernel
theorem dX5_token_27 : decode cX5_token 27 = .ok (.iadd, 1) := by decide +kernel
theorem dX5_token_28 : decode cX5_token 28 = .ok (.putfield 182, 3) := by decide +kernel
theorem dX5_token_31 : decode cX5_token 31 = .ok (.goto (-23), 3) := by decide +kernel
theorem dX5_token_34 : decode cX5_token 34 = .ok (.aload_n 0, 1) := by decide +kernel
theorem dX5_token_35 : decode cX5_token 35 = .ok (.aload_n 0, 1) := by decide +kernel
theorem dX5_token_36 : decode cX5_token 36 = .ok (.getfield 182, 3) := by decide +kernel
theorem dX5_token_39 : decode cX5_token 39 = .ok (.invokevirtual 185, 3) := by decide +kernel
theorem dX5_token_42 : decode cX5_token 42 = .ok (.invokestatic 188, 3) := by decide +kernel
theorem dX5_token_45 : decode cX5_token 45 = .ok (.istore_n 1, 1) := by decide +kernel
theorem dX5_token_46 : decode cX5_token 46 = .ok (.aload_n 0, 1) := by decide +kernel
theorem dX5_token_47 : decode cX5_token 47 = .ok (.aload_n 0, 1) := by decide +kernel
theorem dX5_token_48 : decode cX5_token 48 = .ok (.getfield 182, 3) := by decide +kernel
theorem dX5_token_51 : decode cX5_token 51 = .ok (.invokevirtual 185, 3) := by decide +kernel
theorem dX5_token_54 : decode cX5_token 54 = .ok (.invokestatic 191, 3) := by decide +kernel
theorem dX5_token_57 : decode cX5_token 57 = .ok (.istore_n 2, 1) := by decide +kernel
theorem dX5_token_58 : decode cX5_token 58 = .ok (.aload_n 0, 1) := by decide +kernel
theorem dX5_token_59 : decode cX5_token 59 = .ok (.aload_n 0, 1) := by decide +kernel
theorem dX5_token_60 : decode cX5_token 60 = .ok (.getfield 182, 3) := by decide +kernel
theorem dX5_token_63 : decode cX5_token 63 = .ok (.aload_n 0, 1) := by decide +kernel
theorem dX5_token_64 : decode cX5_token 64 = .ok (.getfield 167, 3) := by decide +kernel
theorem dX5_token_67 : decode cX5_token 67 = .ok (.if_icmp .ge 12, 3) := by decide +kernel
theorem dX5_token_70 : decode cX5_token 70 = .ok (.aload_n 0, 1) := by decide +kernel
theorem dX5_token_71 : decode cX5_token 71 = .ok (.getfield 182, 3) := by decide +kernel
theorem dX5_token_74 : decode cX5_token 74 = .ok (.iconst 1, 1) := by decide +kernel
theorem dX5_token_75 : decode cX5_token 75 = .ok (.iadd, 1) := by decide +kernel
theorem dX5_token_76 : decode cX5_token 76 = .ok (.goto 7, 3) := by decide +kernel
theorem dX5_token_79 : decode cX5_token 79 = .ok (.aload_n 0, 1) := by decide +kernel
theorem dX5_token_80 : decode cX5_token 80 = .ok (.getfield 182, 3) := by decide +kernel
theorem dX5_token_83 : decode cX5_token 83 = .ok (.putfield 179, 3) := by decide +kernel
theorem dX5_token_86 : decode cX5_token 86 = .ok (.iload_n 1, 1) := by decide +kernel
theorem dX5_token_87 : decode cX5_token 87 = .ok (.ifCond .eq 17, 3) := by decide +kernel
theorem dX5_token_90 : decode cX5_token 90 = .ok (.aload_n 0, 1) := by decide +kernel
theorem dX5_token_91 : decode cX5_token 91 = .ok (.aload_n 0, 1) := by decide +kernel
theorem dX5_token_92 : decode cX5_token 92 = .ok (.getfield 179, 3) := by decide +kernel
theorem dX5_token_95 : decode cX5_token 95 = .ok (.invokevirtual 185, 3) := by decide +kernel
theorem dX5_token_98 : decode cX5_token 98 = .ok (.invokestatic 188, 3) := by decide +kernel
theorem dX5_token_101 : decode cX5_token 101 = .ok (.ifCond .ne 21, 3) := by decide +kernel
theorem dX5_token_104 : decode cX5_token 104 = .ok (.iload_n 2, 1) := by decide +kernel
theorem dX5_token_105 : decode cX5_token 105 = .ok (.ifCond .eq 30, 3) := by decide +kernel
theorem dX5_token_108 : decode cX5_token 108 = .ok (.aload_n 0, 1) := by decide +kernel
theorem dX5_token_109 : decode cX5_token 109 = .ok (.aload_n 0, 1) := by decide +kernel
theorem dX5_token_110 : decode cX5_token 110 = .ok (.getfield 179, 3) := by decide +kernel
theorem dX5_token_113 : decode cX5_token 113 = .ok (.invokevirtual 185, 3) := by decide +kernel
theorem dX5_token_116 : decode cX5_token 116 = .ok (.invokestatic 191, 3) := by decide +kernel
theorem dX5_token_119 : decode cX5_token 119 = .ok (.ifCond .eq 16, 3) := by decide +kernel
theorem dX5_token_122 : decode cX5_token 122 = .ok (.aload_n 0, 1) := by decide +kernel
theorem dX5_token_123 : decode cX5_token 123 = .ok (.dup, 1) := by decide +kernel
theorem dX5_token_124 : decode cX5_token 124 = .ok (.getfield 179, 3) := by decide +kernel
theorem dX5_token_127 : decode cX5_token 127 = .ok (.iconst 1, 1) := by decide +kernel
theorem dX5_token_128 : decode cX5_token 128 = .ok (.iadd, 1) := by decide +kernel
theorem dX5_token_129 : decode cX5_token 129 = .ok (.putfield 179, 3) := by decide +kernel
theorem dX5_token_132 : decode cX5_token 132 = .ok (.goto (-46), 3) := by decide +kernel
theorem dX5_token_135 : decode cX5_token 135 = .ok (.return_, 1) := by decide +kernel
set_option maxRecDepth 20000 in
theorem ggX5_must_X5_token : GoodIn wsX5_must wsX5_token := goodIn_r _ [6, 7, 8, 9, 10, 11, 12, 5, 13, 14, 15, 16, 17, 18, 19, 20, 21, 22, 23, 24, 25, 26, 27, 28, 29, 30, 31, 32, 33, 34, 35, 36, 37, 38, 39, 40, 41, 42, 43] (by decide +kernel) (by decide +kernel)
set_option maxRecDepth 20000 in
theorem gX5_must_X5_token : GoodIn wsX5_must (wsV RX5 198 RX5 yX5_token wsX5_token) := goodIn_app (goodIn_of _ (by decide +kernel)) ggX5_must_X5_token
theorem dX5_must_0 : decode cX5_must 0 = .ok (.aload_n 0, 1) := by decide +kernel
theorem dX5_must_1 : decode cX5_must 1 = .ok (.aload_n 0, 1) := by decide +kernel
theorem dX5_must_2 : decode cX5_must 2 = .ok (.getfield 194, 3) := by decide +kernel
theorem dX5_must_5 : decode cX5_must 5 = .ok (.ifCond .ne 7, 3) := by decide +kernel
theorem dX5_must_8 : decode cX5_must 8 = .ok (.iload_n 1, 1) := by decide +kernel
theorem dX5_must_9 : decode cX5_must 9 = .ok (.ifCond .ne 7, 3) := by decide +kernel
theorem dX5_must_12 : decode cX5_must 12 = .ok (.iconst 1, 1) := by decide +kernel
theorem dX5_must_13 : decode cX5_must 13 = .ok (.goto 4, 3) := by decide +kernel
theorem dX5_must_16 : decode cX5_must 16 = .ok (.iconst 0, 1) := by decide +kernel
theorem dX5_must_17 : decode cX5_must 17 = .ok (.putfield 194, 3) := by decide +kernel
theorem dX5_must_20 : decode cX5_must 20 = .ok (.aload_n 0, 1) := by decide +kernel
theorem dX5_must_21 : decode cX5_must 21 = .ok (.getfield 194, 3) := by decide +kernel
theorem dX5_must_24 : decode cX5_must 24 = .ok (.ifCond .ne 7, 3) := by decide +kernel
theorem dX5_must_27 : decode cX5_must 27 = .ok (.aload_n 0, 1) := by decide +kernel
theorem dX5_must_28 : decode cX5_must 28 = .ok (.invokevirtual 198, 3) := by decide +kernel
theorem dX5_must_31 : decode cX5_must 31 = .ok (.return_, 1) := by decide +kernel
set_option maxRecDepth 20000 in
theorem ggX5_word_X5_byteAt : GoodIn wsX5_word wsX5_byteAt := goodIn_r _ [11, 12, 5, 21, 22, 23, 24, 25, 26, 27, 28, 29, 30, 31, 32, 33, 34, 35, 36] (by decide +kernel) (by decide +kernel)
set_option maxRecDepth 20000 in
theorem gX5_word_X5_byteAt : GoodIn wsX5_word (wsV RX5 185 RX5 yX5_byteAt wsX5_byteAt) := goodIn_app (goodIn_of _ (by decide +kernel)) ggX5_word_X5_byteAt
set_option maxRecDepth 20000 in
theorem ggX5_word_X5_isLetter : GoodIn wsX5_word wsX5_isLetter := goodIn_r _ [15, 16, 17, 18, 19, 10, 20] (by decide +kernel) (by decide +kernel)
set_option maxRecDepth 20000 in
theorem gX5_word_X5_isLetter : GoodIn wsX5_word (va_wsS RX5 188 yX5_isLetter wsX5_isLetter) := goodIn_app (goodIn_of _ (by decide +kernel)) ggX5_word_X5_isLetter
theorem dX5_word_0 : decode cX5_word 0 = .ok (.lconst 0, 1) := by decide +kernel
theorem dX5_word_1 : decode cX5_word 1 = .ok (.lstore_n 1, 1) := by decide +kernel
theorem dX5_word_2 : decode cX5_word 2 = .ok (.aload_n 0, 1) := by decide +kernel
theorem dX5_word_3 : decode cX5_word 3 = .ok (.getfield 182, 3) := by decide +kernel
theorem dX5_word_6 : decode cX5_word 6 = .ok (.istore_n 3, 1) := by decide +kernel
theorem dX5_word_7 : decode cX5_word 7 = .ok (.iload_n 3, 1) := by decide +kernel
theorem dX5_word_8 : decode cX5_word 8 = .ok (.aload_n 0, 1) := by decide +kernel
theorem dX5_word_9 : decode cX5_word 9 = .ok (.getfield 179, 3) := by decide +kernel
theorem dX5_word_12 : decode cX5_word 12 = .ok (.if_icmp .ge 38, 3) := by decide +kernel
theorem dX5_word_15 : decode cX5_word 15 = .ok (.lload_n 1, 1) := by decide +kernel
theorem dX5_word_16 : decode cX5_word 16 = .ok (.ldc2_w 201, 3) := by decide +kernel
theorem dX5_word_19 : decode cX5_word 19 = .ok (.lcmp, 1) := by decide +kernel
theorem dX5_word_20 : decode cX5_word 20 = .ok (.ifCond .le 7, 3) := by decide +kernel
theorem dX5_word_23 : decode cX5_word 23 = .ok (.lload_n 1, 1) := by decide +kernel
theorem dX5_word_24 : decode cX5_word 24 = .ok (.goto 19, 3) := by decide +kernel
theorem dX5_word_27 : decode cX5_word 27 = .ok (.ldc2_w 203, 3) := by decide +kernel
theorem dX5_word_30 : decode cX5_word 30 = .ok (.lload_n 1, 1) := by decide +kernel
theorem dX5_word_31 : decode cX5_word 31 = .ok (.lmul, 1) := by decide +kernel
theorem dX5_word_32 : decode cX5_word 32 = .ok (.aload_n 0, 1) := by decide +kernel
theorem dX5_word_33 : decode cX5_word 33 = .ok (.getfield 25, 3) := by decide +kernel
theorem dX5_word_36 : decode cX5_word 36 = .ok (.iload_n 3, 1) := by decide +kernel
theorem dX5_word_37 : decode cX5_word 37 = .ok (.iaload, 1) := by decide +kernel
theorem dX5_word_38 : decode cX5_word 38 = .ok (.bipush 96, 2) := by decide +kernel
theorem dX5_word_40 : decode cX5_word 40 = .ok (.isub, 1) := by decide +kernel
theorem dX5_word_41 : decode cX5_word 41 = .ok (.i2l, 1) := by decide +kernel
theorem dX5_word_42 : decode cX5_word 42 = .ok (.ladd, 1) := by decide +kernel
theorem dX5_word_43 : decode cX5_word 43 = .ok (.lstore_n 1, 1) := by decide +kernel
theorem dX5_word_44 : decode cX5_word 44 = .ok (.iinc 3 1, 3) := by decide +kernel
theorem dX5_word_47 : decode cX5_word 47 = .ok (.goto (-40), 3) := by decide +kernel
theorem dX5_word_50 : decode cX5_word 50 = .ok (.aload_n 0, 1) := by decide +kernel
theorem dX5_word_51 : decode cX5_word 51 = .ok (.getfield 194, 3) := by decide +kernel
theorem dX5_word_54 : decode cX5_word 54 = .ok (.ifCond .ne 17, 3) := by decide +kernel
theorem dX5_word_57 : decode cX5_word 57 = .ok (.aload_n 0, 1) := by decide +kernel
theorem dX5_word_58 : decode cX5_word 58 = .ok (.aload_n 0, 1) := by decide +kernel
theorem dX5_word_59 : decode cX5_word 59 = .ok (.getfield 182, 3) := by decide +kernel
theorem dX5_word_62 : decode cX5_word 62 = .ok (.invokevirtual 185, 3) := by decide +kernel
theorem dX5_word_65 : decode cX5_word 65 = .ok (.invokestatic 188, 3) := by decide +kernel
theorem dX5_word_68 : decode cX5_word 68 = .ok (.ifCond .ne 7, 3) := by decide +kernel
theorem dX5_word_71 : decode cX5_word 71 = .ok (.lconst 0, 1) := by decide +kernel
theorem dX5_word_72 : decode cX5_word 72 = .ok (.goto 4, 3) := by decide +kernel
theorem dX5_word_75 : decode cX5_word 75 = .ok (.lload_n 1, 1) := by decide +kernel
theorem dX5_word_76 : decode cX5_word 76 = .ok (.lreturn, 1) := by decide +kernel
set_option maxRecDepth 20000 in
theorem ggX5_number_X5_byteAt : GoodIn wsX5_number wsX5_byteAt := goodIn_r _ [10, 11, 4, 33, 34, 35, 36, 37, 38, 39, 40, 41, 42, 43, 44, 45, 46, 47, 48] (by decide +kernel) (by decide +kernel)
set_option maxRecDepth 20000 in
theorem gX5_number_X5_byteAt : GoodIn wsX5_number (wsV RX5 185 RX5 yX5_byteAt wsX5_byteAt) := goodIn_app (goodIn_of _ (by decide +kernel)) ggX5_number_X5_byteAt
set_option maxRecDepth 20000 in
theorem ggX5_number_X5_isDigit : GoodIn wsX5_number wsX5_isDigit := goodIn_r _ [14, 15, 16, 17, 18, 9, 19] (by decide +kernel) (by decide +kernel)
set_option maxRecDepth 20000 in
theorem gX5_number_X5_isDigit : GoodIn wsX5_number (va_wsS RX5 191 yX5_isDigit wsX5_isDigit) := goodIn_app (goodIn_of _ (by decide +kernel)) ggX5_number_X5_isDigit
set_option maxRecDepth 20000 in
theorem ggX5_number_X5_in : GoodIn wsX5_number wsX5_in := goodIn_r _ [19] (by decide +kernel) (by decide +kernel)
set_option maxRecDepth 20000 in
theorem gX5_number_X5_in : GoodIn wsX5_number (va_wsS RX5 44 yX5_in wsX5_in) := goodIn_app (goodIn_of _ (by decide +kernel)) ggX5_number_X5_in
set_option maxRecDepth 20000 in
theorem ggX5_number_X5_must : GoodIn wsX5_number wsX5_must := goodIn_r _ [23, 1, 24, 25, 26, 9, 27, 3, 2, 11, 6, 7, 8, 10, 4, 28, 29, 30, 31, 32, 17, 18, 19, 12, 13, 14, 15, 16, 33, 34, 35, 36, 37, 38, 39, 40, 41, 42, 43, 44, 45, 46, 47, 48] (by decide +kernel) (by decide +kernel)
set_option maxRecDepth 20000 in
theorem gX5_number_X5_must : GoodIn wsX5_number (wsV RX5 208 RX5 yX5_must wsX5_must) := goodIn_app (goodIn_of _ (by decide +kernel)) ggX5_number_X5_must
theorem dX5_number_0 : decode cX5_number 0 = .ok (.aload_n 0, 1) := by decide +kernel
theorem dX5_number_1 : decode cX5_number 1 = .ok (.getfield 194, 3) := by decide +kernel
theorem dX5_number_4 : decode cX5_number 4 = .ok (.ifCond .eq 4, 3) := by decide +kernel
theorem dX5_number_7 : decode cX5_number 7 = .ok (.return_, 1) := by decide +kernel
theorem dX5_number_8 : decode cX5_number 8 = .ok (.aload_n 0, 1) := by decide +kernel
theorem dX5_number_9 : decode cX5_number 9 = .ok (.aload_n 0, 1) := by decide +kernel
theorem dX5_number_10 : decode cX5_number 10 = .ok (.getfield 182, 3) := by decide +kernel
theorem dX5_number_13 : decode cX5_number 13 = .ok (.invokevirtual 185, 3) := by decide +kernel
theorem dX5_number_16 : decode cX5_number 16 = .ok (.invokestatic 191, 3) := by decide +kernel
theorem dX5_number_19 : decode cX5_number 19 = .ok (.istore_n 3, 1) := by decide +kernel
theorem dX5_number_20 : decode cX5_number 20 = .ok (.iconst 0, 1) := by decide +kernel
theorem dX5_number_21 : decode cX5_number 21 = .ok (.istore 4, 2) := by decide +kernel
theorem dX5_number_23 : decode cX5_number 23 = .ok (.aload_n 0, 1) := by decide +kernel
theorem dX5_number_24 : decode cX5_number 24 = .ok (.getfield 182, 3) := by decide +kernel
theorem dX5_number_27 : decode cX5_number 27 = .ok (.istore 5, 2) := by decide +kernel
theorem dX5_number_29 : decode cX5_number 29 = .ok (.iload 5, 2) := by decide +kernel
theorem dX5_number_31 : decode cX5_number 31 = .ok (.aload_n 0, 1) := by decide +kernel
theorem dX5_number_32 : decode cX5_number 32 = .ok (.getfield 179, 3) := by decide +kernel
theorem dX5_number_35 : decode cX5_number 35 = .ok (.if_icmp .ge 44, 3) := by decide +kernel
theorem dX5_number_38 : decode cX5_number 38 = .ok (.iload_n 3, 1) := by decide +kernel
theorem dX5_number_39 : decode cX5_number 39 = .ok (.ifCond .eq 40, 3) := by decide +kernel
theorem dX5_number_42 : decode cX5_number 42 = .ok (.iload 4, 2) := by decide +kernel
theorem dX5_number_44 : decode cX5_number 44 = .ok (.sipush 9999, 3) := by decide +kernel
theorem dX5_number_47 : decode cX5_number 47 = .ok (.if_icmp .le 8, 3) := by decide +kernel
theorem dX5_number_50 : decode cX5_number 50 = .ok (.iload 4, 2) := by decide +kernel
theorem dX5_number_52 : decode cX5_number 52 = .ok (.goto 19, 3) := by decide +kernel
theorem dX5_number_55 : decode cX5_number 55 = .ok (.bipush 10, 2) := by decide +kernel
theorem dX5_number_57 : decode cX5_number 57 = .ok (.iload 4, 2) := by decide +kernel
theorem dX5_number_59 : decode cX5_number 59 = .ok (.imul, 1) := by decide +kernel
theorem dX5_number_60 : decode cX5_number 60 = .ok (.aload_n 0, 1) := by decide +kernel
theorem dX5_number_61 : decode cX5_number 61 = .ok (.getfield 25, 3) := by decide +kernel
theorem dX5_number_64 : decode cX5_number 64 = .ok (.iload 5, 2) := by decide +kernel
theorem dX5_number_66 : decode cX5_number 66 = .ok (.iaload, 1) := by decide +kernel
theorem dX5_number_67 : decode cX5_number 67 = .ok (.iadd, 1) := by decide +kernel
theorem dX5_number_68 : decode cX5_number 68 = .ok (.bipush 48, 2) := by decide +kernel
theorem dX5_number_70 : decode cX5_number 70 = .ok (.isub, 1) := by decide +kernel
theorem dX5_number_71 : decode cX5_number 71 = .ok (.istore 4, 2) := by decide +kernel
theorem dX5_number_73 : decode cX5_number 73 = .ok (.iinc 5 1, 3) := by decide +kernel
theorem dX5_number_76 : decode cX5_number 76 = .ok (.goto (-47), 3) := by decide +kernel
theorem dX5_number_79 : decode cX5_number 79 = .ok (.aload_n 0, 1) := by decide +kernel
theorem dX5_number_80 : decode cX5_number 80 = .ok (.iload 4, 2) := by decide +kernel
theorem dX5_number_82 : decode cX5_number 82 = .ok (.putfield 205, 3) := by decide +kernel
theorem dX5_number_85 : decode cX5_number 85 = .ok (.aload_n 0, 1) := by decide +kernel
theorem dX5_number_86 : decode cX5_number 86 = .ok (.iload_n 3, 1) := by decide +kernel
theorem dX5_number_87 : decode cX5_number 87 = .ok (.ifCond .eq 20, 3) := by decide +kernel
theorem dX5_number_90 : decode cX5_number 90 = .ok (.iload 4, 2) := by decide +kernel
theorem dX5_number_92 : decode cX5_number 92 = .ok (.i2l, 1) := by decide +kernel
theorem dX5_number_93 : decode cX5_number 93 = .ok (.iload_n 1, 1) := by decide +kernel
theorem dX5_number_94 : decode cX5_number 94 = .ok (.i2l, 1) := by decide +kernel
theorem dX5_number_95 : decode cX5_number 95 = .ok (.iload_n 2, 1) := by decide +kernel
theorem dX5_number_96 : decode cX5_number 96 = .ok (.i2l, 1) := by decide +kernel
theorem dX5_number_97 : decode cX5_number 97 = .ok (.invokestatic 44, 3) := by decide +kernel
theorem dX5_number_100 : decode cX5_number 100 = .ok (.ifCond .eq 7, 3) := by decide +kernel
theorem dX5_number_103 : decode cX5_number 103 = .ok (.iconst 1, 1) := by decide +kernel
theorem dX5_number_104 : decode cX5_number 104 = .ok (.goto 4, 3) := by decide +kernel
theorem dX5_number_107 : decode cX5_number 107 = .ok (.iconst 0, 1) := by decide +kernel
theorem dX5_number_108 : decode cX5_number 108 = .ok (.invokevirtual 208, 3) := by decide +kernel
theorem dX5_number_111 : decode cX5_number 111 = .ok (.return_, 1) := by decide +kernel
set_option maxRecDepth 20000 in
theorem ggX5_kindHere_X5_word : GoodIn wsX5_kindHere wsX5_word := goodIn_r _ [11, 12, 13, 14, 15, 16, 17, 18, 19, 20, 10, 21, 22, 23, 24, 25, 26, 27, 28, 29, 30, 31, 32, 33, 34, 35, 36, 37, 38, 39, 40, 41, 42, 43, 44, 45, 46] (by decide +kernel) (by decide +kernel)
set_option maxRecDepth 20000 in
theorem gX5_kindHere_X5_word : GoodIn wsX5_kindHere (wsV RX5 212 RX5 yX5_word wsX5_word) := goodIn_app (goodIn_of _ (by decide +kernel)) ggX5_kindHere_X5_word
theorem dX5_kindHere_0 : decode cX5_kindHere 0 = .ok (.aload_n 0, 1) := by decide +kernel
theorem dX5_kindHere_1 : decode cX5_kindHere 1 = .ok (.invokevirtual 212, 3) := by decide +kernel
theorem dX5_kindHere_4 : decode cX5_kindHere 4 = .ok (.lstore_n 1, 1) := by decide +kernel
theorem dX5_kindHere_5 : decode cX5_kindHere 5 = .ok (.lload_n 1, 1) := by decide +kernel
theorem dX5_kindHere_6 : decode cX5_kindHere 6 = .ok (.ldc2_w 216, 3) := by decide +kernel
theorem dX5_kindHere_9 : decode cX5_kindHere 9 = .ok (.lcmp, 1) := by decide +kernel
theorem dX5_kindHere_10 : decode cX5_kindHere 10 = .ok (.ifCond .ne 7, 3) := by decide +kernel
theorem dX5_kindHere_13 : decode cX5_kindHere 13 = .ok (.iconst 0, 1) := by decide +kernel
theorem dX5_kindHere_14 : decode cX5_kindHere 14 = .ok (.goto 64, 3) := by decide +kernel
theorem dX5_kindHere_17 : decode cX5_kindHere 17 = .ok (.lload_n 1, 1) := by decide +kernel
theorem dX5_kindHere_18 : decode cX5_kindHere 18 = .ok (.ldc2_w 218, 3) := by decide +kernel
theorem dX5_kindHere_21 : decode cX5_kindHere 21 = .ok (.lcmp, 1) := by decide +kernel
theorem dX5_kindHere_22 : decode cX5_kindHere 22 = .ok (.ifCond .ne 7, 3) := by decide +kernel
theorem dX5_kindHere_25 : decode cX5_kindHere 25 = .ok (.iconst 1, 1) := by decide +kernel
theorem dX5_kindHere_26 : decode cX5_kindHere 26 = .ok (.goto 52, 3) := by decide +kernel
theorem dX5_kindHere_29 : decode cX5_kindHere 29 = .ok (.lload_n 1, 1) := by decide +kernel
theorem dX5_kindHere_30 : decode cX5_kindHere 30 = .ok (.ldc2_w 220, 3) := by decide +kernel
theorem dX5_kindHere_33 : decode cX5_kindHere 33 = .ok (.lcmp, 1) := by decide +kernel
theorem dX5_kindHere_34 : decode cX5_kindHere 34 = .ok (.ifCond .ne 7, 3) := by decide +kernel
theorem dX5_kindHere_37 : decode cX5_kindHere 37 = .ok (.iconst 2, 1) := by decide +kernel
theorem dX5_kindHere_38 : decode cX5_kindHere 38 = .ok (.goto 40, 3) := by decide +kernel
theorem dX5_kindHere_41 : decode cX5_kindHere 41 = .ok (.lload_n 1, 1) := by decide +kernel
theorem dX5_kindHere_42 : decode cX5_kindHere 42 = .ok (.ldc2_w 222, 3) := by decide +kernel
theorem dX5_kindHere_45 : decode cX5_kindHere 45 = .ok (.lcmp, 1) := by decide +kernel
theorem dX5_kindHere_46 : decode cX5_kindHere 46 = .ok (.ifCond .ne 7, 3) := by decide +kernel
theorem dX5_kindHere_49 : decode cX5_kindHere 49 = .ok (.iconst 3, 1) := by decide +kernel
theorem dX5_kindHere_50 : decode cX5_kindHere 50 = .ok (.goto 28, 3) := by decide +kernel
theorem dX5_kindHere_53 : decode cX5_kindHere 53 = .ok (.lload_n 1, 1) := by decide +kernel
theorem dX5_kindHere_54 : decode cX5_kindHere 54 = .ok (.ldc2_w 224, 3) := by decide +kernel
theorem dX5_kindHere_57 : decode cX5_kindHere 57 = .ok (.lcmp, 1) := by decide +kernel
theorem dX5_kindHere_58 : decode cX5_kindHere 58 = .ok (.ifCond .ne 7, 3) := by decide +kernel
theorem dX5_kindHere_61 : decode cX5_kindHere 61 = .ok (.iconst 4, 1) := by decide +kernel
theorem dX5_kindHere_62 : decode cX5_kindHere 62 = .ok (.goto 16, 3) := by decide +kernel
theorem dX5_kindHere_65 : decode cX5_kindHere 65 = .ok (.lload_n 1, 1) := by decide +kernel
theorem dX5_kindHere_66 : decode cX5_kindHere 66 = .ok (.ldc2_w 226, 3) := by decide +kernel
theorem dX5_kindHere_69 : decode cX5_kindHere 69 = .ok (.lcmp, 1) := by decide +kernel
theorem dX5_kindHere_70 : decode cX5_kindHere 70 = .ok (.ifCond .ne 7, 3) := by decide +kernel
theorem dX5_kindHere_73 : decode cX5_kindHere 73 = .ok (.iconst 5, 1) := by decide +kernel
theorem dX5_kindHere_74 : decode cX5_kindHere 74 = .ok (.goto 4, 3) := by decide +kernel
theorem dX5_kindHere_77 : decode cX5_kindHere 77 = .ok (.iconst (-1), 1) := by decide +kernel
theorem dX5_kindHere_78 : decode cX5_kindHere 78 = .ok (.ireturn, 1) := by decide +kernel
set_option maxRecDepth 20000 in
theorem ggX5_partItem_X5_word : GoodIn wsX5_partItem wsX5_word := goodIn_r _ [8, 9, 10, 11, 12, 13, 2, 14, 15, 16, 7, 17, 18, 19, 20, 21, 22, 23, 24, 25, 26, 44, 45, 46, 47, 48, 49, 50, 51, 52, 53, 54, 55, 56, 57, 58, 59] (by decide +kernel) (by decide +kernel)
set_option maxRecDepth 20000 in
theorem gX5_partItem_X5_word : GoodIn wsX5_partItem (wsV RX5 212 RX5 yX5_word wsX5_word) := goodIn_app (goodIn_of _ (by decide +kernel)) ggX5_partItem_X5_word
set_option maxRecDepth 20000 in
theorem ggX5_partItem_X5_must : GoodIn wsX5_partItem wsX5_must := goodIn_r _ [30, 2, 31, 32, 33, 7, 34, 10, 9, 18, 14, 15, 16, 17, 13, 19, 20, 21, 22, 23, 24, 25, 26, 35, 36, 37, 38, 39, 44, 45, 46, 47, 48, 49, 50, 51, 52, 53, 54, 55, 56, 57, 58, 59] (by decide +kernel) (by decide +kernel)
set_option maxRecDepth 20000 in
theorem gX5_partItem_X5_must : GoodIn wsX5_partItem (wsV RX5 208 RX5 yX5_must wsX5_must) := goodIn_app (goodIn_of _ (by decide +kernel)) ggX5_partItem_X5_must
set_option maxRecDepth 20000 in
theorem ggX5_partItem_X5_number : GoodIn wsX5_partItem wsX5_number := goodIn_r _ [43, 2, 9, 10, 13, 3, 14, 15, 16, 7, 17, 18, 35, 36, 37, 38, 39, 24, 25, 26, 27, 28, 29, 30, 31, 32, 33, 34, 19, 20, 21, 22, 23, 44, 45, 46, 47, 48, 49, 50, 51, 52, 53, 54, 55, 56, 57, 58, 59] (by decide +kernel) (by decide +kernel)
set_option maxRecDepth 20000 in
theorem gX5_partItem_X5_number : GoodIn wsX5_partItem (wsV RX5 228 RX5 yX5_number wsX5_number) := goodIn_app (goodIn_of _ (by decide +kernel)) ggX5_partItem_X5_number
theorem dX5_partItem_0 : decode cX5_partItem 0 = .ok (.aload_n 0, 1) := by decide +kernel
theorem dX5_partItem_1 : decode cX5_partItem 1 = .ok (.invokevirtual 212, 3) := by decide +kernel
theorem dX5_partItem_4 : decode cX5_partItem 4 = .ok (.lload_n 1, 1) := by decide +kernel
theorem dX5_partItem_5 : decode cX5_partItem 5 = .ok (.lcmp, 1) := by decide +kernel
theorem dX5_partItem_6 : decode cX5_partItem 6 = .ok (.ifCond .ne 41, 3) := by decide +kernel
theorem dX5_partItem_9 : decode cX5_partItem 9 = .ok (.aload_n 0, 1) := by decide +kernel
theorem dX5_partItem_10 : decode cX5_partItem 10 = .ok (.iconst 1, 1) := by decide +kernel
theorem dX5_partItem_11 : decode cX5_partItem 11 = .ok (.invokevirtual 208, 3) := by decide +kernel
theorem dX5_partItem_14 : decode cX5_partItem 14 = .ok (.aload_n 0, 1) := by decide +kernel
theorem dX5_partItem_15 : decode cX5_partItem 15 = .ok (.iconst 0, 1) := by decide +kernel
theorem dX5_partItem_16 : decode cX5_partItem 16 = .ok (.iload 4, 2) := by decide +kernel
theorem dX5_partItem_18 : decode cX5_partItem 18 = .ok (.invokevirtual 228, 3) := by decide +kernel
theorem dX5_partItem_21 : decode cX5_partItem 21 = .ok (.aload_n 0, 1) := by decide +kernel
theorem dX5_partItem_22 : decode cX5_partItem 22 = .ok (.getfield 7, 3) := by decide +kernel
theorem dX5_partItem_25 : decode cX5_partItem 25 = .ok (.iload_n 3, 1) := by decide +kernel
theorem dX5_partItem_26 : decode cX5_partItem 26 = .ok (.aload_n 0, 1) := by decide +kernel
theorem dX5_partItem_27 : decode cX5_partItem 27 = .ok (.getfield 194, 3) := by decide +kernel
theorem dX5_partItem_30 : decode cX5_partItem 30 = .ok (.ifCond .eq 12, 3) := by decide +kernel
theorem dX5_partItem_33 : decode cX5_partItem 33 = .ok (.aload_n 0, 1) := by decide +kernel
theorem dX5_partItem_34 : decode cX5_partItem 34 = .ok (.getfield 7, 3) := by decide +kernel
theorem dX5_partItem_37 : decode cX5_partItem 37 = .ok (.iload_n 3, 1) := by decide +kernel
theorem dX5_partItem_38 : decode cX5_partItem 38 = .ok (.iaload, 1) := by decide +kernel
theorem dX5_partItem_39 : decode cX5_partItem 39 = .ok (.goto 7, 3) := by decide +kernel
theorem dX5_partItem_42 : decode cX5_partItem 42 = .ok (.aload_n 0, 1) := by decide +kernel
theorem dX5_partItem_43 : decode cX5_partItem 43 = .ok (.getfield 205, 3) := by decide +kernel
theorem dX5_partItem_46 : decode cX5_partItem 46 = .ok (.iastore, 1) := by decide +kernel
theorem dX5_partItem_47 : decode cX5_partItem 47 = .ok (.return_, 1) := by decide +kernel
set_option maxRecDepth 20000 in
theorem ggX5_walkerItem_X5_must : GoodIn wsX5_walkerItem wsX5_must := goodIn_r _ [10, 2, 11, 12, 13, 9, 14, 15, 16, 17, 18, 19, 20, 21, 22, 23, 24, 25, 26, 27, 28, 29, 30, 31, 32, 33, 34, 35, 58, 59, 60, 61, 62, 63, 64, 65, 66, 67, 68, 69, 70, 71, 72, 73] (by decide +kernel) (by decide +kernel)
set_option maxRecDepth 20000 in
theorem gX5_walkerItem_X5_must : GoodIn wsX5_walkerItem (wsV RX5 208 RX5 yX5_must wsX5_must) := goodIn_app (goodIn_of _ (by decide +kernel)) ggX5_walkerItem_X5_must
set_option maxRecDepth 20000 in
theorem ggX5_walkerItem_X5_adds : GoodIn wsX5_walkerItem wsX5_adds := goodIn_r _ [39, 1, 40, 41, 9, 42, 58, 59, 60, 61, 62, 63, 64, 65, 66, 67, 68, 69, 70, 71, 72, 73] (by decide +kernel) (by decide +kernel)
set_option maxRecDepth 20000 in
theorem gX5_walkerItem_X5_adds : GoodIn wsX5_walkerItem (wsV RX5 84 RX5 yX5_adds wsX5_adds) := goodIn_app (goodIn_of _ (by decide +kernel)) ggX5_walkerItem_X5_adds
set_option maxRecDepth 20000 in
theorem ggX5_walkerItem_X5_spotOf : GoodIn wsX5_walkerItem wsX5_spotOf := goodIn_r _ [42] (by decide +kernel) (by decide +kernel)
set_option maxRecDepth 20000 in
theorem gX5_walkerItem_X5_spotOf : GoodIn wsX5_walkerItem (va_wsS RX5 54 yX5_spotOf wsX5_spotOf) := goodIn_app (goodIn_of _ (by decide +kernel)) ggX5_walkerItem_X5_spotOf
set_option maxRecDepth 20000 in
theorem ggX5_walkerItem_X5_partItem : GoodIn wsX5_walkerItem wsX5_partItem := goodIn_r _ [46, 1, 2, 47, 48, 49, 50, 9, 51, 16, 15, 52, 53, 22, 18, 19, 20, 21, 17, 23, 24, 25, 26, 27, 28, 29, 30, 6, 7, 8, 10, 11, 12, 13, 14, 31, 32, 33, 34, 35, 54, 55, 56, 57, 58, 59, 60, 61, 62, 63, 64, 65, 66, 67, 68, 69, 70, 71, 72, 73] (by decide +kernel) (by decide +kernel)
set_option maxRecDepth 20000 in
theorem gX5_walkerItem_X5_partItem : GoodIn wsX5_walkerItem (wsV RX5 234 RX5 yX5_partItem wsX5_partItem) := goodIn_app (goodIn_of _ (by decide +kernel)) ggX5_walkerItem_X5_partItem
set_option maxRecDepth 20000 in
theorem ggX5_walkerItem_X5_word : GoodIn wsX5_walkerItem wsX5_word := goodIn_r _ [51, 16, 15, 52, 53, 22, 2, 18, 19, 20, 9, 21, 17, 23, 24, 25, 26, 27, 28, 29, 30, 58, 59, 60, 61, 62, 63, 64, 65, 66, 67, 68, 69, 70, 71, 72, 73] (by decide +kernel) (by decide +kernel)
set_option maxRecDepth 20000 in
theorem gX5_walkerItem_X5_word : GoodIn wsX5_walkerItem (wsV RX5 212 RX5 yX5_word wsX5_word) := goodIn_app (goodIn_of _ (by decide +kernel)) ggX5_walkerItem_X5_word
theorem dX5_walkerItem_0 : decode cX5_walkerItem 0 = .ok (.aload_n 0, 1) := by decide +kernel
theorem dX5_walkerItem_1 : decode cX5_walkerItem 1 = .ok (.aload_n 0, 1) := by decide +kernel
theorem dX5_walkerItem_2 : decode cX5_walkerItem 2 = .ok (.getfield 7, 3) := by decide +kernel
theorem dX5_walkerItem_5 : decode cX5_walkerItem 5 = .ok (.iconst 0, 1) := by decide +kernel
theorem dX5_walkerItem_6 : decode cX5_walkerItem 6 = .ok (.iaload, 1) := by decide +kernel
theorem dX5_walkerItem_7 : decode cX5_walkerItem 7 = .ok (.bipush 8, 2) := by decide +kernel
theorem dX5_walkerItem_9 : decode cX5_walkerItem 9 = .ok (.if_icmp .ge 7, 3) := by decide +kernel
theorem dX5_walkerItem_12 : decode cX5_walkerItem 12 = .ok (.iconst 1, 1) := by decide +kernel
theorem dX5_walkerItem_13 : decode cX5_walkerItem 13 = .ok (.goto 4, 3) := by decide +kernel
theorem dX5_walkerItem_16 : decode cX5_walkerItem 16 = .ok (.iconst 0, 1) := by decide +kernel
theorem dX5_walkerItem_17 : decode cX5_walkerItem 17 = .ok (.invokevirtual 208, 3) := by decide +kernel
theorem dX5_walkerItem_20 : decode cX5_walkerItem 20 = .ok (.aload_n 0, 1) := by decide +kernel
theorem dX5_walkerItem_21 : decode cX5_walkerItem 21 = .ok (.getfield 194, 3) := by decide +kernel
theorem dX5_walkerItem_24 : decode cX5_walkerItem 24 = .ok (.ifCond .eq 4, 3) := by decide +kernel
theorem dX5_walkerItem_27 : decode cX5_walkerItem 27 = .ok (.return_, 1) := by decide +kernel
theorem dX5_walkerItem_28 : decode cX5_walkerItem 28 = .ok (.aload_n 0, 1) := by decide +kernel
theorem dX5_walkerItem_29 : decode cX5_walkerItem 29 = .ok (.iload_n 1, 1) := by decide +kernel
theorem dX5_walkerItem_30 : decode cX5_walkerItem 30 = .ok (.iconst 0, 1) := by decide +kernel
theorem dX5_walkerItem_31 : decode cX5_walkerItem 31 = .ok (.invokevirtual 84, 3) := by decide +kernel
theorem dX5_walkerItem_34 : decode cX5_walkerItem 34 = .ok (.istore_n 2, 1) := by decide +kernel
theorem dX5_walkerItem_35 : decode cX5_walkerItem 35 = .ok (.aload_n 0, 1) := by decide +kernel
theorem dX5_walkerItem_36 : decode cX5_walkerItem 36 = .ok (.ldc2_w 232, 3) := by decide +kernel
theorem dX5_walkerItem_39 : decode cX5_walkerItem 39 = .ok (.iload_n 2, 1) := by decide +kernel
theorem dX5_walkerItem_40 : decode cX5_walkerItem 40 = .ok (.iconst 1, 1) := by decide +kernel
theorem dX5_walkerItem_41 : decode cX5_walkerItem 41 = .ok (.invokestatic 54, 3) := by decide +kernel
theorem dX5_walkerItem_44 : decode cX5_walkerItem 44 = .ok (.bipush 12, 2) := by decide +kernel
theorem dX5_walkerItem_46 : decode cX5_walkerItem 46 = .ok (.invokevirtual 234, 3) := by decide +kernel
theorem dX5_walkerItem_49 : decode cX5_walkerItem 49 = .ok (.aload_n 0, 1) := by decide +kernel
theorem dX5_walkerItem_50 : decode cX5_walkerItem 50 = .ok (.invokevirtual 212, 3) := by decide +kernel
theorem dX5_walkerItem_53 : decode cX5_walkerItem 53 = .ok (.ldc2_w 238, 3) := by decide +kernel
theorem dX5_walkerItem_56 : decode cX5_walkerItem 56 = .ok (.lcmp, 1) := by decide +kernel
theorem dX5_walkerItem_57 : decode cX5_walkerItem 57 = .ok (.ifCond .ne 19, 3) := by decide +kernel
theorem dX5_walkerItem_60 : decode cX5_walkerItem 60 = .ok (.aload_n 0, 1) := by decide +kernel
theorem dX5_walkerItem_61 : decode cX5_walkerItem 61 = .ok (.iconst 1, 1) := by decide +kernel
theorem dX5_walkerItem_62 : decode cX5_walkerItem 62 = .ok (.invokevirtual 208, 3) := by decide +kernel
theorem dX5_walkerItem_65 : decode cX5_walkerItem 65 = .ok (.aload_n 0, 1) := by decide +kernel
theorem dX5_walkerItem_66 : decode cX5_walkerItem 66 = .ok (.getfield 7, 3) := by decide +kernel
theorem dX5_walkerItem_69 : decode cX5_walkerItem 69 = .ok (.iload_n 2, 1) := by decide +kernel
theorem dX5_walkerItem_70 : decode cX5_walkerItem 70 = .ok (.iconst 2, 1) := by decide +kernel
theorem dX5_walkerItem_71 : decode cX5_walkerItem 71 = .ok (.invokestatic 54, 3) := by decide +kernel
theorem dX5_walkerItem_74 : decode cX5_walkerItem 74 = .ok (.iconst 0, 1) := by decide +kernel
theorem dX5_walkerItem_75 : decode cX5_walkerItem 75 = .ok (.iastore, 1) := by decide +kernel
theorem dX5_walkerItem_76 : decode cX5_walkerItem 76 = .ok (.aload_n 0, 1) := by decide +kernel
theorem dX5_walkerItem_77 : decode cX5_walkerItem 77 = .ok (.ldc2_w 240, 3) := by decide +kernel
theorem dX5_walkerItem_80 : decode cX5_walkerItem 80 = .ok (.iload_n 2, 1) := by decide +kernel
theorem dX5_walkerItem_81 : decode cX5_walkerItem 81 = .ok (.iconst 3, 1) := by decide +kernel
theorem dX5_walkerItem_82 : decode cX5_walkerItem 82 = .ok (.invokestatic 54, 3) := by decide +kernel
theorem dX5_walkerItem_85 : decode cX5_walkerItem 85 = .ok (.bipush 9, 2) := by decide +kernel
theorem dX5_walkerItem_87 : decode cX5_walkerItem 87 = .ok (.invokevirtual 234, 3) := by decide +kernel
theorem dX5_walkerItem_90 : decode cX5_walkerItem 90 = .ok (.return_, 1) := by decide +kernel
set_option maxRecDepth 20000 in
theorem ggX5_item_X5_kindHere : GoodIn wsX5_item wsX5_kindHere := goodIn_r _ [12, 13, 14, 15, 16, 17, 18, 19, 20, 21, 11, 22, 23, 24, 25, 26, 27, 4, 28, 29, 30, 31, 32, 33, 34, 35, 36, 37, 38, 39, 40, 76, 77, 78, 79, 80, 81, 82, 83, 84, 85, 86, 87, 88, 89, 90, 91] (by decide +kernel) (by decide +kernel)
set_option maxRecDepth 20000 in
theorem gX5_item_X5_kindHere : GoodIn wsX5_item (wsV RX5 242 RX5 yX5_kindHere wsX5_kindHere) := goodIn_app (goodIn_of _ (by decide +kernel)) ggX5_item_X5_kindHere
set_option maxRecDepth 20000 in
theorem ggX5_item_X5_word : GoodIn wsX5_item wsX5_word := goodIn_r _ [22, 23, 24, 25, 26, 27, 4, 28, 29, 30, 11, 31, 32, 33, 34, 35, 36, 37, 38, 39, 40, 76, 77, 78, 79, 80, 81, 82, 83, 84, 85, 86, 87, 88, 89, 90, 91] (by decide +kernel) (by decide +kernel)
set_option maxRecDepth 20000 in
theorem gX5_item_X5_word : GoodIn wsX5_item (wsV RX5 212 RX5 yX5_word wsX5_word) := goodIn_app (goodIn_of _ (by decide +kernel)) ggX5_item_X5_word
set_option maxRecDepth 20000 in
theorem ggX5_item_X5_walkerItem : GoodIn wsX5_item wsX5_walkerItem := goodIn_r _ [44, 3, 4, 45, 46, 47, 48, 49, 50, 11, 51, 52, 53, 54, 55, 24, 23, 32, 28, 29, 30, 31, 27, 33, 34, 35, 36, 37, 38, 39, 40, 56, 57, 58, 59, 60, 61, 62, 63, 64, 65, 66, 67, 68, 69, 70, 71, 5, 19, 20, 21, 22, 25, 26, 72, 73, 74, 75, 76, 77, 78, 79, 80, 81, 82, 83, 84, 85, 86, 87, 88, 89, 90, 91] (by decide +kernel) (by decide +kernel)
set_option maxRecDepth 20000 in
theorem gX5_item_X5_walkerItem : GoodIn wsX5_item (wsV RX5 248 RX5 yX5_walkerItem wsX5_walkerItem) := goodIn_app (goodIn_of _ (by decide +kernel)) ggX5_item_X5_walkerItem
set_option maxRecDepth 20000 in
theorem ggX5_item_X5_must : GoodIn wsX5_item wsX5_must := goodIn_r _ [51, 4, 52, 53, 54, 11, 55, 24, 23, 32, 28, 29, 30, 31, 27, 33, 34, 35, 36, 37, 38, 39, 40, 56, 57, 58, 59, 60, 76, 77, 78, 79, 80, 81, 82, 83, 84, 85, 86, 87, 88, 89, 90, 91] (by decide +kernel) (by decide +kernel)
set_option maxRecDepth 20000 in
theorem gX5_item_X5_must : GoodIn wsX5_item (wsV RX5 208 RX5 yX5_must wsX5_must) := goodIn_app (goodIn_of _ (by decide +kernel)) ggX5_item_X5_must
set_option maxRecDepth 20000 in
theorem ggX5_item_X5_number : GoodIn wsX5_item wsX5_number := goodIn_r _ [75, 4, 23, 24, 27, 5, 28, 29, 30, 11, 31, 32, 56, 57, 58, 59, 60, 38, 39, 40, 48, 49, 50, 51, 52, 53, 54, 55, 33, 34, 35, 36, 37, 76, 77, 78, 79, 80, 81, 82, 83, 84, 85, 86, 87, 88, 89, 90, 91] (by decide +kernel) (by decide +kernel)
set_option maxRecDepth 20000 in
theorem gX5_item_X5_number : GoodIn wsX5_item (wsV RX5 228 RX5 yX5_number wsX5_number) := goodIn_app (goodIn_of _ (by decide +kernel)) ggX5_item_X5_number
theorem dX5_item_0 : decode cX5_item 0 = .ok (.aload_n 0, 1) := by decide +kernel
theorem dX5_item_1 : decode cX5_item 1 = .ok (.invokevirtual 242, 3) := by decide +kernel
theorem dX5_item_4 : decode cX5_item 4 = .ok (.istore_n 1, 1) := by decide +kernel
theorem dX5_item_5 : decode cX5_item 5 = .ok (.aload_n 0, 1) := by decide +kernel
theorem dX5_item_6 : decode cX5_item 6 = .ok (.invokevirtual 212, 3) := by decide +kernel
theorem dX5_item_9 : decode cX5_item 9 = .ok (.lstore_n 2, 1) := by decide +kernel
theorem dX5_item_10 : decode cX5_item 10 = .ok (.lload_n 2, 1) := by decide +kernel
theorem dX5_item_11 : decode cX5_item 11 = .ok (.ldc2_w 246, 3) := by decide +kernel
theorem dX5_item_14 : decode cX5_item 14 = .ok (.lcmp, 1) := by decide +kernel
theorem dX5_item_15 : decode cX5_item 15 = .ok (.ifCond .ne 7, 3) := by decide +kernel
theorem dX5_item_18 : decode cX5_item 18 = .ok (.iconst 1, 1) := by decide +kernel
theorem dX5_item_19 : decode cX5_item 19 = .ok (.goto 4, 3) := by decide +kernel
theorem dX5_item_22 : decode cX5_item 22 = .ok (.iconst 0, 1) := by decide +kernel
theorem dX5_item_23 : decode cX5_item 23 = .ok (.istore 4, 2) := by decide +kernel
theorem dX5_item_25 : decode cX5_item 25 = .ok (.iload_n 1, 1) := by decide +kernel
theorem dX5_item_26 : decode cX5_item 26 = .ok (.ifCond .lt 11, 3) := by decide +kernel
theorem dX5_item_29 : decode cX5_item 29 = .ok (.aload_n 0, 1) := by decide +kernel
theorem dX5_item_30 : decode cX5_item 30 = .ok (.iload_n 1, 1) := by decide +kernel
theorem dX5_item_31 : decode cX5_item 31 = .ok (.invokevirtual 248, 3) := by decide +kernel
theorem dX5_item_34 : decode cX5_item 34 = .ok (.goto 151, 3) := by decide +kernel
theorem dX5_item_37 : decode cX5_item 37 = .ok (.iload 4, 2) := by decide +kernel
theorem dX5_item_39 : decode cX5_item 39 = .ok (.ifCond .ne 11, 3) := by decide +kernel
theorem dX5_item_42 : decode cX5_item 42 = .ok (.lload_n 2, 1) := by decide +kernel
theorem dX5_item_43 : decode cX5_item 43 = .ok (.ldc2_w 251, 3) := by decide +kernel
theorem dX5_item_46 : decode cX5_item 46 = .ok (.lcmp, 1) := by decide +kernel
theorem dX5_item_47 : decode cX5_item 47 = .ok (.ifCond .ne 69, 3) := by decide +kernel
theorem dX5_item_50 : decode cX5_item 50 = .ok (.aload_n 0, 1) := by decide +kernel
theorem dX5_item_51 : decode cX5_item 51 = .ok (.iconst 1, 1) := by decide +kernel
theorem dX5_item_52 : decode cX5_item 52 = .ok (.invokevirtual 208, 3) := by decide +kernel
theorem dX5_item_55 : decode cX5_item 55 = .ok (.aload_n 0, 1) := by decide +kernel
theorem dX5_item_56 : decode cX5_item 56 = .ok (.iconst 0, 1) := by decide +kernel
theorem dX5_item_57 : decode cX5_item 57 = .ok (.iload 4, 2) := by decide +kernel
theorem dX5_item_59 : decode cX5_item 59 = .ok (.ifCond .eq 9, 3) := by decide +kernel
theorem dX5_item_62 : decode cX5_item 62 = .ok (.sipush 9999, 3) := by decide +kernel
theorem dX5_item_65 : decode cX5_item 65 = .ok (.goto 5, 3) := by decide +kernel
theorem dX5_item_68 : decode cX5_item 68 = .ok (.bipush 20, 2) := by decide +kernel
theorem dX5_item_70 : decode cX5_item 70 = .ok (.invokevirtual 228, 3) := by decide +kernel
theorem dX5_item_73 : decode cX5_item 73 = .ok (.iload 4, 2) := by decide +kernel
theorem dX5_item_75 : decode cX5_item 75 = .ok (.ifCond .eq 7, 3) := by decide +kernel
theorem dX5_item_78 : decode cX5_item 78 = .ok (.iconst 2, 1) := by decide +kernel
theorem dX5_item_79 : decode cX5_item 79 = .ok (.goto 4, 3) := by decide +kernel
theorem dX5_item_82 : decode cX5_item 82 = .ok (.iconst 3, 1) := by decide +kernel
theorem dX5_item_83 : decode cX5_item 83 = .ok (.istore 5, 2) := by decide +kernel
theorem dX5_item_85 : decode cX5_item 85 = .ok (.aload_n 0, 1) := by decide +kernel
theorem dX5_item_86 : decode cX5_item 86 = .ok (.getfield 7, 3) := by decide +kernel
theorem dX5_item_89 : decode cX5_item 89 = .ok (.iload 5, 2) := by decide +kernel
theorem dX5_item_91 : decode cX5_item 91 = .ok (.aload_n 0, 1) := by decide +kernel
theorem dX5_item_92 : decode cX5_item 92 = .ok (.getfield 194, 3) := by decide +kernel
theorem dX5_item_95 : decode cX5_item 95 = .ok (.ifCond .eq 13, 3) := by decide +kernel
theorem dX5_item_98 : decode cX5_item 98 = .ok (.aload_n 0, 1) := by decide +kernel
theorem dX5_item_99 : decode cX5_item 99 = .ok (.getfield 7, 3) := by decide +kernel
theorem dX5_item_102 : decode cX5_item 102 = .ok (.iload 5, 2) := by decide +kernel
theorem dX5_item_104 : decode cX5_item 104 = .ok (.iaload, 1) := by decide +kernel
theorem dX5_item_105 : decode cX5_item 105 = .ok (.goto 7, 3) := by decide +kernel
theorem dX5_item_108 : decode cX5_item 108 = .ok (.aload_n 0, 1) := by decide +kernel
theorem dX5_item_109 : decode cX5_item 109 = .ok (.getfield 205, 3) := by decide +kernel
theorem dX5_item_112 : decode cX5_item 112 = .ok (.iastore, 1) := by decide +kernel
theorem dX5_item_113 : decode cX5_item 113 = .ok (.goto 72, 3) := by decide +kernel
theorem dX5_item_116 : decode cX5_item 116 = .ok (.lload_n 2, 1) := by decide +kernel
theorem dX5_item_117 : decode cX5_item 117 = .ok (.ldc2_w 253, 3) := by decide +kernel
theorem dX5_item_120 : decode cX5_item 120 = .ok (.lcmp, 1) := by decide +kernel
theorem dX5_item_121 : decode cX5_item 121 = .ok (.ifCond .ne 7, 3) := by decide +kernel
theorem dX5_item_124 : decode cX5_item 124 = .ok (.iconst 1, 1) := by decide +kernel
theorem dX5_item_125 : decode cX5_item 125 = .ok (.goto 4, 3) := by decide +kernel
theorem dX5_item_128 : decode cX5_item 128 = .ok (.iconst 0, 1) := by decide +kernel
theorem dX5_item_129 : decode cX5_item 129 = .ok (.istore 5, 2) := by decide +kernel
theorem dX5_item_131 : decode cX5_item 131 = .ok (.aload_n 0, 1) := by decide +kernel
theorem dX5_item_132 : decode cX5_item 132 = .ok (.iload 5, 2) := by decide +kernel
theorem dX5_item_134 : decode cX5_item 134 = .ok (.ifCond .ne 11, 3) := by decide +kernel
theorem dX5_item_137 : decode cX5_item 137 = .ok (.lload_n 2, 1) := by decide +kernel
theorem dX5_item_138 : decode cX5_item 138 = .ok (.ldc2_w 255, 3) := by decide +kernel
theorem dX5_item_141 : decode cX5_item 141 = .ok (.lcmp, 1) := by decide +kernel
theorem dX5_item_142 : decode cX5_item 142 = .ok (.ifCond .ne 7, 3) := by decide +kernel
theorem dX5_item_145 : decode cX5_item 145 = .ok (.iconst 1, 1) := by decide +kernel
theorem dX5_item_146 : decode cX5_item 146 = .ok (.goto 4, 3) := by decide +kernel
theorem dX5_item_149 : decode cX5_item 149 = .ok (.iconst 0, 1) := by decide +kernel
theorem dX5_item_150 : decode cX5_item 150 = .ok (.invokevirtual 208, 3) := by decide +kernel
theorem dX5_item_153 : decode cX5_item 153 = .ok (.aload_n 0, 1) := by decide +kernel
theorem dX5_item_154 : decode cX5_item 154 = .ok (.getfield 7, 3) := by decide +kernel
theorem dX5_item_157 : decode cX5_item 157 = .ok (.iconst 4, 1) := by decide +kernel
theorem dX5_item_158 : decode cX5_item 158 = .ok (.aload_n 0, 1) := by decide +kernel
theorem dX5_item_159 : decode cX5_item 159 = .ok (.getfield 194, 3) := by decide +kernel
theorem dX5_item_162 : decode cX5_item 162 = .ok (.ifCond .eq 12, 3) := by decide +kernel
theorem dX5_item_165 : decode cX5_item 165 = .ok (.aload_n 0, 1) := by decide +kernel
theorem dX5_item_166 : decode cX5_item 166 = .ok (.getfield 7, 3) := by decide +kernel
theorem dX5_item_169 : decode cX5_item 169 = .ok (.iconst 4, 1) := by decide +kernel
theorem dX5_item_170 : decode cX5_item 170 = .ok (.iaload, 1) := by decide +kernel
theorem dX5_item_171 : decode cX5_item 171 = .ok (.goto 13, 3) := by decide +kernel
theorem dX5_item_174 : decode cX5_item 174 = .ok (.iload 5, 2) := by decide +kernel
theorem dX5_item_176 : decode cX5_item 176 = .ok (.ifCond .eq 7, 3) := by decide +kernel
theorem dX5_item_179 : decode cX5_item 179 = .ok (.iconst 1, 1) := by decide +kernel
theorem dX5_item_180 : decode cX5_item 180 = .ok (.goto 4, 3) := by decide +kernel
theorem dX5_item_183 : decode cX5_item 183 = .ok (.iconst 0, 1) := by decide +kernel
theorem dX5_item_184 : decode cX5_item 184 = .ok (.iastore, 1) := by decide +kernel
theorem dX5_item_185 : decode cX5_item 185 = .ok (.return_, 1) := by decide +kernel
set_option maxRecDepth 20000 in
theorem ggX5_text_X5_saves : GoodIn wsX5_text wsX5_saves := goodIn_r _ [9, 10, 11, 89, 90, 91, 92, 93, 94, 95, 96, 97, 98, 99, 100, 101, 102, 103, 104] (by decide +kernel) (by decide +kernel)
set_option maxRecDepth 20000 in
theorem gX5_text_X5_saves : GoodIn wsX5_text (wsV RX5 257 RX5 yX5_saves wsX5_saves) := goodIn_app (goodIn_of _ (by decide +kernel)) ggX5_text_X5_saves
set_option maxRecDepth 20000 in
theorem ggX5_text_X5_token : GoodIn wsX5_text wsX5_token := goodIn_r _ [15, 2, 3, 4, 16, 17, 18, 8, 19, 20, 21, 22, 23, 24, 25, 26, 27, 28, 29, 30, 31, 32, 33, 89, 90, 91, 92, 93, 94, 95, 96, 97, 98, 99, 100, 101, 102, 103, 104] (by decide +kernel) (by decide +kernel)
set_option maxRecDepth 20000 in
theorem gX5_text_X5_token : GoodIn wsX5_text (wsV RX5 198 RX5 yX5_token wsX5_token) := goodIn_app (goodIn_of _ (by decide +kernel)) ggX5_text_X5_token
set_option maxRecDepth 20000 in
theorem ggX5_text_X5_item : GoodIn wsX5_text wsX5_item := goodIn_r _ [37, 38, 39, 11, 1, 40, 41, 42, 43, 44, 45, 8, 46, 47, 48, 49, 50, 51, 52, 53, 54, 55, 56, 3, 2, 57, 58, 20, 16, 17, 18, 19, 4, 21, 22, 23, 24, 25, 26, 27, 28, 59, 60, 61, 62, 63, 64, 65, 66, 67, 68, 69, 12, 13, 14, 15, 29, 30, 31, 32, 33, 70, 71, 72, 73, 74, 75, 76, 77, 78, 79, 80, 81, 82, 83, 84, 89, 90, 91, 92, 93, 94, 95, 96, 97, 98, 99, 100, 101, 102, 103, 104] (by decide +kernel) (by decide +kernel)
set_option maxRecDepth 20000 in
theorem gX5_text_X5_item : GoodIn wsX5_text (wsV RX5 260 RX5 yX5_item wsX5_item) := goodIn_app (goodIn_of _ (by decide +kernel)) ggX5_text_X5_item
set_option maxRecDepth 20000 in
theorem ggX5_text_X5_byteAt : GoodIn wsX5_text wsX5_byteAt := goodIn_r _ [19, 4, 20, 89, 90, 91, 92, 93, 94, 95, 96, 97, 98, 99, 100, 101, 102, 103, 104] (by decide +kernel) (by decide +kernel)
set_option maxRecDepth 20000 in
theorem gX5_text_X5_byteAt : GoodIn wsX5_text (wsV RX5 185 RX5 yX5_byteAt wsX5_byteAt) := goodIn_app (goodIn_of _ (by decide +kernel)) ggX5_text_X5_byteAt
set_option maxRecDepth 20000 in
theorem ggX5_text_X5_must : GoodIn wsX5_text wsX5_must := goodIn_r _ [69, 1, 12, 13, 14, 8, 15, 2, 3, 4, 16, 17, 18, 19, 20, 21, 22, 23, 24, 25, 26, 27, 28, 29, 30, 31, 32, 33, 89, 90, 91, 92, 93, 94, 95, 96, 97, 98, 99, 100, 101, 102, 103, 104] (by decide +kernel) (by decide +kernel)
set_option maxRecDepth 20000 in
theorem gX5_text_X5_must : GoodIn wsX5_text (wsV RX5 208 RX5 yX5_must wsX5_must) := goodIn_app (goodIn_of _ (by decide +kernel)) ggX5_text_X5_must
set_option maxRecDepth 20000 in
theorem ggX5_text_X5_putsBack : GoodIn wsX5_text wsX5_putsBack := goodIn_r _ [88, 11, 10, 89, 90, 91, 92, 93, 94, 95, 96, 97, 98, 99, 100, 101, 102, 103, 104] (by decide +kernel) (by decide +kernel)
set_option maxRecDepth 20000 in
theorem gX5_text_X5_putsBack : GoodIn wsX5_text (wsV RX5 263 RX5 yX5_putsBack wsX5_putsBack) := goodIn_app (goodIn_of _ (by decide +kernel)) ggX5_text_X5_putsBack
theorem dX5_text_0 : decode cX5_text 0 = .ok (.aload_n 0, 1) := by decide +kernel
theorem dX5_text_1 : decode cX5_text 1 = .ok (.invokevirtual 257, 3) := by decide +kernel
theorem dX5_text_4 : decode cX5_text 4 = .ok (.aload_n 0, 1) := by decide +kernel
theorem dX5_text_5 : decode cX5_text 5 = .ok (.iconst 0, 1) := by decide +kernel
theorem dX5_text_6 : decode cX5_text 6 = .ok (.putfield 194, 3) := by decide +kernel
theorem dX5_text_9 : decode cX5_text 9 = .ok (.aload_n 0, 1) := by decide +kernel
theorem dX5_text_10 : decode cX5_text 10 = .ok (.iconst 0, 1) := by decide +kernel
theorem dX5_text_11 : decode cX5_text 11 = .ok (.putfield 179, 3) := by decide +kernel
theorem dX5_text_14 : decode cX5_text 14 = .ok (.aload_n 0, 1) := by decide +kernel
theorem dX5_text_15 : decode cX5_text 15 = .ok (.invokevirtual 198, 3) := by decide +kernel
theorem dX5_text_18 : decode cX5_text 18 = .ok (.iconst 1, 1) := by decide +kernel
theorem dX5_text_19 : decode cX5_text 19 = .ok (.istore_n 1, 1) := by decide +kernel
theorem dX5_text_20 : decode cX5_text 20 = .ok (.aload_n 0, 1) := by decide +kernel
theorem dX5_text_21 : decode cX5_text 21 = .ok (.invokevirtual 260, 3) := by decide +kernel
theorem dX5_text_24 : decode cX5_text 24 = .ok (.aload_n 0, 1) := by decide +kernel
theorem dX5_text_25 : decode cX5_text 25 = .ok (.getfield 194, 3) := by decide +kernel
theorem dX5_text_28 : decode cX5_text 28 = .ok (.ifCond .ne 31, 3) := by decide +kernel
theorem dX5_text_31 : decode cX5_text 31 = .ok (.aload_n 0, 1) := by decide +kernel
theorem dX5_text_32 : decode cX5_text 32 = .ok (.aload_n 0, 1) := by decide +kernel
theorem dX5_text_33 : decode cX5_text 33 = .ok (.getfield 182, 3) := by decide +kernel
theorem dX5_text_36 : decode cX5_text 36 = .ok (.invokevirtual 185, 3) := by decide +kernel
theorem dX5_text_39 : decode cX5_text 39 = .ok (.bipush 59, 2) := by decide +kernel
theorem dX5_text_41 : decode cX5_text 41 = .ok (.if_icmp .ne 18, 3) := by decide +kernel
theorem dX5_text_44 : decode cX5_text 44 = .ok (.aload_n 0, 1) := by decide +kernel
theorem dX5_text_45 : decode cX5_text 45 = .ok (.iconst 1, 1) := by decide +kernel
theorem dX5_text_46 : decode cX5_text 46 = .ok (.invokevirtual 208, 3) := by decide +kernel
theorem dX5_text_49 : decode cX5_text 49 = .ok (.aload_n 0, 1) := by decide +kernel
theorem dX5_text_50 : decode cX5_text 50 = .ok (.invokevirtual 260, 3) := by decide +kernel
theorem dX5_text_53 : decode cX5_text 53 = .ok (.iinc 1 1, 3) := by decide +kernel
theorem dX5_text_56 : decode cX5_text 56 = .ok (.goto (-32), 3) := by decide +kernel
theorem dX5_text_59 : decode cX5_text 59 = .ok (.aload_n 0, 1) := by decide +kernel
theorem dX5_text_60 : decode cX5_text 60 = .ok (.aload_n 0, 1) := by decide +kernel
theorem dX5_text_61 : decode cX5_text 61 = .ok (.getfield 194, 3) := by decide +kernel
theorem dX5_text_64 : decode cX5_text 64 = .ok (.ifCond .ne 14, 3) := by decide +kernel
theorem dX5_text_67 : decode cX5_text 67 = .ok (.aload_n 0, 1) := by decide +kernel
theorem dX5_text_68 : decode cX5_text 68 = .ok (.getfield 182, 3) := by decide +kernel
theorem dX5_text_71 : decode cX5_text 71 = .ok (.aload_n 0, 1) := by decide +kernel
theorem dX5_text_72 : decode cX5_text 72 = .ok (.getfield 167, 3) := by decide +kernel
theorem dX5_text_75 : decode cX5_text 75 = .ok (.if_icmp .ge 7, 3) := by decide +kernel
theorem dX5_text_78 : decode cX5_text 78 = .ok (.iconst 1, 1) := by decide +kernel
theorem dX5_text_79 : decode cX5_text 79 = .ok (.goto 4, 3) := by decide +kernel
theorem dX5_text_82 : decode cX5_text 82 = .ok (.iconst 0, 1) := by decide +kernel
theorem dX5_text_83 : decode cX5_text 83 = .ok (.putfield 194, 3) := by decide +kernel
theorem dX5_text_86 : decode cX5_text 86 = .ok (.aload_n 0, 1) := by decide +kernel
theorem dX5_text_87 : decode cX5_text 87 = .ok (.getfield 194, 3) := by decide +kernel
theorem dX5_text_90 : decode cX5_text 90 = .ok (.ifCond .eq 7, 3) := by decide +kernel
theorem dX5_text_93 : decode cX5_text 93 = .ok (.aload_n 0, 1) := by decide +kernel
theorem dX5_text_94 : decode cX5_text 94 = .ok (.invokevirtual 263, 3) := by decide +kernel
theorem dX5_text_97 : decode cX5_text 97 = .ok (.aload_n 0, 1) := by decide +kernel
theorem dX5_text_98 : decode cX5_text 98 = .ok (.iconst 0, 1) := by decide +kernel
theorem dX5_text_99 : decode cX5_text 99 = .ok (.putfield 167, 3) := by decide +kernel
theorem dX5_text_102 : decode cX5_text 102 = .ok (.aload_n 0, 1) := by decide +kernel
theorem dX5_text_103 : decode cX5_text 103 = .ok (.getfield 194, 3) := by decide +kernel
theorem dX5_text_106 : decode cX5_text 106 = .ok (.ifCond .eq 12, 3) := by decide +kernel
theorem dX5_text_109 : decode cX5_text 109 = .ok (.iconst (-1), 1) := by decide +kernel
theorem dX5_text_110 : decode cX5_text 110 = .ok (.aload_n 0, 1) := by decide +kernel
theorem dX5_text_111 : decode cX5_text 111 = .ok (.getfield 182, 3) := by decide +kernel
theorem dX5_text_114 : decode cX5_text 114 = .ok (.isub, 1) := by decide +kernel
theorem dX5_text_115 : decode cX5_text 115 = .ok (.goto 4, 3) := by decide +kernel
theorem dX5_text_118 : decode cX5_text 118 = .ok (.iload_n 1, 1) := by decide +kernel
theorem dX5_text_119 : decode cX5_text 119 = .ok (.ireturn, 1) := by decide +kernel
set_option maxRecDepth 20000 in
theorem ggX5_isOne_X5_in : GoodIn wsX5_isOne wsX5_in := goodIn_r _ [5] (by decide +kernel) (by decide +kernel)
set_option maxRecDepth 20000 in
theorem gX5_isOne_X5_in : GoodIn wsX5_isOne (va_wsS RX5 44 yX5_in wsX5_in) := goodIn_app (goodIn_of _ (by decide +kernel)) ggX5_isOne_X5_in
theorem dX5_isOne_0 : decode cX5_isOne 0 = .ok (.iload_n 0, 1) := by decide +kernel
theorem dX5_isOne_1 : decode cX5_isOne 1 = .ok (.i2l, 1) := by decide +kernel
theorem dX5_isOne_2 : decode cX5_isOne 2 = .ok (.lconst 0, 1) := by decide +kernel
theorem dX5_isOne_3 : decode cX5_isOne 3 = .ok (.ldc2_w 266, 3) := by decide +kernel
theorem dX5_isOne_6 : decode cX5_isOne 6 = .ok (.invokestatic 44, 3) := by decide +kernel
theorem dX5_isOne_9 : decode cX5_isOne 9 = .ok (.ireturn, 1) := by decide +kernel
set_option maxRecDepth 20000 in
theorem ggX5_sheet_X5_isOne : GoodIn wsX5_sheet wsX5_isOne := goodIn_r _ [9, 10, 11, 12, 8, 13] (by decide +kernel) (by decide +kernel)
set_option maxRecDepth 20000 in
theorem gX5_sheet_X5_isOne : GoodIn wsX5_sheet (va_wsS RX5 268 yX5_isOne wsX5_isOne) := goodIn_app (goodIn_of _ (by decide +kernel)) ggX5_sheet_X5_isOne
set_option maxRecDepth 20000 in
theorem ggX5_sheet_X5_finds : GoodIn wsX5_sheet wsX5_finds := goodIn_r _ [17, 18, 1, 19, 20, 21, 22, 23, 24, 25, 26, 27, 28, 29, 30, 31, 32, 33, 34] (by decide +kernel) (by decide +kernel)
set_option maxRecDepth 20000 in
theorem gX5_sheet_X5_finds : GoodIn wsX5_sheet (wsV RX5 67 RX5 yX5_finds wsX5_finds) := goodIn_app (goodIn_of _ (by decide +kernel)) ggX5_sheet_X5_finds
theorem dX5_sheet_0 : decode cX5_sheet 0 = .ok (.iload_n 1, 1) := by decide +kernel
theorem dX5_sheet_1 : decode cX5_sheet 1 = .ok (.invokestatic 268, 3) := by decide +kernel
theorem dX5_sheet_4 : decode cX5_sheet 4 = .ok (.ifCond .eq 25, 3) := by decide +kernel
theorem dX5_sheet_7 : decode cX5_sheet 7 = .ok (.iload_n 2, 1) := by decide +kernel
theorem dX5_sheet_8 : decode cX5_sheet 8 = .ok (.ifCond .eq 28, 3) := by decide +kernel
theorem dX5_sheet_11 : decode cX5_sheet 11 = .ok (.iload_n 2, 1) := by decide +kernel
theorem dX5_sheet_12 : decode cX5_sheet 12 = .ok (.bipush 8, 2) := by decide +kernel
theorem dX5_sheet_14 : decode cX5_sheet 14 = .ok (.if_icmp .eq 22, 3) := by decide +kernel
theorem dX5_sheet_17 : decode cX5_sheet 17 = .ok (.iload_n 2, 1) := by decide +kernel
theorem dX5_sheet_18 : decode cX5_sheet 18 = .ok (.bipush 16, 2) := by decide +kernel
theorem dX5_sheet_20 : decode cX5_sheet 20 = .ok (.if_icmp .eq 16, 3) := by decide +kernel
theorem dX5_sheet_23 : decode cX5_sheet 23 = .ok (.iload_n 2, 1) := by decide +kernel
theorem dX5_sheet_24 : decode cX5_sheet 24 = .ok (.bipush 64, 2) := by decide +kernel
theorem dX5_sheet_26 : decode cX5_sheet 26 = .ok (.if_icmp .eq 10, 3) := by decide +kernel
theorem dX5_sheet_29 : decode cX5_sheet 29 = .ok (.aload_n 0, 1) := by decide +kernel
theorem dX5_sheet_30 : decode cX5_sheet 30 = .ok (.ldc 41, 2) := by decide +kernel
theorem dX5_sheet_32 : decode cX5_sheet 32 = .ok (.invokevirtual 67, 3) := by decide +kernel
theorem dX5_sheet_35 : decode cX5_sheet 35 = .ok (.ireturn, 1) := by decide +kernel
theorem dX5_sheet_36 : decode cX5_sheet 36 = .ok (.iload_n 3, 1) := by decide +kernel
theorem dX5_sheet_37 : decode cX5_sheet 37 = .ok (.ifCond .ge 11, 3) := by decide +kernel
theorem dX5_sheet_40 : decode cX5_sheet 40 = .ok (.aload_n 0, 1) := by decide +kernel
theorem dX5_sheet_41 : decode cX5_sheet 41 = .ok (.ldc_w 271, 3) := by decide +kernel
theorem dX5_sheet_44 : decode cX5_sheet 44 = .ok (.invokevirtual 67, 3) := by decide +kernel
theorem dX5_sheet_47 : decode cX5_sheet 47 = .ok (.ireturn, 1) := by decide +kernel
theorem dX5_sheet_48 : decode cX5_sheet 48 = .ok (.iload_n 3, 1) := by decide +kernel
theorem dX5_sheet_49 : decode cX5_sheet 49 = .ok (.bipush 40, 2) := by decide +kernel
theorem dX5_sheet_51 : decode cX5_sheet 51 = .ok (.if_icmp .le 10, 3) := by decide +kernel
theorem dX5_sheet_54 : decode cX5_sheet 54 = .ok (.aload_n 0, 1) := by decide +kernel
theorem dX5_sheet_55 : decode cX5_sheet 55 = .ok (.ldc 41, 2) := by decide +kernel
theorem dX5_sheet_57 : decode cX5_sheet 57 = .ok (.invokevirtual 67, 3) := by decide +kernel
theorem dX5_sheet_60 : decode cX5_sheet 60 = .ok (.ireturn, 1) := by decide +kernel
theorem dX5_sheet_61 : decode cX5_sheet 61 = .ok (.aload_n 0, 1) := by decide +kernel
theorem dX5_sheet_62 : decode cX5_sheet 62 = .ok (.getfield 28, 3) := by decide +kernel
theorem dX5_sheet_65 : decode cX5_sheet 65 = .ok (.iload_n 1, 1) := by decide +kernel
theorem dX5_sheet_66 : decode cX5_sheet 66 = .ok (.iload_n 2, 1) := by decide +kernel
theorem dX5_sheet_67 : decode cX5_sheet 67 = .ok (.iastore, 1) := by decide +kernel
theorem dX5_sheet_68 : decode cX5_sheet 68 = .ok (.aload_n 0, 1) := by decide +kernel
theorem dX5_sheet_69 : decode cX5_sheet 69 = .ok (.getfield 31, 3) := by decide +kernel
theorem dX5_sheet_72 : decode cX5_sheet 72 = .ok (.iload_n 1, 1) := by decide +kernel
theorem dX5_sheet_73 : decode cX5_sheet 73 = .ok (.iload_n 2, 1) := by decide +kernel
theorem dX5_sheet_74 : decode cX5_sheet 74 = .ok (.ifCond .ne 7, 3) := by decide +kernel
theorem dX5_sheet_77 : decode cX5_sheet 77 = .ok (.iconst 0, 1) := by decide +kernel
theorem dX5_sheet_78 : decode cX5_sheet 78 = .ok (.goto 4, 3) := by decide +kernel
theorem dX5_sheet_81 : decode cX5_sheet 81 = .ok (.iload_n 3, 1) := by decide +kernel
theorem dX5_sheet_82 : decode cX5_sheet 82 = .ok (.iastore, 1) := by decide +kernel
theorem dX5_sheet_83 : decode cX5_sheet 83 = .ok (.iconst 0, 1) := by decide +kernel
theorem dX5_sheet_84 : decode cX5_sheet 84 = .ok (.istore 4, 2) := by decide +kernel
theorem dX5_sheet_86 : decode cX5_sheet 86 = .ok (.iload 4, 2) := by decide +kernel
theorem dX5_sheet_88 : decode cX5_sheet 88 = .ok (.bipush 40, 2) := by decide +kernel
theorem dX5_sheet_90 : decode cX5_sheet 90 = .ok (.if_icmp .ge 22, 3) := by decide +kernel
theorem dX5_sheet_93 : decode cX5_sheet 93 = .ok (.aload_n 0, 1) := by decide +kernel
theorem dX5_sheet_94 : decode cX5_sheet 94 = .ok (.getfield 34, 3) := by decide +kernel
theorem dX5_sheet_97 : decode cX5_sheet 97 = .ok (.bipush 40, 2) := by decide +kernel
theorem dX5_sheet_99 : decode cX5_sheet 99 = .ok (.iload_n 1, 1) := by decide +kernel
theorem dX5_sheet_100 : decode cX5_sheet 100 = .ok (.imul, 1) := by decide +kernel
theorem dX5_sheet_101 : decode cX5_sheet 101 = .ok (.iload 4, 2) := by decide +kernel
theorem dX5_sheet_103 : decode cX5_sheet 103 = .ok (.iadd, 1) := by decide +kernel
theorem dX5_sheet_104 : decode cX5_sheet 104 = .ok (.lconst 0, 1) := by decide +kernel
theorem dX5_sheet_105 : decode cX5_sheet 105 = .ok (.lastore, 1) := by decide +kernel
theorem dX5_sheet_106 : decode cX5_sheet 106 = .ok (.iinc 4 1, 3) := by decide +kernel
theorem dX5_sheet_109 : decode cX5_sheet 109 = .ok (.goto (-23), 3) := by decide +kernel
theorem dX5_sheet_112 : decode cX5_sheet 112 = .ok (.aload_n 0, 1) := by decide +kernel
theorem dX5_sheet_113 : decode cX5_sheet 113 = .ok (.getfield 31, 3) := by decide +kernel
theorem dX5_sheet_116 : decode cX5_sheet 116 = .ok (.iload_n 1, 1) := by decide +kernel
theorem dX5_sheet_117 : decode cX5_sheet 117 = .ok (.iaload, 1) := by decide +kernel
theorem dX5_sheet_118 : decode cX5_sheet 118 = .ok (.ireturn, 1) := by decide +kernel
theorem dX5_narrowed_0 : decode cX5_narrowed 0 = .ok (.iload_n 0, 1) := by decide +kernel
theorem dX5_narrowed_1 : decode cX5_narrowed 1 = .ok (.bipush 8, 2) := by decide +kernel
theorem dX5_narrowed_3 : decode cX5_narrowed 3 = .ok (.if_icmp .ne 10, 3) := by decide +kernel
theorem dX5_narrowed_6 : decode cX5_narrowed 6 = .ok (.lload_n 1, 1) := by decide +kernel
theorem dX5_narrowed_7 : decode cX5_narrowed 7 = .ok (.l2i, 1) := by decide +kernel
theorem dX5_narrowed_8 : decode cX5_narrowed 8 = .ok (.i2b, 1) := by decide +kernel
theorem dX5_narrowed_9 : decode cX5_narrowed 9 = .ok (.i2l, 1) := by decide +kernel
theorem dX5_narrowed_10 : decode cX5_narrowed 10 = .ok (.goto 17, 3) := by decide +kernel
theorem dX5_narrowed_13 : decode cX5_narrowed 13 = .ok (.iload_n 0, 1) := by decide +kernel
theorem dX5_narrowed_14 : decode cX5_narrowed 14 = .ok (.bipush 16, 2) := by decide +kernel
theorem dX5_narrowed_16 : decode cX5_narrowed 16 = .ok (.if_icmp .ne 10, 3) := by decide +kernel
theorem dX5_narrowed_19 : decode cX5_narrowed 19 = .ok (.lload_n 1, 1) := by decide +kernel
theorem dX5_narrowed_20 : decode cX5_narrowed 20 = .ok (.l2i, 1) := by decide +kernel
theorem dX5_narrowed_21 : decode cX5_narrowed 21 = .ok (.i2s, 1) := by decide +kernel
theorem dX5_narrowed_22 : decode cX5_narrowed 22 = .ok (.i2l, 1) := by decide +kernel
theorem dX5_narrowed_23 : decode cX5_narrowed 23 = .ok (.goto 4, 3) := by decide +kernel
theorem dX5_narrowed_26 : decode cX5_narrowed 26 = .ok (.lload_n 1, 1) := by decide +kernel
theorem dX5_narrowed_27 : decode cX5_narrowed 27 = .ok (.lreturn, 1) := by decide +kernel
set_option maxRecDepth 20000 in
theorem ggX5_wrongSheet_X5_isOne : GoodIn wsX5_wrongSheet wsX5_isOne := goodIn_r _ [7, 8, 9, 10, 6, 11] (by decide +kernel) (by decide +kernel)
set_option maxRecDepth 20000 in
theorem gX5_wrongSheet_X5_isOne : GoodIn wsX5_wrongSheet (va_wsS RX5 268 yX5_isOne wsX5_isOne) := goodIn_app (goodIn_of _ (by decide +kernel)) ggX5_wrongSheet_X5_isOne
theorem dX5_wrongSheet_0 : decode cX5_wrongSheet 0 = .ok (.iload_n 1, 1) := by decide +kernel
theorem dX5_wrongSheet_1 : decode cX5_wrongSheet 1 = .ok (.invokestatic 268, 3) := by decide +kernel
theorem dX5_wrongSheet_4 : decode cX5_wrongSheet 4 = .ok (.ifCond .ne 8, 3) := by decide +kernel
theorem dX5_wrongSheet_7 : decode cX5_wrongSheet 7 = .ok (.ldc 41, 2) := by decide +kernel
theorem dX5_wrongSheet_9 : decode cX5_wrongSheet 9 = .ok (.goto 19, 3) := by decide +kernel
theorem dX5_wrongSheet_12 : decode cX5_wrongSheet 12 = .ok (.aload_n 0, 1) := by decide +kernel
theorem dX5_wrongSheet_13 : decode cX5_wrongSheet 13 = .ok (.getfield 28, 3) := by decide +kernel
theorem dX5_wrongSheet_16 : decode cX5_wrongSheet 16 = .ok (.iload_n 1, 1) := by decide +kernel
theorem dX5_wrongSheet_17 : decode cX5_wrongSheet 17 = .ok (.iaload, 1) := by decide +kernel
theorem dX5_wrongSheet_18 : decode cX5_wrongSheet 18 = .ok (.ifCond .ne 9, 3) := by decide +kernel
theorem dX5_wrongSheet_21 : decode cX5_wrongSheet 21 = .ok (.ldc_w 272, 3) := by decide +kernel
theorem dX5_wrongSheet_24 : decode cX5_wrongSheet 24 = .ok (.goto 4, 3) := by decide +kernel
theorem dX5_wrongSheet_27 : decode cX5_wrongSheet 27 = .ok (.iconst 0, 1) := by decide +kernel
theorem dX5_wrongSheet_28 : decode cX5_wrongSheet 28 = .ok (.ireturn, 1) := by decide +kernel
set_option maxRecDepth 20000 in
theorem ggX5_write_X5_wrongSheet : GoodIn wsX5_write wsX5_wrongSheet := goodIn_r _ [9, 2, 4, 10, 11, 12, 8, 13, 14, 15, 16, 17, 26, 27, 28, 29, 30, 31, 32, 33, 34, 35, 36, 37, 38, 39, 40, 41] (by decide +kernel) (by decide +kernel)
set_option maxRecDepth 20000 in
theorem gX5_write_X5_wrongSheet : GoodIn wsX5_write (wsV RX5 273 RX5 yX5_wrongSheet wsX5_wrongSheet) := goodIn_app (goodIn_of _ (by decide +kernel)) ggX5_write_X5_wrongSheet
set_option maxRecDepth 20000 in
theorem ggX5_write_X5_finds : GoodIn wsX5_write wsX5_finds := goodIn_r _ [21, 22, 2, 26, 27, 28, 29, 30, 31, 32, 33, 34, 35, 36, 37, 38, 39, 40, 41] (by decide +kernel) (by decide +kernel)
set_option maxRecDepth 20000 in
theorem gX5_write_X5_finds : GoodIn wsX5_write (wsV RX5 67 RX5 yX5_finds wsX5_finds) := goodIn_app (goodIn_of _ (by decide +kernel)) ggX5_write_X5_finds
set_option maxRecDepth 20000 in
theorem ggX5_write_X5_in : GoodIn wsX5_write wsX5_in := goodIn_r _ [17] (by decide +kernel) (by decide +kernel)
set_option maxRecDepth 20000 in
theorem gX5_write_X5_in : GoodIn wsX5_write (va_wsS RX5 44 yX5_in wsX5_in) := goodIn_app (goodIn_of _ (by decide +kernel)) ggX5_write_X5_in
set_option maxRecDepth 20000 in
theorem ggX5_write_X5_narrowed : GoodIn wsX5_write wsX5_narrowed := goodIn_r _ [25] (by decide +kernel) (by decide +kernel)
set_option maxRecDepth 20000 in
theorem gX5_write_X5_narrowed : GoodIn wsX5_write (va_wsS RX5 276 yX5_narrowed wsX5_narrowed) := goodIn_app (goodIn_of _ (by decide +kernel)) ggX5_write_X5_narrowed
theorem dX5_write_0 : decode cX5_write 0 = .ok (.aload_n 0, 1) := by decide +kernel
theorem dX5_write_1 : decode cX5_write 1 = .ok (.iload_n 1, 1) := by decide +kernel
theorem dX5_write_2 : decode cX5_write 2 = .ok (.invokevirtual 273, 3) := by decide +kernel
theorem dX5_write_5 : decode cX5_write 5 = .ok (.istore 5, 2) := by decide +kernel
theorem dX5_write_7 : decode cX5_write 7 = .ok (.iload 5, 2) := by decide +kernel
theorem dX5_write_9 : decode cX5_write 9 = .ok (.ifCond .eq 11, 3) := by decide +kernel
theorem dX5_write_12 : decode cX5_write 12 = .ok (.aload_n 0, 1) := by decide +kernel
theorem dX5_write_13 : decode cX5_write 13 = .ok (.iload 5, 2) := by decide +kernel
theorem dX5_write_15 : decode cX5_write 15 = .ok (.invokevirtual 67, 3) := by decide +kernel
theorem dX5_write_18 : decode cX5_write 18 = .ok (.i2l, 1) := by decide +kernel
theorem dX5_write_19 : decode cX5_write 19 = .ok (.lreturn, 1) := by decide +kernel
theorem dX5_write_20 : decode cX5_write 20 = .ok (.iload_n 2, 1) := by decide +kernel
theorem dX5_write_21 : decode cX5_write 21 = .ok (.i2l, 1) := by decide +kernel
theorem dX5_write_22 : decode cX5_write 22 = .ok (.lconst 0, 1) := by decide +kernel
theorem dX5_write_23 : decode cX5_write 23 = .ok (.aload_n 0, 1) := by decide +kernel
theorem dX5_write_24 : decode cX5_write 24 = .ok (.getfield 31, 3) := by decide +kernel
theorem dX5_write_27 : decode cX5_write 27 = .ok (.iload_n 1, 1) := by decide +kernel
theorem dX5_write_28 : decode cX5_write 28 = .ok (.iaload, 1) := by decide +kernel
theorem dX5_write_29 : decode cX5_write 29 = .ok (.iconst 1, 1) := by decide +kernel
theorem dX5_write_30 : decode cX5_write 30 = .ok (.isub, 1) := by decide +kernel
theorem dX5_write_31 : decode cX5_write 31 = .ok (.i2l, 1) := by decide +kernel
theorem dX5_write_32 : decode cX5_write 32 = .ok (.invokestatic 44, 3) := by decide +kernel
theorem dX5_write_35 : decode cX5_write 35 = .ok (.ifCond .ne 11, 3) := by decide +kernel
theorem dX5_write_38 : decode cX5_write 38 = .ok (.aload_n 0, 1) := by decide +kernel
theorem dX5_write_39 : decode cX5_write 39 = .ok (.ldc 41, 2) := by decide +kernel
theorem dX5_write_41 : decode cX5_write 41 = .ok (.invokevirtual 67, 3) := by decide +kernel
theorem dX5_write_44 : decode cX5_write 44 = .ok (.i2l, 1) := by decide +kernel
theorem dX5_write_45 : decode cX5_write 45 = .ok (.lreturn, 1) := by decide +kernel
theorem dX5_write_46 : decode cX5_write 46 = .ok (.aload_n 0, 1) := by decide +kernel
theorem dX5_write_47 : decode cX5_write 47 = .ok (.getfield 34, 3) := by decide +kernel
theorem dX5_write_50 : decode cX5_write 50 = .ok (.bipush 40, 2) := by decide +kernel
theorem dX5_write_52 : decode cX5_write 52 = .ok (.iload_n 1, 1) := by decide +kernel
theorem dX5_write_53 : decode cX5_write 53 = .ok (.imul, 1) := by decide +kernel
theorem dX5_write_54 : decode cX5_write 54 = .ok (.iload_n 2, 1) := by decide +kernel
theorem dX5_write_55 : decode cX5_write 55 = .ok (.iadd, 1) := by decide +kernel
theorem dX5_write_56 : decode cX5_write 56 = .ok (.laload, 1) := by decide +kernel
theorem dX5_write_57 : decode cX5_write 57 = .ok (.lstore 6, 2) := by decide +kernel
theorem dX5_write_59 : decode cX5_write 59 = .ok (.aload_n 0, 1) := by decide +kernel
theorem dX5_write_60 : decode cX5_write 60 = .ok (.getfield 34, 3) := by decide +kernel
theorem dX5_write_63 : decode cX5_write 63 = .ok (.bipush 40, 2) := by decide +kernel
theorem dX5_write_65 : decode cX5_write 65 = .ok (.iload_n 1, 1) := by decide +kernel
theorem dX5_write_66 : decode cX5_write 66 = .ok (.imul, 1) := by decide +kernel
theorem dX5_write_67 : decode cX5_write 67 = .ok (.iload_n 2, 1) := by decide +kernel
theorem dX5_write_68 : decode cX5_write 68 = .ok (.iadd, 1) := by decide +kernel
theorem dX5_write_69 : decode cX5_write 69 = .ok (.aload_n 0, 1) := by decide +kernel
theorem dX5_write_70 : decode cX5_write 70 = .ok (.getfield 28, 3) := by decide +kernel
theorem dX5_write_73 : decode cX5_write 73 = .ok (.iload_n 1, 1) := by decide +kernel
theorem dX5_write_74 : decode cX5_write 74 = .ok (.iaload, 1) := by decide +kernel
theorem dX5_write_75 : decode cX5_write 75 = .ok (.lload_n 3, 1) := by decide +kernel
theorem dX5_write_76 : decode cX5_write 76 = .ok (.invokestatic 276, 3) := by decide +kernel
theorem dX5_write_79 : decode cX5_write 79 = .ok (.lastore, 1) := by decide +kernel
theorem dX5_write_80 : decode cX5_write 80 = .ok (.lload 6, 2) := by decide +kernel
theorem dX5_write_82 : decode cX5_write 82 = .ok (.lreturn, 1) := by decide +kernel
set_option maxRecDepth 20000 in
theorem ggX5_copy_X5_isOne : GoodIn wsX5_copy wsX5_isOne := goodIn_r _ [11, 12, 13, 14, 10, 15] (by decide +kernel) (by decide +kernel)
set_option maxRecDepth 20000 in
theorem gX5_copy_X5_isOne : GoodIn wsX5_copy (va_wsS RX5 268 yX5_isOne wsX5_isOne) := goodIn_app (goodIn_of _ (by decide +kernel)) ggX5_copy_X5_isOne
set_option maxRecDepth 20000 in
theorem ggX5_copy_X5_finds : GoodIn wsX5_copy wsX5_finds := goodIn_r _ [19, 20, 1, 21, 22, 23, 24, 25, 26, 27, 28, 29, 30, 31, 32, 33, 34, 35, 36] (by decide +kernel) (by decide +kernel)
set_option maxRecDepth 20000 in
theorem gX5_copy_X5_finds : GoodIn wsX5_copy (wsV RX5 67 RX5 yX5_finds wsX5_finds) := goodIn_app (goodIn_of _ (by decide +kernel)) ggX5_copy_X5_finds
theorem dX5_copy_0 : decode cX5_copy 0 = .ok (.iload_n 1, 1) := by decide +kernel
theorem dX5_copy_1 : decode cX5_copy 1 = .ok (.invokestatic 268, 3) := by decide +kernel
theorem dX5_copy_4 : decode cX5_copy 4 = .ok (.ifCond .eq 10, 3) := by decide +kernel
theorem dX5_copy_7 : decode cX5_copy 7 = .ok (.iload_n 3, 1) := by decide +kernel
theorem dX5_copy_8 : decode cX5_copy 8 = .ok (.invokestatic 268, 3) := by decide +kernel
theorem dX5_copy_11 : decode cX5_copy 11 = .ok (.ifCond .ne 10, 3) := by decide +kernel
theorem dX5_copy_14 : decode cX5_copy 14 = .ok (.aload_n 0, 1) := by decide +kernel
theorem dX5_copy_15 : decode cX5_copy 15 = .ok (.ldc 41, 2) := by decide +kernel
theorem dX5_copy_17 : decode cX5_copy 17 = .ok (.invokevirtual 67, 3) := by decide +kernel
theorem dX5_copy_20 : decode cX5_copy 20 = .ok (.ireturn, 1) := by decide +kernel
theorem dX5_copy_21 : decode cX5_copy 21 = .ok (.aload_n 0, 1) := by decide +kernel
theorem dX5_copy_22 : decode cX5_copy 22 = .ok (.getfield 28, 3) := by decide +kernel
theorem dX5_copy_25 : decode cX5_copy 25 = .ok (.iload_n 1, 1) := by decide +kernel
theorem dX5_copy_26 : decode cX5_copy 26 = .ok (.iaload, 1) := by decide +kernel
theorem dX5_copy_27 : decode cX5_copy 27 = .ok (.ifCond .eq 12, 3) := by decide +kernel
theorem dX5_copy_30 : decode cX5_copy 30 = .ok (.aload_n 0, 1) := by decide +kernel
theorem dX5_copy_31 : decode cX5_copy 31 = .ok (.getfield 28, 3) := by decide +kernel
theorem dX5_copy_34 : decode cX5_copy 34 = .ok (.iload_n 3, 1) := by decide +kernel
theorem dX5_copy_35 : decode cX5_copy 35 = .ok (.iaload, 1) := by decide +kernel
theorem dX5_copy_36 : decode cX5_copy 36 = .ok (.ifCond .ne 11, 3) := by decide +kernel
theorem dX5_copy_39 : decode cX5_copy 39 = .ok (.aload_n 0, 1) := by decide +kernel
theorem dX5_copy_40 : decode cX5_copy 40 = .ok (.ldc_w 272, 3) := by decide +kernel
theorem dX5_copy_43 : decode cX5_copy 43 = .ok (.invokevirtual 67, 3) := by decide +kernel
theorem dX5_copy_46 : decode cX5_copy 46 = .ok (.ireturn, 1) := by decide +kernel
theorem dX5_copy_47 : decode cX5_copy 47 = .ok (.aload_n 0, 1) := by decide +kernel
theorem dX5_copy_48 : decode cX5_copy 48 = .ok (.getfield 28, 3) := by decide +kernel
theorem dX5_copy_51 : decode cX5_copy 51 = .ok (.iload_n 1, 1) := by decide +kernel
theorem dX5_copy_52 : decode cX5_copy 52 = .ok (.iaload, 1) := by decide +kernel
theorem dX5_copy_53 : decode cX5_copy 53 = .ok (.aload_n 0, 1) := by decide +kernel
theorem dX5_copy_54 : decode cX5_copy 54 = .ok (.getfield 28, 3) := by decide +kernel
theorem dX5_copy_57 : decode cX5_copy 57 = .ok (.iload_n 3, 1) := by decide +kernel
theorem dX5_copy_58 : decode cX5_copy 58 = .ok (.iaload, 1) := by decide +kernel
theorem dX5_copy_59 : decode cX5_copy 59 = .ok (.if_icmp .eq 10, 3) := by decide +kernel
theorem dX5_copy_62 : decode cX5_copy 62 = .ok (.aload_n 0, 1) := by decide +kernel
theorem dX5_copy_63 : decode cX5_copy 63 = .ok (.ldc 105, 2) := by decide +kernel
theorem dX5_copy_65 : decode cX5_copy 65 = .ok (.invokevirtual 67, 3) := by decide +kernel
theorem dX5_copy_68 : decode cX5_copy 68 = .ok (.ireturn, 1) := by decide +kernel
theorem dX5_copy_69 : decode cX5_copy 69 = .ok (.iload_n 2, 1) := by decide +kernel
theorem dX5_copy_70 : decode cX5_copy 70 = .ok (.ifCond .lt 40, 3) := by decide +kernel
theorem dX5_copy_73 : decode cX5_copy 73 = .ok (.iload 4, 2) := by decide +kernel
theorem dX5_copy_75 : decode cX5_copy 75 = .ok (.ifCond .lt 35, 3) := by decide +kernel
theorem dX5_copy_78 : decode cX5_copy 78 = .ok (.iload 5, 2) := by decide +kernel
theorem dX5_copy_80 : decode cX5_copy 80 = .ok (.ifCond .lt 30, 3) := by decide +kernel
theorem dX5_copy_83 : decode cX5_copy 83 = .ok (.iload 5, 2) := by decide +kernel
theorem dX5_copy_85 : decode cX5_copy 85 = .ok (.aload_n 0, 1) := by decide +kernel
theorem dX5_copy_86 : decode cX5_copy 86 = .ok (.getfield 31, 3) := by decide +kernel
theorem dX5_copy_89 : decode cX5_copy 89 = .ok (.iload_n 1, 1) := by decide +kernel
theorem dX5_copy_90 : decode cX5_copy 90 = .ok (.iaload, 1) := by decide +kernel
theorem dX5_copy_91 : decode cX5_copy 91 = .ok (.iload_n 2, 1) := by decide +kernel
theorem dX5_copy_92 : decode cX5_copy 92 = .ok (.isub, 1) := by decide +kernel
theorem dX5_copy_93 : decode cX5_copy 93 = .ok (.if_icmp .gt 17, 3) := by decide +kernel
theorem dX5_copy_96 : decode cX5_copy 96 = .ok (.iload 5, 2) := by decide +kernel
theorem dX5_copy_98 : decode cX5_copy 98 = .ok (.aload_n 0, 1) := by decide +kernel
theorem dX5_copy_99 : decode cX5_copy 99 = .ok (.getfield 31, 3) := by decide +kernel
theorem dX5_copy_102 : decode cX5_copy 102 = .ok (.iload_n 3, 1) := by decide +kernel
theorem dX5_copy_103 : decode cX5_copy 103 = .ok (.iaload, 1) := by decide +kernel
theorem dX5_copy_104 : decode cX5_copy 104 = .ok (.iload 4, 2) := by decide +kernel
theorem dX5_copy_106 : decode cX5_copy 106 = .ok (.isub, 1) := by decide +kernel
theorem dX5_copy_107 : decode cX5_copy 107 = .ok (.if_icmp .le 10, 3) := by decide +kernel
theorem dX5_copy_110 : decode cX5_copy 110 = .ok (.aload_n 0, 1) := by decide +kernel
theorem dX5_copy_111 : decode cX5_copy 111 = .ok (.ldc 41, 2) := by decide +kernel
theorem dX5_copy_113 : decode cX5_copy 113 = .ok (.invokevirtual 67, 3) := by decide +kernel
theorem dX5_copy_116 : decode cX5_copy 116 = .ok (.ireturn, 1) := by decide +kernel
theorem dX5_copy_117 : decode cX5_copy 117 = .ok (.iconst 0, 1) := by decide +kernel
theorem dX5_copy_118 : decode cX5_copy 118 = .ok (.istore 6, 2) := by decide +kernel
theorem dX5_copy_120 : decode cX5_copy 120 = .ok (.iload 6, 2) := by decide +kernel
theorem dX5_copy_122 : decode cX5_copy 122 = .ok (.iload 5, 2) := by decide +kernel
theorem dX5_copy_124 : decode cX5_copy 124 = .ok (.if_icmp .ge 30, 3) := by decide +kernel
theorem dX5_copy_127 : decode cX5_copy 127 = .ok (.aload_n 0, 1) := by decide +kernel
theorem dX5_copy_128 : decode cX5_copy 128 = .ok (.getfield 38, 3) := by decide +kernel
theorem dX5_copy_131 : decode cX5_copy 131 = .ok (.iload 6, 2) := by decide +kernel
theorem dX5_copy_133 : decode cX5_copy 133 = .ok (.aload_n 0, 1) := by decide +kernel
theorem dX5_copy_134 : decode cX5_copy 134 = .ok (.getfield 34, 3) := by decide +kernel
theorem dX5_copy_137 : decode cX5_copy 137 = .ok (.bipush 40, 2) := by decide +kernel
theorem dX5_copy_139 : decode cX5_copy 139 = .ok (.iload_n 1, 1) := by decide +kernel
theorem dX5_copy_140 : decode cX5_copy 140 = .ok (.imul, 1) := by decide +kernel
theorem dX5_copy_141 : decode cX5_copy 141 = .ok (.iload_n 2, 1) := by decide +kernel
theorem dX5_copy_142 : decode cX5_copy 142 = .ok (.iadd, 1) := by decide +kernel
theorem dX5_copy_143 : decode cX5_copy 143 = .ok (.iload 6, 2) := by decide +kernel
theorem dX5_copy_145 : decode cX5_copy 145 = .ok (.iadd, 1) := by decide +kernel
theorem dX5_copy_146 : decode cX5_copy 146 = .ok (.laload, 1) := by decide +kernel
theorem dX5_copy_147 : decode cX5_copy 147 = .ok (.lastore, 1) := by decide +kernel
theorem dX5_copy_148 : decode cX5_copy 148 = .ok (.iinc 6 1, 3) := by decide +kernel
theorem dX5_copy_151 : decode cX5_copy 151 = .ok (.goto (-31), 3) := by decide +kernel
theorem dX5_copy_154 : decode cX5_copy 154 = .ok (.iconst 0, 1) := by decide +kernel
theorem dX5_copy_155 : decode cX5_copy 155 = .ok (.istore 6, 2) := by decide +kernel
theorem dX5_copy_157 : decode cX5_copy 157 = .ok (.iload 6, 2) := by decide +kernel
theorem dX5_copy_159 : decode cX5_copy 159 = .ok (.iload 5, 2) := by decide +kernel
theorem dX5_copy_161 : decode cX5_copy 161 = .ok (.if_icmp .ge 31, 3) := by decide +kernel
theorem dX5_copy_164 : decode cX5_copy 164 = .ok (.aload_n 0, 1) := by decide +kernel
theorem dX5_copy_165 : decode cX5_copy 165 = .ok (.getfield 34, 3) := by decide +kernel
theorem dX5_copy_168 : decode cX5_copy 168 = .ok (.bipush 40, 2) := by decide +kernel
theorem dX5_copy_170 : decode cX5_copy 170 = .ok (.iload_n 3, 1) := by decide +kernel
theorem dX5_copy_171 : decode cX5_copy 171 = .ok (.imul, 1) := by decide +kernel
theorem dX5_copy_172 : decode cX5_copy 172 = .ok (.iload 4, 2) := by decide +kernel
theorem dX5_copy_174 : decode cX5_copy 174 = .ok (.iadd, 1) := by decide +kernel
theorem dX5_copy_175 : decode cX5_copy 175 = .ok (.iload 6, 2) := by decide +kernel
theorem dX5_copy_177 : decode cX5_copy 177 = .ok (.iadd, 1) := by decide +kernel
theorem dX5_copy_178 : decode cX5_copy 178 = .ok (.aload_n 0, 1) := by decide +kernel
theorem dX5_copy_179 : decode cX5_copy 179 = .ok (.getfield 38, 3) := by decide +kernel
theorem dX5_copy_182 : decode cX5_copy 182 = .ok (.iload 6, 2) := by decide +kernel
theorem dX5_copy_184 : decode cX5_copy 184 = .ok (.laload, 1) := by decide +kernel
theorem dX5_copy_185 : decode cX5_copy 185 = .ok (.lastore, 1) := by decide +kernel
theorem dX5_copy_186 : decode cX5_copy 186 = .ok (.iinc 6 1, 3) := by decide +kernel
theorem dX5_copy_189 : decode cX5_copy 189 = .ok (.goto (-32), 3) := by decide +kernel
theorem dX5_copy_192 : decode cX5_copy 192 = .ok (.iload 5, 2) := by decide +kernel
theorem dX5_copy_194 : decode cX5_copy 194 = .ok (.ireturn, 1) := by decide +kernel
set_option maxRecDepth 20000 in
theorem ggX5_lays_X5_wrongSheet : GoodIn wsX5_lays wsX5_wrongSheet := goodIn_r _ [9, 10, 11, 12, 13, 14, 8, 15, 16, 17, 18, 19, 32, 33, 34, 35, 36, 37, 38, 39, 40, 41, 42, 43, 44, 45, 46, 47] (by decide +kernel) (by decide +kernel)
set_option maxRecDepth 20000 in
theorem gX5_lays_X5_wrongSheet : GoodIn wsX5_lays (wsV RX5 273 RX5 yX5_wrongSheet wsX5_wrongSheet) := goodIn_app (goodIn_of _ (by decide +kernel)) ggX5_lays_X5_wrongSheet
set_option maxRecDepth 20000 in
theorem ggX5_lays_X5_finds : GoodIn wsX5_lays wsX5_finds := goodIn_r _ [23, 24, 10, 32, 33, 34, 35, 36, 37, 38, 39, 40, 41, 42, 43, 44, 45, 46, 47] (by decide +kernel) (by decide +kernel)
set_option maxRecDepth 20000 in
theorem gX5_lays_X5_finds : GoodIn wsX5_lays (wsV RX5 67 RX5 yX5_finds wsX5_finds) := goodIn_app (goodIn_of _ (by decide +kernel)) ggX5_lays_X5_finds
set_option maxRecDepth 20000 in
theorem ggX5_lays_X5_in : GoodIn wsX5_lays wsX5_in := goodIn_r _ [19] (by decide +kernel) (by decide +kernel)
set_option maxRecDepth 20000 in
theorem gX5_lays_X5_in : GoodIn wsX5_lays (va_wsS RX5 44 yX5_in wsX5_in) := goodIn_app (goodIn_of _ (by decide +kernel)) ggX5_lays_X5_in
set_option maxRecDepth 20000 in
theorem ggX5_lays_X5_spotOf : GoodIn wsX5_lays wsX5_spotOf := goodIn_r _ [27] (by decide +kernel) (by decide +kernel)
set_option maxRecDepth 20000 in
theorem gX5_lays_X5_spotOf : GoodIn wsX5_lays (va_wsS RX5 54 yX5_spotOf wsX5_spotOf) := goodIn_app (goodIn_of _ (by decide +kernel)) ggX5_lays_X5_spotOf
set_option maxRecDepth 20000 in
theorem ggX5_lays_X5_its : GoodIn wsX5_lays wsX5_its := goodIn_r _ [31, 2, 25, 26, 8, 27, 32, 33, 34, 35, 36, 37, 38, 39, 40, 41, 42, 43, 44, 45, 46, 47] (by decide +kernel) (by decide +kernel)
set_option maxRecDepth 20000 in
theorem gX5_lays_X5_its : GoodIn wsX5_lays (wsV RX5 71 RX5 yX5_its wsX5_its) := goodIn_app (goodIn_of _ (by decide +kernel)) ggX5_lays_X5_its
theorem dX5_lays_0 : decode cX5_lays 0 = .ok (.aload_n 0, 1) := by decide +kernel
theorem dX5_lays_1 : decode cX5_lays 1 = .ok (.iload_n 1, 1) := by decide +kernel
theorem dX5_lays_2 : decode cX5_lays 2 = .ok (.invokevirtual 273, 3) := by decide +kernel
theorem dX5_lays_5 : decode cX5_lays 5 = .ok (.istore_n 2, 1) := by decide +kernel
theorem dX5_lays_6 : decode cX5_lays 6 = .ok (.iload_n 2, 1) := by decide +kernel
theorem dX5_lays_7 : decode cX5_lays 7 = .ok (.ifCond .eq 9, 3) := by decide +kernel
theorem dX5_lays_10 : decode cX5_lays 10 = .ok (.aload_n 0, 1) := by decide +kernel
theorem dX5_lays_11 : decode cX5_lays 11 = .ok (.iload_n 2, 1) := by decide +kernel
theorem dX5_lays_12 : decode cX5_lays 12 = .ok (.invokevirtual 67, 3) := by decide +kernel
theorem dX5_lays_15 : decode cX5_lays 15 = .ok (.ireturn, 1) := by decide +kernel
theorem dX5_lays_16 : decode cX5_lays 16 = .ok (.iconst 0, 1) := by decide +kernel
theorem dX5_lays_17 : decode cX5_lays 17 = .ok (.istore_n 3, 1) := by decide +kernel
theorem dX5_lays_18 : decode cX5_lays 18 = .ok (.iconst 0, 1) := by decide +kernel
theorem dX5_lays_19 : decode cX5_lays 19 = .ok (.istore 4, 2) := by decide +kernel
theorem dX5_lays_21 : decode cX5_lays 21 = .ok (.iload 4, 2) := by decide +kernel
theorem dX5_lays_23 : decode cX5_lays 23 = .ok (.aload_n 0, 1) := by decide +kernel
theorem dX5_lays_24 : decode cX5_lays 24 = .ok (.getfield 31, 3) := by decide +kernel
theorem dX5_lays_27 : decode cX5_lays 27 = .ok (.iload_n 1, 1) := by decide +kernel
theorem dX5_lays_28 : decode cX5_lays 28 = .ok (.iaload, 1) := by decide +kernel
theorem dX5_lays_29 : decode cX5_lays 29 = .ok (.if_icmp .ge 93, 3) := by decide +kernel
theorem dX5_lays_32 : decode cX5_lays 32 = .ok (.iload 4, 2) := by decide +kernel
theorem dX5_lays_34 : decode cX5_lays 34 = .ok (.aload_n 0, 1) := by decide +kernel
theorem dX5_lays_35 : decode cX5_lays 35 = .ok (.getfield 7, 3) := by decide +kernel
theorem dX5_lays_38 : decode cX5_lays 38 = .ok (.iconst 0, 1) := by decide +kernel
theorem dX5_lays_39 : decode cX5_lays 39 = .ok (.iaload, 1) := by decide +kernel
theorem dX5_lays_40 : decode cX5_lays 40 = .ok (.if_icmp .ge 82, 3) := by decide +kernel
theorem dX5_lays_43 : decode cX5_lays 43 = .ok (.aload_n 0, 1) := by decide +kernel
theorem dX5_lays_44 : decode cX5_lays 44 = .ok (.getfield 34, 3) := by decide +kernel
theorem dX5_lays_47 : decode cX5_lays 47 = .ok (.bipush 40, 2) := by decide +kernel
theorem dX5_lays_49 : decode cX5_lays 49 = .ok (.iload_n 1, 1) := by decide +kernel
theorem dX5_lays_50 : decode cX5_lays 50 = .ok (.imul, 1) := by decide +kernel
theorem dX5_lays_51 : decode cX5_lays 51 = .ok (.iload 4, 2) := by decide +kernel
theorem dX5_lays_53 : decode cX5_lays 53 = .ok (.iadd, 1) := by decide +kernel
theorem dX5_lays_54 : decode cX5_lays 54 = .ok (.laload, 1) := by decide +kernel
theorem dX5_lays_55 : decode cX5_lays 55 = .ok (.lconst 0, 1) := by decide +kernel
theorem dX5_lays_56 : decode cX5_lays 56 = .ok (.ldc2_w 87, 3) := by decide +kernel
theorem dX5_lays_59 : decode cX5_lays 59 = .ok (.invokestatic 44, 3) := by decide +kernel
theorem dX5_lays_62 : decode cX5_lays 62 = .ok (.istore 5, 2) := by decide +kernel
theorem dX5_lays_64 : decode cX5_lays 64 = .ok (.aload_n 0, 1) := by decide +kernel
theorem dX5_lays_65 : decode cX5_lays 65 = .ok (.getfield 7, 3) := by decide +kernel
theorem dX5_lays_68 : decode cX5_lays 68 = .ok (.iload 4, 2) := by decide +kernel
theorem dX5_lays_70 : decode cX5_lays 70 = .ok (.iconst 3, 1) := by decide +kernel
theorem dX5_lays_71 : decode cX5_lays 71 = .ok (.invokestatic 54, 3) := by decide +kernel
theorem dX5_lays_74 : decode cX5_lays 74 = .ok (.iload 5, 2) := by decide +kernel
theorem dX5_lays_76 : decode cX5_lays 76 = .ok (.ifCond .eq 19, 3) := by decide +kernel
theorem dX5_lays_79 : decode cX5_lays 79 = .ok (.aload_n 0, 1) := by decide +kernel
theorem dX5_lays_80 : decode cX5_lays 80 = .ok (.getfield 34, 3) := by decide +kernel
theorem dX5_lays_83 : decode cX5_lays 83 = .ok (.bipush 40, 2) := by decide +kernel
theorem dX5_lays_85 : decode cX5_lays 85 = .ok (.iload_n 1, 1) := by decide +kernel
theorem dX5_lays_86 : decode cX5_lays 86 = .ok (.imul, 1) := by decide +kernel
theorem dX5_lays_87 : decode cX5_lays 87 = .ok (.iload 4, 2) := by decide +kernel
theorem dX5_lays_89 : decode cX5_lays 89 = .ok (.iadd, 1) := by decide +kernel
theorem dX5_lays_90 : decode cX5_lays 90 = .ok (.laload, 1) := by decide +kernel
theorem dX5_lays_91 : decode cX5_lays 91 = .ok (.l2i, 1) := by decide +kernel
theorem dX5_lays_92 : decode cX5_lays 92 = .ok (.goto 10, 3) := by decide +kernel
theorem dX5_lays_95 : decode cX5_lays 95 = .ok (.aload_n 0, 1) := by decide +kernel
theorem dX5_lays_96 : decode cX5_lays 96 = .ok (.iload 4, 2) := by decide +kernel
theorem dX5_lays_98 : decode cX5_lays 98 = .ok (.iconst 3, 1) := by decide +kernel
theorem dX5_lays_99 : decode cX5_lays 99 = .ok (.invokevirtual 71, 3) := by decide +kernel
theorem dX5_lays_102 : decode cX5_lays 102 = .ok (.iastore, 1) := by decide +kernel
theorem dX5_lays_103 : decode cX5_lays 103 = .ok (.iload_n 3, 1) := by decide +kernel
theorem dX5_lays_104 : decode cX5_lays 104 = .ok (.iload 5, 2) := by decide +kernel
theorem dX5_lays_106 : decode cX5_lays 106 = .ok (.ifCond .eq 7, 3) := by decide +kernel
theorem dX5_lays_109 : decode cX5_lays 109 = .ok (.iconst 1, 1) := by decide +kernel
theorem dX5_lays_110 : decode cX5_lays 110 = .ok (.goto 4, 3) := by decide +kernel
theorem dX5_lays_113 : decode cX5_lays 113 = .ok (.iconst 0, 1) := by decide +kernel
theorem dX5_lays_114 : decode cX5_lays 114 = .ok (.iadd, 1) := by decide +kernel
theorem dX5_lays_115 : decode cX5_lays 115 = .ok (.istore_n 3, 1) := by decide +kernel
theorem dX5_lays_116 : decode cX5_lays 116 = .ok (.iinc 4 1, 3) := by decide +kernel
theorem dX5_lays_119 : decode cX5_lays 119 = .ok (.goto (-98), 3) := by decide +kernel
theorem dX5_lays_122 : decode cX5_lays 122 = .ok (.iload_n 3, 1) := by decide +kernel
theorem dX5_lays_123 : decode cX5_lays 123 = .ok (.ireturn, 1) := by decide +kernel
set_option maxRecDepth 20000 in
theorem ggX5_wrongBook_X5_wrongSheet : GoodIn wsX5_wrongBook wsX5_wrongSheet := goodIn_r _ [6, 1, 7, 8, 9, 10, 5, 11, 12, 13, 14, 15, 21, 22, 23, 24, 25, 26, 27, 28, 29, 30, 31, 32, 33, 34, 35, 36] (by decide +kernel) (by decide +kernel)
set_option maxRecDepth 20000 in
theorem gX5_wrongBook_X5_wrongSheet : GoodIn wsX5_wrongBook (wsV RX5 273 RX5 yX5_wrongSheet wsX5_wrongSheet) := goodIn_app (goodIn_of _ (by decide +kernel)) ggX5_wrongBook_X5_wrongSheet
set_option maxRecDepth 20000 in
theorem ggX5_wrongBook_X5_isWalker : GoodIn wsX5_wrongBook wsX5_isWalker := goodIn_r _ [19, 20, 13, 14, 5, 15, 21, 22, 23, 24, 25, 26, 27, 28, 29, 30, 31, 32, 33, 34, 35, 36] (by decide +kernel) (by decide +kernel)
set_option maxRecDepth 20000 in
theorem gX5_wrongBook_X5_isWalker : GoodIn wsX5_wrongBook (wsV RX5 48 RX5 yX5_isWalker wsX5_isWalker) := goodIn_app (goodIn_of _ (by decide +kernel)) ggX5_wrongBook_X5_isWalker
theorem dX5_wrongBook_0 : decode cX5_wrongBook 0 = .ok (.aload_n 0, 1) := by decide +kernel
theorem dX5_wrongBook_1 : decode cX5_wrongBook 1 = .ok (.iload_n 1, 1) := by decide +kernel
theorem dX5_wrongBook_2 : decode cX5_wrongBook 2 = .ok (.invokevirtual 273, 3) := by decide +kernel
theorem dX5_wrongBook_5 : decode cX5_wrongBook 5 = .ok (.istore_n 3, 1) := by decide +kernel
theorem dX5_wrongBook_6 : decode cX5_wrongBook 6 = .ok (.iload_n 3, 1) := by decide +kernel
theorem dX5_wrongBook_7 : decode cX5_wrongBook 7 = .ok (.ifCond .eq 7, 3) := by decide +kernel
theorem dX5_wrongBook_10 : decode cX5_wrongBook 10 = .ok (.iload_n 3, 1) := by decide +kernel
theorem dX5_wrongBook_11 : decode cX5_wrongBook 11 = .ok (.goto 17, 3) := by decide +kernel
theorem dX5_wrongBook_14 : decode cX5_wrongBook 14 = .ok (.aload_n 0, 1) := by decide +kernel
theorem dX5_wrongBook_15 : decode cX5_wrongBook 15 = .ok (.iload_n 2, 1) := by decide +kernel
theorem dX5_wrongBook_16 : decode cX5_wrongBook 16 = .ok (.invokevirtual 48, 3) := by decide +kernel
theorem dX5_wrongBook_19 : decode cX5_wrongBook 19 = .ok (.ifCond .eq 7, 3) := by decide +kernel
theorem dX5_wrongBook_22 : decode cX5_wrongBook 22 = .ok (.iconst 0, 1) := by decide +kernel
theorem dX5_wrongBook_23 : decode cX5_wrongBook 23 = .ok (.goto 5, 3) := by decide +kernel
theorem dX5_wrongBook_26 : decode cX5_wrongBook 26 = .ok (.ldc 41, 2) := by decide +kernel
theorem dX5_wrongBook_28 : decode cX5_wrongBook 28 = .ok (.ireturn, 1) := by decide +kernel
set_option maxRecDepth 20000 in
theorem ggX5_book_X5_wrongBook : GoodIn wsX5_book wsX5_wrongBook := goodIn_r _ [8, 9, 10, 11, 12, 7, 13, 3, 14, 15, 16, 17, 18, 19, 20, 21, 22, 23, 24, 25, 26, 83, 84, 85, 86, 87, 88, 89, 90, 91, 92, 93, 94, 95, 96, 97, 98] (by decide +kernel) (by decide +kernel)
set_option maxRecDepth 20000 in
theorem gX5_book_X5_wrongBook : GoodIn wsX5_book (wsV RX5 280 RX5 yX5_wrongBook wsX5_wrongBook) := goodIn_app (goodIn_of _ (by decide +kernel)) ggX5_book_X5_wrongBook
set_option maxRecDepth 20000 in
theorem ggX5_book_X5_finds : GoodIn wsX5_book wsX5_finds := goodIn_r _ [30, 31, 9, 83, 84, 85, 86, 87, 88, 89, 90, 91, 92, 93, 94, 95, 96, 97, 98] (by decide +kernel) (by decide +kernel)
set_option maxRecDepth 20000 in
theorem gX5_book_X5_finds : GoodIn wsX5_book (wsV RX5 67 RX5 yX5_finds wsX5_finds) := goodIn_app (goodIn_of _ (by decide +kernel)) ggX5_book_X5_finds
set_option maxRecDepth 20000 in
theorem ggX5_book_X5_laysAside : GoodIn wsX5_book wsX5_laysAside := goodIn_r _ [35, 36, 26, 83, 84, 85, 86, 87, 88, 89, 90, 91, 92, 93, 94, 95, 96, 97, 98] (by decide +kernel) (by decide +kernel)
set_option maxRecDepth 20000 in
theorem gX5_book_X5_laysAside : GoodIn wsX5_book (wsV RX5 135 RX5 yX5_laysAside wsX5_laysAside) := goodIn_app (goodIn_of _ (by decide +kernel)) ggX5_book_X5_laysAside
set_option maxRecDepth 20000 in
theorem ggX5_book_X5_its : GoodIn wsX5_book wsX5_its := goodIn_r _ [40, 26, 41, 42, 7, 43, 83, 84, 85, 86, 87, 88, 89, 90, 91, 92, 93, 94, 95, 96, 97, 98] (by decide +kernel) (by decide +kernel)
set_option maxRecDepth 20000 in
theorem gX5_book_X5_its : GoodIn wsX5_book (wsV RX5 71 RX5 yX5_its wsX5_its) := goodIn_app (goodIn_of _ (by decide +kernel)) ggX5_book_X5_its
set_option maxRecDepth 20000 in
theorem ggX5_book_X5_narrowed : GoodIn wsX5_book wsX5_narrowed := goodIn_r _ [46] (by decide +kernel) (by decide +kernel)
set_option maxRecDepth 20000 in
theorem gX5_book_X5_narrowed : GoodIn wsX5_book (va_wsS RX5 276 yX5_narrowed wsX5_narrowed) := goodIn_app (goodIn_of _ (by decide +kernel)) ggX5_book_X5_narrowed
set_option maxRecDepth 20000 in
theorem ggX5_book_X5_hour : GoodIn wsX5_book wsX5_hour := goodIn_r _ [50, 26, 37, 38, 39, 7, 40, 41, 42, 43, 51, 52, 53, 54, 55, 56, 57, 58, 59, 60, 61, 62, 63, 64, 65, 66, 67, 68, 69, 70, 71, 72, 73, 74, 75, 76, 77, 78, 83, 84, 85, 86, 87, 88, 89, 90, 91, 92, 93, 94, 95, 96, 97, 98] (by decide +kernel) (by decide +kernel)
set_option maxRecDepth 20000 in
theorem gX5_book_X5_hour : GoodIn wsX5_book (wsV RX5 119 RX5 yX5_hour wsX5_hour) := goodIn_app (goodIn_of _ (by decide +kernel)) ggX5_book_X5_hour
set_option maxRecDepth 20000 in
theorem ggX5_book_X5_takesBack : GoodIn wsX5_book wsX5_takesBack := goodIn_r _ [82, 26, 36, 83, 84, 85, 86, 87, 88, 89, 90, 91, 92, 93, 94, 95, 96, 97, 98] (by decide +kernel) (by decide +kernel)
set_option maxRecDepth 20000 in
theorem gX5_book_X5_takesBack : GoodIn wsX5_book (wsV RX5 138 RX5 yX5_takesBack wsX5_takesBack) := goodIn_app (goodIn_of _ (by decide +kernel)) ggX5_book_X5_takesBack
theorem dX5_book_0 : decode cX5_book 0 = .ok (.aload_n 0, 1) := by decide +kernel
theorem dX5_book_1 : decode cX5_book 1 = .ok (.iload_n 1, 1) := by decide +kernel
theorem dX5_book_2 : decode cX5_book 2 = .ok (.iload_n 2, 1) := by decide +kernel
theorem dX5_book_3 : decode cX5_book 3 = .ok (.invokevirtual 280, 3) := by decide +kernel
theorem dX5_book_6 : decode cX5_book 6 = .ok (.istore_n 3, 1) := by decide +kernel
theorem dX5_book_7 : decode cX5_book 7 = .ok (.iload_n 3, 1) := by decide +kernel
theorem dX5_book_8 : decode cX5_book 8 = .ok (.ifCond .eq 9, 3) := by decide +kernel
theorem dX5_book_11 : decode cX5_book 11 = .ok (.aload_n 0, 1) := by decide +kernel
theorem dX5_book_12 : decode cX5_book 12 = .ok (.iload_n 3, 1) := by decide +kernel
theorem dX5_book_13 : decode cX5_book 13 = .ok (.invokevirtual 67, 3) := by decide +kernel
theorem dX5_book_16 : decode cX5_book 16 = .ok (.ireturn, 1) := by decide +kernel
theorem dX5_book_17 : decode cX5_book 17 = .ok (.aload_n 0, 1) := by decide +kernel
theorem dX5_book_18 : decode cX5_book 18 = .ok (.invokevirtual 135, 3) := by decide +kernel
theorem dX5_book_21 : decode cX5_book 21 = .ok (.iconst 0, 1) := by decide +kernel
theorem dX5_book_22 : decode cX5_book 22 = .ok (.istore 4, 2) := by decide +kernel
theorem dX5_book_24 : decode cX5_book 24 = .ok (.iload 4, 2) := by decide +kernel
theorem dX5_book_26 : decode cX5_book 26 = .ok (.aload_n 0, 1) := by decide +kernel
theorem dX5_book_27 : decode cX5_book 27 = .ok (.getfield 31, 3) := by decide +kernel
theorem dX5_book_30 : decode cX5_book 30 = .ok (.iload_n 1, 1) := by decide +kernel
theorem dX5_book_31 : decode cX5_book 31 = .ok (.iaload, 1) := by decide +kernel
theorem dX5_book_32 : decode cX5_book 32 = .ok (.if_icmp .ge 42, 3) := by decide +kernel
theorem dX5_book_35 : decode cX5_book 35 = .ok (.aload_n 0, 1) := by decide +kernel
theorem dX5_book_36 : decode cX5_book 36 = .ok (.getfield 34, 3) := by decide +kernel
theorem dX5_book_39 : decode cX5_book 39 = .ok (.bipush 40, 2) := by decide +kernel
theorem dX5_book_41 : decode cX5_book 41 = .ok (.iload_n 1, 1) := by decide +kernel
theorem dX5_book_42 : decode cX5_book 42 = .ok (.imul, 1) := by decide +kernel
theorem dX5_book_43 : decode cX5_book 43 = .ok (.iload 4, 2) := by decide +kernel
theorem dX5_book_45 : decode cX5_book 45 = .ok (.iadd, 1) := by decide +kernel
theorem dX5_book_46 : decode cX5_book 46 = .ok (.aload_n 0, 1) := by decide +kernel
theorem dX5_book_47 : decode cX5_book 47 = .ok (.getfield 28, 3) := by decide +kernel
theorem dX5_book_50 : decode cX5_book 50 = .ok (.iload_n 1, 1) := by decide +kernel
theorem dX5_book_51 : decode cX5_book 51 = .ok (.iaload, 1) := by decide +kernel
theorem dX5_book_52 : decode cX5_book 52 = .ok (.aload_n 0, 1) := by decide +kernel
theorem dX5_book_53 : decode cX5_book 53 = .ok (.iload_n 2, 1) := by decide +kernel
theorem dX5_book_54 : decode cX5_book 54 = .ok (.bipush 6, 2) := by decide +kernel
theorem dX5_book_56 : decode cX5_book 56 = .ok (.invokevirtual 71, 3) := by decide +kernel
theorem dX5_book_59 : decode cX5_book 59 = .ok (.i2l, 1) := by decide +kernel
theorem dX5_book_60 : decode cX5_book 60 = .ok (.invokestatic 276, 3) := by decide +kernel
theorem dX5_book_63 : decode cX5_book 63 = .ok (.lastore, 1) := by decide +kernel
theorem dX5_book_64 : decode cX5_book 64 = .ok (.aload_n 0, 1) := by decide +kernel
theorem dX5_book_65 : decode cX5_book 65 = .ok (.invokevirtual 119, 3) := by decide +kernel
theorem dX5_book_68 : decode cX5_book 68 = .ok (.iinc 4 1, 3) := by decide +kernel
theorem dX5_book_71 : decode cX5_book 71 = .ok (.goto (-47), 3) := by decide +kernel
theorem dX5_book_74 : decode cX5_book 74 = .ok (.aload_n 0, 1) := by decide +kernel
theorem dX5_book_75 : decode cX5_book 75 = .ok (.aload_n 0, 1) := by decide +kernel
theorem dX5_book_76 : decode cX5_book 76 = .ok (.getfield 31, 3) := by decide +kernel
theorem dX5_book_79 : decode cX5_book 79 = .ok (.iload_n 1, 1) := by decide +kernel
theorem dX5_book_80 : decode cX5_book 80 = .ok (.iaload, 1) := by decide +kernel
theorem dX5_book_81 : decode cX5_book 81 = .ok (.invokevirtual 138, 3) := by decide +kernel
theorem dX5_book_84 : decode cX5_book 84 = .ok (.ireturn, 1) := by decide +kernel
set_option maxRecDepth 20000 in
theorem ggX5_isBook_X5_its : GoodIn wsX5_isBook wsX5_its := goodIn_r _ [7, 8, 9, 10, 6, 11, 44, 45, 46, 47, 48, 49, 50, 51, 52, 53, 54, 55, 56, 57, 58, 59] (by decide +kernel) (by decide +kernel)
set_option maxRecDepth 20000 in
theorem gX5_isBook_X5_its : GoodIn wsX5_isBook (wsV RX5 71 RX5 yX5_its wsX5_its) := goodIn_app (goodIn_of _ (by decide +kernel)) ggX5_isBook_X5_its
set_option maxRecDepth 20000 in
theorem ggX5_isBook_X5_hour : GoodIn wsX5_isBook wsX5_hour := goodIn_r _ [15, 8, 3, 4, 5, 6, 7, 9, 10, 11, 16, 17, 18, 19, 20, 21, 22, 23, 24, 25, 26, 27, 28, 29, 30, 31, 32, 33, 34, 35, 36, 37, 38, 39, 40, 41, 42, 43, 44, 45, 46, 47, 48, 49, 50, 51, 52, 53, 54, 55, 56, 57, 58, 59] (by decide +kernel) (by decide +kernel)
set_option maxRecDepth 20000 in
theorem gX5_isBook_X5_hour : GoodIn wsX5_isBook (wsV RX5 119 RX5 yX5_hour wsX5_hour) := goodIn_app (goodIn_of _ (by decide +kernel)) ggX5_isBook_X5_hour
theorem dX5_isBook_0 : decode cX5_isBook 0 = .ok (.iconst 0, 1) := by decide +kernel
theorem dX5_isBook_1 : decode cX5_isBook 1 = .ok (.istore_n 3, 1) := by decide +kernel
theorem dX5_isBook_2 : decode cX5_isBook 2 = .ok (.iload_n 3, 1) := by decide +kernel
theorem dX5_isBook_3 : decode cX5_isBook 3 = .ok (.aload_n 0, 1) := by decide +kernel
theorem dX5_isBook_4 : decode cX5_isBook 4 = .ok (.getfield 31, 3) := by decide +kernel
theorem dX5_isBook_7 : decode cX5_isBook 7 = .ok (.iload_n 1, 1) := by decide +kernel
theorem dX5_isBook_8 : decode cX5_isBook 8 = .ok (.iaload, 1) := by decide +kernel
theorem dX5_isBook_9 : decode cX5_isBook 9 = .ok (.if_icmp .ge 37, 3) := by decide +kernel
theorem dX5_isBook_12 : decode cX5_isBook 12 = .ok (.aload_n 0, 1) := by decide +kernel
theorem dX5_isBook_13 : decode cX5_isBook 13 = .ok (.getfield 34, 3) := by decide +kernel
theorem dX5_isBook_16 : decode cX5_isBook 16 = .ok (.bipush 40, 2) := by decide +kernel
theorem dX5_isBook_18 : decode cX5_isBook 18 = .ok (.iload_n 1, 1) := by decide +kernel
theorem dX5_isBook_19 : decode cX5_isBook 19 = .ok (.imul, 1) := by decide +kernel
theorem dX5_isBook_20 : decode cX5_isBook 20 = .ok (.iload_n 3, 1) := by decide +kernel
theorem dX5_isBook_21 : decode cX5_isBook 21 = .ok (.iadd, 1) := by decide +kernel
theorem dX5_isBook_22 : decode cX5_isBook 22 = .ok (.laload, 1) := by decide +kernel
theorem dX5_isBook_23 : decode cX5_isBook 23 = .ok (.aload_n 0, 1) := by decide +kernel
theorem dX5_isBook_24 : decode cX5_isBook 24 = .ok (.iload_n 2, 1) := by decide +kernel
theorem dX5_isBook_25 : decode cX5_isBook 25 = .ok (.iconst 1, 1) := by decide +kernel
theorem dX5_isBook_26 : decode cX5_isBook 26 = .ok (.invokevirtual 71, 3) := by decide +kernel
theorem dX5_isBook_29 : decode cX5_isBook 29 = .ok (.i2l, 1) := by decide +kernel
theorem dX5_isBook_30 : decode cX5_isBook 30 = .ok (.lcmp, 1) := by decide +kernel
theorem dX5_isBook_31 : decode cX5_isBook 31 = .ok (.ifCond .eq 5, 3) := by decide +kernel
theorem dX5_isBook_34 : decode cX5_isBook 34 = .ok (.iconst 0, 1) := by decide +kernel
theorem dX5_isBook_35 : decode cX5_isBook 35 = .ok (.ireturn, 1) := by decide +kernel
theorem dX5_isBook_36 : decode cX5_isBook 36 = .ok (.aload_n 0, 1) := by decide +kernel
theorem dX5_isBook_37 : decode cX5_isBook 37 = .ok (.invokevirtual 119, 3) := by decide +kernel
theorem dX5_isBook_40 : decode cX5_isBook 40 = .ok (.iinc 3 1, 3) := by decide +kernel
theorem dX5_isBook_43 : decode cX5_isBook 43 = .ok (.goto (-41), 3) := by decide +kernel
theorem dX5_isBook_46 : decode cX5_isBook 46 = .ok (.iconst 1, 1) := by decide +kernel
theorem dX5_isBook_47 : decode cX5_isBook 47 = .ok (.ireturn, 1) := by decide +kernel
set_option maxRecDepth 20000 in
theorem ggX5_read_X5_wrongBook : GoodIn wsX5_read wsX5_wrongBook := goodIn_r _ [6, 7, 8, 9, 10, 5, 11, 12, 13, 14, 15, 16, 17, 18, 19, 20, 21, 22, 23, 24, 1, 84, 85, 86, 87, 88, 89, 90, 91, 92, 93, 94, 95, 96, 97, 98, 99] (by decide +kernel) (by decide +kernel)
set_option maxRecDepth 20000 in
theorem gX5_read_X5_wrongBook : GoodIn wsX5_read (wsV RX5 280 RX5 yX5_wrongBook wsX5_wrongBook) := goodIn_app (goodIn_of _ (by decide +kernel)) ggX5_read_X5_wrongBook
set_option maxRecDepth 20000 in
theorem ggX5_read_X5_finds : GoodIn wsX5_read wsX5_finds := goodIn_r _ [28, 29, 7, 84, 85, 86, 87, 88, 89, 90, 91, 92, 93, 94, 95, 96, 97, 98, 99] (by decide +kernel) (by decide +kernel)
set_option maxRecDepth 20000 in
theorem gX5_read_X5_finds : GoodIn wsX5_read (wsV RX5 67 RX5 yX5_finds wsX5_finds) := goodIn_app (goodIn_of _ (by decide +kernel)) ggX5_read_X5_finds
set_option maxRecDepth 20000 in
theorem ggX5_read_X5_laysAside : GoodIn wsX5_read wsX5_laysAside := goodIn_r _ [33, 34, 1, 84, 85, 86, 87, 88, 89, 90, 91, 92, 93, 94, 95, 96, 97, 98, 99] (by decide +kernel) (by decide +kernel)
set_option maxRecDepth 20000 in
theorem gX5_read_X5_laysAside : GoodIn wsX5_read (wsV RX5 135 RX5 yX5_laysAside wsX5_laysAside) := goodIn_app (goodIn_of _ (by decide +kernel)) ggX5_read_X5_laysAside
set_option maxRecDepth 20000 in
theorem ggX5_read_X5_spotOf : GoodIn wsX5_read wsX5_spotOf := goodIn_r _ [37] (by decide +kernel) (by decide +kernel)
set_option maxRecDepth 20000 in
theorem gX5_read_X5_spotOf : GoodIn wsX5_read (va_wsS RX5 54 yX5_spotOf wsX5_spotOf) := goodIn_app (goodIn_of _ (by decide +kernel)) ggX5_read_X5_spotOf
set_option maxRecDepth 20000 in
theorem ggX5_read_X5_isBook : GoodIn wsX5_read wsX5_isBook := goodIn_r _ [41, 42, 43, 44, 45, 46, 5, 47, 1, 35, 36, 37, 48, 49, 50, 51, 52, 53, 54, 55, 56, 57, 58, 59, 60, 61, 62, 63, 64, 65, 66, 67, 68, 69, 70, 71, 72, 73, 74, 75, 76, 77, 78, 79, 84, 85, 86, 87, 88, 89, 90, 91, 92, 93, 94, 95, 96, 97, 98, 99] (by decide +kernel) (by decide +kernel)
set_option maxRecDepth 20000 in
theorem gX5_read_X5_isBook : GoodIn wsX5_read (wsV RX5 283 RX5 yX5_isBook wsX5_isBook) := goodIn_app (goodIn_of _ (by decide +kernel)) ggX5_read_X5_isBook
set_option maxRecDepth 20000 in
theorem ggX5_read_X5_takesBack : GoodIn wsX5_read wsX5_takesBack := goodIn_r _ [83, 1, 34, 84, 85, 86, 87, 88, 89, 90, 91, 92, 93, 94, 95, 96, 97, 98, 99] (by decide +kernel) (by decide +kernel)
set_option maxRecDepth 20000 in
theorem gX5_read_X5_takesBack : GoodIn wsX5_read (wsV RX5 138 RX5 yX5_takesBack wsX5_takesBack) := goodIn_app (goodIn_of _ (by decide +kernel)) ggX5_read_X5_takesBack
theorem dX5_read_0 : decode cX5_read 0 = .ok (.aload_n 0, 1) := by decide +kernel
theorem dX5_read_1 : decode cX5_read 1 = .ok (.iload_n 1, 1) := by decide +kernel
theorem dX5_read_2 : decode cX5_read 2 = .ok (.iload_n 2, 1) := by decide +kernel
theorem dX5_read_3 : decode cX5_read 3 = .ok (.invokevirtual 280, 3) := by decide +kernel
theorem dX5_read_6 : decode cX5_read 6 = .ok (.istore_n 3, 1) := by decide +kernel
theorem dX5_read_7 : decode cX5_read 7 = .ok (.iload_n 3, 1) := by decide +kernel
theorem dX5_read_8 : decode cX5_read 8 = .ok (.ifCond .eq 9, 3) := by decide +kernel
theorem dX5_read_11 : decode cX5_read 11 = .ok (.aload_n 0, 1) := by decide +kernel
theorem dX5_read_12 : decode cX5_read 12 = .ok (.iload_n 3, 1) := by decide +kernel
theorem dX5_read_13 : decode cX5_read 13 = .ok (.invokevirtual 67, 3) := by decide +kernel
theorem dX5_read_16 : decode cX5_read 16 = .ok (.ireturn, 1) := by decide +kernel
theorem dX5_read_17 : decode cX5_read 17 = .ok (.aload_n 0, 1) := by decide +kernel
theorem dX5_read_18 : decode cX5_read 18 = .ok (.invokevirtual 135, 3) := by decide +kernel
theorem dX5_read_21 : decode cX5_read 21 = .ok (.iconst 0, 1) := by decide +kernel
theorem dX5_read_22 : decode cX5_read 22 = .ok (.istore 4, 2) := by decide +kernel
theorem dX5_read_24 : decode cX5_read 24 = .ok (.iconst 0, 1) := by decide +kernel
theorem dX5_read_25 : decode cX5_read 25 = .ok (.istore 5, 2) := by decide +kernel
theorem dX5_read_27 : decode cX5_read 27 = .ok (.iload 5, 2) := by decide +kernel
theorem dX5_read_29 : decode cX5_read 29 = .ok (.bipush 66, 2) := by decide +kernel
theorem dX5_read_31 : decode cX5_read 31 = .ok (.if_icmp .ge 62, 3) := by decide +kernel
theorem dX5_read_34 : decode cX5_read 34 = .ok (.aload_n 0, 1) := by decide +kernel
theorem dX5_read_35 : decode cX5_read 35 = .ok (.getfield 7, 3) := by decide +kernel
theorem dX5_read_38 : decode cX5_read 38 = .ok (.iload_n 2, 1) := by decide +kernel
theorem dX5_read_39 : decode cX5_read 39 = .ok (.iconst 0, 1) := by decide +kernel
theorem dX5_read_40 : decode cX5_read 40 = .ok (.invokestatic 54, 3) := by decide +kernel
theorem dX5_read_43 : decode cX5_read 43 = .ok (.iload 5, 2) := by decide +kernel
theorem dX5_read_45 : decode cX5_read 45 = .ok (.bipush 11, 2) := by decide +kernel
theorem dX5_read_47 : decode cX5_read 47 = .ok (.idiv, 1) := by decide +kernel
theorem dX5_read_48 : decode cX5_read 48 = .ok (.iastore, 1) := by decide +kernel
theorem dX5_read_49 : decode cX5_read 49 = .ok (.aload_n 0, 1) := by decide +kernel
theorem dX5_read_50 : decode cX5_read 50 = .ok (.getfield 7, 3) := by decide +kernel
theorem dX5_read_53 : decode cX5_read 53 = .ok (.iload_n 2, 1) := by decide +kernel
theorem dX5_read_54 : decode cX5_read 54 = .ok (.iconst 4, 1) := by decide +kernel
theorem dX5_read_55 : decode cX5_read 55 = .ok (.invokestatic 54, 3) := by decide +kernel
theorem dX5_read_58 : decode cX5_read 58 = .ok (.iload 5, 2) := by decide +kernel
theorem dX5_read_60 : decode cX5_read 60 = .ok (.bipush 11, 2) := by decide +kernel
theorem dX5_read_62 : decode cX5_read 62 = .ok (.irem, 1) := by decide +kernel
theorem dX5_read_63 : decode cX5_read 63 = .ok (.iastore, 1) := by decide +kernel
theorem dX5_read_64 : decode cX5_read 64 = .ok (.aload_n 0, 1) := by decide +kernel
theorem dX5_read_65 : decode cX5_read 65 = .ok (.iload 4, 2) := by decide +kernel
theorem dX5_read_67 : decode cX5_read 67 = .ok (.aload_n 0, 1) := by decide +kernel
theorem dX5_read_68 : decode cX5_read 68 = .ok (.iload_n 1, 1) := by decide +kernel
theorem dX5_read_69 : decode cX5_read 69 = .ok (.iload_n 2, 1) := by decide +kernel
theorem dX5_read_70 : decode cX5_read 70 = .ok (.invokevirtual 283, 3) := by decide +kernel
theorem dX5_read_73 : decode cX5_read 73 = .ok (.ifCond .eq 7, 3) := by decide +kernel
theorem dX5_read_76 : decode cX5_read 76 = .ok (.iconst 1, 1) := by decide +kernel
theorem dX5_read_77 : decode cX5_read 77 = .ok (.goto 4, 3) := by decide +kernel
theorem dX5_read_80 : decode cX5_read 80 = .ok (.iconst 0, 1) := by decide +kernel
theorem dX5_read_81 : decode cX5_read 81 = .ok (.iadd, 1) := by decide +kernel
theorem dX5_read_82 : decode cX5_read 82 = .ok (.invokevirtual 138, 3) := by decide +kernel
theorem dX5_read_85 : decode cX5_read 85 = .ok (.istore 4, 2) := by decide +kernel
theorem dX5_read_87 : decode cX5_read 87 = .ok (.iinc 5 1, 3) := by decide +kernel
theorem dX5_read_90 : decode cX5_read 90 = .ok (.goto (-63), 3) := by decide +kernel
theorem dX5_read_93 : decode cX5_read 93 = .ok (.iload 4, 2) := by decide +kernel
theorem dX5_read_95 : decode cX5_read 95 = .ok (.ireturn, 1) := by decide +kernel
theorem dX5_image_0 : decode cX5_image 0 = .ok (.iconst 0, 1) := by decide +kernel
theorem dX5_image_1 : decode cX5_image 1 = .ok (.istore_n 1, 1) := by decide +kernel
theorem dX5_image_2 : decode cX5_image 2 = .ok (.iload_n 1, 1) := by decide +kernel
theorem dX5_image_3 : decode cX5_image 3 = .ok (.bipush 69, 2) := by decide +kernel
theorem dX5_image_5 : decode cX5_image 5 = .ok (.if_icmp .ge 21, 3) := by decide +kernel
theorem dX5_image_8 : decode cX5_image 8 = .ok (.aload_n 0, 1) := by decide +kernel
theorem dX5_image_9 : decode cX5_image 9 = .ok (.getfield 13, 3) := by decide +kernel
theorem dX5_image_12 : decode cX5_image 12 = .ok (.iload_n 1, 1) := by decide +kernel
theorem dX5_image_13 : decode cX5_image 13 = .ok (.aload_n 0, 1) := by decide +kernel
theorem dX5_image_14 : decode cX5_image 14 = .ok (.getfield 7, 3) := by decide +kernel
theorem dX5_image_17 : decode cX5_image 17 = .ok (.iload_n 1, 1) := by decide +kernel
theorem dX5_image_18 : decode cX5_image 18 = .ok (.iaload, 1) := by decide +kernel
theorem dX5_image_19 : decode cX5_image 19 = .ok (.iastore, 1) := by decide +kernel
theorem dX5_image_20 : decode cX5_image 20 = .ok (.iinc 1 1, 3) := by decide +kernel
theorem dX5_image_23 : decode cX5_image 23 = .ok (.goto (-21), 3) := by decide +kernel
theorem dX5_image_26 : decode cX5_image 26 = .ok (.aload_n 0, 1) := by decide +kernel
theorem dX5_image_27 : decode cX5_image 27 = .ok (.iconst 1, 1) := by decide +kernel
theorem dX5_image_28 : decode cX5_image 28 = .ok (.putfield 286, 3) := by decide +kernel
theorem dX5_image_31 : decode cX5_image 31 = .ok (.iconst 1, 1) := by decide +kernel
theorem dX5_image_32 : decode cX5_image 32 = .ok (.ireturn, 1) := by decide +kernel
set_option maxRecDepth 20000 in
theorem ggX5_undo_X5_finds : GoodIn wsX5_undo wsX5_finds := goodIn_r _ [9, 10, 11, 12, 13, 14, 15, 16, 17, 18, 19, 20, 21, 22, 23, 24, 25, 26, 27] (by decide +kernel) (by decide +kernel)
set_option maxRecDepth 20000 in
theorem gX5_undo_X5_finds : GoodIn wsX5_undo (wsV RX5 67 RX5 yX5_finds wsX5_finds) := goodIn_app (goodIn_of _ (by decide +kernel)) ggX5_undo_X5_finds
theorem dX5_undo_0 : decode cX5_undo 0 = .ok (.aload_n 0, 1) := by decide +kernel
theorem dX5_undo_1 : decode cX5_undo 1 = .ok (.getfield 286, 3) := by decide +kernel
theorem dX5_undo_4 : decode cX5_undo 4 = .ok (.ifCond .ne 10, 3) := by decide +kernel
theorem dX5_undo_7 : decode cX5_undo 7 = .ok (.aload_n 0, 1) := by decide +kernel
theorem dX5_undo_8 : decode cX5_undo 8 = .ok (.ldc 144, 2) := by decide +kernel
theorem dX5_undo_10 : decode cX5_undo 10 = .ok (.invokevirtual 67, 3) := by decide +kernel
theorem dX5_undo_13 : decode cX5_undo 13 = .ok (.ireturn, 1) := by decide +kernel
theorem dX5_undo_14 : decode cX5_undo 14 = .ok (.iconst 0, 1) := by decide +kernel
theorem dX5_undo_15 : decode cX5_undo 15 = .ok (.istore_n 1, 1) := by decide +kernel
theorem dX5_undo_16 : decode cX5_undo 16 = .ok (.iload_n 1, 1) := by decide +kernel
theorem dX5_undo_17 : decode cX5_undo 17 = .ok (.bipush 69, 2) := by decide +kernel
theorem dX5_undo_19 : decode cX5_undo 19 = .ok (.if_icmp .ge 21, 3) := by decide +kernel
theorem dX5_undo_22 : decode cX5_undo 22 = .ok (.aload_n 0, 1) := by decide +kernel
theorem dX5_undo_23 : decode cX5_undo 23 = .ok (.getfield 7, 3) := by decide +kernel
theorem dX5_undo_26 : decode cX5_undo 26 = .ok (.iload_n 1, 1) := by decide +kernel
theorem dX5_undo_27 : decode cX5_undo 27 = .ok (.aload_n 0, 1) := by decide +kernel
theorem dX5_undo_28 : decode cX5_undo 28 = .ok (.getfield 13, 3) := by decide +kernel
theorem dX5_undo_31 : decode cX5_undo 31 = .ok (.iload_n 1, 1) := by decide +kernel
theorem dX5_undo_32 : decode cX5_undo 32 = .ok (.iaload, 1) := by decide +kernel
theorem dX5_undo_33 : decode cX5_undo 33 = .ok (.iastore, 1) := by decide +kernel
theorem dX5_undo_34 : decode cX5_undo 34 = .ok (.iinc 1 1, 3) := by decide +kernel
theorem dX5_undo_37 : decode cX5_undo 37 = .ok (.goto (-21), 3) := by decide +kernel
theorem dX5_undo_40 : decode cX5_undo 40 = .ok (.aload_n 0, 1) := by decide +kernel
theorem dX5_undo_41 : decode cX5_undo 41 = .ok (.getfield 7, 3) := by decide +kernel
theorem dX5_undo_44 : decode cX5_undo 44 = .ok (.iconst 0, 1) := by decide +kernel
theorem dX5_undo_45 : decode cX5_undo 45 = .ok (.iaload, 1) := by decide +kernel
theorem dX5_undo_46 : decode cX5_undo 46 = .ok (.ireturn, 1) := by decide +kernel
theorem dX5_tear_0 : decode cX5_tear 0 = .ok (.aload_n 0, 1) := by decide +kernel
theorem dX5_tear_1 : decode cX5_tear 1 = .ok (.getfield 286, 3) := by decide +kernel
theorem dX5_tear_4 : decode cX5_tear 4 = .ok (.ifCond .eq 7, 3) := by decide +kernel
theorem dX5_tear_7 : decode cX5_tear 7 = .ok (.iconst 1, 1) := by decide +kernel
theorem dX5_tear_8 : decode cX5_tear 8 = .ok (.goto 4, 3) := by decide +kernel
theorem dX5_tear_11 : decode cX5_tear 11 = .ok (.iconst 0, 1) := by decide +kernel
theorem dX5_tear_12 : decode cX5_tear 12 = .ok (.istore_n 1, 1) := by decide +kernel
theorem dX5_tear_13 : decode cX5_tear 13 = .ok (.aload_n 0, 1) := by decide +kernel
theorem dX5_tear_14 : decode cX5_tear 14 = .ok (.iconst 0, 1) := by decide +kernel
theorem dX5_tear_15 : decode cX5_tear 15 = .ok (.putfield 286, 3) := by decide +kernel
theorem dX5_tear_18 : decode cX5_tear 18 = .ok (.iload_n 1, 1) := by decide +kernel
theorem dX5_tear_19 : decode cX5_tear 19 = .ok (.ireturn, 1) := by decide +kernel
set_option maxRecDepth 20000 in
theorem ggX5_count_X5_together : GoodIn wsX5_count wsX5_together := goodIn_r _ [8, 1, 9, 10, 11, 7, 12, 13, 14, 15, 21, 22, 23, 24, 25, 26, 27, 28, 29, 30, 31, 32, 33, 34, 35, 36] (by decide +kernel) (by decide +kernel)
set_option maxRecDepth 20000 in
theorem gX5_count_X5_together : GoodIn wsX5_count (wsV RX5 129 RX5 yX5_together wsX5_together) := goodIn_app (goodIn_of _ (by decide +kernel)) ggX5_count_X5_together
set_option maxRecDepth 20000 in
theorem ggX5_count_X5_finds : GoodIn wsX5_count wsX5_finds := goodIn_r _ [19, 20, 3, 21, 22, 23, 24, 25, 26, 27, 28, 29, 30, 31, 32, 33, 34, 35, 36] (by decide +kernel) (by decide +kernel)
set_option maxRecDepth 20000 in
theorem gX5_count_X5_finds : GoodIn wsX5_count (wsV RX5 67 RX5 yX5_finds wsX5_finds) := goodIn_app (goodIn_of _ (by decide +kernel)) ggX5_count_X5_finds
theorem dX5_count_0 : decode cX5_count 0 = .ok (.iload_n 1, 1) := by decide +kernel
theorem dX5_count_1 : decode cX5_count 1 = .ok (.tableswitch 55 0 3 #[31, 38, 43, 49], 31) := by decide +kernel
theorem dX5_count_32 : decode cX5_count 32 = .ok (.aload_n 0, 1) := by decide +kernel
theorem dX5_count_33 : decode cX5_count 33 = .ok (.getfield 7, 3) := by decide +kernel
theorem dX5_count_36 : decode cX5_count 36 = .ok (.iconst 0, 1) := by decide +kernel
theorem dX5_count_37 : decode cX5_count 37 = .ok (.iaload, 1) := by decide +kernel
theorem dX5_count_38 : decode cX5_count 38 = .ok (.ireturn, 1) := by decide +kernel
theorem dX5_count_39 : decode cX5_count 39 = .ok (.aload_n 0, 1) := by decide +kernel
theorem dX5_count_40 : decode cX5_count 40 = .ok (.getfield 167, 3) := by decide +kernel
theorem dX5_count_43 : decode cX5_count 43 = .ok (.ireturn, 1) := by decide +kernel
theorem dX5_count_44 : decode cX5_count 44 = .ok (.aload_n 0, 1) := by decide +kernel
theorem dX5_count_45 : decode cX5_count 45 = .ok (.iconst 2, 1) := by decide +kernel
theorem dX5_count_46 : decode cX5_count 46 = .ok (.invokevirtual 129, 3) := by decide +kernel
theorem dX5_count_49 : decode cX5_count 49 = .ok (.ireturn, 1) := by decide +kernel
theorem dX5_count_50 : decode cX5_count 50 = .ok (.aload_n 0, 1) := by decide +kernel
theorem dX5_count_51 : decode cX5_count 51 = .ok (.iconst 3, 1) := by decide +kernel
theorem dX5_count_52 : decode cX5_count 52 = .ok (.invokevirtual 129, 3) := by decide +kernel
theorem dX5_count_55 : decode cX5_count 55 = .ok (.ireturn, 1) := by decide +kernel
theorem dX5_count_56 : decode cX5_count 56 = .ok (.aload_n 0, 1) := by decide +kernel
theorem dX5_count_57 : decode cX5_count 57 = .ok (.ldc 41, 2) := by decide +kernel
theorem dX5_count_59 : decode cX5_count 59 = .ok (.invokevirtual 67, 3) := by decide +kernel
theorem dX5_count_62 : decode cX5_count 62 = .ok (.ireturn, 1) := by decide +kernel
set_option maxRecDepth 20000 in
theorem ggX5_status_X5_in : GoodIn wsX5_status wsX5_in := goodIn_r _ [8] (by decide +kernel) (by decide +kernel)
set_option maxRecDepth 20000 in
theorem gX5_status_X5_in : GoodIn wsX5_status (va_wsS RX5 44 yX5_in wsX5_in) := goodIn_app (goodIn_of _ (by decide +kernel)) ggX5_status_X5_in
set_option maxRecDepth 20000 in
theorem ggX5_status_X5_finds : GoodIn wsX5_status wsX5_finds := goodIn_r _ [12, 4, 3, 13, 14, 15, 16, 17, 18, 19, 20, 21, 22, 23, 24, 25, 26, 27, 28] (by decide +kernel) (by decide +kernel)
set_option maxRecDepth 20000 in
theorem gX5_status_X5_finds : GoodIn wsX5_status (wsV RX5 67 RX5 yX5_finds wsX5_finds) := goodIn_app (goodIn_of _ (by decide +kernel)) ggX5_status_X5_finds
theorem dX5_status_0 : decode cX5_status 0 = .ok (.iload_n 1, 1) := by decide +kernel
theorem dX5_status_1 : decode cX5_status 1 = .ok (.i2l, 1) := by decide +kernel
theorem dX5_status_2 : decode cX5_status 2 = .ok (.ldc2_w 289, 3) := by decide +kernel
theorem dX5_status_5 : decode cX5_status 5 = .ok (.ldc2_w 291, 3) := by decide +kernel
theorem dX5_status_8 : decode cX5_status 8 = .ok (.invokestatic 44, 3) := by decide +kernel
theorem dX5_status_11 : decode cX5_status 11 = .ok (.ifCond .ne 10, 3) := by decide +kernel
theorem dX5_status_14 : decode cX5_status 14 = .ok (.aload_n 0, 1) := by decide +kernel
theorem dX5_status_15 : decode cX5_status 15 = .ok (.ldc 41, 2) := by decide +kernel
theorem dX5_status_17 : decode cX5_status 17 = .ok (.invokevirtual 67, 3) := by decide +kernel
theorem dX5_status_20 : decode cX5_status 20 = .ok (.ireturn, 1) := by decide +kernel
theorem dX5_status_21 : decode cX5_status 21 = .ok (.iconst 0, 1) := by decide +kernel
theorem dX5_status_22 : decode cX5_status 22 = .ok (.istore_n 2, 1) := by decide +kernel
theorem dX5_status_23 : decode cX5_status 23 = .ok (.iconst 0, 1) := by decide +kernel
theorem dX5_status_24 : decode cX5_status 24 = .ok (.istore_n 3, 1) := by decide +kernel
theorem dX5_status_25 : decode cX5_status 25 = .ok (.iload_n 3, 1) := by decide +kernel
theorem dX5_status_26 : decode cX5_status 26 = .ok (.bipush 7, 2) := by decide +kernel
theorem dX5_status_28 : decode cX5_status 28 = .ok (.if_icmp .ge 31, 3) := by decide +kernel
theorem dX5_status_31 : decode cX5_status 31 = .ok (.iload_n 2, 1) := by decide +kernel
theorem dX5_status_32 : decode cX5_status 32 = .ok (.iload_n 1, 1) := by decide +kernel
theorem dX5_status_33 : decode cX5_status 33 = .ok (.ifCond .lt 8, 3) := by decide +kernel
theorem dX5_status_36 : decode cX5_status 36 = .ok (.iload_n 3, 1) := by decide +kernel
theorem dX5_status_37 : decode cX5_status 37 = .ok (.iload_n 1, 1) := by decide +kernel
theorem dX5_status_38 : decode cX5_status 38 = .ok (.if_icmp .ne 12, 3) := by decide +kernel
theorem dX5_status_41 : decode cX5_status 41 = .ok (.aload_n 0, 1) := by decide +kernel
theorem dX5_status_42 : decode cX5_status 42 = .ok (.getfield 22, 3) := by decide +kernel
theorem dX5_status_45 : decode cX5_status 45 = .ok (.iload_n 3, 1) := by decide +kernel
theorem dX5_status_46 : decode cX5_status 46 = .ok (.iaload, 1) := by decide +kernel
theorem dX5_status_47 : decode cX5_status 47 = .ok (.goto 4, 3) := by decide +kernel
theorem dX5_status_50 : decode cX5_status 50 = .ok (.iconst 0, 1) := by decide +kernel
theorem dX5_status_51 : decode cX5_status 51 = .ok (.iadd, 1) := by decide +kernel
theorem dX5_status_52 : decode cX5_status 52 = .ok (.istore_n 2, 1) := by decide +kernel
theorem dX5_status_53 : decode cX5_status 53 = .ok (.iinc 3 1, 3) := by decide +kernel
theorem dX5_status_56 : decode cX5_status 56 = .ok (.goto (-31), 3) := by decide +kernel
theorem dX5_status_59 : decode cX5_status 59 = .ok (.iload_n 2, 1) := by decide +kernel
theorem dX5_status_60 : decode cX5_status 60 = .ok (.ireturn, 1) := by decide +kernel
