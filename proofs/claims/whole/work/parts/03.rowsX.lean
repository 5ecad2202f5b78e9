theorem dX0_init_0 : decode cX0_init 0 = .ok (.aload_n 0, 1) := by decide +kernel
theorem dX0_init_1 : decode cX0_init 1 = .ok (.invokespecial 3, 3) := by decide +kernel
theorem dX0_init_4 : decode cX0_init 4 = .ok (.aload_n 0, 1) := by decide +kernel
theorem dX0_init_5 : decode cX0_init 5 = .ok (.iconst 3, 1) := by decide +kernel
theorem dX0_init_6 : decode cX0_init 6 = .ok (.newarray .int, 2) := by decide +kernel
theorem dX0_init_8 : decode cX0_init 8 = .ok (.putfield 9, 3) := by decide +kernel
theorem dX0_init_11 : decode cX0_init 11 = .ok (.aload_n 0, 1) := by decide +kernel
theorem dX0_init_12 : decode cX0_init 12 = .ok (.iconst 3, 1) := by decide +kernel
theorem dX0_init_13 : decode cX0_init 13 = .ok (.newarray .long, 2) := by decide +kernel
theorem dX0_init_15 : decode cX0_init 15 = .ok (.putfield 15, 3) := by decide +kernel
theorem dX0_init_18 : decode cX0_init 18 = .ok (.aload_n 0, 1) := by decide +kernel
theorem dX0_init_19 : decode cX0_init 19 = .ok (.iconst 3, 1) := by decide +kernel
theorem dX0_init_20 : decode cX0_init 20 = .ok (.newarray .long, 2) := by decide +kernel
theorem dX0_init_22 : decode cX0_init 22 = .ok (.putfield 19, 3) := by decide +kernel
theorem dX0_init_25 : decode cX0_init 25 = .ok (.aload_n 0, 1) := by decide +kernel
theorem dX0_init_26 : decode cX0_init 26 = .ok (.iconst 3, 1) := by decide +kernel
theorem dX0_init_27 : decode cX0_init 27 = .ok (.newarray .long, 2) := by decide +kernel
theorem dX0_init_29 : decode cX0_init 29 = .ok (.putfield 22, 3) := by decide +kernel
theorem dX0_init_32 : decode cX0_init 32 = .ok (.aload_n 0, 1) := by decide +kernel
theorem dX0_init_33 : decode cX0_init 33 = .ok (.iconst 3, 1) := by decide +kernel
theorem dX0_init_34 : decode cX0_init 34 = .ok (.newarray .long, 2) := by decide +kernel
theorem dX0_init_36 : decode cX0_init 36 = .ok (.putfield 25, 3) := by decide +kernel
theorem dX0_init_39 : decode cX0_init 39 = .ok (.return_, 1) := by decide +kernel
set_option maxRecDepth 20000 in
theorem ggX0_plan_X3_goodAt : GoodIn wsX0_plan wsX3_goodAt := goodIn_r _ [9, 10, 11, 12, 8, 13, 29, 30, 31, 32, 33] (by decide +kernel) (by decide +kernel)
set_option maxRecDepth 20000 in
theorem gX0_plan_X3_goodAt : GoodIn wsX0_plan (wsV RX0 37 RX3 yX3_goodAt wsX3_goodAt) := goodIn_app (goodIn_of _ (by decide +kernel)) ggX0_plan_X3_goodAt
set_option maxRecDepth 20000 in
theorem ggX0_plan_X3_roundedDown : GoodIn wsX0_plan wsX3_roundedDown := goodIn_r _ [17, 18, 19, 11, 12, 8, 13, 20, 21, 22, 29, 30, 31, 32, 33] (by decide +kernel) (by decide +kernel)
set_option maxRecDepth 20000 in
theorem gX0_plan_X3_roundedDown : GoodIn wsX0_plan (wsV RX0 41 RX3 yX3_roundedDown wsX3_roundedDown) := goodIn_app (goodIn_of _ (by decide +kernel)) ggX0_plan_X3_roundedDown
theorem dX0_plan_0 : decode cX0_plan 0 = .ok (.aload_n 0, 1) := by decide +kernel
theorem dX0_plan_1 : decode cX0_plan 1 = .ok (.getfield 9, 3) := by decide +kernel
theorem dX0_plan_4 : decode cX0_plan 4 = .ok (.iconst 0, 1) := by decide +kernel
theorem dX0_plan_5 : decode cX0_plan 5 = .ok (.iload_n 2, 1) := by decide +kernel
theorem dX0_plan_6 : decode cX0_plan 6 = .ok (.iastore, 1) := by decide +kernel
theorem dX0_plan_7 : decode cX0_plan 7 = .ok (.aload_n 0, 1) := by decide +kernel
theorem dX0_plan_8 : decode cX0_plan 8 = .ok (.getfield 15, 3) := by decide +kernel
theorem dX0_plan_11 : decode cX0_plan 11 = .ok (.iconst 0, 1) := by decide +kernel
theorem dX0_plan_12 : decode cX0_plan 12 = .ok (.iload_n 3, 1) := by decide +kernel
theorem dX0_plan_13 : decode cX0_plan 13 = .ok (.i2l, 1) := by decide +kernel
theorem dX0_plan_14 : decode cX0_plan 14 = .ok (.lastore, 1) := by decide +kernel
theorem dX0_plan_15 : decode cX0_plan 15 = .ok (.aload_n 0, 1) := by decide +kernel
theorem dX0_plan_16 : decode cX0_plan 16 = .ok (.iconst 1, 1) := by decide +kernel
theorem dX0_plan_17 : decode cX0_plan 17 = .ok (.putfield 28, 3) := by decide +kernel
theorem dX0_plan_20 : decode cX0_plan 20 = .ok (.iconst 0, 1) := by decide +kernel
theorem dX0_plan_21 : decode cX0_plan 21 = .ok (.istore 4, 2) := by decide +kernel
theorem dX0_plan_23 : decode cX0_plan 23 = .ok (.iload 4, 2) := by decide +kernel
theorem dX0_plan_25 : decode cX0_plan 25 = .ok (.aload_n 1, 1) := by decide +kernel
theorem dX0_plan_26 : decode cX0_plan 26 = .ok (.getfield 32, 3) := by decide +kernel
theorem dX0_plan_29 : decode cX0_plan 29 = .ok (.iload_n 2, 1) := by decide +kernel
theorem dX0_plan_30 : decode cX0_plan 30 = .ok (.iaload, 1) := by decide +kernel
theorem dX0_plan_31 : decode cX0_plan 31 = .ok (.if_icmp .ge 60, 3) := by decide +kernel
theorem dX0_plan_34 : decode cX0_plan 34 = .ok (.aload_n 0, 1) := by decide +kernel
theorem dX0_plan_35 : decode cX0_plan 35 = .ok (.getfield 28, 3) := by decide +kernel
theorem dX0_plan_38 : decode cX0_plan 38 = .ok (.iconst 2, 1) := by decide +kernel
theorem dX0_plan_39 : decode cX0_plan 39 = .ok (.if_icmp .gt 52, 3) := by decide +kernel
theorem dX0_plan_42 : decode cX0_plan 42 = .ok (.aload_n 0, 1) := by decide +kernel
theorem dX0_plan_43 : decode cX0_plan 43 = .ok (.getfield 9, 3) := by decide +kernel
theorem dX0_plan_46 : decode cX0_plan 46 = .ok (.aload_n 0, 1) := by decide +kernel
theorem dX0_plan_47 : decode cX0_plan 47 = .ok (.getfield 28, 3) := by decide +kernel
theorem dX0_plan_50 : decode cX0_plan 50 = .ok (.aload_n 1, 1) := by decide +kernel
theorem dX0_plan_51 : decode cX0_plan 51 = .ok (.iload_n 2, 1) := by decide +kernel
theorem dX0_plan_52 : decode cX0_plan 52 = .ok (.iload 4, 2) := by decide +kernel
theorem dX0_plan_54 : decode cX0_plan 54 = .ok (.invokevirtual 37, 3) := by decide +kernel
theorem dX0_plan_57 : decode cX0_plan 57 = .ok (.iastore, 1) := by decide +kernel
theorem dX0_plan_58 : decode cX0_plan 58 = .ok (.aload_n 0, 1) := by decide +kernel
theorem dX0_plan_59 : decode cX0_plan 59 = .ok (.getfield 15, 3) := by decide +kernel
theorem dX0_plan_62 : decode cX0_plan 62 = .ok (.aload_n 0, 1) := by decide +kernel
theorem dX0_plan_63 : decode cX0_plan 63 = .ok (.getfield 28, 3) := by decide +kernel
theorem dX0_plan_66 : decode cX0_plan 66 = .ok (.aload_n 1, 1) := by decide +kernel
theorem dX0_plan_67 : decode cX0_plan 67 = .ok (.iload_n 2, 1) := by decide +kernel
theorem dX0_plan_68 : decode cX0_plan 68 = .ok (.iload 4, 2) := by decide +kernel
theorem dX0_plan_70 : decode cX0_plan 70 = .ok (.iload_n 3, 1) := by decide +kernel
theorem dX0_plan_71 : decode cX0_plan 71 = .ok (.invokevirtual 41, 3) := by decide +kernel
theorem dX0_plan_74 : decode cX0_plan 74 = .ok (.lastore, 1) := by decide +kernel
theorem dX0_plan_75 : decode cX0_plan 75 = .ok (.aload_n 0, 1) := by decide +kernel
theorem dX0_plan_76 : decode cX0_plan 76 = .ok (.dup, 1) := by decide +kernel
theorem dX0_plan_77 : decode cX0_plan 77 = .ok (.getfield 28, 3) := by decide +kernel
theorem dX0_plan_80 : decode cX0_plan 80 = .ok (.iconst 1, 1) := by decide +kernel
theorem dX0_plan_81 : decode cX0_plan 81 = .ok (.iadd, 1) := by decide +kernel
theorem dX0_plan_82 : decode cX0_plan 82 = .ok (.putfield 28, 3) := by decide +kernel
theorem dX0_plan_85 : decode cX0_plan 85 = .ok (.iinc 4 1, 3) := by decide +kernel
theorem dX0_plan_88 : decode cX0_plan 88 = .ok (.goto (-65), 3) := by decide +kernel
theorem dX0_plan_91 : decode cX0_plan 91 = .ok (.return_, 1) := by decide +kernel
theorem dX0_lotsToAdd_0 : decode cX0_lotsToAdd 0 = .ok (.iconst 0, 1) := by decide +kernel
theorem dX0_lotsToAdd_1 : decode cX0_lotsToAdd 1 = .ok (.istore_n 1, 1) := by decide +kernel
theorem dX0_lotsToAdd_2 : decode cX0_lotsToAdd 2 = .ok (.iconst 0, 1) := by decide +kernel
theorem dX0_lotsToAdd_3 : decode cX0_lotsToAdd 3 = .ok (.istore_n 2, 1) := by decide +kernel
theorem dX0_lotsToAdd_4 : decode cX0_lotsToAdd 4 = .ok (.iload_n 2, 1) := by decide +kernel
theorem dX0_lotsToAdd_5 : decode cX0_lotsToAdd 5 = .ok (.aload_n 0, 1) := by decide +kernel
theorem dX0_lotsToAdd_6 : decode cX0_lotsToAdd 6 = .ok (.getfield 28, 3) := by decide +kernel
theorem dX0_lotsToAdd_9 : decode cX0_lotsToAdd 9 = .ok (.if_icmp .ge 28, 3) := by decide +kernel
theorem dX0_lotsToAdd_12 : decode cX0_lotsToAdd 12 = .ok (.iload_n 1, 1) := by decide +kernel
theorem dX0_lotsToAdd_13 : decode cX0_lotsToAdd 13 = .ok (.aload_n 0, 1) := by decide +kernel
theorem dX0_lotsToAdd_14 : decode cX0_lotsToAdd 14 = .ok (.getfield 15, 3) := by decide +kernel
theorem dX0_lotsToAdd_17 : decode cX0_lotsToAdd 17 = .ok (.iload_n 2, 1) := by decide +kernel
theorem dX0_lotsToAdd_18 : decode cX0_lotsToAdd 18 = .ok (.laload, 1) := by decide +kernel
theorem dX0_lotsToAdd_19 : decode cX0_lotsToAdd 19 = .ok (.lconst 0, 1) := by decide +kernel
theorem dX0_lotsToAdd_20 : decode cX0_lotsToAdd 20 = .ok (.lcmp, 1) := by decide +kernel
theorem dX0_lotsToAdd_21 : decode cX0_lotsToAdd 21 = .ok (.ifCond .le 7, 3) := by decide +kernel
theorem dX0_lotsToAdd_24 : decode cX0_lotsToAdd 24 = .ok (.iconst 1, 1) := by decide +kernel
theorem dX0_lotsToAdd_25 : decode cX0_lotsToAdd 25 = .ok (.goto 4, 3) := by decide +kernel
theorem dX0_lotsToAdd_28 : decode cX0_lotsToAdd 28 = .ok (.iconst 0, 1) := by decide +kernel
theorem dX0_lotsToAdd_29 : decode cX0_lotsToAdd 29 = .ok (.iadd, 1) := by decide +kernel
theorem dX0_lotsToAdd_30 : decode cX0_lotsToAdd 30 = .ok (.istore_n 1, 1) := by decide +kernel
theorem dX0_lotsToAdd_31 : decode cX0_lotsToAdd 31 = .ok (.iinc 2 1, 3) := by decide +kernel
theorem dX0_lotsToAdd_34 : decode cX0_lotsToAdd 34 = .ok (.goto (-30), 3) := by decide +kernel
theorem dX0_lotsToAdd_37 : decode cX0_lotsToAdd 37 = .ok (.iload_n 1, 1) := by decide +kernel
theorem dX0_lotsToAdd_38 : decode cX0_lotsToAdd 38 = .ok (.ireturn, 1) := by decide +kernel
theorem dX0_weigh_0 : decode cX0_weigh 0 = .ok (.iconst 0, 1) := by decide +kernel
theorem dX0_weigh_1 : decode cX0_weigh 1 = .ok (.istore_n 3, 1) := by decide +kernel
theorem dX0_weigh_2 : decode cX0_weigh 2 = .ok (.iload_n 3, 1) := by decide +kernel
theorem dX0_weigh_3 : decode cX0_weigh 3 = .ok (.aload_n 0, 1) := by decide +kernel
theorem dX0_weigh_4 : decode cX0_weigh 4 = .ok (.getfield 28, 3) := by decide +kernel
theorem dX0_weigh_7 : decode cX0_weigh 7 = .ok (.if_icmp .ge 44, 3) := by decide +kernel
theorem dX0_weigh_10 : decode cX0_weigh 10 = .ok (.aload_n 0, 1) := by decide +kernel
theorem dX0_weigh_11 : decode cX0_weigh 11 = .ok (.getfield 19, 3) := by decide +kernel
theorem dX0_weigh_14 : decode cX0_weigh 14 = .ok (.iload_n 3, 1) := by decide +kernel
theorem dX0_weigh_15 : decode cX0_weigh 15 = .ok (.iload_n 2, 1) := by decide +kernel
theorem dX0_weigh_16 : decode cX0_weigh 16 = .ok (.ifCond .eq 22, 3) := by decide +kernel
theorem dX0_weigh_19 : decode cX0_weigh 19 = .ok (.aload_n 0, 1) := by decide +kernel
theorem dX0_weigh_20 : decode cX0_weigh 20 = .ok (.getfield 15, 3) := by decide +kernel
theorem dX0_weigh_23 : decode cX0_weigh 23 = .ok (.iload_n 3, 1) := by decide +kernel
theorem dX0_weigh_24 : decode cX0_weigh 24 = .ok (.laload, 1) := by decide +kernel
theorem dX0_weigh_25 : decode cX0_weigh 25 = .ok (.aload_n 1, 1) := by decide +kernel
theorem dX0_weigh_26 : decode cX0_weigh 26 = .ok (.aload_n 0, 1) := by decide +kernel
theorem dX0_weigh_27 : decode cX0_weigh 27 = .ok (.getfield 9, 3) := by decide +kernel
theorem dX0_weigh_30 : decode cX0_weigh 30 = .ok (.iload_n 3, 1) := by decide +kernel
theorem dX0_weigh_31 : decode cX0_weigh 31 = .ok (.iaload, 1) := by decide +kernel
theorem dX0_weigh_32 : decode cX0_weigh 32 = .ok (.iaload, 1) := by decide +kernel
theorem dX0_weigh_33 : decode cX0_weigh 33 = .ok (.i2l, 1) := by decide +kernel
theorem dX0_weigh_34 : decode cX0_weigh 34 = .ok (.lmul, 1) := by decide +kernel
theorem dX0_weigh_35 : decode cX0_weigh 35 = .ok (.goto 9, 3) := by decide +kernel
theorem dX0_weigh_38 : decode cX0_weigh 38 = .ok (.aload_n 0, 1) := by decide +kernel
theorem dX0_weigh_39 : decode cX0_weigh 39 = .ok (.getfield 15, 3) := by decide +kernel
theorem dX0_weigh_42 : decode cX0_weigh 42 = .ok (.iload_n 3, 1) := by decide +kernel
theorem dX0_weigh_43 : decode cX0_weigh 43 = .ok (.laload, 1) := by decide +kernel
theorem dX0_weigh_44 : decode cX0_weigh 44 = .ok (.lastore, 1) := by decide +kernel
theorem dX0_weigh_45 : decode cX0_weigh 45 = .ok (.iinc 3 1, 3) := by decide +kernel
theorem dX0_weigh_48 : decode cX0_weigh 48 = .ok (.goto (-46), 3) := by decide +kernel
theorem dX0_weigh_51 : decode cX0_weigh 51 = .ok (.return_, 1) := by decide +kernel
set_option maxRecDepth 20000 in
theorem ggX0_apportion_X6_floorOf : GoodIn wsX0_apportion wsX6_floorOf := goodIn_r _ [7] (by decide +kernel) (by decide +kernel)
set_option maxRecDepth 20000 in
theorem gX0_apportion_X6_floorOf_n45 : GoodIn wsX0_apportion (wsX6_floorOf) := ggX0_apportion_X6_floorOf
set_option maxRecDepth 20000 in
theorem ggX0_apportion_X0_spread : GoodIn wsX0_apportion wsX0_spread := goodIn_r _ [12, 1, 3, 4, 13, 14, 15, 16, 11, 17, 18, 19, 20, 21, 22, 23] (by decide +kernel) (by decide +kernel)
set_option maxRecDepth 20000 in
theorem gX0_apportion_X0_spread : GoodIn wsX0_apportion (wsV RX0 49 RX0 yX0_spread wsX0_spread) := goodIn_app (goodIn_of _ (by decide +kernel)) ggX0_apportion_X0_spread
theorem dX0_apportion_0 : decode cX0_apportion 0 = .ok (.lconst 0, 1) := by decide +kernel
theorem dX0_apportion_1 : decode cX0_apportion 1 = .ok (.lstore_n 3, 1) := by decide +kernel
theorem dX0_apportion_2 : decode cX0_apportion 2 = .ok (.iconst 0, 1) := by decide +kernel
theorem dX0_apportion_3 : decode cX0_apportion 3 = .ok (.istore 5, 2) := by decide +kernel
theorem dX0_apportion_5 : decode cX0_apportion 5 = .ok (.iload 5, 2) := by decide +kernel
theorem dX0_apportion_7 : decode cX0_apportion 7 = .ok (.aload_n 0, 1) := by decide +kernel
theorem dX0_apportion_8 : decode cX0_apportion 8 = .ok (.getfield 28, 3) := by decide +kernel
theorem dX0_apportion_11 : decode cX0_apportion 11 = .ok (.if_icmp .ge 19, 3) := by decide +kernel
theorem dX0_apportion_14 : decode cX0_apportion 14 = .ok (.lload_n 3, 1) := by decide +kernel
theorem dX0_apportion_15 : decode cX0_apportion 15 = .ok (.aload_n 0, 1) := by decide +kernel
theorem dX0_apportion_16 : decode cX0_apportion 16 = .ok (.getfield 19, 3) := by decide +kernel
theorem dX0_apportion_19 : decode cX0_apportion 19 = .ok (.iload 5, 2) := by decide +kernel
theorem dX0_apportion_21 : decode cX0_apportion 21 = .ok (.laload, 1) := by decide +kernel
theorem dX0_apportion_22 : decode cX0_apportion 22 = .ok (.ladd, 1) := by decide +kernel
theorem dX0_apportion_23 : decode cX0_apportion 23 = .ok (.lstore_n 3, 1) := by decide +kernel
theorem dX0_apportion_24 : decode cX0_apportion 24 = .ok (.iinc 5 1, 3) := by decide +kernel
theorem dX0_apportion_27 : decode cX0_apportion 27 = .ok (.goto (-22), 3) := by decide +kernel
theorem dX0_apportion_30 : decode cX0_apportion 30 = .ok (.lload_n 1, 1) := by decide +kernel
theorem dX0_apportion_31 : decode cX0_apportion 31 = .ok (.lstore 5, 2) := by decide +kernel
theorem dX0_apportion_33 : decode cX0_apportion 33 = .ok (.iconst 0, 1) := by decide +kernel
theorem dX0_apportion_34 : decode cX0_apportion 34 = .ok (.istore 7, 2) := by decide +kernel
theorem dX0_apportion_36 : decode cX0_apportion 36 = .ok (.iload 7, 2) := by decide +kernel
theorem dX0_apportion_38 : decode cX0_apportion 38 = .ok (.aload_n 0, 1) := by decide +kernel
theorem dX0_apportion_39 : decode cX0_apportion 39 = .ok (.getfield 28, 3) := by decide +kernel
theorem dX0_apportion_42 : decode cX0_apportion 42 = .ok (.if_icmp .ge 67, 3) := by decide +kernel
theorem dX0_apportion_45 : decode cX0_apportion 45 = .ok (.aload_n 0, 1) := by decide +kernel
theorem dX0_apportion_46 : decode cX0_apportion 46 = .ok (.getfield 22, 3) := by decide +kernel
theorem dX0_apportion_49 : decode cX0_apportion 49 = .ok (.iload 7, 2) := by decide +kernel
theorem dX0_apportion_51 : decode cX0_apportion 51 = .ok (.lload_n 1, 1) := by decide +kernel
theorem dX0_apportion_52 : decode cX0_apportion 52 = .ok (.aload_n 0, 1) := by decide +kernel
theorem dX0_apportion_53 : decode cX0_apportion 53 = .ok (.getfield 19, 3) := by decide +kernel
theorem dX0_apportion_56 : decode cX0_apportion 56 = .ok (.iload 7, 2) := by decide +kernel
theorem dX0_apportion_58 : decode cX0_apportion 58 = .ok (.laload, 1) := by decide +kernel
theorem dX0_apportion_59 : decode cX0_apportion 59 = .ok (.lmul, 1) := by decide +kernel
theorem dX0_apportion_60 : decode cX0_apportion 60 = .ok (.lload_n 3, 1) := by decide +kernel
theorem dX0_apportion_61 : decode cX0_apportion 61 = .ok (.invokestatic 45, 3) := by decide +kernel
theorem dX0_apportion_64 : decode cX0_apportion 64 = .ok (.lastore, 1) := by decide +kernel
theorem dX0_apportion_65 : decode cX0_apportion 65 = .ok (.aload_n 0, 1) := by decide +kernel
theorem dX0_apportion_66 : decode cX0_apportion 66 = .ok (.getfield 25, 3) := by decide +kernel
theorem dX0_apportion_69 : decode cX0_apportion 69 = .ok (.iload 7, 2) := by decide +kernel
theorem dX0_apportion_71 : decode cX0_apportion 71 = .ok (.lload_n 1, 1) := by decide +kernel
theorem dX0_apportion_72 : decode cX0_apportion 72 = .ok (.aload_n 0, 1) := by decide +kernel
theorem dX0_apportion_73 : decode cX0_apportion 73 = .ok (.getfield 19, 3) := by decide +kernel
theorem dX0_apportion_76 : decode cX0_apportion 76 = .ok (.iload 7, 2) := by decide +kernel
theorem dX0_apportion_78 : decode cX0_apportion 78 = .ok (.laload, 1) := by decide +kernel
theorem dX0_apportion_79 : decode cX0_apportion 79 = .ok (.lmul, 1) := by decide +kernel
theorem dX0_apportion_80 : decode cX0_apportion 80 = .ok (.aload_n 0, 1) := by decide +kernel
theorem dX0_apportion_81 : decode cX0_apportion 81 = .ok (.getfield 22, 3) := by decide +kernel
theorem dX0_apportion_84 : decode cX0_apportion 84 = .ok (.iload 7, 2) := by decide +kernel
theorem dX0_apportion_86 : decode cX0_apportion 86 = .ok (.laload, 1) := by decide +kernel
theorem dX0_apportion_87 : decode cX0_apportion 87 = .ok (.lload_n 3, 1) := by decide +kernel
theorem dX0_apportion_88 : decode cX0_apportion 88 = .ok (.lmul, 1) := by decide +kernel
theorem dX0_apportion_89 : decode cX0_apportion 89 = .ok (.lsub, 1) := by decide +kernel
theorem dX0_apportion_90 : decode cX0_apportion 90 = .ok (.lastore, 1) := by decide +kernel
theorem dX0_apportion_91 : decode cX0_apportion 91 = .ok (.lload 5, 2) := by decide +kernel
theorem dX0_apportion_93 : decode cX0_apportion 93 = .ok (.aload_n 0, 1) := by decide +kernel
theorem dX0_apportion_94 : decode cX0_apportion 94 = .ok (.getfield 22, 3) := by decide +kernel
theorem dX0_apportion_97 : decode cX0_apportion 97 = .ok (.iload 7, 2) := by decide +kernel
theorem dX0_apportion_99 : decode cX0_apportion 99 = .ok (.laload, 1) := by decide +kernel
theorem dX0_apportion_100 : decode cX0_apportion 100 = .ok (.lsub, 1) := by decide +kernel
theorem dX0_apportion_101 : decode cX0_apportion 101 = .ok (.lstore 5, 2) := by decide +kernel
theorem dX0_apportion_103 : decode cX0_apportion 103 = .ok (.iinc 7 1, 3) := by decide +kernel
theorem dX0_apportion_106 : decode cX0_apportion 106 = .ok (.goto (-70), 3) := by decide +kernel
theorem dX0_apportion_109 : decode cX0_apportion 109 = .ok (.lload_n 3, 1) := by decide +kernel
theorem dX0_apportion_110 : decode cX0_apportion 110 = .ok (.lconst 0, 1) := by decide +kernel
theorem dX0_apportion_111 : decode cX0_apportion 111 = .ok (.lcmp, 1) := by decide +kernel
theorem dX0_apportion_112 : decode cX0_apportion 112 = .ok (.ifCond .ne 14, 3) := by decide +kernel
theorem dX0_apportion_115 : decode cX0_apportion 115 = .ok (.aload_n 0, 1) := by decide +kernel
theorem dX0_apportion_116 : decode cX0_apportion 116 = .ok (.getfield 22, 3) := by decide +kernel
theorem dX0_apportion_119 : decode cX0_apportion 119 = .ok (.iconst 0, 1) := by decide +kernel
theorem dX0_apportion_120 : decode cX0_apportion 120 = .ok (.lload 5, 2) := by decide +kernel
theorem dX0_apportion_122 : decode cX0_apportion 122 = .ok (.lastore, 1) := by decide +kernel
theorem dX0_apportion_123 : decode cX0_apportion 123 = .ok (.goto 9, 3) := by decide +kernel
theorem dX0_apportion_126 : decode cX0_apportion 126 = .ok (.aload_n 0, 1) := by decide +kernel
theorem dX0_apportion_127 : decode cX0_apportion 127 = .ok (.lload 5, 2) := by decide +kernel
theorem dX0_apportion_129 : decode cX0_apportion 129 = .ok (.invokevirtual 49, 3) := by decide +kernel
theorem dX0_apportion_132 : decode cX0_apportion 132 = .ok (.return_, 1) := by decide +kernel
set_option maxRecDepth 20000 in
theorem ggX0_spread_X0_greatestRemainder : GoodIn wsX0_spread wsX0_greatestRemainder := goodIn_r _ [9, 1, 3, 10, 11, 12, 13, 14, 15] (by decide +kernel) (by decide +kernel)
set_option maxRecDepth 20000 in
theorem gX0_spread_X0_greatestRemainder : GoodIn wsX0_spread (wsV RX0 53 RX0 yX0_greatestRemainder wsX0_greatestRemainder) := goodIn_app (goodIn_of _ (by decide +kernel)) ggX0_spread_X0_greatestRemainder
theorem dX0_spread_0 : decode cX0_spread 0 = .ok (.iconst 0, 1) := by decide +kernel
theorem dX0_spread_1 : decode cX0_spread 1 = .ok (.istore_n 3, 1) := by decide +kernel
theorem dX0_spread_2 : decode cX0_spread 2 = .ok (.iload_n 3, 1) := by decide +kernel
theorem dX0_spread_3 : decode cX0_spread 3 = .ok (.aload_n 0, 1) := by decide +kernel
theorem dX0_spread_4 : decode cX0_spread 4 = .ok (.getfield 28, 3) := by decide +kernel
theorem dX0_spread_7 : decode cX0_spread 7 = .ok (.if_icmp .ge 43, 3) := by decide +kernel
theorem dX0_spread_10 : decode cX0_spread 10 = .ok (.iload_n 3, 1) := by decide +kernel
theorem dX0_spread_11 : decode cX0_spread 11 = .ok (.i2l, 1) := by decide +kernel
theorem dX0_spread_12 : decode cX0_spread 12 = .ok (.lload_n 1, 1) := by decide +kernel
theorem dX0_spread_13 : decode cX0_spread 13 = .ok (.lcmp, 1) := by decide +kernel
theorem dX0_spread_14 : decode cX0_spread 14 = .ok (.ifCond .ge 36, 3) := by decide +kernel
theorem dX0_spread_17 : decode cX0_spread 17 = .ok (.aload_n 0, 1) := by decide +kernel
theorem dX0_spread_18 : decode cX0_spread 18 = .ok (.invokevirtual 53, 3) := by decide +kernel
theorem dX0_spread_21 : decode cX0_spread 21 = .ok (.istore 4, 2) := by decide +kernel
theorem dX0_spread_23 : decode cX0_spread 23 = .ok (.aload_n 0, 1) := by decide +kernel
theorem dX0_spread_24 : decode cX0_spread 24 = .ok (.getfield 22, 3) := by decide +kernel
theorem dX0_spread_27 : decode cX0_spread 27 = .ok (.iload 4, 2) := by decide +kernel
theorem dX0_spread_29 : decode cX0_spread 29 = .ok (.dup2, 1) := by decide +kernel
theorem dX0_spread_30 : decode cX0_spread 30 = .ok (.laload, 1) := by decide +kernel
theorem dX0_spread_31 : decode cX0_spread 31 = .ok (.lconst 1, 1) := by decide +kernel
theorem dX0_spread_32 : decode cX0_spread 32 = .ok (.ladd, 1) := by decide +kernel
theorem dX0_spread_33 : decode cX0_spread 33 = .ok (.lastore, 1) := by decide +kernel
theorem dX0_spread_34 : decode cX0_spread 34 = .ok (.aload_n 0, 1) := by decide +kernel
theorem dX0_spread_35 : decode cX0_spread 35 = .ok (.getfield 25, 3) := by decide +kernel
theorem dX0_spread_38 : decode cX0_spread 38 = .ok (.iload 4, 2) := by decide +kernel
theorem dX0_spread_40 : decode cX0_spread 40 = .ok (.ldc2_w 57, 3) := by decide +kernel
theorem dX0_spread_43 : decode cX0_spread 43 = .ok (.lastore, 1) := by decide +kernel
theorem dX0_spread_44 : decode cX0_spread 44 = .ok (.iinc 3 1, 3) := by decide +kernel
theorem dX0_spread_47 : decode cX0_spread 47 = .ok (.goto (-45), 3) := by decide +kernel
theorem dX0_spread_50 : decode cX0_spread 50 = .ok (.return_, 1) := by decide +kernel
theorem dX0_greatestRemainder_0 : decode cX0_greatestRemainder 0 = .ok (.iconst 0, 1) := by decide +kernel
theorem dX0_greatestRemainder_1 : decode cX0_greatestRemainder 1 = .ok (.istore_n 1, 1) := by decide +kernel
theorem dX0_greatestRemainder_2 : decode cX0_greatestRemainder 2 = .ok (.iconst 1, 1) := by decide +kernel
theorem dX0_greatestRemainder_3 : decode cX0_greatestRemainder 3 = .ok (.istore_n 2, 1) := by decide +kernel
theorem dX0_greatestRemainder_4 : decode cX0_greatestRemainder 4 = .ok (.iload_n 2, 1) := by decide +kernel
theorem dX0_greatestRemainder_5 : decode cX0_greatestRemainder 5 = .ok (.aload_n 0, 1) := by decide +kernel
theorem dX0_greatestRemainder_6 : decode cX0_greatestRemainder 6 = .ok (.getfield 28, 3) := by decide +kernel
theorem dX0_greatestRemainder_9 : decode cX0_greatestRemainder 9 = .ok (.if_icmp .ge 27, 3) := by decide +kernel
theorem dX0_greatestRemainder_12 : decode cX0_greatestRemainder 12 = .ok (.aload_n 0, 1) := by decide +kernel
theorem dX0_greatestRemainder_13 : decode cX0_greatestRemainder 13 = .ok (.getfield 25, 3) := by decide +kernel
theorem dX0_greatestRemainder_16 : decode cX0_greatestRemainder 16 = .ok (.iload_n 2, 1) := by decide +kernel
theorem dX0_greatestRemainder_17 : decode cX0_greatestRemainder 17 = .ok (.laload, 1) := by decide +kernel
theorem dX0_greatestRemainder_18 : decode cX0_greatestRemainder 18 = .ok (.aload_n 0, 1) := by decide +kernel
theorem dX0_greatestRemainder_19 : decode cX0_greatestRemainder 19 = .ok (.getfield 25, 3) := by decide +kernel
theorem dX0_greatestRemainder_22 : decode cX0_greatestRemainder 22 = .ok (.iload_n 1, 1) := by decide +kernel
theorem dX0_greatestRemainder_23 : decode cX0_greatestRemainder 23 = .ok (.laload, 1) := by decide +kernel
theorem dX0_greatestRemainder_24 : decode cX0_greatestRemainder 24 = .ok (.lcmp, 1) := by decide +kernel
theorem dX0_greatestRemainder_25 : decode cX0_greatestRemainder 25 = .ok (.ifCond .le 5, 3) := by decide +kernel
theorem dX0_greatestRemainder_28 : decode cX0_greatestRemainder 28 = .ok (.iload_n 2, 1) := by decide +kernel
theorem dX0_greatestRemainder_29 : decode cX0_greatestRemainder 29 = .ok (.istore_n 1, 1) := by decide +kernel
theorem dX0_greatestRemainder_30 : decode cX0_greatestRemainder 30 = .ok (.iinc 2 1, 3) := by decide +kernel
theorem dX0_greatestRemainder_33 : decode cX0_greatestRemainder 33 = .ok (.goto (-29), 3) := by decide +kernel
theorem dX0_greatestRemainder_36 : decode cX0_greatestRemainder 36 = .ok (.iload_n 1, 1) := by decide +kernel
theorem dX0_greatestRemainder_37 : decode cX0_greatestRemainder 37 = .ok (.ireturn, 1) := by decide +kernel
set_option maxRecDepth 20000 in
theorem ggX0_store_X2_add : GoodIn wsX0_store wsX2_add := goodIn_r _ [9, 10, 11, 12, 13, 14, 21, 22, 23, 24, 25, 26] (by decide +kernel) (by decide +kernel)
set_option maxRecDepth 20000 in
theorem gX0_store_X2_add : GoodIn wsX0_store (wsV RX0 59 RX2 yX2_add wsX2_add) := goodIn_app (goodIn_of _ (by decide +kernel)) ggX0_store_X2_add
theorem dX0_store_0 : decode cX0_store 0 = .ok (.iconst 0, 1) := by decide +kernel
theorem dX0_store_1 : decode cX0_store 1 = .ok (.istore_n 3, 1) := by decide +kernel
theorem dX0_store_2 : decode cX0_store 2 = .ok (.iload_n 3, 1) := by decide +kernel
theorem dX0_store_3 : decode cX0_store 3 = .ok (.aload_n 0, 1) := by decide +kernel
theorem dX0_store_4 : decode cX0_store 4 = .ok (.getfield 28, 3) := by decide +kernel
theorem dX0_store_7 : decode cX0_store 7 = .ok (.if_icmp .ge 44, 3) := by decide +kernel
theorem dX0_store_10 : decode cX0_store 10 = .ok (.aload_n 0, 1) := by decide +kernel
theorem dX0_store_11 : decode cX0_store 11 = .ok (.getfield 15, 3) := by decide +kernel
theorem dX0_store_14 : decode cX0_store 14 = .ok (.iload_n 3, 1) := by decide +kernel
theorem dX0_store_15 : decode cX0_store 15 = .ok (.laload, 1) := by decide +kernel
theorem dX0_store_16 : decode cX0_store 16 = .ok (.lconst 0, 1) := by decide +kernel
theorem dX0_store_17 : decode cX0_store 17 = .ok (.lcmp, 1) := by decide +kernel
theorem dX0_store_18 : decode cX0_store 18 = .ok (.ifCond .le 27, 3) := by decide +kernel
theorem dX0_store_21 : decode cX0_store 21 = .ok (.aload_n 1, 1) := by decide +kernel
theorem dX0_store_22 : decode cX0_store 22 = .ok (.aload_n 0, 1) := by decide +kernel
theorem dX0_store_23 : decode cX0_store 23 = .ok (.getfield 9, 3) := by decide +kernel
theorem dX0_store_26 : decode cX0_store 26 = .ok (.iload_n 3, 1) := by decide +kernel
theorem dX0_store_27 : decode cX0_store 27 = .ok (.iaload, 1) := by decide +kernel
theorem dX0_store_28 : decode cX0_store 28 = .ok (.aload_n 0, 1) := by decide +kernel
theorem dX0_store_29 : decode cX0_store 29 = .ok (.getfield 15, 3) := by decide +kernel
theorem dX0_store_32 : decode cX0_store 32 = .ok (.iload_n 3, 1) := by decide +kernel
theorem dX0_store_33 : decode cX0_store 33 = .ok (.laload, 1) := by decide +kernel
theorem dX0_store_34 : decode cX0_store 34 = .ok (.aload_n 0, 1) := by decide +kernel
theorem dX0_store_35 : decode cX0_store 35 = .ok (.getfield 22, 3) := by decide +kernel
theorem dX0_store_38 : decode cX0_store 38 = .ok (.iload_n 3, 1) := by decide +kernel
theorem dX0_store_39 : decode cX0_store 39 = .ok (.laload, 1) := by decide +kernel
theorem dX0_store_40 : decode cX0_store 40 = .ok (.iload_n 2, 1) := by decide +kernel
theorem dX0_store_41 : decode cX0_store 41 = .ok (.invokevirtual 59, 3) := by decide +kernel
theorem dX0_store_44 : decode cX0_store 44 = .ok (.pop, 1) := by decide +kernel
theorem dX0_store_45 : decode cX0_store 45 = .ok (.iinc 3 1, 3) := by decide +kernel
theorem dX0_store_48 : decode cX0_store 48 = .ok (.goto (-46), 3) := by decide +kernel
theorem dX0_store_51 : decode cX0_store 51 = .ok (.return_, 1) := by decide +kernel
theorem dX1_init_0 : decode cX1_init 0 = .ok (.aload_n 0, 1) := by decide +kernel
theorem dX1_init_1 : decode cX1_init 1 = .ok (.invokespecial 3, 3) := by decide +kernel
theorem dX1_init_4 : decode cX1_init 4 = .ok (.aload_n 0, 1) := by decide +kernel
theorem dX1_init_5 : decode cX1_init 5 = .ok (.bipush 12, 2) := by decide +kernel
theorem dX1_init_7 : decode cX1_init 7 = .ok (.newarray .long, 2) := by decide +kernel
theorem dX1_init_9 : decode cX1_init 9 = .ok (.putfield 9, 3) := by decide +kernel
theorem dX1_init_12 : decode cX1_init 12 = .ok (.aload_n 0, 1) := by decide +kernel
theorem dX1_init_13 : decode cX1_init 13 = .ok (.bipush 12, 2) := by decide +kernel
theorem dX1_init_15 : decode cX1_init 15 = .ok (.newarray .long, 2) := by decide +kernel
theorem dX1_init_17 : decode cX1_init 17 = .ok (.putfield 15, 3) := by decide +kernel
theorem dX1_init_20 : decode cX1_init 20 = .ok (.return_, 1) := by decide +kernel
set_option maxRecDepth 20000 in
theorem ggX1_trace_X1_gather : GoodIn wsX1_trace wsX1_gather := goodIn_r _ [9, 10, 11, 1, 12, 2, 13, 14, 15, 16, 17, 18, 19, 20, 8, 21, 22, 23, 24, 25, 26, 27, 35, 36, 37, 38, 39, 28, 29] (by decide +kernel) (by decide +kernel)
set_option maxRecDepth 20000 in
theorem gX1_trace_X1_gather : GoodIn wsX1_trace (wsV RX1 28 RX1 yX1_gather wsX1_gather) := goodIn_app (goodIn_of _ (by decide +kernel)) ggX1_trace_X1_gather
theorem dX1_trace_0 : decode cX1_trace 0 = .ok (.iconst 0, 1) := by decide +kernel
theorem dX1_trace_1 : decode cX1_trace 1 = .ok (.istore_n 3, 1) := by decide +kernel
theorem dX1_trace_2 : decode cX1_trace 2 = .ok (.iload_n 3, 1) := by decide +kernel
theorem dX1_trace_3 : decode cX1_trace 3 = .ok (.bipush 12, 2) := by decide +kernel
theorem dX1_trace_5 : decode cX1_trace 5 = .ok (.if_icmp .ge 32, 3) := by decide +kernel
theorem dX1_trace_8 : decode cX1_trace 8 = .ok (.aload_n 0, 1) := by decide +kernel
theorem dX1_trace_9 : decode cX1_trace 9 = .ok (.getfield 9, 3) := by decide +kernel
theorem dX1_trace_12 : decode cX1_trace 12 = .ok (.iload_n 3, 1) := by decide +kernel
theorem dX1_trace_13 : decode cX1_trace 13 = .ok (.iload_n 3, 1) := by decide +kernel
theorem dX1_trace_14 : decode cX1_trace 14 = .ok (.iload_n 2, 1) := by decide +kernel
theorem dX1_trace_15 : decode cX1_trace 15 = .ok (.if_icmp .ne 7, 3) := by decide +kernel
theorem dX1_trace_18 : decode cX1_trace 18 = .ok (.lconst 1, 1) := by decide +kernel
theorem dX1_trace_19 : decode cX1_trace 19 = .ok (.goto 4, 3) := by decide +kernel
theorem dX1_trace_22 : decode cX1_trace 22 = .ok (.lconst 0, 1) := by decide +kernel
theorem dX1_trace_23 : decode cX1_trace 23 = .ok (.lastore, 1) := by decide +kernel
theorem dX1_trace_24 : decode cX1_trace 24 = .ok (.aload_n 0, 1) := by decide +kernel
theorem dX1_trace_25 : decode cX1_trace 25 = .ok (.getfield 15, 3) := by decide +kernel
theorem dX1_trace_28 : decode cX1_trace 28 = .ok (.iload_n 3, 1) := by decide +kernel
theorem dX1_trace_29 : decode cX1_trace 29 = .ok (.lconst 1, 1) := by decide +kernel
theorem dX1_trace_30 : decode cX1_trace 30 = .ok (.lastore, 1) := by decide +kernel
theorem dX1_trace_31 : decode cX1_trace 31 = .ok (.iinc 3 1, 3) := by decide +kernel
theorem dX1_trace_34 : decode cX1_trace 34 = .ok (.goto (-32), 3) := by decide +kernel
theorem dX1_trace_37 : decode cX1_trace 37 = .ok (.iconst 1, 1) := by decide +kernel
theorem dX1_trace_38 : decode cX1_trace 38 = .ok (.istore_n 3, 1) := by decide +kernel
theorem dX1_trace_39 : decode cX1_trace 39 = .ok (.iload_n 3, 1) := by decide +kernel
theorem dX1_trace_40 : decode cX1_trace 40 = .ok (.iconst 3, 1) := by decide +kernel
theorem dX1_trace_41 : decode cX1_trace 41 = .ok (.if_icmp .gt 52, 3) := by decide +kernel
theorem dX1_trace_44 : decode cX1_trace 44 = .ok (.iconst 0, 1) := by decide +kernel
theorem dX1_trace_45 : decode cX1_trace 45 = .ok (.istore 4, 2) := by decide +kernel
theorem dX1_trace_47 : decode cX1_trace 47 = .ok (.iload 4, 2) := by decide +kernel
theorem dX1_trace_49 : decode cX1_trace 49 = .ok (.bipush 12, 2) := by decide +kernel
theorem dX1_trace_51 : decode cX1_trace 51 = .ok (.if_icmp .ge 36, 3) := by decide +kernel
theorem dX1_trace_54 : decode cX1_trace 54 = .ok (.aload_n 1, 1) := by decide +kernel
theorem dX1_trace_55 : decode cX1_trace 55 = .ok (.getfield 18, 3) := by decide +kernel
theorem dX1_trace_58 : decode cX1_trace 58 = .ok (.iload 4, 2) := by decide +kernel
theorem dX1_trace_60 : decode cX1_trace 60 = .ok (.iaload, 1) := by decide +kernel
theorem dX1_trace_61 : decode cX1_trace 61 = .ok (.iload_n 3, 1) := by decide +kernel
theorem dX1_trace_62 : decode cX1_trace 62 = .ok (.if_icmp .ne 19, 3) := by decide +kernel
theorem dX1_trace_65 : decode cX1_trace 65 = .ok (.iload 4, 2) := by decide +kernel
theorem dX1_trace_67 : decode cX1_trace 67 = .ok (.iload_n 2, 1) := by decide +kernel
theorem dX1_trace_68 : decode cX1_trace 68 = .ok (.if_icmp .eq 13, 3) := by decide +kernel
theorem dX1_trace_71 : decode cX1_trace 71 = .ok (.aload_n 0, 1) := by decide +kernel
theorem dX1_trace_72 : decode cX1_trace 72 = .ok (.aload_n 1, 1) := by decide +kernel
theorem dX1_trace_73 : decode cX1_trace 73 = .ok (.getfield 24, 3) := by decide +kernel
theorem dX1_trace_76 : decode cX1_trace 76 = .ok (.iload 4, 2) := by decide +kernel
theorem dX1_trace_78 : decode cX1_trace 78 = .ok (.invokevirtual 28, 3) := by decide +kernel
theorem dX1_trace_81 : decode cX1_trace 81 = .ok (.iinc 4 1, 3) := by decide +kernel
theorem dX1_trace_84 : decode cX1_trace 84 = .ok (.goto (-37), 3) := by decide +kernel
theorem dX1_trace_87 : decode cX1_trace 87 = .ok (.iinc 3 1, 3) := by decide +kernel
theorem dX1_trace_90 : decode cX1_trace 90 = .ok (.goto (-51), 3) := by decide +kernel
theorem dX1_trace_93 : decode cX1_trace 93 = .ok (.return_, 1) := by decide +kernel
set_option maxRecDepth 20000 in
theorem ggX1_gather_X3_place : GoodIn wsX1_gather wsX3_place := goodIn_r _ [10] (by decide +kernel) (by decide +kernel)
set_option maxRecDepth 20000 in
theorem gX1_gather_X3_place : GoodIn wsX1_gather (va_wsS RX1 37 yX3_place wsX3_place) := goodIn_app (goodIn_of _ (by decide +kernel)) ggX1_gather_X3_place
set_option maxRecDepth 20000 in
theorem ggX1_gather_X1_addFraction : GoodIn wsX1_gather wsX1_addFraction := goodIn_r _ [15, 5, 3, 16, 17, 18, 19, 20, 21, 27, 28] (by decide +kernel) (by decide +kernel)
set_option maxRecDepth 20000 in
theorem gX1_gather_X1_addFraction : GoodIn wsX1_gather (wsV RX1 50 RX1 yX1_addFraction wsX1_addFraction) := goodIn_app (goodIn_of _ (by decide +kernel)) ggX1_gather_X1_addFraction
theorem dX1_gather_0 : decode cX1_gather 0 = .ok (.iconst 0, 1) := by decide +kernel
theorem dX1_gather_1 : decode cX1_gather 1 = .ok (.istore_n 3, 1) := by decide +kernel
theorem dX1_gather_2 : decode cX1_gather 2 = .ok (.iload_n 3, 1) := by decide +kernel
theorem dX1_gather_3 : decode cX1_gather 3 = .ok (.aload_n 1, 1) := by decide +kernel
theorem dX1_gather_4 : decode cX1_gather 4 = .ok (.getfield 32, 3) := by decide +kernel
theorem dX1_gather_7 : decode cX1_gather 7 = .ok (.iload_n 2, 1) := by decide +kernel
theorem dX1_gather_8 : decode cX1_gather 8 = .ok (.iaload, 1) := by decide +kernel
theorem dX1_gather_9 : decode cX1_gather 9 = .ok (.if_icmp .ge 62, 3) := by decide +kernel
theorem dX1_gather_12 : decode cX1_gather 12 = .ok (.iload_n 2, 1) := by decide +kernel
theorem dX1_gather_13 : decode cX1_gather 13 = .ok (.iload_n 3, 1) := by decide +kernel
theorem dX1_gather_14 : decode cX1_gather 14 = .ok (.invokestatic 37, 3) := by decide +kernel
theorem dX1_gather_17 : decode cX1_gather 17 = .ok (.istore 4, 2) := by decide +kernel
theorem dX1_gather_19 : decode cX1_gather 19 = .ok (.aload_n 1, 1) := by decide +kernel
theorem dX1_gather_20 : decode cX1_gather 20 = .ok (.getfield 41, 3) := by decide +kernel
theorem dX1_gather_23 : decode cX1_gather 23 = .ok (.iload 4, 2) := by decide +kernel
theorem dX1_gather_25 : decode cX1_gather 25 = .ok (.iaload, 1) := by decide +kernel
theorem dX1_gather_26 : decode cX1_gather 26 = .ok (.istore 5, 2) := by decide +kernel
theorem dX1_gather_28 : decode cX1_gather 28 = .ok (.aload_n 0, 1) := by decide +kernel
theorem dX1_gather_29 : decode cX1_gather 29 = .ok (.iload_n 2, 1) := by decide +kernel
theorem dX1_gather_30 : decode cX1_gather 30 = .ok (.aload_n 0, 1) := by decide +kernel
theorem dX1_gather_31 : decode cX1_gather 31 = .ok (.getfield 9, 3) := by decide +kernel
theorem dX1_gather_34 : decode cX1_gather 34 = .ok (.iload 5, 2) := by decide +kernel
theorem dX1_gather_36 : decode cX1_gather 36 = .ok (.laload, 1) := by decide +kernel
theorem dX1_gather_37 : decode cX1_gather 37 = .ok (.aload_n 1, 1) := by decide +kernel
theorem dX1_gather_38 : decode cX1_gather 38 = .ok (.getfield 44, 3) := by decide +kernel
theorem dX1_gather_41 : decode cX1_gather 41 = .ok (.iload 4, 2) := by decide +kernel
theorem dX1_gather_43 : decode cX1_gather 43 = .ok (.iaload, 1) := by decide +kernel
theorem dX1_gather_44 : decode cX1_gather 44 = .ok (.i2l, 1) := by decide +kernel
theorem dX1_gather_45 : decode cX1_gather 45 = .ok (.lmul, 1) := by decide +kernel
theorem dX1_gather_46 : decode cX1_gather 46 = .ok (.aload_n 0, 1) := by decide +kernel
theorem dX1_gather_47 : decode cX1_gather 47 = .ok (.getfield 15, 3) := by decide +kernel
theorem dX1_gather_50 : decode cX1_gather 50 = .ok (.iload 5, 2) := by decide +kernel
theorem dX1_gather_52 : decode cX1_gather 52 = .ok (.laload, 1) := by decide +kernel
theorem dX1_gather_53 : decode cX1_gather 53 = .ok (.aload_n 1, 1) := by decide +kernel
theorem dX1_gather_54 : decode cX1_gather 54 = .ok (.getfield 47, 3) := by decide +kernel
theorem dX1_gather_57 : decode cX1_gather 57 = .ok (.iload 4, 2) := by decide +kernel
theorem dX1_gather_59 : decode cX1_gather 59 = .ok (.iaload, 1) := by decide +kernel
theorem dX1_gather_60 : decode cX1_gather 60 = .ok (.i2l, 1) := by decide +kernel
theorem dX1_gather_61 : decode cX1_gather 61 = .ok (.lmul, 1) := by decide +kernel
theorem dX1_gather_62 : decode cX1_gather 62 = .ok (.invokevirtual 50, 3) := by decide +kernel
theorem dX1_gather_65 : decode cX1_gather 65 = .ok (.iinc 3 1, 3) := by decide +kernel
theorem dX1_gather_68 : decode cX1_gather 68 = .ok (.goto (-66), 3) := by decide +kernel
theorem dX1_gather_71 : decode cX1_gather 71 = .ok (.return_, 1) := by decide +kernel
set_option maxRecDepth 20000 in
theorem ggX1_addFraction_X6_greatestDivisor : GoodIn wsX1_addFraction wsX6_greatestDivisor := goodIn_r _ [5, 6, 7, 4, 8] (by decide +kernel) (by decide +kernel)
set_option maxRecDepth 20000 in
theorem gX1_addFraction_X6_greatestDivisor_n54 : GoodIn wsX1_addFraction (wsX6_greatestDivisor) := ggX1_addFraction_X6_greatestDivisor
set_option maxRecDepth 20000 in
theorem ggX1_addFraction_X6_floorOf : GoodIn wsX1_addFraction wsX6_floorOf := goodIn_r _ [8] (by decide +kernel) (by decide +kernel)
set_option maxRecDepth 20000 in
theorem gX1_addFraction_X6_floorOf_n58 : GoodIn wsX1_addFraction (wsX6_floorOf) := ggX1_addFraction_X6_floorOf
theorem dX1_addFraction_0 : decode cX1_addFraction 0 = .ok (.lload_n 2, 1) := by decide +kernel
theorem dX1_addFraction_1 : decode cX1_addFraction 1 = .ok (.lload 4, 2) := by decide +kernel
theorem dX1_addFraction_3 : decode cX1_addFraction 3 = .ok (.invokestatic 54, 3) := by decide +kernel
theorem dX1_addFraction_6 : decode cX1_addFraction 6 = .ok (.lstore 6, 2) := by decide +kernel
theorem dX1_addFraction_8 : decode cX1_addFraction 8 = .ok (.lload_n 2, 1) := by decide +kernel
theorem dX1_addFraction_9 : decode cX1_addFraction 9 = .ok (.lload 6, 2) := by decide +kernel
theorem dX1_addFraction_11 : decode cX1_addFraction 11 = .ok (.invokestatic 58, 3) := by decide +kernel
theorem dX1_addFraction_14 : decode cX1_addFraction 14 = .ok (.lstore 8, 2) := by decide +kernel
theorem dX1_addFraction_16 : decode cX1_addFraction 16 = .ok (.lload 4, 2) := by decide +kernel
theorem dX1_addFraction_18 : decode cX1_addFraction 18 = .ok (.lload 6, 2) := by decide +kernel
theorem dX1_addFraction_20 : decode cX1_addFraction 20 = .ok (.invokestatic 58, 3) := by decide +kernel
theorem dX1_addFraction_23 : decode cX1_addFraction 23 = .ok (.lstore 10, 2) := by decide +kernel
theorem dX1_addFraction_25 : decode cX1_addFraction 25 = .ok (.aload_n 0, 1) := by decide +kernel
theorem dX1_addFraction_26 : decode cX1_addFraction 26 = .ok (.getfield 15, 3) := by decide +kernel
theorem dX1_addFraction_29 : decode cX1_addFraction 29 = .ok (.iload_n 1, 1) := by decide +kernel
theorem dX1_addFraction_30 : decode cX1_addFraction 30 = .ok (.laload, 1) := by decide +kernel
theorem dX1_addFraction_31 : decode cX1_addFraction 31 = .ok (.aload_n 0, 1) := by decide +kernel
theorem dX1_addFraction_32 : decode cX1_addFraction 32 = .ok (.getfield 15, 3) := by decide +kernel
theorem dX1_addFraction_35 : decode cX1_addFraction 35 = .ok (.iload_n 1, 1) := by decide +kernel
theorem dX1_addFraction_36 : decode cX1_addFraction 36 = .ok (.laload, 1) := by decide +kernel
theorem dX1_addFraction_37 : decode cX1_addFraction 37 = .ok (.lload 10, 2) := by decide +kernel
theorem dX1_addFraction_39 : decode cX1_addFraction 39 = .ok (.invokestatic 54, 3) := by decide +kernel
theorem dX1_addFraction_42 : decode cX1_addFraction 42 = .ok (.invokestatic 58, 3) := by decide +kernel
theorem dX1_addFraction_45 : decode cX1_addFraction 45 = .ok (.lload 10, 2) := by decide +kernel
theorem dX1_addFraction_47 : decode cX1_addFraction 47 = .ok (.lmul, 1) := by decide +kernel
theorem dX1_addFraction_48 : decode cX1_addFraction 48 = .ok (.lstore 12, 2) := by decide +kernel
theorem dX1_addFraction_50 : decode cX1_addFraction 50 = .ok (.aload_n 0, 1) := by decide +kernel
theorem dX1_addFraction_51 : decode cX1_addFraction 51 = .ok (.getfield 9, 3) := by decide +kernel
theorem dX1_addFraction_54 : decode cX1_addFraction 54 = .ok (.iload_n 1, 1) := by decide +kernel
theorem dX1_addFraction_55 : decode cX1_addFraction 55 = .ok (.laload, 1) := by decide +kernel
theorem dX1_addFraction_56 : decode cX1_addFraction 56 = .ok (.lload 12, 2) := by decide +kernel
theorem dX1_addFraction_58 : decode cX1_addFraction 58 = .ok (.aload_n 0, 1) := by decide +kernel
theorem dX1_addFraction_59 : decode cX1_addFraction 59 = .ok (.getfield 15, 3) := by decide +kernel
theorem dX1_addFraction_62 : decode cX1_addFraction 62 = .ok (.iload_n 1, 1) := by decide +kernel
theorem dX1_addFraction_63 : decode cX1_addFraction 63 = .ok (.laload, 1) := by decide +kernel
theorem dX1_addFraction_64 : decode cX1_addFraction 64 = .ok (.invokestatic 58, 3) := by decide +kernel
theorem dX1_addFraction_67 : decode cX1_addFraction 67 = .ok (.lmul, 1) := by decide +kernel
theorem dX1_addFraction_68 : decode cX1_addFraction 68 = .ok (.lload 8, 2) := by decide +kernel
theorem dX1_addFraction_70 : decode cX1_addFraction 70 = .ok (.lload 12, 2) := by decide +kernel
theorem dX1_addFraction_72 : decode cX1_addFraction 72 = .ok (.lload 10, 2) := by decide +kernel
theorem dX1_addFraction_74 : decode cX1_addFraction 74 = .ok (.invokestatic 58, 3) := by decide +kernel
theorem dX1_addFraction_77 : decode cX1_addFraction 77 = .ok (.lmul, 1) := by decide +kernel
theorem dX1_addFraction_78 : decode cX1_addFraction 78 = .ok (.ladd, 1) := by decide +kernel
theorem dX1_addFraction_79 : decode cX1_addFraction 79 = .ok (.lstore 14, 2) := by decide +kernel
theorem dX1_addFraction_81 : decode cX1_addFraction 81 = .ok (.lload 14, 2) := by decide +kernel
theorem dX1_addFraction_83 : decode cX1_addFraction 83 = .ok (.lload 12, 2) := by decide +kernel
theorem dX1_addFraction_85 : decode cX1_addFraction 85 = .ok (.invokestatic 54, 3) := by decide +kernel
theorem dX1_addFraction_88 : decode cX1_addFraction 88 = .ok (.lstore 16, 2) := by decide +kernel
theorem dX1_addFraction_90 : decode cX1_addFraction 90 = .ok (.aload_n 0, 1) := by decide +kernel
theorem dX1_addFraction_91 : decode cX1_addFraction 91 = .ok (.getfield 9, 3) := by decide +kernel
theorem dX1_addFraction_94 : decode cX1_addFraction 94 = .ok (.iload_n 1, 1) := by decide +kernel
theorem dX1_addFraction_95 : decode cX1_addFraction 95 = .ok (.lload 14, 2) := by decide +kernel
theorem dX1_addFraction_97 : decode cX1_addFraction 97 = .ok (.lload 16, 2) := by decide +kernel
theorem dX1_addFraction_99 : decode cX1_addFraction 99 = .ok (.invokestatic 58, 3) := by decide +kernel
theorem dX1_addFraction_102 : decode cX1_addFraction 102 = .ok (.lastore, 1) := by decide +kernel
theorem dX1_addFraction_103 : decode cX1_addFraction 103 = .ok (.aload_n 0, 1) := by decide +kernel
theorem dX1_addFraction_104 : decode cX1_addFraction 104 = .ok (.getfield 15, 3) := by decide +kernel
theorem dX1_addFraction_107 : decode cX1_addFraction 107 = .ok (.iload_n 1, 1) := by decide +kernel
theorem dX1_addFraction_108 : decode cX1_addFraction 108 = .ok (.lload 12, 2) := by decide +kernel
theorem dX1_addFraction_110 : decode cX1_addFraction 110 = .ok (.lload 16, 2) := by decide +kernel
theorem dX1_addFraction_112 : decode cX1_addFraction 112 = .ok (.invokestatic 58, 3) := by decide +kernel
theorem dX1_addFraction_115 : decode cX1_addFraction 115 = .ok (.lastore, 1) := by decide +kernel
theorem dX1_addFraction_116 : decode cX1_addFraction 116 = .ok (.return_, 1) := by decide +kernel
theorem dX2_init_0 : decode cX2_init 0 = .ok (.aload_n 0, 1) := by decide +kernel
theorem dX2_init_1 : decode cX2_init 1 = .ok (.invokespecial 3, 3) := by decide +kernel
theorem dX2_init_4 : decode cX2_init 4 = .ok (.aload_n 0, 1) := by decide +kernel
theorem dX2_init_5 : decode cX2_init 5 = .ok (.sipush 200, 3) := by decide +kernel
theorem dX2_init_8 : decode cX2_init 8 = .ok (.newarray .int, 2) := by decide +kernel
theorem dX2_init_10 : decode cX2_init 10 = .ok (.putfield 9, 3) := by decide +kernel
theorem dX2_init_13 : decode cX2_init 13 = .ok (.aload_n 0, 1) := by decide +kernel
theorem dX2_init_14 : decode cX2_init 14 = .ok (.sipush 200, 3) := by decide +kernel
theorem dX2_init_17 : decode cX2_init 17 = .ok (.newarray .long, 2) := by decide +kernel
theorem dX2_init_19 : decode cX2_init 19 = .ok (.putfield 15, 3) := by decide +kernel
theorem dX2_init_22 : decode cX2_init 22 = .ok (.aload_n 0, 1) := by decide +kernel
theorem dX2_init_23 : decode cX2_init 23 = .ok (.sipush 200, 3) := by decide +kernel
theorem dX2_init_26 : decode cX2_init 26 = .ok (.newarray .long, 2) := by decide +kernel
theorem dX2_init_28 : decode cX2_init 28 = .ok (.putfield 19, 3) := by decide +kernel
theorem dX2_init_31 : decode cX2_init 31 = .ok (.aload_n 0, 1) := by decide +kernel
theorem dX2_init_32 : decode cX2_init 32 = .ok (.sipush 200, 3) := by decide +kernel
theorem dX2_init_35 : decode cX2_init 35 = .ok (.newarray .int, 2) := by decide +kernel
theorem dX2_init_37 : decode cX2_init 37 = .ok (.putfield 22, 3) := by decide +kernel
theorem dX2_init_40 : decode cX2_init 40 = .ok (.return_, 1) := by decide +kernel
theorem dX2_free_0 : decode cX2_free 0 = .ok (.sipush 200, 3) := by decide +kernel
theorem dX2_free_3 : decode cX2_free 3 = .ok (.aload_n 0, 1) := by decide +kernel
theorem dX2_free_4 : decode cX2_free 4 = .ok (.getfield 25, 3) := by decide +kernel
theorem dX2_free_7 : decode cX2_free 7 = .ok (.isub, 1) := by decide +kernel
theorem dX2_free_8 : decode cX2_free 8 = .ok (.ireturn, 1) := by decide +kernel
theorem dX2_add_0 : decode cX2_add 0 = .ok (.aload_n 0, 1) := by decide +kernel
theorem dX2_add_1 : decode cX2_add 1 = .ok (.getfield 25, 3) := by decide +kernel
theorem dX2_add_4 : decode cX2_add 4 = .ok (.sipush 200, 3) := by decide +kernel
theorem dX2_add_7 : decode cX2_add 7 = .ok (.if_icmp .lt 5, 3) := by decide +kernel
theorem dX2_add_10 : decode cX2_add 10 = .ok (.iconst (-1), 1) := by decide +kernel
theorem dX2_add_11 : decode cX2_add 11 = .ok (.ireturn, 1) := by decide +kernel
theorem dX2_add_12 : decode cX2_add 12 = .ok (.aload_n 0, 1) := by decide +kernel
theorem dX2_add_13 : decode cX2_add 13 = .ok (.getfield 9, 3) := by decide +kernel
theorem dX2_add_16 : decode cX2_add 16 = .ok (.aload_n 0, 1) := by decide +kernel
theorem dX2_add_17 : decode cX2_add 17 = .ok (.getfield 25, 3) := by decide +kernel
theorem dX2_add_20 : decode cX2_add 20 = .ok (.iload_n 1, 1) := by decide +kernel
theorem dX2_add_21 : decode cX2_add 21 = .ok (.iastore, 1) := by decide +kernel
theorem dX2_add_22 : decode cX2_add 22 = .ok (.aload_n 0, 1) := by decide +kernel
theorem dX2_add_23 : decode cX2_add 23 = .ok (.getfield 15, 3) := by decide +kernel
theorem dX2_add_26 : decode cX2_add 26 = .ok (.aload_n 0, 1) := by decide +kernel
theorem dX2_add_27 : decode cX2_add 27 = .ok (.getfield 25, 3) := by decide +kernel
theorem dX2_add_30 : decode cX2_add 30 = .ok (.lload_n 2, 1) := by decide +kernel
theorem dX2_add_31 : decode cX2_add 31 = .ok (.lastore, 1) := by decide +kernel
theorem dX2_add_32 : decode cX2_add 32 = .ok (.aload_n 0, 1) := by decide +kernel
theorem dX2_add_33 : decode cX2_add 33 = .ok (.getfield 19, 3) := by decide +kernel
theorem dX2_add_36 : decode cX2_add 36 = .ok (.aload_n 0, 1) := by decide +kernel
theorem dX2_add_37 : decode cX2_add 37 = .ok (.getfield 25, 3) := by decide +kernel
theorem dX2_add_40 : decode cX2_add 40 = .ok (.lload 4, 2) := by decide +kernel
theorem dX2_add_42 : decode cX2_add 42 = .ok (.lastore, 1) := by decide +kernel
theorem dX2_add_43 : decode cX2_add 43 = .ok (.aload_n 0, 1) := by decide +kernel
theorem dX2_add_44 : decode cX2_add 44 = .ok (.getfield 22, 3) := by decide +kernel
theorem dX2_add_47 : decode cX2_add 47 = .ok (.aload_n 0, 1) := by decide +kernel
theorem dX2_add_48 : decode cX2_add 48 = .ok (.getfield 25, 3) := by decide +kernel
theorem dX2_add_51 : decode cX2_add 51 = .ok (.iload 6, 2) := by decide +kernel
theorem dX2_add_53 : decode cX2_add 53 = .ok (.iastore, 1) := by decide +kernel
theorem dX2_add_54 : decode cX2_add 54 = .ok (.aload_n 0, 1) := by decide +kernel
theorem dX2_add_55 : decode cX2_add 55 = .ok (.dup, 1) := by decide +kernel
theorem dX2_add_56 : decode cX2_add 56 = .ok (.getfield 25, 3) := by decide +kernel
theorem dX2_add_59 : decode cX2_add 59 = .ok (.iconst 1, 1) := by decide +kernel
theorem dX2_add_60 : decode cX2_add 60 = .ok (.iadd, 1) := by decide +kernel
theorem dX2_add_61 : decode cX2_add 61 = .ok (.putfield 25, 3) := by decide +kernel
theorem dX2_add_64 : decode cX2_add 64 = .ok (.aload_n 0, 1) := by decide +kernel
theorem dX2_add_65 : decode cX2_add 65 = .ok (.getfield 25, 3) := by decide +kernel
theorem dX2_add_68 : decode cX2_add 68 = .ok (.iconst 1, 1) := by decide +kernel
theorem dX2_add_69 : decode cX2_add 69 = .ok (.isub, 1) := by decide +kernel
theorem dX2_add_70 : decode cX2_add 70 = .ok (.ireturn, 1) := by decide +kernel
theorem dX2_stockOf_0 : decode cX2_stockOf 0 = .ok (.lconst 0, 1) := by decide +kernel
theorem dX2_stockOf_1 : decode cX2_stockOf 1 = .ok (.lstore_n 2, 1) := by decide +kernel
theorem dX2_stockOf_2 : decode cX2_stockOf 2 = .ok (.iconst 0, 1) := by decide +kernel
theorem dX2_stockOf_3 : decode cX2_stockOf 3 = .ok (.istore 4, 2) := by decide +kernel
theorem dX2_stockOf_5 : decode cX2_stockOf 5 = .ok (.iload 4, 2) := by decide +kernel
theorem dX2_stockOf_7 : decode cX2_stockOf 7 = .ok (.aload_n 0, 1) := by decide +kernel
theorem dX2_stockOf_8 : decode cX2_stockOf 8 = .ok (.getfield 25, 3) := by decide +kernel
theorem dX2_stockOf_11 : decode cX2_stockOf 11 = .ok (.if_icmp .ge 34, 3) := by decide +kernel
theorem dX2_stockOf_14 : decode cX2_stockOf 14 = .ok (.lload_n 2, 1) := by decide +kernel
theorem dX2_stockOf_15 : decode cX2_stockOf 15 = .ok (.aload_n 0, 1) := by decide +kernel
theorem dX2_stockOf_16 : decode cX2_stockOf 16 = .ok (.getfield 9, 3) := by decide +kernel
theorem dX2_stockOf_19 : decode cX2_stockOf 19 = .ok (.iload 4, 2) := by decide +kernel
theorem dX2_stockOf_21 : decode cX2_stockOf 21 = .ok (.iaload, 1) := by decide +kernel
theorem dX2_stockOf_22 : decode cX2_stockOf 22 = .ok (.iload_n 1, 1) := by decide +kernel
theorem dX2_stockOf_23 : decode cX2_stockOf 23 = .ok (.if_icmp .ne 13, 3) := by decide +kernel
theorem dX2_stockOf_26 : decode cX2_stockOf 26 = .ok (.aload_n 0, 1) := by decide +kernel
theorem dX2_stockOf_27 : decode cX2_stockOf 27 = .ok (.getfield 15, 3) := by decide +kernel
theorem dX2_stockOf_30 : decode cX2_stockOf 30 = .ok (.iload 4, 2) := by decide +kernel
theorem dX2_stockOf_32 : decode cX2_stockOf 32 = .ok (.laload, 1) := by decide +kernel
theorem dX2_stockOf_33 : decode cX2_stockOf 33 = .ok (.goto 4, 3) := by decide +kernel
theorem dX2_stockOf_36 : decode cX2_stockOf 36 = .ok (.lconst 0, 1) := by decide +kernel
theorem dX2_stockOf_37 : decode cX2_stockOf 37 = .ok (.ladd, 1) := by decide +kernel
theorem dX2_stockOf_38 : decode cX2_stockOf 38 = .ok (.lstore_n 2, 1) := by decide +kernel
theorem dX2_stockOf_39 : decode cX2_stockOf 39 = .ok (.iinc 4 1, 3) := by decide +kernel
theorem dX2_stockOf_42 : decode cX2_stockOf 42 = .ok (.goto (-37), 3) := by decide +kernel
theorem dX2_stockOf_45 : decode cX2_stockOf 45 = .ok (.lload_n 2, 1) := by decide +kernel
theorem dX2_stockOf_46 : decode cX2_stockOf 46 = .ok (.lreturn, 1) := by decide +kernel
theorem dX2_debtOf_0 : decode cX2_debtOf 0 = .ok (.lconst 0, 1) := by decide +kernel
theorem dX2_debtOf_1 : decode cX2_debtOf 1 = .ok (.lstore_n 2, 1) := by decide +kernel
theorem dX2_debtOf_2 : decode cX2_debtOf 2 = .ok (.iconst 0, 1) := by decide +kernel
theorem dX2_debtOf_3 : decode cX2_debtOf 3 = .ok (.istore 4, 2) := by decide +kernel
theorem dX2_debtOf_5 : decode cX2_debtOf 5 = .ok (.iload 4, 2) := by decide +kernel
theorem dX2_debtOf_7 : decode cX2_debtOf 7 = .ok (.aload_n 0, 1) := by decide +kernel
theorem dX2_debtOf_8 : decode cX2_debtOf 8 = .ok (.getfield 25, 3) := by decide +kernel
theorem dX2_debtOf_11 : decode cX2_debtOf 11 = .ok (.if_icmp .ge 34, 3) := by decide +kernel
theorem dX2_debtOf_14 : decode cX2_debtOf 14 = .ok (.lload_n 2, 1) := by decide +kernel
theorem dX2_debtOf_15 : decode cX2_debtOf 15 = .ok (.aload_n 0, 1) := by decide +kernel
theorem dX2_debtOf_16 : decode cX2_debtOf 16 = .ok (.getfield 9, 3) := by decide +kernel
theorem dX2_debtOf_19 : decode cX2_debtOf 19 = .ok (.iload 4, 2) := by decide +kernel
theorem dX2_debtOf_21 : decode cX2_debtOf 21 = .ok (.iaload, 1) := by decide +kernel
theorem dX2_debtOf_22 : decode cX2_debtOf 22 = .ok (.iload_n 1, 1) := by decide +kernel
theorem dX2_debtOf_23 : decode cX2_debtOf 23 = .ok (.if_icmp .ne 13, 3) := by decide +kernel
theorem dX2_debtOf_26 : decode cX2_debtOf 26 = .ok (.aload_n 0, 1) := by decide +kernel
theorem dX2_debtOf_27 : decode cX2_debtOf 27 = .ok (.getfield 19, 3) := by decide +kernel
theorem dX2_debtOf_30 : decode cX2_debtOf 30 = .ok (.iload 4, 2) := by decide +kernel
theorem dX2_debtOf_32 : decode cX2_debtOf 32 = .ok (.laload, 1) := by decide +kernel
theorem dX2_debtOf_33 : decode cX2_debtOf 33 = .ok (.goto 4, 3) := by decide +kernel
theorem dX2_debtOf_36 : decode cX2_debtOf 36 = .ok (.lconst 0, 1) := by decide +kernel
theorem dX2_debtOf_37 : decode cX2_debtOf 37 = .ok (.ladd, 1) := by decide +kernel
theorem dX2_debtOf_38 : decode cX2_debtOf 38 = .ok (.lstore_n 2, 1) := by decide +kernel
theorem dX2_debtOf_39 : decode cX2_debtOf 39 = .ok (.iinc 4 1, 3) := by decide +kernel
theorem dX2_debtOf_42 : decode cX2_debtOf 42 = .ok (.goto (-37), 3) := by decide +kernel
theorem dX2_debtOf_45 : decode cX2_debtOf 45 = .ok (.lload_n 2, 1) := by decide +kernel
theorem dX2_debtOf_46 : decode cX2_debtOf 46 = .ok (.lreturn, 1) := by decide +kernel
theorem dX2_openOf_0 : decode cX2_openOf 0 = .ok (.iconst 0, 1) := by decide +kernel
theorem dX2_openOf_1 : decode cX2_openOf 1 = .ok (.istore_n 2, 1) := by decide +kernel
theorem dX2_openOf_2 : decode cX2_openOf 2 = .ok (.iconst 0, 1) := by decide +kernel
theorem dX2_openOf_3 : decode cX2_openOf 3 = .ok (.istore_n 3, 1) := by decide +kernel
theorem dX2_openOf_4 : decode cX2_openOf 4 = .ok (.iload_n 3, 1) := by decide +kernel
theorem dX2_openOf_5 : decode cX2_openOf 5 = .ok (.aload_n 0, 1) := by decide +kernel
theorem dX2_openOf_6 : decode cX2_openOf 6 = .ok (.getfield 25, 3) := by decide +kernel
theorem dX2_openOf_9 : decode cX2_openOf 9 = .ok (.if_icmp .ge 38, 3) := by decide +kernel
theorem dX2_openOf_12 : decode cX2_openOf 12 = .ok (.iload_n 2, 1) := by decide +kernel
theorem dX2_openOf_13 : decode cX2_openOf 13 = .ok (.aload_n 0, 1) := by decide +kernel
theorem dX2_openOf_14 : decode cX2_openOf 14 = .ok (.getfield 9, 3) := by decide +kernel
theorem dX2_openOf_17 : decode cX2_openOf 17 = .ok (.iload_n 3, 1) := by decide +kernel
theorem dX2_openOf_18 : decode cX2_openOf 18 = .ok (.iaload, 1) := by decide +kernel
theorem dX2_openOf_19 : decode cX2_openOf 19 = .ok (.iload_n 1, 1) := by decide +kernel
theorem dX2_openOf_20 : decode cX2_openOf 20 = .ok (.if_icmp .ne 18, 3) := by decide +kernel
theorem dX2_openOf_23 : decode cX2_openOf 23 = .ok (.aload_n 0, 1) := by decide +kernel
theorem dX2_openOf_24 : decode cX2_openOf 24 = .ok (.getfield 15, 3) := by decide +kernel
theorem dX2_openOf_27 : decode cX2_openOf 27 = .ok (.iload_n 3, 1) := by decide +kernel
theorem dX2_openOf_28 : decode cX2_openOf 28 = .ok (.laload, 1) := by decide +kernel
theorem dX2_openOf_29 : decode cX2_openOf 29 = .ok (.lconst 0, 1) := by decide +kernel
theorem dX2_openOf_30 : decode cX2_openOf 30 = .ok (.lcmp, 1) := by decide +kernel
theorem dX2_openOf_31 : decode cX2_openOf 31 = .ok (.ifCond .le 7, 3) := by decide +kernel
theorem dX2_openOf_34 : decode cX2_openOf 34 = .ok (.iconst 1, 1) := by decide +kernel
theorem dX2_openOf_35 : decode cX2_openOf 35 = .ok (.goto 4, 3) := by decide +kernel
theorem dX2_openOf_38 : decode cX2_openOf 38 = .ok (.iconst 0, 1) := by decide +kernel
theorem dX2_openOf_39 : decode cX2_openOf 39 = .ok (.iadd, 1) := by decide +kernel
theorem dX2_openOf_40 : decode cX2_openOf 40 = .ok (.istore_n 2, 1) := by decide +kernel
theorem dX2_openOf_41 : decode cX2_openOf 41 = .ok (.iinc 3 1, 3) := by decide +kernel
theorem dX2_openOf_44 : decode cX2_openOf 44 = .ok (.goto (-40), 3) := by decide +kernel
theorem dX2_openOf_47 : decode cX2_openOf 47 = .ok (.iload_n 2, 1) := by decide +kernel
theorem dX2_openOf_48 : decode cX2_openOf 48 = .ok (.ireturn, 1) := by decide +kernel
theorem dX2_wholeDebt_0 : decode cX2_wholeDebt 0 = .ok (.lconst 0, 1) := by decide +kernel
theorem dX2_wholeDebt_1 : decode cX2_wholeDebt 1 = .ok (.lstore_n 1, 1) := by decide +kernel
theorem dX2_wholeDebt_2 : decode cX2_wholeDebt 2 = .ok (.iconst 0, 1) := by decide +kernel
theorem dX2_wholeDebt_3 : decode cX2_wholeDebt 3 = .ok (.istore_n 3, 1) := by decide +kernel
theorem dX2_wholeDebt_4 : decode cX2_wholeDebt 4 = .ok (.iload_n 3, 1) := by decide +kernel
theorem dX2_wholeDebt_5 : decode cX2_wholeDebt 5 = .ok (.aload_n 0, 1) := by decide +kernel
theorem dX2_wholeDebt_6 : decode cX2_wholeDebt 6 = .ok (.getfield 25, 3) := by decide +kernel
theorem dX2_wholeDebt_9 : decode cX2_wholeDebt 9 = .ok (.if_icmp .ge 18, 3) := by decide +kernel
theorem dX2_wholeDebt_12 : decode cX2_wholeDebt 12 = .ok (.lload_n 1, 1) := by decide +kernel
theorem dX2_wholeDebt_13 : decode cX2_wholeDebt 13 = .ok (.aload_n 0, 1) := by decide +kernel
theorem dX2_wholeDebt_14 : decode cX2_wholeDebt 14 = .ok (.getfield 19, 3) := by decide +kernel
theorem dX2_wholeDebt_17 : decode cX2_wholeDebt 17 = .ok (.iload_n 3, 1) := by decide +kernel
theorem dX2_wholeDebt_18 : decode cX2_wholeDebt 18 = .ok (.laload, 1) := by decide +kernel
theorem dX2_wholeDebt_19 : decode cX2_wholeDebt 19 = .ok (.ladd, 1) := by decide +kernel
theorem dX2_wholeDebt_20 : decode cX2_wholeDebt 20 = .ok (.lstore_n 1, 1) := by decide +kernel
theorem dX2_wholeDebt_21 : decode cX2_wholeDebt 21 = .ok (.iinc 3 1, 3) := by decide +kernel
theorem dX2_wholeDebt_24 : decode cX2_wholeDebt 24 = .ok (.goto (-20), 3) := by decide +kernel
theorem dX2_wholeDebt_27 : decode cX2_wholeDebt 27 = .ok (.lload_n 1, 1) := by decide +kernel
theorem dX2_wholeDebt_28 : decode cX2_wholeDebt 28 = .ok (.lreturn, 1) := by decide +kernel
set_option maxRecDepth 20000 in
theorem ggX2_take_X2_takeFrom : GoodIn wsX2_take wsX2_takeFrom := goodIn_r _ [14, 4, 15, 16, 17, 18, 28, 29, 30, 31, 32, 33] (by decide +kernel) (by decide +kernel)
set_option maxRecDepth 20000 in
theorem gX2_take_X2_takeFrom : GoodIn wsX2_take (wsV RX2 39 RX2 yX2_takeFrom wsX2_takeFrom) := goodIn_app (goodIn_of _ (by decide +kernel)) ggX2_take_X2_takeFrom
set_option maxRecDepth 20000 in
theorem ggX2_take_X2_months : GoodIn wsX2_take wsX2_months := goodIn_r _ [22, 23, 24, 25, 17, 26, 27, 16, 18, 28, 29, 30, 31, 32, 33] (by decide +kernel) (by decide +kernel)
set_option maxRecDepth 20000 in
theorem gX2_take_X2_months : GoodIn wsX2_take (wsV RX2 43 RX2 yX2_months wsX2_months) := goodIn_app (goodIn_of _ (by decide +kernel)) ggX2_take_X2_months
theorem dX2_take_0 : decode cX2_take 0 = .ok (.lload_n 2, 1) := by decide +kernel
theorem dX2_take_1 : decode cX2_take 1 = .ok (.lstore 5, 2) := by decide +kernel
theorem dX2_take_3 : decode cX2_take 3 = .ok (.lconst 0, 1) := by decide +kernel
theorem dX2_take_4 : decode cX2_take 4 = .ok (.lstore 7, 2) := by decide +kernel
theorem dX2_take_6 : decode cX2_take 6 = .ok (.aload_n 0, 1) := by decide +kernel
theorem dX2_take_7 : decode cX2_take 7 = .ok (.lconst 0, 1) := by decide +kernel
theorem dX2_take_8 : decode cX2_take 8 = .ok (.putfield 29, 3) := by decide +kernel
theorem dX2_take_11 : decode cX2_take 11 = .ok (.iconst 0, 1) := by decide +kernel
theorem dX2_take_12 : decode cX2_take 12 = .ok (.istore 9, 2) := by decide +kernel
theorem dX2_take_14 : decode cX2_take 14 = .ok (.iload 9, 2) := by decide +kernel
theorem dX2_take_16 : decode cX2_take 16 = .ok (.aload_n 0, 1) := by decide +kernel
theorem dX2_take_17 : decode cX2_take 17 = .ok (.getfield 25, 3) := by decide +kernel
theorem dX2_take_20 : decode cX2_take 20 = .ok (.if_icmp .ge 101, 3) := by decide +kernel
theorem dX2_take_23 : decode cX2_take 23 = .ok (.lload 5, 2) := by decide +kernel
theorem dX2_take_25 : decode cX2_take 25 = .ok (.lconst 0, 1) := by decide +kernel
theorem dX2_take_26 : decode cX2_take 26 = .ok (.lcmp, 1) := by decide +kernel
theorem dX2_take_27 : decode cX2_take 27 = .ok (.ifCond .le 94, 3) := by decide +kernel
theorem dX2_take_30 : decode cX2_take 30 = .ok (.aload_n 0, 1) := by decide +kernel
theorem dX2_take_31 : decode cX2_take 31 = .ok (.getfield 9, 3) := by decide +kernel
theorem dX2_take_34 : decode cX2_take 34 = .ok (.iload 9, 2) := by decide +kernel
theorem dX2_take_36 : decode cX2_take 36 = .ok (.iaload, 1) := by decide +kernel
theorem dX2_take_37 : decode cX2_take 37 = .ok (.iload_n 1, 1) := by decide +kernel
theorem dX2_take_38 : decode cX2_take 38 = .ok (.if_icmp .ne 77, 3) := by decide +kernel
theorem dX2_take_41 : decode cX2_take 41 = .ok (.aload_n 0, 1) := by decide +kernel
theorem dX2_take_42 : decode cX2_take 42 = .ok (.getfield 15, 3) := by decide +kernel
theorem dX2_take_45 : decode cX2_take 45 = .ok (.iload 9, 2) := by decide +kernel
theorem dX2_take_47 : decode cX2_take 47 = .ok (.laload, 1) := by decide +kernel
theorem dX2_take_48 : decode cX2_take 48 = .ok (.lconst 0, 1) := by decide +kernel
theorem dX2_take_49 : decode cX2_take 49 = .ok (.lcmp, 1) := by decide +kernel
theorem dX2_take_50 : decode cX2_take 50 = .ok (.ifCond .le 65, 3) := by decide +kernel
theorem dX2_take_53 : decode cX2_take 53 = .ok (.lload 5, 2) := by decide +kernel
theorem dX2_take_55 : decode cX2_take 55 = .ok (.aload_n 0, 1) := by decide +kernel
theorem dX2_take_56 : decode cX2_take 56 = .ok (.getfield 15, 3) := by decide +kernel
theorem dX2_take_59 : decode cX2_take 59 = .ok (.iload 9, 2) := by decide +kernel
theorem dX2_take_61 : decode cX2_take 61 = .ok (.laload, 1) := by decide +kernel
theorem dX2_take_62 : decode cX2_take 62 = .ok (.invokestatic 33, 3) := by decide +kernel
theorem dX2_take_65 : decode cX2_take 65 = .ok (.lstore 10, 2) := by decide +kernel
theorem dX2_take_67 : decode cX2_take 67 = .ok (.aload_n 0, 1) := by decide +kernel
theorem dX2_take_68 : decode cX2_take 68 = .ok (.iload 9, 2) := by decide +kernel
theorem dX2_take_70 : decode cX2_take 70 = .ok (.lload 10, 2) := by decide +kernel
theorem dX2_take_72 : decode cX2_take 72 = .ok (.invokevirtual 39, 3) := by decide +kernel
theorem dX2_take_75 : decode cX2_take 75 = .ok (.lstore 12, 2) := by decide +kernel
theorem dX2_take_77 : decode cX2_take 77 = .ok (.aload_n 0, 1) := by decide +kernel
theorem dX2_take_78 : decode cX2_take 78 = .ok (.dup, 1) := by decide +kernel
theorem dX2_take_79 : decode cX2_take 79 = .ok (.getfield 29, 3) := by decide +kernel
theorem dX2_take_82 : decode cX2_take 82 = .ok (.lload 12, 2) := by decide +kernel
theorem dX2_take_84 : decode cX2_take 84 = .ok (.aload_n 0, 1) := by decide +kernel
theorem dX2_take_85 : decode cX2_take 85 = .ok (.iload 9, 2) := by decide +kernel
theorem dX2_take_87 : decode cX2_take 87 = .ok (.iload 4, 2) := by decide +kernel
theorem dX2_take_89 : decode cX2_take 89 = .ok (.invokevirtual 43, 3) := by decide +kernel
theorem dX2_take_92 : decode cX2_take 92 = .ok (.lmul, 1) := by decide +kernel
theorem dX2_take_93 : decode cX2_take 93 = .ok (.ldc2_w 47, 3) := by decide +kernel
theorem dX2_take_96 : decode cX2_take 96 = .ok (.ldiv, 1) := by decide +kernel
theorem dX2_take_97 : decode cX2_take 97 = .ok (.ladd, 1) := by decide +kernel
theorem dX2_take_98 : decode cX2_take 98 = .ok (.putfield 29, 3) := by decide +kernel
theorem dX2_take_101 : decode cX2_take 101 = .ok (.lload 7, 2) := by decide +kernel
theorem dX2_take_103 : decode cX2_take 103 = .ok (.lload 12, 2) := by decide +kernel
theorem dX2_take_105 : decode cX2_take 105 = .ok (.ladd, 1) := by decide +kernel
theorem dX2_take_106 : decode cX2_take 106 = .ok (.lstore 7, 2) := by decide +kernel
theorem dX2_take_108 : decode cX2_take 108 = .ok (.lload 5, 2) := by decide +kernel
theorem dX2_take_110 : decode cX2_take 110 = .ok (.lload 10, 2) := by decide +kernel
theorem dX2_take_112 : decode cX2_take 112 = .ok (.lsub, 1) := by decide +kernel
theorem dX2_take_113 : decode cX2_take 113 = .ok (.lstore 5, 2) := by decide +kernel
theorem dX2_take_115 : decode cX2_take 115 = .ok (.iinc 9 1, 3) := by decide +kernel
theorem dX2_take_118 : decode cX2_take 118 = .ok (.goto (-104), 3) := by decide +kernel
theorem dX2_take_121 : decode cX2_take 121 = .ok (.lload 7, 2) := by decide +kernel
theorem dX2_take_123 : decode cX2_take 123 = .ok (.lreturn, 1) := by decide +kernel
set_option maxRecDepth 20000 in
theorem ggX2_takeFrom_X6_floorOf : GoodIn wsX2_takeFrom wsX6_floorOf := goodIn_r _ [5] (by decide +kernel) (by decide +kernel)
set_option maxRecDepth 20000 in
theorem gX2_takeFrom_X6_floorOf_n49 : GoodIn wsX2_takeFrom (wsX6_floorOf) := ggX2_takeFrom_X6_floorOf
theorem dX2_takeFrom_0 : decode cX2_takeFrom 0 = .ok (.lload_n 2, 1) := by decide +kernel
theorem dX2_takeFrom_1 : decode cX2_takeFrom 1 = .ok (.aload_n 0, 1) := by decide +kernel
theorem dX2_takeFrom_2 : decode cX2_takeFrom 2 = .ok (.getfield 15, 3) := by decide +kernel
theorem dX2_takeFrom_5 : decode cX2_takeFrom 5 = .ok (.iload_n 1, 1) := by decide +kernel
theorem dX2_takeFrom_6 : decode cX2_takeFrom 6 = .ok (.laload, 1) := by decide +kernel
theorem dX2_takeFrom_7 : decode cX2_takeFrom 7 = .ok (.lcmp, 1) := by decide +kernel
theorem dX2_takeFrom_8 : decode cX2_takeFrom 8 = .ok (.ifCond .ne 12, 3) := by decide +kernel
theorem dX2_takeFrom_11 : decode cX2_takeFrom 11 = .ok (.aload_n 0, 1) := by decide +kernel
theorem dX2_takeFrom_12 : decode cX2_takeFrom 12 = .ok (.getfield 19, 3) := by decide +kernel
theorem dX2_takeFrom_15 : decode cX2_takeFrom 15 = .ok (.iload_n 1, 1) := by decide +kernel
theorem dX2_takeFrom_16 : decode cX2_takeFrom 16 = .ok (.laload, 1) := by decide +kernel
theorem dX2_takeFrom_17 : decode cX2_takeFrom 17 = .ok (.goto 20, 3) := by decide +kernel
theorem dX2_takeFrom_20 : decode cX2_takeFrom 20 = .ok (.aload_n 0, 1) := by decide +kernel
theorem dX2_takeFrom_21 : decode cX2_takeFrom 21 = .ok (.getfield 19, 3) := by decide +kernel
theorem dX2_takeFrom_24 : decode cX2_takeFrom 24 = .ok (.iload_n 1, 1) := by decide +kernel
theorem dX2_takeFrom_25 : decode cX2_takeFrom 25 = .ok (.laload, 1) := by decide +kernel
theorem dX2_takeFrom_26 : decode cX2_takeFrom 26 = .ok (.lload_n 2, 1) := by decide +kernel
theorem dX2_takeFrom_27 : decode cX2_takeFrom 27 = .ok (.lmul, 1) := by decide +kernel
theorem dX2_takeFrom_28 : decode cX2_takeFrom 28 = .ok (.aload_n 0, 1) := by decide +kernel
theorem dX2_takeFrom_29 : decode cX2_takeFrom 29 = .ok (.getfield 15, 3) := by decide +kernel
theorem dX2_takeFrom_32 : decode cX2_takeFrom 32 = .ok (.iload_n 1, 1) := by decide +kernel
theorem dX2_takeFrom_33 : decode cX2_takeFrom 33 = .ok (.laload, 1) := by decide +kernel
theorem dX2_takeFrom_34 : decode cX2_takeFrom 34 = .ok (.invokestatic 49, 3) := by decide +kernel
theorem dX2_takeFrom_37 : decode cX2_takeFrom 37 = .ok (.lstore 4, 2) := by decide +kernel
theorem dX2_takeFrom_39 : decode cX2_takeFrom 39 = .ok (.aload_n 0, 1) := by decide +kernel
theorem dX2_takeFrom_40 : decode cX2_takeFrom 40 = .ok (.getfield 15, 3) := by decide +kernel
theorem dX2_takeFrom_43 : decode cX2_takeFrom 43 = .ok (.iload_n 1, 1) := by decide +kernel
theorem dX2_takeFrom_44 : decode cX2_takeFrom 44 = .ok (.dup2, 1) := by decide +kernel
theorem dX2_takeFrom_45 : decode cX2_takeFrom 45 = .ok (.laload, 1) := by decide +kernel
theorem dX2_takeFrom_46 : decode cX2_takeFrom 46 = .ok (.lload_n 2, 1) := by decide +kernel
theorem dX2_takeFrom_47 : decode cX2_takeFrom 47 = .ok (.lsub, 1) := by decide +kernel
theorem dX2_takeFrom_48 : decode cX2_takeFrom 48 = .ok (.lastore, 1) := by decide +kernel
theorem dX2_takeFrom_49 : decode cX2_takeFrom 49 = .ok (.aload_n 0, 1) := by decide +kernel
theorem dX2_takeFrom_50 : decode cX2_takeFrom 50 = .ok (.getfield 19, 3) := by decide +kernel
theorem dX2_takeFrom_53 : decode cX2_takeFrom 53 = .ok (.iload_n 1, 1) := by decide +kernel
theorem dX2_takeFrom_54 : decode cX2_takeFrom 54 = .ok (.dup2, 1) := by decide +kernel
theorem dX2_takeFrom_55 : decode cX2_takeFrom 55 = .ok (.laload, 1) := by decide +kernel
theorem dX2_takeFrom_56 : decode cX2_takeFrom 56 = .ok (.lload 4, 2) := by decide +kernel
theorem dX2_takeFrom_58 : decode cX2_takeFrom 58 = .ok (.lsub, 1) := by decide +kernel
theorem dX2_takeFrom_59 : decode cX2_takeFrom 59 = .ok (.lastore, 1) := by decide +kernel
theorem dX2_takeFrom_60 : decode cX2_takeFrom 60 = .ok (.lload 4, 2) := by decide +kernel
theorem dX2_takeFrom_62 : decode cX2_takeFrom 62 = .ok (.lreturn, 1) := by decide +kernel
set_option maxRecDepth 20000 in
theorem ggX2_months_X6_ceilOf : GoodIn wsX2_months wsX6_ceilOf := goodIn_r _ [5, 6, 7, 4, 8] (by decide +kernel) (by decide +kernel)
set_option maxRecDepth 20000 in
theorem gX2_months_X6_ceilOf_n54 : GoodIn wsX2_months (wsX6_ceilOf) := ggX2_months_X6_ceilOf
theorem dX2_months_0 : decode cX2_months 0 = .ok (.iload_n 2, 1) := by decide +kernel
theorem dX2_months_1 : decode cX2_months 1 = .ok (.aload_n 0, 1) := by decide +kernel
theorem dX2_months_2 : decode cX2_months 2 = .ok (.getfield 22, 3) := by decide +kernel
theorem dX2_months_5 : decode cX2_months 5 = .ok (.iload_n 1, 1) := by decide +kernel
theorem dX2_months_6 : decode cX2_months 6 = .ok (.iaload, 1) := by decide +kernel
theorem dX2_months_7 : decode cX2_months 7 = .ok (.isub, 1) := by decide +kernel
theorem dX2_months_8 : decode cX2_months 8 = .ok (.i2l, 1) := by decide +kernel
theorem dX2_months_9 : decode cX2_months 9 = .ok (.ldc2_w 52, 3) := by decide +kernel
theorem dX2_months_12 : decode cX2_months 12 = .ok (.invokestatic 54, 3) := by decide +kernel
theorem dX2_months_15 : decode cX2_months 15 = .ok (.lreturn, 1) := by decide +kernel
theorem dX3_init_0 : decode cX3_init 0 = .ok (.aload_n 0, 1) := by decide +kernel
theorem dX3_init_1 : decode cX3_init 1 = .ok (.invokespecial 3, 3) := by decide +kernel
theorem dX3_init_4 : decode cX3_init 4 = .ok (.aload_n 0, 1) := by decide +kernel
theorem dX3_init_5 : decode cX3_init 5 = .ok (.bipush 12, 2) := by decide +kernel
theorem dX3_init_7 : decode cX3_init 7 = .ok (.newarray .int, 2) := by decide +kernel
theorem dX3_init_9 : decode cX3_init 9 = .ok (.putfield 9, 3) := by decide +kernel
theorem dX3_init_12 : decode cX3_init 12 = .ok (.aload_n 0, 1) := by decide +kernel
theorem dX3_init_13 : decode cX3_init 13 = .ok (.bipush 48, 2) := by decide +kernel
theorem dX3_init_15 : decode cX3_init 15 = .ok (.newarray .int, 2) := by decide +kernel
theorem dX3_init_17 : decode cX3_init 17 = .ok (.putfield 15, 3) := by decide +kernel
theorem dX3_init_20 : decode cX3_init 20 = .ok (.aload_n 0, 1) := by decide +kernel
theorem dX3_init_21 : decode cX3_init 21 = .ok (.bipush 48, 2) := by decide +kernel
theorem dX3_init_23 : decode cX3_init 23 = .ok (.newarray .int, 2) := by decide +kernel
theorem dX3_init_25 : decode cX3_init 25 = .ok (.putfield 18, 3) := by decide +kernel
theorem dX3_init_28 : decode cX3_init 28 = .ok (.aload_n 0, 1) := by decide +kernel
theorem dX3_init_29 : decode cX3_init 29 = .ok (.bipush 48, 2) := by decide +kernel
theorem dX3_init_31 : decode cX3_init 31 = .ok (.newarray .int, 2) := by decide +kernel
theorem dX3_init_33 : decode cX3_init 33 = .ok (.putfield 21, 3) := by decide +kernel
theorem dX3_init_36 : decode cX3_init 36 = .ok (.aload_n 0, 1) := by decide +kernel
theorem dX3_init_37 : decode cX3_init 37 = .ok (.iload_n 1, 1) := by decide +kernel
theorem dX3_init_38 : decode cX3_init 38 = .ok (.iconst 4, 1) := by decide +kernel
theorem dX3_init_39 : decode cX3_init 39 = .ok (.invokestatic 24, 3) := by decide +kernel
theorem dX3_init_42 : decode cX3_init 42 = .ok (.putfield 30, 3) := by decide +kernel
theorem dX3_init_45 : decode cX3_init 45 = .ok (.return_, 1) := by decide +kernel
set_option maxRecDepth 20000 in
theorem ggX3_add_X3_isTold : GoodIn wsX3_add wsX3_isTold := goodIn_r _ [10, 1, 11, 12, 13, 9, 14, 3, 15, 16, 17, 18, 19, 20, 21, 22] (by decide +kernel) (by decide +kernel)
set_option maxRecDepth 20000 in
theorem gX3_add_X3_isTold : GoodIn wsX3_add (wsV RX3 34 RX3 yX3_isTold wsX3_isTold) := goodIn_app (goodIn_of _ (by decide +kernel)) ggX3_add_X3_isTold
set_option maxRecDepth 20000 in
theorem ggX3_add_X3_place : GoodIn wsX3_add wsX3_place := goodIn_r _ [17] (by decide +kernel) (by decide +kernel)
set_option maxRecDepth 20000 in
theorem gX3_add_X3_place : GoodIn wsX3_add (va_wsS RX3 38 yX3_place wsX3_place) := goodIn_app (goodIn_of _ (by decide +kernel)) ggX3_add_X3_place
theorem dX3_add_0 : decode cX3_add 0 = .ok (.iload_n 1, 1) := by decide +kernel
theorem dX3_add_1 : decode cX3_add 1 = .ok (.iload_n 2, 1) := by decide +kernel
theorem dX3_add_2 : decode cX3_add 2 = .ok (.if_icmp .eq 25, 3) := by decide +kernel
theorem dX3_add_5 : decode cX3_add 5 = .ok (.aload_n 0, 1) := by decide +kernel
theorem dX3_add_6 : decode cX3_add 6 = .ok (.getfield 9, 3) := by decide +kernel
theorem dX3_add_9 : decode cX3_add 9 = .ok (.iload_n 1, 1) := by decide +kernel
theorem dX3_add_10 : decode cX3_add 10 = .ok (.iaload, 1) := by decide +kernel
theorem dX3_add_11 : decode cX3_add 11 = .ok (.aload_n 0, 1) := by decide +kernel
theorem dX3_add_12 : decode cX3_add 12 = .ok (.getfield 30, 3) := by decide +kernel
theorem dX3_add_15 : decode cX3_add 15 = .ok (.if_icmp .ge 12, 3) := by decide +kernel
theorem dX3_add_18 : decode cX3_add 18 = .ok (.aload_n 0, 1) := by decide +kernel
theorem dX3_add_19 : decode cX3_add 19 = .ok (.iload_n 1, 1) := by decide +kernel
theorem dX3_add_20 : decode cX3_add 20 = .ok (.iload_n 2, 1) := by decide +kernel
theorem dX3_add_21 : decode cX3_add 21 = .ok (.invokevirtual 34, 3) := by decide +kernel
theorem dX3_add_24 : decode cX3_add 24 = .ok (.ifCond .eq 5, 3) := by decide +kernel
theorem dX3_add_27 : decode cX3_add 27 = .ok (.iconst 0, 1) := by decide +kernel
theorem dX3_add_28 : decode cX3_add 28 = .ok (.ireturn, 1) := by decide +kernel
theorem dX3_add_29 : decode cX3_add 29 = .ok (.iload_n 1, 1) := by decide +kernel
theorem dX3_add_30 : decode cX3_add 30 = .ok (.aload_n 0, 1) := by decide +kernel
theorem dX3_add_31 : decode cX3_add 31 = .ok (.getfield 9, 3) := by decide +kernel
theorem dX3_add_34 : decode cX3_add 34 = .ok (.iload_n 1, 1) := by decide +kernel
theorem dX3_add_35 : decode cX3_add 35 = .ok (.iaload, 1) := by decide +kernel
theorem dX3_add_36 : decode cX3_add 36 = .ok (.invokestatic 38, 3) := by decide +kernel
theorem dX3_add_39 : decode cX3_add 39 = .ok (.istore 5, 2) := by decide +kernel
theorem dX3_add_41 : decode cX3_add 41 = .ok (.aload_n 0, 1) := by decide +kernel
theorem dX3_add_42 : decode cX3_add 42 = .ok (.getfield 15, 3) := by decide +kernel
theorem dX3_add_45 : decode cX3_add 45 = .ok (.iload 5, 2) := by decide +kernel
theorem dX3_add_47 : decode cX3_add 47 = .ok (.iload_n 2, 1) := by decide +kernel
theorem dX3_add_48 : decode cX3_add 48 = .ok (.iastore, 1) := by decide +kernel
theorem dX3_add_49 : decode cX3_add 49 = .ok (.aload_n 0, 1) := by decide +kernel
theorem dX3_add_50 : decode cX3_add 50 = .ok (.getfield 18, 3) := by decide +kernel
theorem dX3_add_53 : decode cX3_add 53 = .ok (.iload 5, 2) := by decide +kernel
theorem dX3_add_55 : decode cX3_add 55 = .ok (.iload_n 3, 1) := by decide +kernel
theorem dX3_add_56 : decode cX3_add 56 = .ok (.iastore, 1) := by decide +kernel
theorem dX3_add_57 : decode cX3_add 57 = .ok (.aload_n 0, 1) := by decide +kernel
theorem dX3_add_58 : decode cX3_add 58 = .ok (.getfield 21, 3) := by decide +kernel
theorem dX3_add_61 : decode cX3_add 61 = .ok (.iload 5, 2) := by decide +kernel
theorem dX3_add_63 : decode cX3_add 63 = .ok (.iload 4, 2) := by decide +kernel
theorem dX3_add_65 : decode cX3_add 65 = .ok (.iastore, 1) := by decide +kernel
theorem dX3_add_66 : decode cX3_add 66 = .ok (.aload_n 0, 1) := by decide +kernel
theorem dX3_add_67 : decode cX3_add 67 = .ok (.getfield 9, 3) := by decide +kernel
theorem dX3_add_70 : decode cX3_add 70 = .ok (.iload_n 1, 1) := by decide +kernel
theorem dX3_add_71 : decode cX3_add 71 = .ok (.dup2, 1) := by decide +kernel
theorem dX3_add_72 : decode cX3_add 72 = .ok (.iaload, 1) := by decide +kernel
theorem dX3_add_73 : decode cX3_add 73 = .ok (.iconst 1, 1) := by decide +kernel
theorem dX3_add_74 : decode cX3_add 74 = .ok (.iadd, 1) := by decide +kernel
theorem dX3_add_75 : decode cX3_add 75 = .ok (.iastore, 1) := by decide +kernel
theorem dX3_add_76 : decode cX3_add 76 = .ok (.iconst 1, 1) := by decide +kernel
theorem dX3_add_77 : decode cX3_add 77 = .ok (.ireturn, 1) := by decide +kernel
set_option maxRecDepth 20000 in
theorem ggX3_isTold_X3_goodAt : GoodIn wsX3_isTold wsX3_goodAt := goodIn_r _ [6, 7, 8, 9, 5, 10, 11, 12, 13, 14, 15] (by decide +kernel) (by decide +kernel)
set_option maxRecDepth 20000 in
theorem gX3_isTold_X3_goodAt : GoodIn wsX3_isTold (wsV RX3 41 RX3 yX3_goodAt wsX3_goodAt) := goodIn_app (goodIn_of _ (by decide +kernel)) ggX3_isTold_X3_goodAt
theorem dX3_isTold_0 : decode cX3_isTold 0 = .ok (.iconst 0, 1) := by decide +kernel
theorem dX3_isTold_1 : decode cX3_isTold 1 = .ok (.istore_n 3, 1) := by decide +kernel
theorem dX3_isTold_2 : decode cX3_isTold 2 = .ok (.iload_n 3, 1) := by decide +kernel
theorem dX3_isTold_3 : decode cX3_isTold 3 = .ok (.aload_n 0, 1) := by decide +kernel
theorem dX3_isTold_4 : decode cX3_isTold 4 = .ok (.getfield 9, 3) := by decide +kernel
theorem dX3_isTold_7 : decode cX3_isTold 7 = .ok (.iload_n 1, 1) := by decide +kernel
theorem dX3_isTold_8 : decode cX3_isTold 8 = .ok (.iaload, 1) := by decide +kernel
theorem dX3_isTold_9 : decode cX3_isTold 9 = .ok (.if_icmp .ge 21, 3) := by decide +kernel
theorem dX3_isTold_12 : decode cX3_isTold 12 = .ok (.aload_n 0, 1) := by decide +kernel
theorem dX3_isTold_13 : decode cX3_isTold 13 = .ok (.iload_n 1, 1) := by decide +kernel
theorem dX3_isTold_14 : decode cX3_isTold 14 = .ok (.iload_n 3, 1) := by decide +kernel
theorem dX3_isTold_15 : decode cX3_isTold 15 = .ok (.invokevirtual 41, 3) := by decide +kernel
theorem dX3_isTold_18 : decode cX3_isTold 18 = .ok (.iload_n 2, 1) := by decide +kernel
theorem dX3_isTold_19 : decode cX3_isTold 19 = .ok (.if_icmp .ne 5, 3) := by decide +kernel
theorem dX3_isTold_22 : decode cX3_isTold 22 = .ok (.iconst 1, 1) := by decide +kernel
theorem dX3_isTold_23 : decode cX3_isTold 23 = .ok (.ireturn, 1) := by decide +kernel
theorem dX3_isTold_24 : decode cX3_isTold 24 = .ok (.iinc 3 1, 3) := by decide +kernel
theorem dX3_isTold_27 : decode cX3_isTold 27 = .ok (.goto (-25), 3) := by decide +kernel
theorem dX3_isTold_30 : decode cX3_isTold 30 = .ok (.iconst 0, 1) := by decide +kernel
theorem dX3_isTold_31 : decode cX3_isTold 31 = .ok (.ireturn, 1) := by decide +kernel
theorem dX3_dropLast_0 : decode cX3_dropLast 0 = .ok (.aload_n 0, 1) := by decide +kernel
theorem dX3_dropLast_1 : decode cX3_dropLast 1 = .ok (.getfield 9, 3) := by decide +kernel
theorem dX3_dropLast_4 : decode cX3_dropLast 4 = .ok (.iload_n 1, 1) := by decide +kernel
theorem dX3_dropLast_5 : decode cX3_dropLast 5 = .ok (.iaload, 1) := by decide +kernel
theorem dX3_dropLast_6 : decode cX3_dropLast 6 = .ok (.ifCond .le 13, 3) := by decide +kernel
theorem dX3_dropLast_9 : decode cX3_dropLast 9 = .ok (.aload_n 0, 1) := by decide +kernel
theorem dX3_dropLast_10 : decode cX3_dropLast 10 = .ok (.getfield 9, 3) := by decide +kernel
theorem dX3_dropLast_13 : decode cX3_dropLast 13 = .ok (.iload_n 1, 1) := by decide +kernel
theorem dX3_dropLast_14 : decode cX3_dropLast 14 = .ok (.dup2, 1) := by decide +kernel
theorem dX3_dropLast_15 : decode cX3_dropLast 15 = .ok (.iaload, 1) := by decide +kernel
theorem dX3_dropLast_16 : decode cX3_dropLast 16 = .ok (.iconst 1, 1) := by decide +kernel
theorem dX3_dropLast_17 : decode cX3_dropLast 17 = .ok (.isub, 1) := by decide +kernel
theorem dX3_dropLast_18 : decode cX3_dropLast 18 = .ok (.iastore, 1) := by decide +kernel
theorem dX3_dropLast_19 : decode cX3_dropLast 19 = .ok (.return_, 1) := by decide +kernel
set_option maxRecDepth 20000 in
theorem ggX3_goodAt_X3_place : GoodIn wsX3_goodAt wsX3_place := goodIn_r _ [5] (by decide +kernel) (by decide +kernel)
set_option maxRecDepth 20000 in
theorem gX3_goodAt_X3_place : GoodIn wsX3_goodAt (va_wsS RX3 38 yX3_place wsX3_place) := goodIn_app (goodIn_of _ (by decide +kernel)) ggX3_goodAt_X3_place
theorem dX3_goodAt_0 : decode cX3_goodAt 0 = .ok (.aload_n 0, 1) := by decide +kernel
theorem dX3_goodAt_1 : decode cX3_goodAt 1 = .ok (.getfield 15, 3) := by decide +kernel
theorem dX3_goodAt_4 : decode cX3_goodAt 4 = .ok (.iload_n 1, 1) := by decide +kernel
theorem dX3_goodAt_5 : decode cX3_goodAt 5 = .ok (.iload_n 2, 1) := by decide +kernel
theorem dX3_goodAt_6 : decode cX3_goodAt 6 = .ok (.invokestatic 38, 3) := by decide +kernel
theorem dX3_goodAt_9 : decode cX3_goodAt 9 = .ok (.iaload, 1) := by decide +kernel
theorem dX3_goodAt_10 : decode cX3_goodAt 10 = .ok (.ireturn, 1) := by decide +kernel
set_option maxRecDepth 20000 in
theorem ggX3_roundedUp_X3_place : GoodIn wsX3_roundedUp wsX3_place := goodIn_r _ [6] (by decide +kernel) (by decide +kernel)
set_option maxRecDepth 20000 in
theorem gX3_roundedUp_X3_place : GoodIn wsX3_roundedUp (va_wsS RX3 38 yX3_place wsX3_place) := goodIn_app (goodIn_of _ (by decide +kernel)) ggX3_roundedUp_X3_place
set_option maxRecDepth 20000 in
theorem ggX3_roundedUp_X6_ceilOf : GoodIn wsX3_roundedUp wsX6_ceilOf := goodIn_r _ [9, 10, 11, 8, 12] (by decide +kernel) (by decide +kernel)
set_option maxRecDepth 20000 in
theorem gX3_roundedUp_X6_ceilOf_n44 : GoodIn wsX3_roundedUp (wsX6_ceilOf) := ggX3_roundedUp_X6_ceilOf
theorem dX3_roundedUp_0 : decode cX3_roundedUp 0 = .ok (.iload_n 1, 1) := by decide +kernel
theorem dX3_roundedUp_1 : decode cX3_roundedUp 1 = .ok (.iload_n 2, 1) := by decide +kernel
theorem dX3_roundedUp_2 : decode cX3_roundedUp 2 = .ok (.invokestatic 38, 3) := by decide +kernel
theorem dX3_roundedUp_5 : decode cX3_roundedUp 5 = .ok (.istore 4, 2) := by decide +kernel
theorem dX3_roundedUp_7 : decode cX3_roundedUp 7 = .ok (.iload_n 3, 1) := by decide +kernel
theorem dX3_roundedUp_8 : decode cX3_roundedUp 8 = .ok (.i2l, 1) := by decide +kernel
theorem dX3_roundedUp_9 : decode cX3_roundedUp 9 = .ok (.aload_n 0, 1) := by decide +kernel
theorem dX3_roundedUp_10 : decode cX3_roundedUp 10 = .ok (.getfield 18, 3) := by decide +kernel
theorem dX3_roundedUp_13 : decode cX3_roundedUp 13 = .ok (.iload 4, 2) := by decide +kernel
theorem dX3_roundedUp_15 : decode cX3_roundedUp 15 = .ok (.iaload, 1) := by decide +kernel
theorem dX3_roundedUp_16 : decode cX3_roundedUp 16 = .ok (.i2l, 1) := by decide +kernel
theorem dX3_roundedUp_17 : decode cX3_roundedUp 17 = .ok (.lmul, 1) := by decide +kernel
theorem dX3_roundedUp_18 : decode cX3_roundedUp 18 = .ok (.aload_n 0, 1) := by decide +kernel
theorem dX3_roundedUp_19 : decode cX3_roundedUp 19 = .ok (.getfield 21, 3) := by decide +kernel
theorem dX3_roundedUp_22 : decode cX3_roundedUp 22 = .ok (.iload 4, 2) := by decide +kernel
theorem dX3_roundedUp_24 : decode cX3_roundedUp 24 = .ok (.iaload, 1) := by decide +kernel
theorem dX3_roundedUp_25 : decode cX3_roundedUp 25 = .ok (.i2l, 1) := by decide +kernel
theorem dX3_roundedUp_26 : decode cX3_roundedUp 26 = .ok (.invokestatic 44, 3) := by decide +kernel
theorem dX3_roundedUp_29 : decode cX3_roundedUp 29 = .ok (.lreturn, 1) := by decide +kernel
set_option maxRecDepth 20000 in
theorem ggX3_roundedDown_X3_place : GoodIn wsX3_roundedDown wsX3_place := goodIn_r _ [6] (by decide +kernel) (by decide +kernel)
set_option maxRecDepth 20000 in
theorem gX3_roundedDown_X3_place : GoodIn wsX3_roundedDown (va_wsS RX3 38 yX3_place wsX3_place) := goodIn_app (goodIn_of _ (by decide +kernel)) ggX3_roundedDown_X3_place
set_option maxRecDepth 20000 in
theorem ggX3_roundedDown_X6_floorOf : GoodIn wsX3_roundedDown wsX6_floorOf := goodIn_r _ [9] (by decide +kernel) (by decide +kernel)
set_option maxRecDepth 20000 in
theorem gX3_roundedDown_X6_floorOf_n48 : GoodIn wsX3_roundedDown (wsX6_floorOf) := ggX3_roundedDown_X6_floorOf
theorem dX3_roundedDown_0 : decode cX3_roundedDown 0 = .ok (.iload_n 1, 1) := by decide +kernel
theorem dX3_roundedDown_1 : decode cX3_roundedDown 1 = .ok (.iload_n 2, 1) := by decide +kernel
theorem dX3_roundedDown_2 : decode cX3_roundedDown 2 = .ok (.invokestatic 38, 3) := by decide +kernel
theorem dX3_roundedDown_5 : decode cX3_roundedDown 5 = .ok (.istore 4, 2) := by decide +kernel
theorem dX3_roundedDown_7 : decode cX3_roundedDown 7 = .ok (.iload_n 3, 1) := by decide +kernel
theorem dX3_roundedDown_8 : decode cX3_roundedDown 8 = .ok (.i2l, 1) := by decide +kernel
theorem dX3_roundedDown_9 : decode cX3_roundedDown 9 = .ok (.aload_n 0, 1) := by decide +kernel
theorem dX3_roundedDown_10 : decode cX3_roundedDown 10 = .ok (.getfield 18, 3) := by decide +kernel
theorem dX3_roundedDown_13 : decode cX3_roundedDown 13 = .ok (.iload 4, 2) := by decide +kernel
theorem dX3_roundedDown_15 : decode cX3_roundedDown 15 = .ok (.iaload, 1) := by decide +kernel
theorem dX3_roundedDown_16 : decode cX3_roundedDown 16 = .ok (.i2l, 1) := by decide +kernel
theorem dX3_roundedDown_17 : decode cX3_roundedDown 17 = .ok (.lmul, 1) := by decide +kernel
theorem dX3_roundedDown_18 : decode cX3_roundedDown 18 = .ok (.aload_n 0, 1) := by decide +kernel
theorem dX3_roundedDown_19 : decode cX3_roundedDown 19 = .ok (.getfield 21, 3) := by decide +kernel
theorem dX3_roundedDown_22 : decode cX3_roundedDown 22 = .ok (.iload 4, 2) := by decide +kernel
theorem dX3_roundedDown_24 : decode cX3_roundedDown 24 = .ok (.iaload, 1) := by decide +kernel
theorem dX3_roundedDown_25 : decode cX3_roundedDown 25 = .ok (.i2l, 1) := by decide +kernel
theorem dX3_roundedDown_26 : decode cX3_roundedDown 26 = .ok (.invokestatic 48, 3) := by decide +kernel
theorem dX3_roundedDown_29 : decode cX3_roundedDown 29 = .ok (.lreturn, 1) := by decide +kernel
theorem dX3_place_0 : decode cX3_place 0 = .ok (.iload_n 0, 1) := by decide +kernel
theorem dX3_place_1 : decode cX3_place 1 = .ok (.iconst 4, 1) := by decide +kernel
theorem dX3_place_2 : decode cX3_place 2 = .ok (.imul, 1) := by decide +kernel
theorem dX3_place_3 : decode cX3_place 3 = .ok (.iload_n 1, 1) := by decide +kernel
theorem dX3_place_4 : decode cX3_place 4 = .ok (.iadd, 1) := by decide +kernel
theorem dX3_place_5 : decode cX3_place 5 = .ok (.ireturn, 1) := by decide +kernel
theorem dX4_init_0 : decode cX4_init 0 = .ok (.aload_n 0, 1) := by decide +kernel
theorem dX4_init_1 : decode cX4_init 1 = .ok (.invokespecial 3, 3) := by decide +kernel
theorem dX4_init_4 : decode cX4_init 4 = .ok (.aload_n 0, 1) := by decide +kernel
theorem dX4_init_5 : decode cX4_init 5 = .ok (.bipush 40, 2) := by decide +kernel
theorem dX4_init_7 : decode cX4_init 7 = .ok (.newarray .int, 2) := by decide +kernel
theorem dX4_init_9 : decode cX4_init 9 = .ok (.putfield 9, 3) := by decide +kernel
theorem dX4_init_12 : decode cX4_init 12 = .ok (.aload_n 0, 1) := by decide +kernel
theorem dX4_init_13 : decode cX4_init 13 = .ok (.bipush 40, 2) := by decide +kernel
theorem dX4_init_15 : decode cX4_init 15 = .ok (.newarray .long, 2) := by decide +kernel
theorem dX4_init_17 : decode cX4_init 17 = .ok (.putfield 15, 3) := by decide +kernel
theorem dX4_init_20 : decode cX4_init 20 = .ok (.aload_n 0, 1) := by decide +kernel
theorem dX4_init_21 : decode cX4_init 21 = .ok (.bipush 40, 2) := by decide +kernel
theorem dX4_init_23 : decode cX4_init 23 = .ok (.newarray .int, 2) := by decide +kernel
theorem dX4_init_25 : decode cX4_init 25 = .ok (.putfield 19, 3) := by decide +kernel
theorem dX4_init_28 : decode cX4_init 28 = .ok (.return_, 1) := by decide +kernel
theorem dX4_add_0 : decode cX4_add 0 = .ok (.aload_n 0, 1) := by decide +kernel
theorem dX4_add_1 : decode cX4_add 1 = .ok (.getfield 22, 3) := by decide +kernel
theorem dX4_add_4 : decode cX4_add 4 = .ok (.bipush 40, 2) := by decide +kernel
theorem dX4_add_6 : decode cX4_add 6 = .ok (.if_icmp .ge 44, 3) := by decide +kernel
theorem dX4_add_9 : decode cX4_add 9 = .ok (.aload_n 0, 1) := by decide +kernel
theorem dX4_add_10 : decode cX4_add 10 = .ok (.getfield 9, 3) := by decide +kernel
theorem dX4_add_13 : decode cX4_add 13 = .ok (.aload_n 0, 1) := by decide +kernel
theorem dX4_add_14 : decode cX4_add 14 = .ok (.getfield 22, 3) := by decide +kernel
theorem dX4_add_17 : decode cX4_add 17 = .ok (.iload_n 1, 1) := by decide +kernel
theorem dX4_add_18 : decode cX4_add 18 = .ok (.iastore, 1) := by decide +kernel
theorem dX4_add_19 : decode cX4_add 19 = .ok (.aload_n 0, 1) := by decide +kernel
theorem dX4_add_20 : decode cX4_add 20 = .ok (.getfield 15, 3) := by decide +kernel
theorem dX4_add_23 : decode cX4_add 23 = .ok (.aload_n 0, 1) := by decide +kernel
theorem dX4_add_24 : decode cX4_add 24 = .ok (.getfield 22, 3) := by decide +kernel
theorem dX4_add_27 : decode cX4_add 27 = .ok (.iload_n 2, 1) := by decide +kernel
theorem dX4_add_28 : decode cX4_add 28 = .ok (.i2l, 1) := by decide +kernel
theorem dX4_add_29 : decode cX4_add 29 = .ok (.lastore, 1) := by decide +kernel
theorem dX4_add_30 : decode cX4_add 30 = .ok (.aload_n 0, 1) := by decide +kernel
theorem dX4_add_31 : decode cX4_add 31 = .ok (.getfield 19, 3) := by decide +kernel
theorem dX4_add_34 : decode cX4_add 34 = .ok (.aload_n 0, 1) := by decide +kernel
theorem dX4_add_35 : decode cX4_add 35 = .ok (.getfield 22, 3) := by decide +kernel
theorem dX4_add_38 : decode cX4_add 38 = .ok (.iload_n 3, 1) := by decide +kernel
theorem dX4_add_39 : decode cX4_add 39 = .ok (.iastore, 1) := by decide +kernel
theorem dX4_add_40 : decode cX4_add 40 = .ok (.aload_n 0, 1) := by decide +kernel
theorem dX4_add_41 : decode cX4_add 41 = .ok (.dup, 1) := by decide +kernel
theorem dX4_add_42 : decode cX4_add 42 = .ok (.getfield 22, 3) := by decide +kernel
theorem dX4_add_45 : decode cX4_add 45 = .ok (.iconst 1, 1) := by decide +kernel
theorem dX4_add_46 : decode cX4_add 46 = .ok (.iadd, 1) := by decide +kernel
theorem dX4_add_47 : decode cX4_add 47 = .ok (.putfield 22, 3) := by decide +kernel
theorem dX4_add_50 : decode cX4_add 50 = .ok (.return_, 1) := by decide +kernel
theorem dX4_isOpen_0 : decode cX4_isOpen 0 = .ok (.aload_n 0, 1) := by decide +kernel
theorem dX4_isOpen_1 : decode cX4_isOpen 1 = .ok (.getfield 9, 3) := by decide +kernel
theorem dX4_isOpen_4 : decode cX4_isOpen 4 = .ok (.iload_n 1, 1) := by decide +kernel
theorem dX4_isOpen_5 : decode cX4_isOpen 5 = .ok (.iaload, 1) := by decide +kernel
theorem dX4_isOpen_6 : decode cX4_isOpen 6 = .ok (.iload_n 2, 1) := by decide +kernel
theorem dX4_isOpen_7 : decode cX4_isOpen 7 = .ok (.if_icmp .ne 28, 3) := by decide +kernel
theorem dX4_isOpen_10 : decode cX4_isOpen 10 = .ok (.aload_n 0, 1) := by decide +kernel
theorem dX4_isOpen_11 : decode cX4_isOpen 11 = .ok (.getfield 15, 3) := by decide +kernel
theorem dX4_isOpen_14 : decode cX4_isOpen 14 = .ok (.iload_n 1, 1) := by decide +kernel
theorem dX4_isOpen_15 : decode cX4_isOpen 15 = .ok (.laload, 1) := by decide +kernel
theorem dX4_isOpen_16 : decode cX4_isOpen 16 = .ok (.lconst 0, 1) := by decide +kernel
theorem dX4_isOpen_17 : decode cX4_isOpen 17 = .ok (.lcmp, 1) := by decide +kernel
theorem dX4_isOpen_18 : decode cX4_isOpen 18 = .ok (.ifCond .le 17, 3) := by decide +kernel
theorem dX4_isOpen_21 : decode cX4_isOpen 21 = .ok (.aload_n 0, 1) := by decide +kernel
theorem dX4_isOpen_22 : decode cX4_isOpen 22 = .ok (.getfield 19, 3) := by decide +kernel
theorem dX4_isOpen_25 : decode cX4_isOpen 25 = .ok (.iload_n 1, 1) := by decide +kernel
theorem dX4_isOpen_26 : decode cX4_isOpen 26 = .ok (.iaload, 1) := by decide +kernel
theorem dX4_isOpen_27 : decode cX4_isOpen 27 = .ok (.iload_n 3, 1) := by decide +kernel
theorem dX4_isOpen_28 : decode cX4_isOpen 28 = .ok (.if_icmp .lt 7, 3) := by decide +kernel
theorem dX4_isOpen_31 : decode cX4_isOpen 31 = .ok (.iconst 1, 1) := by decide +kernel
theorem dX4_isOpen_32 : decode cX4_isOpen 32 = .ok (.goto 4, 3) := by decide +kernel
theorem dX4_isOpen_35 : decode cX4_isOpen 35 = .ok (.iconst 0, 1) := by decide +kernel
theorem dX4_isOpen_36 : decode cX4_isOpen 36 = .ok (.ireturn, 1) := by decide +kernel
set_option maxRecDepth 20000 in
theorem ggX4_openOf_X4_isOpen : GoodIn wsX4_openOf wsX4_isOpen := goodIn_r _ [7, 8, 2, 9, 10, 11, 12, 13] (by decide +kernel) (by decide +kernel)
set_option maxRecDepth 20000 in
theorem gX4_openOf_X4_isOpen : GoodIn wsX4_openOf (wsV RX4 26 RX4 yX4_isOpen wsX4_isOpen) := goodIn_app (goodIn_of _ (by decide +kernel)) ggX4_openOf_X4_isOpen
theorem dX4_openOf_0 : decode cX4_openOf 0 = .ok (.lconst 0, 1) := by decide +kernel
theorem dX4_openOf_1 : decode cX4_openOf 1 = .ok (.lstore_n 3, 1) := by decide +kernel
theorem dX4_openOf_2 : decode cX4_openOf 2 = .ok (.iconst 0, 1) := by decide +kernel
theorem dX4_openOf_3 : decode cX4_openOf 3 = .ok (.istore 5, 2) := by decide +kernel
theorem dX4_openOf_5 : decode cX4_openOf 5 = .ok (.iload 5, 2) := by decide +kernel
theorem dX4_openOf_7 : decode cX4_openOf 7 = .ok (.aload_n 0, 1) := by decide +kernel
theorem dX4_openOf_8 : decode cX4_openOf 8 = .ok (.getfield 22, 3) := by decide +kernel
theorem dX4_openOf_11 : decode cX4_openOf 11 = .ok (.if_icmp .ge 34, 3) := by decide +kernel
theorem dX4_openOf_14 : decode cX4_openOf 14 = .ok (.lload_n 3, 1) := by decide +kernel
theorem dX4_openOf_15 : decode cX4_openOf 15 = .ok (.aload_n 0, 1) := by decide +kernel
theorem dX4_openOf_16 : decode cX4_openOf 16 = .ok (.iload 5, 2) := by decide +kernel
theorem dX4_openOf_18 : decode cX4_openOf 18 = .ok (.iload_n 1, 1) := by decide +kernel
theorem dX4_openOf_19 : decode cX4_openOf 19 = .ok (.iload_n 2, 1) := by decide +kernel
theorem dX4_openOf_20 : decode cX4_openOf 20 = .ok (.invokevirtual 26, 3) := by decide +kernel
theorem dX4_openOf_23 : decode cX4_openOf 23 = .ok (.ifCond .eq 13, 3) := by decide +kernel
theorem dX4_openOf_26 : decode cX4_openOf 26 = .ok (.aload_n 0, 1) := by decide +kernel
theorem dX4_openOf_27 : decode cX4_openOf 27 = .ok (.getfield 15, 3) := by decide +kernel
theorem dX4_openOf_30 : decode cX4_openOf 30 = .ok (.iload 5, 2) := by decide +kernel
theorem dX4_openOf_32 : decode cX4_openOf 32 = .ok (.laload, 1) := by decide +kernel
theorem dX4_openOf_33 : decode cX4_openOf 33 = .ok (.goto 4, 3) := by decide +kernel
theorem dX4_openOf_36 : decode cX4_openOf 36 = .ok (.lconst 0, 1) := by decide +kernel
theorem dX4_openOf_37 : decode cX4_openOf 37 = .ok (.ladd, 1) := by decide +kernel
theorem dX4_openOf_38 : decode cX4_openOf 38 = .ok (.lstore_n 3, 1) := by decide +kernel
theorem dX4_openOf_39 : decode cX4_openOf 39 = .ok (.iinc 5 1, 3) := by decide +kernel
theorem dX4_openOf_42 : decode cX4_openOf 42 = .ok (.goto (-37), 3) := by decide +kernel
theorem dX4_openOf_45 : decode cX4_openOf 45 = .ok (.lload_n 3, 1) := by decide +kernel
theorem dX4_openOf_46 : decode cX4_openOf 46 = .ok (.lreturn, 1) := by decide +kernel
set_option maxRecDepth 20000 in
theorem ggX4_meet_X6_isWithin : GoodIn wsX4_meet wsX6_isWithin := goodIn_r _ [12] (by decide +kernel) (by decide +kernel)
set_option maxRecDepth 20000 in
theorem gX4_meet_X6_isWithin_n33 : GoodIn wsX4_meet (wsX6_isWithin) := ggX4_meet_X6_isWithin
set_option maxRecDepth 20000 in
theorem ggX4_meet_X4_isOpen : GoodIn wsX4_meet wsX4_isOpen := goodIn_r _ [17, 18, 5, 19, 35, 36, 37, 38] (by decide +kernel) (by decide +kernel)
set_option maxRecDepth 20000 in
theorem gX4_meet_X4_isOpen : GoodIn wsX4_meet (wsV RX4 26 RX4 yX4_isOpen wsX4_isOpen) := goodIn_app (goodIn_of _ (by decide +kernel)) ggX4_meet_X4_isOpen
set_option maxRecDepth 20000 in
theorem ggX4_meet_X2_takeFrom : GoodIn wsX4_meet wsX2_takeFrom := goodIn_r _ [24, 25, 26, 27, 11, 28, 29, 30, 31, 32, 33, 34] (by decide +kernel) (by decide +kernel)
set_option maxRecDepth 20000 in
theorem gX4_meet_X2_takeFrom : GoodIn wsX4_meet (wsV RX4 44 RX2 yX2_takeFrom wsX2_takeFrom) := goodIn_app (goodIn_of _ (by decide +kernel)) ggX4_meet_X2_takeFrom
theorem dX4_meet_0 : decode cX4_meet 0 = .ok (.lconst 0, 1) := by decide +kernel
theorem dX4_meet_1 : decode cX4_meet 1 = .ok (.lstore 4, 2) := by decide +kernel
theorem dX4_meet_3 : decode cX4_meet 3 = .ok (.iload_n 2, 1) := by decide +kernel
theorem dX4_meet_4 : decode cX4_meet 4 = .ok (.iconst 0, 1) := by decide +kernel
theorem dX4_meet_5 : decode cX4_meet 5 = .ok (.aload_n 1, 1) := by decide +kernel
theorem dX4_meet_6 : decode cX4_meet 6 = .ok (.getfield 30, 3) := by decide +kernel
theorem dX4_meet_9 : decode cX4_meet 9 = .ok (.iconst 1, 1) := by decide +kernel
theorem dX4_meet_10 : decode cX4_meet 10 = .ok (.isub, 1) := by decide +kernel
theorem dX4_meet_11 : decode cX4_meet 11 = .ok (.invokestatic 33, 3) := by decide +kernel
theorem dX4_meet_14 : decode cX4_meet 14 = .ok (.ifCond .ne 6, 3) := by decide +kernel
theorem dX4_meet_17 : decode cX4_meet 17 = .ok (.lload 4, 2) := by decide +kernel
theorem dX4_meet_19 : decode cX4_meet 19 = .ok (.lreturn, 1) := by decide +kernel
theorem dX4_meet_20 : decode cX4_meet 20 = .ok (.iconst 0, 1) := by decide +kernel
theorem dX4_meet_21 : decode cX4_meet 21 = .ok (.istore 6, 2) := by decide +kernel
theorem dX4_meet_23 : decode cX4_meet 23 = .ok (.iload 6, 2) := by decide +kernel
theorem dX4_meet_25 : decode cX4_meet 25 = .ok (.aload_n 0, 1) := by decide +kernel
theorem dX4_meet_26 : decode cX4_meet 26 = .ok (.getfield 22, 3) := by decide +kernel
theorem dX4_meet_29 : decode cX4_meet 29 = .ok (.if_icmp .ge 78, 3) := by decide +kernel
theorem dX4_meet_32 : decode cX4_meet 32 = .ok (.aload_n 1, 1) := by decide +kernel
theorem dX4_meet_33 : decode cX4_meet 33 = .ok (.getfield 36, 3) := by decide +kernel
theorem dX4_meet_36 : decode cX4_meet 36 = .ok (.iload_n 2, 1) := by decide +kernel
theorem dX4_meet_37 : decode cX4_meet 37 = .ok (.laload, 1) := by decide +kernel
theorem dX4_meet_38 : decode cX4_meet 38 = .ok (.lconst 0, 1) := by decide +kernel
theorem dX4_meet_39 : decode cX4_meet 39 = .ok (.lcmp, 1) := by decide +kernel
theorem dX4_meet_40 : decode cX4_meet 40 = .ok (.ifCond .le 67, 3) := by decide +kernel
theorem dX4_meet_43 : decode cX4_meet 43 = .ok (.aload_n 0, 1) := by decide +kernel
theorem dX4_meet_44 : decode cX4_meet 44 = .ok (.iload 6, 2) := by decide +kernel
theorem dX4_meet_46 : decode cX4_meet 46 = .ok (.aload_n 1, 1) := by decide +kernel
theorem dX4_meet_47 : decode cX4_meet 47 = .ok (.getfield 37, 3) := by decide +kernel
theorem dX4_meet_50 : decode cX4_meet 50 = .ok (.iload_n 2, 1) := by decide +kernel
theorem dX4_meet_51 : decode cX4_meet 51 = .ok (.iaload, 1) := by decide +kernel
theorem dX4_meet_52 : decode cX4_meet 52 = .ok (.iload_n 3, 1) := by decide +kernel
theorem dX4_meet_53 : decode cX4_meet 53 = .ok (.invokevirtual 26, 3) := by decide +kernel
theorem dX4_meet_56 : decode cX4_meet 56 = .ok (.ifCond .eq 45, 3) := by decide +kernel
theorem dX4_meet_59 : decode cX4_meet 59 = .ok (.aload_n 0, 1) := by decide +kernel
theorem dX4_meet_60 : decode cX4_meet 60 = .ok (.getfield 15, 3) := by decide +kernel
theorem dX4_meet_63 : decode cX4_meet 63 = .ok (.iload 6, 2) := by decide +kernel
theorem dX4_meet_65 : decode cX4_meet 65 = .ok (.laload, 1) := by decide +kernel
theorem dX4_meet_66 : decode cX4_meet 66 = .ok (.aload_n 1, 1) := by decide +kernel
theorem dX4_meet_67 : decode cX4_meet 67 = .ok (.getfield 36, 3) := by decide +kernel
theorem dX4_meet_70 : decode cX4_meet 70 = .ok (.iload_n 2, 1) := by decide +kernel
theorem dX4_meet_71 : decode cX4_meet 71 = .ok (.laload, 1) := by decide +kernel
theorem dX4_meet_72 : decode cX4_meet 72 = .ok (.invokestatic 38, 3) := by decide +kernel
theorem dX4_meet_75 : decode cX4_meet 75 = .ok (.lstore 7, 2) := by decide +kernel
theorem dX4_meet_77 : decode cX4_meet 77 = .ok (.lload 4, 2) := by decide +kernel
theorem dX4_meet_79 : decode cX4_meet 79 = .ok (.aload_n 1, 1) := by decide +kernel
theorem dX4_meet_80 : decode cX4_meet 80 = .ok (.iload_n 2, 1) := by decide +kernel
theorem dX4_meet_81 : decode cX4_meet 81 = .ok (.lload 7, 2) := by decide +kernel
theorem dX4_meet_83 : decode cX4_meet 83 = .ok (.invokevirtual 44, 3) := by decide +kernel
theorem dX4_meet_86 : decode cX4_meet 86 = .ok (.ladd, 1) := by decide +kernel
theorem dX4_meet_87 : decode cX4_meet 87 = .ok (.lstore 4, 2) := by decide +kernel
theorem dX4_meet_89 : decode cX4_meet 89 = .ok (.aload_n 0, 1) := by decide +kernel
theorem dX4_meet_90 : decode cX4_meet 90 = .ok (.getfield 15, 3) := by decide +kernel
theorem dX4_meet_93 : decode cX4_meet 93 = .ok (.iload 6, 2) := by decide +kernel
theorem dX4_meet_95 : decode cX4_meet 95 = .ok (.dup2, 1) := by decide +kernel
theorem dX4_meet_96 : decode cX4_meet 96 = .ok (.laload, 1) := by decide +kernel
theorem dX4_meet_97 : decode cX4_meet 97 = .ok (.lload 7, 2) := by decide +kernel
theorem dX4_meet_99 : decode cX4_meet 99 = .ok (.lsub, 1) := by decide +kernel
theorem dX4_meet_100 : decode cX4_meet 100 = .ok (.lastore, 1) := by decide +kernel
theorem dX4_meet_101 : decode cX4_meet 101 = .ok (.iinc 6 1, 3) := by decide +kernel
theorem dX4_meet_104 : decode cX4_meet 104 = .ok (.goto (-81), 3) := by decide +kernel
theorem dX4_meet_107 : decode cX4_meet 107 = .ok (.lload 4, 2) := by decide +kernel
theorem dX4_meet_109 : decode cX4_meet 109 = .ok (.lreturn, 1) := by decide +kernel
set_option maxRecDepth 20000 in
theorem ggX5_init_X3_init : GoodIn wsX5_init wsX3_init := goodIn_r _ [15, 16, 2, 3, 11, 17, 18, 19, 20, 21, 22, 23, 24, 25, 31, 32, 33, 34, 35] (by decide +kernel) (by decide +kernel)
set_option maxRecDepth 20000 in
theorem gX5_init_X3_init : GoodIn wsX5_init (wsX3_init) := ggX5_init_X3_init
theorem dX5_init_0 : decode cX5_init 0 = .ok (.aload_n 0, 1) := by decide +kernel
theorem dX5_init_1 : decode cX5_init 1 = .ok (.invokespecial 3, 3) := by decide +kernel
theorem dX5_init_4 : decode cX5_init 4 = .ok (.aload_n 0, 1) := by decide +kernel
theorem dX5_init_5 : decode cX5_init 5 = .ok (.bipush 12, 2) := by decide +kernel
theorem dX5_init_7 : decode cX5_init 7 = .ok (.newarray .boolean, 2) := by decide +kernel
theorem dX5_init_9 : decode cX5_init 9 = .ok (.putfield 9, 3) := by decide +kernel
theorem dX5_init_12 : decode cX5_init 12 = .ok (.aload_n 0, 1) := by decide +kernel
theorem dX5_init_13 : decode cX5_init 13 = .ok (.new 15, 3) := by decide +kernel
theorem dX5_init_16 : decode cX5_init 16 = .ok (.dup, 1) := by decide +kernel
theorem dX5_init_17 : decode cX5_init 17 = .ok (.iconst 4, 1) := by decide +kernel
theorem dX5_init_18 : decode cX5_init 18 = .ok (.invokespecial 17, 3) := by decide +kernel
theorem dX5_init_21 : decode cX5_init 21 = .ok (.putfield 20, 3) := by decide +kernel
theorem dX5_init_24 : decode cX5_init 24 = .ok (.aload_n 0, 1) := by decide +kernel
theorem dX5_init_25 : decode cX5_init 25 = .ok (.new 15, 3) := by decide +kernel
theorem dX5_init_28 : decode cX5_init 28 = .ok (.dup, 1) := by decide +kernel
theorem dX5_init_29 : decode cX5_init 29 = .ok (.iconst 2, 1) := by decide +kernel
theorem dX5_init_30 : decode cX5_init 30 = .ok (.invokespecial 17, 3) := by decide +kernel
theorem dX5_init_33 : decode cX5_init 33 = .ok (.putfield 24, 3) := by decide +kernel
theorem dX5_init_36 : decode cX5_init 36 = .ok (.aload_n 0, 1) := by decide +kernel
theorem dX5_init_37 : decode cX5_init 37 = .ok (.bipush 12, 2) := by decide +kernel
theorem dX5_init_39 : decode cX5_init 39 = .ok (.newarray .int, 2) := by decide +kernel
theorem dX5_init_41 : decode cX5_init 41 = .ok (.putfield 27, 3) := by decide +kernel
theorem dX5_init_44 : decode cX5_init 44 = .ok (.return_, 1) := by decide +kernel
set_option maxRecDepth 20000 in
theorem ggX5_addNeed_X3_add : GoodIn wsX5_addNeed wsX3_add := goodIn_r _ [7, 8, 9, 10, 11, 12, 13, 14, 15, 6, 16, 17, 18, 19, 20, 21, 22, 23, 49, 50, 51, 52, 53] (by decide +kernel) (by decide +kernel)
set_option maxRecDepth 20000 in
theorem gX5_addNeed_X3_add : GoodIn wsX5_addNeed (wsV RX5 31 RX3 yX3_add wsX3_add) := goodIn_app (goodIn_of _ (by decide +kernel)) ggX5_addNeed_X3_add
set_option maxRecDepth 20000 in
theorem ggX5_addNeed_X5_measureDepths : GoodIn wsX5_addNeed wsX5_measureDepths := goodIn_r _ [28, 29, 30, 31, 32, 33, 34, 35, 36, 27, 37, 2, 38, 39, 18, 19, 6, 20, 10, 21, 22, 23, 44, 45, 46, 47, 48, 49, 50, 51, 52, 53] (by decide +kernel) (by decide +kernel)
set_option maxRecDepth 20000 in
theorem gX5_addNeed_X5_measureDepths : GoodIn wsX5_addNeed (wsV RX5 35 RX5 yX5_measureDepths wsX5_measureDepths) := goodIn_app (goodIn_of _ (by decide +kernel)) ggX5_addNeed_X5_measureDepths
set_option maxRecDepth 20000 in
theorem ggX5_addNeed_X3_dropLast : GoodIn wsX5_addNeed wsX3_dropLast := goodIn_r _ [43, 8, 49, 50, 51, 52, 53] (by decide +kernel) (by decide +kernel)
set_option maxRecDepth 20000 in
theorem gX5_addNeed_X3_dropLast : GoodIn wsX5_addNeed (wsV RX5 39 RX3 yX3_dropLast wsX3_dropLast) := goodIn_app (goodIn_of _ (by decide +kernel)) ggX5_addNeed_X3_dropLast
theorem dX5_addNeed_0 : decode cX5_addNeed 0 = .ok (.aload_n 0, 1) := by decide +kernel
theorem dX5_addNeed_1 : decode cX5_addNeed 1 = .ok (.getfield 9, 3) := by decide +kernel
theorem dX5_addNeed_4 : decode cX5_addNeed 4 = .ok (.iload_n 1, 1) := by decide +kernel
theorem dX5_addNeed_5 : decode cX5_addNeed 5 = .ok (.baload, 1) := by decide +kernel
theorem dX5_addNeed_6 : decode cX5_addNeed 6 = .ok (.ifCond .eq 18, 3) := by decide +kernel
theorem dX5_addNeed_9 : decode cX5_addNeed 9 = .ok (.aload_n 0, 1) := by decide +kernel
theorem dX5_addNeed_10 : decode cX5_addNeed 10 = .ok (.getfield 20, 3) := by decide +kernel
theorem dX5_addNeed_13 : decode cX5_addNeed 13 = .ok (.iload_n 1, 1) := by decide +kernel
theorem dX5_addNeed_14 : decode cX5_addNeed 14 = .ok (.iload_n 2, 1) := by decide +kernel
theorem dX5_addNeed_15 : decode cX5_addNeed 15 = .ok (.iload_n 3, 1) := by decide +kernel
theorem dX5_addNeed_16 : decode cX5_addNeed 16 = .ok (.iload 4, 2) := by decide +kernel
theorem dX5_addNeed_18 : decode cX5_addNeed 18 = .ok (.invokevirtual 31, 3) := by decide +kernel
theorem dX5_addNeed_21 : decode cX5_addNeed 21 = .ok (.ifCond .ne 5, 3) := by decide +kernel
theorem dX5_addNeed_24 : decode cX5_addNeed 24 = .ok (.iconst 0, 1) := by decide +kernel
theorem dX5_addNeed_25 : decode cX5_addNeed 25 = .ok (.ireturn, 1) := by decide +kernel
theorem dX5_addNeed_26 : decode cX5_addNeed 26 = .ok (.aload_n 0, 1) := by decide +kernel
theorem dX5_addNeed_27 : decode cX5_addNeed 27 = .ok (.invokevirtual 35, 3) := by decide +kernel
theorem dX5_addNeed_30 : decode cX5_addNeed 30 = .ok (.iconst 3, 1) := by decide +kernel
theorem dX5_addNeed_31 : decode cX5_addNeed 31 = .ok (.if_icmp .le 18, 3) := by decide +kernel
theorem dX5_addNeed_34 : decode cX5_addNeed 34 = .ok (.aload_n 0, 1) := by decide +kernel
theorem dX5_addNeed_35 : decode cX5_addNeed 35 = .ok (.getfield 20, 3) := by decide +kernel
theorem dX5_addNeed_38 : decode cX5_addNeed 38 = .ok (.iload_n 1, 1) := by decide +kernel
theorem dX5_addNeed_39 : decode cX5_addNeed 39 = .ok (.invokevirtual 39, 3) := by decide +kernel
theorem dX5_addNeed_42 : decode cX5_addNeed 42 = .ok (.aload_n 0, 1) := by decide +kernel
theorem dX5_addNeed_43 : decode cX5_addNeed 43 = .ok (.invokevirtual 35, 3) := by decide +kernel
theorem dX5_addNeed_46 : decode cX5_addNeed 46 = .ok (.pop, 1) := by decide +kernel
theorem dX5_addNeed_47 : decode cX5_addNeed 47 = .ok (.iconst 0, 1) := by decide +kernel
theorem dX5_addNeed_48 : decode cX5_addNeed 48 = .ok (.ireturn, 1) := by decide +kernel
theorem dX5_addNeed_49 : decode cX5_addNeed 49 = .ok (.iconst 1, 1) := by decide +kernel
theorem dX5_addNeed_50 : decode cX5_addNeed 50 = .ok (.ireturn, 1) := by decide +kernel
set_option maxRecDepth 20000 in
theorem ggX5_addByProduct_X3_add : GoodIn wsX5_addByProduct wsX3_add := goodIn_r _ [7, 8, 9, 10, 11, 12, 13, 14, 15, 6, 16, 17, 18, 19, 20, 21, 22, 23, 29, 30, 31, 32, 33] (by decide +kernel) (by decide +kernel)
set_option maxRecDepth 20000 in
theorem gX5_addByProduct_X3_add : GoodIn wsX5_addByProduct (wsV RX5 31 RX3 yX3_add wsX3_add) := goodIn_app (goodIn_of _ (by decide +kernel)) ggX5_addByProduct_X3_add
theorem dX5_addByProduct_0 : decode cX5_addByProduct 0 = .ok (.aload_n 0, 1) := by decide +kernel
theorem dX5_addByProduct_1 : decode cX5_addByProduct 1 = .ok (.getfield 9, 3) := by decide +kernel
theorem dX5_addByProduct_4 : decode cX5_addByProduct 4 = .ok (.iload_n 1, 1) := by decide +kernel
theorem dX5_addByProduct_5 : decode cX5_addByProduct 5 = .ok (.baload, 1) := by decide +kernel
theorem dX5_addByProduct_6 : decode cX5_addByProduct 6 = .ok (.ifCond .eq 22, 3) := by decide +kernel
theorem dX5_addByProduct_9 : decode cX5_addByProduct 9 = .ok (.aload_n 0, 1) := by decide +kernel
theorem dX5_addByProduct_10 : decode cX5_addByProduct 10 = .ok (.getfield 24, 3) := by decide +kernel
theorem dX5_addByProduct_13 : decode cX5_addByProduct 13 = .ok (.iload_n 1, 1) := by decide +kernel
theorem dX5_addByProduct_14 : decode cX5_addByProduct 14 = .ok (.iload_n 2, 1) := by decide +kernel
theorem dX5_addByProduct_15 : decode cX5_addByProduct 15 = .ok (.iload_n 3, 1) := by decide +kernel
theorem dX5_addByProduct_16 : decode cX5_addByProduct 16 = .ok (.iload 4, 2) := by decide +kernel
theorem dX5_addByProduct_18 : decode cX5_addByProduct 18 = .ok (.invokevirtual 31, 3) := by decide +kernel
theorem dX5_addByProduct_21 : decode cX5_addByProduct 21 = .ok (.ifCond .eq 7, 3) := by decide +kernel
theorem dX5_addByProduct_24 : decode cX5_addByProduct 24 = .ok (.iconst 1, 1) := by decide +kernel
theorem dX5_addByProduct_25 : decode cX5_addByProduct 25 = .ok (.goto 4, 3) := by decide +kernel
theorem dX5_addByProduct_28 : decode cX5_addByProduct 28 = .ok (.iconst 0, 1) := by decide +kernel
theorem dX5_addByProduct_29 : decode cX5_addByProduct 29 = .ok (.ireturn, 1) := by decide +kernel
set_option maxRecDepth 20000 in
theorem ggX5_measureDepths_X5_depthByNeeds : GoodIn wsX5_measureDepths wsX5_depthByNeeds := goodIn_r _ [10, 11, 12, 1, 2, 3, 4, 5, 13, 14, 15, 16, 17, 18, 19, 20, 21, 22, 23, 24, 25, 26, 27, 28, 29, 30, 31] (by decide +kernel) (by decide +kernel)
set_option maxRecDepth 20000 in
theorem gX5_measureDepths_X5_depthByNeeds : GoodIn wsX5_measureDepths (wsV RX5 42 RX5 yX5_depthByNeeds wsX5_depthByNeeds) := goodIn_app (goodIn_of _ (by decide +kernel)) ggX5_measureDepths_X5_depthByNeeds
theorem dX5_measureDepths_0 : decode cX5_measureDepths 0 = .ok (.iconst 0, 1) := by decide +kernel
theorem dX5_measureDepths_1 : decode cX5_measureDepths 1 = .ok (.istore_n 1, 1) := by decide +kernel
theorem dX5_measureDepths_2 : decode cX5_measureDepths 2 = .ok (.iconst 0, 1) := by decide +kernel
theorem dX5_measureDepths_3 : decode cX5_measureDepths 3 = .ok (.istore_n 2, 1) := by decide +kernel
theorem dX5_measureDepths_4 : decode cX5_measureDepths 4 = .ok (.iload_n 2, 1) := by decide +kernel
theorem dX5_measureDepths_5 : decode cX5_measureDepths 5 = .ok (.bipush 12, 2) := by decide +kernel
theorem dX5_measureDepths_7 : decode cX5_measureDepths 7 = .ok (.if_icmp .ge 16, 3) := by decide +kernel
theorem dX5_measureDepths_10 : decode cX5_measureDepths 10 = .ok (.aload_n 0, 1) := by decide +kernel
theorem dX5_measureDepths_11 : decode cX5_measureDepths 11 = .ok (.getfield 27, 3) := by decide +kernel
theorem dX5_measureDepths_14 : decode cX5_measureDepths 14 = .ok (.iload_n 2, 1) := by decide +kernel
theorem dX5_measureDepths_15 : decode cX5_measureDepths 15 = .ok (.iconst 0, 1) := by decide +kernel
theorem dX5_measureDepths_16 : decode cX5_measureDepths 16 = .ok (.iastore, 1) := by decide +kernel
theorem dX5_measureDepths_17 : decode cX5_measureDepths 17 = .ok (.iinc 2 1, 3) := by decide +kernel
theorem dX5_measureDepths_20 : decode cX5_measureDepths 20 = .ok (.goto (-16), 3) := by decide +kernel
theorem dX5_measureDepths_23 : decode cX5_measureDepths 23 = .ok (.iconst 0, 1) := by decide +kernel
theorem dX5_measureDepths_24 : decode cX5_measureDepths 24 = .ok (.istore_n 2, 1) := by decide +kernel
theorem dX5_measureDepths_25 : decode cX5_measureDepths 25 = .ok (.iload_n 2, 1) := by decide +kernel
theorem dX5_measureDepths_26 : decode cX5_measureDepths 26 = .ok (.iconst 3, 1) := by decide +kernel
theorem dX5_measureDepths_27 : decode cX5_measureDepths 27 = .ok (.if_icmp .gt 45, 3) := by decide +kernel
theorem dX5_measureDepths_30 : decode cX5_measureDepths 30 = .ok (.iconst 0, 1) := by decide +kernel
theorem dX5_measureDepths_31 : decode cX5_measureDepths 31 = .ok (.istore_n 3, 1) := by decide +kernel
theorem dX5_measureDepths_32 : decode cX5_measureDepths 32 = .ok (.iload_n 3, 1) := by decide +kernel
theorem dX5_measureDepths_33 : decode cX5_measureDepths 33 = .ok (.bipush 12, 2) := by decide +kernel
theorem dX5_measureDepths_35 : decode cX5_measureDepths 35 = .ok (.if_icmp .ge 31, 3) := by decide +kernel
theorem dX5_measureDepths_38 : decode cX5_measureDepths 38 = .ok (.aload_n 0, 1) := by decide +kernel
theorem dX5_measureDepths_39 : decode cX5_measureDepths 39 = .ok (.getfield 27, 3) := by decide +kernel
theorem dX5_measureDepths_42 : decode cX5_measureDepths 42 = .ok (.iload_n 3, 1) := by decide +kernel
theorem dX5_measureDepths_43 : decode cX5_measureDepths 43 = .ok (.aload_n 0, 1) := by decide +kernel
theorem dX5_measureDepths_44 : decode cX5_measureDepths 44 = .ok (.iload_n 3, 1) := by decide +kernel
theorem dX5_measureDepths_45 : decode cX5_measureDepths 45 = .ok (.invokevirtual 42, 3) := by decide +kernel
theorem dX5_measureDepths_48 : decode cX5_measureDepths 48 = .ok (.iastore, 1) := by decide +kernel
theorem dX5_measureDepths_49 : decode cX5_measureDepths 49 = .ok (.iload_n 1, 1) := by decide +kernel
theorem dX5_measureDepths_50 : decode cX5_measureDepths 50 = .ok (.aload_n 0, 1) := by decide +kernel
theorem dX5_measureDepths_51 : decode cX5_measureDepths 51 = .ok (.getfield 27, 3) := by decide +kernel
theorem dX5_measureDepths_54 : decode cX5_measureDepths 54 = .ok (.iload_n 3, 1) := by decide +kernel
theorem dX5_measureDepths_55 : decode cX5_measureDepths 55 = .ok (.iaload, 1) := by decide +kernel
theorem dX5_measureDepths_56 : decode cX5_measureDepths 56 = .ok (.invokestatic 46, 3) := by decide +kernel
theorem dX5_measureDepths_59 : decode cX5_measureDepths 59 = .ok (.istore_n 1, 1) := by decide +kernel
theorem dX5_measureDepths_60 : decode cX5_measureDepths 60 = .ok (.iinc 3 1, 3) := by decide +kernel
theorem dX5_measureDepths_63 : decode cX5_measureDepths 63 = .ok (.goto (-31), 3) := by decide +kernel
theorem dX5_measureDepths_66 : decode cX5_measureDepths 66 = .ok (.iinc 2 1, 3) := by decide +kernel
theorem dX5_measureDepths_69 : decode cX5_measureDepths 69 = .ok (.goto (-44), 3) := by decide +kernel
theorem dX5_measureDepths_72 : decode cX5_measureDepths 72 = .ok (.iload_n 1, 1) := by decide +kernel
theorem dX5_measureDepths_73 : decode cX5_measureDepths 73 = .ok (.ireturn, 1) := by decide +kernel
set_option maxRecDepth 20000 in
theorem ggX5_depthByNeeds_X3_goodAt : GoodIn wsX5_depthByNeeds wsX3_goodAt := goodIn_r _ [12, 13, 14, 15, 11, 16, 22, 23, 24, 25, 26] (by decide +kernel) (by decide +kernel)
set_option maxRecDepth 20000 in
theorem gX5_depthByNeeds_X3_goodAt : GoodIn wsX5_depthByNeeds (wsV RX5 55 RX3 yX3_goodAt wsX3_goodAt) := goodIn_app (goodIn_of _ (by decide +kernel)) ggX5_depthByNeeds_X3_goodAt
theorem dX5_depthByNeeds_0 : decode cX5_depthByNeeds 0 = .ok (.iconst 0, 1) := by decide +kernel
theorem dX5_depthByNeeds_1 : decode cX5_depthByNeeds 1 = .ok (.istore_n 2, 1) := by decide +kernel
theorem dX5_depthByNeeds_2 : decode cX5_depthByNeeds 2 = .ok (.iconst 0, 1) := by decide +kernel
theorem dX5_depthByNeeds_3 : decode cX5_depthByNeeds 3 = .ok (.istore_n 3, 1) := by decide +kernel
theorem dX5_depthByNeeds_4 : decode cX5_depthByNeeds 4 = .ok (.iload_n 3, 1) := by decide +kernel
theorem dX5_depthByNeeds_5 : decode cX5_depthByNeeds 5 = .ok (.aload_n 0, 1) := by decide +kernel
theorem dX5_depthByNeeds_6 : decode cX5_depthByNeeds 6 = .ok (.getfield 20, 3) := by decide +kernel
theorem dX5_depthByNeeds_9 : decode cX5_depthByNeeds 9 = .ok (.getfield 52, 3) := by decide +kernel
theorem dX5_depthByNeeds_12 : decode cX5_depthByNeeds 12 = .ok (.iload_n 1, 1) := by decide +kernel
theorem dX5_depthByNeeds_13 : decode cX5_depthByNeeds 13 = .ok (.iaload, 1) := by decide +kernel
theorem dX5_depthByNeeds_14 : decode cX5_depthByNeeds 14 = .ok (.if_icmp .ge 30, 3) := by decide +kernel
theorem dX5_depthByNeeds_17 : decode cX5_depthByNeeds 17 = .ok (.iload_n 2, 1) := by decide +kernel
theorem dX5_depthByNeeds_18 : decode cX5_depthByNeeds 18 = .ok (.iconst 1, 1) := by decide +kernel
theorem dX5_depthByNeeds_19 : decode cX5_depthByNeeds 19 = .ok (.aload_n 0, 1) := by decide +kernel
theorem dX5_depthByNeeds_20 : decode cX5_depthByNeeds 20 = .ok (.getfield 27, 3) := by decide +kernel
theorem dX5_depthByNeeds_23 : decode cX5_depthByNeeds 23 = .ok (.aload_n 0, 1) := by decide +kernel
theorem dX5_depthByNeeds_24 : decode cX5_depthByNeeds 24 = .ok (.getfield 20, 3) := by decide +kernel
theorem dX5_depthByNeeds_27 : decode cX5_depthByNeeds 27 = .ok (.iload_n 1, 1) := by decide +kernel
theorem dX5_depthByNeeds_28 : decode cX5_depthByNeeds 28 = .ok (.iload_n 3, 1) := by decide +kernel
theorem dX5_depthByNeeds_29 : decode cX5_depthByNeeds 29 = .ok (.invokevirtual 55, 3) := by decide +kernel
theorem dX5_depthByNeeds_32 : decode cX5_depthByNeeds 32 = .ok (.iaload, 1) := by decide +kernel
theorem dX5_depthByNeeds_33 : decode cX5_depthByNeeds 33 = .ok (.iadd, 1) := by decide +kernel
theorem dX5_depthByNeeds_34 : decode cX5_depthByNeeds 34 = .ok (.invokestatic 46, 3) := by decide +kernel
theorem dX5_depthByNeeds_37 : decode cX5_depthByNeeds 37 = .ok (.istore_n 2, 1) := by decide +kernel
theorem dX5_depthByNeeds_38 : decode cX5_depthByNeeds 38 = .ok (.iinc 3 1, 3) := by decide +kernel
theorem dX5_depthByNeeds_41 : decode cX5_depthByNeeds 41 = .ok (.goto (-37), 3) := by decide +kernel
theorem dX5_depthByNeeds_44 : decode cX5_depthByNeeds 44 = .ok (.iload_n 2, 1) := by decide +kernel
theorem dX5_depthByNeeds_45 : decode cX5_depthByNeeds 45 = .ok (.ireturn, 1) := by decide +kernel
set_option maxRecDepth 20000 in
theorem ggX6_init_X5_init : GoodIn wsX6_init wsX5_init := goodIn_r _ [27, 28, 2, 3, 29, 30, 31, 32, 33, 34, 35, 4, 36, 37, 38, 39, 40, 41, 42, 43, 44, 45, 46, 47, 48, 49, 88, 89, 90, 91, 92, 111, 112, 113, 114, 115] (by decide +kernel) (by decide +kernel)
set_option maxRecDepth 20000 in
theorem gX6_init_X5_init_n15 : GoodIn wsX6_init (wsX5_init) := ggX6_init_X5_init
set_option maxRecDepth 20000 in
theorem ggX6_init_X2_init : GoodIn wsX6_init wsX2_init := goodIn_r _ [51, 52, 2, 3, 4, 53, 54, 55, 56, 57, 93, 94, 95, 96, 97, 98] (by decide +kernel) (by decide +kernel)
set_option maxRecDepth 20000 in
theorem gX6_init_X2_init_n22 : GoodIn wsX6_init (wsX2_init) := ggX6_init_X2_init
set_option maxRecDepth 20000 in
theorem ggX6_init_X4_init : GoodIn wsX6_init wsX4_init := goodIn_r _ [59, 60, 2, 3, 4, 61, 54, 62, 63, 99, 100, 101, 102] (by decide +kernel) (by decide +kernel)
set_option maxRecDepth 20000 in
theorem gX6_init_X4_init_n29 : GoodIn wsX6_init (wsX4_init) := ggX6_init_X4_init
set_option maxRecDepth 20000 in
theorem ggX6_init_X0_init : GoodIn wsX6_init wsX0_init := goodIn_r _ [65, 66, 2, 3, 4, 67, 54, 68, 69, 70, 71, 103, 104, 105, 106, 107, 108] (by decide +kernel) (by decide +kernel)
set_option maxRecDepth 20000 in
theorem gX6_init_X0_init_n36 : GoodIn wsX6_init (wsX0_init) := ggX6_init_X0_init
set_option maxRecDepth 20000 in
theorem ggX6_init_X1_init : GoodIn wsX6_init wsX1_init := goodIn_r _ [73, 74, 2, 3, 54, 75, 76, 109, 110] (by decide +kernel) (by decide +kernel)
set_option maxRecDepth 20000 in
theorem gX6_init_X1_init_n43 : GoodIn wsX6_init (wsX1_init) := ggX6_init_X1_init
theorem dX6_init_0 : decode cX6_init 0 = .ok (.aload_n 0, 1) := by decide +kernel
theorem dX6_init_1 : decode cX6_init 1 = .ok (.invokespecial 1, 3) := by decide +kernel
theorem dX6_init_4 : decode cX6_init 4 = .ok (.aload_n 0, 1) := by decide +kernel
theorem dX6_init_5 : decode cX6_init 5 = .ok (.bipush 12, 2) := by decide +kernel
theorem dX6_init_7 : decode cX6_init 7 = .ok (.newarray .int, 2) := by decide +kernel
theorem dX6_init_9 : decode cX6_init 9 = .ok (.putfield 9, 3) := by decide +kernel
theorem dX6_init_12 : decode cX6_init 12 = .ok (.iconst 0, 1) := by decide +kernel
theorem dX6_init_13 : decode cX6_init 13 = .ok (.istore_n 1, 1) := by decide +kernel
theorem dX6_init_14 : decode cX6_init 14 = .ok (.iload_n 1, 1) := by decide +kernel
theorem dX6_init_15 : decode cX6_init 15 = .ok (.bipush 12, 2) := by decide +kernel
theorem dX6_init_17 : decode cX6_init 17 = .ok (.if_icmp .ge 16, 3) := by decide +kernel
theorem dX6_init_20 : decode cX6_init 20 = .ok (.aload_n 0, 1) := by decide +kernel
theorem dX6_init_21 : decode cX6_init 21 = .ok (.getfield 9, 3) := by decide +kernel
theorem dX6_init_24 : decode cX6_init 24 = .ok (.iload_n 1, 1) := by decide +kernel
theorem dX6_init_25 : decode cX6_init 25 = .ok (.iconst 1, 1) := by decide +kernel
theorem dX6_init_26 : decode cX6_init 26 = .ok (.iastore, 1) := by decide +kernel
theorem dX6_init_27 : decode cX6_init 27 = .ok (.iinc 1 1, 3) := by decide +kernel
theorem dX6_init_30 : decode cX6_init 30 = .ok (.goto (-16), 3) := by decide +kernel
theorem dX6_init_33 : decode cX6_init 33 = .ok (.aload_n 0, 1) := by decide +kernel
theorem dX6_init_34 : decode cX6_init 34 = .ok (.new 13, 3) := by decide +kernel
theorem dX6_init_37 : decode cX6_init 37 = .ok (.dup, 1) := by decide +kernel
theorem dX6_init_38 : decode cX6_init 38 = .ok (.invokespecial 15, 3) := by decide +kernel
theorem dX6_init_41 : decode cX6_init 41 = .ok (.putfield 16, 3) := by decide +kernel
theorem dX6_init_44 : decode cX6_init 44 = .ok (.aload_n 0, 1) := by decide +kernel
theorem dX6_init_45 : decode cX6_init 45 = .ok (.new 20, 3) := by decide +kernel
theorem dX6_init_48 : decode cX6_init 48 = .ok (.dup, 1) := by decide +kernel
theorem dX6_init_49 : decode cX6_init 49 = .ok (.invokespecial 22, 3) := by decide +kernel
theorem dX6_init_52 : decode cX6_init 52 = .ok (.putfield 23, 3) := by decide +kernel
theorem dX6_init_55 : decode cX6_init 55 = .ok (.aload_n 0, 1) := by decide +kernel
theorem dX6_init_56 : decode cX6_init 56 = .ok (.new 27, 3) := by decide +kernel
theorem dX6_init_59 : decode cX6_init 59 = .ok (.dup, 1) := by decide +kernel
theorem dX6_init_60 : decode cX6_init 60 = .ok (.invokespecial 29, 3) := by decide +kernel
theorem dX6_init_63 : decode cX6_init 63 = .ok (.putfield 30, 3) := by decide +kernel
theorem dX6_init_66 : decode cX6_init 66 = .ok (.aload_n 0, 1) := by decide +kernel
theorem dX6_init_67 : decode cX6_init 67 = .ok (.new 34, 3) := by decide +kernel
theorem dX6_init_70 : decode cX6_init 70 = .ok (.dup, 1) := by decide +kernel
theorem dX6_init_71 : decode cX6_init 71 = .ok (.invokespecial 36, 3) := by decide +kernel
theorem dX6_init_74 : decode cX6_init 74 = .ok (.putfield 37, 3) := by decide +kernel
theorem dX6_init_77 : decode cX6_init 77 = .ok (.aload_n 0, 1) := by decide +kernel
theorem dX6_init_78 : decode cX6_init 78 = .ok (.new 41, 3) := by decide +kernel
theorem dX6_init_81 : decode cX6_init 81 = .ok (.dup, 1) := by decide +kernel
theorem dX6_init_82 : decode cX6_init 82 = .ok (.invokespecial 43, 3) := by decide +kernel
theorem dX6_init_85 : decode cX6_init 85 = .ok (.putfield 44, 3) := by decide +kernel
theorem dX6_init_88 : decode cX6_init 88 = .ok (.return_, 1) := by decide +kernel
set_option maxRecDepth 20000 in
theorem ggX6_value_X6_isGood : GoodIn wsX6_value wsX6_isGood := goodIn_r _ [5, 6, 7, 4, 8] (by decide +kernel) (by decide +kernel)
set_option maxRecDepth 20000 in
theorem gX6_value_X6_isGood : GoodIn wsX6_value (va_wsS RX6 48 yX6_isGood wsX6_isGood) := goodIn_app (goodIn_of _ (by decide +kernel)) ggX6_value_X6_isGood
set_option maxRecDepth 20000 in
theorem ggX6_value_X6_isWithin : GoodIn wsX6_value wsX6_isWithin := goodIn_r _ [8] (by decide +kernel) (by decide +kernel)
set_option maxRecDepth 20000 in
theorem gX6_value_X6_isWithin : GoodIn wsX6_value (va_wsS RX6 52 yX6_isWithin wsX6_isWithin) := goodIn_app (goodIn_of _ (by decide +kernel)) ggX6_value_X6_isWithin
theorem dX6_value_0 : decode cX6_value 0 = .ok (.iload_n 1, 1) := by decide +kernel
theorem dX6_value_1 : decode cX6_value 1 = .ok (.invokestatic 48, 3) := by decide +kernel
theorem dX6_value_4 : decode cX6_value 4 = .ok (.ifCond .eq 14, 3) := by decide +kernel
theorem dX6_value_7 : decode cX6_value 7 = .ok (.iload_n 2, 1) := by decide +kernel
theorem dX6_value_8 : decode cX6_value 8 = .ok (.iconst 0, 1) := by decide +kernel
theorem dX6_value_9 : decode cX6_value 9 = .ok (.sipush 10000, 3) := by decide +kernel
theorem dX6_value_12 : decode cX6_value 12 = .ok (.invokestatic 52, 3) := by decide +kernel
theorem dX6_value_15 : decode cX6_value 15 = .ok (.ifCond .ne 5, 3) := by decide +kernel
theorem dX6_value_18 : decode cX6_value 18 = .ok (.iconst 0, 1) := by decide +kernel
theorem dX6_value_19 : decode cX6_value 19 = .ok (.ireturn, 1) := by decide +kernel
theorem dX6_value_20 : decode cX6_value 20 = .ok (.aload_n 0, 1) := by decide +kernel
theorem dX6_value_21 : decode cX6_value 21 = .ok (.getfield 9, 3) := by decide +kernel
theorem dX6_value_24 : decode cX6_value 24 = .ok (.iload_n 1, 1) := by decide +kernel
theorem dX6_value_25 : decode cX6_value 25 = .ok (.iload_n 2, 1) := by decide +kernel
theorem dX6_value_26 : decode cX6_value 26 = .ok (.iastore, 1) := by decide +kernel
theorem dX6_value_27 : decode cX6_value 27 = .ok (.iconst 1, 1) := by decide +kernel
theorem dX6_value_28 : decode cX6_value 28 = .ok (.ireturn, 1) := by decide +kernel
set_option maxRecDepth 20000 in
theorem ggX6_recipe_X6_isGood : GoodIn wsX6_recipe wsX6_isGood := goodIn_r _ [7, 8, 9, 6, 10] (by decide +kernel) (by decide +kernel)
set_option maxRecDepth 20000 in
theorem gX6_recipe_X6_isGood : GoodIn wsX6_recipe (va_wsS RX6 48 yX6_isGood wsX6_isGood) := goodIn_app (goodIn_of _ (by decide +kernel)) ggX6_recipe_X6_isGood
theorem dX6_recipe_0 : decode cX6_recipe 0 = .ok (.iload_n 1, 1) := by decide +kernel
theorem dX6_recipe_1 : decode cX6_recipe 1 = .ok (.invokestatic 48, 3) := by decide +kernel
theorem dX6_recipe_4 : decode cX6_recipe 4 = .ok (.ifCond .eq 15, 3) := by decide +kernel
theorem dX6_recipe_7 : decode cX6_recipe 7 = .ok (.aload_n 0, 1) := by decide +kernel
theorem dX6_recipe_8 : decode cX6_recipe 8 = .ok (.getfield 16, 3) := by decide +kernel
theorem dX6_recipe_11 : decode cX6_recipe 11 = .ok (.getfield 56, 3) := by decide +kernel
theorem dX6_recipe_14 : decode cX6_recipe 14 = .ok (.iload_n 1, 1) := by decide +kernel
theorem dX6_recipe_15 : decode cX6_recipe 15 = .ok (.baload, 1) := by decide +kernel
theorem dX6_recipe_16 : decode cX6_recipe 16 = .ok (.ifCond .eq 5, 3) := by decide +kernel
theorem dX6_recipe_19 : decode cX6_recipe 19 = .ok (.iconst 0, 1) := by decide +kernel
theorem dX6_recipe_20 : decode cX6_recipe 20 = .ok (.ireturn, 1) := by decide +kernel
theorem dX6_recipe_21 : decode cX6_recipe 21 = .ok (.aload_n 0, 1) := by decide +kernel
theorem dX6_recipe_22 : decode cX6_recipe 22 = .ok (.getfield 16, 3) := by decide +kernel
theorem dX6_recipe_25 : decode cX6_recipe 25 = .ok (.getfield 56, 3) := by decide +kernel
theorem dX6_recipe_28 : decode cX6_recipe 28 = .ok (.iload_n 1, 1) := by decide +kernel
theorem dX6_recipe_29 : decode cX6_recipe 29 = .ok (.iconst 1, 1) := by decide +kernel
theorem dX6_recipe_30 : decode cX6_recipe 30 = .ok (.bastore, 1) := by decide +kernel
theorem dX6_recipe_31 : decode cX6_recipe 31 = .ok (.aload_n 0, 1) := by decide +kernel
theorem dX6_recipe_32 : decode cX6_recipe 32 = .ok (.getfield 16, 3) := by decide +kernel
theorem dX6_recipe_35 : decode cX6_recipe 35 = .ok (.dup, 1) := by decide +kernel
theorem dX6_recipe_36 : decode cX6_recipe 36 = .ok (.getfield 60, 3) := by decide +kernel
theorem dX6_recipe_39 : decode cX6_recipe 39 = .ok (.iconst 1, 1) := by decide +kernel
theorem dX6_recipe_40 : decode cX6_recipe 40 = .ok (.iadd, 1) := by decide +kernel
theorem dX6_recipe_41 : decode cX6_recipe 41 = .ok (.putfield 60, 3) := by decide +kernel
theorem dX6_recipe_44 : decode cX6_recipe 44 = .ok (.iconst 1, 1) := by decide +kernel
theorem dX6_recipe_45 : decode cX6_recipe 45 = .ok (.ireturn, 1) := by decide +kernel
set_option maxRecDepth 20000 in
theorem ggX6_needs_X6_checkPart : GoodIn wsX6_needs wsX6_checkPart := goodIn_ca (goodIn_r _ [5, 6, 7, 8, 9, 4, 10, 11, 12, 13] (by decide +kernel) (by decide +kernel)) (goodIn_sub (fun _ h => List.mem_cons_of_mem _ (List.mem_append_right _ h)) (by decide +kernel))
set_option maxRecDepth 20000 in
theorem gX6_needs_X6_checkPart : GoodIn wsX6_needs (va_wsS RX6 64 yX6_checkPart wsX6_checkPart) := goodIn_app (goodIn_of _ (by decide +kernel)) ggX6_needs_X6_checkPart
set_option maxRecDepth 20000 in
theorem ggX6_needs_X5_addNeed : GoodIn wsX6_needs wsX5_addNeed := goodIn_r _ [18, 19, 20, 21, 22, 23, 24, 25, 26, 27, 28, 29, 30, 31, 32, 33, 34, 35, 36, 37, 38, 39, 40, 41, 42, 43, 44, 17, 45, 46, 47, 48, 49, 50, 51, 52, 53, 54, 55, 56, 57, 58, 59, 60, 72, 73, 74, 75, 76, 77, 78, 79, 80, 81] (by decide +kernel) (by decide +kernel)
set_option maxRecDepth 20000 in
theorem gX6_needs_X5_addNeed : GoodIn wsX6_needs (wsV RX6 68 RX5 yX5_addNeed wsX5_addNeed) := goodIn_app (goodIn_of _ (by decide +kernel)) ggX6_needs_X5_addNeed
theorem dX6_needs_0 : decode cX6_needs 0 = .ok (.iload_n 1, 1) := by decide +kernel
theorem dX6_needs_1 : decode cX6_needs 1 = .ok (.iload_n 2, 1) := by decide +kernel
theorem dX6_needs_2 : decode cX6_needs 2 = .ok (.iload_n 3, 1) := by decide +kernel
theorem dX6_needs_3 : decode cX6_needs 3 = .ok (.iload 4, 2) := by decide +kernel
theorem dX6_needs_5 : decode cX6_needs 5 = .ok (.invokestatic 64, 3) := by decide +kernel
theorem dX6_needs_8 : decode cX6_needs 8 = .ok (.aload_n 0, 1) := by decide +kernel
theorem dX6_needs_9 : decode cX6_needs 9 = .ok (.getfield 16, 3) := by decide +kernel
theorem dX6_needs_12 : decode cX6_needs 12 = .ok (.iload_n 1, 1) := by decide +kernel
theorem dX6_needs_13 : decode cX6_needs 13 = .ok (.iload_n 2, 1) := by decide +kernel
theorem dX6_needs_14 : decode cX6_needs 14 = .ok (.iload_n 3, 1) := by decide +kernel
theorem dX6_needs_15 : decode cX6_needs 15 = .ok (.iload 4, 2) := by decide +kernel
theorem dX6_needs_17 : decode cX6_needs 17 = .ok (.invokevirtual 68, 3) := by decide +kernel
theorem dX6_needs_20 : decode cX6_needs 20 = .ok (.ifCond .eq 7, 3) := by decide +kernel
theorem dX6_needs_23 : decode cX6_needs 23 = .ok (.iconst 1, 1) := by decide +kernel
theorem dX6_needs_24 : decode cX6_needs 24 = .ok (.goto 4, 3) := by decide +kernel
theorem dX6_needs_27 : decode cX6_needs 27 = .ok (.iconst 0, 1) := by decide +kernel
theorem dX6_needs_28 : decode cX6_needs 28 = .ok (.ireturn, 1) := by decide +kernel
set_option maxRecDepth 20000 in
theorem ggX6_yields_X6_checkPart : GoodIn wsX6_yields wsX6_checkPart := goodIn_ca (goodIn_r _ [5, 6, 7, 8, 9, 4, 10, 11, 12, 13] (by decide +kernel) (by decide +kernel)) (goodIn_sub (fun _ h => List.mem_cons_of_mem _ (List.mem_append_right _ h)) (by decide +kernel))
set_option maxRecDepth 20000 in
theorem gX6_yields_X6_checkPart : GoodIn wsX6_yields (va_wsS RX6 64 yX6_checkPart wsX6_checkPart) := goodIn_app (goodIn_of _ (by decide +kernel)) ggX6_yields_X6_checkPart
set_option maxRecDepth 20000 in
theorem ggX6_yields_X5_addByProduct : GoodIn wsX6_yields wsX5_addByProduct := goodIn_r _ [18, 19, 20, 21, 22, 23, 24, 25, 26, 27, 28, 29, 30, 31, 32, 33, 34, 35, 36, 37, 38, 39, 40, 41, 53, 54, 55, 56, 57, 58, 59, 60, 61, 62] (by decide +kernel) (by decide +kernel)
set_option maxRecDepth 20000 in
theorem gX6_yields_X5_addByProduct : GoodIn wsX6_yields (wsV RX6 72 RX5 yX5_addByProduct wsX5_addByProduct) := goodIn_app (goodIn_of _ (by decide +kernel)) ggX6_yields_X5_addByProduct
theorem dX6_yields_0 : decode cX6_yields 0 = .ok (.iload_n 1, 1) := by decide +kernel
theorem dX6_yields_1 : decode cX6_yields 1 = .ok (.iload_n 2, 1) := by decide +kernel
theorem dX6_yields_2 : decode cX6_yields 2 = .ok (.iload_n 3, 1) := by decide +kernel
theorem dX6_yields_3 : decode cX6_yields 3 = .ok (.iload 4, 2) := by decide +kernel
theorem dX6_yields_5 : decode cX6_yields 5 = .ok (.invokestatic 64, 3) := by decide +kernel
theorem dX6_yields_8 : decode cX6_yields 8 = .ok (.aload_n 0, 1) := by decide +kernel
theorem dX6_yields_9 : decode cX6_yields 9 = .ok (.getfield 16, 3) := by decide +kernel
theorem dX6_yields_12 : decode cX6_yields 12 = .ok (.iload_n 1, 1) := by decide +kernel
theorem dX6_yields_13 : decode cX6_yields 13 = .ok (.iload_n 2, 1) := by decide +kernel
theorem dX6_yields_14 : decode cX6_yields 14 = .ok (.iload_n 3, 1) := by decide +kernel
theorem dX6_yields_15 : decode cX6_yields 15 = .ok (.iload 4, 2) := by decide +kernel
theorem dX6_yields_17 : decode cX6_yields 17 = .ok (.invokevirtual 72, 3) := by decide +kernel
theorem dX6_yields_20 : decode cX6_yields 20 = .ok (.ifCond .eq 7, 3) := by decide +kernel
theorem dX6_yields_23 : decode cX6_yields 23 = .ok (.iconst 1, 1) := by decide +kernel
theorem dX6_yields_24 : decode cX6_yields 24 = .ok (.goto 4, 3) := by decide +kernel
theorem dX6_yields_27 : decode cX6_yields 27 = .ok (.iconst 0, 1) := by decide +kernel
theorem dX6_yields_28 : decode cX6_yields 28 = .ok (.ireturn, 1) := by decide +kernel
set_option maxRecDepth 20000 in
theorem ggX6_in_X6_isGood : GoodIn wsX6_in wsX6_isGood := goodIn_r _ [14, 15, 16, 13, 17] (by decide +kernel) (by decide +kernel)
set_option maxRecDepth 20000 in
theorem gX6_in_X6_isGood : GoodIn wsX6_in (va_wsS RX6 48 yX6_isGood wsX6_isGood) := goodIn_app (goodIn_of _ (by decide +kernel)) ggX6_in_X6_isGood
set_option maxRecDepth 20000 in
theorem ggX6_in_X6_isWithin : GoodIn wsX6_in wsX6_isWithin := goodIn_r _ [17] (by decide +kernel) (by decide +kernel)
set_option maxRecDepth 20000 in
theorem gX6_in_X6_isWithin : GoodIn wsX6_in (va_wsS RX6 52 yX6_isWithin wsX6_isWithin) := goodIn_app (goodIn_of _ (by decide +kernel)) ggX6_in_X6_isWithin
set_option maxRecDepth 20000 in
theorem ggX6_in_X2_free : GoodIn wsX6_in wsX2_free := goodIn_r _ [22, 23, 69, 70, 71, 72, 73, 74] (by decide +kernel) (by decide +kernel)
set_option maxRecDepth 20000 in
theorem gX6_in_X2_free : GoodIn wsX6_in (wsV RX6 83 RX2 yX2_free wsX2_free) := goodIn_app (goodIn_of _ (by decide +kernel)) ggX6_in_X2_free
set_option maxRecDepth 20000 in
theorem ggX6_in_X2_add : GoodIn wsX6_in wsX2_add := goodIn_r _ [27, 23, 28, 29, 30, 31, 69, 70, 71, 72, 73, 74] (by decide +kernel) (by decide +kernel)
set_option maxRecDepth 20000 in
theorem gX6_in_X2_add : GoodIn wsX6_in (wsV RX6 95 RX2 yX2_add wsX2_add) := goodIn_app (goodIn_of _ (by decide +kernel)) ggX6_in_X2_add
set_option maxRecDepth 20000 in
theorem ggX6_in_X4_meet : GoodIn wsX6_in wsX4_meet := goodIn_r _ [36, 37, 38, 39, 40, 41, 42, 43, 44, 45, 16, 13, 17, 46, 47, 48, 35, 49, 50, 51, 52, 53, 54, 21, 55, 29, 30, 56, 57, 69, 70, 71, 72, 73, 74, 75, 76, 77, 78] (by decide +kernel) (by decide +kernel)
set_option maxRecDepth 20000 in
theorem gX6_in_X4_meet : GoodIn wsX6_in (wsV RX6 106 RX4 yX4_meet wsX4_meet) := goodIn_app (goodIn_of _ (by decide +kernel)) ggX6_in_X4_meet
theorem dX6_in_0 : decode cX6_in 0 = .ok (.iload_n 1, 1) := by decide +kernel
theorem dX6_in_1 : decode cX6_in 1 = .ok (.invokestatic 48, 3) := by decide +kernel
theorem dX6_in_4 : decode cX6_in 4 = .ok (.ifCond .eq 24, 3) := by decide +kernel
theorem dX6_in_7 : decode cX6_in 7 = .ok (.iload_n 2, 1) := by decide +kernel
theorem dX6_in_8 : decode cX6_in 8 = .ok (.iconst 1, 1) := by decide +kernel
theorem dX6_in_9 : decode cX6_in 9 = .ok (.sipush 10000, 3) := by decide +kernel
theorem dX6_in_12 : decode cX6_in 12 = .ok (.invokestatic 52, 3) := by decide +kernel
theorem dX6_in_15 : decode cX6_in 15 = .ok (.ifCond .eq 13, 3) := by decide +kernel
theorem dX6_in_18 : decode cX6_in 18 = .ok (.iload_n 3, 1) := by decide +kernel
theorem dX6_in_19 : decode cX6_in 19 = .ok (.iconst 0, 1) := by decide +kernel
theorem dX6_in_20 : decode cX6_in 20 = .ok (.ldc 75, 2) := by decide +kernel
theorem dX6_in_22 : decode cX6_in 22 = .ok (.invokestatic 52, 3) := by decide +kernel
theorem dX6_in_25 : decode cX6_in 25 = .ok (.ifCond .ne 13, 3) := by decide +kernel
theorem dX6_in_28 : decode cX6_in 28 = .ok (.new 76, 3) := by decide +kernel
theorem dX6_in_31 : decode cX6_in 31 = .ok (.dup, 1) := by decide +kernel
theorem dX6_in_32 : decode cX6_in 32 = .ok (.ldc 78, 2) := by decide +kernel
theorem dX6_in_34 : decode cX6_in 34 = .ok (.invokespecial 80, 3) := by decide +kernel
theorem dX6_in_37 : decode cX6_in 37 = .ok (.athrow, 1) := by decide +kernel
theorem dX6_in_38 : decode cX6_in 38 = .ok (.aload_n 0, 1) := by decide +kernel
theorem dX6_in_39 : decode cX6_in 39 = .ok (.getfield 23, 3) := by decide +kernel
theorem dX6_in_42 : decode cX6_in 42 = .ok (.invokevirtual 83, 3) := by decide +kernel
theorem dX6_in_45 : decode cX6_in 45 = .ok (.iconst 1, 1) := by decide +kernel
theorem dX6_in_46 : decode cX6_in 46 = .ok (.if_icmp .ge 13, 3) := by decide +kernel
theorem dX6_in_49 : decode cX6_in 49 = .ok (.new 87, 3) := by decide +kernel
theorem dX6_in_52 : decode cX6_in 52 = .ok (.dup, 1) := by decide +kernel
theorem dX6_in_53 : decode cX6_in 53 = .ok (.ldc 89, 2) := by decide +kernel
theorem dX6_in_55 : decode cX6_in 55 = .ok (.invokespecial 91, 3) := by decide +kernel
theorem dX6_in_58 : decode cX6_in 58 = .ok (.athrow, 1) := by decide +kernel
theorem dX6_in_59 : decode cX6_in 59 = .ok (.aload_n 0, 1) := by decide +kernel
theorem dX6_in_60 : decode cX6_in 60 = .ok (.getfield 23, 3) := by decide +kernel
theorem dX6_in_63 : decode cX6_in 63 = .ok (.iload_n 1, 1) := by decide +kernel
theorem dX6_in_64 : decode cX6_in 64 = .ok (.iload_n 2, 1) := by decide +kernel
theorem dX6_in_65 : decode cX6_in 65 = .ok (.i2l, 1) := by decide +kernel
theorem dX6_in_66 : decode cX6_in 66 = .ok (.iload_n 3, 1) := by decide +kernel
theorem dX6_in_67 : decode cX6_in 67 = .ok (.i2l, 1) := by decide +kernel
theorem dX6_in_68 : decode cX6_in 68 = .ok (.aload_n 0, 1) := by decide +kernel
theorem dX6_in_69 : decode cX6_in 69 = .ok (.getfield 92, 3) := by decide +kernel
theorem dX6_in_72 : decode cX6_in 72 = .ok (.invokevirtual 95, 3) := by decide +kernel
theorem dX6_in_75 : decode cX6_in 75 = .ok (.istore 4, 2) := by decide +kernel
theorem dX6_in_77 : decode cX6_in 77 = .ok (.aload_n 0, 1) := by decide +kernel
theorem dX6_in_78 : decode cX6_in 78 = .ok (.dup, 1) := by decide +kernel
theorem dX6_in_79 : decode cX6_in 79 = .ok (.getfield 99, 3) := by decide +kernel
theorem dX6_in_82 : decode cX6_in 82 = .ok (.iload_n 3, 1) := by decide +kernel
theorem dX6_in_83 : decode cX6_in 83 = .ok (.i2l, 1) := by decide +kernel
theorem dX6_in_84 : decode cX6_in 84 = .ok (.ladd, 1) := by decide +kernel
theorem dX6_in_85 : decode cX6_in 85 = .ok (.putfield 99, 3) := by decide +kernel
theorem dX6_in_88 : decode cX6_in 88 = .ok (.aload_n 0, 1) := by decide +kernel
theorem dX6_in_89 : decode cX6_in 89 = .ok (.dup, 1) := by decide +kernel
theorem dX6_in_90 : decode cX6_in 90 = .ok (.getfield 103, 3) := by decide +kernel
theorem dX6_in_93 : decode cX6_in 93 = .ok (.aload_n 0, 1) := by decide +kernel
theorem dX6_in_94 : decode cX6_in 94 = .ok (.getfield 30, 3) := by decide +kernel
theorem dX6_in_97 : decode cX6_in 97 = .ok (.aload_n 0, 1) := by decide +kernel
theorem dX6_in_98 : decode cX6_in 98 = .ok (.getfield 23, 3) := by decide +kernel
theorem dX6_in_101 : decode cX6_in 101 = .ok (.iload 4, 2) := by decide +kernel
theorem dX6_in_103 : decode cX6_in 103 = .ok (.aload_n 0, 1) := by decide +kernel
theorem dX6_in_104 : decode cX6_in 104 = .ok (.getfield 92, 3) := by decide +kernel
theorem dX6_in_107 : decode cX6_in 107 = .ok (.invokevirtual 106, 3) := by decide +kernel
theorem dX6_in_110 : decode cX6_in 110 = .ok (.ladd, 1) := by decide +kernel
theorem dX6_in_111 : decode cX6_in 111 = .ok (.putfield 103, 3) := by decide +kernel
theorem dX6_in_114 : decode cX6_in 114 = .ok (.iload 4, 2) := by decide +kernel
theorem dX6_in_116 : decode cX6_in 116 = .ok (.ireturn, 1) := by decide +kernel
set_option maxRecDepth 20000 in
theorem ggX6_made_X6_isGood : GoodIn wsX6_made wsX6_isGood := goodIn_r _ [14, 15, 16, 13, 17] (by decide +kernel) (by decide +kernel)
set_option maxRecDepth 20000 in
theorem gX6_made_X6_isGood : GoodIn wsX6_made (va_wsS RX6 48 yX6_isGood wsX6_isGood) := goodIn_app (goodIn_of _ (by decide +kernel)) ggX6_made_X6_isGood
set_option maxRecDepth 20000 in
theorem ggX6_made_X6_isWithin : GoodIn wsX6_made wsX6_isWithin := goodIn_r _ [17] (by decide +kernel) (by decide +kernel)
set_option maxRecDepth 20000 in
theorem gX6_made_X6_isWithin : GoodIn wsX6_made (va_wsS RX6 52 yX6_isWithin wsX6_isWithin) := goodIn_app (goodIn_of _ (by decide +kernel)) ggX6_made_X6_isWithin
set_option maxRecDepth 20000 in
theorem ggX6_made_X0_plan : GoodIn wsX6_made wsX0_plan := goodIn_r _ [22, 23, 24, 25, 26, 27, 28, 29, 30, 31, 32, 33, 34, 35, 36, 37, 38, 39, 40, 41, 42, 13, 43, 146, 147, 148, 149, 150, 151, 141, 142, 143, 144, 145] (by decide +kernel) (by decide +kernel)
set_option maxRecDepth 20000 in
theorem gX6_made_X0_plan : GoodIn wsX6_made (wsV RX6 124 RX0 yX0_plan wsX0_plan) := goodIn_app (goodIn_of _ (by decide +kernel)) ggX6_made_X0_plan
set_option maxRecDepth 20000 in
theorem ggX6_made_X6_suffices : GoodIn wsX6_made wsX6_suffices := goodIn_r _ [47, 3, 4, 5, 8, 48, 28, 29, 30, 31, 32, 33, 34, 35, 49, 50, 51, 52, 53, 54, 55, 56, 57, 58, 59, 60, 40, 41, 61, 13, 62, 63, 42, 43, 125, 126, 127, 128, 129, 130, 131, 132, 133, 134, 135, 136, 137, 138, 139, 140, 141, 142, 143, 144, 145, 152, 153, 154, 155, 156, 157] (by decide +kernel) (by decide +kernel)
set_option maxRecDepth 20000 in
theorem gX6_made_X6_suffices : GoodIn wsX6_made (wsV RX6 128 RX6 yX6_suffices wsX6_suffices) := goodIn_app (goodIn_of _ (by decide +kernel)) ggX6_made_X6_suffices
set_option maxRecDepth 20000 in
theorem ggX6_made_X2_free : GoodIn wsX6_made wsX2_free := goodIn_r _ [67, 54, 152, 153, 154, 155, 156, 157] (by decide +kernel) (by decide +kernel)
set_option maxRecDepth 20000 in
theorem gX6_made_X2_free : GoodIn wsX6_made (wsV RX6 83 RX2 yX2_free wsX2_free) := goodIn_app (goodIn_of _ (by decide +kernel)) ggX6_made_X2_free
set_option maxRecDepth 20000 in
theorem ggX6_made_X0_lotsToAdd : GoodIn wsX6_made wsX0_lotsToAdd := goodIn_r _ [71, 25, 24, 146, 147, 148, 149, 150, 151] (by decide +kernel) (by decide +kernel)
set_option maxRecDepth 20000 in
theorem gX6_made_X0_lotsToAdd : GoodIn wsX6_made (wsV RX6 132 RX0 yX0_lotsToAdd wsX0_lotsToAdd) := goodIn_app (goodIn_of _ (by decide +kernel)) ggX6_made_X0_lotsToAdd
set_option maxRecDepth 20000 in
theorem ggX6_made_X0_weigh : GoodIn wsX6_made wsX0_weigh := goodIn_r _ [75, 25, 76, 24, 23, 146, 147, 148, 149, 150, 151] (by decide +kernel) (by decide +kernel)
set_option maxRecDepth 20000 in
theorem gX6_made_X0_weigh : GoodIn wsX6_made (wsV RX6 135 RX0 yX0_weigh wsX0_weigh) := goodIn_app (goodIn_of _ (by decide +kernel)) ggX6_made_X0_weigh
set_option maxRecDepth 20000 in
theorem ggX6_made_X6_takeNeeds : GoodIn wsX6_made wsX6_takeNeeds := goodIn_r _ [80, 3, 4, 5, 8, 10, 48, 28, 29, 30, 31, 32, 33, 34, 35, 57, 58, 59, 60, 40, 41, 61, 13, 62, 63, 42, 43, 81, 82, 83, 52, 84, 85, 54, 55, 56, 86, 87, 88, 89, 90, 91, 92, 93, 94, 95, 96, 97, 98, 99, 100, 101, 125, 126, 127, 128, 129, 130, 131, 132, 133, 134, 135, 136, 137, 138, 139, 140, 141, 142, 143, 144, 145, 152, 153, 154, 155, 156, 157] (by decide +kernel) (by decide +kernel)
set_option maxRecDepth 20000 in
theorem gX6_made_X6_takeNeeds : GoodIn wsX6_made (wsV RX6 139 RX6 yX6_takeNeeds wsX6_takeNeeds) := goodIn_app (goodIn_of _ (by decide +kernel)) ggX6_made_X6_takeNeeds
set_option maxRecDepth 20000 in
theorem ggX6_made_X0_apportion : GoodIn wsX6_made wsX0_apportion := goodIn_r _ [105, 25, 76, 106, 107, 42, 13, 43, 108, 109, 110, 21, 111, 112, 113, 114, 115, 116, 146, 147, 148, 149, 150, 151] (by decide +kernel) (by decide +kernel)
set_option maxRecDepth 20000 in
theorem gX6_made_X0_apportion : GoodIn wsX6_made (wsV RX6 143 RX0 yX0_apportion wsX0_apportion) := goodIn_app (goodIn_of _ (by decide +kernel)) ggX6_made_X0_apportion
set_option maxRecDepth 20000 in
theorem ggX6_made_X0_store : GoodIn wsX6_made wsX0_store := goodIn_r _ [120, 25, 24, 23, 106, 121, 122, 123, 52, 124, 54, 55, 56, 95, 100, 146, 147, 148, 149, 150, 151, 152, 153, 154, 155, 156, 157] (by decide +kernel) (by decide +kernel)
set_option maxRecDepth 20000 in
theorem gX6_made_X0_store : GoodIn wsX6_made (wsV RX6 147 RX0 yX0_store wsX0_store) := goodIn_app (goodIn_of _ (by decide +kernel)) ggX6_made_X0_store
theorem dX6_made_0 : decode cX6_made 0 = .ok (.iload_n 1, 1) := by decide +kernel
theorem dX6_made_1 : decode cX6_made 1 = .ok (.invokestatic 48, 3) := by decide +kernel
theorem dX6_made_4 : decode cX6_made 4 = .ok (.ifCond .eq 30, 3) := by decide +kernel
theorem dX6_made_7 : decode cX6_made 7 = .ok (.aload_n 0, 1) := by decide +kernel
theorem dX6_made_8 : decode cX6_made 8 = .ok (.getfield 16, 3) := by decide +kernel
theorem dX6_made_11 : decode cX6_made 11 = .ok (.getfield 110, 3) := by decide +kernel
theorem dX6_made_14 : decode cX6_made 14 = .ok (.getfield 114, 3) := by decide +kernel
theorem dX6_made_17 : decode cX6_made 17 = .ok (.iload_n 1, 1) := by decide +kernel
theorem dX6_made_18 : decode cX6_made 18 = .ok (.iaload, 1) := by decide +kernel
theorem dX6_made_19 : decode cX6_made 19 = .ok (.iconst 1, 1) := by decide +kernel
theorem dX6_made_20 : decode cX6_made 20 = .ok (.if_icmp .lt 14, 3) := by decide +kernel
theorem dX6_made_23 : decode cX6_made 23 = .ok (.iload_n 2, 1) := by decide +kernel
theorem dX6_made_24 : decode cX6_made 24 = .ok (.iconst 1, 1) := by decide +kernel
theorem dX6_made_25 : decode cX6_made 25 = .ok (.sipush 10000, 3) := by decide +kernel
theorem dX6_made_28 : decode cX6_made 28 = .ok (.invokestatic 52, 3) := by decide +kernel
theorem dX6_made_31 : decode cX6_made 31 = .ok (.ifCond .ne 13, 3) := by decide +kernel
theorem dX6_made_34 : decode cX6_made 34 = .ok (.new 76, 3) := by decide +kernel
theorem dX6_made_37 : decode cX6_made 37 = .ok (.dup, 1) := by decide +kernel
theorem dX6_made_38 : decode cX6_made 38 = .ok (.ldc 119, 2) := by decide +kernel
theorem dX6_made_40 : decode cX6_made 40 = .ok (.invokespecial 80, 3) := by decide +kernel
theorem dX6_made_43 : decode cX6_made 43 = .ok (.athrow, 1) := by decide +kernel
theorem dX6_made_44 : decode cX6_made 44 = .ok (.aload_n 0, 1) := by decide +kernel
theorem dX6_made_45 : decode cX6_made 45 = .ok (.getfield 37, 3) := by decide +kernel
theorem dX6_made_48 : decode cX6_made 48 = .ok (.aload_n 0, 1) := by decide +kernel
theorem dX6_made_49 : decode cX6_made 49 = .ok (.getfield 16, 3) := by decide +kernel
theorem dX6_made_52 : decode cX6_made 52 = .ok (.getfield 121, 3) := by decide +kernel
theorem dX6_made_55 : decode cX6_made 55 = .ok (.iload_n 1, 1) := by decide +kernel
theorem dX6_made_56 : decode cX6_made 56 = .ok (.iload_n 2, 1) := by decide +kernel
theorem dX6_made_57 : decode cX6_made 57 = .ok (.invokevirtual 124, 3) := by decide +kernel
theorem dX6_made_60 : decode cX6_made 60 = .ok (.aload_n 0, 1) := by decide +kernel
theorem dX6_made_61 : decode cX6_made 61 = .ok (.iload_n 1, 1) := by decide +kernel
theorem dX6_made_62 : decode cX6_made 62 = .ok (.iload_n 2, 1) := by decide +kernel
theorem dX6_made_63 : decode cX6_made 63 = .ok (.invokevirtual 128, 3) := by decide +kernel
theorem dX6_made_66 : decode cX6_made 66 = .ok (.ifCond .eq 20, 3) := by decide +kernel
theorem dX6_made_69 : decode cX6_made 69 = .ok (.aload_n 0, 1) := by decide +kernel
theorem dX6_made_70 : decode cX6_made 70 = .ok (.getfield 23, 3) := by decide +kernel
theorem dX6_made_73 : decode cX6_made 73 = .ok (.invokevirtual 83, 3) := by decide +kernel
theorem dX6_made_76 : decode cX6_made 76 = .ok (.aload_n 0, 1) := by decide +kernel
theorem dX6_made_77 : decode cX6_made 77 = .ok (.getfield 37, 3) := by decide +kernel
theorem dX6_made_80 : decode cX6_made 80 = .ok (.invokevirtual 132, 3) := by decide +kernel
theorem dX6_made_83 : decode cX6_made 83 = .ok (.if_icmp .ge 5, 3) := by decide +kernel
theorem dX6_made_86 : decode cX6_made 86 = .ok (.iconst 0, 1) := by decide +kernel
theorem dX6_made_87 : decode cX6_made 87 = .ok (.ireturn, 1) := by decide +kernel
theorem dX6_made_88 : decode cX6_made 88 = .ok (.aload_n 0, 1) := by decide +kernel
theorem dX6_made_89 : decode cX6_made 89 = .ok (.getfield 37, 3) := by decide +kernel
theorem dX6_made_92 : decode cX6_made 92 = .ok (.aload_n 0, 1) := by decide +kernel
theorem dX6_made_93 : decode cX6_made 93 = .ok (.getfield 9, 3) := by decide +kernel
theorem dX6_made_96 : decode cX6_made 96 = .ok (.iload_n 3, 1) := by decide +kernel
theorem dX6_made_97 : decode cX6_made 97 = .ok (.invokevirtual 135, 3) := by decide +kernel
theorem dX6_made_100 : decode cX6_made 100 = .ok (.aload_n 0, 1) := by decide +kernel
theorem dX6_made_101 : decode cX6_made 101 = .ok (.getfield 37, 3) := by decide +kernel
theorem dX6_made_104 : decode cX6_made 104 = .ok (.aload_n 0, 1) := by decide +kernel
theorem dX6_made_105 : decode cX6_made 105 = .ok (.iload_n 1, 1) := by decide +kernel
theorem dX6_made_106 : decode cX6_made 106 = .ok (.iload_n 2, 1) := by decide +kernel
theorem dX6_made_107 : decode cX6_made 107 = .ok (.invokevirtual 139, 3) := by decide +kernel
theorem dX6_made_110 : decode cX6_made 110 = .ok (.invokevirtual 143, 3) := by decide +kernel
theorem dX6_made_113 : decode cX6_made 113 = .ok (.aload_n 0, 1) := by decide +kernel
theorem dX6_made_114 : decode cX6_made 114 = .ok (.getfield 37, 3) := by decide +kernel
theorem dX6_made_117 : decode cX6_made 117 = .ok (.aload_n 0, 1) := by decide +kernel
theorem dX6_made_118 : decode cX6_made 118 = .ok (.getfield 23, 3) := by decide +kernel
theorem dX6_made_121 : decode cX6_made 121 = .ok (.aload_n 0, 1) := by decide +kernel
theorem dX6_made_122 : decode cX6_made 122 = .ok (.getfield 92, 3) := by decide +kernel
theorem dX6_made_125 : decode cX6_made 125 = .ok (.invokevirtual 147, 3) := by decide +kernel
theorem dX6_made_128 : decode cX6_made 128 = .ok (.iconst 1, 1) := by decide +kernel
theorem dX6_made_129 : decode cX6_made 129 = .ok (.ireturn, 1) := by decide +kernel
set_option maxRecDepth 20000 in
theorem ggX6_export_X6_checkTaking : GoodIn wsX6_export wsX6_checkTaking := goodIn_ca (goodIn_r _ [8, 9, 10, 11, 12, 7, 13, 14, 15, 16] (by decide +kernel) (by decide +kernel)) (goodIn_sub (fun _ h => List.mem_cons_of_mem _ (List.mem_append_right _ h)) (by decide +kernel))
set_option maxRecDepth 20000 in
theorem gX6_export_X6_checkTaking : GoodIn wsX6_export (va_wsS RX6 151 yX6_checkTaking wsX6_checkTaking) := goodIn_app (goodIn_of _ (by decide +kernel)) ggX6_export_X6_checkTaking
set_option maxRecDepth 20000 in
theorem ggX6_export_X2_stockOf : GoodIn wsX6_export wsX2_stockOf := goodIn_r _ [21, 22, 23, 24, 62, 63, 64, 65, 66, 67] (by decide +kernel) (by decide +kernel)
set_option maxRecDepth 20000 in
theorem gX6_export_X2_stockOf : GoodIn wsX6_export (wsV RX6 155 RX2 yX2_stockOf wsX2_stockOf) := goodIn_app (goodIn_of _ (by decide +kernel)) ggX6_export_X2_stockOf
set_option maxRecDepth 20000 in
theorem ggX6_export_X2_take : GoodIn wsX6_export wsX2_take := goodIn_r _ [28, 29, 22, 23, 24, 30, 31, 32, 33, 34, 35, 36, 37, 20, 38, 39, 40, 7, 41, 42, 43, 44, 45, 46, 47, 48, 49, 50, 62, 63, 64, 65, 66, 67] (by decide +kernel) (by decide +kernel)
set_option maxRecDepth 20000 in
theorem gX6_export_X2_take : GoodIn wsX6_export (wsV RX6 161 RX2 yX2_take wsX2_take) := goodIn_app (goodIn_of _ (by decide +kernel)) ggX6_export_X2_take
theorem dX6_export_0 : decode cX6_export 0 = .ok (.iload_n 1, 1) := by decide +kernel
theorem dX6_export_1 : decode cX6_export 1 = .ok (.iload_n 2, 1) := by decide +kernel
theorem dX6_export_2 : decode cX6_export 2 = .ok (.invokestatic 151, 3) := by decide +kernel
theorem dX6_export_5 : decode cX6_export 5 = .ok (.aload_n 0, 1) := by decide +kernel
theorem dX6_export_6 : decode cX6_export 6 = .ok (.getfield 23, 3) := by decide +kernel
theorem dX6_export_9 : decode cX6_export 9 = .ok (.iload_n 1, 1) := by decide +kernel
theorem dX6_export_10 : decode cX6_export 10 = .ok (.invokevirtual 155, 3) := by decide +kernel
theorem dX6_export_13 : decode cX6_export 13 = .ok (.iload_n 2, 1) := by decide +kernel
theorem dX6_export_14 : decode cX6_export 14 = .ok (.i2l, 1) := by decide +kernel
theorem dX6_export_15 : decode cX6_export 15 = .ok (.lcmp, 1) := by decide +kernel
theorem dX6_export_16 : decode cX6_export 16 = .ok (.ifCond .ge 7, 3) := by decide +kernel
theorem dX6_export_19 : decode cX6_export 19 = .ok (.ldc2_w 159, 3) := by decide +kernel
theorem dX6_export_22 : decode cX6_export 22 = .ok (.lreturn, 1) := by decide +kernel
theorem dX6_export_23 : decode cX6_export 23 = .ok (.aload_n 0, 1) := by decide +kernel
theorem dX6_export_24 : decode cX6_export 24 = .ok (.getfield 23, 3) := by decide +kernel
theorem dX6_export_27 : decode cX6_export 27 = .ok (.iload_n 1, 1) := by decide +kernel
theorem dX6_export_28 : decode cX6_export 28 = .ok (.iload_n 2, 1) := by decide +kernel
theorem dX6_export_29 : decode cX6_export 29 = .ok (.i2l, 1) := by decide +kernel
theorem dX6_export_30 : decode cX6_export 30 = .ok (.aload_n 0, 1) := by decide +kernel
theorem dX6_export_31 : decode cX6_export 31 = .ok (.getfield 92, 3) := by decide +kernel
theorem dX6_export_34 : decode cX6_export 34 = .ok (.invokevirtual 161, 3) := by decide +kernel
theorem dX6_export_37 : decode cX6_export 37 = .ok (.lstore_n 3, 1) := by decide +kernel
theorem dX6_export_38 : decode cX6_export 38 = .ok (.aload_n 0, 1) := by decide +kernel
theorem dX6_export_39 : decode cX6_export 39 = .ok (.dup, 1) := by decide +kernel
theorem dX6_export_40 : decode cX6_export 40 = .ok (.getfield 103, 3) := by decide +kernel
theorem dX6_export_43 : decode cX6_export 43 = .ok (.lload_n 3, 1) := by decide +kernel
theorem dX6_export_44 : decode cX6_export 44 = .ok (.ladd, 1) := by decide +kernel
theorem dX6_export_45 : decode cX6_export 45 = .ok (.putfield 103, 3) := by decide +kernel
theorem dX6_export_48 : decode cX6_export 48 = .ok (.lload_n 3, 1) := by decide +kernel
theorem dX6_export_49 : decode cX6_export 49 = .ok (.lreturn, 1) := by decide +kernel
set_option maxRecDepth 20000 in
theorem ggX6_release_X6_checkTaking : GoodIn wsX6_release wsX6_checkTaking := goodIn_ca (goodIn_r _ [10, 11, 12, 13, 14, 9, 15, 16, 17, 18] (by decide +kernel) (by decide +kernel)) (goodIn_sub (fun _ h => List.mem_cons_of_mem _ (List.mem_append_right _ h)) (by decide +kernel))
set_option maxRecDepth 20000 in
theorem gX6_release_X6_checkTaking : GoodIn wsX6_release (va_wsS RX6 151 yX6_checkTaking wsX6_checkTaking) := goodIn_app (goodIn_of _ (by decide +kernel)) ggX6_release_X6_checkTaking
set_option maxRecDepth 20000 in
theorem ggX6_release_X2_stockOf : GoodIn wsX6_release wsX2_stockOf := goodIn_r _ [23, 24, 25, 26, 64, 65, 66, 67, 68, 69] (by decide +kernel) (by decide +kernel)
set_option maxRecDepth 20000 in
theorem gX6_release_X2_stockOf : GoodIn wsX6_release (wsV RX6 155 RX2 yX2_stockOf wsX2_stockOf) := goodIn_app (goodIn_of _ (by decide +kernel)) ggX6_release_X2_stockOf
set_option maxRecDepth 20000 in
theorem ggX6_release_X2_take : GoodIn wsX6_release wsX2_take := goodIn_r _ [30, 31, 24, 25, 26, 32, 33, 34, 35, 36, 37, 38, 39, 22, 40, 41, 42, 9, 43, 44, 45, 46, 47, 48, 49, 50, 51, 52, 64, 65, 66, 67, 68, 69] (by decide +kernel) (by decide +kernel)
set_option maxRecDepth 20000 in
theorem gX6_release_X2_take : GoodIn wsX6_release (wsV RX6 161 RX2 yX2_take wsX2_take) := goodIn_app (goodIn_of _ (by decide +kernel)) ggX6_release_X2_take
theorem dX6_release_0 : decode cX6_release 0 = .ok (.iload_n 1, 1) := by decide +kernel
theorem dX6_release_1 : decode cX6_release 1 = .ok (.iload_n 2, 1) := by decide +kernel
theorem dX6_release_2 : decode cX6_release 2 = .ok (.invokestatic 151, 3) := by decide +kernel
theorem dX6_release_5 : decode cX6_release 5 = .ok (.aload_n 0, 1) := by decide +kernel
theorem dX6_release_6 : decode cX6_release 6 = .ok (.getfield 23, 3) := by decide +kernel
theorem dX6_release_9 : decode cX6_release 9 = .ok (.iload_n 1, 1) := by decide +kernel
theorem dX6_release_10 : decode cX6_release 10 = .ok (.invokevirtual 155, 3) := by decide +kernel
theorem dX6_release_13 : decode cX6_release 13 = .ok (.iload_n 2, 1) := by decide +kernel
theorem dX6_release_14 : decode cX6_release 14 = .ok (.i2l, 1) := by decide +kernel
theorem dX6_release_15 : decode cX6_release 15 = .ok (.lcmp, 1) := by decide +kernel
theorem dX6_release_16 : decode cX6_release 16 = .ok (.ifCond .ge 7, 3) := by decide +kernel
theorem dX6_release_19 : decode cX6_release 19 = .ok (.ldc2_w 159, 3) := by decide +kernel
theorem dX6_release_22 : decode cX6_release 22 = .ok (.lreturn, 1) := by decide +kernel
theorem dX6_release_23 : decode cX6_release 23 = .ok (.aload_n 0, 1) := by decide +kernel
theorem dX6_release_24 : decode cX6_release 24 = .ok (.getfield 23, 3) := by decide +kernel
theorem dX6_release_27 : decode cX6_release 27 = .ok (.iload_n 1, 1) := by decide +kernel
theorem dX6_release_28 : decode cX6_release 28 = .ok (.iload_n 2, 1) := by decide +kernel
theorem dX6_release_29 : decode cX6_release 29 = .ok (.i2l, 1) := by decide +kernel
theorem dX6_release_30 : decode cX6_release 30 = .ok (.aload_n 0, 1) := by decide +kernel
theorem dX6_release_31 : decode cX6_release 31 = .ok (.getfield 92, 3) := by decide +kernel
theorem dX6_release_34 : decode cX6_release 34 = .ok (.invokevirtual 161, 3) := by decide +kernel
theorem dX6_release_37 : decode cX6_release 37 = .ok (.lstore_n 3, 1) := by decide +kernel
theorem dX6_release_38 : decode cX6_release 38 = .ok (.aload_n 0, 1) := by decide +kernel
theorem dX6_release_39 : decode cX6_release 39 = .ok (.dup, 1) := by decide +kernel
theorem dX6_release_40 : decode cX6_release 40 = .ok (.getfield 165, 3) := by decide +kernel
theorem dX6_release_43 : decode cX6_release 43 = .ok (.lload_n 3, 1) := by decide +kernel
theorem dX6_release_44 : decode cX6_release 44 = .ok (.ladd, 1) := by decide +kernel
theorem dX6_release_45 : decode cX6_release 45 = .ok (.putfield 165, 3) := by decide +kernel
theorem dX6_release_48 : decode cX6_release 48 = .ok (.aload_n 0, 1) := by decide +kernel
theorem dX6_release_49 : decode cX6_release 49 = .ok (.dup, 1) := by decide +kernel
theorem dX6_release_50 : decode cX6_release 50 = .ok (.getfield 168, 3) := by decide +kernel
theorem dX6_release_53 : decode cX6_release 53 = .ok (.aload_n 0, 1) := by decide +kernel
theorem dX6_release_54 : decode cX6_release 54 = .ok (.getfield 23, 3) := by decide +kernel
theorem dX6_release_57 : decode cX6_release 57 = .ok (.getfield 171, 3) := by decide +kernel
theorem dX6_release_60 : decode cX6_release 60 = .ok (.ladd, 1) := by decide +kernel
theorem dX6_release_61 : decode cX6_release 61 = .ok (.putfield 168, 3) := by decide +kernel
theorem dX6_release_64 : decode cX6_release 64 = .ok (.lload_n 3, 1) := by decide +kernel
theorem dX6_release_65 : decode cX6_release 65 = .ok (.aload_n 0, 1) := by decide +kernel
theorem dX6_release_66 : decode cX6_release 66 = .ok (.getfield 23, 3) := by decide +kernel
theorem dX6_release_69 : decode cX6_release 69 = .ok (.getfield 171, 3) := by decide +kernel
theorem dX6_release_72 : decode cX6_release 72 = .ok (.ladd, 1) := by decide +kernel
theorem dX6_release_73 : decode cX6_release 73 = .ok (.lreturn, 1) := by decide +kernel
set_option maxRecDepth 20000 in
theorem ggX6_prior_X6_isGood : GoodIn wsX6_prior wsX6_isGood := goodIn_r _ [11, 12, 13, 10, 14] (by decide +kernel) (by decide +kernel)
set_option maxRecDepth 20000 in
theorem gX6_prior_X6_isGood : GoodIn wsX6_prior (va_wsS RX6 48 yX6_isGood wsX6_isGood) := goodIn_app (goodIn_of _ (by decide +kernel)) ggX6_prior_X6_isGood
set_option maxRecDepth 20000 in
theorem ggX6_prior_X6_isWithin : GoodIn wsX6_prior wsX6_isWithin := goodIn_r _ [14] (by decide +kernel) (by decide +kernel)
set_option maxRecDepth 20000 in
theorem gX6_prior_X6_isWithin : GoodIn wsX6_prior (va_wsS RX6 52 yX6_isWithin wsX6_isWithin) := goodIn_app (goodIn_of _ (by decide +kernel)) ggX6_prior_X6_isWithin
set_option maxRecDepth 20000 in
theorem ggX6_prior_X4_add : GoodIn wsX6_prior wsX4_add := goodIn_r _ [19, 20, 21, 22, 23, 35, 36, 37, 38] (by decide +kernel) (by decide +kernel)
set_option maxRecDepth 20000 in
theorem gX6_prior_X4_add : GoodIn wsX6_prior (wsV RX6 180 RX4 yX4_add wsX4_add) := goodIn_app (goodIn_of _ (by decide +kernel)) ggX6_prior_X4_add
theorem dX6_prior_0 : decode cX6_prior 0 = .ok (.iload_n 1, 1) := by decide +kernel
theorem dX6_prior_1 : decode cX6_prior 1 = .ok (.invokestatic 48, 3) := by decide +kernel
theorem dX6_prior_4 : decode cX6_prior 4 = .ok (.ifCond .eq 24, 3) := by decide +kernel
theorem dX6_prior_7 : decode cX6_prior 7 = .ok (.iload_n 2, 1) := by decide +kernel
theorem dX6_prior_8 : decode cX6_prior 8 = .ok (.iconst 1, 1) := by decide +kernel
theorem dX6_prior_9 : decode cX6_prior 9 = .ok (.sipush 10000, 3) := by decide +kernel
theorem dX6_prior_12 : decode cX6_prior 12 = .ok (.invokestatic 52, 3) := by decide +kernel
theorem dX6_prior_15 : decode cX6_prior 15 = .ok (.ifCond .eq 13, 3) := by decide +kernel
theorem dX6_prior_18 : decode cX6_prior 18 = .ok (.iload_n 3, 1) := by decide +kernel
theorem dX6_prior_19 : decode cX6_prior 19 = .ok (.iconst 0, 1) := by decide +kernel
theorem dX6_prior_20 : decode cX6_prior 20 = .ok (.ldc 174, 2) := by decide +kernel
theorem dX6_prior_22 : decode cX6_prior 22 = .ok (.invokestatic 52, 3) := by decide +kernel
theorem dX6_prior_25 : decode cX6_prior 25 = .ok (.ifCond .ne 13, 3) := by decide +kernel
theorem dX6_prior_28 : decode cX6_prior 28 = .ok (.new 76, 3) := by decide +kernel
theorem dX6_prior_31 : decode cX6_prior 31 = .ok (.dup, 1) := by decide +kernel
theorem dX6_prior_32 : decode cX6_prior 32 = .ok (.ldc 175, 2) := by decide +kernel
theorem dX6_prior_34 : decode cX6_prior 34 = .ok (.invokespecial 80, 3) := by decide +kernel
theorem dX6_prior_37 : decode cX6_prior 37 = .ok (.athrow, 1) := by decide +kernel
theorem dX6_prior_38 : decode cX6_prior 38 = .ok (.aload_n 0, 1) := by decide +kernel
theorem dX6_prior_39 : decode cX6_prior 39 = .ok (.getfield 30, 3) := by decide +kernel
theorem dX6_prior_42 : decode cX6_prior 42 = .ok (.getfield 177, 3) := by decide +kernel
theorem dX6_prior_45 : decode cX6_prior 45 = .ok (.bipush 40, 2) := by decide +kernel
theorem dX6_prior_47 : decode cX6_prior 47 = .ok (.if_icmp .lt 13, 3) := by decide +kernel
theorem dX6_prior_50 : decode cX6_prior 50 = .ok (.new 87, 3) := by decide +kernel
theorem dX6_prior_53 : decode cX6_prior 53 = .ok (.dup, 1) := by decide +kernel
theorem dX6_prior_54 : decode cX6_prior 54 = .ok (.ldc 178, 2) := by decide +kernel
theorem dX6_prior_56 : decode cX6_prior 56 = .ok (.invokespecial 91, 3) := by decide +kernel
theorem dX6_prior_59 : decode cX6_prior 59 = .ok (.athrow, 1) := by decide +kernel
theorem dX6_prior_60 : decode cX6_prior 60 = .ok (.aload_n 0, 1) := by decide +kernel
theorem dX6_prior_61 : decode cX6_prior 61 = .ok (.getfield 30, 3) := by decide +kernel
theorem dX6_prior_64 : decode cX6_prior 64 = .ok (.iload_n 1, 1) := by decide +kernel
theorem dX6_prior_65 : decode cX6_prior 65 = .ok (.iload_n 2, 1) := by decide +kernel
theorem dX6_prior_66 : decode cX6_prior 66 = .ok (.iload_n 3, 1) := by decide +kernel
theorem dX6_prior_67 : decode cX6_prior 67 = .ok (.invokevirtual 180, 3) := by decide +kernel
theorem dX6_prior_70 : decode cX6_prior 70 = .ok (.aload_n 0, 1) := by decide +kernel
theorem dX6_prior_71 : decode cX6_prior 71 = .ok (.getfield 30, 3) := by decide +kernel
theorem dX6_prior_74 : decode cX6_prior 74 = .ok (.getfield 177, 3) := by decide +kernel
theorem dX6_prior_77 : decode cX6_prior 77 = .ok (.ireturn, 1) := by decide +kernel
set_option maxRecDepth 20000 in
theorem ggX6_day_X6_isWithin : GoodIn wsX6_day wsX6_isWithin := goodIn_r _ [6] (by decide +kernel) (by decide +kernel)
set_option maxRecDepth 20000 in
theorem gX6_day_X6_isWithin : GoodIn wsX6_day (va_wsS RX6 52 yX6_isWithin wsX6_isWithin) := goodIn_app (goodIn_of _ (by decide +kernel)) ggX6_day_X6_isWithin
theorem dX6_day_0 : decode cX6_day 0 = .ok (.iload_n 1, 1) := by decide +kernel
theorem dX6_day_1 : decode cX6_day 1 = .ok (.aload_n 0, 1) := by decide +kernel
theorem dX6_day_2 : decode cX6_day 2 = .ok (.getfield 92, 3) := by decide +kernel
theorem dX6_day_5 : decode cX6_day 5 = .ok (.ldc 174, 2) := by decide +kernel
theorem dX6_day_7 : decode cX6_day 7 = .ok (.invokestatic 52, 3) := by decide +kernel
theorem dX6_day_10 : decode cX6_day 10 = .ok (.ifCond .ne 5, 3) := by decide +kernel
theorem dX6_day_13 : decode cX6_day 13 = .ok (.iconst 0, 1) := by decide +kernel
theorem dX6_day_14 : decode cX6_day 14 = .ok (.ireturn, 1) := by decide +kernel
theorem dX6_day_15 : decode cX6_day 15 = .ok (.aload_n 0, 1) := by decide +kernel
theorem dX6_day_16 : decode cX6_day 16 = .ok (.iload_n 1, 1) := by decide +kernel
theorem dX6_day_17 : decode cX6_day 17 = .ok (.putfield 92, 3) := by decide +kernel
theorem dX6_day_20 : decode cX6_day 20 = .ok (.iconst 1, 1) := by decide +kernel
theorem dX6_day_21 : decode cX6_day 21 = .ok (.ireturn, 1) := by decide +kernel
set_option maxRecDepth 20000 in
theorem ggX6_chain_X6_isGood : GoodIn wsX6_chain wsX6_isGood := goodIn_r _ [10, 11, 12, 9, 13] (by decide +kernel) (by decide +kernel)
set_option maxRecDepth 20000 in
theorem gX6_chain_X6_isGood : GoodIn wsX6_chain (va_wsS RX6 48 yX6_isGood wsX6_isGood) := goodIn_app (goodIn_of _ (by decide +kernel)) ggX6_chain_X6_isGood
set_option maxRecDepth 20000 in
theorem ggX6_chain_X6_isWithin : GoodIn wsX6_chain wsX6_isWithin := goodIn_r _ [13] (by decide +kernel) (by decide +kernel)
set_option maxRecDepth 20000 in
theorem gX6_chain_X6_isWithin : GoodIn wsX6_chain (va_wsS RX6 52 yX6_isWithin wsX6_isWithin) := goodIn_app (goodIn_of _ (by decide +kernel)) ggX6_chain_X6_isWithin
set_option maxRecDepth 20000 in
theorem ggX6_chain_X1_trace : GoodIn wsX6_chain wsX1_trace := goodIn_r _ [18, 19, 20, 21, 22, 23, 24, 25, 17, 26, 27, 28, 29, 30, 31, 32, 33, 34, 35, 36, 37, 38, 39, 9, 40, 41, 42, 43, 55, 56, 57, 58, 59, 60, 61, 62, 63, 64, 65, 66] (by decide +kernel) (by decide +kernel)
set_option maxRecDepth 20000 in
theorem gX6_chain_X1_trace : GoodIn wsX6_chain (wsV RX6 185 RX1 yX1_trace wsX1_trace) := goodIn_app (goodIn_of _ (by decide +kernel)) ggX6_chain_X1_trace
theorem dX6_chain_0 : decode cX6_chain 0 = .ok (.iload_n 1, 1) := by decide +kernel
theorem dX6_chain_1 : decode cX6_chain 1 = .ok (.invokestatic 48, 3) := by decide +kernel
theorem dX6_chain_4 : decode cX6_chain 4 = .ok (.ifCond .eq 19, 3) := by decide +kernel
theorem dX6_chain_7 : decode cX6_chain 7 = .ok (.iload_n 2, 1) := by decide +kernel
theorem dX6_chain_8 : decode cX6_chain 8 = .ok (.invokestatic 48, 3) := by decide +kernel
theorem dX6_chain_11 : decode cX6_chain 11 = .ok (.ifCond .eq 12, 3) := by decide +kernel
theorem dX6_chain_14 : decode cX6_chain 14 = .ok (.iload_n 3, 1) := by decide +kernel
theorem dX6_chain_15 : decode cX6_chain 15 = .ok (.iconst 0, 1) := by decide +kernel
theorem dX6_chain_16 : decode cX6_chain 16 = .ok (.iconst 1, 1) := by decide +kernel
theorem dX6_chain_17 : decode cX6_chain 17 = .ok (.invokestatic 52, 3) := by decide +kernel
theorem dX6_chain_20 : decode cX6_chain 20 = .ok (.ifCond .ne 13, 3) := by decide +kernel
theorem dX6_chain_23 : decode cX6_chain 23 = .ok (.new 76, 3) := by decide +kernel
theorem dX6_chain_26 : decode cX6_chain 26 = .ok (.dup, 1) := by decide +kernel
theorem dX6_chain_27 : decode cX6_chain 27 = .ok (.ldc 183, 2) := by decide +kernel
theorem dX6_chain_29 : decode cX6_chain 29 = .ok (.invokespecial 80, 3) := by decide +kernel
theorem dX6_chain_32 : decode cX6_chain 32 = .ok (.athrow, 1) := by decide +kernel
theorem dX6_chain_33 : decode cX6_chain 33 = .ok (.aload_n 0, 1) := by decide +kernel
theorem dX6_chain_34 : decode cX6_chain 34 = .ok (.getfield 44, 3) := by decide +kernel
theorem dX6_chain_37 : decode cX6_chain 37 = .ok (.aload_n 0, 1) := by decide +kernel
theorem dX6_chain_38 : decode cX6_chain 38 = .ok (.getfield 16, 3) := by decide +kernel
theorem dX6_chain_41 : decode cX6_chain 41 = .ok (.iload_n 2, 1) := by decide +kernel
theorem dX6_chain_42 : decode cX6_chain 42 = .ok (.invokevirtual 185, 3) := by decide +kernel
theorem dX6_chain_45 : decode cX6_chain 45 = .ok (.iload_n 3, 1) := by decide +kernel
theorem dX6_chain_46 : decode cX6_chain 46 = .ok (.ifCond .ne 15, 3) := by decide +kernel
theorem dX6_chain_49 : decode cX6_chain 49 = .ok (.aload_n 0, 1) := by decide +kernel
theorem dX6_chain_50 : decode cX6_chain 50 = .ok (.getfield 44, 3) := by decide +kernel
theorem dX6_chain_53 : decode cX6_chain 53 = .ok (.getfield 189, 3) := by decide +kernel
theorem dX6_chain_56 : decode cX6_chain 56 = .ok (.iload_n 1, 1) := by decide +kernel
theorem dX6_chain_57 : decode cX6_chain 57 = .ok (.laload, 1) := by decide +kernel
theorem dX6_chain_58 : decode cX6_chain 58 = .ok (.goto 12, 3) := by decide +kernel
theorem dX6_chain_61 : decode cX6_chain 61 = .ok (.aload_n 0, 1) := by decide +kernel
theorem dX6_chain_62 : decode cX6_chain 62 = .ok (.getfield 44, 3) := by decide +kernel
theorem dX6_chain_65 : decode cX6_chain 65 = .ok (.getfield 193, 3) := by decide +kernel
theorem dX6_chain_68 : decode cX6_chain 68 = .ok (.iload_n 1, 1) := by decide +kernel
theorem dX6_chain_69 : decode cX6_chain 69 = .ok (.laload, 1) := by decide +kernel
theorem dX6_chain_70 : decode cX6_chain 70 = .ok (.lreturn, 1) := by decide +kernel
set_option maxRecDepth 20000 in
theorem ggX6_look_X6_isGood : GoodIn wsX6_look wsX6_isGood := goodIn_r _ [17, 18, 19, 16, 20] (by decide +kernel) (by decide +kernel)
set_option maxRecDepth 20000 in
theorem gX6_look_X6_isGood : GoodIn wsX6_look (va_wsS RX6 48 yX6_isGood wsX6_isGood) := goodIn_app (goodIn_of _ (by decide +kernel)) ggX6_look_X6_isGood
set_option maxRecDepth 20000 in
theorem ggX6_look_X6_isWithin : GoodIn wsX6_look wsX6_isWithin := goodIn_r _ [20] (by decide +kernel) (by decide +kernel)
set_option maxRecDepth 20000 in
theorem gX6_look_X6_isWithin : GoodIn wsX6_look (va_wsS RX6 52 yX6_isWithin wsX6_isWithin) := goodIn_app (goodIn_of _ (by decide +kernel)) ggX6_look_X6_isWithin
set_option maxRecDepth 20000 in
theorem ggX6_look_X2_stockOf : GoodIn wsX6_look wsX2_stockOf := goodIn_r _ [25, 26, 27, 28, 72, 73, 74, 75, 76, 77] (by decide +kernel) (by decide +kernel)
set_option maxRecDepth 20000 in
theorem gX6_look_X2_stockOf : GoodIn wsX6_look (wsV RX6 155 RX2 yX2_stockOf wsX2_stockOf) := goodIn_app (goodIn_of _ (by decide +kernel)) ggX6_look_X2_stockOf
set_option maxRecDepth 20000 in
theorem ggX6_look_X2_debtOf : GoodIn wsX6_look wsX2_debtOf := goodIn_r _ [32, 26, 27, 33, 72, 73, 74, 75, 76, 77] (by decide +kernel) (by decide +kernel)
set_option maxRecDepth 20000 in
theorem gX6_look_X2_debtOf : GoodIn wsX6_look (wsV RX6 201 RX2 yX2_debtOf wsX2_debtOf) := goodIn_app (goodIn_of _ (by decide +kernel)) ggX6_look_X2_debtOf
set_option maxRecDepth 20000 in
theorem ggX6_look_X2_openOf : GoodIn wsX6_look wsX2_openOf := goodIn_r _ [37, 26, 27, 28, 72, 73, 74, 75, 76, 77] (by decide +kernel) (by decide +kernel)
set_option maxRecDepth 20000 in
theorem gX6_look_X2_openOf : GoodIn wsX6_look (wsV RX6 204 RX2 yX2_openOf wsX2_openOf) := goodIn_app (goodIn_of _ (by decide +kernel)) ggX6_look_X2_openOf
set_option maxRecDepth 20000 in
theorem ggX6_look_X4_openOf : GoodIn wsX6_look wsX4_openOf := goodIn_r _ [42, 43, 44, 45, 46, 47, 41, 48, 49, 50, 78, 79, 80, 81] (by decide +kernel) (by decide +kernel)
set_option maxRecDepth 20000 in
theorem gX6_look_X4_openOf : GoodIn wsX6_look (wsV RX6 211 RX4 yX4_openOf wsX4_openOf) := goodIn_app (goodIn_of _ (by decide +kernel)) ggX6_look_X4_openOf
theorem dX6_look_0 : decode cX6_look 0 = .ok (.iload_n 1, 1) := by decide +kernel
theorem dX6_look_1 : decode cX6_look 1 = .ok (.invokestatic 48, 3) := by decide +kernel
theorem dX6_look_4 : decode cX6_look 4 = .ok (.ifCond .eq 13, 3) := by decide +kernel
theorem dX6_look_7 : decode cX6_look 7 = .ok (.iload_n 2, 1) := by decide +kernel
theorem dX6_look_8 : decode cX6_look 8 = .ok (.iconst 0, 1) := by decide +kernel
theorem dX6_look_9 : decode cX6_look 9 = .ok (.bipush 7, 2) := by decide +kernel
theorem dX6_look_11 : decode cX6_look 11 = .ok (.invokestatic 52, 3) := by decide +kernel
theorem dX6_look_14 : decode cX6_look 14 = .ok (.ifCond .ne 13, 3) := by decide +kernel
theorem dX6_look_17 : decode cX6_look 17 = .ok (.new 196, 3) := by decide +kernel
theorem dX6_look_20 : decode cX6_look 20 = .ok (.dup, 1) := by decide +kernel
theorem dX6_look_21 : decode cX6_look 21 = .ok (.ldc 198, 2) := by decide +kernel
theorem dX6_look_23 : decode cX6_look 23 = .ok (.invokespecial 200, 3) := by decide +kernel
theorem dX6_look_26 : decode cX6_look 26 = .ok (.athrow, 1) := by decide +kernel
theorem dX6_look_27 : decode cX6_look 27 = .ok (.iload_n 2, 1) := by decide +kernel
theorem dX6_look_28 : decode cX6_look 28 = .ok (.tableswitch 155 0 6 #[44, 53, 62, 72, 104, 136, 147], 44) := by decide +kernel
theorem dX6_look_72 : decode cX6_look 72 = .ok (.aload_n 0, 1) := by decide +kernel
theorem dX6_look_73 : decode cX6_look 73 = .ok (.getfield 23, 3) := by decide +kernel
theorem dX6_look_76 : decode cX6_look 76 = .ok (.iload_n 1, 1) := by decide +kernel
theorem dX6_look_77 : decode cX6_look 77 = .ok (.invokevirtual 155, 3) := by decide +kernel
theorem dX6_look_80 : decode cX6_look 80 = .ok (.lreturn, 1) := by decide +kernel
theorem dX6_look_81 : decode cX6_look 81 = .ok (.aload_n 0, 1) := by decide +kernel
theorem dX6_look_82 : decode cX6_look 82 = .ok (.getfield 23, 3) := by decide +kernel
theorem dX6_look_85 : decode cX6_look 85 = .ok (.iload_n 1, 1) := by decide +kernel
theorem dX6_look_86 : decode cX6_look 86 = .ok (.invokevirtual 201, 3) := by decide +kernel
theorem dX6_look_89 : decode cX6_look 89 = .ok (.lreturn, 1) := by decide +kernel
theorem dX6_look_90 : decode cX6_look 90 = .ok (.aload_n 0, 1) := by decide +kernel
theorem dX6_look_91 : decode cX6_look 91 = .ok (.getfield 23, 3) := by decide +kernel
theorem dX6_look_94 : decode cX6_look 94 = .ok (.iload_n 1, 1) := by decide +kernel
theorem dX6_look_95 : decode cX6_look 95 = .ok (.invokevirtual 204, 3) := by decide +kernel
theorem dX6_look_98 : decode cX6_look 98 = .ok (.i2l, 1) := by decide +kernel
theorem dX6_look_99 : decode cX6_look 99 = .ok (.lreturn, 1) := by decide +kernel
theorem dX6_look_100 : decode cX6_look 100 = .ok (.aload_n 0, 1) := by decide +kernel
theorem dX6_look_101 : decode cX6_look 101 = .ok (.getfield 16, 3) := by decide +kernel
theorem dX6_look_104 : decode cX6_look 104 = .ok (.getfield 56, 3) := by decide +kernel
theorem dX6_look_107 : decode cX6_look 107 = .ok (.iload_n 1, 1) := by decide +kernel
theorem dX6_look_108 : decode cX6_look 108 = .ok (.baload, 1) := by decide +kernel
theorem dX6_look_109 : decode cX6_look 109 = .ok (.ifCond .eq 19, 3) := by decide +kernel
theorem dX6_look_112 : decode cX6_look 112 = .ok (.aload_n 0, 1) := by decide +kernel
theorem dX6_look_113 : decode cX6_look 113 = .ok (.getfield 16, 3) := by decide +kernel
theorem dX6_look_116 : decode cX6_look 116 = .ok (.getfield 110, 3) := by decide +kernel
theorem dX6_look_119 : decode cX6_look 119 = .ok (.getfield 114, 3) := by decide +kernel
theorem dX6_look_122 : decode cX6_look 122 = .ok (.iload_n 1, 1) := by decide +kernel
theorem dX6_look_123 : decode cX6_look 123 = .ok (.iaload, 1) := by decide +kernel
theorem dX6_look_124 : decode cX6_look 124 = .ok (.i2l, 1) := by decide +kernel
theorem dX6_look_125 : decode cX6_look 125 = .ok (.goto 6, 3) := by decide +kernel
theorem dX6_look_128 : decode cX6_look 128 = .ok (.ldc2_w 159, 3) := by decide +kernel
theorem dX6_look_131 : decode cX6_look 131 = .ok (.lreturn, 1) := by decide +kernel
theorem dX6_look_132 : decode cX6_look 132 = .ok (.aload_n 0, 1) := by decide +kernel
theorem dX6_look_133 : decode cX6_look 133 = .ok (.getfield 16, 3) := by decide +kernel
theorem dX6_look_136 : decode cX6_look 136 = .ok (.getfield 56, 3) := by decide +kernel
theorem dX6_look_139 : decode cX6_look 139 = .ok (.iload_n 1, 1) := by decide +kernel
theorem dX6_look_140 : decode cX6_look 140 = .ok (.baload, 1) := by decide +kernel
theorem dX6_look_141 : decode cX6_look 141 = .ok (.ifCond .eq 19, 3) := by decide +kernel
theorem dX6_look_144 : decode cX6_look 144 = .ok (.aload_n 0, 1) := by decide +kernel
theorem dX6_look_145 : decode cX6_look 145 = .ok (.getfield 16, 3) := by decide +kernel
theorem dX6_look_148 : decode cX6_look 148 = .ok (.getfield 121, 3) := by decide +kernel
theorem dX6_look_151 : decode cX6_look 151 = .ok (.getfield 114, 3) := by decide +kernel
theorem dX6_look_154 : decode cX6_look 154 = .ok (.iload_n 1, 1) := by decide +kernel
theorem dX6_look_155 : decode cX6_look 155 = .ok (.iaload, 1) := by decide +kernel
theorem dX6_look_156 : decode cX6_look 156 = .ok (.i2l, 1) := by decide +kernel
theorem dX6_look_157 : decode cX6_look 157 = .ok (.goto 6, 3) := by decide +kernel
theorem dX6_look_160 : decode cX6_look 160 = .ok (.ldc2_w 159, 3) := by decide +kernel
theorem dX6_look_163 : decode cX6_look 163 = .ok (.lreturn, 1) := by decide +kernel
theorem dX6_look_164 : decode cX6_look 164 = .ok (.aload_n 0, 1) := by decide +kernel
theorem dX6_look_165 : decode cX6_look 165 = .ok (.getfield 16, 3) := by decide +kernel
theorem dX6_look_168 : decode cX6_look 168 = .ok (.getfield 208, 3) := by decide +kernel
theorem dX6_look_171 : decode cX6_look 171 = .ok (.iload_n 1, 1) := by decide +kernel
theorem dX6_look_172 : decode cX6_look 172 = .ok (.iaload, 1) := by decide +kernel
theorem dX6_look_173 : decode cX6_look 173 = .ok (.i2l, 1) := by decide +kernel
theorem dX6_look_174 : decode cX6_look 174 = .ok (.lreturn, 1) := by decide +kernel
theorem dX6_look_175 : decode cX6_look 175 = .ok (.aload_n 0, 1) := by decide +kernel
theorem dX6_look_176 : decode cX6_look 176 = .ok (.getfield 9, 3) := by decide +kernel
theorem dX6_look_179 : decode cX6_look 179 = .ok (.iload_n 1, 1) := by decide +kernel
theorem dX6_look_180 : decode cX6_look 180 = .ok (.iaload, 1) := by decide +kernel
theorem dX6_look_181 : decode cX6_look 181 = .ok (.i2l, 1) := by decide +kernel
theorem dX6_look_182 : decode cX6_look 182 = .ok (.lreturn, 1) := by decide +kernel
theorem dX6_look_183 : decode cX6_look 183 = .ok (.aload_n 0, 1) := by decide +kernel
theorem dX6_look_184 : decode cX6_look 184 = .ok (.getfield 30, 3) := by decide +kernel
theorem dX6_look_187 : decode cX6_look 187 = .ok (.iload_n 1, 1) := by decide +kernel
theorem dX6_look_188 : decode cX6_look 188 = .ok (.aload_n 0, 1) := by decide +kernel
theorem dX6_look_189 : decode cX6_look 189 = .ok (.getfield 92, 3) := by decide +kernel
theorem dX6_look_192 : decode cX6_look 192 = .ok (.invokevirtual 211, 3) := by decide +kernel
theorem dX6_look_195 : decode cX6_look 195 = .ok (.lreturn, 1) := by decide +kernel
set_option maxRecDepth 20000 in
theorem ggX6_lot_X6_isWithin : GoodIn wsX6_lot wsX6_isWithin := goodIn_r _ [12] (by decide +kernel) (by decide +kernel)
set_option maxRecDepth 20000 in
theorem gX6_lot_X6_isWithin : GoodIn wsX6_lot (va_wsS RX6 52 yX6_isWithin wsX6_isWithin) := goodIn_app (goodIn_of _ (by decide +kernel)) ggX6_lot_X6_isWithin
theorem dX6_lot_0 : decode cX6_lot 0 = .ok (.iload_n 1, 1) := by decide +kernel
theorem dX6_lot_1 : decode cX6_lot 1 = .ok (.iconst 0, 1) := by decide +kernel
theorem dX6_lot_2 : decode cX6_lot 2 = .ok (.aload_n 0, 1) := by decide +kernel
theorem dX6_lot_3 : decode cX6_lot 3 = .ok (.getfield 23, 3) := by decide +kernel
theorem dX6_lot_6 : decode cX6_lot 6 = .ok (.getfield 213, 3) := by decide +kernel
theorem dX6_lot_9 : decode cX6_lot 9 = .ok (.iconst 1, 1) := by decide +kernel
theorem dX6_lot_10 : decode cX6_lot 10 = .ok (.isub, 1) := by decide +kernel
theorem dX6_lot_11 : decode cX6_lot 11 = .ok (.invokestatic 52, 3) := by decide +kernel
theorem dX6_lot_14 : decode cX6_lot 14 = .ok (.ifCond .eq 12, 3) := by decide +kernel
theorem dX6_lot_17 : decode cX6_lot 17 = .ok (.iload_n 2, 1) := by decide +kernel
theorem dX6_lot_18 : decode cX6_lot 18 = .ok (.iconst 0, 1) := by decide +kernel
theorem dX6_lot_19 : decode cX6_lot 19 = .ok (.iconst 3, 1) := by decide +kernel
theorem dX6_lot_20 : decode cX6_lot 20 = .ok (.invokestatic 52, 3) := by decide +kernel
theorem dX6_lot_23 : decode cX6_lot 23 = .ok (.ifCond .ne 13, 3) := by decide +kernel
theorem dX6_lot_26 : decode cX6_lot 26 = .ok (.new 196, 3) := by decide +kernel
theorem dX6_lot_29 : decode cX6_lot 29 = .ok (.dup, 1) := by decide +kernel
theorem dX6_lot_30 : decode cX6_lot 30 = .ok (.ldc 214, 2) := by decide +kernel
theorem dX6_lot_32 : decode cX6_lot 32 = .ok (.invokespecial 200, 3) := by decide +kernel
theorem dX6_lot_35 : decode cX6_lot 35 = .ok (.athrow, 1) := by decide +kernel
theorem dX6_lot_36 : decode cX6_lot 36 = .ok (.iload_n 2, 1) := by decide +kernel
theorem dX6_lot_37 : decode cX6_lot 37 = .ok (.tableswitch 58 0 2 #[27, 38, 48], 27) := by decide +kernel
theorem dX6_lot_64 : decode cX6_lot 64 = .ok (.aload_n 0, 1) := by decide +kernel
theorem dX6_lot_65 : decode cX6_lot 65 = .ok (.getfield 23, 3) := by decide +kernel
theorem dX6_lot_68 : decode cX6_lot 68 = .ok (.getfield 216, 3) := by decide +kernel
theorem dX6_lot_71 : decode cX6_lot 71 = .ok (.iload_n 1, 1) := by decide +kernel
theorem dX6_lot_72 : decode cX6_lot 72 = .ok (.iaload, 1) := by decide +kernel
theorem dX6_lot_73 : decode cX6_lot 73 = .ok (.i2l, 1) := by decide +kernel
theorem dX6_lot_74 : decode cX6_lot 74 = .ok (.lreturn, 1) := by decide +kernel
theorem dX6_lot_75 : decode cX6_lot 75 = .ok (.aload_n 0, 1) := by decide +kernel
theorem dX6_lot_76 : decode cX6_lot 76 = .ok (.getfield 23, 3) := by decide +kernel
theorem dX6_lot_79 : decode cX6_lot 79 = .ok (.getfield 219, 3) := by decide +kernel
theorem dX6_lot_82 : decode cX6_lot 82 = .ok (.iload_n 1, 1) := by decide +kernel
theorem dX6_lot_83 : decode cX6_lot 83 = .ok (.laload, 1) := by decide +kernel
theorem dX6_lot_84 : decode cX6_lot 84 = .ok (.lreturn, 1) := by decide +kernel
theorem dX6_lot_85 : decode cX6_lot 85 = .ok (.aload_n 0, 1) := by decide +kernel
theorem dX6_lot_86 : decode cX6_lot 86 = .ok (.getfield 23, 3) := by decide +kernel
theorem dX6_lot_89 : decode cX6_lot 89 = .ok (.getfield 222, 3) := by decide +kernel
theorem dX6_lot_92 : decode cX6_lot 92 = .ok (.iload_n 1, 1) := by decide +kernel
theorem dX6_lot_93 : decode cX6_lot 93 = .ok (.laload, 1) := by decide +kernel
theorem dX6_lot_94 : decode cX6_lot 94 = .ok (.lreturn, 1) := by decide +kernel
theorem dX6_lot_95 : decode cX6_lot 95 = .ok (.aload_n 0, 1) := by decide +kernel
theorem dX6_lot_96 : decode cX6_lot 96 = .ok (.getfield 23, 3) := by decide +kernel
theorem dX6_lot_99 : decode cX6_lot 99 = .ok (.getfield 225, 3) := by decide +kernel
theorem dX6_lot_102 : decode cX6_lot 102 = .ok (.iload_n 1, 1) := by decide +kernel
theorem dX6_lot_103 : decode cX6_lot 103 = .ok (.iaload, 1) := by decide +kernel
theorem dX6_lot_104 : decode cX6_lot 104 = .ok (.i2l, 1) := by decide +kernel
theorem dX6_lot_105 : decode cX6_lot 105 = .ok (.lreturn, 1) := by decide +kernel
set_option maxRecDepth 20000 in
theorem ggX6_sum_X2_wholeDebt : GoodIn wsX6_sum wsX2_wholeDebt := goodIn_r _ [11, 12, 13, 25, 26, 27, 28, 29, 30] (by decide +kernel) (by decide +kernel)
set_option maxRecDepth 20000 in
theorem gX6_sum_X2_wholeDebt : GoodIn wsX6_sum (wsV RX6 228 RX2 yX2_wholeDebt wsX2_wholeDebt) := goodIn_app (goodIn_of _ (by decide +kernel)) ggX6_sum_X2_wholeDebt
theorem dX6_sum_0 : decode cX6_sum 0 = .ok (.iload_n 1, 1) := by decide +kernel
theorem dX6_sum_1 : decode cX6_sum 1 = .ok (.tableswitch 63 0 4 #[35, 40, 45, 50, 55], 35) := by decide +kernel
theorem dX6_sum_36 : decode cX6_sum 36 = .ok (.aload_n 0, 1) := by decide +kernel
theorem dX6_sum_37 : decode cX6_sum 37 = .ok (.getfield 99, 3) := by decide +kernel
theorem dX6_sum_40 : decode cX6_sum 40 = .ok (.lreturn, 1) := by decide +kernel
theorem dX6_sum_41 : decode cX6_sum 41 = .ok (.aload_n 0, 1) := by decide +kernel
theorem dX6_sum_42 : decode cX6_sum 42 = .ok (.getfield 103, 3) := by decide +kernel
theorem dX6_sum_45 : decode cX6_sum 45 = .ok (.lreturn, 1) := by decide +kernel
theorem dX6_sum_46 : decode cX6_sum 46 = .ok (.aload_n 0, 1) := by decide +kernel
theorem dX6_sum_47 : decode cX6_sum 47 = .ok (.getfield 165, 3) := by decide +kernel
theorem dX6_sum_50 : decode cX6_sum 50 = .ok (.lreturn, 1) := by decide +kernel
theorem dX6_sum_51 : decode cX6_sum 51 = .ok (.aload_n 0, 1) := by decide +kernel
theorem dX6_sum_52 : decode cX6_sum 52 = .ok (.getfield 168, 3) := by decide +kernel
theorem dX6_sum_55 : decode cX6_sum 55 = .ok (.lreturn, 1) := by decide +kernel
theorem dX6_sum_56 : decode cX6_sum 56 = .ok (.aload_n 0, 1) := by decide +kernel
theorem dX6_sum_57 : decode cX6_sum 57 = .ok (.getfield 23, 3) := by decide +kernel
theorem dX6_sum_60 : decode cX6_sum 60 = .ok (.invokevirtual 228, 3) := by decide +kernel
theorem dX6_sum_63 : decode cX6_sum 63 = .ok (.lreturn, 1) := by decide +kernel
theorem dX6_sum_64 : decode cX6_sum 64 = .ok (.ldc2_w 159, 3) := by decide +kernel
theorem dX6_sum_67 : decode cX6_sum 67 = .ok (.lreturn, 1) := by decide +kernel
set_option maxRecDepth 20000 in
theorem ggX6_quotient_X6_isWithin : GoodIn wsX6_quotient wsX6_isWithin := goodIn_r _ [9] (by decide +kernel) (by decide +kernel)
set_option maxRecDepth 20000 in
theorem gX6_quotient_X6_isWithin : GoodIn wsX6_quotient (va_wsS RX6 52 yX6_isWithin wsX6_isWithin) := goodIn_app (goodIn_of _ (by decide +kernel)) ggX6_quotient_X6_isWithin
theorem dX6_quotient_0 : decode cX6_quotient 0 = .ok (.iload_n 1, 1) := by decide +kernel
theorem dX6_quotient_1 : decode cX6_quotient 1 = .ok (.iconst 0, 1) := by decide +kernel
theorem dX6_quotient_2 : decode cX6_quotient 2 = .ok (.ldc 232, 2) := by decide +kernel
theorem dX6_quotient_4 : decode cX6_quotient 4 = .ok (.invokestatic 52, 3) := by decide +kernel
theorem dX6_quotient_7 : decode cX6_quotient 7 = .ok (.ifCond .eq 13, 3) := by decide +kernel
theorem dX6_quotient_10 : decode cX6_quotient 10 = .ok (.iload_n 2, 1) := by decide +kernel
theorem dX6_quotient_11 : decode cX6_quotient 11 = .ok (.iconst 0, 1) := by decide +kernel
theorem dX6_quotient_12 : decode cX6_quotient 12 = .ok (.ldc 232, 2) := by decide +kernel
theorem dX6_quotient_14 : decode cX6_quotient 14 = .ok (.invokestatic 52, 3) := by decide +kernel
theorem dX6_quotient_17 : decode cX6_quotient 17 = .ok (.ifCond .ne 13, 3) := by decide +kernel
theorem dX6_quotient_20 : decode cX6_quotient 20 = .ok (.new 76, 3) := by decide +kernel
theorem dX6_quotient_23 : decode cX6_quotient 23 = .ok (.dup, 1) := by decide +kernel
theorem dX6_quotient_24 : decode cX6_quotient 24 = .ok (.ldc 233, 2) := by decide +kernel
theorem dX6_quotient_26 : decode cX6_quotient 26 = .ok (.invokespecial 80, 3) := by decide +kernel
theorem dX6_quotient_29 : decode cX6_quotient 29 = .ok (.athrow, 1) := by decide +kernel
theorem dX6_quotient_30 : decode cX6_quotient 30 = .ok (.iload_n 2, 1) := by decide +kernel
theorem dX6_quotient_31 : decode cX6_quotient 31 = .ok (.ifCond .ne 13, 3) := by decide +kernel
theorem dX6_quotient_34 : decode cX6_quotient 34 = .ok (.new 235, 3) := by decide +kernel
theorem dX6_quotient_37 : decode cX6_quotient 37 = .ok (.dup, 1) := by decide +kernel
theorem dX6_quotient_38 : decode cX6_quotient 38 = .ok (.ldc 237, 2) := by decide +kernel
theorem dX6_quotient_40 : decode cX6_quotient 40 = .ok (.invokespecial 239, 3) := by decide +kernel
theorem dX6_quotient_43 : decode cX6_quotient 43 = .ok (.athrow, 1) := by decide +kernel
theorem dX6_quotient_44 : decode cX6_quotient 44 = .ok (.iload_n 1, 1) := by decide +kernel
theorem dX6_quotient_45 : decode cX6_quotient 45 = .ok (.iload_n 2, 1) := by decide +kernel
theorem dX6_quotient_46 : decode cX6_quotient 46 = .ok (.idiv, 1) := by decide +kernel
theorem dX6_quotient_47 : decode cX6_quotient 47 = .ok (.i2l, 1) := by decide +kernel
theorem dX6_quotient_48 : decode cX6_quotient 48 = .ok (.lreturn, 1) := by decide +kernel
theorem dX6_count_0 : decode cX6_count 0 = .ok (.iload_n 1, 1) := by decide +kernel
theorem dX6_count_1 : decode cX6_count 1 = .ok (.tableswitch 60 0 3 #[31, 39, 47, 55], 31) := by decide +kernel
theorem dX6_count_32 : decode cX6_count 32 = .ok (.aload_n 0, 1) := by decide +kernel
theorem dX6_count_33 : decode cX6_count 33 = .ok (.getfield 23, 3) := by decide +kernel
theorem dX6_count_36 : decode cX6_count 36 = .ok (.getfield 213, 3) := by decide +kernel
theorem dX6_count_39 : decode cX6_count 39 = .ok (.ireturn, 1) := by decide +kernel
theorem dX6_count_40 : decode cX6_count 40 = .ok (.aload_n 0, 1) := by decide +kernel
theorem dX6_count_41 : decode cX6_count 41 = .ok (.getfield 16, 3) := by decide +kernel
theorem dX6_count_44 : decode cX6_count 44 = .ok (.getfield 60, 3) := by decide +kernel
theorem dX6_count_47 : decode cX6_count 47 = .ok (.ireturn, 1) := by decide +kernel
theorem dX6_count_48 : decode cX6_count 48 = .ok (.aload_n 0, 1) := by decide +kernel
theorem dX6_count_49 : decode cX6_count 49 = .ok (.getfield 30, 3) := by decide +kernel
theorem dX6_count_52 : decode cX6_count 52 = .ok (.getfield 177, 3) := by decide +kernel
theorem dX6_count_55 : decode cX6_count 55 = .ok (.ireturn, 1) := by decide +kernel
theorem dX6_count_56 : decode cX6_count 56 = .ok (.aload_n 0, 1) := by decide +kernel
theorem dX6_count_57 : decode cX6_count 57 = .ok (.getfield 92, 3) := by decide +kernel
theorem dX6_count_60 : decode cX6_count 60 = .ok (.ireturn, 1) := by decide +kernel
theorem dX6_count_61 : decode cX6_count 61 = .ok (.iconst (-1), 1) := by decide +kernel
theorem dX6_count_62 : decode cX6_count 62 = .ok (.ireturn, 1) := by decide +kernel
set_option maxRecDepth 20000 in
theorem ggX6_suffices_X3_goodAt : GoodIn wsX6_suffices wsX3_goodAt := goodIn_r _ [9, 10, 11, 12, 8, 13, 50, 51, 52, 53, 54] (by decide +kernel) (by decide +kernel)
set_option maxRecDepth 20000 in
theorem gX6_suffices_X3_goodAt : GoodIn wsX6_suffices (wsV RX6 240 RX3 yX3_goodAt wsX3_goodAt) := goodIn_app (goodIn_of _ (by decide +kernel)) ggX6_suffices_X3_goodAt
set_option maxRecDepth 20000 in
theorem ggX6_suffices_X2_stockOf : GoodIn wsX6_suffices wsX2_stockOf := goodIn_r _ [18, 19, 20, 21, 55, 56, 57, 58, 59, 60] (by decide +kernel) (by decide +kernel)
set_option maxRecDepth 20000 in
theorem gX6_suffices_X2_stockOf : GoodIn wsX6_suffices (wsV RX6 155 RX2 yX2_stockOf wsX2_stockOf) := goodIn_app (goodIn_of _ (by decide +kernel)) ggX6_suffices_X2_stockOf
set_option maxRecDepth 20000 in
theorem ggX6_suffices_X3_roundedUp : GoodIn wsX6_suffices wsX3_roundedUp := goodIn_r _ [25, 26, 27, 11, 12, 8, 13, 28, 29, 30, 31, 32, 33, 50, 51, 52, 53, 54] (by decide +kernel) (by decide +kernel)
set_option maxRecDepth 20000 in
theorem gX6_suffices_X3_roundedUp : GoodIn wsX6_suffices (wsV RX6 244 RX3 yX3_roundedUp wsX3_roundedUp) := goodIn_app (goodIn_of _ (by decide +kernel)) ggX6_suffices_X3_roundedUp
theorem dX6_suffices_0 : decode cX6_suffices 0 = .ok (.aload_n 0, 1) := by decide +kernel
theorem dX6_suffices_1 : decode cX6_suffices 1 = .ok (.getfield 16, 3) := by decide +kernel
theorem dX6_suffices_4 : decode cX6_suffices 4 = .ok (.getfield 110, 3) := by decide +kernel
theorem dX6_suffices_7 : decode cX6_suffices 7 = .ok (.astore_n 3, 1) := by decide +kernel
theorem dX6_suffices_8 : decode cX6_suffices 8 = .ok (.iconst 0, 1) := by decide +kernel
theorem dX6_suffices_9 : decode cX6_suffices 9 = .ok (.istore 4, 2) := by decide +kernel
theorem dX6_suffices_11 : decode cX6_suffices 11 = .ok (.iload 4, 2) := by decide +kernel
theorem dX6_suffices_13 : decode cX6_suffices 13 = .ok (.aload_n 3, 1) := by decide +kernel
theorem dX6_suffices_14 : decode cX6_suffices 14 = .ok (.getfield 114, 3) := by decide +kernel
theorem dX6_suffices_17 : decode cX6_suffices 17 = .ok (.iload_n 1, 1) := by decide +kernel
theorem dX6_suffices_18 : decode cX6_suffices 18 = .ok (.iaload, 1) := by decide +kernel
theorem dX6_suffices_19 : decode cX6_suffices 19 = .ok (.if_icmp .ge 37, 3) := by decide +kernel
theorem dX6_suffices_22 : decode cX6_suffices 22 = .ok (.aload_n 0, 1) := by decide +kernel
theorem dX6_suffices_23 : decode cX6_suffices 23 = .ok (.getfield 23, 3) := by decide +kernel
theorem dX6_suffices_26 : decode cX6_suffices 26 = .ok (.aload_n 3, 1) := by decide +kernel
theorem dX6_suffices_27 : decode cX6_suffices 27 = .ok (.iload_n 1, 1) := by decide +kernel
theorem dX6_suffices_28 : decode cX6_suffices 28 = .ok (.iload 4, 2) := by decide +kernel
theorem dX6_suffices_30 : decode cX6_suffices 30 = .ok (.invokevirtual 240, 3) := by decide +kernel
theorem dX6_suffices_33 : decode cX6_suffices 33 = .ok (.invokevirtual 155, 3) := by decide +kernel
theorem dX6_suffices_36 : decode cX6_suffices 36 = .ok (.aload_n 3, 1) := by decide +kernel
theorem dX6_suffices_37 : decode cX6_suffices 37 = .ok (.iload_n 1, 1) := by decide +kernel
theorem dX6_suffices_38 : decode cX6_suffices 38 = .ok (.iload 4, 2) := by decide +kernel
theorem dX6_suffices_40 : decode cX6_suffices 40 = .ok (.iload_n 2, 1) := by decide +kernel
theorem dX6_suffices_41 : decode cX6_suffices 41 = .ok (.invokevirtual 244, 3) := by decide +kernel
theorem dX6_suffices_44 : decode cX6_suffices 44 = .ok (.lcmp, 1) := by decide +kernel
theorem dX6_suffices_45 : decode cX6_suffices 45 = .ok (.ifCond .ge 5, 3) := by decide +kernel
theorem dX6_suffices_48 : decode cX6_suffices 48 = .ok (.iconst 0, 1) := by decide +kernel
theorem dX6_suffices_49 : decode cX6_suffices 49 = .ok (.ireturn, 1) := by decide +kernel
theorem dX6_suffices_50 : decode cX6_suffices 50 = .ok (.iinc 4 1, 3) := by decide +kernel
theorem dX6_suffices_53 : decode cX6_suffices 53 = .ok (.goto (-42), 3) := by decide +kernel
theorem dX6_suffices_56 : decode cX6_suffices 56 = .ok (.iconst 1, 1) := by decide +kernel
theorem dX6_suffices_57 : decode cX6_suffices 57 = .ok (.ireturn, 1) := by decide +kernel
set_option maxRecDepth 20000 in
theorem ggX6_takeNeeds_X3_goodAt : GoodIn wsX6_takeNeeds wsX3_goodAt := goodIn_r _ [10, 11, 12, 13, 9, 14, 68, 69, 70, 71, 72] (by decide +kernel) (by decide +kernel)
set_option maxRecDepth 20000 in
theorem gX6_takeNeeds_X3_goodAt : GoodIn wsX6_takeNeeds (wsV RX6 240 RX3 yX3_goodAt wsX3_goodAt) := goodIn_app (goodIn_of _ (by decide +kernel)) ggX6_takeNeeds_X3_goodAt
set_option maxRecDepth 20000 in
theorem ggX6_takeNeeds_X3_roundedUp : GoodIn wsX6_takeNeeds wsX3_roundedUp := goodIn_r _ [18, 19, 20, 12, 13, 9, 14, 21, 22, 23, 24, 25, 26, 68, 69, 70, 71, 72] (by decide +kernel) (by decide +kernel)
set_option maxRecDepth 20000 in
theorem gX6_takeNeeds_X3_roundedUp : GoodIn wsX6_takeNeeds (wsV RX6 244 RX3 yX3_roundedUp wsX3_roundedUp) := goodIn_app (goodIn_of _ (by decide +kernel)) ggX6_takeNeeds_X3_roundedUp
set_option maxRecDepth 20000 in
theorem ggX6_takeNeeds_X2_take : GoodIn wsX6_takeNeeds wsX2_take := goodIn_r _ [31, 32, 33, 34, 35, 36, 37, 38, 39, 40, 41, 42, 43, 30, 44, 45, 25, 22, 26, 46, 47, 48, 49, 50, 51, 21, 23, 24, 73, 74, 75, 76, 77, 78] (by decide +kernel) (by decide +kernel)
set_option maxRecDepth 20000 in
theorem gX6_takeNeeds_X2_take : GoodIn wsX6_takeNeeds (wsV RX6 161 RX2 yX2_take wsX2_take) := goodIn_app (goodIn_of _ (by decide +kernel)) ggX6_takeNeeds_X2_take
theorem dX6_takeNeeds_0 : decode cX6_takeNeeds 0 = .ok (.aload_n 0, 1) := by decide +kernel
theorem dX6_takeNeeds_1 : decode cX6_takeNeeds 1 = .ok (.getfield 16, 3) := by decide +kernel
theorem dX6_takeNeeds_4 : decode cX6_takeNeeds 4 = .ok (.getfield 110, 3) := by decide +kernel
theorem dX6_takeNeeds_7 : decode cX6_takeNeeds 7 = .ok (.astore_n 3, 1) := by decide +kernel
theorem dX6_takeNeeds_8 : decode cX6_takeNeeds 8 = .ok (.lconst 0, 1) := by decide +kernel
theorem dX6_takeNeeds_9 : decode cX6_takeNeeds 9 = .ok (.lstore 4, 2) := by decide +kernel
theorem dX6_takeNeeds_11 : decode cX6_takeNeeds 11 = .ok (.iconst 0, 1) := by decide +kernel
theorem dX6_takeNeeds_12 : decode cX6_takeNeeds 12 = .ok (.istore 6, 2) := by decide +kernel
theorem dX6_takeNeeds_14 : decode cX6_takeNeeds 14 = .ok (.iload 6, 2) := by decide +kernel
theorem dX6_takeNeeds_16 : decode cX6_takeNeeds 16 = .ok (.aload_n 3, 1) := by decide +kernel
theorem dX6_takeNeeds_17 : decode cX6_takeNeeds 17 = .ok (.getfield 114, 3) := by decide +kernel
theorem dX6_takeNeeds_20 : decode cX6_takeNeeds 20 = .ok (.iload_n 1, 1) := by decide +kernel
theorem dX6_takeNeeds_21 : decode cX6_takeNeeds 21 = .ok (.iaload, 1) := by decide +kernel
theorem dX6_takeNeeds_22 : decode cX6_takeNeeds 22 = .ok (.if_icmp .ge 40, 3) := by decide +kernel
theorem dX6_takeNeeds_25 : decode cX6_takeNeeds 25 = .ok (.lload 4, 2) := by decide +kernel
theorem dX6_takeNeeds_27 : decode cX6_takeNeeds 27 = .ok (.aload_n 0, 1) := by decide +kernel
theorem dX6_takeNeeds_28 : decode cX6_takeNeeds 28 = .ok (.getfield 23, 3) := by decide +kernel
theorem dX6_takeNeeds_31 : decode cX6_takeNeeds 31 = .ok (.aload_n 3, 1) := by decide +kernel
theorem dX6_takeNeeds_32 : decode cX6_takeNeeds 32 = .ok (.iload_n 1, 1) := by decide +kernel
theorem dX6_takeNeeds_33 : decode cX6_takeNeeds 33 = .ok (.iload 6, 2) := by decide +kernel
theorem dX6_takeNeeds_35 : decode cX6_takeNeeds 35 = .ok (.invokevirtual 240, 3) := by decide +kernel
theorem dX6_takeNeeds_38 : decode cX6_takeNeeds 38 = .ok (.aload_n 3, 1) := by decide +kernel
theorem dX6_takeNeeds_39 : decode cX6_takeNeeds 39 = .ok (.iload_n 1, 1) := by decide +kernel
theorem dX6_takeNeeds_40 : decode cX6_takeNeeds 40 = .ok (.iload 6, 2) := by decide +kernel
theorem dX6_takeNeeds_42 : decode cX6_takeNeeds 42 = .ok (.iload_n 2, 1) := by decide +kernel
theorem dX6_takeNeeds_43 : decode cX6_takeNeeds 43 = .ok (.invokevirtual 244, 3) := by decide +kernel
theorem dX6_takeNeeds_46 : decode cX6_takeNeeds 46 = .ok (.aload_n 0, 1) := by decide +kernel
theorem dX6_takeNeeds_47 : decode cX6_takeNeeds 47 = .ok (.getfield 92, 3) := by decide +kernel
theorem dX6_takeNeeds_50 : decode cX6_takeNeeds 50 = .ok (.invokevirtual 161, 3) := by decide +kernel
theorem dX6_takeNeeds_53 : decode cX6_takeNeeds 53 = .ok (.ladd, 1) := by decide +kernel
theorem dX6_takeNeeds_54 : decode cX6_takeNeeds 54 = .ok (.lstore 4, 2) := by decide +kernel
theorem dX6_takeNeeds_56 : decode cX6_takeNeeds 56 = .ok (.iinc 6 1, 3) := by decide +kernel
theorem dX6_takeNeeds_59 : decode cX6_takeNeeds 59 = .ok (.goto (-45), 3) := by decide +kernel
theorem dX6_takeNeeds_62 : decode cX6_takeNeeds 62 = .ok (.lload 4, 2) := by decide +kernel
theorem dX6_takeNeeds_64 : decode cX6_takeNeeds 64 = .ok (.lreturn, 1) := by decide +kernel
set_option maxRecDepth 20000 in
theorem ggX6_checkPart_X6_isGood : GoodIn wsX6_checkPart wsX6_isGood := goodIn_r _ [6, 7, 8, 5, 9] (by decide +kernel) (by decide +kernel)
set_option maxRecDepth 20000 in
theorem gX6_checkPart_X6_isGood : GoodIn wsX6_checkPart (va_wsS RX6 48 yX6_isGood wsX6_isGood) := goodIn_app (goodIn_of _ (by decide +kernel)) ggX6_checkPart_X6_isGood
set_option maxRecDepth 20000 in
theorem ggX6_checkPart_X6_isWithin : GoodIn wsX6_checkPart wsX6_isWithin := goodIn_r _ [9] (by decide +kernel) (by decide +kernel)
set_option maxRecDepth 20000 in
theorem gX6_checkPart_X6_isWithin : GoodIn wsX6_checkPart (va_wsS RX6 52 yX6_isWithin wsX6_isWithin) := goodIn_app (goodIn_of _ (by decide +kernel)) ggX6_checkPart_X6_isWithin
theorem dX6_checkPart_0 : decode cX6_checkPart 0 = .ok (.iload_n 0, 1) := by decide +kernel
theorem dX6_checkPart_1 : decode cX6_checkPart 1 = .ok (.invokestatic 48, 3) := by decide +kernel
theorem dX6_checkPart_4 : decode cX6_checkPart 4 = .ok (.ifCond .eq 30, 3) := by decide +kernel
theorem dX6_checkPart_7 : decode cX6_checkPart 7 = .ok (.iload_n 1, 1) := by decide +kernel
theorem dX6_checkPart_8 : decode cX6_checkPart 8 = .ok (.invokestatic 48, 3) := by decide +kernel
theorem dX6_checkPart_11 : decode cX6_checkPart 11 = .ok (.ifCond .eq 23, 3) := by decide +kernel
theorem dX6_checkPart_14 : decode cX6_checkPart 14 = .ok (.iload_n 2, 1) := by decide +kernel
theorem dX6_checkPart_15 : decode cX6_checkPart 15 = .ok (.iconst 1, 1) := by decide +kernel
theorem dX6_checkPart_16 : decode cX6_checkPart 16 = .ok (.bipush 12, 2) := by decide +kernel
theorem dX6_checkPart_18 : decode cX6_checkPart 18 = .ok (.invokestatic 52, 3) := by decide +kernel
theorem dX6_checkPart_21 : decode cX6_checkPart 21 = .ok (.ifCond .eq 13, 3) := by decide +kernel
theorem dX6_checkPart_24 : decode cX6_checkPart 24 = .ok (.iload_n 3, 1) := by decide +kernel
theorem dX6_checkPart_25 : decode cX6_checkPart 25 = .ok (.iconst 1, 1) := by decide +kernel
theorem dX6_checkPart_26 : decode cX6_checkPart 26 = .ok (.bipush 12, 2) := by decide +kernel
theorem dX6_checkPart_28 : decode cX6_checkPart 28 = .ok (.invokestatic 52, 3) := by decide +kernel
theorem dX6_checkPart_31 : decode cX6_checkPart 31 = .ok (.ifCond .ne 13, 3) := by decide +kernel
theorem dX6_checkPart_34 : decode cX6_checkPart 34 = .ok (.new 76, 3) := by decide +kernel
theorem dX6_checkPart_37 : decode cX6_checkPart 37 = .ok (.dup, 1) := by decide +kernel
theorem dX6_checkPart_38 : decode cX6_checkPart 38 = .ok (.ldc 248, 2) := by decide +kernel
theorem dX6_checkPart_40 : decode cX6_checkPart 40 = .ok (.invokespecial 80, 3) := by decide +kernel
theorem dX6_checkPart_43 : decode cX6_checkPart 43 = .ok (.athrow, 1) := by decide +kernel
theorem dX6_checkPart_44 : decode cX6_checkPart 44 = .ok (.return_, 1) := by decide +kernel
set_option maxRecDepth 20000 in
theorem ggX6_checkTaking_X6_isGood : GoodIn wsX6_checkTaking wsX6_isGood := goodIn_r _ [6, 7, 8, 5, 9] (by decide +kernel) (by decide +kernel)
set_option maxRecDepth 20000 in
theorem gX6_checkTaking_X6_isGood : GoodIn wsX6_checkTaking (va_wsS RX6 48 yX6_isGood wsX6_isGood) := goodIn_app (goodIn_of _ (by decide +kernel)) ggX6_checkTaking_X6_isGood
theorem dX6_checkTaking_0 : decode cX6_checkTaking 0 = .ok (.iload_n 0, 1) := by decide +kernel
theorem dX6_checkTaking_1 : decode cX6_checkTaking 1 = .ok (.invokestatic 48, 3) := by decide +kernel
theorem dX6_checkTaking_4 : decode cX6_checkTaking 4 = .ok (.ifCond .eq 8, 3) := by decide +kernel
theorem dX6_checkTaking_7 : decode cX6_checkTaking 7 = .ok (.iload_n 1, 1) := by decide +kernel
theorem dX6_checkTaking_8 : decode cX6_checkTaking 8 = .ok (.iconst 1, 1) := by decide +kernel
theorem dX6_checkTaking_9 : decode cX6_checkTaking 9 = .ok (.if_icmp .ge 13, 3) := by decide +kernel
theorem dX6_checkTaking_12 : decode cX6_checkTaking 12 = .ok (.new 76, 3) := by decide +kernel
theorem dX6_checkTaking_15 : decode cX6_checkTaking 15 = .ok (.dup, 1) := by decide +kernel
theorem dX6_checkTaking_16 : decode cX6_checkTaking 16 = .ok (.ldc 250, 2) := by decide +kernel
theorem dX6_checkTaking_18 : decode cX6_checkTaking 18 = .ok (.invokespecial 80, 3) := by decide +kernel
theorem dX6_checkTaking_21 : decode cX6_checkTaking 21 = .ok (.athrow, 1) := by decide +kernel
theorem dX6_checkTaking_22 : decode cX6_checkTaking 22 = .ok (.return_, 1) := by decide +kernel
set_option maxRecDepth 20000 in
theorem ggX6_isGood_X6_isWithin : GoodIn wsX6_isGood wsX6_isWithin := goodIn_r _ [4] (by decide +kernel) (by decide +kernel)
set_option maxRecDepth 20000 in
theorem gX6_isGood_X6_isWithin : GoodIn wsX6_isGood (va_wsS RX6 52 yX6_isWithin wsX6_isWithin) := goodIn_app (goodIn_of _ (by decide +kernel)) ggX6_isGood_X6_isWithin
theorem dX6_isGood_0 : decode cX6_isGood 0 = .ok (.iload_n 0, 1) := by decide +kernel
theorem dX6_isGood_1 : decode cX6_isGood 1 = .ok (.iconst 0, 1) := by decide +kernel
theorem dX6_isGood_2 : decode cX6_isGood 2 = .ok (.bipush 11, 2) := by decide +kernel
theorem dX6_isGood_4 : decode cX6_isGood 4 = .ok (.invokestatic 52, 3) := by decide +kernel
theorem dX6_isGood_7 : decode cX6_isGood 7 = .ok (.ireturn, 1) := by decide +kernel
theorem dX6_isWithin_0 : decode cX6_isWithin 0 = .ok (.iload_n 0, 1) := by decide +kernel
theorem dX6_isWithin_1 : decode cX6_isWithin 1 = .ok (.iload_n 1, 1) := by decide +kernel
theorem dX6_isWithin_2 : decode cX6_isWithin 2 = .ok (.if_icmp .lt 12, 3) := by decide +kernel
theorem dX6_isWithin_5 : decode cX6_isWithin 5 = .ok (.iload_n 0, 1) := by decide +kernel
theorem dX6_isWithin_6 : decode cX6_isWithin 6 = .ok (.iload_n 2, 1) := by decide +kernel
theorem dX6_isWithin_7 : decode cX6_isWithin 7 = .ok (.if_icmp .gt 7, 3) := by decide +kernel
theorem dX6_isWithin_10 : decode cX6_isWithin 10 = .ok (.iconst 1, 1) := by decide +kernel
theorem dX6_isWithin_11 : decode cX6_isWithin 11 = .ok (.goto 4, 3) := by decide +kernel
theorem dX6_isWithin_14 : decode cX6_isWithin 14 = .ok (.iconst 0, 1) := by decide +kernel
theorem dX6_isWithin_15 : decode cX6_isWithin 15 = .ok (.ireturn, 1) := by decide +kernel
theorem dX6_floorOf_0 : decode cX6_floorOf 0 = .ok (.lload_n 2, 1) := by decide +kernel
theorem dX6_floorOf_1 : decode cX6_floorOf 1 = .ok (.lconst 1, 1) := by decide +kernel
theorem dX6_floorOf_2 : decode cX6_floorOf 2 = .ok (.lcmp, 1) := by decide +kernel
theorem dX6_floorOf_3 : decode cX6_floorOf 3 = .ok (.ifCond .ge 7, 3) := by decide +kernel
theorem dX6_floorOf_6 : decode cX6_floorOf 6 = .ok (.lconst 0, 1) := by decide +kernel
theorem dX6_floorOf_7 : decode cX6_floorOf 7 = .ok (.goto 6, 3) := by decide +kernel
theorem dX6_floorOf_10 : decode cX6_floorOf 10 = .ok (.lload_n 0, 1) := by decide +kernel
theorem dX6_floorOf_11 : decode cX6_floorOf 11 = .ok (.lload_n 2, 1) := by decide +kernel
theorem dX6_floorOf_12 : decode cX6_floorOf 12 = .ok (.ldiv, 1) := by decide +kernel
theorem dX6_floorOf_13 : decode cX6_floorOf 13 = .ok (.lreturn, 1) := by decide +kernel
set_option maxRecDepth 20000 in
theorem ggX6_ceilOf_X6_floorOf : GoodIn wsX6_ceilOf wsX6_floorOf := goodIn_r _ [4] (by decide +kernel) (by decide +kernel)
set_option maxRecDepth 20000 in
theorem gX6_ceilOf_X6_floorOf : GoodIn wsX6_ceilOf (va_wsS RX6 252 yX6_floorOf wsX6_floorOf) := goodIn_app (goodIn_of _ (by decide +kernel)) ggX6_ceilOf_X6_floorOf
theorem dX6_ceilOf_0 : decode cX6_ceilOf 0 = .ok (.lload_n 0, 1) := by decide +kernel
theorem dX6_ceilOf_1 : decode cX6_ceilOf 1 = .ok (.lload_n 2, 1) := by decide +kernel
theorem dX6_ceilOf_2 : decode cX6_ceilOf 2 = .ok (.ladd, 1) := by decide +kernel
theorem dX6_ceilOf_3 : decode cX6_ceilOf 3 = .ok (.lconst 1, 1) := by decide +kernel
theorem dX6_ceilOf_4 : decode cX6_ceilOf 4 = .ok (.lsub, 1) := by decide +kernel
theorem dX6_ceilOf_5 : decode cX6_ceilOf 5 = .ok (.lload_n 2, 1) := by decide +kernel
theorem dX6_ceilOf_6 : decode cX6_ceilOf 6 = .ok (.invokestatic 252, 3) := by decide +kernel
theorem dX6_ceilOf_9 : decode cX6_ceilOf 9 = .ok (.lreturn, 1) := by decide +kernel
set_option maxRecDepth 20000 in
theorem ggX6_greatestDivisor_X6_floorOf : GoodIn wsX6_greatestDivisor wsX6_floorOf := goodIn_r _ [4] (by decide +kernel) (by decide +kernel)
set_option maxRecDepth 20000 in
theorem gX6_greatestDivisor_X6_floorOf : GoodIn wsX6_greatestDivisor (va_wsS RX6 252 yX6_floorOf wsX6_floorOf) := goodIn_app (goodIn_of _ (by decide +kernel)) ggX6_greatestDivisor_X6_floorOf
theorem dX6_greatestDivisor_0 : decode cX6_greatestDivisor 0 = .ok (.lload_n 0, 1) := by decide +kernel
theorem dX6_greatestDivisor_1 : decode cX6_greatestDivisor 1 = .ok (.lstore 4, 2) := by decide +kernel
theorem dX6_greatestDivisor_3 : decode cX6_greatestDivisor 3 = .ok (.lload_n 2, 1) := by decide +kernel
theorem dX6_greatestDivisor_4 : decode cX6_greatestDivisor 4 = .ok (.lstore 6, 2) := by decide +kernel
theorem dX6_greatestDivisor_6 : decode cX6_greatestDivisor 6 = .ok (.iconst 0, 1) := by decide +kernel
theorem dX6_greatestDivisor_7 : decode cX6_greatestDivisor 7 = .ok (.istore 8, 2) := by decide +kernel
theorem dX6_greatestDivisor_9 : decode cX6_greatestDivisor 9 = .ok (.iload 8, 2) := by decide +kernel
theorem dX6_greatestDivisor_11 : decode cX6_greatestDivisor 11 = .ok (.sipush 200, 3) := by decide +kernel
theorem dX6_greatestDivisor_14 : decode cX6_greatestDivisor 14 = .ok (.if_icmp .ge 39, 3) := by decide +kernel
theorem dX6_greatestDivisor_17 : decode cX6_greatestDivisor 17 = .ok (.lload 6, 2) := by decide +kernel
theorem dX6_greatestDivisor_19 : decode cX6_greatestDivisor 19 = .ok (.lconst 0, 1) := by decide +kernel
theorem dX6_greatestDivisor_20 : decode cX6_greatestDivisor 20 = .ok (.lcmp, 1) := by decide +kernel
theorem dX6_greatestDivisor_21 : decode cX6_greatestDivisor 21 = .ok (.ifCond .le 32, 3) := by decide +kernel
theorem dX6_greatestDivisor_24 : decode cX6_greatestDivisor 24 = .ok (.lload 4, 2) := by decide +kernel
theorem dX6_greatestDivisor_26 : decode cX6_greatestDivisor 26 = .ok (.lload 4, 2) := by decide +kernel
theorem dX6_greatestDivisor_28 : decode cX6_greatestDivisor 28 = .ok (.lload 6, 2) := by decide +kernel
theorem dX6_greatestDivisor_30 : decode cX6_greatestDivisor 30 = .ok (.invokestatic 252, 3) := by decide +kernel
theorem dX6_greatestDivisor_33 : decode cX6_greatestDivisor 33 = .ok (.lload 6, 2) := by decide +kernel
theorem dX6_greatestDivisor_35 : decode cX6_greatestDivisor 35 = .ok (.lmul, 1) := by decide +kernel
theorem dX6_greatestDivisor_36 : decode cX6_greatestDivisor 36 = .ok (.lsub, 1) := by decide +kernel
theorem dX6_greatestDivisor_37 : decode cX6_greatestDivisor 37 = .ok (.lstore 9, 2) := by decide +kernel
theorem dX6_greatestDivisor_39 : decode cX6_greatestDivisor 39 = .ok (.lload 6, 2) := by decide +kernel
theorem dX6_greatestDivisor_41 : decode cX6_greatestDivisor 41 = .ok (.lstore 4, 2) := by decide +kernel
theorem dX6_greatestDivisor_43 : decode cX6_greatestDivisor 43 = .ok (.lload 9, 2) := by decide +kernel
theorem dX6_greatestDivisor_45 : decode cX6_greatestDivisor 45 = .ok (.lstore 6, 2) := by decide +kernel
theorem dX6_greatestDivisor_47 : decode cX6_greatestDivisor 47 = .ok (.iinc 8 1, 3) := by decide +kernel
theorem dX6_greatestDivisor_50 : decode cX6_greatestDivisor 50 = .ok (.goto (-41), 3) := by decide +kernel
theorem dX6_greatestDivisor_53 : decode cX6_greatestDivisor 53 = .ok (.lload 4, 2) := by decide +kernel
theorem dX6_greatestDivisor_55 : decode cX6_greatestDivisor 55 = .ok (.lconst 1, 1) := by decide +kernel
theorem dX6_greatestDivisor_56 : decode cX6_greatestDivisor 56 = .ok (.lcmp, 1) := by decide +kernel
theorem dX6_greatestDivisor_57 : decode cX6_greatestDivisor 57 = .ok (.ifCond .ge 7, 3) := by decide +kernel
theorem dX6_greatestDivisor_60 : decode cX6_greatestDivisor 60 = .ok (.lconst 1, 1) := by decide +kernel
theorem dX6_greatestDivisor_61 : decode cX6_greatestDivisor 61 = .ok (.goto 5, 3) := by decide +kernel
theorem dX6_greatestDivisor_64 : decode cX6_greatestDivisor 64 = .ok (.lload 4, 2) := by decide +kernel
theorem dX6_greatestDivisor_66 : decode cX6_greatestDivisor 66 = .ok (.lreturn, 1) := by decide +kernel
