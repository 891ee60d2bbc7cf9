theorem dX0_init_0 : decode cX0_init 0 = .ok (.aload_n 0, 1) := by decide +kernel
theorem dX0_init_1 : decode cX0_init 1 = .ok (.invokespecial 3, 3) := by decide +kernel
theorem dX0_init_4 : decode cX0_init 4 = .ok (.aload_n 0, 1) := by decide +kernel
theorem dX0_init_5 : decode cX0_init 5 = .ok (.bipush 10, 2) := by decide +kernel
theorem dX0_init_7 : decode cX0_init 7 = .ok (.newarray .int, 2) := by decide +kernel
theorem dX0_init_9 : decode cX0_init 9 = .ok (.putfield 9, 3) := by decide +kernel
theorem dX0_init_12 : decode cX0_init 12 = .ok (.aload_n 0, 1) := by decide +kernel
theorem dX0_init_13 : decode cX0_init 13 = .ok (.bipush 10, 2) := by decide +kernel
theorem dX0_init_15 : decode cX0_init 15 = .ok (.newarray .int, 2) := by decide +kernel
theorem dX0_init_17 : decode cX0_init 17 = .ok (.putfield 15, 3) := by decide +kernel
theorem dX0_init_20 : decode cX0_init 20 = .ok (.aload_n 0, 1) := by decide +kernel
theorem dX0_init_21 : decode cX0_init 21 = .ok (.bipush 10, 2) := by decide +kernel
theorem dX0_init_23 : decode cX0_init 23 = .ok (.newarray .int, 2) := by decide +kernel
theorem dX0_init_25 : decode cX0_init 25 = .ok (.putfield 18, 3) := by decide +kernel
theorem dX0_init_28 : decode cX0_init 28 = .ok (.return_, 1) := by decide +kernel
theorem dX0_clear_0 : decode cX0_clear 0 = .ok (.aload_n 0, 1) := by decide +kernel
theorem dX0_clear_1 : decode cX0_clear 1 = .ok (.iconst 0, 1) := by decide +kernel
theorem dX0_clear_2 : decode cX0_clear 2 = .ok (.putfield 21, 3) := by decide +kernel
theorem dX0_clear_5 : decode cX0_clear 5 = .ok (.return_, 1) := by decide +kernel
set_option maxRecDepth 20000 in
theorem ggX0_keep_X0_forgetFirst : GoodIn wsX0_keep wsX0_forgetFirst := goodIn_r _ [9, 2, 3, 4, 1, 10, 11, 12, 13] (by decide +kernel) (by decide +kernel)
set_option maxRecDepth 20000 in
theorem gX0_keep_X0_forgetFirst : GoodIn wsX0_keep (wsV RX0 25 RX0 yX0_forgetFirst wsX0_forgetFirst) := goodIn_app (goodIn_of _ (by decide +kernel)) ggX0_keep_X0_forgetFirst
theorem dX0_keep_0 : decode cX0_keep 0 = .ok (.aload_n 0, 1) := by decide +kernel
theorem dX0_keep_1 : decode cX0_keep 1 = .ok (.getfield 21, 3) := by decide +kernel
theorem dX0_keep_4 : decode cX0_keep 4 = .ok (.bipush 10, 2) := by decide +kernel
theorem dX0_keep_6 : decode cX0_keep 6 = .ok (.if_icmp .lt 7, 3) := by decide +kernel
theorem dX0_keep_9 : decode cX0_keep 9 = .ok (.aload_n 0, 1) := by decide +kernel
theorem dX0_keep_10 : decode cX0_keep 10 = .ok (.invokevirtual 25, 3) := by decide +kernel
theorem dX0_keep_13 : decode cX0_keep 13 = .ok (.aload_n 0, 1) := by decide +kernel
theorem dX0_keep_14 : decode cX0_keep 14 = .ok (.getfield 21, 3) := by decide +kernel
theorem dX0_keep_17 : decode cX0_keep 17 = .ok (.ifCond .lt 79, 3) := by decide +kernel
theorem dX0_keep_20 : decode cX0_keep 20 = .ok (.aload_n 0, 1) := by decide +kernel
theorem dX0_keep_21 : decode cX0_keep 21 = .ok (.getfield 21, 3) := by decide +kernel
theorem dX0_keep_24 : decode cX0_keep 24 = .ok (.aload_n 0, 1) := by decide +kernel
theorem dX0_keep_25 : decode cX0_keep 25 = .ok (.getfield 9, 3) := by decide +kernel
theorem dX0_keep_28 : decode cX0_keep 28 = .ok (.arraylength, 1) := by decide +kernel
theorem dX0_keep_29 : decode cX0_keep 29 = .ok (.if_icmp .ge 67, 3) := by decide +kernel
theorem dX0_keep_32 : decode cX0_keep 32 = .ok (.aload_n 0, 1) := by decide +kernel
theorem dX0_keep_33 : decode cX0_keep 33 = .ok (.getfield 21, 3) := by decide +kernel
theorem dX0_keep_36 : decode cX0_keep 36 = .ok (.aload_n 0, 1) := by decide +kernel
theorem dX0_keep_37 : decode cX0_keep 37 = .ok (.getfield 15, 3) := by decide +kernel
theorem dX0_keep_40 : decode cX0_keep 40 = .ok (.arraylength, 1) := by decide +kernel
theorem dX0_keep_41 : decode cX0_keep 41 = .ok (.if_icmp .ge 55, 3) := by decide +kernel
theorem dX0_keep_44 : decode cX0_keep 44 = .ok (.aload_n 0, 1) := by decide +kernel
theorem dX0_keep_45 : decode cX0_keep 45 = .ok (.getfield 21, 3) := by decide +kernel
theorem dX0_keep_48 : decode cX0_keep 48 = .ok (.aload_n 0, 1) := by decide +kernel
theorem dX0_keep_49 : decode cX0_keep 49 = .ok (.getfield 18, 3) := by decide +kernel
theorem dX0_keep_52 : decode cX0_keep 52 = .ok (.arraylength, 1) := by decide +kernel
theorem dX0_keep_53 : decode cX0_keep 53 = .ok (.if_icmp .ge 43, 3) := by decide +kernel
theorem dX0_keep_56 : decode cX0_keep 56 = .ok (.aload_n 0, 1) := by decide +kernel
theorem dX0_keep_57 : decode cX0_keep 57 = .ok (.getfield 9, 3) := by decide +kernel
theorem dX0_keep_60 : decode cX0_keep 60 = .ok (.aload_n 0, 1) := by decide +kernel
theorem dX0_keep_61 : decode cX0_keep 61 = .ok (.getfield 21, 3) := by decide +kernel
theorem dX0_keep_64 : decode cX0_keep 64 = .ok (.iload_n 1, 1) := by decide +kernel
theorem dX0_keep_65 : decode cX0_keep 65 = .ok (.iastore, 1) := by decide +kernel
theorem dX0_keep_66 : decode cX0_keep 66 = .ok (.aload_n 0, 1) := by decide +kernel
theorem dX0_keep_67 : decode cX0_keep 67 = .ok (.getfield 15, 3) := by decide +kernel
theorem dX0_keep_70 : decode cX0_keep 70 = .ok (.aload_n 0, 1) := by decide +kernel
theorem dX0_keep_71 : decode cX0_keep 71 = .ok (.getfield 21, 3) := by decide +kernel
theorem dX0_keep_74 : decode cX0_keep 74 = .ok (.iload_n 2, 1) := by decide +kernel
theorem dX0_keep_75 : decode cX0_keep 75 = .ok (.iastore, 1) := by decide +kernel
theorem dX0_keep_76 : decode cX0_keep 76 = .ok (.aload_n 0, 1) := by decide +kernel
theorem dX0_keep_77 : decode cX0_keep 77 = .ok (.getfield 18, 3) := by decide +kernel
theorem dX0_keep_80 : decode cX0_keep 80 = .ok (.aload_n 0, 1) := by decide +kernel
theorem dX0_keep_81 : decode cX0_keep 81 = .ok (.getfield 21, 3) := by decide +kernel
theorem dX0_keep_84 : decode cX0_keep 84 = .ok (.iload_n 3, 1) := by decide +kernel
theorem dX0_keep_85 : decode cX0_keep 85 = .ok (.iastore, 1) := by decide +kernel
theorem dX0_keep_86 : decode cX0_keep 86 = .ok (.aload_n 0, 1) := by decide +kernel
theorem dX0_keep_87 : decode cX0_keep 87 = .ok (.dup, 1) := by decide +kernel
theorem dX0_keep_88 : decode cX0_keep 88 = .ok (.getfield 21, 3) := by decide +kernel
theorem dX0_keep_91 : decode cX0_keep 91 = .ok (.iconst 1, 1) := by decide +kernel
theorem dX0_keep_92 : decode cX0_keep 92 = .ok (.iadd, 1) := by decide +kernel
theorem dX0_keep_93 : decode cX0_keep 93 = .ok (.putfield 21, 3) := by decide +kernel
theorem dX0_keep_96 : decode cX0_keep 96 = .ok (.return_, 1) := by decide +kernel
set_option maxRecDepth 20000 in
theorem ggX0_latestKind_X0_latestOf : GoodIn wsX0_latestKind wsX0_latestOf := goodIn_r _ [6, 7, 8, 9, 10, 11] (by decide +kernel) (by decide +kernel)
set_option maxRecDepth 20000 in
theorem gX0_latestKind_X0_latestOf : GoodIn wsX0_latestKind (wsV RX0 28 RX0 yX0_latestOf wsX0_latestOf) := goodIn_app (goodIn_of _ (by decide +kernel)) ggX0_latestKind_X0_latestOf
theorem dX0_latestKind_0 : decode cX0_latestKind 0 = .ok (.aload_n 0, 1) := by decide +kernel
theorem dX0_latestKind_1 : decode cX0_latestKind 1 = .ok (.aload_n 0, 1) := by decide +kernel
theorem dX0_latestKind_2 : decode cX0_latestKind 2 = .ok (.getfield 9, 3) := by decide +kernel
theorem dX0_latestKind_5 : decode cX0_latestKind 5 = .ok (.invokevirtual 28, 3) := by decide +kernel
theorem dX0_latestKind_8 : decode cX0_latestKind 8 = .ok (.ireturn, 1) := by decide +kernel
set_option maxRecDepth 20000 in
theorem ggX0_latestLease_X0_latestOf : GoodIn wsX0_latestLease wsX0_latestOf := goodIn_r _ [6, 7, 8, 9, 10, 11] (by decide +kernel) (by decide +kernel)
set_option maxRecDepth 20000 in
theorem gX0_latestLease_X0_latestOf : GoodIn wsX0_latestLease (wsV RX0 28 RX0 yX0_latestOf wsX0_latestOf) := goodIn_app (goodIn_of _ (by decide +kernel)) ggX0_latestLease_X0_latestOf
theorem dX0_latestLease_0 : decode cX0_latestLease 0 = .ok (.aload_n 0, 1) := by decide +kernel
theorem dX0_latestLease_1 : decode cX0_latestLease 1 = .ok (.aload_n 0, 1) := by decide +kernel
theorem dX0_latestLease_2 : decode cX0_latestLease 2 = .ok (.getfield 15, 3) := by decide +kernel
theorem dX0_latestLease_5 : decode cX0_latestLease 5 = .ok (.invokevirtual 28, 3) := by decide +kernel
theorem dX0_latestLease_8 : decode cX0_latestLease 8 = .ok (.ireturn, 1) := by decide +kernel
set_option maxRecDepth 20000 in
theorem ggX0_latestPlace_X0_latestOf : GoodIn wsX0_latestPlace wsX0_latestOf := goodIn_r _ [6, 7, 8, 9, 10, 11] (by decide +kernel) (by decide +kernel)
set_option maxRecDepth 20000 in
theorem gX0_latestPlace_X0_latestOf : GoodIn wsX0_latestPlace (wsV RX0 28 RX0 yX0_latestOf wsX0_latestOf) := goodIn_app (goodIn_of _ (by decide +kernel)) ggX0_latestPlace_X0_latestOf
theorem dX0_latestPlace_0 : decode cX0_latestPlace 0 = .ok (.aload_n 0, 1) := by decide +kernel
theorem dX0_latestPlace_1 : decode cX0_latestPlace 1 = .ok (.aload_n 0, 1) := by decide +kernel
theorem dX0_latestPlace_2 : decode cX0_latestPlace 2 = .ok (.getfield 18, 3) := by decide +kernel
theorem dX0_latestPlace_5 : decode cX0_latestPlace 5 = .ok (.invokevirtual 28, 3) := by decide +kernel
theorem dX0_latestPlace_8 : decode cX0_latestPlace 8 = .ok (.ireturn, 1) := by decide +kernel
theorem dX0_dropLatest_0 : decode cX0_dropLatest 0 = .ok (.aload_n 0, 1) := by decide +kernel
theorem dX0_dropLatest_1 : decode cX0_dropLatest 1 = .ok (.getfield 21, 3) := by decide +kernel
theorem dX0_dropLatest_4 : decode cX0_dropLatest 4 = .ok (.ifCond .le 13, 3) := by decide +kernel
theorem dX0_dropLatest_7 : decode cX0_dropLatest 7 = .ok (.aload_n 0, 1) := by decide +kernel
theorem dX0_dropLatest_8 : decode cX0_dropLatest 8 = .ok (.dup, 1) := by decide +kernel
theorem dX0_dropLatest_9 : decode cX0_dropLatest 9 = .ok (.getfield 21, 3) := by decide +kernel
theorem dX0_dropLatest_12 : decode cX0_dropLatest 12 = .ok (.iconst 1, 1) := by decide +kernel
theorem dX0_dropLatest_13 : decode cX0_dropLatest 13 = .ok (.isub, 1) := by decide +kernel
theorem dX0_dropLatest_14 : decode cX0_dropLatest 14 = .ok (.putfield 21, 3) := by decide +kernel
theorem dX0_dropLatest_17 : decode cX0_dropLatest 17 = .ok (.return_, 1) := by decide +kernel
theorem dX0_latestOf_0 : decode cX0_latestOf 0 = .ok (.aload_n 0, 1) := by decide +kernel
theorem dX0_latestOf_1 : decode cX0_latestOf 1 = .ok (.getfield 21, 3) := by decide +kernel
theorem dX0_latestOf_4 : decode cX0_latestOf 4 = .ok (.ifCond .le 23, 3) := by decide +kernel
theorem dX0_latestOf_7 : decode cX0_latestOf 7 = .ok (.aload_n 0, 1) := by decide +kernel
theorem dX0_latestOf_8 : decode cX0_latestOf 8 = .ok (.getfield 21, 3) := by decide +kernel
theorem dX0_latestOf_11 : decode cX0_latestOf 11 = .ok (.aload_n 1, 1) := by decide +kernel
theorem dX0_latestOf_12 : decode cX0_latestOf 12 = .ok (.arraylength, 1) := by decide +kernel
theorem dX0_latestOf_13 : decode cX0_latestOf 13 = .ok (.if_icmp .gt 14, 3) := by decide +kernel
theorem dX0_latestOf_16 : decode cX0_latestOf 16 = .ok (.aload_n 1, 1) := by decide +kernel
theorem dX0_latestOf_17 : decode cX0_latestOf 17 = .ok (.aload_n 0, 1) := by decide +kernel
theorem dX0_latestOf_18 : decode cX0_latestOf 18 = .ok (.getfield 21, 3) := by decide +kernel
theorem dX0_latestOf_21 : decode cX0_latestOf 21 = .ok (.iconst 1, 1) := by decide +kernel
theorem dX0_latestOf_22 : decode cX0_latestOf 22 = .ok (.isub, 1) := by decide +kernel
theorem dX0_latestOf_23 : decode cX0_latestOf 23 = .ok (.iaload, 1) := by decide +kernel
theorem dX0_latestOf_24 : decode cX0_latestOf 24 = .ok (.goto 4, 3) := by decide +kernel
theorem dX0_latestOf_27 : decode cX0_latestOf 27 = .ok (.iconst (-1), 1) := by decide +kernel
theorem dX0_latestOf_28 : decode cX0_latestOf 28 = .ok (.ireturn, 1) := by decide +kernel
theorem dX0_forgetFirst_0 : decode cX0_forgetFirst 0 = .ok (.iconst 1, 1) := by decide +kernel
theorem dX0_forgetFirst_1 : decode cX0_forgetFirst 1 = .ok (.istore_n 1, 1) := by decide +kernel
theorem dX0_forgetFirst_2 : decode cX0_forgetFirst 2 = .ok (.iload_n 1, 1) := by decide +kernel
theorem dX0_forgetFirst_3 : decode cX0_forgetFirst 3 = .ok (.bipush 10, 2) := by decide +kernel
theorem dX0_forgetFirst_5 : decode cX0_forgetFirst 5 = .ok (.if_icmp .ge 51, 3) := by decide +kernel
theorem dX0_forgetFirst_8 : decode cX0_forgetFirst 8 = .ok (.aload_n 0, 1) := by decide +kernel
theorem dX0_forgetFirst_9 : decode cX0_forgetFirst 9 = .ok (.getfield 9, 3) := by decide +kernel
theorem dX0_forgetFirst_12 : decode cX0_forgetFirst 12 = .ok (.iload_n 1, 1) := by decide +kernel
theorem dX0_forgetFirst_13 : decode cX0_forgetFirst 13 = .ok (.iconst 1, 1) := by decide +kernel
theorem dX0_forgetFirst_14 : decode cX0_forgetFirst 14 = .ok (.isub, 1) := by decide +kernel
theorem dX0_forgetFirst_15 : decode cX0_forgetFirst 15 = .ok (.aload_n 0, 1) := by decide +kernel
theorem dX0_forgetFirst_16 : decode cX0_forgetFirst 16 = .ok (.getfield 9, 3) := by decide +kernel
theorem dX0_forgetFirst_19 : decode cX0_forgetFirst 19 = .ok (.iload_n 1, 1) := by decide +kernel
theorem dX0_forgetFirst_20 : decode cX0_forgetFirst 20 = .ok (.iaload, 1) := by decide +kernel
theorem dX0_forgetFirst_21 : decode cX0_forgetFirst 21 = .ok (.iastore, 1) := by decide +kernel
theorem dX0_forgetFirst_22 : decode cX0_forgetFirst 22 = .ok (.aload_n 0, 1) := by decide +kernel
theorem dX0_forgetFirst_23 : decode cX0_forgetFirst 23 = .ok (.getfield 15, 3) := by decide +kernel
theorem dX0_forgetFirst_26 : decode cX0_forgetFirst 26 = .ok (.iload_n 1, 1) := by decide +kernel
theorem dX0_forgetFirst_27 : decode cX0_forgetFirst 27 = .ok (.iconst 1, 1) := by decide +kernel
theorem dX0_forgetFirst_28 : decode cX0_forgetFirst 28 = .ok (.isub, 1) := by decide +kernel
theorem dX0_forgetFirst_29 : decode cX0_forgetFirst 29 = .ok (.aload_n 0, 1) := by decide +kernel
theorem dX0_forgetFirst_30 : decode cX0_forgetFirst 30 = .ok (.getfield 15, 3) := by decide +kernel
theorem dX0_forgetFirst_33 : decode cX0_forgetFirst 33 = .ok (.iload_n 1, 1) := by decide +kernel
theorem dX0_forgetFirst_34 : decode cX0_forgetFirst 34 = .ok (.iaload, 1) := by decide +kernel
theorem dX0_forgetFirst_35 : decode cX0_forgetFirst 35 = .ok (.iastore, 1) := by decide +kernel
theorem dX0_forgetFirst_36 : decode cX0_forgetFirst 36 = .ok (.aload_n 0, 1) := by decide +kernel
theorem dX0_forgetFirst_37 : decode cX0_forgetFirst 37 = .ok (.getfield 18, 3) := by decide +kernel
theorem dX0_forgetFirst_40 : decode cX0_forgetFirst 40 = .ok (.iload_n 1, 1) := by decide +kernel
theorem dX0_forgetFirst_41 : decode cX0_forgetFirst 41 = .ok (.iconst 1, 1) := by decide +kernel
theorem dX0_forgetFirst_42 : decode cX0_forgetFirst 42 = .ok (.isub, 1) := by decide +kernel
theorem dX0_forgetFirst_43 : decode cX0_forgetFirst 43 = .ok (.aload_n 0, 1) := by decide +kernel
theorem dX0_forgetFirst_44 : decode cX0_forgetFirst 44 = .ok (.getfield 18, 3) := by decide +kernel
theorem dX0_forgetFirst_47 : decode cX0_forgetFirst 47 = .ok (.iload_n 1, 1) := by decide +kernel
theorem dX0_forgetFirst_48 : decode cX0_forgetFirst 48 = .ok (.iaload, 1) := by decide +kernel
theorem dX0_forgetFirst_49 : decode cX0_forgetFirst 49 = .ok (.iastore, 1) := by decide +kernel
theorem dX0_forgetFirst_50 : decode cX0_forgetFirst 50 = .ok (.iinc 1 1, 3) := by decide +kernel
theorem dX0_forgetFirst_53 : decode cX0_forgetFirst 53 = .ok (.goto (-51), 3) := by decide +kernel
theorem dX0_forgetFirst_56 : decode cX0_forgetFirst 56 = .ok (.aload_n 0, 1) := by decide +kernel
theorem dX0_forgetFirst_57 : decode cX0_forgetFirst 57 = .ok (.bipush 9, 2) := by decide +kernel
theorem dX0_forgetFirst_59 : decode cX0_forgetFirst 59 = .ok (.putfield 21, 3) := by decide +kernel
theorem dX0_forgetFirst_62 : decode cX0_forgetFirst 62 = .ok (.return_, 1) := by decide +kernel
set_option maxRecDepth 20000 in
theorem ggX1_init_X8_init : GoodIn wsX1_init wsX8_init := goodIn_r _ [16, 17, 2, 3, 10, 18, 19, 35, 36, 37] (by decide +kernel) (by decide +kernel)
set_option maxRecDepth 20000 in
theorem gX1_init_X8_init : GoodIn wsX1_init (wsX8_init) := ggX1_init_X8_init
set_option maxRecDepth 20000 in
theorem ggX1_init_X2_init : GoodIn wsX1_init wsX2_init := goodIn_r _ [22, 23, 2, 3, 24, 25, 26, 27, 28, 10, 29, 30, 31, 32, 33, 34, 57, 58, 59, 43, 44, 45, 46, 47, 48, 49, 50, 51, 52, 53, 54, 55, 56] (by decide +kernel) (by decide +kernel)
set_option maxRecDepth 20000 in
theorem gX1_init_X2_init : GoodIn wsX1_init (wsX2_init) := ggX1_init_X2_init
theorem dX1_init_0 : decode cX1_init 0 = .ok (.aload_n 0, 1) := by decide +kernel
theorem dX1_init_1 : decode cX1_init 1 = .ok (.invokespecial 3, 3) := by decide +kernel
theorem dX1_init_4 : decode cX1_init 4 = .ok (.aload_n 0, 1) := by decide +kernel
theorem dX1_init_5 : decode cX1_init 5 = .ok (.new 9, 3) := by decide +kernel
theorem dX1_init_8 : decode cX1_init 8 = .ok (.dup, 1) := by decide +kernel
theorem dX1_init_9 : decode cX1_init 9 = .ok (.invokespecial 11, 3) := by decide +kernel
theorem dX1_init_12 : decode cX1_init 12 = .ok (.putfield 12, 3) := by decide +kernel
theorem dX1_init_15 : decode cX1_init 15 = .ok (.aload_n 0, 1) := by decide +kernel
theorem dX1_init_16 : decode cX1_init 16 = .ok (.bipush 6, 2) := by decide +kernel
theorem dX1_init_18 : decode cX1_init 18 = .ok (.anewarray 18, 3) := by decide +kernel
theorem dX1_init_21 : decode cX1_init 21 = .ok (.putfield 20, 3) := by decide +kernel
theorem dX1_init_24 : decode cX1_init 24 = .ok (.aload_n 0, 1) := by decide +kernel
theorem dX1_init_25 : decode cX1_init 25 = .ok (.sipush 240, 3) := by decide +kernel
theorem dX1_init_28 : decode cX1_init 28 = .ok (.newarray .int, 2) := by decide +kernel
theorem dX1_init_30 : decode cX1_init 30 = .ok (.putfield 24, 3) := by decide +kernel
theorem dX1_init_33 : decode cX1_init 33 = .ok (.iconst 0, 1) := by decide +kernel
theorem dX1_init_34 : decode cX1_init 34 = .ok (.istore_n 1, 1) := by decide +kernel
theorem dX1_init_35 : decode cX1_init 35 = .ok (.iload_n 1, 1) := by decide +kernel
theorem dX1_init_36 : decode cX1_init 36 = .ok (.aload_n 0, 1) := by decide +kernel
theorem dX1_init_37 : decode cX1_init 37 = .ok (.getfield 20, 3) := by decide +kernel
theorem dX1_init_40 : decode cX1_init 40 = .ok (.arraylength, 1) := by decide +kernel
theorem dX1_init_41 : decode cX1_init 41 = .ok (.if_icmp .ge 22, 3) := by decide +kernel
theorem dX1_init_44 : decode cX1_init 44 = .ok (.aload_n 0, 1) := by decide +kernel
theorem dX1_init_45 : decode cX1_init 45 = .ok (.getfield 20, 3) := by decide +kernel
theorem dX1_init_48 : decode cX1_init 48 = .ok (.iload_n 1, 1) := by decide +kernel
theorem dX1_init_49 : decode cX1_init 49 = .ok (.new 18, 3) := by decide +kernel
theorem dX1_init_52 : decode cX1_init 52 = .ok (.dup, 1) := by decide +kernel
theorem dX1_init_53 : decode cX1_init 53 = .ok (.invokespecial 28, 3) := by decide +kernel
theorem dX1_init_56 : decode cX1_init 56 = .ok (.aastore, 1) := by decide +kernel
theorem dX1_init_57 : decode cX1_init 57 = .ok (.iinc 1 1, 3) := by decide +kernel
theorem dX1_init_60 : decode cX1_init 60 = .ok (.goto (-25), 3) := by decide +kernel
theorem dX1_init_63 : decode cX1_init 63 = .ok (.return_, 1) := by decide +kernel
set_option maxRecDepth 20000 in
theorem ggX1_clear_X8_clear : GoodIn wsX1_clear wsX8_clear := goodIn_r _ [9, 10, 11, 12, 13, 14, 15, 16, 23, 24, 25] (by decide +kernel) (by decide +kernel)
set_option maxRecDepth 20000 in
theorem gX1_clear_X8_clear : GoodIn wsX1_clear (wsV RX1 29 RX8 yX8_clear wsX8_clear) := goodIn_app (goodIn_of _ (by decide +kernel)) ggX1_clear_X8_clear
set_option maxRecDepth 20000 in
theorem ggX1_clear_J7_fill_53178 : GoodIn wsX1_clear wsJ7_fill_53178 := goodIn_r _ [16] (by decide +kernel) (by decide +kernel)
set_option maxRecDepth 20000 in
theorem gX1_clear_J7_fill_53178 : GoodIn wsX1_clear (va_wsS RX1 32 yJ7_fill_53178 wsJ7_fill_53178) := goodIn_app (goodIn_of _ (by decide +kernel)) ggX1_clear_J7_fill_53178
theorem dX1_clear_0 : decode cX1_clear 0 = .ok (.aload_n 0, 1) := by decide +kernel
theorem dX1_clear_1 : decode cX1_clear 1 = .ok (.getfield 12, 3) := by decide +kernel
theorem dX1_clear_4 : decode cX1_clear 4 = .ok (.invokevirtual 29, 3) := by decide +kernel
theorem dX1_clear_7 : decode cX1_clear 7 = .ok (.aload_n 0, 1) := by decide +kernel
theorem dX1_clear_8 : decode cX1_clear 8 = .ok (.getfield 24, 3) := by decide +kernel
theorem dX1_clear_11 : decode cX1_clear 11 = .ok (.iconst 0, 1) := by decide +kernel
theorem dX1_clear_12 : decode cX1_clear 12 = .ok (.invokestatic 32, 3) := by decide +kernel
theorem dX1_clear_15 : decode cX1_clear 15 = .ok (.aload_n 0, 1) := by decide +kernel
theorem dX1_clear_16 : decode cX1_clear 16 = .ok (.iconst 0, 1) := by decide +kernel
theorem dX1_clear_17 : decode cX1_clear 17 = .ok (.putfield 38, 3) := by decide +kernel
theorem dX1_clear_20 : decode cX1_clear 20 = .ok (.aload_n 0, 1) := by decide +kernel
theorem dX1_clear_21 : decode cX1_clear 21 = .ok (.iconst 0, 1) := by decide +kernel
theorem dX1_clear_22 : decode cX1_clear 22 = .ok (.putfield 42, 3) := by decide +kernel
theorem dX1_clear_25 : decode cX1_clear 25 = .ok (.return_, 1) := by decide +kernel
set_option maxRecDepth 20000 in
theorem ggX1_addLease_X2_clear : GoodIn wsX1_addLease wsX2_clear := goodIn_r _ [7, 8, 9, 10, 11, 12, 13, 14, 15, 16, 17, 18, 19, 20, 21, 22, 23, 24, 25, 26, 27, 28, 29, 30, 31, 32, 33, 39, 40, 41, 42, 43, 44, 45, 46, 47, 48, 49, 50, 51, 52, 53, 54, 55] (by decide +kernel) (by decide +kernel)
set_option maxRecDepth 20000 in
theorem gX1_addLease_X2_clear : GoodIn wsX1_addLease (wsV RX1 45 RX2 yX2_clear wsX2_clear) := goodIn_app (goodIn_of _ (by decide +kernel)) ggX1_addLease_X2_clear
theorem dX1_addLease_0 : decode cX1_addLease 0 = .ok (.aload_n 0, 1) := by decide +kernel
theorem dX1_addLease_1 : decode cX1_addLease 1 = .ok (.getfield 42, 3) := by decide +kernel
theorem dX1_addLease_4 : decode cX1_addLease 4 = .ok (.ifCond .lt 15, 3) := by decide +kernel
theorem dX1_addLease_7 : decode cX1_addLease 7 = .ok (.aload_n 0, 1) := by decide +kernel
theorem dX1_addLease_8 : decode cX1_addLease 8 = .ok (.getfield 42, 3) := by decide +kernel
theorem dX1_addLease_11 : decode cX1_addLease 11 = .ok (.aload_n 0, 1) := by decide +kernel
theorem dX1_addLease_12 : decode cX1_addLease 12 = .ok (.getfield 20, 3) := by decide +kernel
theorem dX1_addLease_15 : decode cX1_addLease 15 = .ok (.arraylength, 1) := by decide +kernel
theorem dX1_addLease_16 : decode cX1_addLease 16 = .ok (.if_icmp .lt 5, 3) := by decide +kernel
theorem dX1_addLease_19 : decode cX1_addLease 19 = .ok (.aconst_null, 1) := by decide +kernel
theorem dX1_addLease_20 : decode cX1_addLease 20 = .ok (.areturn, 1) := by decide +kernel
theorem dX1_addLease_21 : decode cX1_addLease 21 = .ok (.aload_n 0, 1) := by decide +kernel
theorem dX1_addLease_22 : decode cX1_addLease 22 = .ok (.getfield 20, 3) := by decide +kernel
theorem dX1_addLease_25 : decode cX1_addLease 25 = .ok (.aload_n 0, 1) := by decide +kernel
theorem dX1_addLease_26 : decode cX1_addLease 26 = .ok (.getfield 42, 3) := by decide +kernel
theorem dX1_addLease_29 : decode cX1_addLease 29 = .ok (.aaload, 1) := by decide +kernel
theorem dX1_addLease_30 : decode cX1_addLease 30 = .ok (.astore_n 1, 1) := by decide +kernel
theorem dX1_addLease_31 : decode cX1_addLease 31 = .ok (.aload_n 1, 1) := by decide +kernel
theorem dX1_addLease_32 : decode cX1_addLease 32 = .ok (.ifnull 17, 3) := by decide +kernel
theorem dX1_addLease_35 : decode cX1_addLease 35 = .ok (.aload_n 1, 1) := by decide +kernel
theorem dX1_addLease_36 : decode cX1_addLease 36 = .ok (.invokevirtual 45, 3) := by decide +kernel
theorem dX1_addLease_39 : decode cX1_addLease 39 = .ok (.aload_n 0, 1) := by decide +kernel
theorem dX1_addLease_40 : decode cX1_addLease 40 = .ok (.dup, 1) := by decide +kernel
theorem dX1_addLease_41 : decode cX1_addLease 41 = .ok (.getfield 42, 3) := by decide +kernel
theorem dX1_addLease_44 : decode cX1_addLease 44 = .ok (.iconst 1, 1) := by decide +kernel
theorem dX1_addLease_45 : decode cX1_addLease 45 = .ok (.iadd, 1) := by decide +kernel
theorem dX1_addLease_46 : decode cX1_addLease 46 = .ok (.putfield 42, 3) := by decide +kernel
theorem dX1_addLease_49 : decode cX1_addLease 49 = .ok (.aload_n 1, 1) := by decide +kernel
theorem dX1_addLease_50 : decode cX1_addLease 50 = .ok (.areturn, 1) := by decide +kernel
theorem dX1_leaseAt_0 : decode cX1_leaseAt 0 = .ok (.iload_n 1, 1) := by decide +kernel
theorem dX1_leaseAt_1 : decode cX1_leaseAt 1 = .ok (.ifCond .lt 29, 3) := by decide +kernel
theorem dX1_leaseAt_4 : decode cX1_leaseAt 4 = .ok (.iload_n 1, 1) := by decide +kernel
theorem dX1_leaseAt_5 : decode cX1_leaseAt 5 = .ok (.aload_n 0, 1) := by decide +kernel
theorem dX1_leaseAt_6 : decode cX1_leaseAt 6 = .ok (.getfield 42, 3) := by decide +kernel
theorem dX1_leaseAt_9 : decode cX1_leaseAt 9 = .ok (.if_icmp .ge 21, 3) := by decide +kernel
theorem dX1_leaseAt_12 : decode cX1_leaseAt 12 = .ok (.iload_n 1, 1) := by decide +kernel
theorem dX1_leaseAt_13 : decode cX1_leaseAt 13 = .ok (.aload_n 0, 1) := by decide +kernel
theorem dX1_leaseAt_14 : decode cX1_leaseAt 14 = .ok (.getfield 20, 3) := by decide +kernel
theorem dX1_leaseAt_17 : decode cX1_leaseAt 17 = .ok (.arraylength, 1) := by decide +kernel
theorem dX1_leaseAt_18 : decode cX1_leaseAt 18 = .ok (.if_icmp .ge 12, 3) := by decide +kernel
theorem dX1_leaseAt_21 : decode cX1_leaseAt 21 = .ok (.aload_n 0, 1) := by decide +kernel
theorem dX1_leaseAt_22 : decode cX1_leaseAt 22 = .ok (.getfield 20, 3) := by decide +kernel
theorem dX1_leaseAt_25 : decode cX1_leaseAt 25 = .ok (.iload_n 1, 1) := by decide +kernel
theorem dX1_leaseAt_26 : decode cX1_leaseAt 26 = .ok (.aaload, 1) := by decide +kernel
theorem dX1_leaseAt_27 : decode cX1_leaseAt 27 = .ok (.goto 4, 3) := by decide +kernel
theorem dX1_leaseAt_30 : decode cX1_leaseAt 30 = .ok (.aconst_null, 1) := by decide +kernel
theorem dX1_leaseAt_31 : decode cX1_leaseAt 31 = .ok (.areturn, 1) := by decide +kernel
theorem dX1_addNews_0 : decode cX1_addNews 0 = .ok (.iload_n 1, 1) := by decide +kernel
theorem dX1_addNews_1 : decode cX1_addNews 1 = .ok (.ifCond .lt 22, 3) := by decide +kernel
theorem dX1_addNews_4 : decode cX1_addNews 4 = .ok (.iload_n 1, 1) := by decide +kernel
theorem dX1_addNews_5 : decode cX1_addNews 5 = .ok (.aload_n 0, 1) := by decide +kernel
theorem dX1_addNews_6 : decode cX1_addNews 6 = .ok (.getfield 24, 3) := by decide +kernel
theorem dX1_addNews_9 : decode cX1_addNews 9 = .ok (.arraylength, 1) := by decide +kernel
theorem dX1_addNews_10 : decode cX1_addNews 10 = .ok (.if_icmp .ge 13, 3) := by decide +kernel
theorem dX1_addNews_13 : decode cX1_addNews 13 = .ok (.aload_n 0, 1) := by decide +kernel
theorem dX1_addNews_14 : decode cX1_addNews 14 = .ok (.getfield 24, 3) := by decide +kernel
theorem dX1_addNews_17 : decode cX1_addNews 17 = .ok (.iload_n 1, 1) := by decide +kernel
theorem dX1_addNews_18 : decode cX1_addNews 18 = .ok (.dup2, 1) := by decide +kernel
theorem dX1_addNews_19 : decode cX1_addNews 19 = .ok (.iaload, 1) := by decide +kernel
theorem dX1_addNews_20 : decode cX1_addNews 20 = .ok (.iload_n 2, 1) := by decide +kernel
theorem dX1_addNews_21 : decode cX1_addNews 21 = .ok (.iadd, 1) := by decide +kernel
theorem dX1_addNews_22 : decode cX1_addNews 22 = .ok (.iastore, 1) := by decide +kernel
theorem dX1_addNews_23 : decode cX1_addNews 23 = .ok (.return_, 1) := by decide +kernel
theorem dX1_hasNews_0 : decode cX1_hasNews 0 = .ok (.iload_n 1, 1) := by decide +kernel
theorem dX1_hasNews_1 : decode cX1_hasNews 1 = .ok (.ifCond .lt 25, 3) := by decide +kernel
theorem dX1_hasNews_4 : decode cX1_hasNews 4 = .ok (.iload_n 1, 1) := by decide +kernel
theorem dX1_hasNews_5 : decode cX1_hasNews 5 = .ok (.aload_n 0, 1) := by decide +kernel
theorem dX1_hasNews_6 : decode cX1_hasNews 6 = .ok (.getfield 24, 3) := by decide +kernel
theorem dX1_hasNews_9 : decode cX1_hasNews 9 = .ok (.arraylength, 1) := by decide +kernel
theorem dX1_hasNews_10 : decode cX1_hasNews 10 = .ok (.if_icmp .ge 16, 3) := by decide +kernel
theorem dX1_hasNews_13 : decode cX1_hasNews 13 = .ok (.aload_n 0, 1) := by decide +kernel
theorem dX1_hasNews_14 : decode cX1_hasNews 14 = .ok (.getfield 24, 3) := by decide +kernel
theorem dX1_hasNews_17 : decode cX1_hasNews 17 = .ok (.iload_n 1, 1) := by decide +kernel
theorem dX1_hasNews_18 : decode cX1_hasNews 18 = .ok (.iaload, 1) := by decide +kernel
theorem dX1_hasNews_19 : decode cX1_hasNews 19 = .ok (.ifCond .le 7, 3) := by decide +kernel
theorem dX1_hasNews_22 : decode cX1_hasNews 22 = .ok (.iconst 1, 1) := by decide +kernel
theorem dX1_hasNews_23 : decode cX1_hasNews 23 = .ok (.goto 4, 3) := by decide +kernel
theorem dX1_hasNews_26 : decode cX1_hasNews 26 = .ok (.iconst 0, 1) := by decide +kernel
theorem dX1_hasNews_27 : decode cX1_hasNews 27 = .ok (.ireturn, 1) := by decide +kernel
set_option maxRecDepth 20000 in
theorem ggX2_init_X3_init : GoodIn wsX2_init wsX3_init := goodIn_r _ [14, 15, 2, 3] (by decide +kernel) (by decide +kernel)
set_option maxRecDepth 20000 in
theorem gX2_init_X3_init : GoodIn wsX2_init (wsX3_init) := ggX2_init_X3_init
theorem dX2_init_0 : decode cX2_init 0 = .ok (.aload_n 0, 1) := by decide +kernel
theorem dX2_init_1 : decode cX2_init 1 = .ok (.invokespecial 3, 3) := by decide +kernel
theorem dX2_init_4 : decode cX2_init 4 = .ok (.aload_n 0, 1) := by decide +kernel
theorem dX2_init_5 : decode cX2_init 5 = .ok (.new 9, 3) := by decide +kernel
theorem dX2_init_8 : decode cX2_init 8 = .ok (.dup, 1) := by decide +kernel
theorem dX2_init_9 : decode cX2_init 9 = .ok (.invokespecial 11, 3) := by decide +kernel
theorem dX2_init_12 : decode cX2_init 12 = .ok (.putfield 12, 3) := by decide +kernel
theorem dX2_init_15 : decode cX2_init 15 = .ok (.aload_n 0, 1) := by decide +kernel
theorem dX2_init_16 : decode cX2_init 16 = .ok (.new 9, 3) := by decide +kernel
theorem dX2_init_19 : decode cX2_init 19 = .ok (.dup, 1) := by decide +kernel
theorem dX2_init_20 : decode cX2_init 20 = .ok (.invokespecial 11, 3) := by decide +kernel
theorem dX2_init_23 : decode cX2_init 23 = .ok (.putfield 18, 3) := by decide +kernel
theorem dX2_init_26 : decode cX2_init 26 = .ok (.aload_n 0, 1) := by decide +kernel
theorem dX2_init_27 : decode cX2_init 27 = .ok (.bipush 120, 2) := by decide +kernel
theorem dX2_init_29 : decode cX2_init 29 = .ok (.newarray .int, 2) := by decide +kernel
theorem dX2_init_31 : decode cX2_init 31 = .ok (.putfield 21, 3) := by decide +kernel
theorem dX2_init_34 : decode cX2_init 34 = .ok (.aload_n 0, 1) := by decide +kernel
theorem dX2_init_35 : decode cX2_init 35 = .ok (.bipush 120, 2) := by decide +kernel
theorem dX2_init_37 : decode cX2_init 37 = .ok (.newarray .int, 2) := by decide +kernel
theorem dX2_init_39 : decode cX2_init 39 = .ok (.putfield 25, 3) := by decide +kernel
theorem dX2_init_42 : decode cX2_init 42 = .ok (.return_, 1) := by decide +kernel
set_option maxRecDepth 20000 in
theorem ggX2_clear_X3_clear : GoodIn wsX2_clear wsX3_clear := goodIn_r _ [19, 20, 21, 22, 41, 42, 43] (by decide +kernel) (by decide +kernel)
set_option maxRecDepth 20000 in
theorem gX2_clear_X3_clear : GoodIn wsX2_clear (wsV RX2 28 RX3 yX3_clear wsX3_clear) := goodIn_app (goodIn_of _ (by decide +kernel)) ggX2_clear_X3_clear
set_option maxRecDepth 20000 in
theorem ggX2_clear_J7_fill_53178 : GoodIn wsX2_clear wsJ7_fill_53178 := goodIn_r _ [26] (by decide +kernel) (by decide +kernel)
set_option maxRecDepth 20000 in
theorem gX2_clear_J7_fill_53178 : GoodIn wsX2_clear (va_wsS RX2 31 yJ7_fill_53178 wsJ7_fill_53178) := goodIn_app (goodIn_of _ (by decide +kernel)) ggX2_clear_J7_fill_53178
theorem dX2_clear_0 : decode cX2_clear 0 = .ok (.aload_n 0, 1) := by decide +kernel
theorem dX2_clear_1 : decode cX2_clear 1 = .ok (.getfield 12, 3) := by decide +kernel
theorem dX2_clear_4 : decode cX2_clear 4 = .ok (.invokevirtual 28, 3) := by decide +kernel
theorem dX2_clear_7 : decode cX2_clear 7 = .ok (.aload_n 0, 1) := by decide +kernel
theorem dX2_clear_8 : decode cX2_clear 8 = .ok (.getfield 18, 3) := by decide +kernel
theorem dX2_clear_11 : decode cX2_clear 11 = .ok (.invokevirtual 28, 3) := by decide +kernel
theorem dX2_clear_14 : decode cX2_clear 14 = .ok (.aload_n 0, 1) := by decide +kernel
theorem dX2_clear_15 : decode cX2_clear 15 = .ok (.getfield 21, 3) := by decide +kernel
theorem dX2_clear_18 : decode cX2_clear 18 = .ok (.iconst 0, 1) := by decide +kernel
theorem dX2_clear_19 : decode cX2_clear 19 = .ok (.invokestatic 31, 3) := by decide +kernel
theorem dX2_clear_22 : decode cX2_clear 22 = .ok (.aload_n 0, 1) := by decide +kernel
theorem dX2_clear_23 : decode cX2_clear 23 = .ok (.getfield 25, 3) := by decide +kernel
theorem dX2_clear_26 : decode cX2_clear 26 = .ok (.sipush 240, 3) := by decide +kernel
theorem dX2_clear_29 : decode cX2_clear 29 = .ok (.invokestatic 31, 3) := by decide +kernel
theorem dX2_clear_32 : decode cX2_clear 32 = .ok (.aload_n 0, 1) := by decide +kernel
theorem dX2_clear_33 : decode cX2_clear 33 = .ok (.iconst 0, 1) := by decide +kernel
theorem dX2_clear_34 : decode cX2_clear 34 = .ok (.putfield 37, 3) := by decide +kernel
theorem dX2_clear_37 : decode cX2_clear 37 = .ok (.aload_n 0, 1) := by decide +kernel
theorem dX2_clear_38 : decode cX2_clear 38 = .ok (.iconst 0, 1) := by decide +kernel
theorem dX2_clear_39 : decode cX2_clear 39 = .ok (.putfield 41, 3) := by decide +kernel
theorem dX2_clear_42 : decode cX2_clear 42 = .ok (.aload_n 0, 1) := by decide +kernel
theorem dX2_clear_43 : decode cX2_clear 43 = .ok (.iconst 0, 1) := by decide +kernel
theorem dX2_clear_44 : decode cX2_clear 44 = .ok (.putfield 44, 3) := by decide +kernel
theorem dX2_clear_47 : decode cX2_clear 47 = .ok (.aload_n 0, 1) := by decide +kernel
theorem dX2_clear_48 : decode cX2_clear 48 = .ok (.iconst 0, 1) := by decide +kernel
theorem dX2_clear_49 : decode cX2_clear 49 = .ok (.putfield 47, 3) := by decide +kernel
theorem dX2_clear_52 : decode cX2_clear 52 = .ok (.aload_n 0, 1) := by decide +kernel
theorem dX2_clear_53 : decode cX2_clear 53 = .ok (.iconst 0, 1) := by decide +kernel
theorem dX2_clear_54 : decode cX2_clear 54 = .ok (.putfield 50, 3) := by decide +kernel
theorem dX2_clear_57 : decode cX2_clear 57 = .ok (.aload_n 0, 1) := by decide +kernel
theorem dX2_clear_58 : decode cX2_clear 58 = .ok (.iconst 0, 1) := by decide +kernel
theorem dX2_clear_59 : decode cX2_clear 59 = .ok (.putfield 53, 3) := by decide +kernel
theorem dX2_clear_62 : decode cX2_clear 62 = .ok (.aload_n 0, 1) := by decide +kernel
theorem dX2_clear_63 : decode cX2_clear 63 = .ok (.iconst 0, 1) := by decide +kernel
theorem dX2_clear_64 : decode cX2_clear 64 = .ok (.putfield 56, 3) := by decide +kernel
theorem dX2_clear_67 : decode cX2_clear 67 = .ok (.aload_n 0, 1) := by decide +kernel
theorem dX2_clear_68 : decode cX2_clear 68 = .ok (.iconst 0, 1) := by decide +kernel
theorem dX2_clear_69 : decode cX2_clear 69 = .ok (.putfield 59, 3) := by decide +kernel
theorem dX2_clear_72 : decode cX2_clear 72 = .ok (.aload_n 0, 1) := by decide +kernel
theorem dX2_clear_73 : decode cX2_clear 73 = .ok (.iconst (-1), 1) := by decide +kernel
theorem dX2_clear_74 : decode cX2_clear 74 = .ok (.putfield 63, 3) := by decide +kernel
theorem dX2_clear_77 : decode cX2_clear 77 = .ok (.aload_n 0, 1) := by decide +kernel
theorem dX2_clear_78 : decode cX2_clear 78 = .ok (.sipush 240, 3) := by decide +kernel
theorem dX2_clear_81 : decode cX2_clear 81 = .ok (.putfield 66, 3) := by decide +kernel
theorem dX2_clear_84 : decode cX2_clear 84 = .ok (.return_, 1) := by decide +kernel
theorem dX2_hasMonth_0 : decode cX2_hasMonth 0 = .ok (.iload_n 1, 1) := by decide +kernel
theorem dX2_hasMonth_1 : decode cX2_hasMonth 1 = .ok (.aload_n 0, 1) := by decide +kernel
theorem dX2_hasMonth_2 : decode cX2_hasMonth 2 = .ok (.getfield 37, 3) := by decide +kernel
theorem dX2_hasMonth_5 : decode cX2_hasMonth 5 = .ok (.if_icmp .lt 20, 3) := by decide +kernel
theorem dX2_hasMonth_8 : decode cX2_hasMonth 8 = .ok (.iload_n 1, 1) := by decide +kernel
theorem dX2_hasMonth_9 : decode cX2_hasMonth 9 = .ok (.aload_n 0, 1) := by decide +kernel
theorem dX2_hasMonth_10 : decode cX2_hasMonth 10 = .ok (.getfield 37, 3) := by decide +kernel
theorem dX2_hasMonth_13 : decode cX2_hasMonth 13 = .ok (.aload_n 0, 1) := by decide +kernel
theorem dX2_hasMonth_14 : decode cX2_hasMonth 14 = .ok (.getfield 41, 3) := by decide +kernel
theorem dX2_hasMonth_17 : decode cX2_hasMonth 17 = .ok (.iadd, 1) := by decide +kernel
theorem dX2_hasMonth_18 : decode cX2_hasMonth 18 = .ok (.if_icmp .ge 7, 3) := by decide +kernel
theorem dX2_hasMonth_21 : decode cX2_hasMonth 21 = .ok (.iconst 1, 1) := by decide +kernel
theorem dX2_hasMonth_22 : decode cX2_hasMonth 22 = .ok (.goto 4, 3) := by decide +kernel
theorem dX2_hasMonth_25 : decode cX2_hasMonth 25 = .ok (.iconst 0, 1) := by decide +kernel
theorem dX2_hasMonth_26 : decode cX2_hasMonth 26 = .ok (.ireturn, 1) := by decide +kernel
theorem dX2_isFree_0 : decode cX2_isFree 0 = .ok (.iload_n 1, 1) := by decide +kernel
theorem dX2_isFree_1 : decode cX2_isFree 1 = .ok (.aload_n 0, 1) := by decide +kernel
theorem dX2_isFree_2 : decode cX2_isFree 2 = .ok (.getfield 37, 3) := by decide +kernel
theorem dX2_isFree_5 : decode cX2_isFree 5 = .ok (.aload_n 0, 1) := by decide +kernel
theorem dX2_isFree_6 : decode cX2_isFree 6 = .ok (.getfield 50, 3) := by decide +kernel
theorem dX2_isFree_9 : decode cX2_isFree 9 = .ok (.iadd, 1) := by decide +kernel
theorem dX2_isFree_10 : decode cX2_isFree 10 = .ok (.if_icmp .ge 7, 3) := by decide +kernel
theorem dX2_isFree_13 : decode cX2_isFree 13 = .ok (.iconst 1, 1) := by decide +kernel
theorem dX2_isFree_14 : decode cX2_isFree 14 = .ok (.goto 4, 3) := by decide +kernel
theorem dX2_isFree_17 : decode cX2_isFree 17 = .ok (.iconst 0, 1) := by decide +kernel
theorem dX2_isFree_18 : decode cX2_isFree 18 = .ok (.ireturn, 1) := by decide +kernel
theorem dX2_endKnownIn_0 : decode cX2_endKnownIn 0 = .ok (.aload_n 0, 1) := by decide +kernel
theorem dX2_endKnownIn_1 : decode cX2_endKnownIn 1 = .ok (.getfield 66, 3) := by decide +kernel
theorem dX2_endKnownIn_4 : decode cX2_endKnownIn 4 = .ok (.iload_n 1, 1) := by decide +kernel
theorem dX2_endKnownIn_5 : decode cX2_endKnownIn 5 = .ok (.if_icmp .gt 10, 3) := by decide +kernel
theorem dX2_endKnownIn_8 : decode cX2_endKnownIn 8 = .ok (.aload_n 0, 1) := by decide +kernel
theorem dX2_endKnownIn_9 : decode cX2_endKnownIn 9 = .ok (.getfield 63, 3) := by decide +kernel
theorem dX2_endKnownIn_12 : decode cX2_endKnownIn 12 = .ok (.goto 12, 3) := by decide +kernel
theorem dX2_endKnownIn_15 : decode cX2_endKnownIn 15 = .ok (.aload_n 0, 1) := by decide +kernel
theorem dX2_endKnownIn_16 : decode cX2_endKnownIn 16 = .ok (.getfield 37, 3) := by decide +kernel
theorem dX2_endKnownIn_19 : decode cX2_endKnownIn 19 = .ok (.aload_n 0, 1) := by decide +kernel
theorem dX2_endKnownIn_20 : decode cX2_endKnownIn 20 = .ok (.getfield 41, 3) := by decide +kernel
theorem dX2_endKnownIn_23 : decode cX2_endKnownIn 23 = .ok (.iadd, 1) := by decide +kernel
theorem dX2_endKnownIn_24 : decode cX2_endKnownIn 24 = .ok (.ireturn, 1) := by decide +kernel
theorem dX2_reviews_0 : decode cX2_reviews 0 = .ok (.aload_n 0, 1) := by decide +kernel
theorem dX2_reviews_1 : decode cX2_reviews 1 = .ok (.getfield 53, 3) := by decide +kernel
theorem dX2_reviews_4 : decode cX2_reviews 4 = .ok (.ifCond .eq 11, 3) := by decide +kernel
theorem dX2_reviews_7 : decode cX2_reviews 7 = .ok (.aload_n 0, 1) := by decide +kernel
theorem dX2_reviews_8 : decode cX2_reviews 8 = .ok (.getfield 47, 3) := by decide +kernel
theorem dX2_reviews_11 : decode cX2_reviews 11 = .ok (.iconst 1, 1) := by decide +kernel
theorem dX2_reviews_12 : decode cX2_reviews 12 = .ok (.if_icmp .ge 7, 3) := by decide +kernel
theorem dX2_reviews_15 : decode cX2_reviews 15 = .ok (.iconst 0, 1) := by decide +kernel
theorem dX2_reviews_16 : decode cX2_reviews 16 = .ok (.goto 14, 3) := by decide +kernel
theorem dX2_reviews_19 : decode cX2_reviews 19 = .ok (.aload_n 0, 1) := by decide +kernel
theorem dX2_reviews_20 : decode cX2_reviews 20 = .ok (.getfield 41, 3) := by decide +kernel
theorem dX2_reviews_23 : decode cX2_reviews 23 = .ok (.iconst 1, 1) := by decide +kernel
theorem dX2_reviews_24 : decode cX2_reviews 24 = .ok (.isub, 1) := by decide +kernel
theorem dX2_reviews_25 : decode cX2_reviews 25 = .ok (.aload_n 0, 1) := by decide +kernel
theorem dX2_reviews_26 : decode cX2_reviews 26 = .ok (.getfield 47, 3) := by decide +kernel
theorem dX2_reviews_29 : decode cX2_reviews 29 = .ok (.idiv, 1) := by decide +kernel
theorem dX2_reviews_30 : decode cX2_reviews 30 = .ok (.ireturn, 1) := by decide +kernel
set_option maxRecDepth 20000 in
theorem ggX2_hasReview_X2_reviews : GoodIn wsX2_hasReview wsX2_reviews := goodIn_r _ [5, 6, 7, 8, 9, 10, 11, 12, 13, 14, 15, 16, 17, 18, 19, 20, 21, 22] (by decide +kernel) (by decide +kernel)
set_option maxRecDepth 20000 in
theorem gX2_hasReview_X2_reviews : GoodIn wsX2_hasReview (wsV RX2 69 RX2 yX2_reviews wsX2_reviews) := goodIn_app (goodIn_of _ (by decide +kernel)) ggX2_hasReview_X2_reviews
theorem dX2_hasReview_0 : decode cX2_hasReview 0 = .ok (.iload_n 1, 1) := by decide +kernel
theorem dX2_hasReview_1 : decode cX2_hasReview 1 = .ok (.iconst 1, 1) := by decide +kernel
theorem dX2_hasReview_2 : decode cX2_hasReview 2 = .ok (.if_icmp .lt 15, 3) := by decide +kernel
theorem dX2_hasReview_5 : decode cX2_hasReview 5 = .ok (.iload_n 1, 1) := by decide +kernel
theorem dX2_hasReview_6 : decode cX2_hasReview 6 = .ok (.aload_n 0, 1) := by decide +kernel
theorem dX2_hasReview_7 : decode cX2_hasReview 7 = .ok (.invokevirtual 69, 3) := by decide +kernel
theorem dX2_hasReview_10 : decode cX2_hasReview 10 = .ok (.if_icmp .gt 7, 3) := by decide +kernel
theorem dX2_hasReview_13 : decode cX2_hasReview 13 = .ok (.iconst 1, 1) := by decide +kernel
theorem dX2_hasReview_14 : decode cX2_hasReview 14 = .ok (.goto 4, 3) := by decide +kernel
theorem dX2_hasReview_17 : decode cX2_hasReview 17 = .ok (.iconst 0, 1) := by decide +kernel
theorem dX2_hasReview_18 : decode cX2_hasReview 18 = .ok (.ireturn, 1) := by decide +kernel
theorem dX2_reviewMonth_0 : decode cX2_reviewMonth 0 = .ok (.aload_n 0, 1) := by decide +kernel
theorem dX2_reviewMonth_1 : decode cX2_reviewMonth 1 = .ok (.getfield 37, 3) := by decide +kernel
theorem dX2_reviewMonth_4 : decode cX2_reviewMonth 4 = .ok (.iload_n 1, 1) := by decide +kernel
theorem dX2_reviewMonth_5 : decode cX2_reviewMonth 5 = .ok (.aload_n 0, 1) := by decide +kernel
theorem dX2_reviewMonth_6 : decode cX2_reviewMonth 6 = .ok (.getfield 47, 3) := by decide +kernel
theorem dX2_reviewMonth_9 : decode cX2_reviewMonth 9 = .ok (.imul, 1) := by decide +kernel
theorem dX2_reviewMonth_10 : decode cX2_reviewMonth 10 = .ok (.iadd, 1) := by decide +kernel
theorem dX2_reviewMonth_11 : decode cX2_reviewMonth 11 = .ok (.ireturn, 1) := by decide +kernel
set_option maxRecDepth 20000 in
theorem ggX2_wasTold_X2_isToldIn : GoodIn wsX2_wasTold wsX2_isToldIn := goodIn_r _ [5, 6, 7, 8, 9, 10, 11, 12, 13, 14, 15, 16, 17, 18, 19, 20] (by decide +kernel) (by decide +kernel)
set_option maxRecDepth 20000 in
theorem gX2_wasTold_X2_isToldIn : GoodIn wsX2_wasTold (wsV RX2 73 RX2 yX2_isToldIn wsX2_isToldIn) := goodIn_app (goodIn_of _ (by decide +kernel)) ggX2_wasTold_X2_isToldIn
theorem dX2_wasTold_0 : decode cX2_wasTold 0 = .ok (.aload_n 0, 1) := by decide +kernel
theorem dX2_wasTold_1 : decode cX2_wasTold 1 = .ok (.iload_n 1, 1) := by decide +kernel
theorem dX2_wasTold_2 : decode cX2_wasTold 2 = .ok (.sipush 239, 3) := by decide +kernel
theorem dX2_wasTold_5 : decode cX2_wasTold 5 = .ok (.invokevirtual 73, 3) := by decide +kernel
theorem dX2_wasTold_8 : decode cX2_wasTold 8 = .ok (.ireturn, 1) := by decide +kernel
theorem dX2_isToldIn_0 : decode cX2_isToldIn 0 = .ok (.iload_n 1, 1) := by decide +kernel
theorem dX2_isToldIn_1 : decode cX2_isToldIn 1 = .ok (.ifCond .lt 26, 3) := by decide +kernel
theorem dX2_isToldIn_4 : decode cX2_isToldIn 4 = .ok (.iload_n 1, 1) := by decide +kernel
theorem dX2_isToldIn_5 : decode cX2_isToldIn 5 = .ok (.aload_n 0, 1) := by decide +kernel
theorem dX2_isToldIn_6 : decode cX2_isToldIn 6 = .ok (.getfield 25, 3) := by decide +kernel
theorem dX2_isToldIn_9 : decode cX2_isToldIn 9 = .ok (.arraylength, 1) := by decide +kernel
theorem dX2_isToldIn_10 : decode cX2_isToldIn 10 = .ok (.if_icmp .ge 17, 3) := by decide +kernel
theorem dX2_isToldIn_13 : decode cX2_isToldIn 13 = .ok (.aload_n 0, 1) := by decide +kernel
theorem dX2_isToldIn_14 : decode cX2_isToldIn 14 = .ok (.getfield 25, 3) := by decide +kernel
theorem dX2_isToldIn_17 : decode cX2_isToldIn 17 = .ok (.iload_n 1, 1) := by decide +kernel
theorem dX2_isToldIn_18 : decode cX2_isToldIn 18 = .ok (.iaload, 1) := by decide +kernel
theorem dX2_isToldIn_19 : decode cX2_isToldIn 19 = .ok (.iload_n 2, 1) := by decide +kernel
theorem dX2_isToldIn_20 : decode cX2_isToldIn 20 = .ok (.if_icmp .gt 7, 3) := by decide +kernel
theorem dX2_isToldIn_23 : decode cX2_isToldIn 23 = .ok (.iconst 1, 1) := by decide +kernel
theorem dX2_isToldIn_24 : decode cX2_isToldIn 24 = .ok (.goto 4, 3) := by decide +kernel
theorem dX2_isToldIn_27 : decode cX2_isToldIn 27 = .ok (.iconst 0, 1) := by decide +kernel
theorem dX2_isToldIn_28 : decode cX2_isToldIn 28 = .ok (.ireturn, 1) := by decide +kernel
theorem dX2_toldAt_0 : decode cX2_toldAt 0 = .ok (.iload_n 1, 1) := by decide +kernel
theorem dX2_toldAt_1 : decode cX2_toldAt 1 = .ok (.ifCond .lt 21, 3) := by decide +kernel
theorem dX2_toldAt_4 : decode cX2_toldAt 4 = .ok (.iload_n 1, 1) := by decide +kernel
theorem dX2_toldAt_5 : decode cX2_toldAt 5 = .ok (.aload_n 0, 1) := by decide +kernel
theorem dX2_toldAt_6 : decode cX2_toldAt 6 = .ok (.getfield 21, 3) := by decide +kernel
theorem dX2_toldAt_9 : decode cX2_toldAt 9 = .ok (.arraylength, 1) := by decide +kernel
theorem dX2_toldAt_10 : decode cX2_toldAt 10 = .ok (.if_icmp .ge 12, 3) := by decide +kernel
theorem dX2_toldAt_13 : decode cX2_toldAt 13 = .ok (.aload_n 0, 1) := by decide +kernel
theorem dX2_toldAt_14 : decode cX2_toldAt 14 = .ok (.getfield 21, 3) := by decide +kernel
theorem dX2_toldAt_17 : decode cX2_toldAt 17 = .ok (.iload_n 1, 1) := by decide +kernel
theorem dX2_toldAt_18 : decode cX2_toldAt 18 = .ok (.iaload, 1) := by decide +kernel
theorem dX2_toldAt_19 : decode cX2_toldAt 19 = .ok (.goto 4, 3) := by decide +kernel
theorem dX2_toldAt_22 : decode cX2_toldAt 22 = .ok (.iconst 0, 1) := by decide +kernel
theorem dX2_toldAt_23 : decode cX2_toldAt 23 = .ok (.ireturn, 1) := by decide +kernel
theorem dX2_tell_0 : decode cX2_tell 0 = .ok (.iload_n 1, 1) := by decide +kernel
theorem dX2_tell_1 : decode cX2_tell 1 = .ok (.ifCond .lt 35, 3) := by decide +kernel
theorem dX2_tell_4 : decode cX2_tell 4 = .ok (.iload_n 1, 1) := by decide +kernel
theorem dX2_tell_5 : decode cX2_tell 5 = .ok (.aload_n 0, 1) := by decide +kernel
theorem dX2_tell_6 : decode cX2_tell 6 = .ok (.getfield 21, 3) := by decide +kernel
theorem dX2_tell_9 : decode cX2_tell 9 = .ok (.arraylength, 1) := by decide +kernel
theorem dX2_tell_10 : decode cX2_tell 10 = .ok (.if_icmp .ge 26, 3) := by decide +kernel
theorem dX2_tell_13 : decode cX2_tell 13 = .ok (.iload_n 1, 1) := by decide +kernel
theorem dX2_tell_14 : decode cX2_tell 14 = .ok (.aload_n 0, 1) := by decide +kernel
theorem dX2_tell_15 : decode cX2_tell 15 = .ok (.getfield 25, 3) := by decide +kernel
theorem dX2_tell_18 : decode cX2_tell 18 = .ok (.arraylength, 1) := by decide +kernel
theorem dX2_tell_19 : decode cX2_tell 19 = .ok (.if_icmp .ge 17, 3) := by decide +kernel
theorem dX2_tell_22 : decode cX2_tell 22 = .ok (.aload_n 0, 1) := by decide +kernel
theorem dX2_tell_23 : decode cX2_tell 23 = .ok (.getfield 21, 3) := by decide +kernel
theorem dX2_tell_26 : decode cX2_tell 26 = .ok (.iload_n 1, 1) := by decide +kernel
theorem dX2_tell_27 : decode cX2_tell 27 = .ok (.iload_n 2, 1) := by decide +kernel
theorem dX2_tell_28 : decode cX2_tell 28 = .ok (.iastore, 1) := by decide +kernel
theorem dX2_tell_29 : decode cX2_tell 29 = .ok (.aload_n 0, 1) := by decide +kernel
theorem dX2_tell_30 : decode cX2_tell 30 = .ok (.getfield 25, 3) := by decide +kernel
theorem dX2_tell_33 : decode cX2_tell 33 = .ok (.iload_n 1, 1) := by decide +kernel
theorem dX2_tell_34 : decode cX2_tell 34 = .ok (.iload_n 3, 1) := by decide +kernel
theorem dX2_tell_35 : decode cX2_tell 35 = .ok (.iastore, 1) := by decide +kernel
theorem dX2_tell_36 : decode cX2_tell 36 = .ok (.return_, 1) := by decide +kernel
set_option maxRecDepth 20000 in
theorem ggX2_drop_X2_tell : GoodIn wsX2_drop wsX2_tell := goodIn_r _ [5, 6, 7, 8, 9, 10, 11, 12, 13, 14, 15, 16, 17, 18, 19, 20, 21] (by decide +kernel) (by decide +kernel)
set_option maxRecDepth 20000 in
theorem gX2_drop_X2_tell : GoodIn wsX2_drop (wsV RX2 77 RX2 yX2_tell wsX2_tell) := goodIn_app (goodIn_of _ (by decide +kernel)) ggX2_drop_X2_tell
theorem dX2_drop_0 : decode cX2_drop 0 = .ok (.aload_n 0, 1) := by decide +kernel
theorem dX2_drop_1 : decode cX2_drop 1 = .ok (.iload_n 1, 1) := by decide +kernel
theorem dX2_drop_2 : decode cX2_drop 2 = .ok (.iconst 0, 1) := by decide +kernel
theorem dX2_drop_3 : decode cX2_drop 3 = .ok (.sipush 240, 3) := by decide +kernel
theorem dX2_drop_6 : decode cX2_drop 6 = .ok (.invokevirtual 77, 3) := by decide +kernel
theorem dX2_drop_9 : decode cX2_drop 9 = .ok (.return_, 1) := by decide +kernel
theorem dX3_init_0 : decode cX3_init 0 = .ok (.aload_n 0, 1) := by decide +kernel
theorem dX3_init_1 : decode cX3_init 1 = .ok (.invokespecial 1, 3) := by decide +kernel
theorem dX3_init_4 : decode cX3_init 4 = .ok (.return_, 1) := by decide +kernel
theorem dX3_clear_0 : decode cX3_clear 0 = .ok (.aload_n 0, 1) := by decide +kernel
theorem dX3_clear_1 : decode cX3_clear 1 = .ok (.iconst 0, 1) := by decide +kernel
theorem dX3_clear_2 : decode cX3_clear 2 = .ok (.putfield 7, 3) := by decide +kernel
theorem dX3_clear_5 : decode cX3_clear 5 = .ok (.aload_n 0, 1) := by decide +kernel
theorem dX3_clear_6 : decode cX3_clear 6 = .ok (.iconst 0, 1) := by decide +kernel
theorem dX3_clear_7 : decode cX3_clear 7 = .ok (.putfield 13, 3) := by decide +kernel
theorem dX3_clear_10 : decode cX3_clear 10 = .ok (.aload_n 0, 1) := by decide +kernel
theorem dX3_clear_11 : decode cX3_clear 11 = .ok (.iconst 0, 1) := by decide +kernel
theorem dX3_clear_12 : decode cX3_clear 12 = .ok (.putfield 17, 3) := by decide +kernel
theorem dX3_clear_15 : decode cX3_clear 15 = .ok (.return_, 1) := by decide +kernel
set_option maxRecDepth 20000 in
theorem ggX4_init_X7_init : GoodIn wsX4_init wsX7_init := goodIn_r _ [10, 11, 2, 3, 12, 13, 14, 15, 16, 17, 18, 19, 20] (by decide +kernel) (by decide +kernel)
set_option maxRecDepth 20000 in
theorem gX4_init_X7_init : GoodIn wsX4_init (wsX7_init) := ggX4_init_X7_init
theorem dX4_init_0 : decode cX4_init 0 = .ok (.aload_n 0, 1) := by decide +kernel
theorem dX4_init_1 : decode cX4_init 1 = .ok (.invokespecial 3, 3) := by decide +kernel
theorem dX4_init_4 : decode cX4_init 4 = .ok (.aload_n 0, 1) := by decide +kernel
theorem dX4_init_5 : decode cX4_init 5 = .ok (.new 9, 3) := by decide +kernel
theorem dX4_init_8 : decode cX4_init 8 = .ok (.dup, 1) := by decide +kernel
theorem dX4_init_9 : decode cX4_init 9 = .ok (.invokespecial 11, 3) := by decide +kernel
theorem dX4_init_12 : decode cX4_init 12 = .ok (.putfield 12, 3) := by decide +kernel
theorem dX4_init_15 : decode cX4_init 15 = .ok (.return_, 1) := by decide +kernel
set_option maxRecDepth 20000 in
theorem ggX4_read_X7_scan : GoodIn wsX4_read wsX7_scan := goodIn_r _ [8, 9, 10, 11, 12, 13, 14, 15, 16, 17, 18, 19, 20, 21, 22, 23, 24, 25, 26, 27, 28, 7, 29, 30, 31, 32, 33, 34, 35, 36, 37, 38, 39, 40, 41, 42, 43, 44, 45, 46, 47, 48, 49, 50, 51, 52, 53, 54, 55, 56, 57, 58, 59, 60, 61, 62, 63, 64, 65, 66, 67, 68, 69, 70, 71, 72, 73, 74, 75, 76, 77, 78, 79, 80, 81, 82, 83, 84, 85, 86, 87, 88, 89, 90, 91, 92, 93, 94, 95, 96, 97, 98, 99, 100, 101, 102, 103, 272, 273, 274, 275, 276, 277, 278] (by decide +kernel) (by decide +kernel)
set_option maxRecDepth 20000 in
theorem gX4_read_X7_scan : GoodIn wsX4_read (wsV RX4 18 RX7 yX7_scan wsX7_scan) := goodIn_app (goodIn_of _ (by decide +kernel)) ggX4_read_X7_scan
set_option maxRecDepth 20000 in
theorem ggX4_read_X1_clear : GoodIn wsX4_read wsX1_clear := goodIn_r _ [108, 109, 110, 111, 112, 113, 114, 115, 116, 117, 118, 119, 120, 121, 122, 123, 124, 125, 279, 280, 281, 282, 283, 284, 285, 286] (by decide +kernel) (by decide +kernel)
set_option maxRecDepth 20000 in
theorem gX4_read_X1_clear : GoodIn wsX4_read (wsV RX4 22 RX1 yX1_clear wsX1_clear) := goodIn_app (goodIn_of _ (by decide +kernel)) ggX4_read_X1_clear
set_option maxRecDepth 20000 in
theorem ggX4_read_X4_advance : GoodIn wsX4_read wsX4_advance := goodIn_r _ [130, 3, 1, 131, 132, 133, 134, 135, 136, 137, 265, 266, 267, 268, 269, 270, 271, 272, 273, 274, 275, 276] (by decide +kernel) (by decide +kernel)
set_option maxRecDepth 20000 in
theorem gX4_read_X4_advance : GoodIn wsX4_read (wsV RX4 34 RX4 yX4_advance wsX4_advance) := goodIn_app (goodIn_of _ (by decide +kernel)) ggX4_read_X4_advance
set_option maxRecDepth 20000 in
theorem ggX4_read_X4_readRate : GoodIn wsX4_read wsX4_readRate := goodIn_r _ [141, 142, 143, 144, 145, 146, 129, 147, 135, 148, 149, 150, 151, 2, 126, 127, 128, 130, 3, 1, 131, 132, 133, 134, 136, 137, 152, 153, 154, 155, 265, 266, 267, 268, 269, 270, 271, 279, 280, 281, 282, 283, 272, 273, 274, 275, 276] (by decide +kernel) (by decide +kernel)
set_option maxRecDepth 20000 in
theorem gX4_read_X4_readRate : GoodIn wsX4_read (wsV RX4 37 RX4 yX4_readRate wsX4_readRate) := goodIn_app (goodIn_of _ (by decide +kernel)) ggX4_read_X4_readRate
set_option maxRecDepth 20000 in
theorem ggX4_read_X4_readIndexLines : GoodIn wsX4_read wsX4_readIndexLines := goodIn_r _ [159, 135, 148, 149, 150, 129, 151, 2, 160, 161, 162, 163, 164, 137, 142, 126, 127, 128, 130, 3, 1, 131, 132, 133, 134, 136, 165, 166, 167, 116, 168, 118, 152, 153, 154, 155, 169, 170, 171, 172, 119, 120, 173, 174, 175, 107, 176, 110, 144, 145, 146, 147, 265, 266, 267, 268, 269, 270, 271, 279, 280, 281, 282, 283, 272, 273, 274, 275, 276, 284, 285, 286] (by decide +kernel) (by decide +kernel)
set_option maxRecDepth 20000 in
theorem gX4_read_X4_readIndexLines : GoodIn wsX4_read (wsV RX4 41 RX4 yX4_readIndexLines wsX4_readIndexLines) := goodIn_app (goodIn_of _ (by decide +kernel)) ggX4_read_X4_readIndexLines
set_option maxRecDepth 20000 in
theorem ggX4_read_X4_readLeases : GoodIn wsX4_read wsX4_readLeases := goodIn_r _ [180, 135, 181, 182, 183, 107, 184, 112, 185, 186, 187, 188, 189, 190, 191, 192, 193, 194, 195, 196, 197, 198, 199, 200, 201, 202, 203, 204, 205, 206, 207, 208, 209, 210, 211, 212, 213, 122, 123, 124, 148, 149, 150, 129, 151, 2, 214, 215, 216, 217, 142, 218, 219, 220, 221, 222, 223, 126, 127, 128, 130, 3, 1, 131, 132, 133, 134, 136, 137, 152, 153, 154, 155, 144, 145, 146, 147, 224, 225, 226, 227, 228, 229, 230, 231, 232, 233, 234, 235, 236, 237, 238, 239, 240, 241, 242, 243, 244, 245, 246, 247, 248, 249, 250, 251, 252, 253, 254, 255, 256, 257, 258, 259, 260, 265, 266, 267, 268, 269, 270, 271, 279, 280, 281, 282, 283, 287, 288, 289, 290, 291, 292, 293, 294, 295, 296, 297, 298, 299, 300, 301, 302, 303, 272, 273, 274, 275, 276] (by decide +kernel) (by decide +kernel)
set_option maxRecDepth 20000 in
theorem gX4_read_X4_readLeases : GoodIn wsX4_read (wsV RX4 44 RX4 yX4_readLeases wsX4_readLeases) := goodIn_app (goodIn_of _ (by decide +kernel)) ggX4_read_X4_readLeases
set_option maxRecDepth 20000 in
theorem ggX4_read_X4_isAtEnd : GoodIn wsX4_read wsX4_isAtEnd := goodIn_r _ [264, 135, 148, 149, 150, 129, 151, 2, 265, 266, 267, 268, 269, 270, 271] (by decide +kernel) (by decide +kernel)
set_option maxRecDepth 20000 in
theorem gX4_read_X4_isAtEnd : GoodIn wsX4_read (wsV RX4 47 RX4 yX4_isAtEnd wsX4_isAtEnd) := goodIn_app (goodIn_of _ (by decide +kernel)) ggX4_read_X4_isAtEnd
theorem dX4_read_0 : decode cX4_read 0 = .ok (.aload_n 0, 1) := by decide +kernel
theorem dX4_read_1 : decode cX4_read 1 = .ok (.getfield 12, 3) := by decide +kernel
theorem dX4_read_4 : decode cX4_read 4 = .ok (.aload_n 1, 1) := by decide +kernel
theorem dX4_read_5 : decode cX4_read 5 = .ok (.invokevirtual 18, 3) := by decide +kernel
theorem dX4_read_8 : decode cX4_read 8 = .ok (.aload_n 2, 1) := by decide +kernel
theorem dX4_read_9 : decode cX4_read 9 = .ok (.invokevirtual 22, 3) := by decide +kernel
theorem dX4_read_12 : decode cX4_read 12 = .ok (.aload_n 0, 1) := by decide +kernel
theorem dX4_read_13 : decode cX4_read 13 = .ok (.iconst 0, 1) := by decide +kernel
theorem dX4_read_14 : decode cX4_read 14 = .ok (.putfield 27, 3) := by decide +kernel
theorem dX4_read_17 : decode cX4_read 17 = .ok (.aload_n 0, 1) := by decide +kernel
theorem dX4_read_18 : decode cX4_read 18 = .ok (.iconst 0, 1) := by decide +kernel
theorem dX4_read_19 : decode cX4_read 19 = .ok (.putfield 31, 3) := by decide +kernel
theorem dX4_read_22 : decode cX4_read 22 = .ok (.aload_n 0, 1) := by decide +kernel
theorem dX4_read_23 : decode cX4_read 23 = .ok (.invokevirtual 34, 3) := by decide +kernel
theorem dX4_read_26 : decode cX4_read 26 = .ok (.aload_n 0, 1) := by decide +kernel
theorem dX4_read_27 : decode cX4_read 27 = .ok (.aload_n 2, 1) := by decide +kernel
theorem dX4_read_28 : decode cX4_read 28 = .ok (.invokevirtual 37, 3) := by decide +kernel
theorem dX4_read_31 : decode cX4_read 31 = .ok (.ifCond .eq 30, 3) := by decide +kernel
theorem dX4_read_34 : decode cX4_read 34 = .ok (.aload_n 0, 1) := by decide +kernel
theorem dX4_read_35 : decode cX4_read 35 = .ok (.aload_n 2, 1) := by decide +kernel
theorem dX4_read_36 : decode cX4_read 36 = .ok (.invokevirtual 41, 3) := by decide +kernel
theorem dX4_read_39 : decode cX4_read 39 = .ok (.ifCond .eq 22, 3) := by decide +kernel
theorem dX4_read_42 : decode cX4_read 42 = .ok (.aload_n 0, 1) := by decide +kernel
theorem dX4_read_43 : decode cX4_read 43 = .ok (.aload_n 2, 1) := by decide +kernel
theorem dX4_read_44 : decode cX4_read 44 = .ok (.invokevirtual 44, 3) := by decide +kernel
theorem dX4_read_47 : decode cX4_read 47 = .ok (.ifCond .eq 14, 3) := by decide +kernel
theorem dX4_read_50 : decode cX4_read 50 = .ok (.aload_n 0, 1) := by decide +kernel
theorem dX4_read_51 : decode cX4_read 51 = .ok (.invokevirtual 47, 3) := by decide +kernel
theorem dX4_read_54 : decode cX4_read 54 = .ok (.ifCond .eq 7, 3) := by decide +kernel
theorem dX4_read_57 : decode cX4_read 57 = .ok (.iconst 1, 1) := by decide +kernel
theorem dX4_read_58 : decode cX4_read 58 = .ok (.goto 4, 3) := by decide +kernel
theorem dX4_read_61 : decode cX4_read 61 = .ok (.iconst 0, 1) := by decide +kernel
theorem dX4_read_62 : decode cX4_read 62 = .ok (.ireturn, 1) := by decide +kernel
set_option maxRecDepth 20000 in
theorem ggX4_readRate_X4_take : GoodIn wsX4_readRate wsX4_take := goodIn_r _ [7, 8, 9, 10, 11, 6, 12, 13, 14, 15, 16, 17, 18, 19, 20, 21, 22, 23, 24, 25, 30, 31, 32, 33, 34, 35, 36, 42, 43, 44, 45, 46] (by decide +kernel) (by decide +kernel)
set_option maxRecDepth 20000 in
theorem gX4_readRate_X4_take : GoodIn wsX4_readRate (wsV RX4 51 RX4 yX4_take wsX4_take) := goodIn_app (goodIn_of _ (by decide +kernel)) ggX4_readRate_X4_take
set_option maxRecDepth 20000 in
theorem ggX4_readRate_X4_takeNumber : GoodIn wsX4_readRate wsX4_takeNumber := goodIn_r _ [29, 8, 25, 1, 9, 10, 11, 6, 12, 13, 14, 15, 16, 17, 18, 19, 20, 21, 22, 23, 24, 30, 31, 32, 33, 34, 35, 36, 42, 43, 44, 45, 46] (by decide +kernel) (by decide +kernel)
set_option maxRecDepth 20000 in
theorem gX4_readRate_X4_takeNumber : GoodIn wsX4_readRate (wsV RX4 55 RX4 yX4_takeNumber wsX4_takeNumber) := goodIn_app (goodIn_of _ (by decide +kernel)) ggX4_readRate_X4_takeNumber
theorem dX4_readRate_0 : decode cX4_readRate 0 = .ok (.aload_n 0, 1) := by decide +kernel
theorem dX4_readRate_1 : decode cX4_readRate 1 = .ok (.iconst 5, 1) := by decide +kernel
theorem dX4_readRate_2 : decode cX4_readRate 2 = .ok (.invokevirtual 51, 3) := by decide +kernel
theorem dX4_readRate_5 : decode cX4_readRate 5 = .ok (.ifCond .eq 14, 3) := by decide +kernel
theorem dX4_readRate_8 : decode cX4_readRate 8 = .ok (.aload_n 0, 1) := by decide +kernel
theorem dX4_readRate_9 : decode cX4_readRate 9 = .ok (.iconst 0, 1) := by decide +kernel
theorem dX4_readRate_10 : decode cX4_readRate 10 = .ok (.sipush 500, 3) := by decide +kernel
theorem dX4_readRate_13 : decode cX4_readRate 13 = .ok (.invokevirtual 55, 3) := by decide +kernel
theorem dX4_readRate_16 : decode cX4_readRate 16 = .ok (.ifCond .ne 5, 3) := by decide +kernel
theorem dX4_readRate_19 : decode cX4_readRate 19 = .ok (.iconst 0, 1) := by decide +kernel
theorem dX4_readRate_20 : decode cX4_readRate 20 = .ok (.ireturn, 1) := by decide +kernel
theorem dX4_readRate_21 : decode cX4_readRate 21 = .ok (.aload_n 1, 1) := by decide +kernel
theorem dX4_readRate_22 : decode cX4_readRate 22 = .ok (.aload_n 0, 1) := by decide +kernel
theorem dX4_readRate_23 : decode cX4_readRate 23 = .ok (.getfield 59, 3) := by decide +kernel
theorem dX4_readRate_26 : decode cX4_readRate 26 = .ok (.putfield 62, 3) := by decide +kernel
theorem dX4_readRate_29 : decode cX4_readRate 29 = .ok (.aload_n 0, 1) := by decide +kernel
theorem dX4_readRate_30 : decode cX4_readRate 30 = .ok (.iconst 2, 1) := by decide +kernel
theorem dX4_readRate_31 : decode cX4_readRate 31 = .ok (.invokevirtual 51, 3) := by decide +kernel
theorem dX4_readRate_34 : decode cX4_readRate 34 = .ok (.ireturn, 1) := by decide +kernel
set_option maxRecDepth 20000 in
theorem ggX4_readIndexLines_X4_refuse : GoodIn wsX4_readIndexLines wsX4_refuse := goodIn_r _ [6, 7, 52, 53, 54, 55, 56, 57, 58] (by decide +kernel) (by decide +kernel)
set_option maxRecDepth 20000 in
theorem gX4_readIndexLines_X4_refuse : GoodIn wsX4_readIndexLines (wsV RX4 68 RX4 yX4_refuse wsX4_refuse) := goodIn_app (goodIn_of _ (by decide +kernel)) ggX4_readIndexLines_X4_refuse
set_option maxRecDepth 20000 in
theorem ggX4_readIndexLines_X4_readIndexLine : GoodIn wsX4_readIndexLines wsX4_readIndexLine := goodIn_r _ [11, 1, 12, 13, 14, 15, 16, 17, 5, 18, 19, 20, 21, 22, 23, 24, 25, 26, 27, 28, 29, 30, 31, 2, 3, 4, 6, 7, 32, 33, 34, 35, 36, 37, 38, 39, 40, 41, 42, 43, 44, 45, 46, 47, 48, 49, 50, 51, 52, 53, 54, 55, 56, 57, 58, 59, 60, 61, 62, 63, 64, 65, 66, 67, 68, 69, 70, 71] (by decide +kernel) (by decide +kernel)
set_option maxRecDepth 20000 in
theorem gX4_readIndexLines_X4_readIndexLine : GoodIn wsX4_readIndexLines (wsV RX4 71 RX4 yX4_readIndexLine wsX4_readIndexLine) := goodIn_app (goodIn_of _ (by decide +kernel)) ggX4_readIndexLines_X4_readIndexLine
theorem dX4_readIndexLines_0 : decode cX4_readIndexLines 0 = .ok (.iconst 0, 1) := by decide +kernel
theorem dX4_readIndexLines_1 : decode cX4_readIndexLines 1 = .ok (.istore_n 2, 1) := by decide +kernel
theorem dX4_readIndexLines_2 : decode cX4_readIndexLines 2 = .ok (.iload_n 2, 1) := by decide +kernel
theorem dX4_readIndexLines_3 : decode cX4_readIndexLines 3 = .ok (.bipush 20, 2) := by decide +kernel
theorem dX4_readIndexLines_5 : decode cX4_readIndexLines 5 = .ok (.if_icmp .gt 40, 3) := by decide +kernel
theorem dX4_readIndexLines_8 : decode cX4_readIndexLines 8 = .ok (.aload_n 0, 1) := by decide +kernel
theorem dX4_readIndexLines_9 : decode cX4_readIndexLines 9 = .ok (.getfield 65, 3) := by decide +kernel
theorem dX4_readIndexLines_12 : decode cX4_readIndexLines 12 = .ok (.bipush 6, 2) := by decide +kernel
theorem dX4_readIndexLines_14 : decode cX4_readIndexLines 14 = .ok (.if_icmp .ne 31, 3) := by decide +kernel
theorem dX4_readIndexLines_17 : decode cX4_readIndexLines 17 = .ok (.iload_n 2, 1) := by decide +kernel
theorem dX4_readIndexLines_18 : decode cX4_readIndexLines 18 = .ok (.bipush 20, 2) := by decide +kernel
theorem dX4_readIndexLines_20 : decode cX4_readIndexLines 20 = .ok (.if_icmp .ne 9, 3) := by decide +kernel
theorem dX4_readIndexLines_23 : decode cX4_readIndexLines 23 = .ok (.aload_n 0, 1) := by decide +kernel
theorem dX4_readIndexLines_24 : decode cX4_readIndexLines 24 = .ok (.iconst 3, 1) := by decide +kernel
theorem dX4_readIndexLines_25 : decode cX4_readIndexLines 25 = .ok (.invokevirtual 68, 3) := by decide +kernel
theorem dX4_readIndexLines_28 : decode cX4_readIndexLines 28 = .ok (.ireturn, 1) := by decide +kernel
theorem dX4_readIndexLines_29 : decode cX4_readIndexLines 29 = .ok (.aload_n 0, 1) := by decide +kernel
theorem dX4_readIndexLines_30 : decode cX4_readIndexLines 30 = .ok (.aload_n 1, 1) := by decide +kernel
theorem dX4_readIndexLines_31 : decode cX4_readIndexLines 31 = .ok (.invokevirtual 71, 3) := by decide +kernel
theorem dX4_readIndexLines_34 : decode cX4_readIndexLines 34 = .ok (.ifCond .ne 5, 3) := by decide +kernel
theorem dX4_readIndexLines_37 : decode cX4_readIndexLines 37 = .ok (.iconst 0, 1) := by decide +kernel
theorem dX4_readIndexLines_38 : decode cX4_readIndexLines 38 = .ok (.ireturn, 1) := by decide +kernel
theorem dX4_readIndexLines_39 : decode cX4_readIndexLines 39 = .ok (.iinc 2 1, 3) := by decide +kernel
theorem dX4_readIndexLines_42 : decode cX4_readIndexLines 42 = .ok (.goto (-40), 3) := by decide +kernel
theorem dX4_readIndexLines_45 : decode cX4_readIndexLines 45 = .ok (.iconst 1, 1) := by decide +kernel
theorem dX4_readIndexLines_46 : decode cX4_readIndexLines 46 = .ok (.ireturn, 1) := by decide +kernel
set_option maxRecDepth 20000 in
theorem ggX4_readIndexLine_X4_advance : GoodIn wsX4_readIndexLine wsX4_advance := goodIn_r _ [9, 10, 11, 12, 13, 14, 15, 1, 16, 3, 48, 49, 50, 51, 52, 53, 54, 60, 61, 62, 63, 64] (by decide +kernel) (by decide +kernel)
set_option maxRecDepth 20000 in
theorem gX4_readIndexLine_X4_advance : GoodIn wsX4_readIndexLine (wsV RX4 34 RX4 yX4_advance wsX4_advance) := goodIn_app (goodIn_of _ (by decide +kernel)) ggX4_readIndexLine_X4_advance
set_option maxRecDepth 20000 in
theorem ggX4_readIndexLine_X8_has : GoodIn wsX4_readIndexLine wsX8_has := goodIn_r _ [21, 22, 65, 66, 67] (by decide +kernel) (by decide +kernel)
set_option maxRecDepth 20000 in
theorem gX4_readIndexLine_X8_has : GoodIn wsX4_readIndexLine (wsV RX4 81 RX8 yX8_has wsX8_has) := goodIn_app (goodIn_of _ (by decide +kernel)) ggX4_readIndexLine_X8_has
set_option maxRecDepth 20000 in
theorem ggX4_readIndexLine_X4_refuse : GoodIn wsX4_readIndexLine wsX4_refuse := goodIn_r _ [26, 27, 48, 49, 50, 51, 52, 53, 54] (by decide +kernel) (by decide +kernel)
set_option maxRecDepth 20000 in
theorem gX4_readIndexLine_X4_refuse : GoodIn wsX4_readIndexLine (wsV RX4 68 RX4 yX4_refuse wsX4_refuse) := goodIn_app (goodIn_of _ (by decide +kernel)) ggX4_readIndexLine_X4_refuse
set_option maxRecDepth 20000 in
theorem ggX4_readIndexLine_X4_takeNumber : GoodIn wsX4_readIndexLine wsX4_takeNumber := goodIn_r _ [31, 1, 3, 4, 23, 24, 25, 8, 26, 27, 5, 6, 7, 9, 10, 11, 12, 13, 14, 15, 16, 48, 49, 50, 51, 52, 53, 54, 60, 61, 62, 63, 64] (by decide +kernel) (by decide +kernel)
set_option maxRecDepth 20000 in
theorem gX4_readIndexLine_X4_takeNumber : GoodIn wsX4_readIndexLine (wsV RX4 55 RX4 yX4_takeNumber wsX4_takeNumber) := goodIn_app (goodIn_of _ (by decide +kernel)) ggX4_readIndexLine_X4_takeNumber
set_option maxRecDepth 20000 in
theorem ggX4_readIndexLine_X8_tell : GoodIn wsX4_readIndexLine wsX8_tell := goodIn_r _ [35, 22, 36, 37, 65, 66, 67] (by decide +kernel) (by decide +kernel)
set_option maxRecDepth 20000 in
theorem gX4_readIndexLine_X8_tell : GoodIn wsX4_readIndexLine (wsV RX4 86 RX8 yX8_tell wsX8_tell) := goodIn_app (goodIn_of _ (by decide +kernel)) ggX4_readIndexLine_X8_tell
set_option maxRecDepth 20000 in
theorem ggX4_readIndexLine_X1_addNews : GoodIn wsX4_readIndexLine wsX1_addNews := goodIn_r _ [42, 43, 55, 56, 57, 58, 59] (by decide +kernel) (by decide +kernel)
set_option maxRecDepth 20000 in
theorem gX4_readIndexLine_X1_addNews : GoodIn wsX4_readIndexLine (wsV RX4 90 RX1 yX1_addNews wsX1_addNews) := goodIn_app (goodIn_of _ (by decide +kernel)) ggX4_readIndexLine_X1_addNews
set_option maxRecDepth 20000 in
theorem ggX4_readIndexLine_X4_take : GoodIn wsX4_readIndexLine wsX4_take := goodIn_r _ [47, 1, 23, 24, 25, 8, 26, 27, 5, 6, 7, 9, 10, 11, 12, 13, 14, 15, 16, 3, 48, 49, 50, 51, 52, 53, 54, 60, 61, 62, 63, 64] (by decide +kernel) (by decide +kernel)
set_option maxRecDepth 20000 in
theorem gX4_readIndexLine_X4_take : GoodIn wsX4_readIndexLine (wsV RX4 51 RX4 yX4_take wsX4_take) := goodIn_app (goodIn_of _ (by decide +kernel)) ggX4_readIndexLine_X4_take
theorem dX4_readIndexLine_0 : decode cX4_readIndexLine 0 = .ok (.aload_n 0, 1) := by decide +kernel
theorem dX4_readIndexLine_1 : decode cX4_readIndexLine 1 = .ok (.invokevirtual 34, 3) := by decide +kernel
theorem dX4_readIndexLine_4 : decode cX4_readIndexLine 4 = .ok (.aload_n 0, 1) := by decide +kernel
theorem dX4_readIndexLine_5 : decode cX4_readIndexLine 5 = .ok (.getfield 65, 3) := by decide +kernel
theorem dX4_readIndexLine_8 : decode cX4_readIndexLine 8 = .ok (.iconst 3, 1) := by decide +kernel
theorem dX4_readIndexLine_9 : decode cX4_readIndexLine 9 = .ok (.if_icmp .ne 23, 3) := by decide +kernel
theorem dX4_readIndexLine_12 : decode cX4_readIndexLine 12 = .ok (.aload_n 1, 1) := by decide +kernel
theorem dX4_readIndexLine_13 : decode cX4_readIndexLine 13 = .ok (.getfield 74, 3) := by decide +kernel
theorem dX4_readIndexLine_16 : decode cX4_readIndexLine 16 = .ok (.aload_n 0, 1) := by decide +kernel
theorem dX4_readIndexLine_17 : decode cX4_readIndexLine 17 = .ok (.getfield 78, 3) := by decide +kernel
theorem dX4_readIndexLine_20 : decode cX4_readIndexLine 20 = .ok (.invokevirtual 81, 3) := by decide +kernel
theorem dX4_readIndexLine_23 : decode cX4_readIndexLine 23 = .ok (.ifCond .eq 9, 3) := by decide +kernel
theorem dX4_readIndexLine_26 : decode cX4_readIndexLine 26 = .ok (.aload_n 0, 1) := by decide +kernel
theorem dX4_readIndexLine_27 : decode cX4_readIndexLine 27 = .ok (.iconst 2, 1) := by decide +kernel
theorem dX4_readIndexLine_28 : decode cX4_readIndexLine 28 = .ok (.invokevirtual 68, 3) := by decide +kernel
theorem dX4_readIndexLine_31 : decode cX4_readIndexLine 31 = .ok (.ireturn, 1) := by decide +kernel
theorem dX4_readIndexLine_32 : decode cX4_readIndexLine 32 = .ok (.aload_n 0, 1) := by decide +kernel
theorem dX4_readIndexLine_33 : decode cX4_readIndexLine 33 = .ok (.iconst 0, 1) := by decide +kernel
theorem dX4_readIndexLine_34 : decode cX4_readIndexLine 34 = .ok (.sipush 239, 3) := by decide +kernel
theorem dX4_readIndexLine_37 : decode cX4_readIndexLine 37 = .ok (.invokevirtual 55, 3) := by decide +kernel
theorem dX4_readIndexLine_40 : decode cX4_readIndexLine 40 = .ok (.ifCond .ne 5, 3) := by decide +kernel
theorem dX4_readIndexLine_43 : decode cX4_readIndexLine 43 = .ok (.iconst 0, 1) := by decide +kernel
theorem dX4_readIndexLine_44 : decode cX4_readIndexLine 44 = .ok (.ireturn, 1) := by decide +kernel
theorem dX4_readIndexLine_45 : decode cX4_readIndexLine 45 = .ok (.aload_n 0, 1) := by decide +kernel
theorem dX4_readIndexLine_46 : decode cX4_readIndexLine 46 = .ok (.getfield 59, 3) := by decide +kernel
theorem dX4_readIndexLine_49 : decode cX4_readIndexLine 49 = .ok (.istore_n 2, 1) := by decide +kernel
theorem dX4_readIndexLine_50 : decode cX4_readIndexLine 50 = .ok (.aload_n 0, 1) := by decide +kernel
theorem dX4_readIndexLine_51 : decode cX4_readIndexLine 51 = .ok (.iconst 1, 1) := by decide +kernel
theorem dX4_readIndexLine_52 : decode cX4_readIndexLine 52 = .ok (.sipush 9999, 3) := by decide +kernel
theorem dX4_readIndexLine_55 : decode cX4_readIndexLine 55 = .ok (.invokevirtual 55, 3) := by decide +kernel
theorem dX4_readIndexLine_58 : decode cX4_readIndexLine 58 = .ok (.ifCond .ne 5, 3) := by decide +kernel
theorem dX4_readIndexLine_61 : decode cX4_readIndexLine 61 = .ok (.iconst 0, 1) := by decide +kernel
theorem dX4_readIndexLine_62 : decode cX4_readIndexLine 62 = .ok (.ireturn, 1) := by decide +kernel
theorem dX4_readIndexLine_63 : decode cX4_readIndexLine 63 = .ok (.aload_n 0, 1) := by decide +kernel
theorem dX4_readIndexLine_64 : decode cX4_readIndexLine 64 = .ok (.getfield 59, 3) := by decide +kernel
theorem dX4_readIndexLine_67 : decode cX4_readIndexLine 67 = .ok (.istore_n 3, 1) := by decide +kernel
theorem dX4_readIndexLine_68 : decode cX4_readIndexLine 68 = .ok (.aload_n 0, 1) := by decide +kernel
theorem dX4_readIndexLine_69 : decode cX4_readIndexLine 69 = .ok (.iconst 0, 1) := by decide +kernel
theorem dX4_readIndexLine_70 : decode cX4_readIndexLine 70 = .ok (.sipush 239, 3) := by decide +kernel
theorem dX4_readIndexLine_73 : decode cX4_readIndexLine 73 = .ok (.invokevirtual 55, 3) := by decide +kernel
theorem dX4_readIndexLine_76 : decode cX4_readIndexLine 76 = .ok (.ifCond .ne 5, 3) := by decide +kernel
theorem dX4_readIndexLine_79 : decode cX4_readIndexLine 79 = .ok (.iconst 0, 1) := by decide +kernel
theorem dX4_readIndexLine_80 : decode cX4_readIndexLine 80 = .ok (.ireturn, 1) := by decide +kernel
theorem dX4_readIndexLine_81 : decode cX4_readIndexLine 81 = .ok (.aload_n 1, 1) := by decide +kernel
theorem dX4_readIndexLine_82 : decode cX4_readIndexLine 82 = .ok (.getfield 74, 3) := by decide +kernel
theorem dX4_readIndexLine_85 : decode cX4_readIndexLine 85 = .ok (.iload_n 2, 1) := by decide +kernel
theorem dX4_readIndexLine_86 : decode cX4_readIndexLine 86 = .ok (.iload_n 3, 1) := by decide +kernel
theorem dX4_readIndexLine_87 : decode cX4_readIndexLine 87 = .ok (.aload_n 0, 1) := by decide +kernel
theorem dX4_readIndexLine_88 : decode cX4_readIndexLine 88 = .ok (.getfield 59, 3) := by decide +kernel
theorem dX4_readIndexLine_91 : decode cX4_readIndexLine 91 = .ok (.invokevirtual 86, 3) := by decide +kernel
theorem dX4_readIndexLine_94 : decode cX4_readIndexLine 94 = .ok (.aload_n 1, 1) := by decide +kernel
theorem dX4_readIndexLine_95 : decode cX4_readIndexLine 95 = .ok (.aload_n 0, 1) := by decide +kernel
theorem dX4_readIndexLine_96 : decode cX4_readIndexLine 96 = .ok (.getfield 59, 3) := by decide +kernel
theorem dX4_readIndexLine_99 : decode cX4_readIndexLine 99 = .ok (.iconst 1, 1) := by decide +kernel
theorem dX4_readIndexLine_100 : decode cX4_readIndexLine 100 = .ok (.invokevirtual 90, 3) := by decide +kernel
theorem dX4_readIndexLine_103 : decode cX4_readIndexLine 103 = .ok (.aload_n 0, 1) := by decide +kernel
theorem dX4_readIndexLine_104 : decode cX4_readIndexLine 104 = .ok (.iconst 2, 1) := by decide +kernel
theorem dX4_readIndexLine_105 : decode cX4_readIndexLine 105 = .ok (.invokevirtual 51, 3) := by decide +kernel
theorem dX4_readIndexLine_108 : decode cX4_readIndexLine 108 = .ok (.ireturn, 1) := by decide +kernel
set_option maxRecDepth 20000 in
theorem ggX4_readLeases_X1_addLease : GoodIn wsX4_readLeases wsX1_addLease := goodIn_r _ [6, 7, 8, 9, 10, 11, 12, 13, 14, 15, 16, 17, 18, 19, 20, 21, 22, 23, 24, 25, 26, 27, 28, 29, 30, 31, 32, 33, 34, 35, 36, 37, 38, 39, 121, 122, 123, 124, 125, 126, 127, 128, 129, 130, 131, 132, 133, 134, 135, 136, 137, 138, 139, 140, 141, 142] (by decide +kernel) (by decide +kernel)
set_option maxRecDepth 20000 in
theorem gX4_readLeases_X1_addLease : GoodIn wsX4_readLeases (wsV RX4 94 RX1 yX1_addLease wsX1_addLease) := goodIn_app (goodIn_of _ (by decide +kernel)) ggX4_readLeases_X1_addLease
set_option maxRecDepth 20000 in
theorem ggX4_readLeases_X4_refuse : GoodIn wsX4_readLeases wsX4_refuse := goodIn_r _ [44, 45, 114, 115, 116, 117, 118, 119, 120] (by decide +kernel) (by decide +kernel)
set_option maxRecDepth 20000 in
theorem gX4_readLeases_X4_refuse : GoodIn wsX4_readLeases (wsV RX4 68 RX4 yX4_refuse wsX4_refuse) := goodIn_app (goodIn_of _ (by decide +kernel)) ggX4_readLeases_X4_refuse
set_option maxRecDepth 20000 in
theorem ggX4_readLeases_X4_readLeaseLine : GoodIn wsX4_readLeases wsX4_readLeaseLine := goodIn_r _ [49, 50, 51, 52, 53, 54, 55, 56, 57, 58, 59, 43, 60, 61, 62, 63, 64, 65, 66, 1, 67, 68, 69, 70, 71, 72, 40, 41, 42, 44, 45, 73, 74, 75, 76, 114, 115, 116, 117, 118, 119, 120, 126, 127, 128, 129, 130, 131, 132, 133, 134, 135, 136, 137, 138, 139, 143, 144, 145, 146, 147] (by decide +kernel) (by decide +kernel)
set_option maxRecDepth 20000 in
theorem gX4_readLeases_X4_readLeaseLine : GoodIn wsX4_readLeases (wsV RX4 98 RX4 yX4_readLeaseLine wsX4_readLeaseLine) := goodIn_app (goodIn_of _ (by decide +kernel)) ggX4_readLeases_X4_readLeaseLine
set_option maxRecDepth 20000 in
theorem ggX4_readLeases_X4_readParts : GoodIn wsX4_readLeases wsX4_readParts := goodIn_r _ [80, 81, 82, 83, 43, 84, 1, 85, 86, 87, 88, 89, 90, 91, 92, 93, 94, 40, 41, 42, 44, 45, 95, 96, 97, 98, 57, 58, 59, 60, 61, 62, 63, 64, 65, 66, 67, 68, 99, 100, 101, 102, 50, 103, 69, 70, 71, 72, 104, 105, 106, 107, 108, 109, 110, 111, 112, 113, 51, 52, 73, 74, 75, 76, 114, 115, 116, 117, 118, 119, 120, 126, 127, 128, 129, 130, 131, 132, 133, 134, 135, 136, 137, 138, 139, 140, 141, 142, 143, 144, 145, 146, 147] (by decide +kernel) (by decide +kernel)
set_option maxRecDepth 20000 in
theorem gX4_readLeases_X4_readParts : GoodIn wsX4_readLeases (wsV RX4 102 RX4 yX4_readParts wsX4_readParts) := goodIn_app (goodIn_of _ (by decide +kernel)) ggX4_readLeases_X4_readParts
theorem dX4_readLeases_0 : decode cX4_readLeases 0 = .ok (.iconst 0, 1) := by decide +kernel
theorem dX4_readLeases_1 : decode cX4_readLeases 1 = .ok (.istore_n 2, 1) := by decide +kernel
theorem dX4_readLeases_2 : decode cX4_readLeases 2 = .ok (.iload_n 2, 1) := by decide +kernel
theorem dX4_readLeases_3 : decode cX4_readLeases 3 = .ok (.bipush 6, 2) := by decide +kernel
theorem dX4_readLeases_5 : decode cX4_readLeases 5 = .ok (.if_icmp .gt 51, 3) := by decide +kernel
theorem dX4_readLeases_8 : decode cX4_readLeases 8 = .ok (.aload_n 0, 1) := by decide +kernel
theorem dX4_readLeases_9 : decode cX4_readLeases 9 = .ok (.getfield 65, 3) := by decide +kernel
theorem dX4_readLeases_12 : decode cX4_readLeases 12 = .ok (.bipush 7, 2) := by decide +kernel
theorem dX4_readLeases_14 : decode cX4_readLeases 14 = .ok (.if_icmp .ne 42, 3) := by decide +kernel
theorem dX4_readLeases_17 : decode cX4_readLeases 17 = .ok (.aload_n 1, 1) := by decide +kernel
theorem dX4_readLeases_18 : decode cX4_readLeases 18 = .ok (.invokevirtual 94, 3) := by decide +kernel
theorem dX4_readLeases_21 : decode cX4_readLeases 21 = .ok (.astore_n 3, 1) := by decide +kernel
theorem dX4_readLeases_22 : decode cX4_readLeases 22 = .ok (.aload_n 3, 1) := by decide +kernel
theorem dX4_readLeases_23 : decode cX4_readLeases 23 = .ok (.ifnonnull 9, 3) := by decide +kernel
theorem dX4_readLeases_26 : decode cX4_readLeases 26 = .ok (.aload_n 0, 1) := by decide +kernel
theorem dX4_readLeases_27 : decode cX4_readLeases 27 = .ok (.iconst 3, 1) := by decide +kernel
theorem dX4_readLeases_28 : decode cX4_readLeases 28 = .ok (.invokevirtual 68, 3) := by decide +kernel
theorem dX4_readLeases_31 : decode cX4_readLeases 31 = .ok (.ireturn, 1) := by decide +kernel
theorem dX4_readLeases_32 : decode cX4_readLeases 32 = .ok (.aload_n 0, 1) := by decide +kernel
theorem dX4_readLeases_33 : decode cX4_readLeases 33 = .ok (.aload_n 3, 1) := by decide +kernel
theorem dX4_readLeases_34 : decode cX4_readLeases 34 = .ok (.invokevirtual 98, 3) := by decide +kernel
theorem dX4_readLeases_37 : decode cX4_readLeases 37 = .ok (.ifCond .eq 11, 3) := by decide +kernel
theorem dX4_readLeases_40 : decode cX4_readLeases 40 = .ok (.aload_n 0, 1) := by decide +kernel
theorem dX4_readLeases_41 : decode cX4_readLeases 41 = .ok (.aload_n 3, 1) := by decide +kernel
theorem dX4_readLeases_42 : decode cX4_readLeases 42 = .ok (.invokevirtual 102, 3) := by decide +kernel
theorem dX4_readLeases_45 : decode cX4_readLeases 45 = .ok (.ifCond .ne 5, 3) := by decide +kernel
theorem dX4_readLeases_48 : decode cX4_readLeases 48 = .ok (.iconst 0, 1) := by decide +kernel
theorem dX4_readLeases_49 : decode cX4_readLeases 49 = .ok (.ireturn, 1) := by decide +kernel
theorem dX4_readLeases_50 : decode cX4_readLeases 50 = .ok (.iinc 2 1, 3) := by decide +kernel
theorem dX4_readLeases_53 : decode cX4_readLeases 53 = .ok (.goto (-51), 3) := by decide +kernel
theorem dX4_readLeases_56 : decode cX4_readLeases 56 = .ok (.iconst 1, 1) := by decide +kernel
theorem dX4_readLeases_57 : decode cX4_readLeases 57 = .ok (.ireturn, 1) := by decide +kernel
set_option maxRecDepth 20000 in
theorem ggX4_readLeaseLine_X4_advance : GoodIn wsX4_readLeaseLine wsX4_advance := goodIn_r _ [12, 13, 14, 15, 16, 17, 18, 19, 20, 21, 35, 36, 37, 38, 39, 40, 41, 56, 57, 58, 59, 60] (by decide +kernel) (by decide +kernel)
set_option maxRecDepth 20000 in
theorem gX4_readLeaseLine_X4_advance : GoodIn wsX4_readLeaseLine (wsV RX4 34 RX4 yX4_advance wsX4_advance) := goodIn_app (goodIn_of _ (by decide +kernel)) ggX4_readLeaseLine_X4_advance
set_option maxRecDepth 20000 in
theorem ggX4_readLeaseLine_X4_takeNumber : GoodIn wsX4_readLeaseLine wsX4_takeNumber := goodIn_r _ [25, 19, 21, 1, 26, 27, 28, 11, 29, 30, 8, 9, 10, 12, 13, 14, 15, 16, 17, 18, 20, 35, 36, 37, 38, 39, 40, 41, 56, 57, 58, 59, 60] (by decide +kernel) (by decide +kernel)
set_option maxRecDepth 20000 in
theorem gX4_readLeaseLine_X4_takeNumber : GoodIn wsX4_readLeaseLine (wsV RX4 55 RX4 yX4_takeNumber wsX4_takeNumber) := goodIn_app (goodIn_of _ (by decide +kernel)) ggX4_readLeaseLine_X4_takeNumber
set_option maxRecDepth 20000 in
theorem ggX4_readLeaseLine_X4_take : GoodIn wsX4_readLeaseLine wsX4_take := goodIn_r _ [34, 19, 26, 27, 28, 11, 29, 30, 8, 9, 10, 12, 13, 14, 15, 16, 17, 18, 20, 21, 35, 36, 37, 38, 39, 40, 41, 56, 57, 58, 59, 60] (by decide +kernel) (by decide +kernel)
set_option maxRecDepth 20000 in
theorem gX4_readLeaseLine_X4_take : GoodIn wsX4_readLeaseLine (wsV RX4 51 RX4 yX4_take wsX4_take) := goodIn_app (goodIn_of _ (by decide +kernel)) ggX4_readLeaseLine_X4_take
theorem dX4_readLeaseLine_0 : decode cX4_readLeaseLine 0 = .ok (.aload_n 0, 1) := by decide +kernel
theorem dX4_readLeaseLine_1 : decode cX4_readLeaseLine 1 = .ok (.invokevirtual 34, 3) := by decide +kernel
theorem dX4_readLeaseLine_4 : decode cX4_readLeaseLine 4 = .ok (.aload_n 0, 1) := by decide +kernel
theorem dX4_readLeaseLine_5 : decode cX4_readLeaseLine 5 = .ok (.iconst 0, 1) := by decide +kernel
theorem dX4_readLeaseLine_6 : decode cX4_readLeaseLine 6 = .ok (.bipush 119, 2) := by decide +kernel
theorem dX4_readLeaseLine_8 : decode cX4_readLeaseLine 8 = .ok (.invokevirtual 55, 3) := by decide +kernel
theorem dX4_readLeaseLine_11 : decode cX4_readLeaseLine 11 = .ok (.ifCond .ne 5, 3) := by decide +kernel
theorem dX4_readLeaseLine_14 : decode cX4_readLeaseLine 14 = .ok (.iconst 0, 1) := by decide +kernel
theorem dX4_readLeaseLine_15 : decode cX4_readLeaseLine 15 = .ok (.ireturn, 1) := by decide +kernel
theorem dX4_readLeaseLine_16 : decode cX4_readLeaseLine 16 = .ok (.aload_n 1, 1) := by decide +kernel
theorem dX4_readLeaseLine_17 : decode cX4_readLeaseLine 17 = .ok (.aload_n 0, 1) := by decide +kernel
theorem dX4_readLeaseLine_18 : decode cX4_readLeaseLine 18 = .ok (.getfield 59, 3) := by decide +kernel
theorem dX4_readLeaseLine_21 : decode cX4_readLeaseLine 21 = .ok (.putfield 105, 3) := by decide +kernel
theorem dX4_readLeaseLine_24 : decode cX4_readLeaseLine 24 = .ok (.aload_n 0, 1) := by decide +kernel
theorem dX4_readLeaseLine_25 : decode cX4_readLeaseLine 25 = .ok (.iconst 1, 1) := by decide +kernel
theorem dX4_readLeaseLine_26 : decode cX4_readLeaseLine 26 = .ok (.bipush 120, 2) := by decide +kernel
theorem dX4_readLeaseLine_28 : decode cX4_readLeaseLine 28 = .ok (.invokevirtual 55, 3) := by decide +kernel
theorem dX4_readLeaseLine_31 : decode cX4_readLeaseLine 31 = .ok (.ifCond .ne 5, 3) := by decide +kernel
theorem dX4_readLeaseLine_34 : decode cX4_readLeaseLine 34 = .ok (.iconst 0, 1) := by decide +kernel
theorem dX4_readLeaseLine_35 : decode cX4_readLeaseLine 35 = .ok (.ireturn, 1) := by decide +kernel
theorem dX4_readLeaseLine_36 : decode cX4_readLeaseLine 36 = .ok (.aload_n 1, 1) := by decide +kernel
theorem dX4_readLeaseLine_37 : decode cX4_readLeaseLine 37 = .ok (.aload_n 0, 1) := by decide +kernel
theorem dX4_readLeaseLine_38 : decode cX4_readLeaseLine 38 = .ok (.getfield 59, 3) := by decide +kernel
theorem dX4_readLeaseLine_41 : decode cX4_readLeaseLine 41 = .ok (.putfield 110, 3) := by decide +kernel
theorem dX4_readLeaseLine_44 : decode cX4_readLeaseLine 44 = .ok (.aload_n 0, 1) := by decide +kernel
theorem dX4_readLeaseLine_45 : decode cX4_readLeaseLine 45 = .ok (.iconst 1, 1) := by decide +kernel
theorem dX4_readLeaseLine_46 : decode cX4_readLeaseLine 46 = .ok (.ldc 113, 2) := by decide +kernel
theorem dX4_readLeaseLine_48 : decode cX4_readLeaseLine 48 = .ok (.invokevirtual 55, 3) := by decide +kernel
theorem dX4_readLeaseLine_51 : decode cX4_readLeaseLine 51 = .ok (.ifCond .ne 5, 3) := by decide +kernel
theorem dX4_readLeaseLine_54 : decode cX4_readLeaseLine 54 = .ok (.iconst 0, 1) := by decide +kernel
theorem dX4_readLeaseLine_55 : decode cX4_readLeaseLine 55 = .ok (.ireturn, 1) := by decide +kernel
theorem dX4_readLeaseLine_56 : decode cX4_readLeaseLine 56 = .ok (.aload_n 1, 1) := by decide +kernel
theorem dX4_readLeaseLine_57 : decode cX4_readLeaseLine 57 = .ok (.aload_n 0, 1) := by decide +kernel
theorem dX4_readLeaseLine_58 : decode cX4_readLeaseLine 58 = .ok (.getfield 59, 3) := by decide +kernel
theorem dX4_readLeaseLine_61 : decode cX4_readLeaseLine 61 = .ok (.putfield 114, 3) := by decide +kernel
theorem dX4_readLeaseLine_64 : decode cX4_readLeaseLine 64 = .ok (.aload_n 0, 1) := by decide +kernel
theorem dX4_readLeaseLine_65 : decode cX4_readLeaseLine 65 = .ok (.iconst 1, 1) := by decide +kernel
theorem dX4_readLeaseLine_66 : decode cX4_readLeaseLine 66 = .ok (.bipush 60, 2) := by decide +kernel
theorem dX4_readLeaseLine_68 : decode cX4_readLeaseLine 68 = .ok (.invokevirtual 55, 3) := by decide +kernel
theorem dX4_readLeaseLine_71 : decode cX4_readLeaseLine 71 = .ok (.ifCond .ne 5, 3) := by decide +kernel
theorem dX4_readLeaseLine_74 : decode cX4_readLeaseLine 74 = .ok (.iconst 0, 1) := by decide +kernel
theorem dX4_readLeaseLine_75 : decode cX4_readLeaseLine 75 = .ok (.ireturn, 1) := by decide +kernel
theorem dX4_readLeaseLine_76 : decode cX4_readLeaseLine 76 = .ok (.aload_n 1, 1) := by decide +kernel
theorem dX4_readLeaseLine_77 : decode cX4_readLeaseLine 77 = .ok (.aload_n 0, 1) := by decide +kernel
theorem dX4_readLeaseLine_78 : decode cX4_readLeaseLine 78 = .ok (.getfield 59, 3) := by decide +kernel
theorem dX4_readLeaseLine_81 : decode cX4_readLeaseLine 81 = .ok (.putfield 117, 3) := by decide +kernel
theorem dX4_readLeaseLine_84 : decode cX4_readLeaseLine 84 = .ok (.aload_n 0, 1) := by decide +kernel
theorem dX4_readLeaseLine_85 : decode cX4_readLeaseLine 85 = .ok (.iconst 0, 1) := by decide +kernel
theorem dX4_readLeaseLine_86 : decode cX4_readLeaseLine 86 = .ok (.aload_n 1, 1) := by decide +kernel
theorem dX4_readLeaseLine_87 : decode cX4_readLeaseLine 87 = .ok (.getfield 110, 3) := by decide +kernel
theorem dX4_readLeaseLine_90 : decode cX4_readLeaseLine 90 = .ok (.invokevirtual 55, 3) := by decide +kernel
theorem dX4_readLeaseLine_93 : decode cX4_readLeaseLine 93 = .ok (.ifCond .ne 5, 3) := by decide +kernel
theorem dX4_readLeaseLine_96 : decode cX4_readLeaseLine 96 = .ok (.iconst 0, 1) := by decide +kernel
theorem dX4_readLeaseLine_97 : decode cX4_readLeaseLine 97 = .ok (.ireturn, 1) := by decide +kernel
theorem dX4_readLeaseLine_98 : decode cX4_readLeaseLine 98 = .ok (.aload_n 1, 1) := by decide +kernel
theorem dX4_readLeaseLine_99 : decode cX4_readLeaseLine 99 = .ok (.aload_n 0, 1) := by decide +kernel
theorem dX4_readLeaseLine_100 : decode cX4_readLeaseLine 100 = .ok (.getfield 59, 3) := by decide +kernel
theorem dX4_readLeaseLine_103 : decode cX4_readLeaseLine 103 = .ok (.putfield 120, 3) := by decide +kernel
theorem dX4_readLeaseLine_106 : decode cX4_readLeaseLine 106 = .ok (.aload_n 0, 1) := by decide +kernel
theorem dX4_readLeaseLine_107 : decode cX4_readLeaseLine 107 = .ok (.iconst 2, 1) := by decide +kernel
theorem dX4_readLeaseLine_108 : decode cX4_readLeaseLine 108 = .ok (.invokevirtual 51, 3) := by decide +kernel
theorem dX4_readLeaseLine_111 : decode cX4_readLeaseLine 111 = .ok (.ireturn, 1) := by decide +kernel
set_option maxRecDepth 20000 in
theorem ggX4_readParts_X4_isPart : GoodIn wsX4_readParts wsX4_isPart := goodIn_r _ [5, 6, 64, 65, 66, 67, 68, 69, 70] (by decide +kernel) (by decide +kernel)
set_option maxRecDepth 20000 in
theorem gX4_readParts_X4_isPart : GoodIn wsX4_readParts (wsV RX4 123 RX4 yX4_isPart wsX4_isPart) := goodIn_app (goodIn_of _ (by decide +kernel)) ggX4_readParts_X4_isPart
set_option maxRecDepth 20000 in
theorem ggX4_readParts_X4_isToldIn : GoodIn wsX4_readParts wsX4_isToldIn := goodIn_r _ [10, 6, 11, 12, 13, 14, 15, 16, 64, 65, 66, 67, 68, 69, 70, 71, 72, 73, 74, 75, 76, 77, 78, 79, 80, 81, 82, 83, 84, 85, 86, 87] (by decide +kernel) (by decide +kernel)
set_option maxRecDepth 20000 in
theorem gX4_readParts_X4_isToldIn : GoodIn wsX4_readParts (wsV RX4 126 RX4 yX4_isToldIn wsX4_isToldIn) := goodIn_app (goodIn_of _ (by decide +kernel)) ggX4_readParts_X4_isToldIn
set_option maxRecDepth 20000 in
theorem ggX4_readParts_X4_refuse : GoodIn wsX4_readParts wsX4_refuse := goodIn_r _ [20, 21, 64, 65, 66, 67, 68, 69, 70] (by decide +kernel) (by decide +kernel)
set_option maxRecDepth 20000 in
theorem gX4_readParts_X4_refuse : GoodIn wsX4_readParts (wsV RX4 68 RX4 yX4_refuse wsX4_refuse) := goodIn_app (goodIn_of _ (by decide +kernel)) ggX4_readParts_X4_refuse
set_option maxRecDepth 20000 in
theorem ggX4_readParts_X4_readPart : GoodIn wsX4_readParts wsX4_readPart := goodIn_r _ [25, 6, 12, 14, 15, 26, 27, 28, 4, 29, 30, 31, 32, 33, 34, 35, 36, 37, 38, 39, 40, 41, 11, 42, 43, 17, 18, 19, 20, 21, 44, 45, 46, 47, 48, 49, 50, 51, 52, 53, 13, 54, 55, 56, 57, 58, 59, 16, 64, 65, 66, 67, 68, 69, 70, 71, 72, 73, 74, 75, 76, 77, 78, 79, 80, 81, 82, 83, 84, 88, 89, 90, 91, 92, 85, 86, 87] (by decide +kernel) (by decide +kernel)
set_option maxRecDepth 20000 in
theorem gX4_readParts_X4_readPart : GoodIn wsX4_readParts (wsV RX4 129 RX4 yX4_readPart wsX4_readPart) := goodIn_app (goodIn_of _ (by decide +kernel)) ggX4_readParts_X4_readPart
set_option maxRecDepth 20000 in
theorem ggX4_readParts_X4_take : GoodIn wsX4_readParts wsX4_take := goodIn_r _ [63, 6, 17, 18, 19, 4, 20, 21, 26, 27, 28, 29, 30, 31, 32, 33, 34, 35, 36, 37, 64, 65, 66, 67, 68, 69, 70, 88, 89, 90, 91, 92] (by decide +kernel) (by decide +kernel)
set_option maxRecDepth 20000 in
theorem gX4_readParts_X4_take : GoodIn wsX4_readParts (wsV RX4 51 RX4 yX4_take wsX4_take) := goodIn_app (goodIn_of _ (by decide +kernel)) ggX4_readParts_X4_take
theorem dX4_readParts_0 : decode cX4_readParts 0 = .ok (.iconst 0, 1) := by decide +kernel
theorem dX4_readParts_1 : decode cX4_readParts 1 = .ok (.istore_n 2, 1) := by decide +kernel
theorem dX4_readParts_2 : decode cX4_readParts 2 = .ok (.iload_n 2, 1) := by decide +kernel
theorem dX4_readParts_3 : decode cX4_readParts 3 = .ok (.iconst 5, 1) := by decide +kernel
theorem dX4_readParts_4 : decode cX4_readParts 4 = .ok (.if_icmp .gt 48, 3) := by decide +kernel
theorem dX4_readParts_7 : decode cX4_readParts 7 = .ok (.aload_n 0, 1) := by decide +kernel
theorem dX4_readParts_8 : decode cX4_readParts 8 = .ok (.invokevirtual 123, 3) := by decide +kernel
theorem dX4_readParts_11 : decode cX4_readParts 11 = .ok (.ifCond .eq 41, 3) := by decide +kernel
theorem dX4_readParts_14 : decode cX4_readParts 14 = .ok (.aload_n 0, 1) := by decide +kernel
theorem dX4_readParts_15 : decode cX4_readParts 15 = .ok (.aload_n 1, 1) := by decide +kernel
theorem dX4_readParts_16 : decode cX4_readParts 16 = .ok (.invokevirtual 126, 3) := by decide +kernel
theorem dX4_readParts_19 : decode cX4_readParts 19 = .ok (.ifCond .eq 9, 3) := by decide +kernel
theorem dX4_readParts_22 : decode cX4_readParts 22 = .ok (.aload_n 0, 1) := by decide +kernel
theorem dX4_readParts_23 : decode cX4_readParts 23 = .ok (.iconst 4, 1) := by decide +kernel
theorem dX4_readParts_24 : decode cX4_readParts 24 = .ok (.invokevirtual 68, 3) := by decide +kernel
theorem dX4_readParts_27 : decode cX4_readParts 27 = .ok (.ireturn, 1) := by decide +kernel
theorem dX4_readParts_28 : decode cX4_readParts 28 = .ok (.aload_n 0, 1) := by decide +kernel
theorem dX4_readParts_29 : decode cX4_readParts 29 = .ok (.aload_n 1, 1) := by decide +kernel
theorem dX4_readParts_30 : decode cX4_readParts 30 = .ok (.invokevirtual 129, 3) := by decide +kernel
theorem dX4_readParts_33 : decode cX4_readParts 33 = .ok (.ifCond .eq 11, 3) := by decide +kernel
theorem dX4_readParts_36 : decode cX4_readParts 36 = .ok (.aload_n 0, 1) := by decide +kernel
theorem dX4_readParts_37 : decode cX4_readParts 37 = .ok (.iconst 2, 1) := by decide +kernel
theorem dX4_readParts_38 : decode cX4_readParts 38 = .ok (.invokevirtual 51, 3) := by decide +kernel
theorem dX4_readParts_41 : decode cX4_readParts 41 = .ok (.ifCond .ne 5, 3) := by decide +kernel
theorem dX4_readParts_44 : decode cX4_readParts 44 = .ok (.iconst 0, 1) := by decide +kernel
theorem dX4_readParts_45 : decode cX4_readParts 45 = .ok (.ireturn, 1) := by decide +kernel
theorem dX4_readParts_46 : decode cX4_readParts 46 = .ok (.iinc 2 1, 3) := by decide +kernel
theorem dX4_readParts_49 : decode cX4_readParts 49 = .ok (.goto (-47), 3) := by decide +kernel
theorem dX4_readParts_52 : decode cX4_readParts 52 = .ok (.iconst 1, 1) := by decide +kernel
theorem dX4_readParts_53 : decode cX4_readParts 53 = .ok (.ireturn, 1) := by decide +kernel
theorem dX4_isPart_0 : decode cX4_isPart 0 = .ok (.aload_n 0, 1) := by decide +kernel
theorem dX4_isPart_1 : decode cX4_isPart 1 = .ok (.getfield 65, 3) := by decide +kernel
theorem dX4_isPart_4 : decode cX4_isPart 4 = .ok (.bipush 8, 2) := by decide +kernel
theorem dX4_isPart_6 : decode cX4_isPart 6 = .ok (.if_icmp .eq 39, 3) := by decide +kernel
theorem dX4_isPart_9 : decode cX4_isPart 9 = .ok (.aload_n 0, 1) := by decide +kernel
theorem dX4_isPart_10 : decode cX4_isPart 10 = .ok (.getfield 65, 3) := by decide +kernel
theorem dX4_isPart_13 : decode cX4_isPart 13 = .ok (.bipush 12, 2) := by decide +kernel
theorem dX4_isPart_15 : decode cX4_isPart 15 = .ok (.if_icmp .eq 30, 3) := by decide +kernel
theorem dX4_isPart_18 : decode cX4_isPart 18 = .ok (.aload_n 0, 1) := by decide +kernel
theorem dX4_isPart_19 : decode cX4_isPart 19 = .ok (.getfield 65, 3) := by decide +kernel
theorem dX4_isPart_22 : decode cX4_isPart 22 = .ok (.bipush 13, 2) := by decide +kernel
theorem dX4_isPart_24 : decode cX4_isPart 24 = .ok (.if_icmp .eq 21, 3) := by decide +kernel
theorem dX4_isPart_27 : decode cX4_isPart 27 = .ok (.aload_n 0, 1) := by decide +kernel
theorem dX4_isPart_28 : decode cX4_isPart 28 = .ok (.getfield 65, 3) := by decide +kernel
theorem dX4_isPart_31 : decode cX4_isPart 31 = .ok (.bipush 14, 2) := by decide +kernel
theorem dX4_isPart_33 : decode cX4_isPart 33 = .ok (.if_icmp .eq 12, 3) := by decide +kernel
theorem dX4_isPart_36 : decode cX4_isPart 36 = .ok (.aload_n 0, 1) := by decide +kernel
theorem dX4_isPart_37 : decode cX4_isPart 37 = .ok (.getfield 65, 3) := by decide +kernel
theorem dX4_isPart_40 : decode cX4_isPart 40 = .ok (.bipush 15, 2) := by decide +kernel
theorem dX4_isPart_42 : decode cX4_isPart 42 = .ok (.if_icmp .ne 7, 3) := by decide +kernel
theorem dX4_isPart_45 : decode cX4_isPart 45 = .ok (.iconst 1, 1) := by decide +kernel
theorem dX4_isPart_46 : decode cX4_isPart 46 = .ok (.goto 4, 3) := by decide +kernel
theorem dX4_isPart_49 : decode cX4_isPart 49 = .ok (.iconst 0, 1) := by decide +kernel
theorem dX4_isPart_50 : decode cX4_isPart 50 = .ok (.ireturn, 1) := by decide +kernel
theorem dX4_isToldIn_0 : decode cX4_isToldIn 0 = .ok (.aload_n 0, 1) := by decide +kernel
theorem dX4_isToldIn_1 : decode cX4_isToldIn 1 = .ok (.getfield 65, 3) := by decide +kernel
theorem dX4_isToldIn_4 : decode cX4_isToldIn 4 = .ok (.tableswitch 78 8 14 #[44, 78, 78, 78, 57, 65, 73], 44) := by decide +kernel
theorem dX4_isToldIn_48 : decode cX4_isToldIn 48 = .ok (.aload_n 1, 1) := by decide +kernel
theorem dX4_isToldIn_49 : decode cX4_isToldIn 49 = .ok (.getfield 132, 3) := by decide +kernel
theorem dX4_isToldIn_52 : decode cX4_isToldIn 52 = .ok (.ifCond .eq 7, 3) := by decide +kernel
theorem dX4_isToldIn_55 : decode cX4_isToldIn 55 = .ok (.iconst 1, 1) := by decide +kernel
theorem dX4_isToldIn_56 : decode cX4_isToldIn 56 = .ok (.goto 4, 3) := by decide +kernel
theorem dX4_isToldIn_59 : decode cX4_isToldIn 59 = .ok (.iconst 0, 1) := by decide +kernel
theorem dX4_isToldIn_60 : decode cX4_isToldIn 60 = .ok (.ireturn, 1) := by decide +kernel
theorem dX4_isToldIn_61 : decode cX4_isToldIn 61 = .ok (.aload_n 1, 1) := by decide +kernel
theorem dX4_isToldIn_62 : decode cX4_isToldIn 62 = .ok (.getfield 135, 3) := by decide +kernel
theorem dX4_isToldIn_65 : decode cX4_isToldIn 65 = .ok (.getfield 139, 3) := by decide +kernel
theorem dX4_isToldIn_68 : decode cX4_isToldIn 68 = .ok (.ireturn, 1) := by decide +kernel
theorem dX4_isToldIn_69 : decode cX4_isToldIn 69 = .ok (.aload_n 1, 1) := by decide +kernel
theorem dX4_isToldIn_70 : decode cX4_isToldIn 70 = .ok (.getfield 145, 3) := by decide +kernel
theorem dX4_isToldIn_73 : decode cX4_isToldIn 73 = .ok (.getfield 139, 3) := by decide +kernel
theorem dX4_isToldIn_76 : decode cX4_isToldIn 76 = .ok (.ireturn, 1) := by decide +kernel
theorem dX4_isToldIn_77 : decode cX4_isToldIn 77 = .ok (.aload_n 1, 1) := by decide +kernel
theorem dX4_isToldIn_78 : decode cX4_isToldIn 78 = .ok (.getfield 148, 3) := by decide +kernel
theorem dX4_isToldIn_81 : decode cX4_isToldIn 81 = .ok (.ireturn, 1) := by decide +kernel
theorem dX4_isToldIn_82 : decode cX4_isToldIn 82 = .ok (.aload_n 1, 1) := by decide +kernel
theorem dX4_isToldIn_83 : decode cX4_isToldIn 83 = .ok (.getfield 151, 3) := by decide +kernel
theorem dX4_isToldIn_86 : decode cX4_isToldIn 86 = .ok (.iconst (-1), 1) := by decide +kernel
theorem dX4_isToldIn_87 : decode cX4_isToldIn 87 = .ok (.if_icmp .eq 7, 3) := by decide +kernel
theorem dX4_isToldIn_90 : decode cX4_isToldIn 90 = .ok (.iconst 1, 1) := by decide +kernel
theorem dX4_isToldIn_91 : decode cX4_isToldIn 91 = .ok (.goto 4, 3) := by decide +kernel
theorem dX4_isToldIn_94 : decode cX4_isToldIn 94 = .ok (.iconst 0, 1) := by decide +kernel
theorem dX4_isToldIn_95 : decode cX4_isToldIn 95 = .ok (.ireturn, 1) := by decide +kernel
set_option maxRecDepth 20000 in
theorem ggX4_readPart_X4_advance : GoodIn wsX4_readPart wsX4_advance := goodIn_r _ [9, 10, 11, 12, 13, 14, 15, 1, 16, 17, 48, 49, 50, 51, 52, 53, 54, 69, 70, 71, 72, 73] (by decide +kernel) (by decide +kernel)
set_option maxRecDepth 20000 in
theorem gX4_readPart_X4_advance : GoodIn wsX4_readPart (wsV RX4 34 RX4 yX4_advance wsX4_advance) := goodIn_app (goodIn_of _ (by decide +kernel)) ggX4_readPart_X4_advance
set_option maxRecDepth 20000 in
theorem ggX4_readPart_X4_readBy : GoodIn wsX4_readPart wsX4_readBy := goodIn_r _ [21, 1, 22, 23, 24, 25, 26, 27, 8, 28, 29, 5, 6, 7, 9, 10, 11, 12, 13, 14, 15, 16, 17, 30, 31, 32, 33, 48, 49, 50, 51, 52, 53, 54, 55, 56, 57, 58, 59, 60, 61, 62, 63, 64, 65, 66, 67, 68, 69, 70, 71, 72, 73] (by decide +kernel) (by decide +kernel)
set_option maxRecDepth 20000 in
theorem gX4_readPart_X4_readBy : GoodIn wsX4_readPart (wsV RX4 154 RX4 yX4_readBy wsX4_readBy) := goodIn_app (goodIn_of _ (by decide +kernel)) ggX4_readPart_X4_readBy
set_option maxRecDepth 20000 in
theorem ggX4_readPart_X4_readLimits : GoodIn wsX4_readPart wsX4_readLimits := goodIn_r _ [37, 23, 38, 39, 40, 30, 31, 32, 8, 33, 1, 17, 25, 26, 27, 28, 29, 5, 6, 7, 9, 10, 11, 12, 13, 14, 15, 16, 48, 49, 50, 51, 52, 53, 54, 74, 75, 76, 69, 70, 71, 72, 73] (by decide +kernel) (by decide +kernel)
set_option maxRecDepth 20000 in
theorem gX4_readPart_X4_readLimits : GoodIn wsX4_readPart (wsV RX4 157 RX4 yX4_readLimits wsX4_readLimits) := goodIn_app (goodIn_of _ (by decide +kernel)) ggX4_readPart_X4_readLimits
set_option maxRecDepth 20000 in
theorem ggX4_readPart_X4_readBreak : GoodIn wsX4_readPart wsX4_readBreak := goodIn_r _ [44, 45, 46, 23, 47, 30, 31, 32, 8, 33, 1, 17, 25, 26, 27, 28, 29, 5, 6, 7, 9, 10, 11, 12, 13, 14, 15, 16, 55, 56, 57, 58, 59, 60, 61, 62, 63, 64, 65, 66, 67, 68, 48, 49, 50, 51, 52, 53, 54, 69, 70, 71, 72, 73] (by decide +kernel) (by decide +kernel)
set_option maxRecDepth 20000 in
theorem gX4_readPart_X4_readBreak : GoodIn wsX4_readPart (wsV RX4 161 RX4 yX4_readBreak wsX4_readBreak) := goodIn_app (goodIn_of _ (by decide +kernel)) ggX4_readPart_X4_readBreak
theorem dX4_readPart_0 : decode cX4_readPart 0 = .ok (.aload_n 0, 1) := by decide +kernel
theorem dX4_readPart_1 : decode cX4_readPart 1 = .ok (.getfield 65, 3) := by decide +kernel
theorem dX4_readPart_4 : decode cX4_readPart 4 = .ok (.istore_n 2, 1) := by decide +kernel
theorem dX4_readPart_5 : decode cX4_readPart 5 = .ok (.aload_n 0, 1) := by decide +kernel
theorem dX4_readPart_6 : decode cX4_readPart 6 = .ok (.invokevirtual 34, 3) := by decide +kernel
theorem dX4_readPart_9 : decode cX4_readPart 9 = .ok (.iload_n 2, 1) := by decide +kernel
theorem dX4_readPart_10 : decode cX4_readPart 10 = .ok (.tableswitch 73 8 14 #[42, 73, 73, 73, 48, 57, 66], 42) := by decide +kernel
theorem dX4_readPart_52 : decode cX4_readPart 52 = .ok (.aload_n 0, 1) := by decide +kernel
theorem dX4_readPart_53 : decode cX4_readPart 53 = .ok (.aload_n 1, 1) := by decide +kernel
theorem dX4_readPart_54 : decode cX4_readPart 54 = .ok (.invokevirtual 154, 3) := by decide +kernel
theorem dX4_readPart_57 : decode cX4_readPart 57 = .ok (.ireturn, 1) := by decide +kernel
theorem dX4_readPart_58 : decode cX4_readPart 58 = .ok (.aload_n 0, 1) := by decide +kernel
theorem dX4_readPart_59 : decode cX4_readPart 59 = .ok (.aload_n 1, 1) := by decide +kernel
theorem dX4_readPart_60 : decode cX4_readPart 60 = .ok (.getfield 135, 3) := by decide +kernel
theorem dX4_readPart_63 : decode cX4_readPart 63 = .ok (.invokevirtual 157, 3) := by decide +kernel
theorem dX4_readPart_66 : decode cX4_readPart 66 = .ok (.ireturn, 1) := by decide +kernel
theorem dX4_readPart_67 : decode cX4_readPart 67 = .ok (.aload_n 0, 1) := by decide +kernel
theorem dX4_readPart_68 : decode cX4_readPart 68 = .ok (.aload_n 1, 1) := by decide +kernel
theorem dX4_readPart_69 : decode cX4_readPart 69 = .ok (.getfield 145, 3) := by decide +kernel
theorem dX4_readPart_72 : decode cX4_readPart 72 = .ok (.invokevirtual 157, 3) := by decide +kernel
theorem dX4_readPart_75 : decode cX4_readPart 75 = .ok (.ireturn, 1) := by decide +kernel
theorem dX4_readPart_76 : decode cX4_readPart 76 = .ok (.aload_n 1, 1) := by decide +kernel
theorem dX4_readPart_77 : decode cX4_readPart 77 = .ok (.iconst 1, 1) := by decide +kernel
theorem dX4_readPart_78 : decode cX4_readPart 78 = .ok (.putfield 148, 3) := by decide +kernel
theorem dX4_readPart_81 : decode cX4_readPart 81 = .ok (.iconst 1, 1) := by decide +kernel
theorem dX4_readPart_82 : decode cX4_readPart 82 = .ok (.ireturn, 1) := by decide +kernel
theorem dX4_readPart_83 : decode cX4_readPart 83 = .ok (.aload_n 0, 1) := by decide +kernel
theorem dX4_readPart_84 : decode cX4_readPart 84 = .ok (.aload_n 1, 1) := by decide +kernel
theorem dX4_readPart_85 : decode cX4_readPart 85 = .ok (.invokevirtual 161, 3) := by decide +kernel
theorem dX4_readPart_88 : decode cX4_readPart 88 = .ok (.ireturn, 1) := by decide +kernel
set_option maxRecDepth 20000 in
theorem ggX4_readBy_X4_refuse : GoodIn wsX4_readBy wsX4_refuse := goodIn_r _ [9, 10, 27, 28, 29, 30, 31, 32, 33] (by decide +kernel) (by decide +kernel)
set_option maxRecDepth 20000 in
theorem gX4_readBy_X4_refuse : GoodIn wsX4_readBy (wsV RX4 68 RX4 yX4_refuse wsX4_refuse) := goodIn_app (goodIn_of _ (by decide +kernel)) ggX4_readBy_X4_refuse
set_option maxRecDepth 20000 in
theorem ggX4_readBy_X4_advance : GoodIn wsX4_readBy wsX4_advance := goodIn_r _ [14, 15, 16, 17, 18, 19, 20, 1, 21, 22, 27, 28, 29, 30, 31, 32, 33, 48, 49, 50, 51, 52] (by decide +kernel) (by decide +kernel)
set_option maxRecDepth 20000 in
theorem gX4_readBy_X4_advance : GoodIn wsX4_readBy (wsV RX4 34 RX4 yX4_advance wsX4_advance) := goodIn_app (goodIn_of _ (by decide +kernel)) ggX4_readBy_X4_advance
set_option maxRecDepth 20000 in
theorem ggX4_readBy_X4_takeNumber : GoodIn wsX4_readBy wsX4_takeNumber := goodIn_r _ [26, 1, 22, 3, 5, 6, 7, 8, 9, 10, 11, 12, 13, 14, 15, 16, 17, 18, 19, 20, 21, 27, 28, 29, 30, 31, 32, 33, 48, 49, 50, 51, 52] (by decide +kernel) (by decide +kernel)
set_option maxRecDepth 20000 in
theorem gX4_readBy_X4_takeNumber : GoodIn wsX4_readBy (wsV RX4 55 RX4 yX4_takeNumber wsX4_takeNumber) := goodIn_app (goodIn_of _ (by decide +kernel)) ggX4_readBy_X4_takeNumber
theorem dX4_readBy_0 : decode cX4_readBy 0 = .ok (.aload_n 0, 1) := by decide +kernel
theorem dX4_readBy_1 : decode cX4_readBy 1 = .ok (.getfield 65, 3) := by decide +kernel
theorem dX4_readBy_4 : decode cX4_readBy 4 = .ok (.istore_n 2, 1) := by decide +kernel
theorem dX4_readBy_5 : decode cX4_readBy 5 = .ok (.iload_n 2, 1) := by decide +kernel
theorem dX4_readBy_6 : decode cX4_readBy 6 = .ok (.tableswitch 70 6 11 #[38, 70, 70, 46, 54, 62], 38) := by decide +kernel
theorem dX4_readBy_44 : decode cX4_readBy 44 = .ok (.aload_n 1, 1) := by decide +kernel
theorem dX4_readBy_45 : decode cX4_readBy 45 = .ok (.iconst 1, 1) := by decide +kernel
theorem dX4_readBy_46 : decode cX4_readBy 46 = .ok (.putfield 132, 3) := by decide +kernel
theorem dX4_readBy_49 : decode cX4_readBy 49 = .ok (.goto 33, 3) := by decide +kernel
theorem dX4_readBy_52 : decode cX4_readBy 52 = .ok (.aload_n 1, 1) := by decide +kernel
theorem dX4_readBy_53 : decode cX4_readBy 53 = .ok (.iconst 2, 1) := by decide +kernel
theorem dX4_readBy_54 : decode cX4_readBy 54 = .ok (.putfield 132, 3) := by decide +kernel
theorem dX4_readBy_57 : decode cX4_readBy 57 = .ok (.goto 25, 3) := by decide +kernel
theorem dX4_readBy_60 : decode cX4_readBy 60 = .ok (.aload_n 1, 1) := by decide +kernel
theorem dX4_readBy_61 : decode cX4_readBy 61 = .ok (.iconst 3, 1) := by decide +kernel
theorem dX4_readBy_62 : decode cX4_readBy 62 = .ok (.putfield 132, 3) := by decide +kernel
theorem dX4_readBy_65 : decode cX4_readBy 65 = .ok (.goto 17, 3) := by decide +kernel
theorem dX4_readBy_68 : decode cX4_readBy 68 = .ok (.aload_n 1, 1) := by decide +kernel
theorem dX4_readBy_69 : decode cX4_readBy 69 = .ok (.iconst 4, 1) := by decide +kernel
theorem dX4_readBy_70 : decode cX4_readBy 70 = .ok (.putfield 132, 3) := by decide +kernel
theorem dX4_readBy_73 : decode cX4_readBy 73 = .ok (.goto 9, 3) := by decide +kernel
theorem dX4_readBy_76 : decode cX4_readBy 76 = .ok (.aload_n 0, 1) := by decide +kernel
theorem dX4_readBy_77 : decode cX4_readBy 77 = .ok (.iconst 1, 1) := by decide +kernel
theorem dX4_readBy_78 : decode cX4_readBy 78 = .ok (.invokevirtual 68, 3) := by decide +kernel
theorem dX4_readBy_81 : decode cX4_readBy 81 = .ok (.ireturn, 1) := by decide +kernel
theorem dX4_readBy_82 : decode cX4_readBy 82 = .ok (.aload_n 0, 1) := by decide +kernel
theorem dX4_readBy_83 : decode cX4_readBy 83 = .ok (.invokevirtual 34, 3) := by decide +kernel
theorem dX4_readBy_86 : decode cX4_readBy 86 = .ok (.iload_n 2, 1) := by decide +kernel
theorem dX4_readBy_87 : decode cX4_readBy 87 = .ok (.bipush 9, 2) := by decide +kernel
theorem dX4_readBy_89 : decode cX4_readBy 89 = .ok (.if_icmp .ne 5, 3) := by decide +kernel
theorem dX4_readBy_92 : decode cX4_readBy 92 = .ok (.iconst 1, 1) := by decide +kernel
theorem dX4_readBy_93 : decode cX4_readBy 93 = .ok (.ireturn, 1) := by decide +kernel
theorem dX4_readBy_94 : decode cX4_readBy 94 = .ok (.aload_n 0, 1) := by decide +kernel
theorem dX4_readBy_95 : decode cX4_readBy 95 = .ok (.iconst 0, 1) := by decide +kernel
theorem dX4_readBy_96 : decode cX4_readBy 96 = .ok (.iload_n 2, 1) := by decide +kernel
theorem dX4_readBy_97 : decode cX4_readBy 97 = .ok (.bipush 6, 2) := by decide +kernel
theorem dX4_readBy_99 : decode cX4_readBy 99 = .ok (.if_icmp .ne 8, 3) := by decide +kernel
theorem dX4_readBy_102 : decode cX4_readBy 102 = .ok (.bipush 12, 2) := by decide +kernel
theorem dX4_readBy_104 : decode cX4_readBy 104 = .ok (.goto 6, 3) := by decide +kernel
theorem dX4_readBy_107 : decode cX4_readBy 107 = .ok (.sipush 999, 3) := by decide +kernel
theorem dX4_readBy_110 : decode cX4_readBy 110 = .ok (.invokevirtual 55, 3) := by decide +kernel
theorem dX4_readBy_113 : decode cX4_readBy 113 = .ok (.ifCond .ne 5, 3) := by decide +kernel
theorem dX4_readBy_116 : decode cX4_readBy 116 = .ok (.iconst 0, 1) := by decide +kernel
theorem dX4_readBy_117 : decode cX4_readBy 117 = .ok (.ireturn, 1) := by decide +kernel
theorem dX4_readBy_118 : decode cX4_readBy 118 = .ok (.aload_n 1, 1) := by decide +kernel
theorem dX4_readBy_119 : decode cX4_readBy 119 = .ok (.aload_n 0, 1) := by decide +kernel
theorem dX4_readBy_120 : decode cX4_readBy 120 = .ok (.getfield 59, 3) := by decide +kernel
theorem dX4_readBy_123 : decode cX4_readBy 123 = .ok (.putfield 164, 3) := by decide +kernel
theorem dX4_readBy_126 : decode cX4_readBy 126 = .ok (.iconst 1, 1) := by decide +kernel
theorem dX4_readBy_127 : decode cX4_readBy 127 = .ok (.ireturn, 1) := by decide +kernel
set_option maxRecDepth 20000 in
theorem ggX4_readLimits_X4_takeNumber : GoodIn wsX4_readLimits wsX4_takeNumber := goodIn_r _ [9, 10, 11, 1, 12, 13, 14, 8, 15, 16, 17, 18, 19, 20, 21, 22, 23, 24, 25, 26, 27, 28, 29, 30, 31, 32, 33, 34, 38, 39, 40, 41, 42] (by decide +kernel) (by decide +kernel)
set_option maxRecDepth 20000 in
theorem gX4_readLimits_X4_takeNumber : GoodIn wsX4_readLimits (wsV RX4 55 RX4 yX4_takeNumber wsX4_takeNumber) := goodIn_app (goodIn_of _ (by decide +kernel)) ggX4_readLimits_X4_takeNumber
theorem dX4_readLimits_0 : decode cX4_readLimits 0 = .ok (.aload_n 0, 1) := by decide +kernel
theorem dX4_readLimits_1 : decode cX4_readLimits 1 = .ok (.iconst 0, 1) := by decide +kernel
theorem dX4_readLimits_2 : decode cX4_readLimits 2 = .ok (.sipush 999, 3) := by decide +kernel
theorem dX4_readLimits_5 : decode cX4_readLimits 5 = .ok (.invokevirtual 55, 3) := by decide +kernel
theorem dX4_readLimits_8 : decode cX4_readLimits 8 = .ok (.ifCond .ne 5, 3) := by decide +kernel
theorem dX4_readLimits_11 : decode cX4_readLimits 11 = .ok (.iconst 0, 1) := by decide +kernel
theorem dX4_readLimits_12 : decode cX4_readLimits 12 = .ok (.ireturn, 1) := by decide +kernel
theorem dX4_readLimits_13 : decode cX4_readLimits 13 = .ok (.aload_n 1, 1) := by decide +kernel
theorem dX4_readLimits_14 : decode cX4_readLimits 14 = .ok (.aload_n 0, 1) := by decide +kernel
theorem dX4_readLimits_15 : decode cX4_readLimits 15 = .ok (.getfield 59, 3) := by decide +kernel
theorem dX4_readLimits_18 : decode cX4_readLimits 18 = .ok (.putfield 167, 3) := by decide +kernel
theorem dX4_readLimits_21 : decode cX4_readLimits 21 = .ok (.aload_n 0, 1) := by decide +kernel
theorem dX4_readLimits_22 : decode cX4_readLimits 22 = .ok (.iconst 0, 1) := by decide +kernel
theorem dX4_readLimits_23 : decode cX4_readLimits 23 = .ok (.sipush 999, 3) := by decide +kernel
theorem dX4_readLimits_26 : decode cX4_readLimits 26 = .ok (.invokevirtual 55, 3) := by decide +kernel
theorem dX4_readLimits_29 : decode cX4_readLimits 29 = .ok (.ifCond .ne 5, 3) := by decide +kernel
theorem dX4_readLimits_32 : decode cX4_readLimits 32 = .ok (.iconst 0, 1) := by decide +kernel
theorem dX4_readLimits_33 : decode cX4_readLimits 33 = .ok (.ireturn, 1) := by decide +kernel
theorem dX4_readLimits_34 : decode cX4_readLimits 34 = .ok (.aload_n 1, 1) := by decide +kernel
theorem dX4_readLimits_35 : decode cX4_readLimits 35 = .ok (.aload_n 0, 1) := by decide +kernel
theorem dX4_readLimits_36 : decode cX4_readLimits 36 = .ok (.getfield 59, 3) := by decide +kernel
theorem dX4_readLimits_39 : decode cX4_readLimits 39 = .ok (.putfield 170, 3) := by decide +kernel
theorem dX4_readLimits_42 : decode cX4_readLimits 42 = .ok (.aload_n 1, 1) := by decide +kernel
theorem dX4_readLimits_43 : decode cX4_readLimits 43 = .ok (.iconst 1, 1) := by decide +kernel
theorem dX4_readLimits_44 : decode cX4_readLimits 44 = .ok (.putfield 139, 3) := by decide +kernel
theorem dX4_readLimits_47 : decode cX4_readLimits 47 = .ok (.iconst 1, 1) := by decide +kernel
theorem dX4_readLimits_48 : decode cX4_readLimits 48 = .ok (.ireturn, 1) := by decide +kernel
set_option maxRecDepth 20000 in
theorem ggX4_readBreak_X4_takeNumber : GoodIn wsX4_readBreak wsX4_takeNumber := goodIn_r _ [9, 10, 11, 3, 12, 13, 14, 8, 15, 16, 17, 18, 19, 20, 21, 22, 23, 24, 25, 26, 27, 42, 43, 44, 45, 46, 47, 48, 49, 50, 51, 52, 53] (by decide +kernel) (by decide +kernel)
set_option maxRecDepth 20000 in
theorem gX4_readBreak_X4_takeNumber : GoodIn wsX4_readBreak (wsV RX4 55 RX4 yX4_takeNumber wsX4_takeNumber) := goodIn_app (goodIn_of _ (by decide +kernel)) ggX4_readBreak_X4_takeNumber
theorem dX4_readBreak_0 : decode cX4_readBreak 0 = .ok (.aload_n 0, 1) := by decide +kernel
theorem dX4_readBreak_1 : decode cX4_readBreak 1 = .ok (.aload_n 1, 1) := by decide +kernel
theorem dX4_readBreak_2 : decode cX4_readBreak 2 = .ok (.getfield 105, 3) := by decide +kernel
theorem dX4_readBreak_5 : decode cX4_readBreak 5 = .ok (.iconst 1, 1) := by decide +kernel
theorem dX4_readBreak_6 : decode cX4_readBreak 6 = .ok (.iadd, 1) := by decide +kernel
theorem dX4_readBreak_7 : decode cX4_readBreak 7 = .ok (.aload_n 1, 1) := by decide +kernel
theorem dX4_readBreak_8 : decode cX4_readBreak 8 = .ok (.getfield 105, 3) := by decide +kernel
theorem dX4_readBreak_11 : decode cX4_readBreak 11 = .ok (.aload_n 1, 1) := by decide +kernel
theorem dX4_readBreak_12 : decode cX4_readBreak 12 = .ok (.getfield 110, 3) := by decide +kernel
theorem dX4_readBreak_15 : decode cX4_readBreak 15 = .ok (.iadd, 1) := by decide +kernel
theorem dX4_readBreak_16 : decode cX4_readBreak 16 = .ok (.iconst 1, 1) := by decide +kernel
theorem dX4_readBreak_17 : decode cX4_readBreak 17 = .ok (.isub, 1) := by decide +kernel
theorem dX4_readBreak_18 : decode cX4_readBreak 18 = .ok (.invokevirtual 55, 3) := by decide +kernel
theorem dX4_readBreak_21 : decode cX4_readBreak 21 = .ok (.ifCond .ne 5, 3) := by decide +kernel
theorem dX4_readBreak_24 : decode cX4_readBreak 24 = .ok (.iconst 0, 1) := by decide +kernel
theorem dX4_readBreak_25 : decode cX4_readBreak 25 = .ok (.ireturn, 1) := by decide +kernel
theorem dX4_readBreak_26 : decode cX4_readBreak 26 = .ok (.aload_n 1, 1) := by decide +kernel
theorem dX4_readBreak_27 : decode cX4_readBreak 27 = .ok (.aload_n 0, 1) := by decide +kernel
theorem dX4_readBreak_28 : decode cX4_readBreak 28 = .ok (.getfield 59, 3) := by decide +kernel
theorem dX4_readBreak_31 : decode cX4_readBreak 31 = .ok (.putfield 151, 3) := by decide +kernel
theorem dX4_readBreak_34 : decode cX4_readBreak 34 = .ok (.iconst 1, 1) := by decide +kernel
theorem dX4_readBreak_35 : decode cX4_readBreak 35 = .ok (.ireturn, 1) := by decide +kernel
set_option maxRecDepth 20000 in
theorem ggX4_isAtEnd_X4_refuse : GoodIn wsX4_isAtEnd wsX4_refuse := goodIn_r _ [6, 7, 8, 9, 10, 11, 12, 13, 14] (by decide +kernel) (by decide +kernel)
set_option maxRecDepth 20000 in
theorem gX4_isAtEnd_X4_refuse : GoodIn wsX4_isAtEnd (wsV RX4 68 RX4 yX4_refuse wsX4_refuse) := goodIn_app (goodIn_of _ (by decide +kernel)) ggX4_isAtEnd_X4_refuse
theorem dX4_isAtEnd_0 : decode cX4_isAtEnd 0 = .ok (.aload_n 0, 1) := by decide +kernel
theorem dX4_isAtEnd_1 : decode cX4_isAtEnd 1 = .ok (.getfield 65, 3) := by decide +kernel
theorem dX4_isAtEnd_4 : decode cX4_isAtEnd 4 = .ok (.ifCond .eq 11, 3) := by decide +kernel
theorem dX4_isAtEnd_7 : decode cX4_isAtEnd 7 = .ok (.aload_n 0, 1) := by decide +kernel
theorem dX4_isAtEnd_8 : decode cX4_isAtEnd 8 = .ok (.iconst 1, 1) := by decide +kernel
theorem dX4_isAtEnd_9 : decode cX4_isAtEnd 9 = .ok (.invokevirtual 68, 3) := by decide +kernel
theorem dX4_isAtEnd_12 : decode cX4_isAtEnd 12 = .ok (.ifCond .eq 7, 3) := by decide +kernel
theorem dX4_isAtEnd_15 : decode cX4_isAtEnd 15 = .ok (.iconst 1, 1) := by decide +kernel
theorem dX4_isAtEnd_16 : decode cX4_isAtEnd 16 = .ok (.goto 4, 3) := by decide +kernel
theorem dX4_isAtEnd_19 : decode cX4_isAtEnd 19 = .ok (.iconst 0, 1) := by decide +kernel
theorem dX4_isAtEnd_20 : decode cX4_isAtEnd 20 = .ok (.ireturn, 1) := by decide +kernel
set_option maxRecDepth 20000 in
theorem ggX4_take_X4_refuse : GoodIn wsX4_take wsX4_refuse := goodIn_r _ [6, 7, 20, 21, 22, 23, 24, 25, 26] (by decide +kernel) (by decide +kernel)
set_option maxRecDepth 20000 in
theorem gX4_take_X4_refuse : GoodIn wsX4_take (wsV RX4 68 RX4 yX4_refuse wsX4_refuse) := goodIn_app (goodIn_of _ (by decide +kernel)) ggX4_take_X4_refuse
set_option maxRecDepth 20000 in
theorem ggX4_take_X4_advance : GoodIn wsX4_take wsX4_advance := goodIn_r _ [11, 12, 13, 14, 15, 16, 17, 1, 18, 19, 20, 21, 22, 23, 24, 25, 26, 27, 28, 29, 30, 31] (by decide +kernel) (by decide +kernel)
set_option maxRecDepth 20000 in
theorem gX4_take_X4_advance : GoodIn wsX4_take (wsV RX4 34 RX4 yX4_advance wsX4_advance) := goodIn_app (goodIn_of _ (by decide +kernel)) ggX4_take_X4_advance
theorem dX4_take_0 : decode cX4_take 0 = .ok (.aload_n 0, 1) := by decide +kernel
theorem dX4_take_1 : decode cX4_take 1 = .ok (.getfield 65, 3) := by decide +kernel
theorem dX4_take_4 : decode cX4_take 4 = .ok (.iload_n 1, 1) := by decide +kernel
theorem dX4_take_5 : decode cX4_take 5 = .ok (.if_icmp .eq 9, 3) := by decide +kernel
theorem dX4_take_8 : decode cX4_take 8 = .ok (.aload_n 0, 1) := by decide +kernel
theorem dX4_take_9 : decode cX4_take 9 = .ok (.iconst 1, 1) := by decide +kernel
theorem dX4_take_10 : decode cX4_take 10 = .ok (.invokevirtual 68, 3) := by decide +kernel
theorem dX4_take_13 : decode cX4_take 13 = .ok (.ireturn, 1) := by decide +kernel
theorem dX4_take_14 : decode cX4_take 14 = .ok (.aload_n 0, 1) := by decide +kernel
theorem dX4_take_15 : decode cX4_take 15 = .ok (.invokevirtual 34, 3) := by decide +kernel
theorem dX4_take_18 : decode cX4_take 18 = .ok (.iconst 1, 1) := by decide +kernel
theorem dX4_take_19 : decode cX4_take 19 = .ok (.ireturn, 1) := by decide +kernel
set_option maxRecDepth 20000 in
theorem ggX4_takeNumber_X4_refuse : GoodIn wsX4_takeNumber wsX4_refuse := goodIn_r _ [8, 9, 21, 22, 23, 24, 25, 26, 27] (by decide +kernel) (by decide +kernel)
set_option maxRecDepth 20000 in
theorem gX4_takeNumber_X4_refuse : GoodIn wsX4_takeNumber (wsV RX4 68 RX4 yX4_refuse wsX4_refuse) := goodIn_app (goodIn_of _ (by decide +kernel)) ggX4_takeNumber_X4_refuse
set_option maxRecDepth 20000 in
theorem ggX4_takeNumber_X4_advance : GoodIn wsX4_takeNumber wsX4_advance := goodIn_r _ [13, 14, 15, 16, 17, 18, 19, 1, 20, 2, 21, 22, 23, 24, 25, 26, 27, 28, 29, 30, 31, 32] (by decide +kernel) (by decide +kernel)
set_option maxRecDepth 20000 in
theorem gX4_takeNumber_X4_advance : GoodIn wsX4_takeNumber (wsV RX4 34 RX4 yX4_advance wsX4_advance) := goodIn_app (goodIn_of _ (by decide +kernel)) ggX4_takeNumber_X4_advance
theorem dX4_takeNumber_0 : decode cX4_takeNumber 0 = .ok (.aload_n 0, 1) := by decide +kernel
theorem dX4_takeNumber_1 : decode cX4_takeNumber 1 = .ok (.getfield 65, 3) := by decide +kernel
theorem dX4_takeNumber_4 : decode cX4_takeNumber 4 = .ok (.iconst 3, 1) := by decide +kernel
theorem dX4_takeNumber_5 : decode cX4_takeNumber 5 = .ok (.if_icmp .eq 9, 3) := by decide +kernel
theorem dX4_takeNumber_8 : decode cX4_takeNumber 8 = .ok (.aload_n 0, 1) := by decide +kernel
theorem dX4_takeNumber_9 : decode cX4_takeNumber 9 = .ok (.iconst 1, 1) := by decide +kernel
theorem dX4_takeNumber_10 : decode cX4_takeNumber 10 = .ok (.invokevirtual 68, 3) := by decide +kernel
theorem dX4_takeNumber_13 : decode cX4_takeNumber 13 = .ok (.ireturn, 1) := by decide +kernel
theorem dX4_takeNumber_14 : decode cX4_takeNumber 14 = .ok (.aload_n 0, 1) := by decide +kernel
theorem dX4_takeNumber_15 : decode cX4_takeNumber 15 = .ok (.getfield 78, 3) := by decide +kernel
theorem dX4_takeNumber_18 : decode cX4_takeNumber 18 = .ok (.iload_n 1, 1) := by decide +kernel
theorem dX4_takeNumber_19 : decode cX4_takeNumber 19 = .ok (.if_icmp .lt 11, 3) := by decide +kernel
theorem dX4_takeNumber_22 : decode cX4_takeNumber 22 = .ok (.aload_n 0, 1) := by decide +kernel
theorem dX4_takeNumber_23 : decode cX4_takeNumber 23 = .ok (.getfield 78, 3) := by decide +kernel
theorem dX4_takeNumber_26 : decode cX4_takeNumber 26 = .ok (.iload_n 2, 1) := by decide +kernel
theorem dX4_takeNumber_27 : decode cX4_takeNumber 27 = .ok (.if_icmp .le 9, 3) := by decide +kernel
theorem dX4_takeNumber_30 : decode cX4_takeNumber 30 = .ok (.aload_n 0, 1) := by decide +kernel
theorem dX4_takeNumber_31 : decode cX4_takeNumber 31 = .ok (.iconst 2, 1) := by decide +kernel
theorem dX4_takeNumber_32 : decode cX4_takeNumber 32 = .ok (.invokevirtual 68, 3) := by decide +kernel
theorem dX4_takeNumber_35 : decode cX4_takeNumber 35 = .ok (.ireturn, 1) := by decide +kernel
theorem dX4_takeNumber_36 : decode cX4_takeNumber 36 = .ok (.aload_n 0, 1) := by decide +kernel
theorem dX4_takeNumber_37 : decode cX4_takeNumber 37 = .ok (.aload_n 0, 1) := by decide +kernel
theorem dX4_takeNumber_38 : decode cX4_takeNumber 38 = .ok (.getfield 78, 3) := by decide +kernel
theorem dX4_takeNumber_41 : decode cX4_takeNumber 41 = .ok (.putfield 59, 3) := by decide +kernel
theorem dX4_takeNumber_44 : decode cX4_takeNumber 44 = .ok (.aload_n 0, 1) := by decide +kernel
theorem dX4_takeNumber_45 : decode cX4_takeNumber 45 = .ok (.invokevirtual 34, 3) := by decide +kernel
theorem dX4_takeNumber_48 : decode cX4_takeNumber 48 = .ok (.iconst 1, 1) := by decide +kernel
theorem dX4_takeNumber_49 : decode cX4_takeNumber 49 = .ok (.ireturn, 1) := by decide +kernel
theorem dX4_advance_0 : decode cX4_advance 0 = .ok (.aload_n 0, 1) := by decide +kernel
theorem dX4_advance_1 : decode cX4_advance 1 = .ok (.getfield 31, 3) := by decide +kernel
theorem dX4_advance_4 : decode cX4_advance 4 = .ok (.ifCond .lt 120, 3) := by decide +kernel
theorem dX4_advance_7 : decode cX4_advance 7 = .ok (.aload_n 0, 1) := by decide +kernel
theorem dX4_advance_8 : decode cX4_advance 8 = .ok (.getfield 31, 3) := by decide +kernel
theorem dX4_advance_11 : decode cX4_advance 11 = .ok (.aload_n 0, 1) := by decide +kernel
theorem dX4_advance_12 : decode cX4_advance 12 = .ok (.getfield 12, 3) := by decide +kernel
theorem dX4_advance_15 : decode cX4_advance 15 = .ok (.getfield 173, 3) := by decide +kernel
theorem dX4_advance_18 : decode cX4_advance 18 = .ok (.if_icmp .ge 106, 3) := by decide +kernel
theorem dX4_advance_21 : decode cX4_advance 21 = .ok (.aload_n 0, 1) := by decide +kernel
theorem dX4_advance_22 : decode cX4_advance 22 = .ok (.getfield 31, 3) := by decide +kernel
theorem dX4_advance_25 : decode cX4_advance 25 = .ok (.aload_n 0, 1) := by decide +kernel
theorem dX4_advance_26 : decode cX4_advance 26 = .ok (.getfield 12, 3) := by decide +kernel
theorem dX4_advance_29 : decode cX4_advance 29 = .ok (.getfield 176, 3) := by decide +kernel
theorem dX4_advance_32 : decode cX4_advance 32 = .ok (.arraylength, 1) := by decide +kernel
theorem dX4_advance_33 : decode cX4_advance 33 = .ok (.if_icmp .ge 91, 3) := by decide +kernel
theorem dX4_advance_36 : decode cX4_advance 36 = .ok (.aload_n 0, 1) := by decide +kernel
theorem dX4_advance_37 : decode cX4_advance 37 = .ok (.getfield 31, 3) := by decide +kernel
theorem dX4_advance_40 : decode cX4_advance 40 = .ok (.aload_n 0, 1) := by decide +kernel
theorem dX4_advance_41 : decode cX4_advance 41 = .ok (.getfield 12, 3) := by decide +kernel
theorem dX4_advance_44 : decode cX4_advance 44 = .ok (.getfield 180, 3) := by decide +kernel
theorem dX4_advance_47 : decode cX4_advance 47 = .ok (.arraylength, 1) := by decide +kernel
theorem dX4_advance_48 : decode cX4_advance 48 = .ok (.if_icmp .ge 76, 3) := by decide +kernel
theorem dX4_advance_51 : decode cX4_advance 51 = .ok (.aload_n 0, 1) := by decide +kernel
theorem dX4_advance_52 : decode cX4_advance 52 = .ok (.getfield 31, 3) := by decide +kernel
theorem dX4_advance_55 : decode cX4_advance 55 = .ok (.aload_n 0, 1) := by decide +kernel
theorem dX4_advance_56 : decode cX4_advance 56 = .ok (.getfield 12, 3) := by decide +kernel
theorem dX4_advance_59 : decode cX4_advance 59 = .ok (.getfield 183, 3) := by decide +kernel
theorem dX4_advance_62 : decode cX4_advance 62 = .ok (.arraylength, 1) := by decide +kernel
theorem dX4_advance_63 : decode cX4_advance 63 = .ok (.if_icmp .ge 61, 3) := by decide +kernel
theorem dX4_advance_66 : decode cX4_advance 66 = .ok (.aload_n 0, 1) := by decide +kernel
theorem dX4_advance_67 : decode cX4_advance 67 = .ok (.aload_n 0, 1) := by decide +kernel
theorem dX4_advance_68 : decode cX4_advance 68 = .ok (.getfield 12, 3) := by decide +kernel
theorem dX4_advance_71 : decode cX4_advance 71 = .ok (.getfield 176, 3) := by decide +kernel
theorem dX4_advance_74 : decode cX4_advance 74 = .ok (.aload_n 0, 1) := by decide +kernel
theorem dX4_advance_75 : decode cX4_advance 75 = .ok (.getfield 31, 3) := by decide +kernel
theorem dX4_advance_78 : decode cX4_advance 78 = .ok (.iaload, 1) := by decide +kernel
theorem dX4_advance_79 : decode cX4_advance 79 = .ok (.putfield 65, 3) := by decide +kernel
theorem dX4_advance_82 : decode cX4_advance 82 = .ok (.aload_n 0, 1) := by decide +kernel
theorem dX4_advance_83 : decode cX4_advance 83 = .ok (.aload_n 0, 1) := by decide +kernel
theorem dX4_advance_84 : decode cX4_advance 84 = .ok (.getfield 12, 3) := by decide +kernel
theorem dX4_advance_87 : decode cX4_advance 87 = .ok (.getfield 180, 3) := by decide +kernel
theorem dX4_advance_90 : decode cX4_advance 90 = .ok (.aload_n 0, 1) := by decide +kernel
theorem dX4_advance_91 : decode cX4_advance 91 = .ok (.getfield 31, 3) := by decide +kernel
theorem dX4_advance_94 : decode cX4_advance 94 = .ok (.iaload, 1) := by decide +kernel
theorem dX4_advance_95 : decode cX4_advance 95 = .ok (.putfield 186, 3) := by decide +kernel
theorem dX4_advance_98 : decode cX4_advance 98 = .ok (.aload_n 0, 1) := by decide +kernel
theorem dX4_advance_99 : decode cX4_advance 99 = .ok (.aload_n 0, 1) := by decide +kernel
theorem dX4_advance_100 : decode cX4_advance 100 = .ok (.getfield 12, 3) := by decide +kernel
theorem dX4_advance_103 : decode cX4_advance 103 = .ok (.getfield 183, 3) := by decide +kernel
theorem dX4_advance_106 : decode cX4_advance 106 = .ok (.aload_n 0, 1) := by decide +kernel
theorem dX4_advance_107 : decode cX4_advance 107 = .ok (.getfield 31, 3) := by decide +kernel
theorem dX4_advance_110 : decode cX4_advance 110 = .ok (.iaload, 1) := by decide +kernel
theorem dX4_advance_111 : decode cX4_advance 111 = .ok (.putfield 78, 3) := by decide +kernel
theorem dX4_advance_114 : decode cX4_advance 114 = .ok (.aload_n 0, 1) := by decide +kernel
theorem dX4_advance_115 : decode cX4_advance 115 = .ok (.dup, 1) := by decide +kernel
theorem dX4_advance_116 : decode cX4_advance 116 = .ok (.getfield 31, 3) := by decide +kernel
theorem dX4_advance_119 : decode cX4_advance 119 = .ok (.iconst 1, 1) := by decide +kernel
theorem dX4_advance_120 : decode cX4_advance 120 = .ok (.iadd, 1) := by decide +kernel
theorem dX4_advance_121 : decode cX4_advance 121 = .ok (.putfield 31, 3) := by decide +kernel
theorem dX4_advance_124 : decode cX4_advance 124 = .ok (.return_, 1) := by decide +kernel
theorem dX4_refuse_0 : decode cX4_refuse 0 = .ok (.aload_n 0, 1) := by decide +kernel
theorem dX4_refuse_1 : decode cX4_refuse 1 = .ok (.iload_n 1, 1) := by decide +kernel
theorem dX4_refuse_2 : decode cX4_refuse 2 = .ok (.putfield 27, 3) := by decide +kernel
theorem dX4_refuse_5 : decode cX4_refuse 5 = .ok (.iconst 0, 1) := by decide +kernel
theorem dX4_refuse_6 : decode cX4_refuse 6 = .ok (.ireturn, 1) := by decide +kernel
theorem dX5_init_0 : decode cX5_init 0 = .ok (.aload_n 0, 1) := by decide +kernel
theorem dX5_init_1 : decode cX5_init 1 = .ok (.invokespecial 1, 3) := by decide +kernel
theorem dX5_init_4 : decode cX5_init 4 = .ok (.return_, 1) := by decide +kernel
set_option maxRecDepth 20000 in
theorem ggX5_goTo_X2_endKnownIn : GoodIn wsX5_goTo wsX2_endKnownIn := goodIn_r _ [9, 10, 11, 12, 13, 132, 133, 134, 135, 136, 137, 138, 139, 140, 141, 142, 143, 144, 145] (by decide +kernel) (by decide +kernel)
set_option maxRecDepth 20000 in
theorem gX5_goTo_X2_endKnownIn : GoodIn wsX5_goTo (wsV RX5 21 RX2 yX2_endKnownIn wsX2_endKnownIn) := goodIn_app (goodIn_of _ (by decide +kernel)) ggX5_goTo_X2_endKnownIn
set_option maxRecDepth 20000 in
theorem ggX5_goTo_X1_hasNews : GoodIn wsX5_goTo wsX1_hasNews := goodIn_r _ [18, 19, 146, 147, 148, 149, 150] (by decide +kernel) (by decide +kernel)
set_option maxRecDepth 20000 in
theorem gX5_goTo_X1_hasNews : GoodIn wsX5_goTo (wsV RX5 25 RX1 yX1_hasNews wsX1_hasNews) := goodIn_app (goodIn_of _ (by decide +kernel)) ggX5_goTo_X1_hasNews
set_option maxRecDepth 20000 in
theorem ggX5_goTo_X9_begin : GoodIn wsX5_goTo wsX9_begin := goodIn_r _ [24, 25, 26, 27, 28, 29, 30, 31, 32, 33, 34, 35, 23, 36, 37, 38, 39, 40, 41, 42, 43, 44, 45, 46, 47, 48, 49, 50, 51, 52, 53, 54, 55, 151, 152, 153, 154, 155, 156, 157, 132, 133, 134, 135, 136, 137, 138, 139, 140, 141, 142, 143, 144, 145, 158, 159, 160] (by decide +kernel) (by decide +kernel)
set_option maxRecDepth 20000 in
theorem gX5_goTo_X9_begin : GoodIn wsX5_goTo (wsV RX5 35 RX9 yX9_begin wsX9_begin) := goodIn_app (goodIn_of _ (by decide +kernel)) ggX5_goTo_X9_begin
set_option maxRecDepth 20000 in
theorem ggX5_goTo_X9_dueBelow : GoodIn wsX5_goTo wsX9_dueBelow := goodIn_r _ [59, 60, 28, 61, 62, 63, 23, 64, 26, 29, 30, 65, 66, 31, 67, 68, 69, 70, 71, 72, 73, 74, 75, 8, 76, 77, 78, 13, 79, 80, 81, 82, 12, 83, 84, 85, 86, 32, 25, 87, 88, 89, 90, 91, 27, 92, 93, 94, 95, 37, 96, 97, 98, 99, 100, 101, 102, 103, 104, 105, 106, 107, 108, 109, 110, 111, 112, 113, 114, 115, 116, 117, 118, 119, 120, 121, 122, 123, 124, 125, 126, 127, 128, 129, 132, 133, 134, 135, 136, 137, 138, 139, 140, 141, 142, 143, 144, 145, 151, 152, 153, 154, 155, 156, 157, 161, 162, 163] (by decide +kernel) (by decide +kernel)
set_option maxRecDepth 20000 in
theorem gX5_goTo_X9_dueBelow : GoodIn wsX5_goTo (wsV RX5 41 RX9 yX9_dueBelow wsX9_dueBelow) := goodIn_app (goodIn_of _ (by decide +kernel)) ggX5_goTo_X9_dueBelow
theorem dX5_goTo_0 : decode cX5_goTo 0 = .ok (.iconst 0, 1) := by decide +kernel
theorem dX5_goTo_1 : decode cX5_goTo 1 = .ok (.istore 5, 2) := by decide +kernel
theorem dX5_goTo_3 : decode cX5_goTo 3 = .ok (.aload_n 0, 1) := by decide +kernel
theorem dX5_goTo_4 : decode cX5_goTo 4 = .ok (.iconst 0, 1) := by decide +kernel
theorem dX5_goTo_5 : decode cX5_goTo 5 = .ok (.putfield 7, 3) := by decide +kernel
theorem dX5_goTo_8 : decode cX5_goTo 8 = .ok (.aload_n 0, 1) := by decide +kernel
theorem dX5_goTo_9 : decode cX5_goTo 9 = .ok (.iconst 0, 1) := by decide +kernel
theorem dX5_goTo_10 : decode cX5_goTo 10 = .ok (.putfield 13, 3) := by decide +kernel
theorem dX5_goTo_13 : decode cX5_goTo 13 = .ok (.aload_n 1, 1) := by decide +kernel
theorem dX5_goTo_14 : decode cX5_goTo 14 = .ok (.getfield 16, 3) := by decide +kernel
theorem dX5_goTo_17 : decode cX5_goTo 17 = .ok (.istore 6, 2) := by decide +kernel
theorem dX5_goTo_19 : decode cX5_goTo 19 = .ok (.iload 6, 2) := by decide +kernel
theorem dX5_goTo_21 : decode cX5_goTo 21 = .ok (.iload 4, 2) := by decide +kernel
theorem dX5_goTo_23 : decode cX5_goTo 23 = .ok (.if_icmp .gt 96, 3) := by decide +kernel
theorem dX5_goTo_26 : decode cX5_goTo 26 = .ok (.aload_n 1, 1) := by decide +kernel
theorem dX5_goTo_27 : decode cX5_goTo 27 = .ok (.iload 6, 2) := by decide +kernel
theorem dX5_goTo_29 : decode cX5_goTo 29 = .ok (.invokevirtual 21, 3) := by decide +kernel
theorem dX5_goTo_32 : decode cX5_goTo 32 = .ok (.istore 7, 2) := by decide +kernel
theorem dX5_goTo_34 : decode cX5_goTo 34 = .ok (.iload 6, 2) := by decide +kernel
theorem dX5_goTo_36 : decode cX5_goTo 36 = .ok (.aload_n 1, 1) := by decide +kernel
theorem dX5_goTo_37 : decode cX5_goTo 37 = .ok (.getfield 16, 3) := by decide +kernel
theorem dX5_goTo_40 : decode cX5_goTo 40 = .ok (.if_icmp .eq 12, 3) := by decide +kernel
theorem dX5_goTo_43 : decode cX5_goTo 43 = .ok (.aload_n 2, 1) := by decide +kernel
theorem dX5_goTo_44 : decode cX5_goTo 44 = .ok (.iload 6, 2) := by decide +kernel
theorem dX5_goTo_46 : decode cX5_goTo 46 = .ok (.invokevirtual 25, 3) := by decide +kernel
theorem dX5_goTo_49 : decode cX5_goTo 49 = .ok (.ifCond .eq 23, 3) := by decide +kernel
theorem dX5_goTo_52 : decode cX5_goTo 52 = .ok (.aload_n 3, 1) := by decide +kernel
theorem dX5_goTo_53 : decode cX5_goTo 53 = .ok (.aload_n 1, 1) := by decide +kernel
theorem dX5_goTo_54 : decode cX5_goTo 54 = .ok (.aload_n 2, 1) := by decide +kernel
theorem dX5_goTo_55 : decode cX5_goTo 55 = .ok (.getfield 31, 3) := by decide +kernel
theorem dX5_goTo_58 : decode cX5_goTo 58 = .ok (.iload 6, 2) := by decide +kernel
theorem dX5_goTo_60 : decode cX5_goTo 60 = .ok (.invokevirtual 35, 3) := by decide +kernel
theorem dX5_goTo_63 : decode cX5_goTo 63 = .ok (.aload_n 3, 1) := by decide +kernel
theorem dX5_goTo_64 : decode cX5_goTo 64 = .ok (.aload_n 1, 1) := by decide +kernel
theorem dX5_goTo_65 : decode cX5_goTo 65 = .ok (.iload 7, 2) := by decide +kernel
theorem dX5_goTo_67 : decode cX5_goTo 67 = .ok (.invokevirtual 41, 3) := by decide +kernel
theorem dX5_goTo_70 : decode cX5_goTo 70 = .ok (.istore 5, 2) := by decide +kernel
theorem dX5_goTo_72 : decode cX5_goTo 72 = .ok (.aload_n 0, 1) := by decide +kernel
theorem dX5_goTo_73 : decode cX5_goTo 73 = .ok (.iload 6, 2) := by decide +kernel
theorem dX5_goTo_75 : decode cX5_goTo 75 = .ok (.iload 7, 2) := by decide +kernel
theorem dX5_goTo_77 : decode cX5_goTo 77 = .ok (.if_icmp .ge 19, 3) := by decide +kernel
theorem dX5_goTo_80 : decode cX5_goTo 80 = .ok (.iload 5, 2) := by decide +kernel
theorem dX5_goTo_82 : decode cX5_goTo 82 = .ok (.aload_n 0, 1) := by decide +kernel
theorem dX5_goTo_83 : decode cX5_goTo 83 = .ok (.getfield 13, 3) := by decide +kernel
theorem dX5_goTo_86 : decode cX5_goTo 86 = .ok (.isub, 1) := by decide +kernel
theorem dX5_goTo_87 : decode cX5_goTo 87 = .ok (.iload 7, 2) := by decide +kernel
theorem dX5_goTo_89 : decode cX5_goTo 89 = .ok (.iload 6, 2) := by decide +kernel
theorem dX5_goTo_91 : decode cX5_goTo 91 = .ok (.isub, 1) := by decide +kernel
theorem dX5_goTo_92 : decode cX5_goTo 92 = .ok (.idiv, 1) := by decide +kernel
theorem dX5_goTo_93 : decode cX5_goTo 93 = .ok (.goto 4, 3) := by decide +kernel
theorem dX5_goTo_96 : decode cX5_goTo 96 = .ok (.iconst 0, 1) := by decide +kernel
theorem dX5_goTo_97 : decode cX5_goTo 97 = .ok (.putfield 7, 3) := by decide +kernel
theorem dX5_goTo_100 : decode cX5_goTo 100 = .ok (.aload_n 0, 1) := by decide +kernel
theorem dX5_goTo_101 : decode cX5_goTo 101 = .ok (.dup, 1) := by decide +kernel
theorem dX5_goTo_102 : decode cX5_goTo 102 = .ok (.getfield 13, 3) := by decide +kernel
theorem dX5_goTo_105 : decode cX5_goTo 105 = .ok (.aload_n 0, 1) := by decide +kernel
theorem dX5_goTo_106 : decode cX5_goTo 106 = .ok (.getfield 7, 3) := by decide +kernel
theorem dX5_goTo_109 : decode cX5_goTo 109 = .ok (.iadd, 1) := by decide +kernel
theorem dX5_goTo_110 : decode cX5_goTo 110 = .ok (.putfield 13, 3) := by decide +kernel
theorem dX5_goTo_113 : decode cX5_goTo 113 = .ok (.iinc 6 1, 3) := by decide +kernel
theorem dX5_goTo_116 : decode cX5_goTo 116 = .ok (.goto (-97), 3) := by decide +kernel
theorem dX5_goTo_119 : decode cX5_goTo 119 = .ok (.return_, 1) := by decide +kernel
theorem dX6_init_0 : decode cX6_init 0 = .ok (.aload_n 0, 1) := by decide +kernel
theorem dX6_init_1 : decode cX6_init 1 = .ok (.invokespecial 3, 3) := by decide +kernel
theorem dX6_init_4 : decode cX6_init 4 = .ok (.aload_n 0, 1) := by decide +kernel
theorem dX6_init_5 : decode cX6_init 5 = .ok (.sipush 640, 3) := by decide +kernel
theorem dX6_init_8 : decode cX6_init 8 = .ok (.newarray .int, 2) := by decide +kernel
theorem dX6_init_10 : decode cX6_init 10 = .ok (.putfield 9, 3) := by decide +kernel
theorem dX6_init_13 : decode cX6_init 13 = .ok (.return_, 1) := by decide +kernel
theorem dX6_add_0 : decode cX6_add 0 = .ok (.bipush 24, 2) := by decide +kernel
theorem dX6_add_2 : decode cX6_add 2 = .ok (.istore_n 2, 1) := by decide +kernel
theorem dX6_add_3 : decode cX6_add 3 = .ok (.iload_n 2, 1) := by decide +kernel
theorem dX6_add_4 : decode cX6_add 4 = .ok (.ifCond .lt 47, 3) := by decide +kernel
theorem dX6_add_7 : decode cX6_add 7 = .ok (.aload_n 0, 1) := by decide +kernel
theorem dX6_add_8 : decode cX6_add 8 = .ok (.getfield 15, 3) := by decide +kernel
theorem dX6_add_11 : decode cX6_add 11 = .ok (.aload_n 0, 1) := by decide +kernel
theorem dX6_add_12 : decode cX6_add 12 = .ok (.getfield 9, 3) := by decide +kernel
theorem dX6_add_15 : decode cX6_add 15 = .ok (.arraylength, 1) := by decide +kernel
theorem dX6_add_16 : decode cX6_add 16 = .ok (.if_icmp .ge 35, 3) := by decide +kernel
theorem dX6_add_19 : decode cX6_add 19 = .ok (.aload_n 0, 1) := by decide +kernel
theorem dX6_add_20 : decode cX6_add 20 = .ok (.getfield 9, 3) := by decide +kernel
theorem dX6_add_23 : decode cX6_add 23 = .ok (.aload_n 0, 1) := by decide +kernel
theorem dX6_add_24 : decode cX6_add 24 = .ok (.getfield 15, 3) := by decide +kernel
theorem dX6_add_27 : decode cX6_add 27 = .ok (.iload_n 1, 1) := by decide +kernel
theorem dX6_add_28 : decode cX6_add 28 = .ok (.iload_n 2, 1) := by decide +kernel
theorem dX6_add_29 : decode cX6_add 29 = .ok (.iushr, 1) := by decide +kernel
theorem dX6_add_30 : decode cX6_add 30 = .ok (.sipush 255, 3) := by decide +kernel
theorem dX6_add_33 : decode cX6_add 33 = .ok (.iand, 1) := by decide +kernel
theorem dX6_add_34 : decode cX6_add 34 = .ok (.iastore, 1) := by decide +kernel
theorem dX6_add_35 : decode cX6_add 35 = .ok (.aload_n 0, 1) := by decide +kernel
theorem dX6_add_36 : decode cX6_add 36 = .ok (.dup, 1) := by decide +kernel
theorem dX6_add_37 : decode cX6_add 37 = .ok (.getfield 15, 3) := by decide +kernel
theorem dX6_add_40 : decode cX6_add 40 = .ok (.iconst 1, 1) := by decide +kernel
theorem dX6_add_41 : decode cX6_add 41 = .ok (.iadd, 1) := by decide +kernel
theorem dX6_add_42 : decode cX6_add 42 = .ok (.putfield 15, 3) := by decide +kernel
theorem dX6_add_45 : decode cX6_add 45 = .ok (.iinc 2 (-8), 3) := by decide +kernel
theorem dX6_add_48 : decode cX6_add 48 = .ok (.goto (-45), 3) := by decide +kernel
theorem dX6_add_51 : decode cX6_add 51 = .ok (.return_, 1) := by decide +kernel
theorem dX6_byteAt_0 : decode cX6_byteAt 0 = .ok (.iload_n 1, 1) := by decide +kernel
theorem dX6_byteAt_1 : decode cX6_byteAt 1 = .ok (.ifCond .lt 29, 3) := by decide +kernel
theorem dX6_byteAt_4 : decode cX6_byteAt 4 = .ok (.iload_n 1, 1) := by decide +kernel
theorem dX6_byteAt_5 : decode cX6_byteAt 5 = .ok (.aload_n 0, 1) := by decide +kernel
theorem dX6_byteAt_6 : decode cX6_byteAt 6 = .ok (.getfield 15, 3) := by decide +kernel
theorem dX6_byteAt_9 : decode cX6_byteAt 9 = .ok (.if_icmp .ge 21, 3) := by decide +kernel
theorem dX6_byteAt_12 : decode cX6_byteAt 12 = .ok (.iload_n 1, 1) := by decide +kernel
theorem dX6_byteAt_13 : decode cX6_byteAt 13 = .ok (.aload_n 0, 1) := by decide +kernel
theorem dX6_byteAt_14 : decode cX6_byteAt 14 = .ok (.getfield 9, 3) := by decide +kernel
theorem dX6_byteAt_17 : decode cX6_byteAt 17 = .ok (.arraylength, 1) := by decide +kernel
theorem dX6_byteAt_18 : decode cX6_byteAt 18 = .ok (.if_icmp .ge 12, 3) := by decide +kernel
theorem dX6_byteAt_21 : decode cX6_byteAt 21 = .ok (.aload_n 0, 1) := by decide +kernel
theorem dX6_byteAt_22 : decode cX6_byteAt 22 = .ok (.getfield 9, 3) := by decide +kernel
theorem dX6_byteAt_25 : decode cX6_byteAt 25 = .ok (.iload_n 1, 1) := by decide +kernel
theorem dX6_byteAt_26 : decode cX6_byteAt 26 = .ok (.iaload, 1) := by decide +kernel
theorem dX6_byteAt_27 : decode cX6_byteAt 27 = .ok (.goto 4, 3) := by decide +kernel
theorem dX6_byteAt_30 : decode cX6_byteAt 30 = .ok (.iconst (-1), 1) := by decide +kernel
theorem dX6_byteAt_31 : decode cX6_byteAt 31 = .ok (.ireturn, 1) := by decide +kernel
theorem dX7_init_0 : decode cX7_init 0 = .ok (.aload_n 0, 1) := by decide +kernel
theorem dX7_init_1 : decode cX7_init 1 = .ok (.invokespecial 3, 3) := by decide +kernel
theorem dX7_init_4 : decode cX7_init 4 = .ok (.aload_n 0, 1) := by decide +kernel
theorem dX7_init_5 : decode cX7_init 5 = .ok (.sipush 601, 3) := by decide +kernel
theorem dX7_init_8 : decode cX7_init 8 = .ok (.newarray .int, 2) := by decide +kernel
theorem dX7_init_10 : decode cX7_init 10 = .ok (.putfield 9, 3) := by decide +kernel
theorem dX7_init_13 : decode cX7_init 13 = .ok (.aload_n 0, 1) := by decide +kernel
theorem dX7_init_14 : decode cX7_init 14 = .ok (.sipush 601, 3) := by decide +kernel
theorem dX7_init_17 : decode cX7_init 17 = .ok (.newarray .int, 2) := by decide +kernel
theorem dX7_init_19 : decode cX7_init 19 = .ok (.putfield 15, 3) := by decide +kernel
theorem dX7_init_22 : decode cX7_init 22 = .ok (.aload_n 0, 1) := by decide +kernel
theorem dX7_init_23 : decode cX7_init 23 = .ok (.sipush 601, 3) := by decide +kernel
theorem dX7_init_26 : decode cX7_init 26 = .ok (.newarray .int, 2) := by decide +kernel
theorem dX7_init_28 : decode cX7_init 28 = .ok (.putfield 18, 3) := by decide +kernel
theorem dX7_init_31 : decode cX7_init 31 = .ok (.return_, 1) := by decide +kernel
set_option maxRecDepth 20000 in
theorem ggX7_scan_X6_byteAt : GoodIn wsX7_scan wsX6_byteAt := goodIn_r _ [15, 16, 17, 102, 103] (by decide +kernel) (by decide +kernel)
set_option maxRecDepth 20000 in
theorem gX7_scan_X6_byteAt : GoodIn wsX7_scan (wsV RX7 36 RX6 yX6_byteAt wsX6_byteAt) := goodIn_app (goodIn_of _ (by decide +kernel)) ggX7_scan_X6_byteAt
set_option maxRecDepth 20000 in
theorem ggX7_scan_X7_add : GoodIn wsX7_scan wsX7_add := goodIn_r _ [22, 1, 23, 24, 25, 97, 98, 99, 100, 101] (by decide +kernel) (by decide +kernel)
set_option maxRecDepth 20000 in
theorem gX7_scan_X7_add : GoodIn wsX7_scan (wsV RX7 40 RX7 yX7_add wsX7_add) := goodIn_app (goodIn_of _ (by decide +kernel)) ggX7_scan_X7_add
set_option maxRecDepth 20000 in
theorem ggX7_scan_X7_isBlank : GoodIn wsX7_scan wsX7_isBlank := goodIn_r _ [28] (by decide +kernel) (by decide +kernel)
set_option maxRecDepth 20000 in
theorem gX7_scan_X7_isBlank : GoodIn wsX7_scan (va_wsS RX7 44 yX7_isBlank wsX7_isBlank) := goodIn_app (goodIn_of _ (by decide +kernel)) ggX7_scan_X7_isBlank
set_option maxRecDepth 20000 in
theorem ggX7_scan_X7_endOfRun : GoodIn wsX7_scan wsX7_endOfRun := goodIn_r _ [31, 2, 11, 12, 13, 14, 15, 16, 17, 32, 33, 21, 34, 35, 36, 37, 102, 103] (by decide +kernel) (by decide +kernel)
set_option maxRecDepth 20000 in
theorem gX7_scan_X7_endOfRun : GoodIn wsX7_scan (va_wsS RX7 48 yX7_endOfRun wsX7_endOfRun) := goodIn_app (goodIn_of _ (by decide +kernel)) ggX7_scan_X7_endOfRun
set_option maxRecDepth 20000 in
theorem ggX7_scan_X7_kindOfRun : GoodIn wsX7_scan wsX7_kindOfRun := goodIn_r _ [41, 7, 11, 12, 13, 14, 15, 16, 17, 32, 33, 21, 34, 42, 43, 44, 45, 46, 47, 48, 49, 50, 51, 52, 53, 54, 55, 56, 57, 58, 59, 60, 61, 62, 63, 64, 65, 66, 67, 68, 69, 70, 71, 72, 73, 74, 75, 76, 77, 78, 79, 80, 81, 82, 83, 84, 85, 86, 87, 88, 89, 90, 91, 92, 93, 94, 95, 96, 97, 98, 99, 100, 101, 102, 103] (by decide +kernel) (by decide +kernel)
set_option maxRecDepth 20000 in
theorem gX7_scan_X7_kindOfRun : GoodIn wsX7_scan (wsV RX7 52 RX7 yX7_kindOfRun wsX7_kindOfRun) := goodIn_app (goodIn_of _ (by decide +kernel)) ggX7_scan_X7_kindOfRun
theorem dX7_scan_0 : decode cX7_scan 0 = .ok (.aload_n 0, 1) := by decide +kernel
theorem dX7_scan_1 : decode cX7_scan 1 = .ok (.iconst 0, 1) := by decide +kernel
theorem dX7_scan_2 : decode cX7_scan 2 = .ok (.putfield 21, 3) := by decide +kernel
theorem dX7_scan_5 : decode cX7_scan 5 = .ok (.aload_n 1, 1) := by decide +kernel
theorem dX7_scan_6 : decode cX7_scan 6 = .ok (.getfield 25, 3) := by decide +kernel
theorem dX7_scan_9 : decode cX7_scan 9 = .ok (.sipush 600, 3) := by decide +kernel
theorem dX7_scan_12 : decode cX7_scan 12 = .ok (.invokestatic 30, 3) := by decide +kernel
theorem dX7_scan_15 : decode cX7_scan 15 = .ok (.istore_n 2, 1) := by decide +kernel
theorem dX7_scan_16 : decode cX7_scan 16 = .ok (.iconst 0, 1) := by decide +kernel
theorem dX7_scan_17 : decode cX7_scan 17 = .ok (.istore_n 3, 1) := by decide +kernel
theorem dX7_scan_18 : decode cX7_scan 18 = .ok (.iload_n 3, 1) := by decide +kernel
theorem dX7_scan_19 : decode cX7_scan 19 = .ok (.iload_n 2, 1) := by decide +kernel
theorem dX7_scan_20 : decode cX7_scan 20 = .ok (.if_icmp .ge 87, 3) := by decide +kernel
theorem dX7_scan_23 : decode cX7_scan 23 = .ok (.aload_n 1, 1) := by decide +kernel
theorem dX7_scan_24 : decode cX7_scan 24 = .ok (.iload_n 3, 1) := by decide +kernel
theorem dX7_scan_25 : decode cX7_scan 25 = .ok (.invokevirtual 36, 3) := by decide +kernel
theorem dX7_scan_28 : decode cX7_scan 28 = .ok (.istore 4, 2) := by decide +kernel
theorem dX7_scan_30 : decode cX7_scan 30 = .ok (.iload_n 3, 1) := by decide +kernel
theorem dX7_scan_31 : decode cX7_scan 31 = .ok (.iconst 1, 1) := by decide +kernel
theorem dX7_scan_32 : decode cX7_scan 32 = .ok (.iadd, 1) := by decide +kernel
theorem dX7_scan_33 : decode cX7_scan 33 = .ok (.istore 5, 2) := by decide +kernel
theorem dX7_scan_35 : decode cX7_scan 35 = .ok (.iload 4, 2) := by decide +kernel
theorem dX7_scan_37 : decode cX7_scan 37 = .ok (.bipush 59, 2) := by decide +kernel
theorem dX7_scan_39 : decode cX7_scan 39 = .ok (.if_icmp .ne 13, 3) := by decide +kernel
theorem dX7_scan_42 : decode cX7_scan 42 = .ok (.aload_n 0, 1) := by decide +kernel
theorem dX7_scan_43 : decode cX7_scan 43 = .ok (.iconst 2, 1) := by decide +kernel
theorem dX7_scan_44 : decode cX7_scan 44 = .ok (.iload_n 3, 1) := by decide +kernel
theorem dX7_scan_45 : decode cX7_scan 45 = .ok (.iconst 0, 1) := by decide +kernel
theorem dX7_scan_46 : decode cX7_scan 46 = .ok (.invokevirtual 40, 3) := by decide +kernel
theorem dX7_scan_49 : decode cX7_scan 49 = .ok (.goto 46, 3) := by decide +kernel
theorem dX7_scan_52 : decode cX7_scan 52 = .ok (.iload 4, 2) := by decide +kernel
theorem dX7_scan_54 : decode cX7_scan 54 = .ok (.invokestatic 44, 3) := by decide +kernel
theorem dX7_scan_57 : decode cX7_scan 57 = .ok (.ifCond .ne 38, 3) := by decide +kernel
theorem dX7_scan_60 : decode cX7_scan 60 = .ok (.aload_n 1, 1) := by decide +kernel
theorem dX7_scan_61 : decode cX7_scan 61 = .ok (.iload_n 3, 1) := by decide +kernel
theorem dX7_scan_62 : decode cX7_scan 62 = .ok (.invokestatic 48, 3) := by decide +kernel
theorem dX7_scan_65 : decode cX7_scan 65 = .ok (.istore 5, 2) := by decide +kernel
theorem dX7_scan_67 : decode cX7_scan 67 = .ok (.aload_n 0, 1) := by decide +kernel
theorem dX7_scan_68 : decode cX7_scan 68 = .ok (.aload_n 1, 1) := by decide +kernel
theorem dX7_scan_69 : decode cX7_scan 69 = .ok (.iload_n 3, 1) := by decide +kernel
theorem dX7_scan_70 : decode cX7_scan 70 = .ok (.iload 5, 2) := by decide +kernel
theorem dX7_scan_72 : decode cX7_scan 72 = .ok (.invokevirtual 52, 3) := by decide +kernel
theorem dX7_scan_75 : decode cX7_scan 75 = .ok (.istore 6, 2) := by decide +kernel
theorem dX7_scan_77 : decode cX7_scan 77 = .ok (.aload_n 0, 1) := by decide +kernel
theorem dX7_scan_78 : decode cX7_scan 78 = .ok (.iload 6, 2) := by decide +kernel
theorem dX7_scan_80 : decode cX7_scan 80 = .ok (.iload_n 3, 1) := by decide +kernel
theorem dX7_scan_81 : decode cX7_scan 81 = .ok (.aload_n 0, 1) := by decide +kernel
theorem dX7_scan_82 : decode cX7_scan 82 = .ok (.getfield 56, 3) := by decide +kernel
theorem dX7_scan_85 : decode cX7_scan 85 = .ok (.invokevirtual 40, 3) := by decide +kernel
theorem dX7_scan_88 : decode cX7_scan 88 = .ok (.iload 6, 2) := by decide +kernel
theorem dX7_scan_90 : decode cX7_scan 90 = .ok (.iconst 1, 1) := by decide +kernel
theorem dX7_scan_91 : decode cX7_scan 91 = .ok (.if_icmp .ne 4, 3) := by decide +kernel
theorem dX7_scan_94 : decode cX7_scan 94 = .ok (.return_, 1) := by decide +kernel
theorem dX7_scan_95 : decode cX7_scan 95 = .ok (.iload 5, 2) := by decide +kernel
theorem dX7_scan_97 : decode cX7_scan 97 = .ok (.iload_n 3, 1) := by decide +kernel
theorem dX7_scan_98 : decode cX7_scan 98 = .ok (.iconst 1, 1) := by decide +kernel
theorem dX7_scan_99 : decode cX7_scan 99 = .ok (.iadd, 1) := by decide +kernel
theorem dX7_scan_100 : decode cX7_scan 100 = .ok (.invokestatic 59, 3) := by decide +kernel
theorem dX7_scan_103 : decode cX7_scan 103 = .ok (.istore_n 3, 1) := by decide +kernel
theorem dX7_scan_104 : decode cX7_scan 104 = .ok (.goto (-86), 3) := by decide +kernel
theorem dX7_scan_107 : decode cX7_scan 107 = .ok (.aload_n 0, 1) := by decide +kernel
theorem dX7_scan_108 : decode cX7_scan 108 = .ok (.aload_n 1, 1) := by decide +kernel
theorem dX7_scan_109 : decode cX7_scan 109 = .ok (.getfield 25, 3) := by decide +kernel
theorem dX7_scan_112 : decode cX7_scan 112 = .ok (.sipush 600, 3) := by decide +kernel
theorem dX7_scan_115 : decode cX7_scan 115 = .ok (.if_icmp .le 7, 3) := by decide +kernel
theorem dX7_scan_118 : decode cX7_scan 118 = .ok (.iconst 1, 1) := by decide +kernel
theorem dX7_scan_119 : decode cX7_scan 119 = .ok (.goto 4, 3) := by decide +kernel
theorem dX7_scan_122 : decode cX7_scan 122 = .ok (.iconst 0, 1) := by decide +kernel
theorem dX7_scan_123 : decode cX7_scan 123 = .ok (.iload_n 2, 1) := by decide +kernel
theorem dX7_scan_124 : decode cX7_scan 124 = .ok (.iconst 0, 1) := by decide +kernel
theorem dX7_scan_125 : decode cX7_scan 125 = .ok (.invokevirtual 40, 3) := by decide +kernel
theorem dX7_scan_128 : decode cX7_scan 128 = .ok (.return_, 1) := by decide +kernel
theorem dX7_add_0 : decode cX7_add 0 = .ok (.aload_n 0, 1) := by decide +kernel
theorem dX7_add_1 : decode cX7_add 1 = .ok (.getfield 21, 3) := by decide +kernel
theorem dX7_add_4 : decode cX7_add 4 = .ok (.aload_n 0, 1) := by decide +kernel
theorem dX7_add_5 : decode cX7_add 5 = .ok (.getfield 9, 3) := by decide +kernel
theorem dX7_add_8 : decode cX7_add 8 = .ok (.arraylength, 1) := by decide +kernel
theorem dX7_add_9 : decode cX7_add 9 = .ok (.if_icmp .ge 67, 3) := by decide +kernel
theorem dX7_add_12 : decode cX7_add 12 = .ok (.aload_n 0, 1) := by decide +kernel
theorem dX7_add_13 : decode cX7_add 13 = .ok (.getfield 21, 3) := by decide +kernel
theorem dX7_add_16 : decode cX7_add 16 = .ok (.aload_n 0, 1) := by decide +kernel
theorem dX7_add_17 : decode cX7_add 17 = .ok (.getfield 15, 3) := by decide +kernel
theorem dX7_add_20 : decode cX7_add 20 = .ok (.arraylength, 1) := by decide +kernel
theorem dX7_add_21 : decode cX7_add 21 = .ok (.if_icmp .ge 55, 3) := by decide +kernel
theorem dX7_add_24 : decode cX7_add 24 = .ok (.aload_n 0, 1) := by decide +kernel
theorem dX7_add_25 : decode cX7_add 25 = .ok (.getfield 21, 3) := by decide +kernel
theorem dX7_add_28 : decode cX7_add 28 = .ok (.aload_n 0, 1) := by decide +kernel
theorem dX7_add_29 : decode cX7_add 29 = .ok (.getfield 18, 3) := by decide +kernel
theorem dX7_add_32 : decode cX7_add 32 = .ok (.arraylength, 1) := by decide +kernel
theorem dX7_add_33 : decode cX7_add 33 = .ok (.if_icmp .ge 43, 3) := by decide +kernel
theorem dX7_add_36 : decode cX7_add 36 = .ok (.aload_n 0, 1) := by decide +kernel
theorem dX7_add_37 : decode cX7_add 37 = .ok (.getfield 9, 3) := by decide +kernel
theorem dX7_add_40 : decode cX7_add 40 = .ok (.aload_n 0, 1) := by decide +kernel
theorem dX7_add_41 : decode cX7_add 41 = .ok (.getfield 21, 3) := by decide +kernel
theorem dX7_add_44 : decode cX7_add 44 = .ok (.iload_n 1, 1) := by decide +kernel
theorem dX7_add_45 : decode cX7_add 45 = .ok (.iastore, 1) := by decide +kernel
theorem dX7_add_46 : decode cX7_add 46 = .ok (.aload_n 0, 1) := by decide +kernel
theorem dX7_add_47 : decode cX7_add 47 = .ok (.getfield 15, 3) := by decide +kernel
theorem dX7_add_50 : decode cX7_add 50 = .ok (.aload_n 0, 1) := by decide +kernel
theorem dX7_add_51 : decode cX7_add 51 = .ok (.getfield 21, 3) := by decide +kernel
theorem dX7_add_54 : decode cX7_add 54 = .ok (.iload_n 2, 1) := by decide +kernel
theorem dX7_add_55 : decode cX7_add 55 = .ok (.iastore, 1) := by decide +kernel
theorem dX7_add_56 : decode cX7_add 56 = .ok (.aload_n 0, 1) := by decide +kernel
theorem dX7_add_57 : decode cX7_add 57 = .ok (.getfield 18, 3) := by decide +kernel
theorem dX7_add_60 : decode cX7_add 60 = .ok (.aload_n 0, 1) := by decide +kernel
theorem dX7_add_61 : decode cX7_add 61 = .ok (.getfield 21, 3) := by decide +kernel
theorem dX7_add_64 : decode cX7_add 64 = .ok (.iload_n 3, 1) := by decide +kernel
theorem dX7_add_65 : decode cX7_add 65 = .ok (.iastore, 1) := by decide +kernel
theorem dX7_add_66 : decode cX7_add 66 = .ok (.aload_n 0, 1) := by decide +kernel
theorem dX7_add_67 : decode cX7_add 67 = .ok (.dup, 1) := by decide +kernel
theorem dX7_add_68 : decode cX7_add 68 = .ok (.getfield 21, 3) := by decide +kernel
theorem dX7_add_71 : decode cX7_add 71 = .ok (.iconst 1, 1) := by decide +kernel
theorem dX7_add_72 : decode cX7_add 72 = .ok (.iadd, 1) := by decide +kernel
theorem dX7_add_73 : decode cX7_add 73 = .ok (.putfield 21, 3) := by decide +kernel
theorem dX7_add_76 : decode cX7_add 76 = .ok (.return_, 1) := by decide +kernel
theorem dX7_isBlank_0 : decode cX7_isBlank 0 = .ok (.iload_n 0, 1) := by decide +kernel
theorem dX7_isBlank_1 : decode cX7_isBlank 1 = .ok (.bipush 32, 2) := by decide +kernel
theorem dX7_isBlank_3 : decode cX7_isBlank 3 = .ok (.if_icmp .eq 9, 3) := by decide +kernel
theorem dX7_isBlank_6 : decode cX7_isBlank 6 = .ok (.iload_n 0, 1) := by decide +kernel
theorem dX7_isBlank_7 : decode cX7_isBlank 7 = .ok (.bipush 10, 2) := by decide +kernel
theorem dX7_isBlank_9 : decode cX7_isBlank 9 = .ok (.if_icmp .ne 7, 3) := by decide +kernel
theorem dX7_isBlank_12 : decode cX7_isBlank 12 = .ok (.iconst 1, 1) := by decide +kernel
theorem dX7_isBlank_13 : decode cX7_isBlank 13 = .ok (.goto 4, 3) := by decide +kernel
theorem dX7_isBlank_16 : decode cX7_isBlank 16 = .ok (.iconst 0, 1) := by decide +kernel
theorem dX7_isBlank_17 : decode cX7_isBlank 17 = .ok (.ireturn, 1) := by decide +kernel
theorem dX7_isLetter_0 : decode cX7_isLetter 0 = .ok (.iload_n 0, 1) := by decide +kernel
theorem dX7_isLetter_1 : decode cX7_isLetter 1 = .ok (.bipush 97, 2) := by decide +kernel
theorem dX7_isLetter_3 : decode cX7_isLetter 3 = .ok (.if_icmp .lt 13, 3) := by decide +kernel
theorem dX7_isLetter_6 : decode cX7_isLetter 6 = .ok (.iload_n 0, 1) := by decide +kernel
theorem dX7_isLetter_7 : decode cX7_isLetter 7 = .ok (.bipush 122, 2) := by decide +kernel
theorem dX7_isLetter_9 : decode cX7_isLetter 9 = .ok (.if_icmp .gt 7, 3) := by decide +kernel
theorem dX7_isLetter_12 : decode cX7_isLetter 12 = .ok (.iconst 1, 1) := by decide +kernel
theorem dX7_isLetter_13 : decode cX7_isLetter 13 = .ok (.goto 4, 3) := by decide +kernel
theorem dX7_isLetter_16 : decode cX7_isLetter 16 = .ok (.iconst 0, 1) := by decide +kernel
theorem dX7_isLetter_17 : decode cX7_isLetter 17 = .ok (.ireturn, 1) := by decide +kernel
theorem dX7_isDigit_0 : decode cX7_isDigit 0 = .ok (.iload_n 0, 1) := by decide +kernel
theorem dX7_isDigit_1 : decode cX7_isDigit 1 = .ok (.bipush 48, 2) := by decide +kernel
theorem dX7_isDigit_3 : decode cX7_isDigit 3 = .ok (.if_icmp .lt 13, 3) := by decide +kernel
theorem dX7_isDigit_6 : decode cX7_isDigit 6 = .ok (.iload_n 0, 1) := by decide +kernel
theorem dX7_isDigit_7 : decode cX7_isDigit 7 = .ok (.bipush 57, 2) := by decide +kernel
theorem dX7_isDigit_9 : decode cX7_isDigit 9 = .ok (.if_icmp .gt 7, 3) := by decide +kernel
theorem dX7_isDigit_12 : decode cX7_isDigit 12 = .ok (.iconst 1, 1) := by decide +kernel
theorem dX7_isDigit_13 : decode cX7_isDigit 13 = .ok (.goto 4, 3) := by decide +kernel
theorem dX7_isDigit_16 : decode cX7_isDigit 16 = .ok (.iconst 0, 1) := by decide +kernel
theorem dX7_isDigit_17 : decode cX7_isDigit 17 = .ok (.ireturn, 1) := by decide +kernel
set_option maxRecDepth 20000 in
theorem ggX7_endOfRun_X6_byteAt : GoodIn wsX7_endOfRun wsX6_byteAt := goodIn_r _ [6, 7, 8, 16, 17] (by decide +kernel) (by decide +kernel)
set_option maxRecDepth 20000 in
theorem gX7_endOfRun_X6_byteAt : GoodIn wsX7_endOfRun (wsV RX7 36 RX6 yX6_byteAt wsX6_byteAt) := goodIn_app (goodIn_of _ (by decide +kernel)) ggX7_endOfRun_X6_byteAt
set_option maxRecDepth 20000 in
theorem ggX7_endOfRun_X7_isLetter : GoodIn wsX7_endOfRun wsX7_isLetter := goodIn_r _ [12] (by decide +kernel) (by decide +kernel)
set_option maxRecDepth 20000 in
theorem gX7_endOfRun_X7_isLetter : GoodIn wsX7_endOfRun (va_wsS RX7 62 yX7_isLetter wsX7_isLetter) := goodIn_app (goodIn_of _ (by decide +kernel)) ggX7_endOfRun_X7_isLetter
set_option maxRecDepth 20000 in
theorem ggX7_endOfRun_X7_isDigit : GoodIn wsX7_endOfRun wsX7_isDigit := goodIn_r _ [15] (by decide +kernel) (by decide +kernel)
set_option maxRecDepth 20000 in
theorem gX7_endOfRun_X7_isDigit : GoodIn wsX7_endOfRun (va_wsS RX7 65 yX7_isDigit wsX7_isDigit) := goodIn_app (goodIn_of _ (by decide +kernel)) ggX7_endOfRun_X7_isDigit
theorem dX7_endOfRun_0 : decode cX7_endOfRun 0 = .ok (.iload_n 1, 1) := by decide +kernel
theorem dX7_endOfRun_1 : decode cX7_endOfRun 1 = .ok (.istore_n 2, 1) := by decide +kernel
theorem dX7_endOfRun_2 : decode cX7_endOfRun 2 = .ok (.iload_n 2, 1) := by decide +kernel
theorem dX7_endOfRun_3 : decode cX7_endOfRun 3 = .ok (.aload_n 0, 1) := by decide +kernel
theorem dX7_endOfRun_4 : decode cX7_endOfRun 4 = .ok (.getfield 25, 3) := by decide +kernel
theorem dX7_endOfRun_7 : decode cX7_endOfRun 7 = .ok (.if_icmp .ge 31, 3) := by decide +kernel
theorem dX7_endOfRun_10 : decode cX7_endOfRun 10 = .ok (.aload_n 0, 1) := by decide +kernel
theorem dX7_endOfRun_11 : decode cX7_endOfRun 11 = .ok (.iload_n 2, 1) := by decide +kernel
theorem dX7_endOfRun_12 : decode cX7_endOfRun 12 = .ok (.invokevirtual 36, 3) := by decide +kernel
theorem dX7_endOfRun_15 : decode cX7_endOfRun 15 = .ok (.invokestatic 62, 3) := by decide +kernel
theorem dX7_endOfRun_18 : decode cX7_endOfRun 18 = .ok (.ifCond .ne 14, 3) := by decide +kernel
theorem dX7_endOfRun_21 : decode cX7_endOfRun 21 = .ok (.aload_n 0, 1) := by decide +kernel
theorem dX7_endOfRun_22 : decode cX7_endOfRun 22 = .ok (.iload_n 2, 1) := by decide +kernel
theorem dX7_endOfRun_23 : decode cX7_endOfRun 23 = .ok (.invokevirtual 36, 3) := by decide +kernel
theorem dX7_endOfRun_26 : decode cX7_endOfRun 26 = .ok (.invokestatic 65, 3) := by decide +kernel
theorem dX7_endOfRun_29 : decode cX7_endOfRun 29 = .ok (.ifCond .eq 9, 3) := by decide +kernel
theorem dX7_endOfRun_32 : decode cX7_endOfRun 32 = .ok (.iinc 2 1, 3) := by decide +kernel
theorem dX7_endOfRun_35 : decode cX7_endOfRun 35 = .ok (.goto (-33), 3) := by decide +kernel
theorem dX7_endOfRun_38 : decode cX7_endOfRun 38 = .ok (.iload_n 2, 1) := by decide +kernel
theorem dX7_endOfRun_39 : decode cX7_endOfRun 39 = .ok (.ireturn, 1) := by decide +kernel
set_option maxRecDepth 20000 in
theorem ggX7_kindOfRun_X6_byteAt : GoodIn wsX7_kindOfRun wsX6_byteAt := goodIn_r _ [6, 7, 8, 73, 74] (by decide +kernel) (by decide +kernel)
set_option maxRecDepth 20000 in
theorem gX7_kindOfRun_X6_byteAt : GoodIn wsX7_kindOfRun (wsV RX7 36 RX6 yX6_byteAt wsX6_byteAt) := goodIn_app (goodIn_of _ (by decide +kernel)) ggX7_kindOfRun_X6_byteAt
set_option maxRecDepth 20000 in
theorem ggX7_kindOfRun_X7_isLetter : GoodIn wsX7_kindOfRun wsX7_isLetter := goodIn_r _ [12] (by decide +kernel) (by decide +kernel)
set_option maxRecDepth 20000 in
theorem gX7_kindOfRun_X7_isLetter : GoodIn wsX7_kindOfRun (va_wsS RX7 62 yX7_isLetter wsX7_isLetter) := goodIn_app (goodIn_of _ (by decide +kernel)) ggX7_kindOfRun_X7_isLetter
set_option maxRecDepth 20000 in
theorem ggX7_kindOfRun_X7_kindOfWord : GoodIn wsX7_kindOfRun wsX7_kindOfWord := goodIn_r _ [15, 16, 17, 11, 18, 19, 20, 21, 22, 23, 24, 25, 26, 27, 28, 29, 30, 2, 3, 4, 5, 6, 7, 8, 31, 32, 33, 34, 35, 36, 37, 38, 39, 40, 41, 42, 43, 44, 45, 46, 47, 48, 49, 50, 51, 52, 53, 54, 55, 56, 57, 58, 59, 60, 61, 62, 63, 64, 65, 66, 67, 73, 74] (by decide +kernel) (by decide +kernel)
set_option maxRecDepth 20000 in
theorem gX7_kindOfRun_X7_kindOfWord : GoodIn wsX7_kindOfRun (va_wsS RX7 68 yX7_kindOfWord wsX7_kindOfWord) := goodIn_app (goodIn_of _ (by decide +kernel)) ggX7_kindOfRun_X7_kindOfWord
theorem dX7_kindOfRun_0 : decode cX7_kindOfRun 0 = .ok (.iconst 0, 1) := by decide +kernel
theorem dX7_kindOfRun_1 : decode cX7_kindOfRun 1 = .ok (.istore 4, 2) := by decide +kernel
theorem dX7_kindOfRun_3 : decode cX7_kindOfRun 3 = .ok (.aload_n 0, 1) := by decide +kernel
theorem dX7_kindOfRun_4 : decode cX7_kindOfRun 4 = .ok (.iconst 0, 1) := by decide +kernel
theorem dX7_kindOfRun_5 : decode cX7_kindOfRun 5 = .ok (.putfield 56, 3) := by decide +kernel
theorem dX7_kindOfRun_8 : decode cX7_kindOfRun 8 = .ok (.iload_n 2, 1) := by decide +kernel
theorem dX7_kindOfRun_9 : decode cX7_kindOfRun 9 = .ok (.istore 5, 2) := by decide +kernel
theorem dX7_kindOfRun_11 : decode cX7_kindOfRun 11 = .ok (.iload 5, 2) := by decide +kernel
theorem dX7_kindOfRun_13 : decode cX7_kindOfRun 13 = .ok (.iload_n 3, 1) := by decide +kernel
theorem dX7_kindOfRun_14 : decode cX7_kindOfRun 14 = .ok (.if_icmp .ge 48, 3) := by decide +kernel
theorem dX7_kindOfRun_17 : decode cX7_kindOfRun 17 = .ok (.aload_n 1, 1) := by decide +kernel
theorem dX7_kindOfRun_18 : decode cX7_kindOfRun 18 = .ok (.iload 5, 2) := by decide +kernel
theorem dX7_kindOfRun_20 : decode cX7_kindOfRun 20 = .ok (.invokevirtual 36, 3) := by decide +kernel
theorem dX7_kindOfRun_23 : decode cX7_kindOfRun 23 = .ok (.istore 6, 2) := by decide +kernel
theorem dX7_kindOfRun_25 : decode cX7_kindOfRun 25 = .ok (.iload 6, 2) := by decide +kernel
theorem dX7_kindOfRun_27 : decode cX7_kindOfRun 27 = .ok (.invokestatic 62, 3) := by decide +kernel
theorem dX7_kindOfRun_30 : decode cX7_kindOfRun 30 = .ok (.ifCond .eq 9, 3) := by decide +kernel
theorem dX7_kindOfRun_33 : decode cX7_kindOfRun 33 = .ok (.iinc 4 1, 3) := by decide +kernel
theorem dX7_kindOfRun_36 : decode cX7_kindOfRun 36 = .ok (.goto 20, 3) := by decide +kernel
theorem dX7_kindOfRun_39 : decode cX7_kindOfRun 39 = .ok (.aload_n 0, 1) := by decide +kernel
theorem dX7_kindOfRun_40 : decode cX7_kindOfRun 40 = .ok (.aload_n 0, 1) := by decide +kernel
theorem dX7_kindOfRun_41 : decode cX7_kindOfRun 41 = .ok (.getfield 56, 3) := by decide +kernel
theorem dX7_kindOfRun_44 : decode cX7_kindOfRun 44 = .ok (.bipush 10, 2) := by decide +kernel
theorem dX7_kindOfRun_46 : decode cX7_kindOfRun 46 = .ok (.imul, 1) := by decide +kernel
theorem dX7_kindOfRun_47 : decode cX7_kindOfRun 47 = .ok (.iload 6, 2) := by decide +kernel
theorem dX7_kindOfRun_49 : decode cX7_kindOfRun 49 = .ok (.bipush 48, 2) := by decide +kernel
theorem dX7_kindOfRun_51 : decode cX7_kindOfRun 51 = .ok (.isub, 1) := by decide +kernel
theorem dX7_kindOfRun_52 : decode cX7_kindOfRun 52 = .ok (.iadd, 1) := by decide +kernel
theorem dX7_kindOfRun_53 : decode cX7_kindOfRun 53 = .ok (.putfield 56, 3) := by decide +kernel
theorem dX7_kindOfRun_56 : decode cX7_kindOfRun 56 = .ok (.iinc 5 1, 3) := by decide +kernel
theorem dX7_kindOfRun_59 : decode cX7_kindOfRun 59 = .ok (.goto (-48), 3) := by decide +kernel
theorem dX7_kindOfRun_62 : decode cX7_kindOfRun 62 = .ok (.iload_n 3, 1) := by decide +kernel
theorem dX7_kindOfRun_63 : decode cX7_kindOfRun 63 = .ok (.iload_n 2, 1) := by decide +kernel
theorem dX7_kindOfRun_64 : decode cX7_kindOfRun 64 = .ok (.isub, 1) := by decide +kernel
theorem dX7_kindOfRun_65 : decode cX7_kindOfRun 65 = .ok (.istore 5, 2) := by decide +kernel
theorem dX7_kindOfRun_67 : decode cX7_kindOfRun 67 = .ok (.iload 5, 2) := by decide +kernel
theorem dX7_kindOfRun_69 : decode cX7_kindOfRun 69 = .ok (.ifCond .le 18, 3) := by decide +kernel
theorem dX7_kindOfRun_72 : decode cX7_kindOfRun 72 = .ok (.iload 4, 2) := by decide +kernel
theorem dX7_kindOfRun_74 : decode cX7_kindOfRun 74 = .ok (.iload 5, 2) := by decide +kernel
theorem dX7_kindOfRun_76 : decode cX7_kindOfRun 76 = .ok (.if_icmp .ne 11, 3) := by decide +kernel
theorem dX7_kindOfRun_79 : decode cX7_kindOfRun 79 = .ok (.aload_n 1, 1) := by decide +kernel
theorem dX7_kindOfRun_80 : decode cX7_kindOfRun 80 = .ok (.iload_n 2, 1) := by decide +kernel
theorem dX7_kindOfRun_81 : decode cX7_kindOfRun 81 = .ok (.iload 5, 2) := by decide +kernel
theorem dX7_kindOfRun_83 : decode cX7_kindOfRun 83 = .ok (.invokestatic 68, 3) := by decide +kernel
theorem dX7_kindOfRun_86 : decode cX7_kindOfRun 86 = .ok (.ireturn, 1) := by decide +kernel
theorem dX7_kindOfRun_87 : decode cX7_kindOfRun 87 = .ok (.iload 5, 2) := by decide +kernel
theorem dX7_kindOfRun_89 : decode cX7_kindOfRun 89 = .ok (.ifCond .le 18, 3) := by decide +kernel
theorem dX7_kindOfRun_92 : decode cX7_kindOfRun 92 = .ok (.iload 4, 2) := by decide +kernel
theorem dX7_kindOfRun_94 : decode cX7_kindOfRun 94 = .ok (.ifCond .ne 13, 3) := by decide +kernel
theorem dX7_kindOfRun_97 : decode cX7_kindOfRun 97 = .ok (.iload 5, 2) := by decide +kernel
theorem dX7_kindOfRun_99 : decode cX7_kindOfRun 99 = .ok (.iconst 5, 1) := by decide +kernel
theorem dX7_kindOfRun_100 : decode cX7_kindOfRun 100 = .ok (.if_icmp .gt 7, 3) := by decide +kernel
theorem dX7_kindOfRun_103 : decode cX7_kindOfRun 103 = .ok (.iconst 3, 1) := by decide +kernel
theorem dX7_kindOfRun_104 : decode cX7_kindOfRun 104 = .ok (.goto 4, 3) := by decide +kernel
theorem dX7_kindOfRun_107 : decode cX7_kindOfRun 107 = .ok (.iconst 1, 1) := by decide +kernel
theorem dX7_kindOfRun_108 : decode cX7_kindOfRun 108 = .ok (.ireturn, 1) := by decide +kernel
set_option maxRecDepth 20000 in
theorem ggX7_kindOfWord_X7_spells : GoodIn wsX7_kindOfWord wsX7_spells := goodIn_r _ [4, 5, 6, 7, 8, 9, 10, 11, 12, 13, 14, 15, 16, 17, 18, 19, 20, 21, 22, 23, 24, 25, 26, 27, 28, 29, 30, 31, 32, 33, 34, 35, 36, 37, 38, 39, 40, 41, 42, 43, 44, 45, 46, 47, 48, 49, 50, 51, 52, 53, 54, 55, 56, 57, 58, 59, 60, 61, 62] (by decide +kernel) (by decide +kernel)
set_option maxRecDepth 20000 in
theorem gX7_kindOfWord_X7_spells : GoodIn wsX7_kindOfWord (va_wsS RX7 73 yX7_spells wsX7_spells) := goodIn_app (goodIn_of _ (by decide +kernel)) ggX7_kindOfWord_X7_spells
theorem dX7_kindOfWord_0 : decode cX7_kindOfWord 0 = .ok (.aload_n 0, 1) := by decide +kernel
theorem dX7_kindOfWord_1 : decode cX7_kindOfWord 1 = .ok (.iload_n 1, 1) := by decide +kernel
theorem dX7_kindOfWord_2 : decode cX7_kindOfWord 2 = .ok (.iload_n 2, 1) := by decide +kernel
theorem dX7_kindOfWord_3 : decode cX7_kindOfWord 3 = .ok (.ldc 71, 2) := by decide +kernel
theorem dX7_kindOfWord_5 : decode cX7_kindOfWord 5 = .ok (.invokestatic 73, 3) := by decide +kernel
theorem dX7_kindOfWord_8 : decode cX7_kindOfWord 8 = .ok (.ifCond .eq 5, 3) := by decide +kernel
theorem dX7_kindOfWord_11 : decode cX7_kindOfWord 11 = .ok (.iconst 5, 1) := by decide +kernel
theorem dX7_kindOfWord_12 : decode cX7_kindOfWord 12 = .ok (.ireturn, 1) := by decide +kernel
theorem dX7_kindOfWord_13 : decode cX7_kindOfWord 13 = .ok (.aload_n 0, 1) := by decide +kernel
theorem dX7_kindOfWord_14 : decode cX7_kindOfWord 14 = .ok (.iload_n 1, 1) := by decide +kernel
theorem dX7_kindOfWord_15 : decode cX7_kindOfWord 15 = .ok (.iload_n 2, 1) := by decide +kernel
theorem dX7_kindOfWord_16 : decode cX7_kindOfWord 16 = .ok (.ldc 77, 2) := by decide +kernel
theorem dX7_kindOfWord_18 : decode cX7_kindOfWord 18 = .ok (.invokestatic 73, 3) := by decide +kernel
theorem dX7_kindOfWord_21 : decode cX7_kindOfWord 21 = .ok (.ifCond .eq 6, 3) := by decide +kernel
theorem dX7_kindOfWord_24 : decode cX7_kindOfWord 24 = .ok (.bipush 6, 2) := by decide +kernel
theorem dX7_kindOfWord_26 : decode cX7_kindOfWord 26 = .ok (.ireturn, 1) := by decide +kernel
theorem dX7_kindOfWord_27 : decode cX7_kindOfWord 27 = .ok (.aload_n 0, 1) := by decide +kernel
theorem dX7_kindOfWord_28 : decode cX7_kindOfWord 28 = .ok (.iload_n 1, 1) := by decide +kernel
theorem dX7_kindOfWord_29 : decode cX7_kindOfWord 29 = .ok (.iload_n 2, 1) := by decide +kernel
theorem dX7_kindOfWord_30 : decode cX7_kindOfWord 30 = .ok (.ldc 79, 2) := by decide +kernel
theorem dX7_kindOfWord_32 : decode cX7_kindOfWord 32 = .ok (.invokestatic 73, 3) := by decide +kernel
theorem dX7_kindOfWord_35 : decode cX7_kindOfWord 35 = .ok (.ifCond .eq 6, 3) := by decide +kernel
theorem dX7_kindOfWord_38 : decode cX7_kindOfWord 38 = .ok (.bipush 7, 2) := by decide +kernel
theorem dX7_kindOfWord_40 : decode cX7_kindOfWord 40 = .ok (.ireturn, 1) := by decide +kernel
theorem dX7_kindOfWord_41 : decode cX7_kindOfWord 41 = .ok (.aload_n 0, 1) := by decide +kernel
theorem dX7_kindOfWord_42 : decode cX7_kindOfWord 42 = .ok (.iload_n 1, 1) := by decide +kernel
theorem dX7_kindOfWord_43 : decode cX7_kindOfWord 43 = .ok (.iload_n 2, 1) := by decide +kernel
theorem dX7_kindOfWord_44 : decode cX7_kindOfWord 44 = .ok (.ldc 81, 2) := by decide +kernel
theorem dX7_kindOfWord_46 : decode cX7_kindOfWord 46 = .ok (.invokestatic 73, 3) := by decide +kernel
theorem dX7_kindOfWord_49 : decode cX7_kindOfWord 49 = .ok (.ifCond .eq 6, 3) := by decide +kernel
theorem dX7_kindOfWord_52 : decode cX7_kindOfWord 52 = .ok (.bipush 8, 2) := by decide +kernel
theorem dX7_kindOfWord_54 : decode cX7_kindOfWord 54 = .ok (.ireturn, 1) := by decide +kernel
theorem dX7_kindOfWord_55 : decode cX7_kindOfWord 55 = .ok (.aload_n 0, 1) := by decide +kernel
theorem dX7_kindOfWord_56 : decode cX7_kindOfWord 56 = .ok (.iload_n 1, 1) := by decide +kernel
theorem dX7_kindOfWord_57 : decode cX7_kindOfWord 57 = .ok (.iload_n 2, 1) := by decide +kernel
theorem dX7_kindOfWord_58 : decode cX7_kindOfWord 58 = .ok (.ldc 83, 2) := by decide +kernel
theorem dX7_kindOfWord_60 : decode cX7_kindOfWord 60 = .ok (.invokestatic 73, 3) := by decide +kernel
theorem dX7_kindOfWord_63 : decode cX7_kindOfWord 63 = .ok (.ifCond .eq 6, 3) := by decide +kernel
theorem dX7_kindOfWord_66 : decode cX7_kindOfWord 66 = .ok (.bipush 9, 2) := by decide +kernel
theorem dX7_kindOfWord_68 : decode cX7_kindOfWord 68 = .ok (.ireturn, 1) := by decide +kernel
theorem dX7_kindOfWord_69 : decode cX7_kindOfWord 69 = .ok (.aload_n 0, 1) := by decide +kernel
theorem dX7_kindOfWord_70 : decode cX7_kindOfWord 70 = .ok (.iload_n 1, 1) := by decide +kernel
theorem dX7_kindOfWord_71 : decode cX7_kindOfWord 71 = .ok (.iload_n 2, 1) := by decide +kernel
theorem dX7_kindOfWord_72 : decode cX7_kindOfWord 72 = .ok (.ldc 85, 2) := by decide +kernel
theorem dX7_kindOfWord_74 : decode cX7_kindOfWord 74 = .ok (.invokestatic 73, 3) := by decide +kernel
theorem dX7_kindOfWord_77 : decode cX7_kindOfWord 77 = .ok (.ifCond .eq 6, 3) := by decide +kernel
theorem dX7_kindOfWord_80 : decode cX7_kindOfWord 80 = .ok (.bipush 10, 2) := by decide +kernel
theorem dX7_kindOfWord_82 : decode cX7_kindOfWord 82 = .ok (.ireturn, 1) := by decide +kernel
theorem dX7_kindOfWord_83 : decode cX7_kindOfWord 83 = .ok (.aload_n 0, 1) := by decide +kernel
theorem dX7_kindOfWord_84 : decode cX7_kindOfWord 84 = .ok (.iload_n 1, 1) := by decide +kernel
theorem dX7_kindOfWord_85 : decode cX7_kindOfWord 85 = .ok (.iload_n 2, 1) := by decide +kernel
theorem dX7_kindOfWord_86 : decode cX7_kindOfWord 86 = .ok (.ldc 87, 2) := by decide +kernel
theorem dX7_kindOfWord_88 : decode cX7_kindOfWord 88 = .ok (.invokestatic 73, 3) := by decide +kernel
theorem dX7_kindOfWord_91 : decode cX7_kindOfWord 91 = .ok (.ifCond .eq 6, 3) := by decide +kernel
theorem dX7_kindOfWord_94 : decode cX7_kindOfWord 94 = .ok (.bipush 11, 2) := by decide +kernel
theorem dX7_kindOfWord_96 : decode cX7_kindOfWord 96 = .ok (.ireturn, 1) := by decide +kernel
theorem dX7_kindOfWord_97 : decode cX7_kindOfWord 97 = .ok (.aload_n 0, 1) := by decide +kernel
theorem dX7_kindOfWord_98 : decode cX7_kindOfWord 98 = .ok (.iload_n 1, 1) := by decide +kernel
theorem dX7_kindOfWord_99 : decode cX7_kindOfWord 99 = .ok (.iload_n 2, 1) := by decide +kernel
theorem dX7_kindOfWord_100 : decode cX7_kindOfWord 100 = .ok (.ldc 89, 2) := by decide +kernel
theorem dX7_kindOfWord_102 : decode cX7_kindOfWord 102 = .ok (.invokestatic 73, 3) := by decide +kernel
theorem dX7_kindOfWord_105 : decode cX7_kindOfWord 105 = .ok (.ifCond .eq 6, 3) := by decide +kernel
theorem dX7_kindOfWord_108 : decode cX7_kindOfWord 108 = .ok (.bipush 12, 2) := by decide +kernel
theorem dX7_kindOfWord_110 : decode cX7_kindOfWord 110 = .ok (.ireturn, 1) := by decide +kernel
theorem dX7_kindOfWord_111 : decode cX7_kindOfWord 111 = .ok (.aload_n 0, 1) := by decide +kernel
theorem dX7_kindOfWord_112 : decode cX7_kindOfWord 112 = .ok (.iload_n 1, 1) := by decide +kernel
theorem dX7_kindOfWord_113 : decode cX7_kindOfWord 113 = .ok (.iload_n 2, 1) := by decide +kernel
theorem dX7_kindOfWord_114 : decode cX7_kindOfWord 114 = .ok (.ldc 91, 2) := by decide +kernel
theorem dX7_kindOfWord_116 : decode cX7_kindOfWord 116 = .ok (.invokestatic 73, 3) := by decide +kernel
theorem dX7_kindOfWord_119 : decode cX7_kindOfWord 119 = .ok (.ifCond .eq 6, 3) := by decide +kernel
theorem dX7_kindOfWord_122 : decode cX7_kindOfWord 122 = .ok (.bipush 13, 2) := by decide +kernel
theorem dX7_kindOfWord_124 : decode cX7_kindOfWord 124 = .ok (.ireturn, 1) := by decide +kernel
theorem dX7_kindOfWord_125 : decode cX7_kindOfWord 125 = .ok (.aload_n 0, 1) := by decide +kernel
theorem dX7_kindOfWord_126 : decode cX7_kindOfWord 126 = .ok (.iload_n 1, 1) := by decide +kernel
theorem dX7_kindOfWord_127 : decode cX7_kindOfWord 127 = .ok (.iload_n 2, 1) := by decide +kernel
theorem dX7_kindOfWord_128 : decode cX7_kindOfWord 128 = .ok (.ldc 93, 2) := by decide +kernel
theorem dX7_kindOfWord_130 : decode cX7_kindOfWord 130 = .ok (.invokestatic 73, 3) := by decide +kernel
theorem dX7_kindOfWord_133 : decode cX7_kindOfWord 133 = .ok (.ifCond .eq 6, 3) := by decide +kernel
theorem dX7_kindOfWord_136 : decode cX7_kindOfWord 136 = .ok (.bipush 14, 2) := by decide +kernel
theorem dX7_kindOfWord_138 : decode cX7_kindOfWord 138 = .ok (.ireturn, 1) := by decide +kernel
theorem dX7_kindOfWord_139 : decode cX7_kindOfWord 139 = .ok (.aload_n 0, 1) := by decide +kernel
theorem dX7_kindOfWord_140 : decode cX7_kindOfWord 140 = .ok (.iload_n 1, 1) := by decide +kernel
theorem dX7_kindOfWord_141 : decode cX7_kindOfWord 141 = .ok (.iload_n 2, 1) := by decide +kernel
theorem dX7_kindOfWord_142 : decode cX7_kindOfWord 142 = .ok (.ldc 95, 2) := by decide +kernel
theorem dX7_kindOfWord_144 : decode cX7_kindOfWord 144 = .ok (.invokestatic 73, 3) := by decide +kernel
theorem dX7_kindOfWord_147 : decode cX7_kindOfWord 147 = .ok (.ifCond .eq 8, 3) := by decide +kernel
theorem dX7_kindOfWord_150 : decode cX7_kindOfWord 150 = .ok (.bipush 15, 2) := by decide +kernel
theorem dX7_kindOfWord_152 : decode cX7_kindOfWord 152 = .ok (.goto 4, 3) := by decide +kernel
theorem dX7_kindOfWord_155 : decode cX7_kindOfWord 155 = .ok (.iconst 4, 1) := by decide +kernel
theorem dX7_kindOfWord_156 : decode cX7_kindOfWord 156 = .ok (.ireturn, 1) := by decide +kernel
set_option maxRecDepth 20000 in
theorem ggX7_spells_J0_length_8abf5 : GoodIn wsX7_spells wsJ0_length_8abf5 := goodIn_r _ [5, 6, 7, 8, 9, 4, 10, 11, 12] (by decide +kernel) (by decide +kernel)
set_option maxRecDepth 20000 in
theorem gX7_spells_J0_length_8abf5 : GoodIn wsX7_spells (wsV RX7 97 RJ0 yJ0_length_8abf5 wsJ0_length_8abf5) := goodIn_app (goodIn_of _ (by decide +kernel)) ggX7_spells_J0_length_8abf5
set_option maxRecDepth 20000 in
theorem ggX7_spells_X6_byteAt : GoodIn wsX7_spells wsX6_byteAt := goodIn_r _ [17, 18, 19, 57, 58] (by decide +kernel) (by decide +kernel)
set_option maxRecDepth 20000 in
theorem gX7_spells_X6_byteAt : GoodIn wsX7_spells (wsV RX7 36 RX6 yX6_byteAt wsX6_byteAt) := goodIn_app (goodIn_of _ (by decide +kernel)) ggX7_spells_X6_byteAt
set_option maxRecDepth 20000 in
theorem ggX7_spells_J0_charAt_5068e : GoodIn wsX7_spells wsJ0_charAt_5068e := goodIn_r _ [23, 6, 24, 25, 26, 4, 27, 11, 12, 28, 29, 30, 31, 32, 33, 34, 35, 36, 37, 38, 39, 40, 41, 42, 43, 44, 45, 46, 47, 48, 49, 50, 51, 52, 53, 54, 55, 56] (by decide +kernel) (by decide +kernel)
set_option maxRecDepth 20000 in
theorem gX7_spells_J0_charAt_5068e : GoodIn wsX7_spells (wsV RX7 102 RJ0 yJ0_charAt_5068e wsJ0_charAt_5068e) := goodIn_app (goodIn_of _ (by decide +kernel)) ggX7_spells_J0_charAt_5068e
theorem dX7_spells_0 : decode cX7_spells 0 = .ok (.aload_n 3, 1) := by decide +kernel
theorem dX7_spells_1 : decode cX7_spells 1 = .ok (.invokevirtual 97, 3) := by decide +kernel
theorem dX7_spells_4 : decode cX7_spells 4 = .ok (.iload_n 2, 1) := by decide +kernel
theorem dX7_spells_5 : decode cX7_spells 5 = .ok (.if_icmp .eq 5, 3) := by decide +kernel
theorem dX7_spells_8 : decode cX7_spells 8 = .ok (.iconst 0, 1) := by decide +kernel
theorem dX7_spells_9 : decode cX7_spells 9 = .ok (.ireturn, 1) := by decide +kernel
theorem dX7_spells_10 : decode cX7_spells 10 = .ok (.iconst 0, 1) := by decide +kernel
theorem dX7_spells_11 : decode cX7_spells 11 = .ok (.istore 4, 2) := by decide +kernel
theorem dX7_spells_13 : decode cX7_spells 13 = .ok (.iload 4, 2) := by decide +kernel
theorem dX7_spells_15 : decode cX7_spells 15 = .ok (.aload_n 3, 1) := by decide +kernel
theorem dX7_spells_16 : decode cX7_spells 16 = .ok (.invokevirtual 97, 3) := by decide +kernel
theorem dX7_spells_19 : decode cX7_spells 19 = .ok (.if_icmp .ge 28, 3) := by decide +kernel
theorem dX7_spells_22 : decode cX7_spells 22 = .ok (.aload_n 0, 1) := by decide +kernel
theorem dX7_spells_23 : decode cX7_spells 23 = .ok (.iload_n 1, 1) := by decide +kernel
theorem dX7_spells_24 : decode cX7_spells 24 = .ok (.iload 4, 2) := by decide +kernel
theorem dX7_spells_26 : decode cX7_spells 26 = .ok (.iadd, 1) := by decide +kernel
theorem dX7_spells_27 : decode cX7_spells 27 = .ok (.invokevirtual 36, 3) := by decide +kernel
theorem dX7_spells_30 : decode cX7_spells 30 = .ok (.aload_n 3, 1) := by decide +kernel
theorem dX7_spells_31 : decode cX7_spells 31 = .ok (.iload 4, 2) := by decide +kernel
theorem dX7_spells_33 : decode cX7_spells 33 = .ok (.invokevirtual 102, 3) := by decide +kernel
theorem dX7_spells_36 : decode cX7_spells 36 = .ok (.if_icmp .eq 5, 3) := by decide +kernel
theorem dX7_spells_39 : decode cX7_spells 39 = .ok (.iconst 0, 1) := by decide +kernel
theorem dX7_spells_40 : decode cX7_spells 40 = .ok (.ireturn, 1) := by decide +kernel
theorem dX7_spells_41 : decode cX7_spells 41 = .ok (.iinc 4 1, 3) := by decide +kernel
theorem dX7_spells_44 : decode cX7_spells 44 = .ok (.goto (-31), 3) := by decide +kernel
theorem dX7_spells_47 : decode cX7_spells 47 = .ok (.iconst 1, 1) := by decide +kernel
theorem dX7_spells_48 : decode cX7_spells 48 = .ok (.ireturn, 1) := by decide +kernel
theorem dX8_init_0 : decode cX8_init 0 = .ok (.aload_n 0, 1) := by decide +kernel
theorem dX8_init_1 : decode cX8_init 1 = .ok (.invokespecial 3, 3) := by decide +kernel
theorem dX8_init_4 : decode cX8_init 4 = .ok (.aload_n 0, 1) := by decide +kernel
theorem dX8_init_5 : decode cX8_init 5 = .ok (.sipush 240, 3) := by decide +kernel
theorem dX8_init_8 : decode cX8_init 8 = .ok (.newarray .int, 2) := by decide +kernel
theorem dX8_init_10 : decode cX8_init 10 = .ok (.putfield 9, 3) := by decide +kernel
theorem dX8_init_13 : decode cX8_init 13 = .ok (.aload_n 0, 1) := by decide +kernel
theorem dX8_init_14 : decode cX8_init 14 = .ok (.sipush 240, 3) := by decide +kernel
theorem dX8_init_17 : decode cX8_init 17 = .ok (.newarray .int, 2) := by decide +kernel
theorem dX8_init_19 : decode cX8_init 19 = .ok (.putfield 15, 3) := by decide +kernel
theorem dX8_init_22 : decode cX8_init 22 = .ok (.return_, 1) := by decide +kernel
set_option maxRecDepth 20000 in
theorem ggX8_clear_J7_fill_53178 : GoodIn wsX8_clear wsJ7_fill_53178 := goodIn_r _ [7] (by decide +kernel) (by decide +kernel)
set_option maxRecDepth 20000 in
theorem gX8_clear_J7_fill_53178 : GoodIn wsX8_clear (va_wsS RX8 18 yJ7_fill_53178 wsJ7_fill_53178) := goodIn_app (goodIn_of _ (by decide +kernel)) ggX8_clear_J7_fill_53178
theorem dX8_clear_0 : decode cX8_clear 0 = .ok (.aload_n 0, 1) := by decide +kernel
theorem dX8_clear_1 : decode cX8_clear 1 = .ok (.getfield 9, 3) := by decide +kernel
theorem dX8_clear_4 : decode cX8_clear 4 = .ok (.iconst 0, 1) := by decide +kernel
theorem dX8_clear_5 : decode cX8_clear 5 = .ok (.invokestatic 18, 3) := by decide +kernel
theorem dX8_clear_8 : decode cX8_clear 8 = .ok (.aload_n 0, 1) := by decide +kernel
theorem dX8_clear_9 : decode cX8_clear 9 = .ok (.getfield 15, 3) := by decide +kernel
theorem dX8_clear_12 : decode cX8_clear 12 = .ok (.sipush 240, 3) := by decide +kernel
theorem dX8_clear_15 : decode cX8_clear 15 = .ok (.invokestatic 18, 3) := by decide +kernel
theorem dX8_clear_18 : decode cX8_clear 18 = .ok (.aload_n 0, 1) := by decide +kernel
theorem dX8_clear_19 : decode cX8_clear 19 = .ok (.iconst 0, 1) := by decide +kernel
theorem dX8_clear_20 : decode cX8_clear 20 = .ok (.putfield 24, 3) := by decide +kernel
theorem dX8_clear_23 : decode cX8_clear 23 = .ok (.return_, 1) := by decide +kernel
theorem dX8_has_0 : decode cX8_has 0 = .ok (.iload_n 1, 1) := by decide +kernel
theorem dX8_has_1 : decode cX8_has 1 = .ok (.ifCond .lt 25, 3) := by decide +kernel
theorem dX8_has_4 : decode cX8_has 4 = .ok (.iload_n 1, 1) := by decide +kernel
theorem dX8_has_5 : decode cX8_has 5 = .ok (.aload_n 0, 1) := by decide +kernel
theorem dX8_has_6 : decode cX8_has 6 = .ok (.getfield 9, 3) := by decide +kernel
theorem dX8_has_9 : decode cX8_has 9 = .ok (.arraylength, 1) := by decide +kernel
theorem dX8_has_10 : decode cX8_has 10 = .ok (.if_icmp .ge 16, 3) := by decide +kernel
theorem dX8_has_13 : decode cX8_has 13 = .ok (.aload_n 0, 1) := by decide +kernel
theorem dX8_has_14 : decode cX8_has 14 = .ok (.getfield 9, 3) := by decide +kernel
theorem dX8_has_17 : decode cX8_has 17 = .ok (.iload_n 1, 1) := by decide +kernel
theorem dX8_has_18 : decode cX8_has 18 = .ok (.iaload, 1) := by decide +kernel
theorem dX8_has_19 : decode cX8_has 19 = .ok (.ifCond .eq 7, 3) := by decide +kernel
theorem dX8_has_22 : decode cX8_has 22 = .ok (.iconst 1, 1) := by decide +kernel
theorem dX8_has_23 : decode cX8_has 23 = .ok (.goto 4, 3) := by decide +kernel
theorem dX8_has_26 : decode cX8_has 26 = .ok (.iconst 0, 1) := by decide +kernel
theorem dX8_has_27 : decode cX8_has 27 = .ok (.ireturn, 1) := by decide +kernel
theorem dX8_tell_0 : decode cX8_tell 0 = .ok (.iload_n 1, 1) := by decide +kernel
theorem dX8_tell_1 : decode cX8_tell 1 = .ok (.ifCond .lt 45, 3) := by decide +kernel
theorem dX8_tell_4 : decode cX8_tell 4 = .ok (.iload_n 1, 1) := by decide +kernel
theorem dX8_tell_5 : decode cX8_tell 5 = .ok (.aload_n 0, 1) := by decide +kernel
theorem dX8_tell_6 : decode cX8_tell 6 = .ok (.getfield 9, 3) := by decide +kernel
theorem dX8_tell_9 : decode cX8_tell 9 = .ok (.arraylength, 1) := by decide +kernel
theorem dX8_tell_10 : decode cX8_tell 10 = .ok (.if_icmp .ge 36, 3) := by decide +kernel
theorem dX8_tell_13 : decode cX8_tell 13 = .ok (.iload_n 1, 1) := by decide +kernel
theorem dX8_tell_14 : decode cX8_tell 14 = .ok (.aload_n 0, 1) := by decide +kernel
theorem dX8_tell_15 : decode cX8_tell 15 = .ok (.getfield 15, 3) := by decide +kernel
theorem dX8_tell_18 : decode cX8_tell 18 = .ok (.arraylength, 1) := by decide +kernel
theorem dX8_tell_19 : decode cX8_tell 19 = .ok (.if_icmp .ge 27, 3) := by decide +kernel
theorem dX8_tell_22 : decode cX8_tell 22 = .ok (.aload_n 0, 1) := by decide +kernel
theorem dX8_tell_23 : decode cX8_tell 23 = .ok (.getfield 9, 3) := by decide +kernel
theorem dX8_tell_26 : decode cX8_tell 26 = .ok (.iload_n 1, 1) := by decide +kernel
theorem dX8_tell_27 : decode cX8_tell 27 = .ok (.iload_n 2, 1) := by decide +kernel
theorem dX8_tell_28 : decode cX8_tell 28 = .ok (.iastore, 1) := by decide +kernel
theorem dX8_tell_29 : decode cX8_tell 29 = .ok (.aload_n 0, 1) := by decide +kernel
theorem dX8_tell_30 : decode cX8_tell 30 = .ok (.getfield 15, 3) := by decide +kernel
theorem dX8_tell_33 : decode cX8_tell 33 = .ok (.iload_n 1, 1) := by decide +kernel
theorem dX8_tell_34 : decode cX8_tell 34 = .ok (.iload_n 3, 1) := by decide +kernel
theorem dX8_tell_35 : decode cX8_tell 35 = .ok (.iastore, 1) := by decide +kernel
theorem dX8_tell_36 : decode cX8_tell 36 = .ok (.aload_n 0, 1) := by decide +kernel
theorem dX8_tell_37 : decode cX8_tell 37 = .ok (.dup, 1) := by decide +kernel
theorem dX8_tell_38 : decode cX8_tell 38 = .ok (.getfield 24, 3) := by decide +kernel
theorem dX8_tell_41 : decode cX8_tell 41 = .ok (.iconst 1, 1) := by decide +kernel
theorem dX8_tell_42 : decode cX8_tell 42 = .ok (.iadd, 1) := by decide +kernel
theorem dX8_tell_43 : decode cX8_tell 43 = .ok (.putfield 24, 3) := by decide +kernel
theorem dX8_tell_46 : decode cX8_tell 46 = .ok (.return_, 1) := by decide +kernel
theorem dX8_drop_0 : decode cX8_drop 0 = .ok (.iload_n 1, 1) := by decide +kernel
theorem dX8_drop_1 : decode cX8_drop 1 = .ok (.ifCond .lt 47, 3) := by decide +kernel
theorem dX8_drop_4 : decode cX8_drop 4 = .ok (.iload_n 1, 1) := by decide +kernel
theorem dX8_drop_5 : decode cX8_drop 5 = .ok (.aload_n 0, 1) := by decide +kernel
theorem dX8_drop_6 : decode cX8_drop 6 = .ok (.getfield 9, 3) := by decide +kernel
theorem dX8_drop_9 : decode cX8_drop 9 = .ok (.arraylength, 1) := by decide +kernel
theorem dX8_drop_10 : decode cX8_drop 10 = .ok (.if_icmp .ge 38, 3) := by decide +kernel
theorem dX8_drop_13 : decode cX8_drop 13 = .ok (.iload_n 1, 1) := by decide +kernel
theorem dX8_drop_14 : decode cX8_drop 14 = .ok (.aload_n 0, 1) := by decide +kernel
theorem dX8_drop_15 : decode cX8_drop 15 = .ok (.getfield 15, 3) := by decide +kernel
theorem dX8_drop_18 : decode cX8_drop 18 = .ok (.arraylength, 1) := by decide +kernel
theorem dX8_drop_19 : decode cX8_drop 19 = .ok (.if_icmp .ge 29, 3) := by decide +kernel
theorem dX8_drop_22 : decode cX8_drop 22 = .ok (.aload_n 0, 1) := by decide +kernel
theorem dX8_drop_23 : decode cX8_drop 23 = .ok (.getfield 9, 3) := by decide +kernel
theorem dX8_drop_26 : decode cX8_drop 26 = .ok (.iload_n 1, 1) := by decide +kernel
theorem dX8_drop_27 : decode cX8_drop 27 = .ok (.iconst 0, 1) := by decide +kernel
theorem dX8_drop_28 : decode cX8_drop 28 = .ok (.iastore, 1) := by decide +kernel
theorem dX8_drop_29 : decode cX8_drop 29 = .ok (.aload_n 0, 1) := by decide +kernel
theorem dX8_drop_30 : decode cX8_drop 30 = .ok (.getfield 15, 3) := by decide +kernel
theorem dX8_drop_33 : decode cX8_drop 33 = .ok (.iload_n 1, 1) := by decide +kernel
theorem dX8_drop_34 : decode cX8_drop 34 = .ok (.sipush 240, 3) := by decide +kernel
theorem dX8_drop_37 : decode cX8_drop 37 = .ok (.iastore, 1) := by decide +kernel
theorem dX8_drop_38 : decode cX8_drop 38 = .ok (.aload_n 0, 1) := by decide +kernel
theorem dX8_drop_39 : decode cX8_drop 39 = .ok (.dup, 1) := by decide +kernel
theorem dX8_drop_40 : decode cX8_drop 40 = .ok (.getfield 24, 3) := by decide +kernel
theorem dX8_drop_43 : decode cX8_drop 43 = .ok (.iconst 1, 1) := by decide +kernel
theorem dX8_drop_44 : decode cX8_drop 44 = .ok (.isub, 1) := by decide +kernel
theorem dX8_drop_45 : decode cX8_drop 45 = .ok (.putfield 24, 3) := by decide +kernel
theorem dX8_drop_48 : decode cX8_drop 48 = .ok (.return_, 1) := by decide +kernel
set_option maxRecDepth 20000 in
theorem ggX8_fillIndex_J7_fill_53178 : GoodIn wsX8_fillIndex wsJ7_fill_53178 := goodIn_r _ [6] (by decide +kernel) (by decide +kernel)
set_option maxRecDepth 20000 in
theorem gX8_fillIndex_J7_fill_53178 : GoodIn wsX8_fillIndex (va_wsS RX8 18 yJ7_fill_53178 wsJ7_fill_53178) := goodIn_app (goodIn_of _ (by decide +kernel)) ggX8_fillIndex_J7_fill_53178
set_option maxRecDepth 20000 in
theorem ggX8_fillIndex_X8_has : GoodIn wsX8_fillIndex wsX8_has := goodIn_r _ [11, 2, 15, 16, 17] (by decide +kernel) (by decide +kernel)
set_option maxRecDepth 20000 in
theorem gX8_fillIndex_X8_has : GoodIn wsX8_fillIndex (wsV RX8 28 RX8 yX8_has wsX8_has) := goodIn_app (goodIn_of _ (by decide +kernel)) ggX8_fillIndex_X8_has
set_option maxRecDepth 20000 in
theorem ggX8_fillIndex_X8_fillBetween : GoodIn wsX8_fillIndex wsX8_fillBetween := goodIn_r _ [14] (by decide +kernel) (by decide +kernel)
set_option maxRecDepth 20000 in
theorem gX8_fillIndex_X8_fillBetween : GoodIn wsX8_fillIndex (va_wsS RX8 32 yX8_fillBetween wsX8_fillBetween) := goodIn_app (goodIn_of _ (by decide +kernel)) ggX8_fillIndex_X8_fillBetween
theorem dX8_fillIndex_0 : decode cX8_fillIndex 0 = .ok (.aload_n 1, 1) := by decide +kernel
theorem dX8_fillIndex_1 : decode cX8_fillIndex 1 = .ok (.iconst 0, 1) := by decide +kernel
theorem dX8_fillIndex_2 : decode cX8_fillIndex 2 = .ok (.invokestatic 18, 3) := by decide +kernel
theorem dX8_fillIndex_5 : decode cX8_fillIndex 5 = .ok (.iconst (-1), 1) := by decide +kernel
theorem dX8_fillIndex_6 : decode cX8_fillIndex 6 = .ok (.istore_n 3, 1) := by decide +kernel
theorem dX8_fillIndex_7 : decode cX8_fillIndex 7 = .ok (.iconst 0, 1) := by decide +kernel
theorem dX8_fillIndex_8 : decode cX8_fillIndex 8 = .ok (.istore 4, 2) := by decide +kernel
theorem dX8_fillIndex_10 : decode cX8_fillIndex 10 = .ok (.iload 4, 2) := by decide +kernel
theorem dX8_fillIndex_12 : decode cX8_fillIndex 12 = .ok (.aload_n 1, 1) := by decide +kernel
theorem dX8_fillIndex_13 : decode cX8_fillIndex 13 = .ok (.arraylength, 1) := by decide +kernel
theorem dX8_fillIndex_14 : decode cX8_fillIndex 14 = .ok (.if_icmp .ge 60, 3) := by decide +kernel
theorem dX8_fillIndex_17 : decode cX8_fillIndex 17 = .ok (.iload 4, 2) := by decide +kernel
theorem dX8_fillIndex_19 : decode cX8_fillIndex 19 = .ok (.aload_n 0, 1) := by decide +kernel
theorem dX8_fillIndex_20 : decode cX8_fillIndex 20 = .ok (.getfield 15, 3) := by decide +kernel
theorem dX8_fillIndex_23 : decode cX8_fillIndex 23 = .ok (.arraylength, 1) := by decide +kernel
theorem dX8_fillIndex_24 : decode cX8_fillIndex 24 = .ok (.if_icmp .ge 50, 3) := by decide +kernel
theorem dX8_fillIndex_27 : decode cX8_fillIndex 27 = .ok (.aload_n 0, 1) := by decide +kernel
theorem dX8_fillIndex_28 : decode cX8_fillIndex 28 = .ok (.iload 4, 2) := by decide +kernel
theorem dX8_fillIndex_30 : decode cX8_fillIndex 30 = .ok (.invokevirtual 28, 3) := by decide +kernel
theorem dX8_fillIndex_33 : decode cX8_fillIndex 33 = .ok (.ifCond .eq 35, 3) := by decide +kernel
theorem dX8_fillIndex_36 : decode cX8_fillIndex 36 = .ok (.aload_n 0, 1) := by decide +kernel
theorem dX8_fillIndex_37 : decode cX8_fillIndex 37 = .ok (.getfield 15, 3) := by decide +kernel
theorem dX8_fillIndex_40 : decode cX8_fillIndex 40 = .ok (.iload 4, 2) := by decide +kernel
theorem dX8_fillIndex_42 : decode cX8_fillIndex 42 = .ok (.iaload, 1) := by decide +kernel
theorem dX8_fillIndex_43 : decode cX8_fillIndex 43 = .ok (.iload_n 2, 1) := by decide +kernel
theorem dX8_fillIndex_44 : decode cX8_fillIndex 44 = .ok (.if_icmp .gt 24, 3) := by decide +kernel
theorem dX8_fillIndex_47 : decode cX8_fillIndex 47 = .ok (.aload_n 1, 1) := by decide +kernel
theorem dX8_fillIndex_48 : decode cX8_fillIndex 48 = .ok (.iload 4, 2) := by decide +kernel
theorem dX8_fillIndex_50 : decode cX8_fillIndex 50 = .ok (.aload_n 0, 1) := by decide +kernel
theorem dX8_fillIndex_51 : decode cX8_fillIndex 51 = .ok (.getfield 9, 3) := by decide +kernel
theorem dX8_fillIndex_54 : decode cX8_fillIndex 54 = .ok (.iload 4, 2) := by decide +kernel
theorem dX8_fillIndex_56 : decode cX8_fillIndex 56 = .ok (.iaload, 1) := by decide +kernel
theorem dX8_fillIndex_57 : decode cX8_fillIndex 57 = .ok (.iastore, 1) := by decide +kernel
