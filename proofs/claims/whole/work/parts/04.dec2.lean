theorem dX8_fillIndex_58 : decode cX8_fillIndex 58 = .ok (.aload_n 1, 1) := by decide +kernel
theorem dX8_fillIndex_59 : decode cX8_fillIndex 59 = .ok (.iload_n 3, 1) := by decide +kernel
theorem dX8_fillIndex_60 : decode cX8_fillIndex 60 = .ok (.iload 4, 2) := by decide +kernel
theorem dX8_fillIndex_62 : decode cX8_fillIndex 62 = .ok (.invokestatic 32, 3) := by decide +kernel
theorem dX8_fillIndex_65 : decode cX8_fillIndex 65 = .ok (.iload 4, 2) := by decide +kernel
theorem dX8_fillIndex_67 : decode cX8_fillIndex 67 = .ok (.istore_n 3, 1) := by decide +kernel
theorem dX8_fillIndex_68 : decode cX8_fillIndex 68 = .ok (.iinc 4 1, 3) := by decide +kernel
theorem dX8_fillIndex_71 : decode cX8_fillIndex 71 = .ok (.goto (-61), 3) := by decide +kernel
theorem dX8_fillIndex_74 : decode cX8_fillIndex 74 = .ok (.return_, 1) := by decide +kernel
theorem dX8_fillBetween_0 : decode cX8_fillBetween 0 = .ok (.iload_n 2, 1) := by decide +kernel
theorem dX8_fillBetween_1 : decode cX8_fillBetween 1 = .ok (.iload_n 1, 1) := by decide +kernel
theorem dX8_fillBetween_2 : decode cX8_fillBetween 2 = .ok (.isub, 1) := by decide +kernel
theorem dX8_fillBetween_3 : decode cX8_fillBetween 3 = .ok (.istore_n 3, 1) := by decide +kernel
theorem dX8_fillBetween_4 : decode cX8_fillBetween 4 = .ok (.iload_n 1, 1) := by decide +kernel
theorem dX8_fillBetween_5 : decode cX8_fillBetween 5 = .ok (.ifCond .lt 14, 3) := by decide +kernel
theorem dX8_fillBetween_8 : decode cX8_fillBetween 8 = .ok (.iload_n 2, 1) := by decide +kernel
theorem dX8_fillBetween_9 : decode cX8_fillBetween 9 = .ok (.aload_n 0, 1) := by decide +kernel
theorem dX8_fillBetween_10 : decode cX8_fillBetween 10 = .ok (.arraylength, 1) := by decide +kernel
theorem dX8_fillBetween_11 : decode cX8_fillBetween 11 = .ok (.if_icmp .ge 8, 3) := by decide +kernel
theorem dX8_fillBetween_14 : decode cX8_fillBetween 14 = .ok (.iload_n 3, 1) := by decide +kernel
theorem dX8_fillBetween_15 : decode cX8_fillBetween 15 = .ok (.iconst 1, 1) := by decide +kernel
theorem dX8_fillBetween_16 : decode cX8_fillBetween 16 = .ok (.if_icmp .ge 4, 3) := by decide +kernel
theorem dX8_fillBetween_19 : decode cX8_fillBetween 19 = .ok (.return_, 1) := by decide +kernel
theorem dX8_fillBetween_20 : decode cX8_fillBetween 20 = .ok (.aload_n 0, 1) := by decide +kernel
theorem dX8_fillBetween_21 : decode cX8_fillBetween 21 = .ok (.iload_n 2, 1) := by decide +kernel
theorem dX8_fillBetween_22 : decode cX8_fillBetween 22 = .ok (.iaload, 1) := by decide +kernel
theorem dX8_fillBetween_23 : decode cX8_fillBetween 23 = .ok (.aload_n 0, 1) := by decide +kernel
theorem dX8_fillBetween_24 : decode cX8_fillBetween 24 = .ok (.iload_n 1, 1) := by decide +kernel
theorem dX8_fillBetween_25 : decode cX8_fillBetween 25 = .ok (.iaload, 1) := by decide +kernel
theorem dX8_fillBetween_26 : decode cX8_fillBetween 26 = .ok (.isub, 1) := by decide +kernel
theorem dX8_fillBetween_27 : decode cX8_fillBetween 27 = .ok (.istore 4, 2) := by decide +kernel
theorem dX8_fillBetween_29 : decode cX8_fillBetween 29 = .ok (.iload_n 1, 1) := by decide +kernel
theorem dX8_fillBetween_30 : decode cX8_fillBetween 30 = .ok (.iconst 1, 1) := by decide +kernel
theorem dX8_fillBetween_31 : decode cX8_fillBetween 31 = .ok (.iadd, 1) := by decide +kernel
theorem dX8_fillBetween_32 : decode cX8_fillBetween 32 = .ok (.istore 5, 2) := by decide +kernel
theorem dX8_fillBetween_34 : decode cX8_fillBetween 34 = .ok (.iload 5, 2) := by decide +kernel
theorem dX8_fillBetween_36 : decode cX8_fillBetween 36 = .ok (.iload_n 2, 1) := by decide +kernel
theorem dX8_fillBetween_37 : decode cX8_fillBetween 37 = .ok (.if_icmp .ge 26, 3) := by decide +kernel
theorem dX8_fillBetween_40 : decode cX8_fillBetween 40 = .ok (.aload_n 0, 1) := by decide +kernel
theorem dX8_fillBetween_41 : decode cX8_fillBetween 41 = .ok (.iload 5, 2) := by decide +kernel
theorem dX8_fillBetween_43 : decode cX8_fillBetween 43 = .ok (.aload_n 0, 1) := by decide +kernel
theorem dX8_fillBetween_44 : decode cX8_fillBetween 44 = .ok (.iload_n 1, 1) := by decide +kernel
theorem dX8_fillBetween_45 : decode cX8_fillBetween 45 = .ok (.iaload, 1) := by decide +kernel
theorem dX8_fillBetween_46 : decode cX8_fillBetween 46 = .ok (.iload 4, 2) := by decide +kernel
theorem dX8_fillBetween_48 : decode cX8_fillBetween 48 = .ok (.iload 5, 2) := by decide +kernel
theorem dX8_fillBetween_50 : decode cX8_fillBetween 50 = .ok (.iload_n 1, 1) := by decide +kernel
theorem dX8_fillBetween_51 : decode cX8_fillBetween 51 = .ok (.isub, 1) := by decide +kernel
theorem dX8_fillBetween_52 : decode cX8_fillBetween 52 = .ok (.imul, 1) := by decide +kernel
theorem dX8_fillBetween_53 : decode cX8_fillBetween 53 = .ok (.iload_n 3, 1) := by decide +kernel
theorem dX8_fillBetween_54 : decode cX8_fillBetween 54 = .ok (.idiv, 1) := by decide +kernel
theorem dX8_fillBetween_55 : decode cX8_fillBetween 55 = .ok (.iadd, 1) := by decide +kernel
theorem dX8_fillBetween_56 : decode cX8_fillBetween 56 = .ok (.iastore, 1) := by decide +kernel
theorem dX8_fillBetween_57 : decode cX8_fillBetween 57 = .ok (.iinc 5 1, 3) := by decide +kernel
theorem dX8_fillBetween_60 : decode cX8_fillBetween 60 = .ok (.goto (-26), 3) := by decide +kernel
theorem dX8_fillBetween_63 : decode cX8_fillBetween 63 = .ok (.return_, 1) := by decide +kernel
theorem dX9_init_0 : decode cX9_init 0 = .ok (.aload_n 0, 1) := by decide +kernel
theorem dX9_init_1 : decode cX9_init 1 = .ok (.invokespecial 3, 3) := by decide +kernel
theorem dX9_init_4 : decode cX9_init 4 = .ok (.aload_n 0, 1) := by decide +kernel
theorem dX9_init_5 : decode cX9_init 5 = .ok (.sipush 240, 3) := by decide +kernel
theorem dX9_init_8 : decode cX9_init 8 = .ok (.newarray .int, 2) := by decide +kernel
theorem dX9_init_10 : decode cX9_init 10 = .ok (.putfield 9, 3) := by decide +kernel
theorem dX9_init_13 : decode cX9_init 13 = .ok (.return_, 1) := by decide +kernel
set_option maxRecDepth 20000 in
theorem ggX9_begin_X9_knowIndex : GoodIn wsX9_begin wsX9_knowIndex := goodIn_r _ [13, 14, 15, 16, 17, 18, 19, 20, 21, 22, 23, 24, 25, 26, 27, 28, 29, 30, 31, 32, 33, 34, 35, 36, 37, 38, 39, 54, 55, 56] (by decide +kernel) (by decide +kernel)
set_option maxRecDepth 20000 in
theorem gX9_begin_X9_knowIndex : GoodIn wsX9_begin (wsV RX9 42 RX9 yX9_knowIndex wsX9_knowIndex) := goodIn_app (goodIn_of _ (by decide +kernel)) ggX9_begin_X9_knowIndex
theorem dX9_begin_0 : decode cX9_begin 0 = .ok (.aload_n 0, 1) := by decide +kernel
theorem dX9_begin_1 : decode cX9_begin 1 = .ok (.iload_n 3, 1) := by decide +kernel
theorem dX9_begin_2 : decode cX9_begin 2 = .ok (.putfield 15, 3) := by decide +kernel
theorem dX9_begin_5 : decode cX9_begin 5 = .ok (.aload_n 0, 1) := by decide +kernel
theorem dX9_begin_6 : decode cX9_begin 6 = .ok (.iconst 0, 1) := by decide +kernel
theorem dX9_begin_7 : decode cX9_begin 7 = .ok (.putfield 19, 3) := by decide +kernel
theorem dX9_begin_10 : decode cX9_begin 10 = .ok (.aload_n 0, 1) := by decide +kernel
theorem dX9_begin_11 : decode cX9_begin 11 = .ok (.aload_n 1, 1) := by decide +kernel
theorem dX9_begin_12 : decode cX9_begin 12 = .ok (.getfield 22, 3) := by decide +kernel
theorem dX9_begin_15 : decode cX9_begin 15 = .ok (.putfield 27, 3) := by decide +kernel
theorem dX9_begin_18 : decode cX9_begin 18 = .ok (.aload_n 0, 1) := by decide +kernel
theorem dX9_begin_19 : decode cX9_begin 19 = .ok (.iconst (-1), 1) := by decide +kernel
theorem dX9_begin_20 : decode cX9_begin 20 = .ok (.putfield 30, 3) := by decide +kernel
theorem dX9_begin_23 : decode cX9_begin 23 = .ok (.aload_n 0, 1) := by decide +kernel
theorem dX9_begin_24 : decode cX9_begin 24 = .ok (.aload_n 1, 1) := by decide +kernel
theorem dX9_begin_25 : decode cX9_begin 25 = .ok (.getfield 22, 3) := by decide +kernel
theorem dX9_begin_28 : decode cX9_begin 28 = .ok (.putfield 33, 3) := by decide +kernel
theorem dX9_begin_31 : decode cX9_begin 31 = .ok (.aload_n 0, 1) := by decide +kernel
theorem dX9_begin_32 : decode cX9_begin 32 = .ok (.aload_n 1, 1) := by decide +kernel
theorem dX9_begin_33 : decode cX9_begin 33 = .ok (.getfield 22, 3) := by decide +kernel
theorem dX9_begin_36 : decode cX9_begin 36 = .ok (.putfield 36, 3) := by decide +kernel
theorem dX9_begin_39 : decode cX9_begin 39 = .ok (.aload_n 1, 1) := by decide +kernel
theorem dX9_begin_40 : decode cX9_begin 40 = .ok (.getfield 39, 3) := by decide +kernel
theorem dX9_begin_43 : decode cX9_begin 43 = .ok (.iconst 1, 1) := by decide +kernel
theorem dX9_begin_44 : decode cX9_begin 44 = .ok (.if_icmp .ne 9, 3) := by decide +kernel
theorem dX9_begin_47 : decode cX9_begin 47 = .ok (.aload_n 0, 1) := by decide +kernel
theorem dX9_begin_48 : decode cX9_begin 48 = .ok (.aload_n 2, 1) := by decide +kernel
theorem dX9_begin_49 : decode cX9_begin 49 = .ok (.iload_n 3, 1) := by decide +kernel
theorem dX9_begin_50 : decode cX9_begin 50 = .ok (.invokevirtual 42, 3) := by decide +kernel
theorem dX9_begin_53 : decode cX9_begin 53 = .ok (.return_, 1) := by decide +kernel
set_option maxRecDepth 20000 in
theorem ggX9_knowIndex_X8_fillIndex : GoodIn wsX9_knowIndex wsX8_fillIndex := goodIn_r _ [6, 7, 8, 9, 10, 11, 12, 13, 14, 15, 5, 16, 17, 18, 19, 27, 28, 29] (by decide +kernel) (by decide +kernel)
set_option maxRecDepth 20000 in
theorem gX9_knowIndex_X8_fillIndex : GoodIn wsX9_knowIndex (wsV RX9 46 RX8 yX8_fillIndex wsX8_fillIndex) := goodIn_app (goodIn_of _ (by decide +kernel)) ggX9_knowIndex_X8_fillIndex
theorem dX9_knowIndex_0 : decode cX9_knowIndex 0 = .ok (.aload_n 1, 1) := by decide +kernel
theorem dX9_knowIndex_1 : decode cX9_knowIndex 1 = .ok (.aload_n 0, 1) := by decide +kernel
theorem dX9_knowIndex_2 : decode cX9_knowIndex 2 = .ok (.getfield 9, 3) := by decide +kernel
theorem dX9_knowIndex_5 : decode cX9_knowIndex 5 = .ok (.iload_n 2, 1) := by decide +kernel
theorem dX9_knowIndex_6 : decode cX9_knowIndex 6 = .ok (.invokevirtual 46, 3) := by decide +kernel
theorem dX9_knowIndex_9 : decode cX9_knowIndex 9 = .ok (.return_, 1) := by decide +kernel
theorem dX9_indexOf_0 : decode cX9_indexOf 0 = .ok (.iload_n 1, 1) := by decide +kernel
theorem dX9_indexOf_1 : decode cX9_indexOf 1 = .ok (.ifCond .lt 21, 3) := by decide +kernel
theorem dX9_indexOf_4 : decode cX9_indexOf 4 = .ok (.iload_n 1, 1) := by decide +kernel
theorem dX9_indexOf_5 : decode cX9_indexOf 5 = .ok (.aload_n 0, 1) := by decide +kernel
theorem dX9_indexOf_6 : decode cX9_indexOf 6 = .ok (.getfield 9, 3) := by decide +kernel
theorem dX9_indexOf_9 : decode cX9_indexOf 9 = .ok (.arraylength, 1) := by decide +kernel
theorem dX9_indexOf_10 : decode cX9_indexOf 10 = .ok (.if_icmp .ge 12, 3) := by decide +kernel
theorem dX9_indexOf_13 : decode cX9_indexOf 13 = .ok (.aload_n 0, 1) := by decide +kernel
theorem dX9_indexOf_14 : decode cX9_indexOf 14 = .ok (.getfield 9, 3) := by decide +kernel
theorem dX9_indexOf_17 : decode cX9_indexOf 17 = .ok (.iload_n 1, 1) := by decide +kernel
theorem dX9_indexOf_18 : decode cX9_indexOf 18 = .ok (.iaload, 1) := by decide +kernel
theorem dX9_indexOf_19 : decode cX9_indexOf 19 = .ok (.goto 4, 3) := by decide +kernel
theorem dX9_indexOf_22 : decode cX9_indexOf 22 = .ok (.iconst 0, 1) := by decide +kernel
theorem dX9_indexOf_23 : decode cX9_indexOf 23 = .ok (.ireturn, 1) := by decide +kernel
set_option maxRecDepth 20000 in
theorem ggX9_goTo_X2_reviews : GoodIn wsX9_goTo wsX2_reviews := goodIn_r _ [18, 19, 20, 21, 82, 83, 84, 85, 86, 87, 88, 89, 90, 91, 92, 93, 94, 95] (by decide +kernel) (by decide +kernel)
set_option maxRecDepth 20000 in
theorem gX9_goTo_X2_reviews : GoodIn wsX9_goTo (wsV RX9 52 RX2 yX2_reviews wsX2_reviews) := goodIn_app (goodIn_of _ (by decide +kernel)) ggX9_goTo_X2_reviews
set_option maxRecDepth 20000 in
theorem ggX9_goTo_X2_reviewMonth : GoodIn wsX9_goTo wsX2_reviewMonth := goodIn_r _ [25, 26, 20, 82, 83, 84, 85, 86, 87, 88, 89, 90, 91, 92, 93, 94, 95] (by decide +kernel) (by decide +kernel)
set_option maxRecDepth 20000 in
theorem gX9_goTo_X2_reviewMonth : GoodIn wsX9_goTo (wsV RX9 56 RX2 yX2_reviewMonth wsX2_reviewMonth) := goodIn_app (goodIn_of _ (by decide +kernel)) ggX9_goTo_X2_reviewMonth
set_option maxRecDepth 20000 in
theorem ggX9_goTo_X9_wantedBy : GoodIn wsX9_goTo wsX9_wantedBy := goodIn_r _ [31, 32, 33, 13, 34, 35, 36, 37, 30, 38, 39, 40, 22, 23, 24, 17, 25, 26, 20, 41, 42, 43, 44, 45, 46, 47, 48, 49, 50, 51, 52, 53, 54, 55, 56, 57, 58, 59, 60, 61, 62, 63, 11, 64, 65, 66, 67, 82, 83, 84, 85, 86, 87, 88, 89, 90, 91, 92, 93, 94, 95, 75, 76, 77, 78, 79, 80, 81] (by decide +kernel) (by decide +kernel)
set_option maxRecDepth 20000 in
theorem gX9_goTo_X9_wantedBy : GoodIn wsX9_goTo (wsV RX9 60 RX9 yX9_wantedBy wsX9_wantedBy) := goodIn_app (goodIn_of _ (by decide +kernel)) ggX9_goTo_X9_wantedBy
set_option maxRecDepth 20000 in
theorem ggX9_goTo_X9_thousandths : GoodIn wsX9_goTo wsX9_thousandths := goodIn_r _ [67, 61] (by decide +kernel) (by decide +kernel)
set_option maxRecDepth 20000 in
theorem gX9_goTo_X9_thousandths : GoodIn wsX9_goTo (va_wsS RX9 73 yX9_thousandths wsX9_thousandths) := goodIn_app (goodIn_of _ (by decide +kernel)) ggX9_goTo_X9_thousandths
set_option maxRecDepth 20000 in
theorem ggX9_goTo_X9_held : GoodIn wsX9_goTo wsX9_held := goodIn_r _ [71, 2, 72, 73, 13, 5, 62, 63, 11, 64, 7, 9, 10, 12, 4, 3, 6, 74, 8, 65, 66, 30, 67, 61, 75, 76, 77, 78, 79, 80, 81, 82, 83, 84, 85, 86, 87, 88, 89, 90, 91, 92, 93, 94, 95, 96, 97, 98] (by decide +kernel) (by decide +kernel)
set_option maxRecDepth 20000 in
theorem gX9_goTo_X9_held : GoodIn wsX9_goTo (wsV RX9 87 RX9 yX9_held wsX9_held) := goodIn_app (goodIn_of _ (by decide +kernel)) ggX9_goTo_X9_held
theorem dX9_goTo_0 : decode cX9_goTo 0 = .ok (.aload_n 1, 1) := by decide +kernel
theorem dX9_goTo_1 : decode cX9_goTo 1 = .ok (.invokevirtual 52, 3) := by decide +kernel
theorem dX9_goTo_4 : decode cX9_goTo 4 = .ok (.istore_n 3, 1) := by decide +kernel
theorem dX9_goTo_5 : decode cX9_goTo 5 = .ok (.aload_n 0, 1) := by decide +kernel
theorem dX9_goTo_6 : decode cX9_goTo 6 = .ok (.getfield 19, 3) := by decide +kernel
theorem dX9_goTo_9 : decode cX9_goTo 9 = .ok (.iconst 1, 1) := by decide +kernel
theorem dX9_goTo_10 : decode cX9_goTo 10 = .ok (.iadd, 1) := by decide +kernel
theorem dX9_goTo_11 : decode cX9_goTo 11 = .ok (.istore 4, 2) := by decide +kernel
theorem dX9_goTo_13 : decode cX9_goTo 13 = .ok (.iload 4, 2) := by decide +kernel
theorem dX9_goTo_15 : decode cX9_goTo 15 = .ok (.iload_n 3, 1) := by decide +kernel
theorem dX9_goTo_16 : decode cX9_goTo 16 = .ok (.if_icmp .gt 104, 3) := by decide +kernel
theorem dX9_goTo_19 : decode cX9_goTo 19 = .ok (.aload_n 1, 1) := by decide +kernel
theorem dX9_goTo_20 : decode cX9_goTo 20 = .ok (.iload 4, 2) := by decide +kernel
theorem dX9_goTo_22 : decode cX9_goTo 22 = .ok (.invokevirtual 56, 3) := by decide +kernel
theorem dX9_goTo_25 : decode cX9_goTo 25 = .ok (.iload_n 2, 1) := by decide +kernel
theorem dX9_goTo_26 : decode cX9_goTo 26 = .ok (.if_icmp .gt 94, 3) := by decide +kernel
theorem dX9_goTo_29 : decode cX9_goTo 29 = .ok (.aload_n 0, 1) := by decide +kernel
theorem dX9_goTo_30 : decode cX9_goTo 30 = .ok (.iload 4, 2) := by decide +kernel
theorem dX9_goTo_32 : decode cX9_goTo 32 = .ok (.putfield 19, 3) := by decide +kernel
theorem dX9_goTo_35 : decode cX9_goTo 35 = .ok (.aload_n 0, 1) := by decide +kernel
theorem dX9_goTo_36 : decode cX9_goTo 36 = .ok (.aload_n 0, 1) := by decide +kernel
theorem dX9_goTo_37 : decode cX9_goTo 37 = .ok (.aload_n 1, 1) := by decide +kernel
theorem dX9_goTo_38 : decode cX9_goTo 38 = .ok (.iload 4, 2) := by decide +kernel
theorem dX9_goTo_40 : decode cX9_goTo 40 = .ok (.invokevirtual 60, 3) := by decide +kernel
theorem dX9_goTo_43 : decode cX9_goTo 43 = .ok (.putfield 30, 3) := by decide +kernel
theorem dX9_goTo_46 : decode cX9_goTo 46 = .ok (.aload_n 0, 1) := by decide +kernel
theorem dX9_goTo_47 : decode cX9_goTo 47 = .ok (.aload_n 0, 1) := by decide +kernel
theorem dX9_goTo_48 : decode cX9_goTo 48 = .ok (.getfield 33, 3) := by decide +kernel
theorem dX9_goTo_51 : decode cX9_goTo 51 = .ok (.i2l, 1) := by decide +kernel
theorem dX9_goTo_52 : decode cX9_goTo 52 = .ok (.sipush 1000, 3) := by decide +kernel
theorem dX9_goTo_55 : decode cX9_goTo 55 = .ok (.aload_n 1, 1) := by decide +kernel
theorem dX9_goTo_56 : decode cX9_goTo 56 = .ok (.getfield 64, 3) := by decide +kernel
theorem dX9_goTo_59 : decode cX9_goTo 59 = .ok (.getfield 68, 3) := by decide +kernel
theorem dX9_goTo_62 : decode cX9_goTo 62 = .ok (.isub, 1) := by decide +kernel
theorem dX9_goTo_63 : decode cX9_goTo 63 = .ok (.invokestatic 73, 3) := by decide +kernel
theorem dX9_goTo_66 : decode cX9_goTo 66 = .ok (.putfield 33, 3) := by decide +kernel
theorem dX9_goTo_69 : decode cX9_goTo 69 = .ok (.aload_n 0, 1) := by decide +kernel
theorem dX9_goTo_70 : decode cX9_goTo 70 = .ok (.aload_n 0, 1) := by decide +kernel
theorem dX9_goTo_71 : decode cX9_goTo 71 = .ok (.getfield 36, 3) := by decide +kernel
theorem dX9_goTo_74 : decode cX9_goTo 74 = .ok (.i2l, 1) := by decide +kernel
theorem dX9_goTo_75 : decode cX9_goTo 75 = .ok (.sipush 1000, 3) := by decide +kernel
theorem dX9_goTo_78 : decode cX9_goTo 78 = .ok (.aload_n 1, 1) := by decide +kernel
theorem dX9_goTo_79 : decode cX9_goTo 79 = .ok (.getfield 64, 3) := by decide +kernel
theorem dX9_goTo_82 : decode cX9_goTo 82 = .ok (.getfield 77, 3) := by decide +kernel
theorem dX9_goTo_85 : decode cX9_goTo 85 = .ok (.iadd, 1) := by decide +kernel
theorem dX9_goTo_86 : decode cX9_goTo 86 = .ok (.invokestatic 73, 3) := by decide +kernel
theorem dX9_goTo_89 : decode cX9_goTo 89 = .ok (.ldc 80, 2) := by decide +kernel
theorem dX9_goTo_91 : decode cX9_goTo 91 = .ok (.invokestatic 81, 3) := by decide +kernel
theorem dX9_goTo_94 : decode cX9_goTo 94 = .ok (.putfield 36, 3) := by decide +kernel
theorem dX9_goTo_97 : decode cX9_goTo 97 = .ok (.aload_n 0, 1) := by decide +kernel
theorem dX9_goTo_98 : decode cX9_goTo 98 = .ok (.getfield 30, 3) := by decide +kernel
theorem dX9_goTo_101 : decode cX9_goTo 101 = .ok (.iconst (-1), 1) := by decide +kernel
theorem dX9_goTo_102 : decode cX9_goTo 102 = .ok (.if_icmp .eq 12, 3) := by decide +kernel
theorem dX9_goTo_105 : decode cX9_goTo 105 = .ok (.aload_n 0, 1) := by decide +kernel
theorem dX9_goTo_106 : decode cX9_goTo 106 = .ok (.aload_n 0, 1) := by decide +kernel
theorem dX9_goTo_107 : decode cX9_goTo 107 = .ok (.aload_n 1, 1) := by decide +kernel
theorem dX9_goTo_108 : decode cX9_goTo 108 = .ok (.invokevirtual 87, 3) := by decide +kernel
theorem dX9_goTo_111 : decode cX9_goTo 111 = .ok (.putfield 27, 3) := by decide +kernel
theorem dX9_goTo_114 : decode cX9_goTo 114 = .ok (.iinc 4 1, 3) := by decide +kernel
theorem dX9_goTo_117 : decode cX9_goTo 117 = .ok (.goto (-104), 3) := by decide +kernel
theorem dX9_goTo_120 : decode cX9_goTo 120 = .ok (.return_, 1) := by decide +kernel
set_option maxRecDepth 20000 in
theorem ggX9_dueIn_X9_goTo : GoodIn wsX9_dueIn wsX9_goTo := goodIn_r _ [6, 7, 8, 9, 10, 11, 12, 13, 14, 15, 16, 17, 18, 1, 19, 20, 21, 22, 23, 24, 25, 26, 27, 28, 29, 30, 31, 32, 33, 34, 5, 35, 36, 37, 38, 39, 40, 41, 42, 43, 44, 45, 46, 47, 48, 49, 50, 51, 52, 53, 54, 55, 56, 57, 58, 59, 60, 61, 62, 63, 64, 65, 66, 67, 68, 69, 70, 71, 72, 73, 74, 75, 76, 77, 78, 84, 85, 86, 87, 88, 89, 90, 91, 92, 93, 94, 95, 96, 97, 98, 99, 100, 101, 102, 103, 104, 105, 106, 107] (by decide +kernel) (by decide +kernel)
set_option maxRecDepth 20000 in
theorem gX9_dueIn_X9_goTo : GoodIn wsX9_dueIn (wsV RX9 91 RX9 yX9_goTo wsX9_goTo) := goodIn_app (goodIn_of _ (by decide +kernel)) ggX9_dueIn_X9_goTo
set_option maxRecDepth 20000 in
theorem ggX9_dueIn_X2_isFree : GoodIn wsX9_dueIn wsX2_isFree := goodIn_r _ [82, 31, 83, 91, 92, 93, 94, 95, 96, 97, 98, 99, 100, 101, 102, 103, 104] (by decide +kernel) (by decide +kernel)
set_option maxRecDepth 20000 in
theorem gX9_dueIn_X2_isFree : GoodIn wsX9_dueIn (wsV RX9 95 RX2 yX2_isFree wsX2_isFree) := goodIn_app (goodIn_of _ (by decide +kernel)) ggX9_dueIn_X2_isFree
theorem dX9_dueIn_0 : decode cX9_dueIn 0 = .ok (.aload_n 0, 1) := by decide +kernel
theorem dX9_dueIn_1 : decode cX9_dueIn 1 = .ok (.aload_n 1, 1) := by decide +kernel
theorem dX9_dueIn_2 : decode cX9_dueIn 2 = .ok (.iload_n 2, 1) := by decide +kernel
theorem dX9_dueIn_3 : decode cX9_dueIn 3 = .ok (.invokevirtual 91, 3) := by decide +kernel
theorem dX9_dueIn_6 : decode cX9_dueIn 6 = .ok (.aload_n 1, 1) := by decide +kernel
theorem dX9_dueIn_7 : decode cX9_dueIn 7 = .ok (.iload_n 2, 1) := by decide +kernel
theorem dX9_dueIn_8 : decode cX9_dueIn 8 = .ok (.invokevirtual 95, 3) := by decide +kernel
theorem dX9_dueIn_11 : decode cX9_dueIn 11 = .ok (.ifCond .eq 7, 3) := by decide +kernel
theorem dX9_dueIn_14 : decode cX9_dueIn 14 = .ok (.iconst 0, 1) := by decide +kernel
theorem dX9_dueIn_15 : decode cX9_dueIn 15 = .ok (.goto 7, 3) := by decide +kernel
theorem dX9_dueIn_18 : decode cX9_dueIn 18 = .ok (.aload_n 0, 1) := by decide +kernel
theorem dX9_dueIn_19 : decode cX9_dueIn 19 = .ok (.getfield 27, 3) := by decide +kernel
theorem dX9_dueIn_22 : decode cX9_dueIn 22 = .ok (.ireturn, 1) := by decide +kernel
set_option maxRecDepth 20000 in
theorem ggX9_dueBelow_X9_goTo : GoodIn wsX9_dueBelow wsX9_goTo := goodIn_r _ [7, 8, 9, 10, 11, 12, 13, 14, 15, 16, 17, 18, 19, 2, 20, 21, 22, 23, 24, 25, 26, 27, 28, 29, 30, 31, 32, 33, 34, 35, 6, 36, 37, 38, 39, 40, 41, 42, 43, 1, 44, 45, 46, 47, 48, 49, 50, 51, 52, 53, 54, 55, 56, 57, 58, 59, 60, 61, 62, 63, 64, 65, 66, 67, 68, 69, 70, 71, 72, 73, 74, 75, 76, 77, 78, 98, 99, 100, 101, 102, 103, 104, 84, 85, 86, 87, 88, 89, 90, 91, 92, 93, 94, 95, 96, 97, 105, 106, 107] (by decide +kernel) (by decide +kernel)
set_option maxRecDepth 20000 in
theorem gX9_dueBelow_X9_goTo : GoodIn wsX9_dueBelow (wsV RX9 91 RX9 yX9_goTo wsX9_goTo) := goodIn_app (goodIn_of _ (by decide +kernel)) ggX9_dueBelow_X9_goTo
set_option maxRecDepth 20000 in
theorem ggX9_dueBelow_X2_isFree : GoodIn wsX9_dueBelow wsX2_isFree := goodIn_r _ [82, 32, 83, 84, 85, 86, 87, 88, 89, 90, 91, 92, 93, 94, 95, 96, 97] (by decide +kernel) (by decide +kernel)
set_option maxRecDepth 20000 in
theorem gX9_dueBelow_X2_isFree : GoodIn wsX9_dueBelow (wsV RX9 95 RX2 yX2_isFree wsX2_isFree) := goodIn_app (goodIn_of _ (by decide +kernel)) ggX9_dueBelow_X2_isFree
theorem dX9_dueBelow_0 : decode cX9_dueBelow 0 = .ok (.iconst 0, 1) := by decide +kernel
theorem dX9_dueBelow_1 : decode cX9_dueBelow 1 = .ok (.istore_n 3, 1) := by decide +kernel
theorem dX9_dueBelow_2 : decode cX9_dueBelow 2 = .ok (.aload_n 1, 1) := by decide +kernel
theorem dX9_dueBelow_3 : decode cX9_dueBelow 3 = .ok (.getfield 99, 3) := by decide +kernel
theorem dX9_dueBelow_6 : decode cX9_dueBelow 6 = .ok (.istore 4, 2) := by decide +kernel
theorem dX9_dueBelow_8 : decode cX9_dueBelow 8 = .ok (.iload 4, 2) := by decide +kernel
theorem dX9_dueBelow_10 : decode cX9_dueBelow 10 = .ok (.iload_n 2, 1) := by decide +kernel
theorem dX9_dueBelow_11 : decode cX9_dueBelow 11 = .ok (.if_icmp .ge 36, 3) := by decide +kernel
theorem dX9_dueBelow_14 : decode cX9_dueBelow 14 = .ok (.aload_n 0, 1) := by decide +kernel
theorem dX9_dueBelow_15 : decode cX9_dueBelow 15 = .ok (.aload_n 1, 1) := by decide +kernel
theorem dX9_dueBelow_16 : decode cX9_dueBelow 16 = .ok (.iload 4, 2) := by decide +kernel
theorem dX9_dueBelow_18 : decode cX9_dueBelow 18 = .ok (.invokevirtual 91, 3) := by decide +kernel
theorem dX9_dueBelow_21 : decode cX9_dueBelow 21 = .ok (.iload_n 3, 1) := by decide +kernel
theorem dX9_dueBelow_22 : decode cX9_dueBelow 22 = .ok (.aload_n 1, 1) := by decide +kernel
theorem dX9_dueBelow_23 : decode cX9_dueBelow 23 = .ok (.iload 4, 2) := by decide +kernel
theorem dX9_dueBelow_25 : decode cX9_dueBelow 25 = .ok (.invokevirtual 95, 3) := by decide +kernel
theorem dX9_dueBelow_28 : decode cX9_dueBelow 28 = .ok (.ifCond .eq 7, 3) := by decide +kernel
theorem dX9_dueBelow_31 : decode cX9_dueBelow 31 = .ok (.iconst 0, 1) := by decide +kernel
theorem dX9_dueBelow_32 : decode cX9_dueBelow 32 = .ok (.goto 7, 3) := by decide +kernel
theorem dX9_dueBelow_35 : decode cX9_dueBelow 35 = .ok (.aload_n 0, 1) := by decide +kernel
theorem dX9_dueBelow_36 : decode cX9_dueBelow 36 = .ok (.getfield 27, 3) := by decide +kernel
theorem dX9_dueBelow_39 : decode cX9_dueBelow 39 = .ok (.iadd, 1) := by decide +kernel
theorem dX9_dueBelow_40 : decode cX9_dueBelow 40 = .ok (.istore_n 3, 1) := by decide +kernel
theorem dX9_dueBelow_41 : decode cX9_dueBelow 41 = .ok (.iinc 4 1, 3) := by decide +kernel
theorem dX9_dueBelow_44 : decode cX9_dueBelow 44 = .ok (.goto (-36), 3) := by decide +kernel
theorem dX9_dueBelow_47 : decode cX9_dueBelow 47 = .ok (.iload_n 3, 1) := by decide +kernel
theorem dX9_dueBelow_48 : decode cX9_dueBelow 48 = .ok (.ireturn, 1) := by decide +kernel
theorem dX9_thousandths_0 : decode cX9_thousandths 0 = .ok (.lload_n 0, 1) := by decide +kernel
theorem dX9_thousandths_1 : decode cX9_thousandths 1 = .ok (.iload_n 2, 1) := by decide +kernel
theorem dX9_thousandths_2 : decode cX9_thousandths 2 = .ok (.i2l, 1) := by decide +kernel
theorem dX9_thousandths_3 : decode cX9_thousandths 3 = .ok (.lmul, 1) := by decide +kernel
theorem dX9_thousandths_4 : decode cX9_thousandths 4 = .ok (.ldc2_w 102, 3) := by decide +kernel
theorem dX9_thousandths_7 : decode cX9_thousandths 7 = .ok (.ldiv, 1) := by decide +kernel
theorem dX9_thousandths_8 : decode cX9_thousandths 8 = .ok (.l2i, 1) := by decide +kernel
theorem dX9_thousandths_9 : decode cX9_thousandths 9 = .ok (.ireturn, 1) := by decide +kernel
set_option maxRecDepth 20000 in
theorem ggX9_wantedBy_X9_wantedByIndex : GoodIn wsX9_wantedBy wsX9_wantedByIndex := goodIn_r _ [9, 4, 10, 11, 12, 13, 14, 15, 16, 17, 18, 19, 20, 21, 8, 22, 23, 47, 48, 49, 50, 51, 52, 53, 54, 55, 56, 57, 58, 59, 60, 61, 62, 63, 64, 65, 66, 67] (by decide +kernel) (by decide +kernel)
set_option maxRecDepth 20000 in
theorem gX9_wantedBy_X9_wantedByIndex : GoodIn wsX9_wantedBy (wsV RX9 104 RX9 yX9_wantedByIndex wsX9_wantedByIndex) := goodIn_app (goodIn_of _ (by decide +kernel)) ggX9_wantedBy_X9_wantedByIndex
set_option maxRecDepth 20000 in
theorem ggX9_wantedBy_X2_isToldIn : GoodIn wsX9_wantedBy wsX2_isToldIn := goodIn_r _ [27, 28, 47, 48, 49, 50, 51, 52, 53, 54, 55, 56, 57, 58, 59, 60] (by decide +kernel) (by decide +kernel)
set_option maxRecDepth 20000 in
theorem gX9_wantedBy_X2_isToldIn : GoodIn wsX9_wantedBy (wsV RX9 107 RX2 yX2_isToldIn wsX2_isToldIn) := goodIn_app (goodIn_of _ (by decide +kernel)) ggX9_wantedBy_X2_isToldIn
set_option maxRecDepth 20000 in
theorem ggX9_wantedBy_X2_toldAt : GoodIn wsX9_wantedBy wsX2_toldAt := goodIn_r _ [32, 33, 47, 48, 49, 50, 51, 52, 53, 54, 55, 56, 57, 58, 59, 60] (by decide +kernel) (by decide +kernel)
set_option maxRecDepth 20000 in
theorem gX9_wantedBy_X2_toldAt : GoodIn wsX9_wantedBy (wsV RX9 111 RX2 yX2_toldAt wsX2_toldAt) := goodIn_app (goodIn_of _ (by decide +kernel)) ggX9_wantedBy_X2_toldAt
set_option maxRecDepth 20000 in
theorem ggX9_wantedBy_X9_wantedByTurnover : GoodIn wsX9_wantedBy wsX9_wantedByTurnover := goodIn_r _ [37, 38, 2, 4, 39, 11, 40, 41, 42, 43, 24, 25, 26, 15, 27, 28, 29, 30, 31, 32, 33, 47, 48, 49, 50, 51, 52, 53, 54, 55, 56, 57, 58, 59, 60, 61, 62, 63, 64, 65, 66, 67] (by decide +kernel) (by decide +kernel)
set_option maxRecDepth 20000 in
theorem gX9_wantedBy_X9_wantedByTurnover : GoodIn wsX9_wantedBy (wsV RX9 114 RX9 yX9_wantedByTurnover wsX9_wantedByTurnover) := goodIn_app (goodIn_of _ (by decide +kernel)) ggX9_wantedBy_X9_wantedByTurnover
set_option maxRecDepth 20000 in
theorem ggX9_wantedBy_X9_thousandths : GoodIn wsX9_wantedBy wsX9_thousandths := goodIn_r _ [46, 39] (by decide +kernel) (by decide +kernel)
set_option maxRecDepth 20000 in
theorem gX9_wantedBy_X9_thousandths : GoodIn wsX9_wantedBy (va_wsS RX9 73 yX9_thousandths wsX9_thousandths) := goodIn_app (goodIn_of _ (by decide +kernel)) ggX9_wantedBy_X9_thousandths
theorem dX9_wantedBy_0 : decode cX9_wantedBy 0 = .ok (.aload_n 1, 1) := by decide +kernel
theorem dX9_wantedBy_1 : decode cX9_wantedBy 1 = .ok (.getfield 39, 3) := by decide +kernel
theorem dX9_wantedBy_4 : decode cX9_wantedBy 4 = .ok (.tableswitch 85 1 4 #[32, 39, 61, 68], 32) := by decide +kernel
theorem dX9_wantedBy_36 : decode cX9_wantedBy 36 = .ok (.aload_n 0, 1) := by decide +kernel
theorem dX9_wantedBy_37 : decode cX9_wantedBy 37 = .ok (.aload_n 1, 1) := by decide +kernel
theorem dX9_wantedBy_38 : decode cX9_wantedBy 38 = .ok (.iload_n 2, 1) := by decide +kernel
theorem dX9_wantedBy_39 : decode cX9_wantedBy 39 = .ok (.invokevirtual 104, 3) := by decide +kernel
theorem dX9_wantedBy_42 : decode cX9_wantedBy 42 = .ok (.ireturn, 1) := by decide +kernel
theorem dX9_wantedBy_43 : decode cX9_wantedBy 43 = .ok (.aload_n 1, 1) := by decide +kernel
theorem dX9_wantedBy_44 : decode cX9_wantedBy 44 = .ok (.iload_n 2, 1) := by decide +kernel
theorem dX9_wantedBy_45 : decode cX9_wantedBy 45 = .ok (.aload_n 0, 1) := by decide +kernel
theorem dX9_wantedBy_46 : decode cX9_wantedBy 46 = .ok (.getfield 15, 3) := by decide +kernel
theorem dX9_wantedBy_49 : decode cX9_wantedBy 49 = .ok (.invokevirtual 107, 3) := by decide +kernel
theorem dX9_wantedBy_52 : decode cX9_wantedBy 52 = .ok (.ifCond .eq 11, 3) := by decide +kernel
theorem dX9_wantedBy_55 : decode cX9_wantedBy 55 = .ok (.aload_n 1, 1) := by decide +kernel
theorem dX9_wantedBy_56 : decode cX9_wantedBy 56 = .ok (.iload_n 2, 1) := by decide +kernel
theorem dX9_wantedBy_57 : decode cX9_wantedBy 57 = .ok (.invokevirtual 111, 3) := by decide +kernel
theorem dX9_wantedBy_60 : decode cX9_wantedBy 60 = .ok (.goto 4, 3) := by decide +kernel
theorem dX9_wantedBy_63 : decode cX9_wantedBy 63 = .ok (.iconst (-1), 1) := by decide +kernel
theorem dX9_wantedBy_64 : decode cX9_wantedBy 64 = .ok (.ireturn, 1) := by decide +kernel
theorem dX9_wantedBy_65 : decode cX9_wantedBy 65 = .ok (.aload_n 0, 1) := by decide +kernel
theorem dX9_wantedBy_66 : decode cX9_wantedBy 66 = .ok (.aload_n 1, 1) := by decide +kernel
theorem dX9_wantedBy_67 : decode cX9_wantedBy 67 = .ok (.iload_n 2, 1) := by decide +kernel
theorem dX9_wantedBy_68 : decode cX9_wantedBy 68 = .ok (.invokevirtual 114, 3) := by decide +kernel
theorem dX9_wantedBy_71 : decode cX9_wantedBy 71 = .ok (.ireturn, 1) := by decide +kernel
theorem dX9_wantedBy_72 : decode cX9_wantedBy 72 = .ok (.aload_n 0, 1) := by decide +kernel
theorem dX9_wantedBy_73 : decode cX9_wantedBy 73 = .ok (.getfield 27, 3) := by decide +kernel
theorem dX9_wantedBy_76 : decode cX9_wantedBy 76 = .ok (.i2l, 1) := by decide +kernel
theorem dX9_wantedBy_77 : decode cX9_wantedBy 77 = .ok (.sipush 1000, 3) := by decide +kernel
theorem dX9_wantedBy_80 : decode cX9_wantedBy 80 = .ok (.aload_n 1, 1) := by decide +kernel
theorem dX9_wantedBy_81 : decode cX9_wantedBy 81 = .ok (.getfield 117, 3) := by decide +kernel
theorem dX9_wantedBy_84 : decode cX9_wantedBy 84 = .ok (.iadd, 1) := by decide +kernel
theorem dX9_wantedBy_85 : decode cX9_wantedBy 85 = .ok (.invokestatic 73, 3) := by decide +kernel
theorem dX9_wantedBy_88 : decode cX9_wantedBy 88 = .ok (.ireturn, 1) := by decide +kernel
theorem dX9_wantedBy_89 : decode cX9_wantedBy 89 = .ok (.iconst (-1), 1) := by decide +kernel
theorem dX9_wantedBy_90 : decode cX9_wantedBy 90 = .ok (.ireturn, 1) := by decide +kernel
set_option maxRecDepth 20000 in
theorem ggX9_wantedByIndex_X2_reviewMonth : GoodIn wsX9_wantedByIndex wsX2_reviewMonth := goodIn_r _ [8, 9, 10, 17, 18, 19, 20, 21, 22, 23, 24, 25, 26, 27, 28, 29, 30] (by decide +kernel) (by decide +kernel)
set_option maxRecDepth 20000 in
theorem gX9_wantedByIndex_X2_reviewMonth : GoodIn wsX9_wantedByIndex (wsV RX9 56 RX2 yX2_reviewMonth wsX2_reviewMonth) := goodIn_app (goodIn_of _ (by decide +kernel)) ggX9_wantedByIndex_X2_reviewMonth
set_option maxRecDepth 20000 in
theorem ggX9_wantedByIndex_X9_indexOf : GoodIn wsX9_wantedByIndex wsX9_indexOf := goodIn_r _ [15, 16, 31, 32, 33, 34, 35, 36, 37] (by decide +kernel) (by decide +kernel)
set_option maxRecDepth 20000 in
theorem gX9_wantedByIndex_X9_indexOf : GoodIn wsX9_wantedByIndex (wsV RX9 120 RX9 yX9_indexOf wsX9_indexOf) := goodIn_app (goodIn_of _ (by decide +kernel)) ggX9_wantedByIndex_X9_indexOf
theorem dX9_wantedByIndex_0 : decode cX9_wantedByIndex 0 = .ok (.aload_n 0, 1) := by decide +kernel
theorem dX9_wantedByIndex_1 : decode cX9_wantedByIndex 1 = .ok (.aload_n 1, 1) := by decide +kernel
theorem dX9_wantedByIndex_2 : decode cX9_wantedByIndex 2 = .ok (.iload_n 2, 1) := by decide +kernel
theorem dX9_wantedByIndex_3 : decode cX9_wantedByIndex 3 = .ok (.invokevirtual 56, 3) := by decide +kernel
theorem dX9_wantedByIndex_6 : decode cX9_wantedByIndex 6 = .ok (.aload_n 1, 1) := by decide +kernel
theorem dX9_wantedByIndex_7 : decode cX9_wantedByIndex 7 = .ok (.getfield 117, 3) := by decide +kernel
theorem dX9_wantedByIndex_10 : decode cX9_wantedByIndex 10 = .ok (.isub, 1) := by decide +kernel
theorem dX9_wantedByIndex_11 : decode cX9_wantedByIndex 11 = .ok (.invokevirtual 120, 3) := by decide +kernel
theorem dX9_wantedByIndex_14 : decode cX9_wantedByIndex 14 = .ok (.i2l, 1) := by decide +kernel
theorem dX9_wantedByIndex_15 : decode cX9_wantedByIndex 15 = .ok (.lstore_n 3, 1) := by decide +kernel
theorem dX9_wantedByIndex_16 : decode cX9_wantedByIndex 16 = .ok (.aload_n 0, 1) := by decide +kernel
theorem dX9_wantedByIndex_17 : decode cX9_wantedByIndex 17 = .ok (.aload_n 1, 1) := by decide +kernel
theorem dX9_wantedByIndex_18 : decode cX9_wantedByIndex 18 = .ok (.getfield 99, 3) := by decide +kernel
theorem dX9_wantedByIndex_21 : decode cX9_wantedByIndex 21 = .ok (.aload_n 1, 1) := by decide +kernel
theorem dX9_wantedByIndex_22 : decode cX9_wantedByIndex 22 = .ok (.getfield 117, 3) := by decide +kernel
theorem dX9_wantedByIndex_25 : decode cX9_wantedByIndex 25 = .ok (.isub, 1) := by decide +kernel
theorem dX9_wantedByIndex_26 : decode cX9_wantedByIndex 26 = .ok (.invokevirtual 120, 3) := by decide +kernel
theorem dX9_wantedByIndex_29 : decode cX9_wantedByIndex 29 = .ok (.istore 5, 2) := by decide +kernel
theorem dX9_wantedByIndex_31 : decode cX9_wantedByIndex 31 = .ok (.lload_n 3, 1) := by decide +kernel
theorem dX9_wantedByIndex_32 : decode cX9_wantedByIndex 32 = .ok (.lconst 1, 1) := by decide +kernel
theorem dX9_wantedByIndex_33 : decode cX9_wantedByIndex 33 = .ok (.lcmp, 1) := by decide +kernel
theorem dX9_wantedByIndex_34 : decode cX9_wantedByIndex 34 = .ok (.ifCond .lt 9, 3) := by decide +kernel
theorem dX9_wantedByIndex_37 : decode cX9_wantedByIndex 37 = .ok (.iload 5, 2) := by decide +kernel
theorem dX9_wantedByIndex_39 : decode cX9_wantedByIndex 39 = .ok (.iconst 1, 1) := by decide +kernel
theorem dX9_wantedByIndex_40 : decode cX9_wantedByIndex 40 = .ok (.if_icmp .ge 5, 3) := by decide +kernel
theorem dX9_wantedByIndex_43 : decode cX9_wantedByIndex 43 = .ok (.iconst (-1), 1) := by decide +kernel
theorem dX9_wantedByIndex_44 : decode cX9_wantedByIndex 44 = .ok (.ireturn, 1) := by decide +kernel
theorem dX9_wantedByIndex_45 : decode cX9_wantedByIndex 45 = .ok (.aload_n 1, 1) := by decide +kernel
theorem dX9_wantedByIndex_46 : decode cX9_wantedByIndex 46 = .ok (.getfield 22, 3) := by decide +kernel
theorem dX9_wantedByIndex_49 : decode cX9_wantedByIndex 49 = .ok (.i2l, 1) := by decide +kernel
theorem dX9_wantedByIndex_50 : decode cX9_wantedByIndex 50 = .ok (.lload_n 3, 1) := by decide +kernel
theorem dX9_wantedByIndex_51 : decode cX9_wantedByIndex 51 = .ok (.lmul, 1) := by decide +kernel
theorem dX9_wantedByIndex_52 : decode cX9_wantedByIndex 52 = .ok (.iload 5, 2) := by decide +kernel
theorem dX9_wantedByIndex_54 : decode cX9_wantedByIndex 54 = .ok (.i2l, 1) := by decide +kernel
theorem dX9_wantedByIndex_55 : decode cX9_wantedByIndex 55 = .ok (.ldiv, 1) := by decide +kernel
theorem dX9_wantedByIndex_56 : decode cX9_wantedByIndex 56 = .ok (.l2i, 1) := by decide +kernel
theorem dX9_wantedByIndex_57 : decode cX9_wantedByIndex 57 = .ok (.ireturn, 1) := by decide +kernel
set_option maxRecDepth 20000 in
theorem ggX9_wantedByTurnover_X2_isToldIn : GoodIn wsX9_wantedByTurnover wsX2_isToldIn := goodIn_r _ [14, 15, 21, 22, 23, 24, 25, 26, 27, 28, 29, 30, 31, 32, 33, 34] (by decide +kernel) (by decide +kernel)
set_option maxRecDepth 20000 in
theorem gX9_wantedByTurnover_X2_isToldIn : GoodIn wsX9_wantedByTurnover (wsV RX9 107 RX2 yX2_isToldIn wsX2_isToldIn) := goodIn_app (goodIn_of _ (by decide +kernel)) ggX9_wantedByTurnover_X2_isToldIn
set_option maxRecDepth 20000 in
theorem ggX9_wantedByTurnover_X2_toldAt : GoodIn wsX9_wantedByTurnover wsX2_toldAt := goodIn_r _ [19, 20, 21, 22, 23, 24, 25, 26, 27, 28, 29, 30, 31, 32, 33, 34] (by decide +kernel) (by decide +kernel)
set_option maxRecDepth 20000 in
theorem gX9_wantedByTurnover_X2_toldAt : GoodIn wsX9_wantedByTurnover (wsV RX9 111 RX2 yX2_toldAt wsX2_toldAt) := goodIn_app (goodIn_of _ (by decide +kernel)) ggX9_wantedByTurnover_X2_toldAt
theorem dX9_wantedByTurnover_0 : decode cX9_wantedByTurnover 0 = .ok (.lconst 0, 1) := by decide +kernel
theorem dX9_wantedByTurnover_1 : decode cX9_wantedByTurnover 1 = .ok (.lstore_n 3, 1) := by decide +kernel
theorem dX9_wantedByTurnover_2 : decode cX9_wantedByTurnover 2 = .ok (.iload_n 2, 1) := by decide +kernel
theorem dX9_wantedByTurnover_3 : decode cX9_wantedByTurnover 3 = .ok (.iconst 1, 1) := by decide +kernel
theorem dX9_wantedByTurnover_4 : decode cX9_wantedByTurnover 4 = .ok (.isub, 1) := by decide +kernel
theorem dX9_wantedByTurnover_5 : decode cX9_wantedByTurnover 5 = .ok (.aload_n 1, 1) := by decide +kernel
theorem dX9_wantedByTurnover_6 : decode cX9_wantedByTurnover 6 = .ok (.getfield 123, 3) := by decide +kernel
theorem dX9_wantedByTurnover_9 : decode cX9_wantedByTurnover 9 = .ok (.imul, 1) := by decide +kernel
theorem dX9_wantedByTurnover_10 : decode cX9_wantedByTurnover 10 = .ok (.istore 5, 2) := by decide +kernel
theorem dX9_wantedByTurnover_12 : decode cX9_wantedByTurnover 12 = .ok (.iload 5, 2) := by decide +kernel
theorem dX9_wantedByTurnover_14 : decode cX9_wantedByTurnover 14 = .ok (.iload_n 2, 1) := by decide +kernel
theorem dX9_wantedByTurnover_15 : decode cX9_wantedByTurnover 15 = .ok (.aload_n 1, 1) := by decide +kernel
theorem dX9_wantedByTurnover_16 : decode cX9_wantedByTurnover 16 = .ok (.getfield 123, 3) := by decide +kernel
theorem dX9_wantedByTurnover_19 : decode cX9_wantedByTurnover 19 = .ok (.imul, 1) := by decide +kernel
theorem dX9_wantedByTurnover_20 : decode cX9_wantedByTurnover 20 = .ok (.if_icmp .ge 34, 3) := by decide +kernel
theorem dX9_wantedByTurnover_23 : decode cX9_wantedByTurnover 23 = .ok (.aload_n 1, 1) := by decide +kernel
theorem dX9_wantedByTurnover_24 : decode cX9_wantedByTurnover 24 = .ok (.iload 5, 2) := by decide +kernel
theorem dX9_wantedByTurnover_26 : decode cX9_wantedByTurnover 26 = .ok (.aload_n 0, 1) := by decide +kernel
theorem dX9_wantedByTurnover_27 : decode cX9_wantedByTurnover 27 = .ok (.getfield 15, 3) := by decide +kernel
theorem dX9_wantedByTurnover_30 : decode cX9_wantedByTurnover 30 = .ok (.invokevirtual 107, 3) := by decide +kernel
theorem dX9_wantedByTurnover_33 : decode cX9_wantedByTurnover 33 = .ok (.ifCond .ne 5, 3) := by decide +kernel
theorem dX9_wantedByTurnover_36 : decode cX9_wantedByTurnover 36 = .ok (.iconst (-1), 1) := by decide +kernel
theorem dX9_wantedByTurnover_37 : decode cX9_wantedByTurnover 37 = .ok (.ireturn, 1) := by decide +kernel
theorem dX9_wantedByTurnover_38 : decode cX9_wantedByTurnover 38 = .ok (.lload_n 3, 1) := by decide +kernel
theorem dX9_wantedByTurnover_39 : decode cX9_wantedByTurnover 39 = .ok (.aload_n 1, 1) := by decide +kernel
theorem dX9_wantedByTurnover_40 : decode cX9_wantedByTurnover 40 = .ok (.iload 5, 2) := by decide +kernel
theorem dX9_wantedByTurnover_42 : decode cX9_wantedByTurnover 42 = .ok (.invokevirtual 111, 3) := by decide +kernel
theorem dX9_wantedByTurnover_45 : decode cX9_wantedByTurnover 45 = .ok (.i2l, 1) := by decide +kernel
theorem dX9_wantedByTurnover_46 : decode cX9_wantedByTurnover 46 = .ok (.ladd, 1) := by decide +kernel
theorem dX9_wantedByTurnover_47 : decode cX9_wantedByTurnover 47 = .ok (.lstore_n 3, 1) := by decide +kernel
theorem dX9_wantedByTurnover_48 : decode cX9_wantedByTurnover 48 = .ok (.iinc 5 1, 3) := by decide +kernel
theorem dX9_wantedByTurnover_51 : decode cX9_wantedByTurnover 51 = .ok (.goto (-39), 3) := by decide +kernel
theorem dX9_wantedByTurnover_54 : decode cX9_wantedByTurnover 54 = .ok (.aload_n 1, 1) := by decide +kernel
theorem dX9_wantedByTurnover_55 : decode cX9_wantedByTurnover 55 = .ok (.getfield 123, 3) := by decide +kernel
theorem dX9_wantedByTurnover_58 : decode cX9_wantedByTurnover 58 = .ok (.iconst 1, 1) := by decide +kernel
theorem dX9_wantedByTurnover_59 : decode cX9_wantedByTurnover 59 = .ok (.if_icmp .ge 5, 3) := by decide +kernel
theorem dX9_wantedByTurnover_62 : decode cX9_wantedByTurnover 62 = .ok (.iconst (-1), 1) := by decide +kernel
theorem dX9_wantedByTurnover_63 : decode cX9_wantedByTurnover 63 = .ok (.ireturn, 1) := by decide +kernel
theorem dX9_wantedByTurnover_64 : decode cX9_wantedByTurnover 64 = .ok (.lload_n 3, 1) := by decide +kernel
theorem dX9_wantedByTurnover_65 : decode cX9_wantedByTurnover 65 = .ok (.aload_n 1, 1) := by decide +kernel
theorem dX9_wantedByTurnover_66 : decode cX9_wantedByTurnover 66 = .ok (.getfield 117, 3) := by decide +kernel
theorem dX9_wantedByTurnover_69 : decode cX9_wantedByTurnover 69 = .ok (.i2l, 1) := by decide +kernel
theorem dX9_wantedByTurnover_70 : decode cX9_wantedByTurnover 70 = .ok (.lmul, 1) := by decide +kernel
theorem dX9_wantedByTurnover_71 : decode cX9_wantedByTurnover 71 = .ok (.ldc2_w 102, 3) := by decide +kernel
theorem dX9_wantedByTurnover_74 : decode cX9_wantedByTurnover 74 = .ok (.ldiv, 1) := by decide +kernel
theorem dX9_wantedByTurnover_75 : decode cX9_wantedByTurnover 75 = .ok (.aload_n 1, 1) := by decide +kernel
theorem dX9_wantedByTurnover_76 : decode cX9_wantedByTurnover 76 = .ok (.getfield 123, 3) := by decide +kernel
theorem dX9_wantedByTurnover_79 : decode cX9_wantedByTurnover 79 = .ok (.i2l, 1) := by decide +kernel
theorem dX9_wantedByTurnover_80 : decode cX9_wantedByTurnover 80 = .ok (.ldiv, 1) := by decide +kernel
theorem dX9_wantedByTurnover_81 : decode cX9_wantedByTurnover 81 = .ok (.lstore 5, 2) := by decide +kernel
theorem dX9_wantedByTurnover_83 : decode cX9_wantedByTurnover 83 = .ok (.lload 5, 2) := by decide +kernel
theorem dX9_wantedByTurnover_85 : decode cX9_wantedByTurnover 85 = .ok (.l2i, 1) := by decide +kernel
theorem dX9_wantedByTurnover_86 : decode cX9_wantedByTurnover 86 = .ok (.aload_n 1, 1) := by decide +kernel
theorem dX9_wantedByTurnover_87 : decode cX9_wantedByTurnover 87 = .ok (.getfield 22, 3) := by decide +kernel
theorem dX9_wantedByTurnover_90 : decode cX9_wantedByTurnover 90 = .ok (.invokestatic 126, 3) := by decide +kernel
theorem dX9_wantedByTurnover_93 : decode cX9_wantedByTurnover 93 = .ok (.ireturn, 1) := by decide +kernel
set_option maxRecDepth 20000 in
theorem ggX9_held_X9_thousandths : GoodIn wsX9_held wsX9_thousandths := goodIn_r _ [22, 23] (by decide +kernel) (by decide +kernel)
set_option maxRecDepth 20000 in
theorem gX9_held_X9_thousandths : GoodIn wsX9_held (va_wsS RX9 73 yX9_thousandths wsX9_thousandths) := goodIn_app (goodIn_of _ (by decide +kernel)) ggX9_held_X9_thousandths
theorem dX9_held_0 : decode cX9_held 0 = .ok (.aload_n 0, 1) := by decide +kernel
theorem dX9_held_1 : decode cX9_held 1 = .ok (.getfield 30, 3) := by decide +kernel
theorem dX9_held_4 : decode cX9_held 4 = .ok (.istore_n 2, 1) := by decide +kernel
theorem dX9_held_5 : decode cX9_held 5 = .ok (.aload_n 1, 1) := by decide +kernel
theorem dX9_held_6 : decode cX9_held 6 = .ok (.getfield 129, 3) := by decide +kernel
theorem dX9_held_9 : decode cX9_held 9 = .ok (.getfield 132, 3) := by decide +kernel
theorem dX9_held_12 : decode cX9_held 12 = .ok (.ifCond .eq 51, 3) := by decide +kernel
theorem dX9_held_15 : decode cX9_held 15 = .ok (.iload_n 2, 1) := by decide +kernel
theorem dX9_held_16 : decode cX9_held 16 = .ok (.aload_n 0, 1) := by decide +kernel
theorem dX9_held_17 : decode cX9_held 17 = .ok (.getfield 27, 3) := by decide +kernel
theorem dX9_held_20 : decode cX9_held 20 = .ok (.i2l, 1) := by decide +kernel
theorem dX9_held_21 : decode cX9_held 21 = .ok (.sipush 1000, 3) := by decide +kernel
theorem dX9_held_24 : decode cX9_held 24 = .ok (.aload_n 1, 1) := by decide +kernel
theorem dX9_held_25 : decode cX9_held 25 = .ok (.getfield 129, 3) := by decide +kernel
theorem dX9_held_28 : decode cX9_held 28 = .ok (.getfield 68, 3) := by decide +kernel
theorem dX9_held_31 : decode cX9_held 31 = .ok (.isub, 1) := by decide +kernel
theorem dX9_held_32 : decode cX9_held 32 = .ok (.invokestatic 73, 3) := by decide +kernel
theorem dX9_held_35 : decode cX9_held 35 = .ok (.invokestatic 126, 3) := by decide +kernel
theorem dX9_held_38 : decode cX9_held 38 = .ok (.istore_n 2, 1) := by decide +kernel
theorem dX9_held_39 : decode cX9_held 39 = .ok (.iload_n 2, 1) := by decide +kernel
theorem dX9_held_40 : decode cX9_held 40 = .ok (.aload_n 0, 1) := by decide +kernel
theorem dX9_held_41 : decode cX9_held 41 = .ok (.getfield 27, 3) := by decide +kernel
theorem dX9_held_44 : decode cX9_held 44 = .ok (.i2l, 1) := by decide +kernel
theorem dX9_held_45 : decode cX9_held 45 = .ok (.sipush 1000, 3) := by decide +kernel
theorem dX9_held_48 : decode cX9_held 48 = .ok (.aload_n 1, 1) := by decide +kernel
theorem dX9_held_49 : decode cX9_held 49 = .ok (.getfield 129, 3) := by decide +kernel
theorem dX9_held_52 : decode cX9_held 52 = .ok (.getfield 77, 3) := by decide +kernel
theorem dX9_held_55 : decode cX9_held 55 = .ok (.iadd, 1) := by decide +kernel
theorem dX9_held_56 : decode cX9_held 56 = .ok (.invokestatic 73, 3) := by decide +kernel
theorem dX9_held_59 : decode cX9_held 59 = .ok (.invokestatic 81, 3) := by decide +kernel
theorem dX9_held_62 : decode cX9_held 62 = .ok (.istore_n 2, 1) := by decide +kernel
theorem dX9_held_63 : decode cX9_held 63 = .ok (.aload_n 1, 1) := by decide +kernel
theorem dX9_held_64 : decode cX9_held 64 = .ok (.getfield 64, 3) := by decide +kernel
theorem dX9_held_67 : decode cX9_held 67 = .ok (.getfield 132, 3) := by decide +kernel
theorem dX9_held_70 : decode cX9_held 70 = .ok (.ifCond .eq 19, 3) := by decide +kernel
theorem dX9_held_73 : decode cX9_held 73 = .ok (.iload_n 2, 1) := by decide +kernel
theorem dX9_held_74 : decode cX9_held 74 = .ok (.aload_n 0, 1) := by decide +kernel
theorem dX9_held_75 : decode cX9_held 75 = .ok (.getfield 33, 3) := by decide +kernel
theorem dX9_held_78 : decode cX9_held 78 = .ok (.invokestatic 126, 3) := by decide +kernel
theorem dX9_held_81 : decode cX9_held 81 = .ok (.aload_n 0, 1) := by decide +kernel
theorem dX9_held_82 : decode cX9_held 82 = .ok (.getfield 36, 3) := by decide +kernel
theorem dX9_held_85 : decode cX9_held 85 = .ok (.invokestatic 81, 3) := by decide +kernel
theorem dX9_held_88 : decode cX9_held 88 = .ok (.istore_n 2, 1) := by decide +kernel
theorem dX9_held_89 : decode cX9_held 89 = .ok (.aload_n 1, 1) := by decide +kernel
theorem dX9_held_90 : decode cX9_held 90 = .ok (.getfield 136, 3) := by decide +kernel
theorem dX9_held_93 : decode cX9_held 93 = .ok (.ifCond .eq 12, 3) := by decide +kernel
theorem dX9_held_96 : decode cX9_held 96 = .ok (.iload_n 2, 1) := by decide +kernel
theorem dX9_held_97 : decode cX9_held 97 = .ok (.aload_n 0, 1) := by decide +kernel
theorem dX9_held_98 : decode cX9_held 98 = .ok (.getfield 27, 3) := by decide +kernel
theorem dX9_held_101 : decode cX9_held 101 = .ok (.invokestatic 126, 3) := by decide +kernel
theorem dX9_held_104 : decode cX9_held 104 = .ok (.istore_n 2, 1) := by decide +kernel
theorem dX9_held_105 : decode cX9_held 105 = .ok (.iload_n 2, 1) := by decide +kernel
theorem dX9_held_106 : decode cX9_held 106 = .ok (.iconst 1, 1) := by decide +kernel
theorem dX9_held_107 : decode cX9_held 107 = .ok (.invokestatic 126, 3) := by decide +kernel
theorem dX9_held_110 : decode cX9_held 110 = .ok (.ldc 80, 2) := by decide +kernel
theorem dX9_held_112 : decode cX9_held 112 = .ok (.invokestatic 81, 3) := by decide +kernel
theorem dX9_held_115 : decode cX9_held 115 = .ok (.ireturn, 1) := by decide +kernel
set_option maxRecDepth 20000 in
theorem ggX10_init_X6_init : GoodIn wsX10_init wsX6_init := goodIn_r _ [32, 33, 2, 3, 34, 35, 101, 102] (by decide +kernel) (by decide +kernel)
set_option maxRecDepth 20000 in
theorem gX10_init_X6_init : GoodIn wsX10_init (wsX6_init) := ggX10_init_X6_init
set_option maxRecDepth 20000 in
theorem ggX10_init_X4_init : GoodIn wsX10_init wsX4_init := goodIn_r _ [38, 39, 2, 3, 40, 41, 42, 43, 44, 45, 46, 47, 34, 48, 49, 50, 138, 139, 140, 141, 142, 113, 114, 115, 116, 117, 118, 119] (by decide +kernel) (by decide +kernel)
set_option maxRecDepth 20000 in
theorem gX10_init_X4_init : GoodIn wsX10_init (wsX4_init) := ggX10_init_X4_init
set_option maxRecDepth 20000 in
theorem ggX10_init_X0_init : GoodIn wsX10_init wsX0_init := goodIn_r _ [53, 54, 2, 3, 34, 55, 56, 57, 120, 121, 122, 123] (by decide +kernel) (by decide +kernel)
set_option maxRecDepth 20000 in
theorem gX10_init_X0_init : GoodIn wsX10_init (wsX0_init) := ggX10_init_X0_init
set_option maxRecDepth 20000 in
theorem ggX10_init_X9_init : GoodIn wsX10_init wsX9_init := goodIn_r _ [60, 61, 2, 3, 34, 62, 124, 125, 126, 127, 128, 129, 130] (by decide +kernel) (by decide +kernel)
set_option maxRecDepth 20000 in
theorem gX10_init_X9_init : GoodIn wsX10_init (wsX9_init) := ggX10_init_X9_init
set_option maxRecDepth 20000 in
theorem ggX10_init_X5_init : GoodIn wsX10_init wsX5_init := goodIn_r _ [65, 66, 2, 3] (by decide +kernel) (by decide +kernel)
set_option maxRecDepth 20000 in
theorem gX10_init_X5_init : GoodIn wsX10_init (wsX5_init) := ggX10_init_X5_init
set_option maxRecDepth 20000 in
theorem ggX10_init_X1_init : GoodIn wsX10_init wsX1_init := goodIn_r _ [69, 70, 2, 3, 71, 72, 73, 74, 75, 76, 34, 77, 78, 79, 80, 81, 82, 83, 84, 85, 86, 87, 88, 89, 90, 91, 92, 93, 94, 95, 96, 97, 98, 99, 100, 143, 144, 145, 133, 134, 135, 136, 137, 146, 147, 148, 149, 150, 151, 152, 153, 154, 155, 156, 157, 158, 159, 160, 161, 162] (by decide +kernel) (by decide +kernel)
set_option maxRecDepth 20000 in
theorem gX10_init_X1_init : GoodIn wsX10_init (wsX1_init) := ggX10_init_X1_init
theorem dX10_init_0 : decode cX10_init 0 = .ok (.aload_n 0, 1) := by decide +kernel
theorem dX10_init_1 : decode cX10_init 1 = .ok (.invokespecial 3, 3) := by decide +kernel
theorem dX10_init_4 : decode cX10_init 4 = .ok (.aload_n 0, 1) := by decide +kernel
theorem dX10_init_5 : decode cX10_init 5 = .ok (.new 9, 3) := by decide +kernel
theorem dX10_init_8 : decode cX10_init 8 = .ok (.dup, 1) := by decide +kernel
theorem dX10_init_9 : decode cX10_init 9 = .ok (.invokespecial 11, 3) := by decide +kernel
theorem dX10_init_12 : decode cX10_init 12 = .ok (.putfield 12, 3) := by decide +kernel
theorem dX10_init_15 : decode cX10_init 15 = .ok (.aload_n 0, 1) := by decide +kernel
theorem dX10_init_16 : decode cX10_init 16 = .ok (.new 16, 3) := by decide +kernel
theorem dX10_init_19 : decode cX10_init 19 = .ok (.dup, 1) := by decide +kernel
theorem dX10_init_20 : decode cX10_init 20 = .ok (.invokespecial 18, 3) := by decide +kernel
theorem dX10_init_23 : decode cX10_init 23 = .ok (.putfield 19, 3) := by decide +kernel
theorem dX10_init_26 : decode cX10_init 26 = .ok (.aload_n 0, 1) := by decide +kernel
theorem dX10_init_27 : decode cX10_init 27 = .ok (.new 23, 3) := by decide +kernel
theorem dX10_init_30 : decode cX10_init 30 = .ok (.dup, 1) := by decide +kernel
theorem dX10_init_31 : decode cX10_init 31 = .ok (.invokespecial 25, 3) := by decide +kernel
theorem dX10_init_34 : decode cX10_init 34 = .ok (.putfield 26, 3) := by decide +kernel
theorem dX10_init_37 : decode cX10_init 37 = .ok (.aload_n 0, 1) := by decide +kernel
theorem dX10_init_38 : decode cX10_init 38 = .ok (.new 30, 3) := by decide +kernel
theorem dX10_init_41 : decode cX10_init 41 = .ok (.dup, 1) := by decide +kernel
theorem dX10_init_42 : decode cX10_init 42 = .ok (.invokespecial 32, 3) := by decide +kernel
theorem dX10_init_45 : decode cX10_init 45 = .ok (.putfield 33, 3) := by decide +kernel
theorem dX10_init_48 : decode cX10_init 48 = .ok (.aload_n 0, 1) := by decide +kernel
theorem dX10_init_49 : decode cX10_init 49 = .ok (.new 30, 3) := by decide +kernel
theorem dX10_init_52 : decode cX10_init 52 = .ok (.dup, 1) := by decide +kernel
theorem dX10_init_53 : decode cX10_init 53 = .ok (.invokespecial 32, 3) := by decide +kernel
theorem dX10_init_56 : decode cX10_init 56 = .ok (.putfield 37, 3) := by decide +kernel
theorem dX10_init_59 : decode cX10_init 59 = .ok (.aload_n 0, 1) := by decide +kernel
theorem dX10_init_60 : decode cX10_init 60 = .ok (.new 40, 3) := by decide +kernel
theorem dX10_init_63 : decode cX10_init 63 = .ok (.dup, 1) := by decide +kernel
theorem dX10_init_64 : decode cX10_init 64 = .ok (.invokespecial 42, 3) := by decide +kernel
theorem dX10_init_67 : decode cX10_init 67 = .ok (.putfield 43, 3) := by decide +kernel
theorem dX10_init_70 : decode cX10_init 70 = .ok (.aload_n 0, 1) := by decide +kernel
theorem dX10_init_71 : decode cX10_init 71 = .ok (.new 47, 3) := by decide +kernel
theorem dX10_init_74 : decode cX10_init 74 = .ok (.dup, 1) := by decide +kernel
theorem dX10_init_75 : decode cX10_init 75 = .ok (.invokespecial 49, 3) := by decide +kernel
theorem dX10_init_78 : decode cX10_init 78 = .ok (.putfield 50, 3) := by decide +kernel
theorem dX10_init_81 : decode cX10_init 81 = .ok (.aload_n 0, 1) := by decide +kernel
theorem dX10_init_82 : decode cX10_init 82 = .ok (.new 47, 3) := by decide +kernel
theorem dX10_init_85 : decode cX10_init 85 = .ok (.dup, 1) := by decide +kernel
theorem dX10_init_86 : decode cX10_init 86 = .ok (.invokespecial 49, 3) := by decide +kernel
theorem dX10_init_89 : decode cX10_init 89 = .ok (.putfield 54, 3) := by decide +kernel
theorem dX10_init_92 : decode cX10_init 92 = .ok (.return_, 1) := by decide +kernel
set_option maxRecDepth 20000 in
theorem ggX10_feed_X6_add : GoodIn wsX10_feed wsX6_add := goodIn_r _ [7, 8, 9, 20, 21] (by decide +kernel) (by decide +kernel)
set_option maxRecDepth 20000 in
theorem gX10_feed_X6_add : GoodIn wsX10_feed (wsV RX10 61 RX6 yX6_add wsX6_add) := goodIn_app (goodIn_of _ (by decide +kernel)) ggX10_feed_X6_add
theorem dX10_feed_0 : decode cX10_feed 0 = .ok (.aload_n 0, 1) := by decide +kernel
theorem dX10_feed_1 : decode cX10_feed 1 = .ok (.getfield 12, 3) := by decide +kernel
theorem dX10_feed_4 : decode cX10_feed 4 = .ok (.getfield 57, 3) := by decide +kernel
theorem dX10_feed_7 : decode cX10_feed 7 = .ok (.bipush 20, 2) := by decide +kernel
theorem dX10_feed_9 : decode cX10_feed 9 = .ok (.iadd, 1) := by decide +kernel
theorem dX10_feed_10 : decode cX10_feed 10 = .ok (.sipush 640, 3) := by decide +kernel
theorem dX10_feed_13 : decode cX10_feed 13 = .ok (.if_icmp .le 5, 3) := by decide +kernel
theorem dX10_feed_16 : decode cX10_feed 16 = .ok (.iconst (-1), 1) := by decide +kernel
theorem dX10_feed_17 : decode cX10_feed 17 = .ok (.ireturn, 1) := by decide +kernel
theorem dX10_feed_18 : decode cX10_feed 18 = .ok (.aload_n 0, 1) := by decide +kernel
theorem dX10_feed_19 : decode cX10_feed 19 = .ok (.getfield 12, 3) := by decide +kernel
theorem dX10_feed_22 : decode cX10_feed 22 = .ok (.iload_n 1, 1) := by decide +kernel
theorem dX10_feed_23 : decode cX10_feed 23 = .ok (.invokevirtual 61, 3) := by decide +kernel
theorem dX10_feed_26 : decode cX10_feed 26 = .ok (.aload_n 0, 1) := by decide +kernel
theorem dX10_feed_27 : decode cX10_feed 27 = .ok (.getfield 12, 3) := by decide +kernel
theorem dX10_feed_30 : decode cX10_feed 30 = .ok (.iload_n 2, 1) := by decide +kernel
theorem dX10_feed_31 : decode cX10_feed 31 = .ok (.invokevirtual 61, 3) := by decide +kernel
theorem dX10_feed_34 : decode cX10_feed 34 = .ok (.aload_n 0, 1) := by decide +kernel
theorem dX10_feed_35 : decode cX10_feed 35 = .ok (.getfield 12, 3) := by decide +kernel
theorem dX10_feed_38 : decode cX10_feed 38 = .ok (.iload_n 3, 1) := by decide +kernel
theorem dX10_feed_39 : decode cX10_feed 39 = .ok (.invokevirtual 61, 3) := by decide +kernel
theorem dX10_feed_42 : decode cX10_feed 42 = .ok (.aload_n 0, 1) := by decide +kernel
theorem dX10_feed_43 : decode cX10_feed 43 = .ok (.getfield 12, 3) := by decide +kernel
theorem dX10_feed_46 : decode cX10_feed 46 = .ok (.iload 4, 2) := by decide +kernel
theorem dX10_feed_48 : decode cX10_feed 48 = .ok (.invokevirtual 61, 3) := by decide +kernel
theorem dX10_feed_51 : decode cX10_feed 51 = .ok (.aload_n 0, 1) := by decide +kernel
theorem dX10_feed_52 : decode cX10_feed 52 = .ok (.getfield 12, 3) := by decide +kernel
theorem dX10_feed_55 : decode cX10_feed 55 = .ok (.iload 5, 2) := by decide +kernel
theorem dX10_feed_57 : decode cX10_feed 57 = .ok (.invokevirtual 61, 3) := by decide +kernel
theorem dX10_feed_60 : decode cX10_feed 60 = .ok (.aload_n 0, 1) := by decide +kernel
theorem dX10_feed_61 : decode cX10_feed 61 = .ok (.getfield 12, 3) := by decide +kernel
theorem dX10_feed_64 : decode cX10_feed 64 = .ok (.getfield 57, 3) := by decide +kernel
theorem dX10_feed_67 : decode cX10_feed 67 = .ok (.ireturn, 1) := by decide +kernel
theorem dX10_end_0 : decode cX10_end 0 = .ok (.iload_n 1, 1) := by decide +kernel
theorem dX10_end_1 : decode cX10_end 1 = .ok (.ifCond .lt 14, 3) := by decide +kernel
theorem dX10_end_4 : decode cX10_end 4 = .ok (.iload_n 1, 1) := by decide +kernel
theorem dX10_end_5 : decode cX10_end 5 = .ok (.aload_n 0, 1) := by decide +kernel
theorem dX10_end_6 : decode cX10_end 6 = .ok (.getfield 12, 3) := by decide +kernel
theorem dX10_end_9 : decode cX10_end 9 = .ok (.getfield 57, 3) := by decide +kernel
theorem dX10_end_12 : decode cX10_end 12 = .ok (.if_icmp .le 5, 3) := by decide +kernel
theorem dX10_end_15 : decode cX10_end 15 = .ok (.iconst 0, 1) := by decide +kernel
theorem dX10_end_16 : decode cX10_end 16 = .ok (.ireturn, 1) := by decide +kernel
theorem dX10_end_17 : decode cX10_end 17 = .ok (.aload_n 0, 1) := by decide +kernel
theorem dX10_end_18 : decode cX10_end 18 = .ok (.getfield 12, 3) := by decide +kernel
theorem dX10_end_21 : decode cX10_end 21 = .ok (.iload_n 1, 1) := by decide +kernel
theorem dX10_end_22 : decode cX10_end 22 = .ok (.putfield 57, 3) := by decide +kernel
theorem dX10_end_25 : decode cX10_end 25 = .ok (.iconst 1, 1) := by decide +kernel
theorem dX10_end_26 : decode cX10_end 26 = .ok (.ireturn, 1) := by decide +kernel
set_option maxRecDepth 20000 in
theorem ggX10_text_X4_read : GoodIn wsX10_text wsX4_read := goodIn_r _ [16, 17, 18, 19, 20, 21, 22, 23, 24, 25, 26, 27, 28, 29, 30, 31, 32, 33, 34, 35, 36, 37, 38, 39, 40, 41, 42, 43, 44, 45, 46, 47, 48, 49, 50, 51, 52, 53, 54, 55, 56, 57, 58, 59, 60, 61, 62, 63, 64, 65, 66, 67, 68, 69, 70, 71, 72, 73, 74, 75, 76, 77, 78, 79, 80, 81, 82, 83, 84, 85, 86, 87, 88, 89, 90, 91, 92, 93, 94, 95, 96, 97, 98, 99, 100, 101, 102, 103, 104, 105, 106, 107, 108, 109, 110, 111, 112, 113, 114, 115, 116, 117, 118, 119, 120, 121, 122, 123, 124, 125, 126, 127, 128, 129, 130, 131, 132, 133, 134, 135, 136, 137, 138, 139, 140, 141, 142, 143, 144, 15, 145, 146, 147, 148, 149, 150, 151, 152, 153, 154, 155, 156, 157, 158, 159, 160, 161, 162, 163, 164, 165, 166, 167, 168, 169, 170, 171, 172, 173, 174, 175, 176, 177, 178, 179, 180, 181, 182, 183, 184, 185, 186, 187, 188, 189, 190, 191, 192, 193, 194, 195, 196, 197, 198, 199, 200, 201, 202, 203, 204, 205, 206, 207, 208, 209, 210, 211, 212, 213, 214, 215, 216, 217, 218, 219, 220, 221, 222, 223, 224, 225, 226, 227, 228, 229, 230, 231, 232, 233, 234, 235, 236, 237, 238, 239, 240, 241, 242, 243, 244, 245, 246, 247, 248, 249, 250, 251, 252, 253, 254, 255, 256, 257, 258, 259, 260, 261, 262, 263, 264, 265, 266, 267, 268, 269, 270, 271, 272, 273, 274, 275, 276, 277, 278, 279, 298, 299, 300, 301, 302, 303, 304, 310, 311, 312, 313, 314, 296, 297, 305, 306, 307, 308, 309, 315, 316, 317, 318, 319, 320, 321, 322, 323, 324, 325, 326, 327, 328, 329, 330, 331, 332, 333, 334] (by decide +kernel) (by decide +kernel)
set_option maxRecDepth 20000 in
theorem gX10_text_X4_read : GoodIn wsX10_text (wsV RX10 65 RX4 yX4_read wsX4_read) := goodIn_app (goodIn_of _ (by decide +kernel)) ggX10_text_X4_read
set_option maxRecDepth 20000 in
theorem ggX10_text_X0_clear : GoodIn wsX10_text wsX0_clear := goodIn_r _ [284, 285, 335, 336, 337, 338] (by decide +kernel) (by decide +kernel)
set_option maxRecDepth 20000 in
theorem gX10_text_X0_clear : GoodIn wsX10_text (wsV RX10 81 RX0 yX0_clear wsX0_clear) := goodIn_app (goodIn_of _ (by decide +kernel)) ggX10_text_X0_clear
theorem dX10_text_0 : decode cX10_text 0 = .ok (.aload_n 0, 1) := by decide +kernel
theorem dX10_text_1 : decode cX10_text 1 = .ok (.getfield 19, 3) := by decide +kernel
theorem dX10_text_4 : decode cX10_text 4 = .ok (.aload_n 0, 1) := by decide +kernel
theorem dX10_text_5 : decode cX10_text 5 = .ok (.getfield 12, 3) := by decide +kernel
theorem dX10_text_8 : decode cX10_text 8 = .ok (.aload_n 0, 1) := by decide +kernel
theorem dX10_text_9 : decode cX10_text 9 = .ok (.getfield 54, 3) := by decide +kernel
theorem dX10_text_12 : decode cX10_text 12 = .ok (.invokevirtual 65, 3) := by decide +kernel
theorem dX10_text_15 : decode cX10_text 15 = .ok (.istore_n 1, 1) := by decide +kernel
theorem dX10_text_16 : decode cX10_text 16 = .ok (.aload_n 0, 1) := by decide +kernel
theorem dX10_text_17 : decode cX10_text 17 = .ok (.getfield 12, 3) := by decide +kernel
theorem dX10_text_20 : decode cX10_text 20 = .ok (.iconst 0, 1) := by decide +kernel
theorem dX10_text_21 : decode cX10_text 21 = .ok (.putfield 57, 3) := by decide +kernel
theorem dX10_text_24 : decode cX10_text 24 = .ok (.aload_n 0, 1) := by decide +kernel
theorem dX10_text_25 : decode cX10_text 25 = .ok (.aload_n 0, 1) := by decide +kernel
theorem dX10_text_26 : decode cX10_text 26 = .ok (.getfield 19, 3) := by decide +kernel
theorem dX10_text_29 : decode cX10_text 29 = .ok (.getfield 69, 3) := by decide +kernel
theorem dX10_text_32 : decode cX10_text 32 = .ok (.putfield 72, 3) := by decide +kernel
theorem dX10_text_35 : decode cX10_text 35 = .ok (.iload_n 1, 1) := by decide +kernel
theorem dX10_text_36 : decode cX10_text 36 = .ok (.ifCond .ne 13, 3) := by decide +kernel
theorem dX10_text_39 : decode cX10_text 39 = .ok (.iconst (-1), 1) := by decide +kernel
theorem dX10_text_40 : decode cX10_text 40 = .ok (.aload_n 0, 1) := by decide +kernel
theorem dX10_text_41 : decode cX10_text 41 = .ok (.getfield 19, 3) := by decide +kernel
theorem dX10_text_44 : decode cX10_text 44 = .ok (.getfield 75, 3) := by decide +kernel
theorem dX10_text_47 : decode cX10_text 47 = .ok (.isub, 1) := by decide +kernel
theorem dX10_text_48 : decode cX10_text 48 = .ok (.ireturn, 1) := by decide +kernel
theorem dX10_text_49 : decode cX10_text 49 = .ok (.aload_n 0, 1) := by decide +kernel
theorem dX10_text_50 : decode cX10_text 50 = .ok (.getfield 50, 3) := by decide +kernel
theorem dX10_text_53 : decode cX10_text 53 = .ok (.astore_n 2, 1) := by decide +kernel
theorem dX10_text_54 : decode cX10_text 54 = .ok (.aload_n 0, 1) := by decide +kernel
theorem dX10_text_55 : decode cX10_text 55 = .ok (.aload_n 0, 1) := by decide +kernel
theorem dX10_text_56 : decode cX10_text 56 = .ok (.getfield 54, 3) := by decide +kernel
theorem dX10_text_59 : decode cX10_text 59 = .ok (.putfield 50, 3) := by decide +kernel
theorem dX10_text_62 : decode cX10_text 62 = .ok (.aload_n 0, 1) := by decide +kernel
theorem dX10_text_63 : decode cX10_text 63 = .ok (.aload_n 2, 1) := by decide +kernel
theorem dX10_text_64 : decode cX10_text 64 = .ok (.putfield 54, 3) := by decide +kernel
theorem dX10_text_67 : decode cX10_text 67 = .ok (.aload_n 0, 1) := by decide +kernel
theorem dX10_text_68 : decode cX10_text 68 = .ok (.iconst 0, 1) := by decide +kernel
theorem dX10_text_69 : decode cX10_text 69 = .ok (.putfield 78, 3) := by decide +kernel
theorem dX10_text_72 : decode cX10_text 72 = .ok (.aload_n 0, 1) := by decide +kernel
theorem dX10_text_73 : decode cX10_text 73 = .ok (.getfield 26, 3) := by decide +kernel
theorem dX10_text_76 : decode cX10_text 76 = .ok (.invokevirtual 81, 3) := by decide +kernel
theorem dX10_text_79 : decode cX10_text 79 = .ok (.aload_n 0, 1) := by decide +kernel
theorem dX10_text_80 : decode cX10_text 80 = .ok (.getfield 50, 3) := by decide +kernel
theorem dX10_text_83 : decode cX10_text 83 = .ok (.getfield 84, 3) := by decide +kernel
theorem dX10_text_86 : decode cX10_text 86 = .ok (.ireturn, 1) := by decide +kernel
theorem dX10_fault_0 : decode cX10_fault 0 = .ok (.aload_n 0, 1) := by decide +kernel
theorem dX10_fault_1 : decode cX10_fault 1 = .ok (.getfield 72, 3) := by decide +kernel
theorem dX10_fault_4 : decode cX10_fault 4 = .ok (.ireturn, 1) := by decide +kernel
theorem dX10_now_0 : decode cX10_now 0 = .ok (.iload_n 1, 1) := by decide +kernel
theorem dX10_now_1 : decode cX10_now 1 = .ok (.tableswitch 87 0 5 #[39, 44, 52, 60, 71, 79], 39) := by decide +kernel
theorem dX10_now_40 : decode cX10_now 40 = .ok (.aload_n 0, 1) := by decide +kernel
theorem dX10_now_41 : decode cX10_now 41 = .ok (.getfield 78, 3) := by decide +kernel
theorem dX10_now_44 : decode cX10_now 44 = .ok (.ireturn, 1) := by decide +kernel
theorem dX10_now_45 : decode cX10_now 45 = .ok (.aload_n 0, 1) := by decide +kernel
theorem dX10_now_46 : decode cX10_now 46 = .ok (.getfield 50, 3) := by decide +kernel
theorem dX10_now_49 : decode cX10_now 49 = .ok (.getfield 87, 3) := by decide +kernel
theorem dX10_now_52 : decode cX10_now 52 = .ok (.ireturn, 1) := by decide +kernel
theorem dX10_now_53 : decode cX10_now 53 = .ok (.aload_n 0, 1) := by decide +kernel
theorem dX10_now_54 : decode cX10_now 54 = .ok (.getfield 50, 3) := by decide +kernel
theorem dX10_now_57 : decode cX10_now 57 = .ok (.getfield 84, 3) := by decide +kernel
theorem dX10_now_60 : decode cX10_now 60 = .ok (.ireturn, 1) := by decide +kernel
theorem dX10_now_61 : decode cX10_now 61 = .ok (.aload_n 0, 1) := by decide +kernel
theorem dX10_now_62 : decode cX10_now 62 = .ok (.getfield 50, 3) := by decide +kernel
theorem dX10_now_65 : decode cX10_now 65 = .ok (.getfield 90, 3) := by decide +kernel
theorem dX10_now_68 : decode cX10_now 68 = .ok (.getfield 94, 3) := by decide +kernel
theorem dX10_now_71 : decode cX10_now 71 = .ok (.ireturn, 1) := by decide +kernel
theorem dX10_now_72 : decode cX10_now 72 = .ok (.aload_n 0, 1) := by decide +kernel
theorem dX10_now_73 : decode cX10_now 73 = .ok (.getfield 26, 3) := by decide +kernel
theorem dX10_now_76 : decode cX10_now 76 = .ok (.getfield 99, 3) := by decide +kernel
theorem dX10_now_79 : decode cX10_now 79 = .ok (.ireturn, 1) := by decide +kernel
theorem dX10_now_80 : decode cX10_now 80 = .ok (.aload_n 0, 1) := by decide +kernel
theorem dX10_now_81 : decode cX10_now 81 = .ok (.getfield 12, 3) := by decide +kernel
theorem dX10_now_84 : decode cX10_now 84 = .ok (.getfield 57, 3) := by decide +kernel
theorem dX10_now_87 : decode cX10_now 87 = .ok (.ireturn, 1) := by decide +kernel
theorem dX10_now_88 : decode cX10_now 88 = .ok (.iconst (-1), 1) := by decide +kernel
theorem dX10_now_89 : decode cX10_now 89 = .ok (.ireturn, 1) := by decide +kernel
set_option maxRecDepth 20000 in
theorem ggX10_lease_X1_leaseAt : GoodIn wsX10_lease wsX1_leaseAt := goodIn_r _ [15, 16, 17, 57, 58, 59, 60, 61] (by decide +kernel) (by decide +kernel)
set_option maxRecDepth 20000 in
theorem gX10_lease_X1_leaseAt : GoodIn wsX10_lease (wsV RX10 100 RX1 yX1_leaseAt wsX1_leaseAt) := goodIn_app (goodIn_of _ (by decide +kernel)) ggX10_lease_X1_leaseAt
set_option maxRecDepth 20000 in
theorem ggX10_lease_X2_endKnownIn : GoodIn wsX10_lease wsX2_endKnownIn := goodIn_r _ [22, 23, 24, 25, 26, 43, 44, 45, 46, 47, 48, 49, 50, 51, 52, 53, 54, 55, 56] (by decide +kernel) (by decide +kernel)
set_option maxRecDepth 20000 in
theorem gX10_lease_X2_endKnownIn : GoodIn wsX10_lease (wsV RX10 131 RX2 yX2_endKnownIn wsX2_endKnownIn) := goodIn_app (goodIn_of _ (by decide +kernel)) ggX10_lease_X2_endKnownIn
set_option maxRecDepth 20000 in
theorem ggX10_lease_X2_reviews : GoodIn wsX10_lease wsX2_reviews := goodIn_r _ [30, 31, 32, 26, 43, 44, 45, 46, 47, 48, 49, 50, 51, 52, 53, 54, 55, 56] (by decide +kernel) (by decide +kernel)
set_option maxRecDepth 20000 in
theorem gX10_lease_X2_reviews : GoodIn wsX10_lease (wsV RX10 135 RX2 yX2_reviews wsX2_reviews) := goodIn_app (goodIn_of _ (by decide +kernel)) ggX10_lease_X2_reviews
theorem dX10_lease_0 : decode cX10_lease 0 = .ok (.aload_n 0, 1) := by decide +kernel
theorem dX10_lease_1 : decode cX10_lease 1 = .ok (.getfield 50, 3) := by decide +kernel
theorem dX10_lease_4 : decode cX10_lease 4 = .ok (.iload_n 1, 1) := by decide +kernel
theorem dX10_lease_5 : decode cX10_lease 5 = .ok (.invokevirtual 100, 3) := by decide +kernel
theorem dX10_lease_8 : decode cX10_lease 8 = .ok (.astore_n 3, 1) := by decide +kernel
theorem dX10_lease_9 : decode cX10_lease 9 = .ok (.aload_n 3, 1) := by decide +kernel
theorem dX10_lease_10 : decode cX10_lease 10 = .ok (.ifnonnull 13, 3) := by decide +kernel
theorem dX10_lease_13 : decode cX10_lease 13 = .ok (.new 104, 3) := by decide +kernel
theorem dX10_lease_16 : decode cX10_lease 16 = .ok (.dup, 1) := by decide +kernel
theorem dX10_lease_17 : decode cX10_lease 17 = .ok (.ldc 106, 2) := by decide +kernel
theorem dX10_lease_19 : decode cX10_lease 19 = .ok (.invokespecial 108, 3) := by decide +kernel
theorem dX10_lease_22 : decode cX10_lease 22 = .ok (.athrow, 1) := by decide +kernel
theorem dX10_lease_23 : decode cX10_lease 23 = .ok (.iload_n 2, 1) := by decide +kernel
theorem dX10_lease_24 : decode cX10_lease 24 = .ok (.tableswitch 92 0 7 #[48, 53, 58, 63, 68, 73, 78, 87], 48) := by decide +kernel
theorem dX10_lease_72 : decode cX10_lease 72 = .ok (.aload_n 3, 1) := by decide +kernel
theorem dX10_lease_73 : decode cX10_lease 73 = .ok (.getfield 111, 3) := by decide +kernel
theorem dX10_lease_76 : decode cX10_lease 76 = .ok (.ireturn, 1) := by decide +kernel
theorem dX10_lease_77 : decode cX10_lease 77 = .ok (.aload_n 3, 1) := by decide +kernel
theorem dX10_lease_78 : decode cX10_lease 78 = .ok (.getfield 116, 3) := by decide +kernel
theorem dX10_lease_81 : decode cX10_lease 81 = .ok (.ireturn, 1) := by decide +kernel
theorem dX10_lease_82 : decode cX10_lease 82 = .ok (.aload_n 3, 1) := by decide +kernel
theorem dX10_lease_83 : decode cX10_lease 83 = .ok (.getfield 119, 3) := by decide +kernel
theorem dX10_lease_86 : decode cX10_lease 86 = .ok (.ireturn, 1) := by decide +kernel
theorem dX10_lease_87 : decode cX10_lease 87 = .ok (.aload_n 3, 1) := by decide +kernel
theorem dX10_lease_88 : decode cX10_lease 88 = .ok (.getfield 122, 3) := by decide +kernel
theorem dX10_lease_91 : decode cX10_lease 91 = .ok (.ireturn, 1) := by decide +kernel
theorem dX10_lease_92 : decode cX10_lease 92 = .ok (.aload_n 3, 1) := by decide +kernel
theorem dX10_lease_93 : decode cX10_lease 93 = .ok (.getfield 125, 3) := by decide +kernel
theorem dX10_lease_96 : decode cX10_lease 96 = .ok (.ireturn, 1) := by decide +kernel
theorem dX10_lease_97 : decode cX10_lease 97 = .ok (.aload_n 3, 1) := by decide +kernel
theorem dX10_lease_98 : decode cX10_lease 98 = .ok (.getfield 128, 3) := by decide +kernel
theorem dX10_lease_101 : decode cX10_lease 101 = .ok (.ireturn, 1) := by decide +kernel
theorem dX10_lease_102 : decode cX10_lease 102 = .ok (.aload_n 3, 1) := by decide +kernel
theorem dX10_lease_103 : decode cX10_lease 103 = .ok (.aload_n 0, 1) := by decide +kernel
theorem dX10_lease_104 : decode cX10_lease 104 = .ok (.getfield 78, 3) := by decide +kernel
theorem dX10_lease_107 : decode cX10_lease 107 = .ok (.invokevirtual 131, 3) := by decide +kernel
theorem dX10_lease_110 : decode cX10_lease 110 = .ok (.ireturn, 1) := by decide +kernel
theorem dX10_lease_111 : decode cX10_lease 111 = .ok (.aload_n 3, 1) := by decide +kernel
theorem dX10_lease_112 : decode cX10_lease 112 = .ok (.invokevirtual 135, 3) := by decide +kernel
theorem dX10_lease_115 : decode cX10_lease 115 = .ok (.ireturn, 1) := by decide +kernel
theorem dX10_lease_116 : decode cX10_lease 116 = .ok (.new 104, 3) := by decide +kernel
theorem dX10_lease_119 : decode cX10_lease 119 = .ok (.dup, 1) := by decide +kernel
theorem dX10_lease_120 : decode cX10_lease 120 = .ok (.ldc 139, 2) := by decide +kernel
theorem dX10_lease_122 : decode cX10_lease 122 = .ok (.invokespecial 108, 3) := by decide +kernel
theorem dX10_lease_125 : decode cX10_lease 125 = .ok (.athrow, 1) := by decide +kernel
set_option maxRecDepth 20000 in
theorem ggX10_index_X10_isMonth : GoodIn wsX10_index wsX10_isMonth := goodIn_r _ [7] (by decide +kernel) (by decide +kernel)
set_option maxRecDepth 20000 in
theorem gX10_index_X10_isMonth : GoodIn wsX10_index (va_wsS RX10 141 yX10_isMonth wsX10_isMonth) := goodIn_app (goodIn_of _ (by decide +kernel)) ggX10_index_X10_isMonth
set_option maxRecDepth 20000 in
theorem ggX10_index_X9_knowIndex : GoodIn wsX10_index wsX9_knowIndex := goodIn_r _ [12, 13, 14, 15, 16, 17, 18, 19, 20, 21, 22, 23, 24, 25, 26, 27, 28, 29, 30, 31, 51, 52, 53, 54, 55, 56, 57, 58, 59, 60] (by decide +kernel) (by decide +kernel)
set_option maxRecDepth 20000 in
theorem gX10_index_X9_knowIndex : GoodIn wsX10_index (wsV RX10 145 RX9 yX9_knowIndex wsX9_knowIndex) := goodIn_app (goodIn_of _ (by decide +kernel)) ggX10_index_X9_knowIndex
set_option maxRecDepth 20000 in
theorem ggX10_index_X9_indexOf : GoodIn wsX10_index wsX9_indexOf := goodIn_r _ [35, 13, 51, 52, 53, 54, 55, 56, 57] (by decide +kernel) (by decide +kernel)
set_option maxRecDepth 20000 in
theorem gX10_index_X9_indexOf : GoodIn wsX10_index (wsV RX10 149 RX9 yX9_indexOf wsX9_indexOf) := goodIn_app (goodIn_of _ (by decide +kernel)) ggX10_index_X9_indexOf
theorem dX10_index_0 : decode cX10_index 0 = .ok (.iload_n 1, 1) := by decide +kernel
theorem dX10_index_1 : decode cX10_index 1 = .ok (.invokestatic 141, 3) := by decide +kernel
theorem dX10_index_4 : decode cX10_index 4 = .ok (.ifCond .eq 10, 3) := by decide +kernel
theorem dX10_index_7 : decode cX10_index 7 = .ok (.iload_n 2, 1) := by decide +kernel
theorem dX10_index_8 : decode cX10_index 8 = .ok (.invokestatic 141, 3) := by decide +kernel
theorem dX10_index_11 : decode cX10_index 11 = .ok (.ifCond .ne 5, 3) := by decide +kernel
theorem dX10_index_14 : decode cX10_index 14 = .ok (.iconst (-1), 1) := by decide +kernel
theorem dX10_index_15 : decode cX10_index 15 = .ok (.ireturn, 1) := by decide +kernel
theorem dX10_index_16 : decode cX10_index 16 = .ok (.aload_n 0, 1) := by decide +kernel
theorem dX10_index_17 : decode cX10_index 17 = .ok (.getfield 33, 3) := by decide +kernel
theorem dX10_index_20 : decode cX10_index 20 = .ok (.aload_n 0, 1) := by decide +kernel
theorem dX10_index_21 : decode cX10_index 21 = .ok (.getfield 50, 3) := by decide +kernel
theorem dX10_index_24 : decode cX10_index 24 = .ok (.getfield 90, 3) := by decide +kernel
theorem dX10_index_27 : decode cX10_index 27 = .ok (.iload_n 2, 1) := by decide +kernel
theorem dX10_index_28 : decode cX10_index 28 = .ok (.invokevirtual 145, 3) := by decide +kernel
theorem dX10_index_31 : decode cX10_index 31 = .ok (.aload_n 0, 1) := by decide +kernel
theorem dX10_index_32 : decode cX10_index 32 = .ok (.getfield 33, 3) := by decide +kernel
theorem dX10_index_35 : decode cX10_index 35 = .ok (.iload_n 1, 1) := by decide +kernel
theorem dX10_index_36 : decode cX10_index 36 = .ok (.invokevirtual 149, 3) := by decide +kernel
theorem dX10_index_39 : decode cX10_index 39 = .ok (.istore_n 3, 1) := by decide +kernel
theorem dX10_index_40 : decode cX10_index 40 = .ok (.iload_n 3, 1) := by decide +kernel
theorem dX10_index_41 : decode cX10_index 41 = .ok (.ifCond .ne 7, 3) := by decide +kernel
theorem dX10_index_44 : decode cX10_index 44 = .ok (.iconst (-1), 1) := by decide +kernel
theorem dX10_index_45 : decode cX10_index 45 = .ok (.goto 4, 3) := by decide +kernel
theorem dX10_index_48 : decode cX10_index 48 = .ok (.iload_n 3, 1) := by decide +kernel
theorem dX10_index_49 : decode cX10_index 49 = .ok (.ireturn, 1) := by decide +kernel
set_option maxRecDepth 20000 in
theorem ggX10_rent_X1_leaseAt : GoodIn wsX10_rent wsX1_leaseAt := goodIn_r _ [6, 7, 8, 138, 139, 140, 141, 142] (by decide +kernel) (by decide +kernel)
set_option maxRecDepth 20000 in
theorem gX10_rent_X1_leaseAt : GoodIn wsX10_rent (wsV RX10 100 RX1 yX1_leaseAt wsX1_leaseAt) := goodIn_app (goodIn_of _ (by decide +kernel)) ggX10_rent_X1_leaseAt
set_option maxRecDepth 20000 in
theorem ggX10_rent_X2_hasMonth : GoodIn wsX10_rent wsX2_hasMonth := goodIn_r _ [13, 14, 15, 143, 144, 145, 146, 147, 148, 149, 150, 151, 152, 153, 154, 155, 156] (by decide +kernel) (by decide +kernel)
set_option maxRecDepth 20000 in
theorem gX10_rent_X2_hasMonth : GoodIn wsX10_rent (wsV RX10 152 RX2 yX2_hasMonth wsX2_hasMonth) := goodIn_app (goodIn_of _ (by decide +kernel)) ggX10_rent_X2_hasMonth
set_option maxRecDepth 20000 in
theorem ggX10_rent_X10_isMonth : GoodIn wsX10_rent wsX10_isMonth := goodIn_r _ [19] (by decide +kernel) (by decide +kernel)
set_option maxRecDepth 20000 in
theorem gX10_rent_X10_isMonth : GoodIn wsX10_rent (va_wsS RX10 141 yX10_isMonth wsX10_isMonth) := goodIn_app (goodIn_of _ (by decide +kernel)) ggX10_rent_X10_isMonth
set_option maxRecDepth 20000 in
theorem ggX10_rent_X10_rentKnownIn : GoodIn wsX10_rent wsX10_rentKnownIn := goodIn_r _ [23, 24, 1, 25, 26, 27, 28, 29, 30, 31, 32, 33, 34, 35, 36, 37, 38, 39, 40, 41, 42, 43, 44, 45, 46, 47, 48, 49, 50, 51, 52, 53, 54, 55, 56, 57, 58, 59, 60, 61, 62, 63, 64, 65, 66, 67, 68, 69, 70, 71, 72, 73, 74, 75, 76, 77, 12, 78, 79, 80, 15, 81, 82, 83, 84, 14, 85, 86, 87, 88, 89, 90, 91, 92, 93, 94, 95, 96, 97, 98, 99, 100, 101, 102, 103, 104, 105, 106, 107, 108, 109, 110, 111, 112, 113, 114, 115, 116, 117, 118, 119, 120, 121, 122, 123, 124, 125, 126, 127, 128, 129, 130, 131, 132, 133, 134, 135, 136, 137, 138, 139, 140, 141, 142, 157, 158, 159, 160, 161, 162, 163, 143, 144, 145, 146, 147, 148, 149, 150, 151, 152, 153, 154, 155, 156, 164, 165, 166, 167, 168, 169] (by decide +kernel) (by decide +kernel)
set_option maxRecDepth 20000 in
theorem gX10_rent_X10_rentKnownIn : GoodIn wsX10_rent (wsV RX10 155 RX10 yX10_rentKnownIn wsX10_rentKnownIn) := goodIn_app (goodIn_of _ (by decide +kernel)) ggX10_rent_X10_rentKnownIn
theorem dX10_rent_0 : decode cX10_rent 0 = .ok (.aload_n 0, 1) := by decide +kernel
theorem dX10_rent_1 : decode cX10_rent 1 = .ok (.getfield 50, 3) := by decide +kernel
theorem dX10_rent_4 : decode cX10_rent 4 = .ok (.iload_n 1, 1) := by decide +kernel
theorem dX10_rent_5 : decode cX10_rent 5 = .ok (.invokevirtual 100, 3) := by decide +kernel
theorem dX10_rent_8 : decode cX10_rent 8 = .ok (.astore 4, 2) := by decide +kernel
theorem dX10_rent_10 : decode cX10_rent 10 = .ok (.aload 4, 2) := by decide +kernel
theorem dX10_rent_12 : decode cX10_rent 12 = .ok (.ifnull 19, 3) := by decide +kernel
theorem dX10_rent_15 : decode cX10_rent 15 = .ok (.aload 4, 2) := by decide +kernel
theorem dX10_rent_17 : decode cX10_rent 17 = .ok (.iload_n 2, 1) := by decide +kernel
theorem dX10_rent_18 : decode cX10_rent 18 = .ok (.invokevirtual 152, 3) := by decide +kernel
theorem dX10_rent_21 : decode cX10_rent 21 = .ok (.ifCond .eq 10, 3) := by decide +kernel
theorem dX10_rent_24 : decode cX10_rent 24 = .ok (.iload_n 3, 1) := by decide +kernel
theorem dX10_rent_25 : decode cX10_rent 25 = .ok (.invokestatic 141, 3) := by decide +kernel
theorem dX10_rent_28 : decode cX10_rent 28 = .ok (.ifCond .ne 5, 3) := by decide +kernel
theorem dX10_rent_31 : decode cX10_rent 31 = .ok (.iconst (-1), 1) := by decide +kernel
theorem dX10_rent_32 : decode cX10_rent 32 = .ok (.ireturn, 1) := by decide +kernel
theorem dX10_rent_33 : decode cX10_rent 33 = .ok (.aload_n 0, 1) := by decide +kernel
theorem dX10_rent_34 : decode cX10_rent 34 = .ok (.aload 4, 2) := by decide +kernel
theorem dX10_rent_36 : decode cX10_rent 36 = .ok (.iload_n 2, 1) := by decide +kernel
theorem dX10_rent_37 : decode cX10_rent 37 = .ok (.iload_n 3, 1) := by decide +kernel
theorem dX10_rent_38 : decode cX10_rent 38 = .ok (.invokevirtual 155, 3) := by decide +kernel
theorem dX10_rent_41 : decode cX10_rent 41 = .ok (.ireturn, 1) := by decide +kernel
set_option maxRecDepth 20000 in
theorem ggX10_review_X1_leaseAt : GoodIn wsX10_review wsX1_leaseAt := goodIn_r _ [15, 16, 17, 142, 143, 144, 145, 146] (by decide +kernel) (by decide +kernel)
set_option maxRecDepth 20000 in
theorem gX10_review_X1_leaseAt : GoodIn wsX10_review (wsV RX10 100 RX1 yX1_leaseAt wsX1_leaseAt) := goodIn_app (goodIn_of _ (by decide +kernel)) ggX10_review_X1_leaseAt
set_option maxRecDepth 20000 in
theorem ggX10_review_X2_hasReview : GoodIn wsX10_review wsX2_hasReview := goodIn_r _ [22, 23, 24, 25, 21, 26, 27, 28, 29, 154, 155, 156, 157, 158, 159, 160, 161, 162, 163, 164, 165, 166, 167] (by decide +kernel) (by decide +kernel)
set_option maxRecDepth 20000 in
theorem gX10_review_X2_hasReview : GoodIn wsX10_review (wsV RX10 159 RX2 yX2_hasReview wsX2_hasReview) := goodIn_app (goodIn_of _ (by decide +kernel)) ggX10_review_X2_hasReview
set_option maxRecDepth 20000 in
theorem ggX10_review_X10_isMonth : GoodIn wsX10_review wsX10_isMonth := goodIn_r _ [33] (by decide +kernel) (by decide +kernel)
set_option maxRecDepth 20000 in
theorem gX10_review_X10_isMonth : GoodIn wsX10_review (va_wsS RX10 141 yX10_isMonth wsX10_isMonth) := goodIn_app (goodIn_of _ (by decide +kernel)) ggX10_review_X10_isMonth
set_option maxRecDepth 20000 in
theorem ggX10_review_X9_begin : GoodIn wsX10_review wsX9_begin := goodIn_r _ [38, 39, 40, 41, 42, 43, 44, 45, 46, 47, 48, 49, 37, 50, 51, 52, 53, 54, 55, 56, 57, 58, 59, 60, 61, 62, 63, 64, 65, 66, 67, 68, 69, 147, 148, 149, 150, 151, 152, 153, 154, 155, 156, 157, 158, 159, 160, 161, 162, 163, 164, 165, 166, 167, 171, 172, 173] (by decide +kernel) (by decide +kernel)
set_option maxRecDepth 20000 in
theorem gX10_review_X9_begin : GoodIn wsX10_review (wsV RX10 163 RX9 yX9_begin wsX9_begin) := goodIn_app (goodIn_of _ (by decide +kernel)) ggX10_review_X9_begin
set_option maxRecDepth 20000 in
theorem ggX10_review_X2_reviewMonth : GoodIn wsX10_review wsX2_reviewMonth := goodIn_r _ [73, 74, 28, 154, 155, 156, 157, 158, 159, 160, 161, 162, 163, 164, 165, 166, 167] (by decide +kernel) (by decide +kernel)
set_option maxRecDepth 20000 in
theorem gX10_review_X2_reviewMonth : GoodIn wsX10_review (wsV RX10 167 RX2 yX2_reviewMonth wsX2_reviewMonth) := goodIn_app (goodIn_of _ (by decide +kernel)) ggX10_review_X2_reviewMonth
set_option maxRecDepth 20000 in
theorem ggX10_review_X9_goTo : GoodIn wsX10_review wsX9_goTo := goodIn_r _ [78, 40, 43, 44, 79, 80, 45, 81, 82, 83, 84, 85, 86, 42, 87, 24, 25, 21, 26, 27, 28, 29, 88, 71, 72, 73, 74, 89, 90, 91, 37, 92, 46, 39, 93, 94, 95, 96, 97, 98, 41, 99, 100, 101, 102, 51, 103, 104, 105, 106, 107, 108, 109, 110, 111, 112, 113, 114, 115, 116, 117, 118, 119, 120, 121, 122, 123, 124, 125, 126, 127, 128, 129, 130, 131, 147, 148, 149, 150, 151, 152, 153, 154, 155, 156, 157, 158, 159, 160, 161, 162, 163, 164, 165, 166, 167, 168, 169, 170] (by decide +kernel) (by decide +kernel)
set_option maxRecDepth 20000 in
theorem gX10_review_X9_goTo : GoodIn wsX10_review (wsV RX10 170 RX9 yX9_goTo wsX9_goTo) := goodIn_app (goodIn_of _ (by decide +kernel)) ggX10_review_X9_goTo
theorem dX10_review_0 : decode cX10_review 0 = .ok (.aload_n 0, 1) := by decide +kernel
theorem dX10_review_1 : decode cX10_review 1 = .ok (.getfield 50, 3) := by decide +kernel
theorem dX10_review_4 : decode cX10_review 4 = .ok (.iload_n 1, 1) := by decide +kernel
theorem dX10_review_5 : decode cX10_review 5 = .ok (.invokevirtual 100, 3) := by decide +kernel
theorem dX10_review_8 : decode cX10_review 8 = .ok (.astore 5, 2) := by decide +kernel
theorem dX10_review_10 : decode cX10_review 10 = .ok (.aload 5, 2) := by decide +kernel
theorem dX10_review_12 : decode cX10_review 12 = .ok (.ifnull 19, 3) := by decide +kernel
theorem dX10_review_15 : decode cX10_review 15 = .ok (.aload 5, 2) := by decide +kernel
theorem dX10_review_17 : decode cX10_review 17 = .ok (.iload_n 2, 1) := by decide +kernel
theorem dX10_review_18 : decode cX10_review 18 = .ok (.invokevirtual 159, 3) := by decide +kernel
theorem dX10_review_21 : decode cX10_review 21 = .ok (.ifCond .eq 10, 3) := by decide +kernel
theorem dX10_review_24 : decode cX10_review 24 = .ok (.iload_n 3, 1) := by decide +kernel
theorem dX10_review_25 : decode cX10_review 25 = .ok (.invokestatic 141, 3) := by decide +kernel
theorem dX10_review_28 : decode cX10_review 28 = .ok (.ifCond .ne 6, 3) := by decide +kernel
theorem dX10_review_31 : decode cX10_review 31 = .ok (.ldc 162, 2) := by decide +kernel
theorem dX10_review_33 : decode cX10_review 33 = .ok (.ireturn, 1) := by decide +kernel
theorem dX10_review_34 : decode cX10_review 34 = .ok (.aload_n 0, 1) := by decide +kernel
theorem dX10_review_35 : decode cX10_review 35 = .ok (.getfield 33, 3) := by decide +kernel
theorem dX10_review_38 : decode cX10_review 38 = .ok (.aload 5, 2) := by decide +kernel
theorem dX10_review_40 : decode cX10_review 40 = .ok (.aload_n 0, 1) := by decide +kernel
theorem dX10_review_41 : decode cX10_review 41 = .ok (.getfield 50, 3) := by decide +kernel
theorem dX10_review_44 : decode cX10_review 44 = .ok (.getfield 90, 3) := by decide +kernel
theorem dX10_review_47 : decode cX10_review 47 = .ok (.iload_n 3, 1) := by decide +kernel
theorem dX10_review_48 : decode cX10_review 48 = .ok (.invokevirtual 163, 3) := by decide +kernel
theorem dX10_review_51 : decode cX10_review 51 = .ok (.aload_n 0, 1) := by decide +kernel
theorem dX10_review_52 : decode cX10_review 52 = .ok (.getfield 33, 3) := by decide +kernel
theorem dX10_review_55 : decode cX10_review 55 = .ok (.aload 5, 2) := by decide +kernel
theorem dX10_review_57 : decode cX10_review 57 = .ok (.aload 5, 2) := by decide +kernel
theorem dX10_review_59 : decode cX10_review 59 = .ok (.iload_n 2, 1) := by decide +kernel
theorem dX10_review_60 : decode cX10_review 60 = .ok (.invokevirtual 167, 3) := by decide +kernel
theorem dX10_review_63 : decode cX10_review 63 = .ok (.invokevirtual 170, 3) := by decide +kernel
theorem dX10_review_66 : decode cX10_review 66 = .ok (.iload 4, 2) := by decide +kernel
theorem dX10_review_68 : decode cX10_review 68 = .ok (.tableswitch 105 0 4 #[36, 43, 51, 59, 82], 36) := by decide +kernel
theorem dX10_review_104 : decode cX10_review 104 = .ok (.aload 5, 2) := by decide +kernel
theorem dX10_review_106 : decode cX10_review 106 = .ok (.iload_n 2, 1) := by decide +kernel
theorem dX10_review_107 : decode cX10_review 107 = .ok (.invokevirtual 167, 3) := by decide +kernel
theorem dX10_review_110 : decode cX10_review 110 = .ok (.ireturn, 1) := by decide +kernel
theorem dX10_review_111 : decode cX10_review 111 = .ok (.aload_n 0, 1) := by decide +kernel
theorem dX10_review_112 : decode cX10_review 112 = .ok (.getfield 33, 3) := by decide +kernel
theorem dX10_review_115 : decode cX10_review 115 = .ok (.getfield 174, 3) := by decide +kernel
theorem dX10_review_118 : decode cX10_review 118 = .ok (.ireturn, 1) := by decide +kernel
theorem dX10_review_119 : decode cX10_review 119 = .ok (.aload_n 0, 1) := by decide +kernel
theorem dX10_review_120 : decode cX10_review 120 = .ok (.getfield 33, 3) := by decide +kernel
theorem dX10_review_123 : decode cX10_review 123 = .ok (.getfield 177, 3) := by decide +kernel
theorem dX10_review_126 : decode cX10_review 126 = .ok (.ireturn, 1) := by decide +kernel
theorem dX10_review_127 : decode cX10_review 127 = .ok (.aload 5, 2) := by decide +kernel
theorem dX10_review_129 : decode cX10_review 129 = .ok (.getfield 180, 3) := by decide +kernel
theorem dX10_review_132 : decode cX10_review 132 = .ok (.getfield 184, 3) := by decide +kernel
theorem dX10_review_135 : decode cX10_review 135 = .ok (.ifCond .eq 13, 3) := by decide +kernel
theorem dX10_review_138 : decode cX10_review 138 = .ok (.aload_n 0, 1) := by decide +kernel
theorem dX10_review_139 : decode cX10_review 139 = .ok (.getfield 33, 3) := by decide +kernel
theorem dX10_review_142 : decode cX10_review 142 = .ok (.getfield 190, 3) := by decide +kernel
theorem dX10_review_145 : decode cX10_review 145 = .ok (.goto 4, 3) := by decide +kernel
theorem dX10_review_148 : decode cX10_review 148 = .ok (.iconst (-1), 1) := by decide +kernel
theorem dX10_review_149 : decode cX10_review 149 = .ok (.ireturn, 1) := by decide +kernel
theorem dX10_review_150 : decode cX10_review 150 = .ok (.aload 5, 2) := by decide +kernel
theorem dX10_review_152 : decode cX10_review 152 = .ok (.getfield 180, 3) := by decide +kernel
theorem dX10_review_155 : decode cX10_review 155 = .ok (.getfield 184, 3) := by decide +kernel
theorem dX10_review_158 : decode cX10_review 158 = .ok (.ifCond .eq 13, 3) := by decide +kernel
theorem dX10_review_161 : decode cX10_review 161 = .ok (.aload_n 0, 1) := by decide +kernel
theorem dX10_review_162 : decode cX10_review 162 = .ok (.getfield 33, 3) := by decide +kernel
theorem dX10_review_165 : decode cX10_review 165 = .ok (.getfield 193, 3) := by decide +kernel
theorem dX10_review_168 : decode cX10_review 168 = .ok (.goto 4, 3) := by decide +kernel
theorem dX10_review_171 : decode cX10_review 171 = .ok (.iconst (-1), 1) := by decide +kernel
theorem dX10_review_172 : decode cX10_review 172 = .ok (.ireturn, 1) := by decide +kernel
theorem dX10_review_173 : decode cX10_review 173 = .ok (.ldc 162, 2) := by decide +kernel
theorem dX10_review_175 : decode cX10_review 175 = .ok (.ireturn, 1) := by decide +kernel
set_option maxRecDepth 20000 in
theorem ggX10_billed_X1_leaseAt : GoodIn wsX10_billed wsX1_leaseAt := goodIn_r _ [8, 9, 10, 144, 145, 146, 147, 148] (by decide +kernel) (by decide +kernel)
set_option maxRecDepth 20000 in
theorem gX10_billed_X1_leaseAt : GoodIn wsX10_billed (wsV RX10 100 RX1 yX1_leaseAt wsX1_leaseAt) := goodIn_app (goodIn_of _ (by decide +kernel)) ggX10_billed_X1_leaseAt
set_option maxRecDepth 20000 in
theorem ggX10_billed_X2_hasMonth : GoodIn wsX10_billed wsX2_hasMonth := goodIn_r _ [15, 16, 17, 149, 150, 151, 152, 153, 154, 155, 156, 157, 158, 159, 160, 161, 162] (by decide +kernel) (by decide +kernel)
set_option maxRecDepth 20000 in
theorem gX10_billed_X2_hasMonth : GoodIn wsX10_billed (wsV RX10 152 RX2 yX2_hasMonth wsX2_hasMonth) := goodIn_app (goodIn_of _ (by decide +kernel)) ggX10_billed_X2_hasMonth
set_option maxRecDepth 20000 in
theorem ggX10_billed_X2_endKnownIn : GoodIn wsX10_billed wsX2_endKnownIn := goodIn_r _ [21, 22, 23, 16, 17, 149, 150, 151, 152, 153, 154, 155, 156, 157, 158, 159, 160, 161, 162] (by decide +kernel) (by decide +kernel)
set_option maxRecDepth 20000 in
theorem gX10_billed_X2_endKnownIn : GoodIn wsX10_billed (wsV RX10 131 RX2 yX2_endKnownIn wsX2_endKnownIn) := goodIn_app (goodIn_of _ (by decide +kernel)) ggX10_billed_X2_endKnownIn
set_option maxRecDepth 20000 in
theorem ggX10_billed_X9_begin : GoodIn wsX10_billed wsX9_begin := goodIn_r _ [28, 29, 30, 31, 32, 33, 34, 35, 36, 37, 38, 39, 27, 40, 41, 42, 43, 44, 45, 46, 47, 48, 49, 50, 51, 52, 53, 54, 55, 56, 57, 58, 59, 163, 164, 165, 166, 167, 168, 169, 149, 150, 151, 152, 153, 154, 155, 156, 157, 158, 159, 160, 161, 162, 170, 171, 172] (by decide +kernel) (by decide +kernel)
set_option maxRecDepth 20000 in
theorem gX10_billed_X9_begin : GoodIn wsX10_billed (wsV RX10 163 RX9 yX9_begin wsX9_begin) := goodIn_app (goodIn_of _ (by decide +kernel)) ggX10_billed_X9_begin
set_option maxRecDepth 20000 in
theorem ggX10_billed_X9_dueIn : GoodIn wsX10_billed wsX9_dueIn := goodIn_r _ [63, 32, 64, 65, 66, 27, 67, 30, 33, 34, 68, 69, 35, 70, 71, 72, 73, 74, 75, 76, 77, 78, 14, 79, 80, 81, 17, 82, 83, 84, 85, 16, 86, 87, 88, 89, 36, 29, 90, 91, 92, 93, 94, 95, 31, 96, 97, 98, 99, 41, 100, 101, 102, 103, 104, 105, 106, 107, 108, 109, 110, 111, 112, 113, 114, 115, 116, 117, 118, 119, 120, 121, 122, 123, 124, 125, 126, 127, 128, 129, 130, 131, 132, 133, 163, 164, 165, 166, 167, 168, 169, 149, 150, 151, 152, 153, 154, 155, 156, 157, 158, 159, 160, 161, 162, 173, 174, 175] (by decide +kernel) (by decide +kernel)
set_option maxRecDepth 20000 in
theorem gX10_billed_X9_dueIn : GoodIn wsX10_billed (wsV RX10 196 RX9 yX9_dueIn wsX9_dueIn) := goodIn_app (goodIn_of _ (by decide +kernel)) ggX10_billed_X9_dueIn
theorem dX10_billed_0 : decode cX10_billed 0 = .ok (.aload_n 0, 1) := by decide +kernel
theorem dX10_billed_1 : decode cX10_billed 1 = .ok (.getfield 50, 3) := by decide +kernel
theorem dX10_billed_4 : decode cX10_billed 4 = .ok (.iload_n 1, 1) := by decide +kernel
theorem dX10_billed_5 : decode cX10_billed 5 = .ok (.invokevirtual 100, 3) := by decide +kernel
theorem dX10_billed_8 : decode cX10_billed 8 = .ok (.astore_n 3, 1) := by decide +kernel
theorem dX10_billed_9 : decode cX10_billed 9 = .ok (.aload_n 3, 1) := by decide +kernel
theorem dX10_billed_10 : decode cX10_billed 10 = .ok (.ifnull 20, 3) := by decide +kernel
theorem dX10_billed_13 : decode cX10_billed 13 = .ok (.aload_n 3, 1) := by decide +kernel
theorem dX10_billed_14 : decode cX10_billed 14 = .ok (.iload_n 2, 1) := by decide +kernel
theorem dX10_billed_15 : decode cX10_billed 15 = .ok (.invokevirtual 152, 3) := by decide +kernel
theorem dX10_billed_18 : decode cX10_billed 18 = .ok (.ifCond .eq 12, 3) := by decide +kernel
theorem dX10_billed_21 : decode cX10_billed 21 = .ok (.iload_n 2, 1) := by decide +kernel
theorem dX10_billed_22 : decode cX10_billed 22 = .ok (.aload_n 3, 1) := by decide +kernel
theorem dX10_billed_23 : decode cX10_billed 23 = .ok (.iload_n 2, 1) := by decide +kernel
theorem dX10_billed_24 : decode cX10_billed 24 = .ok (.invokevirtual 131, 3) := by decide +kernel
theorem dX10_billed_27 : decode cX10_billed 27 = .ok (.if_icmp .lt 5, 3) := by decide +kernel
theorem dX10_billed_30 : decode cX10_billed 30 = .ok (.iconst (-1), 1) := by decide +kernel
theorem dX10_billed_31 : decode cX10_billed 31 = .ok (.ireturn, 1) := by decide +kernel
theorem dX10_billed_32 : decode cX10_billed 32 = .ok (.aload_n 0, 1) := by decide +kernel
theorem dX10_billed_33 : decode cX10_billed 33 = .ok (.getfield 33, 3) := by decide +kernel
theorem dX10_billed_36 : decode cX10_billed 36 = .ok (.aload_n 3, 1) := by decide +kernel
theorem dX10_billed_37 : decode cX10_billed 37 = .ok (.aload_n 0, 1) := by decide +kernel
theorem dX10_billed_38 : decode cX10_billed 38 = .ok (.getfield 50, 3) := by decide +kernel
theorem dX10_billed_41 : decode cX10_billed 41 = .ok (.getfield 90, 3) := by decide +kernel
theorem dX10_billed_44 : decode cX10_billed 44 = .ok (.iload_n 2, 1) := by decide +kernel
theorem dX10_billed_45 : decode cX10_billed 45 = .ok (.invokevirtual 163, 3) := by decide +kernel
theorem dX10_billed_48 : decode cX10_billed 48 = .ok (.aload_n 0, 1) := by decide +kernel
theorem dX10_billed_49 : decode cX10_billed 49 = .ok (.getfield 33, 3) := by decide +kernel
theorem dX10_billed_52 : decode cX10_billed 52 = .ok (.aload_n 3, 1) := by decide +kernel
theorem dX10_billed_53 : decode cX10_billed 53 = .ok (.iload_n 2, 1) := by decide +kernel
theorem dX10_billed_54 : decode cX10_billed 54 = .ok (.invokevirtual 196, 3) := by decide +kernel
theorem dX10_billed_57 : decode cX10_billed 57 = .ok (.ireturn, 1) := by decide +kernel
set_option maxRecDepth 20000 in
theorem ggX10_trued_X10_trueUp : GoodIn wsX10_trued wsX10_trueUp := goodIn_r _ [5, 6, 7, 8, 9, 10, 11, 12, 13, 14, 15, 16, 17, 18, 19, 20, 21, 22, 23, 24, 4, 25, 26, 27, 28, 29, 30, 31, 32, 33, 34, 35, 36, 37, 38, 39, 40, 41, 42, 43, 44, 45, 46, 47, 48, 49, 50, 51, 52, 53, 54, 55, 56, 57, 58, 59, 60, 61, 62, 63, 64, 65, 66, 67, 68, 69, 70, 71, 72, 73, 74, 75, 76, 77, 78, 79, 80, 81, 82, 83, 84, 85, 86, 87, 88, 89, 90, 91, 92, 93, 94, 95, 96, 97, 98, 99, 100, 101, 102, 103, 104, 105, 106, 107, 108, 109, 110, 111, 112, 113, 114, 115, 116, 117, 118, 119, 120, 121, 122, 123, 124, 125, 126, 127, 128, 129, 130, 131, 132, 133, 134, 135, 136, 137, 138, 139, 140, 141, 142, 143, 144, 145, 146, 147, 148, 149, 150, 151, 152, 153, 154, 155, 156, 157, 158, 159, 160, 161, 162, 163, 164, 165, 166, 167, 168, 169, 170, 171, 172, 173, 174, 175, 176, 177, 178, 179, 180, 181, 182, 183, 184, 185, 186, 187, 188, 189] (by decide +kernel) (by decide +kernel)
set_option maxRecDepth 20000 in
theorem gX10_trued_X10_trueUp : GoodIn wsX10_trued (wsV RX10 200 RX10 yX10_trueUp wsX10_trueUp) := goodIn_app (goodIn_of _ (by decide +kernel)) ggX10_trued_X10_trueUp
theorem dX10_trued_0 : decode cX10_trued 0 = .ok (.aload_n 0, 1) := by decide +kernel
theorem dX10_trued_1 : decode cX10_trued 1 = .ok (.iload_n 1, 1) := by decide +kernel
theorem dX10_trued_2 : decode cX10_trued 2 = .ok (.iload_n 2, 1) := by decide +kernel
theorem dX10_trued_3 : decode cX10_trued 3 = .ok (.iconst 0, 1) := by decide +kernel
theorem dX10_trued_4 : decode cX10_trued 4 = .ok (.invokevirtual 200, 3) := by decide +kernel
theorem dX10_trued_7 : decode cX10_trued 7 = .ok (.ireturn, 1) := by decide +kernel
set_option maxRecDepth 20000 in
theorem ggX10_interest_X10_trueUp : GoodIn wsX10_interest wsX10_trueUp := goodIn_r _ [5, 6, 7, 8, 9, 10, 11, 12, 13, 14, 15, 16, 17, 18, 19, 20, 21, 22, 23, 24, 4, 25, 26, 27, 28, 29, 30, 31, 32, 33, 34, 35, 36, 37, 38, 39, 40, 41, 42, 43, 44, 45, 46, 47, 48, 49, 50, 51, 52, 53, 54, 55, 56, 57, 58, 59, 60, 61, 62, 63, 64, 65, 66, 67, 68, 69, 70, 71, 72, 73, 74, 75, 76, 77, 78, 79, 80, 81, 82, 83, 84, 85, 86, 87, 88, 89, 90, 91, 92, 93, 94, 95, 96, 97, 98, 99, 100, 101, 102, 103, 104, 105, 106, 107, 108, 109, 110, 111, 112, 113, 114, 115, 116, 117, 118, 119, 120, 121, 122, 123, 124, 125, 126, 127, 128, 129, 130, 131, 132, 133, 134, 135, 136, 137, 138, 139, 140, 141, 142, 143, 144, 145, 146, 147, 148, 149, 150, 151, 152, 153, 154, 155, 156, 157, 158, 159, 160, 161, 162, 163, 164, 165, 166, 167, 168, 169, 170, 171, 172, 173, 174, 175, 176, 177, 178, 179, 180, 181, 182, 183, 184, 185, 186, 187, 188, 189] (by decide +kernel) (by decide +kernel)
set_option maxRecDepth 20000 in
theorem gX10_interest_X10_trueUp : GoodIn wsX10_interest (wsV RX10 200 RX10 yX10_trueUp wsX10_trueUp) := goodIn_app (goodIn_of _ (by decide +kernel)) ggX10_interest_X10_trueUp
theorem dX10_interest_0 : decode cX10_interest 0 = .ok (.aload_n 0, 1) := by decide +kernel
theorem dX10_interest_1 : decode cX10_interest 1 = .ok (.iload_n 1, 1) := by decide +kernel
theorem dX10_interest_2 : decode cX10_interest 2 = .ok (.iload_n 2, 1) := by decide +kernel
theorem dX10_interest_3 : decode cX10_interest 3 = .ok (.iconst 1, 1) := by decide +kernel
theorem dX10_interest_4 : decode cX10_interest 4 = .ok (.invokevirtual 200, 3) := by decide +kernel
theorem dX10_interest_7 : decode cX10_interest 7 = .ok (.ireturn, 1) := by decide +kernel
set_option maxRecDepth 20000 in
theorem ggX10_spread_X1_leaseAt : GoodIn wsX10_spread wsX1_leaseAt := goodIn_r _ [10, 11, 12, 162, 163, 164, 165, 166] (by decide +kernel) (by decide +kernel)
set_option maxRecDepth 20000 in
theorem gX10_spread_X1_leaseAt : GoodIn wsX10_spread (wsV RX10 100 RX1 yX1_leaseAt wsX1_leaseAt) := goodIn_app (goodIn_of _ (by decide +kernel)) ggX10_spread_X1_leaseAt
set_option maxRecDepth 20000 in
theorem ggX10_spread_X2_hasMonth : GoodIn wsX10_spread wsX2_hasMonth := goodIn_r _ [17, 18, 19, 167, 168, 169, 170, 171, 172, 173, 174, 175, 176, 177, 178, 179, 180] (by decide +kernel) (by decide +kernel)
set_option maxRecDepth 20000 in
theorem gX10_spread_X2_hasMonth : GoodIn wsX10_spread (wsV RX10 152 RX2 yX2_hasMonth wsX2_hasMonth) := goodIn_app (goodIn_of _ (by decide +kernel)) ggX10_spread_X2_hasMonth
set_option maxRecDepth 20000 in
theorem ggX10_spread_X5_goTo : GoodIn wsX10_spread wsX5_goTo := goodIn_r _ [24, 25, 26, 27, 28, 29, 30, 31, 16, 32, 33, 34, 18, 19, 35, 36, 37, 9, 38, 39, 40, 41, 42, 43, 44, 45, 46, 47, 48, 49, 50, 51, 52, 53, 54, 55, 56, 57, 58, 59, 60, 61, 62, 63, 64, 65, 66, 67, 68, 69, 70, 71, 72, 73, 74, 75, 76, 77, 78, 79, 80, 81, 82, 83, 84, 85, 86, 87, 88, 89, 90, 91, 92, 93, 94, 95, 96, 97, 98, 99, 100, 101, 102, 103, 104, 105, 106, 107, 108, 109, 110, 111, 112, 113, 114, 115, 116, 117, 118, 119, 120, 121, 122, 123, 124, 125, 126, 127, 128, 129, 130, 131, 132, 133, 134, 135, 136, 137, 138, 139, 140, 141, 142, 143, 144, 145, 146, 147, 148, 149, 160, 161, 167, 168, 169, 170, 171, 172, 173, 174, 175, 176, 177, 178, 179, 180, 162, 163, 164, 165, 166, 181, 182, 183, 184, 185, 186, 187, 188, 189, 190, 191, 192, 193] (by decide +kernel) (by decide +kernel)
set_option maxRecDepth 20000 in
theorem gX10_spread_X5_goTo : GoodIn wsX10_spread (wsV RX10 204 RX5 yX5_goTo wsX5_goTo) := goodIn_app (goodIn_of _ (by decide +kernel)) ggX10_spread_X5_goTo
theorem dX10_spread_0 : decode cX10_spread 0 = .ok (.aload_n 0, 1) := by decide +kernel
theorem dX10_spread_1 : decode cX10_spread 1 = .ok (.getfield 50, 3) := by decide +kernel
theorem dX10_spread_4 : decode cX10_spread 4 = .ok (.iload_n 1, 1) := by decide +kernel
theorem dX10_spread_5 : decode cX10_spread 5 = .ok (.invokevirtual 100, 3) := by decide +kernel
theorem dX10_spread_8 : decode cX10_spread 8 = .ok (.astore_n 3, 1) := by decide +kernel
theorem dX10_spread_9 : decode cX10_spread 9 = .ok (.aload_n 3, 1) := by decide +kernel
theorem dX10_spread_10 : decode cX10_spread 10 = .ok (.ifnull 11, 3) := by decide +kernel
theorem dX10_spread_13 : decode cX10_spread 13 = .ok (.aload_n 3, 1) := by decide +kernel
theorem dX10_spread_14 : decode cX10_spread 14 = .ok (.iload_n 2, 1) := by decide +kernel
theorem dX10_spread_15 : decode cX10_spread 15 = .ok (.invokevirtual 152, 3) := by decide +kernel
theorem dX10_spread_18 : decode cX10_spread 18 = .ok (.ifCond .ne 6, 3) := by decide +kernel
theorem dX10_spread_21 : decode cX10_spread 21 = .ok (.ldc 162, 2) := by decide +kernel
theorem dX10_spread_23 : decode cX10_spread 23 = .ok (.ireturn, 1) := by decide +kernel
theorem dX10_spread_24 : decode cX10_spread 24 = .ok (.aload_n 0, 1) := by decide +kernel
theorem dX10_spread_25 : decode cX10_spread 25 = .ok (.getfield 43, 3) := by decide +kernel
theorem dX10_spread_28 : decode cX10_spread 28 = .ok (.aload_n 3, 1) := by decide +kernel
theorem dX10_spread_29 : decode cX10_spread 29 = .ok (.aload_n 0, 1) := by decide +kernel
theorem dX10_spread_30 : decode cX10_spread 30 = .ok (.getfield 50, 3) := by decide +kernel
theorem dX10_spread_33 : decode cX10_spread 33 = .ok (.aload_n 0, 1) := by decide +kernel
theorem dX10_spread_34 : decode cX10_spread 34 = .ok (.getfield 33, 3) := by decide +kernel
theorem dX10_spread_37 : decode cX10_spread 37 = .ok (.iload_n 2, 1) := by decide +kernel
theorem dX10_spread_38 : decode cX10_spread 38 = .ok (.invokevirtual 204, 3) := by decide +kernel
theorem dX10_spread_41 : decode cX10_spread 41 = .ok (.aload_n 0, 1) := by decide +kernel
theorem dX10_spread_42 : decode cX10_spread 42 = .ok (.getfield 43, 3) := by decide +kernel
theorem dX10_spread_45 : decode cX10_spread 45 = .ok (.getfield 207, 3) := by decide +kernel
theorem dX10_spread_48 : decode cX10_spread 48 = .ok (.ireturn, 1) := by decide +kernel
set_option maxRecDepth 20000 in
theorem ggX10_ahead_X1_leaseAt : GoodIn wsX10_ahead wsX1_leaseAt := goodIn_r _ [15, 16, 17, 165, 166, 167, 168, 169] (by decide +kernel) (by decide +kernel)
set_option maxRecDepth 20000 in
theorem gX10_ahead_X1_leaseAt : GoodIn wsX10_ahead (wsV RX10 100 RX1 yX1_leaseAt wsX1_leaseAt) := goodIn_app (goodIn_of _ (by decide +kernel)) ggX10_ahead_X1_leaseAt
set_option maxRecDepth 20000 in
theorem ggX10_ahead_X2_hasMonth : GoodIn wsX10_ahead wsX2_hasMonth := goodIn_r _ [22, 23, 24, 172, 173, 174, 175, 176, 177, 178, 179, 180, 181, 182, 183, 184, 185] (by decide +kernel) (by decide +kernel)
set_option maxRecDepth 20000 in
theorem gX10_ahead_X2_hasMonth : GoodIn wsX10_ahead (wsV RX10 152 RX2 yX2_hasMonth wsX2_hasMonth) := goodIn_app (goodIn_of _ (by decide +kernel)) ggX10_ahead_X2_hasMonth
set_option maxRecDepth 20000 in
theorem ggX10_ahead_X2_endKnownIn : GoodIn wsX10_ahead wsX2_endKnownIn := goodIn_r _ [28, 29, 30, 23, 24, 172, 173, 174, 175, 176, 177, 178, 179, 180, 181, 182, 183, 184, 185] (by decide +kernel) (by decide +kernel)
set_option maxRecDepth 20000 in
theorem gX10_ahead_X2_endKnownIn : GoodIn wsX10_ahead (wsV RX10 131 RX2 yX2_endKnownIn wsX2_endKnownIn) := goodIn_app (goodIn_of _ (by decide +kernel)) ggX10_ahead_X2_endKnownIn
set_option maxRecDepth 20000 in
theorem ggX10_ahead_X5_goTo : GoodIn wsX10_ahead wsX5_goTo := goodIn_r _ [35, 36, 37, 38, 39, 40, 26, 27, 21, 28, 29, 30, 23, 24, 41, 42, 43, 14, 44, 45, 46, 47, 48, 49, 50, 51, 52, 53, 54, 55, 56, 57, 58, 59, 60, 61, 62, 63, 64, 65, 66, 67, 68, 69, 70, 71, 72, 73, 74, 75, 76, 77, 78, 79, 80, 81, 82, 83, 84, 85, 86, 87, 88, 89, 90, 91, 92, 93, 94, 95, 4, 5, 6, 96, 97, 98, 99, 100, 101, 102, 103, 104, 105, 106, 107, 108, 109, 110, 111, 112, 113, 114, 115, 116, 117, 118, 119, 120, 121, 122, 123, 124, 125, 126, 127, 128, 129, 130, 131, 132, 133, 134, 135, 136, 137, 138, 139, 140, 141, 142, 143, 144, 145, 146, 147, 148, 149, 150, 151, 152, 170, 171, 172, 173, 174, 175, 176, 177, 178, 179, 180, 181, 182, 183, 184, 185, 165, 166, 167, 168, 169, 186, 187, 188, 189, 190, 191, 192, 193, 194, 195, 196, 197, 198] (by decide +kernel) (by decide +kernel)
set_option maxRecDepth 20000 in
theorem gX10_ahead_X5_goTo : GoodIn wsX10_ahead (wsV RX10 204 RX5 yX5_goTo wsX5_goTo) := goodIn_app (goodIn_of _ (by decide +kernel)) ggX10_ahead_X5_goTo
set_option maxRecDepth 20000 in
theorem ggX10_ahead_X9_begin : GoodIn wsX10_ahead wsX9_begin := goodIn_r _ [50, 51, 52, 53, 54, 55, 56, 57, 58, 59, 60, 61, 49, 62, 63, 64, 65, 66, 67, 68, 69, 70, 71, 72, 73, 74, 75, 76, 77, 78, 79, 80, 81, 186, 187, 188, 189, 190, 191, 192, 172, 173, 174, 175, 176, 177, 178, 179, 180, 181, 182, 183, 184, 185, 193, 194, 195] (by decide +kernel) (by decide +kernel)
set_option maxRecDepth 20000 in
theorem gX10_ahead_X9_begin : GoodIn wsX10_ahead (wsV RX10 163 RX9 yX9_begin wsX9_begin) := goodIn_app (goodIn_of _ (by decide +kernel)) ggX10_ahead_X9_begin
set_option maxRecDepth 20000 in
theorem ggX10_ahead_X9_dueBelow : GoodIn wsX10_ahead wsX9_dueBelow := goodIn_r _ [85, 86, 54, 87, 88, 89, 49, 90, 52, 55, 56, 91, 92, 57, 93, 94, 95, 4, 5, 6, 96, 97, 98, 21, 99, 100, 101, 24, 102, 103, 104, 105, 23, 106, 107, 108, 109, 58, 51, 110, 111, 112, 113, 114, 53, 115, 116, 117, 118, 63, 119, 120, 121, 122, 123, 124, 125, 126, 127, 128, 129, 130, 131, 132, 133, 134, 135, 136, 137, 138, 139, 140, 141, 142, 143, 144, 145, 146, 147, 148, 149, 150, 151, 152, 172, 173, 174, 175, 176, 177, 178, 179, 180, 181, 182, 183, 184, 185, 186, 187, 188, 189, 190, 191, 192, 196, 197, 198] (by decide +kernel) (by decide +kernel)
set_option maxRecDepth 20000 in
theorem gX10_ahead_X9_dueBelow : GoodIn wsX10_ahead (wsV RX10 219 RX9 yX9_dueBelow wsX9_dueBelow) := goodIn_app (goodIn_of _ (by decide +kernel)) ggX10_ahead_X9_dueBelow
theorem dX10_ahead_0 : decode cX10_ahead 0 = .ok (.aload_n 0, 1) := by decide +kernel
theorem dX10_ahead_1 : decode cX10_ahead 1 = .ok (.getfield 50, 3) := by decide +kernel
theorem dX10_ahead_4 : decode cX10_ahead 4 = .ok (.iload_n 1, 1) := by decide +kernel
theorem dX10_ahead_5 : decode cX10_ahead 5 = .ok (.invokevirtual 100, 3) := by decide +kernel
theorem dX10_ahead_8 : decode cX10_ahead 8 = .ok (.astore_n 3, 1) := by decide +kernel
theorem dX10_ahead_9 : decode cX10_ahead 9 = .ok (.aload_n 3, 1) := by decide +kernel
theorem dX10_ahead_10 : decode cX10_ahead 10 = .ok (.ifnull 11, 3) := by decide +kernel
theorem dX10_ahead_13 : decode cX10_ahead 13 = .ok (.aload_n 3, 1) := by decide +kernel
theorem dX10_ahead_14 : decode cX10_ahead 14 = .ok (.iload_n 2, 1) := by decide +kernel
theorem dX10_ahead_15 : decode cX10_ahead 15 = .ok (.invokevirtual 152, 3) := by decide +kernel
theorem dX10_ahead_18 : decode cX10_ahead 18 = .ok (.ifCond .ne 6, 3) := by decide +kernel
theorem dX10_ahead_21 : decode cX10_ahead 21 = .ok (.ldc 162, 2) := by decide +kernel
theorem dX10_ahead_23 : decode cX10_ahead 23 = .ok (.ireturn, 1) := by decide +kernel
theorem dX10_ahead_24 : decode cX10_ahead 24 = .ok (.iload_n 2, 1) := by decide +kernel
theorem dX10_ahead_25 : decode cX10_ahead 25 = .ok (.aload_n 3, 1) := by decide +kernel
theorem dX10_ahead_26 : decode cX10_ahead 26 = .ok (.iload_n 2, 1) := by decide +kernel
theorem dX10_ahead_27 : decode cX10_ahead 27 = .ok (.invokevirtual 131, 3) := by decide +kernel
theorem dX10_ahead_30 : decode cX10_ahead 30 = .ok (.iconst 1, 1) := by decide +kernel
theorem dX10_ahead_31 : decode cX10_ahead 31 = .ok (.isub, 1) := by decide +kernel
theorem dX10_ahead_32 : decode cX10_ahead 32 = .ok (.invokestatic 210, 3) := by decide +kernel
theorem dX10_ahead_35 : decode cX10_ahead 35 = .ok (.istore 4, 2) := by decide +kernel
theorem dX10_ahead_37 : decode cX10_ahead 37 = .ok (.aload_n 0, 1) := by decide +kernel
theorem dX10_ahead_38 : decode cX10_ahead 38 = .ok (.getfield 43, 3) := by decide +kernel
theorem dX10_ahead_41 : decode cX10_ahead 41 = .ok (.aload_n 3, 1) := by decide +kernel
theorem dX10_ahead_42 : decode cX10_ahead 42 = .ok (.aload_n 0, 1) := by decide +kernel
theorem dX10_ahead_43 : decode cX10_ahead 43 = .ok (.getfield 50, 3) := by decide +kernel
theorem dX10_ahead_46 : decode cX10_ahead 46 = .ok (.aload_n 0, 1) := by decide +kernel
theorem dX10_ahead_47 : decode cX10_ahead 47 = .ok (.getfield 33, 3) := by decide +kernel
theorem dX10_ahead_50 : decode cX10_ahead 50 = .ok (.iload 4, 2) := by decide +kernel
theorem dX10_ahead_52 : decode cX10_ahead 52 = .ok (.invokevirtual 204, 3) := by decide +kernel
theorem dX10_ahead_55 : decode cX10_ahead 55 = .ok (.aload_n 0, 1) := by decide +kernel
theorem dX10_ahead_56 : decode cX10_ahead 56 = .ok (.getfield 33, 3) := by decide +kernel
theorem dX10_ahead_59 : decode cX10_ahead 59 = .ok (.aload_n 3, 1) := by decide +kernel
theorem dX10_ahead_60 : decode cX10_ahead 60 = .ok (.aload_n 0, 1) := by decide +kernel
theorem dX10_ahead_61 : decode cX10_ahead 61 = .ok (.getfield 50, 3) := by decide +kernel
theorem dX10_ahead_64 : decode cX10_ahead 64 = .ok (.getfield 90, 3) := by decide +kernel
theorem dX10_ahead_67 : decode cX10_ahead 67 = .ok (.iload_n 2, 1) := by decide +kernel
theorem dX10_ahead_68 : decode cX10_ahead 68 = .ok (.invokevirtual 163, 3) := by decide +kernel
theorem dX10_ahead_71 : decode cX10_ahead 71 = .ok (.aload_n 0, 1) := by decide +kernel
theorem dX10_ahead_72 : decode cX10_ahead 72 = .ok (.getfield 43, 3) := by decide +kernel
theorem dX10_ahead_75 : decode cX10_ahead 75 = .ok (.getfield 216, 3) := by decide +kernel
theorem dX10_ahead_78 : decode cX10_ahead 78 = .ok (.aload_n 0, 1) := by decide +kernel
theorem dX10_ahead_79 : decode cX10_ahead 79 = .ok (.getfield 33, 3) := by decide +kernel
theorem dX10_ahead_82 : decode cX10_ahead 82 = .ok (.aload_n 3, 1) := by decide +kernel
theorem dX10_ahead_83 : decode cX10_ahead 83 = .ok (.iload 4, 2) := by decide +kernel
theorem dX10_ahead_85 : decode cX10_ahead 85 = .ok (.iconst 1, 1) := by decide +kernel
theorem dX10_ahead_86 : decode cX10_ahead 86 = .ok (.iadd, 1) := by decide +kernel
theorem dX10_ahead_87 : decode cX10_ahead 87 = .ok (.invokevirtual 219, 3) := by decide +kernel
theorem dX10_ahead_90 : decode cX10_ahead 90 = .ok (.isub, 1) := by decide +kernel
theorem dX10_ahead_91 : decode cX10_ahead 91 = .ok (.ireturn, 1) := by decide +kernel
set_option maxRecDepth 20000 in
theorem ggX10_would_X1_leaseAt : GoodIn wsX10_would wsX1_leaseAt := goodIn_r _ [8, 9, 10, 154, 155, 156, 157, 158] (by decide +kernel) (by decide +kernel)
set_option maxRecDepth 20000 in
theorem gX10_would_X1_leaseAt : GoodIn wsX10_would (wsV RX10 100 RX1 yX1_leaseAt wsX1_leaseAt) := goodIn_app (goodIn_of _ (by decide +kernel)) ggX10_would_X1_leaseAt
set_option maxRecDepth 20000 in
theorem ggX10_would_X2_hasMonth : GoodIn wsX10_would wsX2_hasMonth := goodIn_r _ [15, 16, 17, 159, 160, 161, 162, 163, 164, 165, 166, 167, 168, 169, 170, 171, 172] (by decide +kernel) (by decide +kernel)
set_option maxRecDepth 20000 in
theorem gX10_would_X2_hasMonth : GoodIn wsX10_would (wsV RX10 152 RX2 yX2_hasMonth wsX2_hasMonth) := goodIn_app (goodIn_of _ (by decide +kernel)) ggX10_would_X2_hasMonth
set_option maxRecDepth 20000 in
theorem ggX10_would_X10_refusalOf : GoodIn wsX10_would wsX10_refusalOf := goodIn_r _ [22, 1, 3, 23, 24, 25, 21, 26, 27, 28, 29, 30, 31, 32, 144, 145, 146, 147, 148, 149, 150, 151, 152, 153, 154, 155, 156, 157, 158, 173, 174, 175] (by decide +kernel) (by decide +kernel)
set_option maxRecDepth 20000 in
theorem gX10_would_X10_refusalOf : GoodIn wsX10_would (wsV RX10 222 RX10 yX10_refusalOf wsX10_refusalOf) := goodIn_app (goodIn_of _ (by decide +kernel)) ggX10_would_X10_refusalOf
set_option maxRecDepth 20000 in
theorem ggX10_would_X8_tell : GoodIn wsX10_would wsX8_tell := goodIn_r _ [36, 32, 37, 38, 173, 174, 175] (by decide +kernel) (by decide +kernel)
set_option maxRecDepth 20000 in
theorem gX10_would_X8_tell : GoodIn wsX10_would (wsV RX10 225 RX8 yX8_tell wsX8_tell) := goodIn_app (goodIn_of _ (by decide +kernel)) ggX10_would_X8_tell
set_option maxRecDepth 20000 in
theorem ggX10_would_X10_rentKnownIn : GoodIn wsX10_would wsX10_rentKnownIn := goodIn_r _ [42, 43, 1, 3, 44, 45, 46, 47, 48, 49, 50, 51, 52, 53, 54, 55, 56, 57, 58, 59, 60, 61, 62, 63, 64, 65, 30, 66, 37, 32, 67, 68, 69, 70, 71, 28, 29, 31, 72, 73, 74, 75, 76, 77, 78, 79, 80, 81, 82, 83, 84, 85, 86, 87, 88, 89, 14, 90, 91, 92, 17, 93, 94, 95, 96, 16, 97, 98, 99, 100, 101, 102, 103, 104, 105, 106, 107, 108, 109, 110, 111, 112, 113, 114, 115, 116, 117, 118, 119, 120, 121, 122, 123, 124, 125, 126, 127, 128, 129, 130, 131, 132, 133, 134, 135, 136, 137, 138, 139, 144, 145, 146, 147, 148, 149, 150, 151, 152, 153, 154, 155, 156, 157, 158, 176, 177, 178, 179, 180, 181, 182, 159, 160, 161, 162, 163, 164, 165, 166, 167, 168, 169, 170, 171, 172, 173, 174, 175, 183, 184, 185] (by decide +kernel) (by decide +kernel)
set_option maxRecDepth 20000 in
theorem gX10_would_X10_rentKnownIn : GoodIn wsX10_would (wsV RX10 155 RX10 yX10_rentKnownIn wsX10_rentKnownIn) := goodIn_app (goodIn_of _ (by decide +kernel)) ggX10_would_X10_rentKnownIn
set_option maxRecDepth 20000 in
theorem ggX10_would_X8_drop : GoodIn wsX10_would wsX8_drop := goodIn_r _ [143, 32, 37, 38, 173, 174, 175] (by decide +kernel) (by decide +kernel)
set_option maxRecDepth 20000 in
theorem gX10_would_X8_drop : GoodIn wsX10_would (wsV RX10 229 RX8 yX8_drop wsX8_drop) := goodIn_app (goodIn_of _ (by decide +kernel)) ggX10_would_X8_drop
theorem dX10_would_0 : decode cX10_would 0 = .ok (.aload_n 0, 1) := by decide +kernel
theorem dX10_would_1 : decode cX10_would 1 = .ok (.getfield 50, 3) := by decide +kernel
theorem dX10_would_4 : decode cX10_would 4 = .ok (.iload_n 1, 1) := by decide +kernel
theorem dX10_would_5 : decode cX10_would 5 = .ok (.invokevirtual 100, 3) := by decide +kernel
theorem dX10_would_8 : decode cX10_would 8 = .ok (.astore 4, 2) := by decide +kernel
theorem dX10_would_10 : decode cX10_would 10 = .ok (.aload 4, 2) := by decide +kernel
theorem dX10_would_12 : decode cX10_would 12 = .ok (.ifnull 15, 3) := by decide +kernel
theorem dX10_would_15 : decode cX10_would 15 = .ok (.aload 4, 2) := by decide +kernel
theorem dX10_would_17 : decode cX10_would 17 = .ok (.aload_n 0, 1) := by decide +kernel
theorem dX10_would_18 : decode cX10_would 18 = .ok (.getfield 78, 3) := by decide +kernel
theorem dX10_would_21 : decode cX10_would 21 = .ok (.invokevirtual 152, 3) := by decide +kernel
theorem dX10_would_24 : decode cX10_would 24 = .ok (.ifCond .ne 5, 3) := by decide +kernel
theorem dX10_would_27 : decode cX10_would 27 = .ok (.iconst (-1), 1) := by decide +kernel
theorem dX10_would_28 : decode cX10_would 28 = .ok (.ireturn, 1) := by decide +kernel
theorem dX10_would_29 : decode cX10_would 29 = .ok (.aload_n 0, 1) := by decide +kernel
theorem dX10_would_30 : decode cX10_would 30 = .ok (.iload_n 2, 1) := by decide +kernel
theorem dX10_would_31 : decode cX10_would 31 = .ok (.iload_n 3, 1) := by decide +kernel
theorem dX10_would_32 : decode cX10_would 32 = .ok (.invokevirtual 222, 3) := by decide +kernel
theorem dX10_would_35 : decode cX10_would 35 = .ok (.istore 5, 2) := by decide +kernel
theorem dX10_would_37 : decode cX10_would 37 = .ok (.iload 5, 2) := by decide +kernel
theorem dX10_would_39 : decode cX10_would 39 = .ok (.ifCond .eq 6, 3) := by decide +kernel
theorem dX10_would_42 : decode cX10_would 42 = .ok (.iload 5, 2) := by decide +kernel
theorem dX10_would_44 : decode cX10_would 44 = .ok (.ireturn, 1) := by decide +kernel
theorem dX10_would_45 : decode cX10_would 45 = .ok (.aload_n 0, 1) := by decide +kernel
theorem dX10_would_46 : decode cX10_would 46 = .ok (.getfield 50, 3) := by decide +kernel
theorem dX10_would_49 : decode cX10_would 49 = .ok (.getfield 90, 3) := by decide +kernel
theorem dX10_would_52 : decode cX10_would 52 = .ok (.iload_n 2, 1) := by decide +kernel
theorem dX10_would_53 : decode cX10_would 53 = .ok (.iload_n 3, 1) := by decide +kernel
theorem dX10_would_54 : decode cX10_would 54 = .ok (.aload_n 0, 1) := by decide +kernel
theorem dX10_would_55 : decode cX10_would 55 = .ok (.getfield 78, 3) := by decide +kernel
theorem dX10_would_58 : decode cX10_would 58 = .ok (.invokevirtual 225, 3) := by decide +kernel
theorem dX10_would_61 : decode cX10_would 61 = .ok (.aload_n 0, 1) := by decide +kernel
theorem dX10_would_62 : decode cX10_would 62 = .ok (.aload 4, 2) := by decide +kernel
theorem dX10_would_64 : decode cX10_would 64 = .ok (.aload_n 0, 1) := by decide +kernel
theorem dX10_would_65 : decode cX10_would 65 = .ok (.getfield 78, 3) := by decide +kernel
theorem dX10_would_68 : decode cX10_would 68 = .ok (.aload_n 0, 1) := by decide +kernel
theorem dX10_would_69 : decode cX10_would 69 = .ok (.getfield 78, 3) := by decide +kernel
theorem dX10_would_72 : decode cX10_would 72 = .ok (.invokevirtual 155, 3) := by decide +kernel
theorem dX10_would_75 : decode cX10_would 75 = .ok (.istore 6, 2) := by decide +kernel
theorem dX10_would_77 : decode cX10_would 77 = .ok (.aload_n 0, 1) := by decide +kernel
theorem dX10_would_78 : decode cX10_would 78 = .ok (.getfield 50, 3) := by decide +kernel
theorem dX10_would_81 : decode cX10_would 81 = .ok (.getfield 90, 3) := by decide +kernel
theorem dX10_would_84 : decode cX10_would 84 = .ok (.iload_n 2, 1) := by decide +kernel
theorem dX10_would_85 : decode cX10_would 85 = .ok (.invokevirtual 229, 3) := by decide +kernel
theorem dX10_would_88 : decode cX10_would 88 = .ok (.iload 6, 2) := by decide +kernel
theorem dX10_would_90 : decode cX10_would 90 = .ok (.ireturn, 1) := by decide +kernel
set_option maxRecDepth 20000 in
theorem ggX10_publish_X10_refusalOf : GoodIn wsX10_publish wsX10_refusalOf := goodIn_r _ [10, 1, 2, 5, 11, 12, 9, 13, 14, 15, 16, 17, 18, 19, 45, 46, 47, 48, 49, 50, 51, 52, 53, 54, 55, 56, 57, 58, 59, 60, 61, 62] (by decide +kernel) (by decide +kernel)
set_option maxRecDepth 20000 in
theorem gX10_publish_X10_refusalOf : GoodIn wsX10_publish (wsV RX10 222 RX10 yX10_refusalOf wsX10_refusalOf) := goodIn_app (goodIn_of _ (by decide +kernel)) ggX10_publish_X10_refusalOf
set_option maxRecDepth 20000 in
theorem ggX10_publish_X8_tell : GoodIn wsX10_publish wsX8_tell := goodIn_r _ [23, 19, 24, 25, 60, 61, 62] (by decide +kernel) (by decide +kernel)
set_option maxRecDepth 20000 in
theorem gX10_publish_X8_tell : GoodIn wsX10_publish (wsV RX10 225 RX8 yX8_tell wsX8_tell) := goodIn_app (goodIn_of _ (by decide +kernel)) ggX10_publish_X8_tell
set_option maxRecDepth 20000 in
theorem ggX10_publish_X1_addNews : GoodIn wsX10_publish wsX1_addNews := goodIn_r _ [30, 31, 55, 56, 57, 58, 59] (by decide +kernel) (by decide +kernel)
set_option maxRecDepth 20000 in
theorem gX10_publish_X1_addNews : GoodIn wsX10_publish (wsV RX10 232 RX1 yX1_addNews wsX1_addNews) := goodIn_app (goodIn_of _ (by decide +kernel)) ggX10_publish_X1_addNews
set_option maxRecDepth 20000 in
theorem ggX10_publish_X0_keep : GoodIn wsX10_publish wsX0_keep := goodIn_r _ [36, 37, 38, 39, 40, 41, 42, 43, 35, 44, 63, 64, 65, 66] (by decide +kernel) (by decide +kernel)
set_option maxRecDepth 20000 in
theorem gX10_publish_X0_keep : GoodIn wsX10_publish (wsV RX10 236 RX0 yX0_keep wsX0_keep) := goodIn_app (goodIn_of _ (by decide +kernel)) ggX10_publish_X0_keep
theorem dX10_publish_0 : decode cX10_publish 0 = .ok (.aload_n 0, 1) := by decide +kernel
theorem dX10_publish_1 : decode cX10_publish 1 = .ok (.iload_n 1, 1) := by decide +kernel
theorem dX10_publish_2 : decode cX10_publish 2 = .ok (.iload_n 2, 1) := by decide +kernel
theorem dX10_publish_3 : decode cX10_publish 3 = .ok (.invokevirtual 222, 3) := by decide +kernel
theorem dX10_publish_6 : decode cX10_publish 6 = .ok (.istore_n 3, 1) := by decide +kernel
theorem dX10_publish_7 : decode cX10_publish 7 = .ok (.iload_n 3, 1) := by decide +kernel
theorem dX10_publish_8 : decode cX10_publish 8 = .ok (.ifCond .eq 5, 3) := by decide +kernel
theorem dX10_publish_11 : decode cX10_publish 11 = .ok (.iload_n 3, 1) := by decide +kernel
theorem dX10_publish_12 : decode cX10_publish 12 = .ok (.ireturn, 1) := by decide +kernel
theorem dX10_publish_13 : decode cX10_publish 13 = .ok (.aload_n 0, 1) := by decide +kernel
theorem dX10_publish_14 : decode cX10_publish 14 = .ok (.getfield 50, 3) := by decide +kernel
theorem dX10_publish_17 : decode cX10_publish 17 = .ok (.getfield 90, 3) := by decide +kernel
theorem dX10_publish_20 : decode cX10_publish 20 = .ok (.iload_n 1, 1) := by decide +kernel
theorem dX10_publish_21 : decode cX10_publish 21 = .ok (.iload_n 2, 1) := by decide +kernel
theorem dX10_publish_22 : decode cX10_publish 22 = .ok (.aload_n 0, 1) := by decide +kernel
theorem dX10_publish_23 : decode cX10_publish 23 = .ok (.getfield 78, 3) := by decide +kernel
theorem dX10_publish_26 : decode cX10_publish 26 = .ok (.invokevirtual 225, 3) := by decide +kernel
theorem dX10_publish_29 : decode cX10_publish 29 = .ok (.aload_n 0, 1) := by decide +kernel
theorem dX10_publish_30 : decode cX10_publish 30 = .ok (.getfield 50, 3) := by decide +kernel
theorem dX10_publish_33 : decode cX10_publish 33 = .ok (.aload_n 0, 1) := by decide +kernel
theorem dX10_publish_34 : decode cX10_publish 34 = .ok (.getfield 78, 3) := by decide +kernel
theorem dX10_publish_37 : decode cX10_publish 37 = .ok (.iconst 1, 1) := by decide +kernel
theorem dX10_publish_38 : decode cX10_publish 38 = .ok (.invokevirtual 232, 3) := by decide +kernel
theorem dX10_publish_41 : decode cX10_publish 41 = .ok (.aload_n 0, 1) := by decide +kernel
theorem dX10_publish_42 : decode cX10_publish 42 = .ok (.getfield 26, 3) := by decide +kernel
theorem dX10_publish_45 : decode cX10_publish 45 = .ok (.iconst 1, 1) := by decide +kernel
theorem dX10_publish_46 : decode cX10_publish 46 = .ok (.iconst (-1), 1) := by decide +kernel
theorem dX10_publish_47 : decode cX10_publish 47 = .ok (.iload_n 1, 1) := by decide +kernel
theorem dX10_publish_48 : decode cX10_publish 48 = .ok (.invokevirtual 236, 3) := by decide +kernel
theorem dX10_publish_51 : decode cX10_publish 51 = .ok (.aload_n 0, 1) := by decide +kernel
theorem dX10_publish_52 : decode cX10_publish 52 = .ok (.getfield 50, 3) := by decide +kernel
theorem dX10_publish_55 : decode cX10_publish 55 = .ok (.getfield 90, 3) := by decide +kernel
theorem dX10_publish_58 : decode cX10_publish 58 = .ok (.getfield 94, 3) := by decide +kernel
theorem dX10_publish_61 : decode cX10_publish 61 = .ok (.ireturn, 1) := by decide +kernel
set_option maxRecDepth 20000 in
theorem ggX10_market_X1_leaseAt : GoodIn wsX10_market wsX1_leaseAt := goodIn_r _ [8, 9, 10, 91, 92, 93, 94, 95] (by decide +kernel) (by decide +kernel)
set_option maxRecDepth 20000 in
theorem gX10_market_X1_leaseAt : GoodIn wsX10_market (wsV RX10 100 RX1 yX1_leaseAt wsX1_leaseAt) := goodIn_app (goodIn_of _ (by decide +kernel)) ggX10_market_X1_leaseAt
set_option maxRecDepth 20000 in
theorem ggX10_market_X2_hasReview : GoodIn wsX10_market wsX2_hasReview := goodIn_r _ [15, 16, 17, 18, 14, 19, 20, 21, 22, 77, 78, 79, 80, 81, 82, 83, 84, 85, 86, 87, 88, 89, 90] (by decide +kernel) (by decide +kernel)
set_option maxRecDepth 20000 in
theorem gX10_market_X2_hasReview : GoodIn wsX10_market (wsV RX10 159 RX2 yX2_hasReview wsX2_hasReview) := goodIn_app (goodIn_of _ (by decide +kernel)) ggX10_market_X2_hasReview
set_option maxRecDepth 20000 in
theorem ggX10_market_X2_wasTold : GoodIn wsX10_market wsX2_wasTold := goodIn_r _ [26, 27, 28, 29, 14, 30, 31, 77, 78, 79, 80, 81, 82, 83, 84, 85, 86, 87, 88, 89, 90] (by decide +kernel) (by decide +kernel)
set_option maxRecDepth 20000 in
theorem gX10_market_X2_wasTold : GoodIn wsX10_market (wsV RX10 240 RX2 yX2_wasTold wsX2_wasTold) := goodIn_app (goodIn_of _ (by decide +kernel)) ggX10_market_X2_wasTold
set_option maxRecDepth 20000 in
theorem ggX10_market_X10_tellOfLease : GoodIn wsX10_market wsX10_tellOfLease := goodIn_r _ [36, 37, 1, 38, 39, 40, 41, 14, 42, 43, 31, 44, 45, 46, 7, 47, 48, 49, 50, 51, 52, 53, 54, 55, 56, 57, 58, 59, 60, 61, 67, 68, 69, 70, 71, 72, 73, 74, 75, 76, 77, 78, 79, 80, 81, 82, 83, 84, 85, 86, 87, 88, 89, 90, 91, 92, 93, 94, 95, 96, 97, 98, 99] (by decide +kernel) (by decide +kernel)
set_option maxRecDepth 20000 in
theorem gX10_market_X10_tellOfLease : GoodIn wsX10_market (wsV RX10 243 RX10 yX10_tellOfLease wsX10_tellOfLease) := goodIn_app (goodIn_of _ (by decide +kernel)) ggX10_market_X10_tellOfLease
set_option maxRecDepth 20000 in
theorem ggX10_market_X2_reviewMonth : GoodIn wsX10_market wsX2_reviewMonth := goodIn_r _ [65, 66, 21, 77, 78, 79, 80, 81, 82, 83, 84, 85, 86, 87, 88, 89, 90] (by decide +kernel) (by decide +kernel)
set_option maxRecDepth 20000 in
theorem gX10_market_X2_reviewMonth : GoodIn wsX10_market (wsV RX10 167 RX2 yX2_reviewMonth wsX2_reviewMonth) := goodIn_app (goodIn_of _ (by decide +kernel)) ggX10_market_X2_reviewMonth
theorem dX10_market_0 : decode cX10_market 0 = .ok (.aload_n 0, 1) := by decide +kernel
theorem dX10_market_1 : decode cX10_market 1 = .ok (.getfield 50, 3) := by decide +kernel
theorem dX10_market_4 : decode cX10_market 4 = .ok (.iload_n 1, 1) := by decide +kernel
theorem dX10_market_5 : decode cX10_market 5 = .ok (.invokevirtual 100, 3) := by decide +kernel
theorem dX10_market_8 : decode cX10_market 8 = .ok (.astore 4, 2) := by decide +kernel
theorem dX10_market_10 : decode cX10_market 10 = .ok (.aload 4, 2) := by decide +kernel
theorem dX10_market_12 : decode cX10_market 12 = .ok (.ifnull 21, 3) := by decide +kernel
theorem dX10_market_15 : decode cX10_market 15 = .ok (.aload 4, 2) := by decide +kernel
theorem dX10_market_17 : decode cX10_market 17 = .ok (.getfield 128, 3) := by decide +kernel
theorem dX10_market_20 : decode cX10_market 20 = .ok (.iconst 2, 1) := by decide +kernel
theorem dX10_market_21 : decode cX10_market 21 = .ok (.if_icmp .ne 12, 3) := by decide +kernel
theorem dX10_market_24 : decode cX10_market 24 = .ok (.aload 4, 2) := by decide +kernel
theorem dX10_market_26 : decode cX10_market 26 = .ok (.iload_n 2, 1) := by decide +kernel
theorem dX10_market_27 : decode cX10_market 27 = .ok (.invokevirtual 159, 3) := by decide +kernel
theorem dX10_market_30 : decode cX10_market 30 = .ok (.ifCond .ne 5, 3) := by decide +kernel
theorem dX10_market_33 : decode cX10_market 33 = .ok (.iconst (-1), 1) := by decide +kernel
theorem dX10_market_34 : decode cX10_market 34 = .ok (.ireturn, 1) := by decide +kernel
theorem dX10_market_35 : decode cX10_market 35 = .ok (.iload_n 3, 1) := by decide +kernel
theorem dX10_market_36 : decode cX10_market 36 = .ok (.iconst 1, 1) := by decide +kernel
theorem dX10_market_37 : decode cX10_market 37 = .ok (.if_icmp .lt 18, 3) := by decide +kernel
theorem dX10_market_40 : decode cX10_market 40 = .ok (.iload_n 3, 1) := by decide +kernel
theorem dX10_market_41 : decode cX10_market 41 = .ok (.ldc 239, 2) := by decide +kernel
theorem dX10_market_43 : decode cX10_market 43 = .ok (.if_icmp .gt 12, 3) := by decide +kernel
theorem dX10_market_46 : decode cX10_market 46 = .ok (.aload 4, 2) := by decide +kernel
theorem dX10_market_48 : decode cX10_market 48 = .ok (.iload_n 2, 1) := by decide +kernel
theorem dX10_market_49 : decode cX10_market 49 = .ok (.invokevirtual 240, 3) := by decide +kernel
theorem dX10_market_52 : decode cX10_market 52 = .ok (.ifCond .eq 5, 3) := by decide +kernel
theorem dX10_market_55 : decode cX10_market 55 = .ok (.iconst (-1), 1) := by decide +kernel
theorem dX10_market_56 : decode cX10_market 56 = .ok (.ireturn, 1) := by decide +kernel
theorem dX10_market_57 : decode cX10_market 57 = .ok (.aload_n 0, 1) := by decide +kernel
theorem dX10_market_58 : decode cX10_market 58 = .ok (.aload 4, 2) := by decide +kernel
theorem dX10_market_60 : decode cX10_market 60 = .ok (.iload_n 1, 1) := by decide +kernel
theorem dX10_market_61 : decode cX10_market 61 = .ok (.iload_n 2, 1) := by decide +kernel
theorem dX10_market_62 : decode cX10_market 62 = .ok (.iload_n 3, 1) := by decide +kernel
theorem dX10_market_63 : decode cX10_market 63 = .ok (.invokevirtual 243, 3) := by decide +kernel
theorem dX10_market_66 : decode cX10_market 66 = .ok (.aload 4, 2) := by decide +kernel
theorem dX10_market_68 : decode cX10_market 68 = .ok (.iload_n 2, 1) := by decide +kernel
theorem dX10_market_69 : decode cX10_market 69 = .ok (.invokevirtual 167, 3) := by decide +kernel
theorem dX10_market_72 : decode cX10_market 72 = .ok (.ireturn, 1) := by decide +kernel
set_option maxRecDepth 20000 in
theorem ggX10_turnover_X1_leaseAt : GoodIn wsX10_turnover wsX1_leaseAt := goodIn_r _ [9, 10, 11, 82, 83, 84, 85, 86] (by decide +kernel) (by decide +kernel)
set_option maxRecDepth 20000 in
theorem gX10_turnover_X1_leaseAt : GoodIn wsX10_turnover (wsV RX10 100 RX1 yX1_leaseAt wsX1_leaseAt) := goodIn_app (goodIn_of _ (by decide +kernel)) ggX10_turnover_X1_leaseAt
set_option maxRecDepth 20000 in
theorem ggX10_turnover_X2_hasMonth : GoodIn wsX10_turnover wsX2_hasMonth := goodIn_r _ [16, 17, 18, 68, 69, 70, 71, 72, 73, 74, 75, 76, 77, 78, 79, 80, 81] (by decide +kernel) (by decide +kernel)
set_option maxRecDepth 20000 in
theorem gX10_turnover_X2_hasMonth : GoodIn wsX10_turnover (wsV RX10 152 RX2 yX2_hasMonth wsX2_hasMonth) := goodIn_app (goodIn_of _ (by decide +kernel)) ggX10_turnover_X2_hasMonth
set_option maxRecDepth 20000 in
theorem ggX10_turnover_X2_wasTold : GoodIn wsX10_turnover wsX2_wasTold := goodIn_r _ [22, 23, 24, 25, 15, 26, 27, 68, 69, 70, 71, 72, 73, 74, 75, 76, 77, 78, 79, 80, 81] (by decide +kernel) (by decide +kernel)
set_option maxRecDepth 20000 in
theorem gX10_turnover_X2_wasTold : GoodIn wsX10_turnover (wsV RX10 240 RX2 yX2_wasTold wsX2_wasTold) := goodIn_app (goodIn_of _ (by decide +kernel)) ggX10_turnover_X2_wasTold
set_option maxRecDepth 20000 in
theorem ggX10_turnover_X10_tellOfLease : GoodIn wsX10_turnover wsX10_tellOfLease := goodIn_r _ [32, 33, 1, 34, 35, 36, 37, 15, 38, 39, 27, 40, 41, 42, 8, 43, 44, 45, 46, 47, 48, 49, 50, 51, 52, 53, 54, 55, 56, 57, 58, 59, 60, 61, 62, 63, 64, 65, 66, 67, 68, 69, 70, 71, 72, 73, 74, 75, 76, 77, 78, 79, 80, 81, 82, 83, 84, 85, 86, 87, 88, 89, 90] (by decide +kernel) (by decide +kernel)
set_option maxRecDepth 20000 in
theorem gX10_turnover_X10_tellOfLease : GoodIn wsX10_turnover (wsV RX10 243 RX10 yX10_tellOfLease wsX10_tellOfLease) := goodIn_app (goodIn_of _ (by decide +kernel)) ggX10_turnover_X10_tellOfLease
theorem dX10_turnover_0 : decode cX10_turnover 0 = .ok (.aload_n 0, 1) := by decide +kernel
theorem dX10_turnover_1 : decode cX10_turnover 1 = .ok (.getfield 50, 3) := by decide +kernel
theorem dX10_turnover_4 : decode cX10_turnover 4 = .ok (.iload_n 1, 1) := by decide +kernel
theorem dX10_turnover_5 : decode cX10_turnover 5 = .ok (.invokevirtual 100, 3) := by decide +kernel
theorem dX10_turnover_8 : decode cX10_turnover 8 = .ok (.astore 4, 2) := by decide +kernel
theorem dX10_turnover_10 : decode cX10_turnover 10 = .ok (.aload 4, 2) := by decide +kernel
theorem dX10_turnover_12 : decode cX10_turnover 12 = .ok (.ifnull 21, 3) := by decide +kernel
theorem dX10_turnover_15 : decode cX10_turnover 15 = .ok (.aload 4, 2) := by decide +kernel
theorem dX10_turnover_17 : decode cX10_turnover 17 = .ok (.getfield 128, 3) := by decide +kernel
theorem dX10_turnover_20 : decode cX10_turnover 20 = .ok (.iconst 3, 1) := by decide +kernel
theorem dX10_turnover_21 : decode cX10_turnover 21 = .ok (.if_icmp .ne 12, 3) := by decide +kernel
theorem dX10_turnover_24 : decode cX10_turnover 24 = .ok (.aload 4, 2) := by decide +kernel
theorem dX10_turnover_26 : decode cX10_turnover 26 = .ok (.iload_n 2, 1) := by decide +kernel
theorem dX10_turnover_27 : decode cX10_turnover 27 = .ok (.invokevirtual 152, 3) := by decide +kernel
theorem dX10_turnover_30 : decode cX10_turnover 30 = .ok (.ifCond .ne 5, 3) := by decide +kernel
theorem dX10_turnover_33 : decode cX10_turnover 33 = .ok (.iconst 0, 1) := by decide +kernel
theorem dX10_turnover_34 : decode cX10_turnover 34 = .ok (.ireturn, 1) := by decide +kernel
theorem dX10_turnover_35 : decode cX10_turnover 35 = .ok (.iload_n 2, 1) := by decide +kernel
theorem dX10_turnover_36 : decode cX10_turnover 36 = .ok (.aload 4, 2) := by decide +kernel
theorem dX10_turnover_38 : decode cX10_turnover 38 = .ok (.getfield 111, 3) := by decide +kernel
theorem dX10_turnover_41 : decode cX10_turnover 41 = .ok (.isub, 1) := by decide +kernel
theorem dX10_turnover_42 : decode cX10_turnover 42 = .ok (.istore 5, 2) := by decide +kernel
theorem dX10_turnover_44 : decode cX10_turnover 44 = .ok (.iload_n 3, 1) := by decide +kernel
theorem dX10_turnover_45 : decode cX10_turnover 45 = .ok (.ifCond .lt 19, 3) := by decide +kernel
theorem dX10_turnover_48 : decode cX10_turnover 48 = .ok (.iload_n 3, 1) := by decide +kernel
theorem dX10_turnover_49 : decode cX10_turnover 49 = .ok (.ldc 247, 2) := by decide +kernel
theorem dX10_turnover_51 : decode cX10_turnover 51 = .ok (.if_icmp .gt 13, 3) := by decide +kernel
theorem dX10_turnover_54 : decode cX10_turnover 54 = .ok (.aload 4, 2) := by decide +kernel
theorem dX10_turnover_56 : decode cX10_turnover 56 = .ok (.iload 5, 2) := by decide +kernel
theorem dX10_turnover_58 : decode cX10_turnover 58 = .ok (.invokevirtual 240, 3) := by decide +kernel
theorem dX10_turnover_61 : decode cX10_turnover 61 = .ok (.ifCond .eq 5, 3) := by decide +kernel
theorem dX10_turnover_64 : decode cX10_turnover 64 = .ok (.iconst 0, 1) := by decide +kernel
theorem dX10_turnover_65 : decode cX10_turnover 65 = .ok (.ireturn, 1) := by decide +kernel
theorem dX10_turnover_66 : decode cX10_turnover 66 = .ok (.aload_n 0, 1) := by decide +kernel
theorem dX10_turnover_67 : decode cX10_turnover 67 = .ok (.aload 4, 2) := by decide +kernel
theorem dX10_turnover_69 : decode cX10_turnover 69 = .ok (.iload_n 1, 1) := by decide +kernel
theorem dX10_turnover_70 : decode cX10_turnover 70 = .ok (.iload 5, 2) := by decide +kernel
theorem dX10_turnover_72 : decode cX10_turnover 72 = .ok (.iload_n 3, 1) := by decide +kernel
theorem dX10_turnover_73 : decode cX10_turnover 73 = .ok (.invokevirtual 243, 3) := by decide +kernel
theorem dX10_turnover_76 : decode cX10_turnover 76 = .ok (.iconst 1, 1) := by decide +kernel
theorem dX10_turnover_77 : decode cX10_turnover 77 = .ok (.ireturn, 1) := by decide +kernel
set_option maxRecDepth 20000 in
theorem ggX10_breaks_X1_leaseAt : GoodIn wsX10_breaks wsX1_leaseAt := goodIn_r _ [10, 11, 12, 55, 56, 57, 58, 59] (by decide +kernel) (by decide +kernel)
set_option maxRecDepth 20000 in
theorem gX10_breaks_X1_leaseAt : GoodIn wsX10_breaks (wsV RX10 100 RX1 yX1_leaseAt wsX1_leaseAt) := goodIn_app (goodIn_of _ (by decide +kernel)) ggX10_breaks_X1_leaseAt
set_option maxRecDepth 20000 in
theorem ggX10_breaks_X1_addNews : GoodIn wsX10_breaks wsX1_addNews := goodIn_r _ [16, 17, 55, 56, 57, 58, 59] (by decide +kernel) (by decide +kernel)
set_option maxRecDepth 20000 in
theorem gX10_breaks_X1_addNews : GoodIn wsX10_breaks (wsV RX10 232 RX1 yX1_addNews wsX1_addNews) := goodIn_app (goodIn_of _ (by decide +kernel)) ggX10_breaks_X1_addNews
set_option maxRecDepth 20000 in
theorem ggX10_breaks_X0_keep : GoodIn wsX10_breaks wsX0_keep := goodIn_r _ [22, 23, 24, 25, 26, 27, 28, 29, 21, 30, 60, 61, 62, 63] (by decide +kernel) (by decide +kernel)
set_option maxRecDepth 20000 in
theorem gX10_breaks_X0_keep : GoodIn wsX10_breaks (wsV RX10 236 RX0 yX0_keep wsX0_keep) := goodIn_app (goodIn_of _ (by decide +kernel)) ggX10_breaks_X0_keep
theorem dX10_breaks_0 : decode cX10_breaks 0 = .ok (.aload_n 0, 1) := by decide +kernel
theorem dX10_breaks_1 : decode cX10_breaks 1 = .ok (.getfield 50, 3) := by decide +kernel
theorem dX10_breaks_4 : decode cX10_breaks 4 = .ok (.iload_n 1, 1) := by decide +kernel
theorem dX10_breaks_5 : decode cX10_breaks 5 = .ok (.invokevirtual 100, 3) := by decide +kernel
theorem dX10_breaks_8 : decode cX10_breaks 8 = .ok (.astore_n 2, 1) := by decide +kernel
theorem dX10_breaks_9 : decode cX10_breaks 9 = .ok (.aload_n 2, 1) := by decide +kernel
theorem dX10_breaks_10 : decode cX10_breaks 10 = .ok (.ifnull 11, 3) := by decide +kernel
theorem dX10_breaks_13 : decode cX10_breaks 13 = .ok (.aload_n 2, 1) := by decide +kernel
theorem dX10_breaks_14 : decode cX10_breaks 14 = .ok (.getfield 248, 3) := by decide +kernel
theorem dX10_breaks_17 : decode cX10_breaks 17 = .ok (.iconst (-1), 1) := by decide +kernel
theorem dX10_breaks_18 : decode cX10_breaks 18 = .ok (.if_icmp .ne 5, 3) := by decide +kernel
theorem dX10_breaks_21 : decode cX10_breaks 21 = .ok (.iconst (-1), 1) := by decide +kernel
theorem dX10_breaks_22 : decode cX10_breaks 22 = .ok (.ireturn, 1) := by decide +kernel
theorem dX10_breaks_23 : decode cX10_breaks 23 = .ok (.aload_n 2, 1) := by decide +kernel
theorem dX10_breaks_24 : decode cX10_breaks 24 = .ok (.getfield 248, 3) := by decide +kernel
theorem dX10_breaks_27 : decode cX10_breaks 27 = .ok (.aload_n 0, 1) := by decide +kernel
theorem dX10_breaks_28 : decode cX10_breaks 28 = .ok (.getfield 78, 3) := by decide +kernel
theorem dX10_breaks_31 : decode cX10_breaks 31 = .ok (.if_icmp .le 13, 3) := by decide +kernel
theorem dX10_breaks_34 : decode cX10_breaks 34 = .ok (.aload_n 2, 1) := by decide +kernel
theorem dX10_breaks_35 : decode cX10_breaks 35 = .ok (.getfield 251, 3) := by decide +kernel
theorem dX10_breaks_38 : decode cX10_breaks 38 = .ok (.sipush 240, 3) := by decide +kernel
theorem dX10_breaks_41 : decode cX10_breaks 41 = .ok (.if_icmp .eq 5, 3) := by decide +kernel
theorem dX10_breaks_44 : decode cX10_breaks 44 = .ok (.iconst (-1), 1) := by decide +kernel
theorem dX10_breaks_45 : decode cX10_breaks 45 = .ok (.ireturn, 1) := by decide +kernel
theorem dX10_breaks_46 : decode cX10_breaks 46 = .ok (.aload_n 2, 1) := by decide +kernel
theorem dX10_breaks_47 : decode cX10_breaks 47 = .ok (.aload_n 0, 1) := by decide +kernel
theorem dX10_breaks_48 : decode cX10_breaks 48 = .ok (.getfield 78, 3) := by decide +kernel
theorem dX10_breaks_51 : decode cX10_breaks 51 = .ok (.putfield 251, 3) := by decide +kernel
theorem dX10_breaks_54 : decode cX10_breaks 54 = .ok (.aload_n 0, 1) := by decide +kernel
theorem dX10_breaks_55 : decode cX10_breaks 55 = .ok (.getfield 50, 3) := by decide +kernel
theorem dX10_breaks_58 : decode cX10_breaks 58 = .ok (.aload_n 0, 1) := by decide +kernel
theorem dX10_breaks_59 : decode cX10_breaks 59 = .ok (.getfield 78, 3) := by decide +kernel
theorem dX10_breaks_62 : decode cX10_breaks 62 = .ok (.iconst 1, 1) := by decide +kernel
theorem dX10_breaks_63 : decode cX10_breaks 63 = .ok (.invokevirtual 232, 3) := by decide +kernel
theorem dX10_breaks_66 : decode cX10_breaks 66 = .ok (.aload_n 0, 1) := by decide +kernel
theorem dX10_breaks_67 : decode cX10_breaks 67 = .ok (.getfield 26, 3) := by decide +kernel
theorem dX10_breaks_70 : decode cX10_breaks 70 = .ok (.iconst 3, 1) := by decide +kernel
theorem dX10_breaks_71 : decode cX10_breaks 71 = .ok (.iload_n 1, 1) := by decide +kernel
theorem dX10_breaks_72 : decode cX10_breaks 72 = .ok (.iconst (-1), 1) := by decide +kernel
theorem dX10_breaks_73 : decode cX10_breaks 73 = .ok (.invokevirtual 236, 3) := by decide +kernel
theorem dX10_breaks_76 : decode cX10_breaks 76 = .ok (.aload_n 2, 1) := by decide +kernel
theorem dX10_breaks_77 : decode cX10_breaks 77 = .ok (.getfield 248, 3) := by decide +kernel
theorem dX10_breaks_80 : decode cX10_breaks 80 = .ok (.ireturn, 1) := by decide +kernel
set_option maxRecDepth 20000 in
theorem ggX10_pass_X10_isMonth : GoodIn wsX10_pass wsX10_isMonth := goodIn_r _ [6] (by decide +kernel) (by decide +kernel)
set_option maxRecDepth 20000 in
theorem gX10_pass_X10_isMonth : GoodIn wsX10_pass (va_wsS RX10 141 yX10_isMonth wsX10_isMonth) := goodIn_app (goodIn_of _ (by decide +kernel)) ggX10_pass_X10_isMonth
set_option maxRecDepth 20000 in
theorem ggX10_pass_X0_keep : GoodIn wsX10_pass wsX0_keep := goodIn_r _ [11, 12, 13, 14, 15, 16, 17, 18, 10, 19, 30, 31, 32, 33] (by decide +kernel) (by decide +kernel)
set_option maxRecDepth 20000 in
theorem gX10_pass_X0_keep : GoodIn wsX10_pass (wsV RX10 236 RX0 yX0_keep wsX0_keep) := goodIn_app (goodIn_of _ (by decide +kernel)) ggX10_pass_X0_keep
theorem dX10_pass_0 : decode cX10_pass 0 = .ok (.iload_n 1, 1) := by decide +kernel
theorem dX10_pass_1 : decode cX10_pass 1 = .ok (.iconst 1, 1) := by decide +kernel
theorem dX10_pass_2 : decode cX10_pass 2 = .ok (.if_icmp .lt 21, 3) := by decide +kernel
theorem dX10_pass_5 : decode cX10_pass 5 = .ok (.iload_n 1, 1) := by decide +kernel
theorem dX10_pass_6 : decode cX10_pass 6 = .ok (.bipush 99, 2) := by decide +kernel
theorem dX10_pass_8 : decode cX10_pass 8 = .ok (.if_icmp .gt 15, 3) := by decide +kernel
theorem dX10_pass_11 : decode cX10_pass 11 = .ok (.aload_n 0, 1) := by decide +kernel
theorem dX10_pass_12 : decode cX10_pass 12 = .ok (.getfield 78, 3) := by decide +kernel
theorem dX10_pass_15 : decode cX10_pass 15 = .ok (.iload_n 1, 1) := by decide +kernel
theorem dX10_pass_16 : decode cX10_pass 16 = .ok (.iadd, 1) := by decide +kernel
theorem dX10_pass_17 : decode cX10_pass 17 = .ok (.invokestatic 141, 3) := by decide +kernel
theorem dX10_pass_20 : decode cX10_pass 20 = .ok (.ifCond .ne 5, 3) := by decide +kernel
theorem dX10_pass_23 : decode cX10_pass 23 = .ok (.iconst (-1), 1) := by decide +kernel
theorem dX10_pass_24 : decode cX10_pass 24 = .ok (.ireturn, 1) := by decide +kernel
theorem dX10_pass_25 : decode cX10_pass 25 = .ok (.aload_n 0, 1) := by decide +kernel
theorem dX10_pass_26 : decode cX10_pass 26 = .ok (.dup, 1) := by decide +kernel
theorem dX10_pass_27 : decode cX10_pass 27 = .ok (.getfield 78, 3) := by decide +kernel
theorem dX10_pass_30 : decode cX10_pass 30 = .ok (.iload_n 1, 1) := by decide +kernel
theorem dX10_pass_31 : decode cX10_pass 31 = .ok (.iadd, 1) := by decide +kernel
theorem dX10_pass_32 : decode cX10_pass 32 = .ok (.putfield 78, 3) := by decide +kernel
theorem dX10_pass_35 : decode cX10_pass 35 = .ok (.aload_n 0, 1) := by decide +kernel
theorem dX10_pass_36 : decode cX10_pass 36 = .ok (.getfield 26, 3) := by decide +kernel
theorem dX10_pass_39 : decode cX10_pass 39 = .ok (.iconst 4, 1) := by decide +kernel
theorem dX10_pass_40 : decode cX10_pass 40 = .ok (.iconst (-1), 1) := by decide +kernel
theorem dX10_pass_41 : decode cX10_pass 41 = .ok (.iload_n 1, 1) := by decide +kernel
theorem dX10_pass_42 : decode cX10_pass 42 = .ok (.invokevirtual 236, 3) := by decide +kernel
theorem dX10_pass_45 : decode cX10_pass 45 = .ok (.aload_n 0, 1) := by decide +kernel
theorem dX10_pass_46 : decode cX10_pass 46 = .ok (.getfield 78, 3) := by decide +kernel
theorem dX10_pass_49 : decode cX10_pass 49 = .ok (.ireturn, 1) := by decide +kernel
set_option maxRecDepth 20000 in
theorem ggX10_undo_X0_latestKind : GoodIn wsX10_undo wsX0_latestKind := goodIn_r _ [8, 9, 10, 11, 12, 7, 13, 14, 78, 79, 80, 81] (by decide +kernel) (by decide +kernel)
set_option maxRecDepth 20000 in
theorem gX10_undo_X0_latestKind : GoodIn wsX10_undo (wsV RX10 254 RX0 yX0_latestKind wsX0_latestKind) := goodIn_app (goodIn_of _ (by decide +kernel)) ggX10_undo_X0_latestKind
set_option maxRecDepth 20000 in
theorem ggX10_undo_X0_latestLease : GoodIn wsX10_undo wsX0_latestLease := goodIn_r _ [18, 19, 10, 11, 12, 7, 13, 14, 78, 79, 80, 81] (by decide +kernel) (by decide +kernel)
set_option maxRecDepth 20000 in
theorem gX10_undo_X0_latestLease : GoodIn wsX10_undo (wsV RX10 257 RX0 yX0_latestLease wsX0_latestLease) := goodIn_app (goodIn_of _ (by decide +kernel)) ggX10_undo_X0_latestLease
set_option maxRecDepth 20000 in
theorem ggX10_undo_X1_leaseAt : GoodIn wsX10_undo wsX1_leaseAt := goodIn_r _ [24, 25, 26, 82, 83, 84, 85, 86] (by decide +kernel) (by decide +kernel)
set_option maxRecDepth 20000 in
theorem gX10_undo_X1_leaseAt : GoodIn wsX10_undo (wsV RX10 100 RX1 yX1_leaseAt wsX1_leaseAt) := goodIn_app (goodIn_of _ (by decide +kernel)) ggX10_undo_X1_leaseAt
set_option maxRecDepth 20000 in
theorem ggX10_undo_X0_latestPlace : GoodIn wsX10_undo wsX0_latestPlace := goodIn_r _ [30, 31, 10, 11, 12, 7, 13, 14, 78, 79, 80, 81] (by decide +kernel) (by decide +kernel)
set_option maxRecDepth 20000 in
theorem gX10_undo_X0_latestPlace : GoodIn wsX10_undo (wsV RX10 260 RX0 yX0_latestPlace wsX0_latestPlace) := goodIn_app (goodIn_of _ (by decide +kernel)) ggX10_undo_X0_latestPlace
set_option maxRecDepth 20000 in
theorem ggX10_undo_X10_takeBack : GoodIn wsX10_undo wsX10_takeBack := goodIn_r _ [36, 37, 3, 38, 39, 40, 41, 42, 23, 43, 44, 45, 46, 47, 48, 49, 50, 51, 52, 53, 54, 55, 56, 57, 58, 59, 60, 61, 62, 63, 68, 69, 70, 71, 72, 73, 74, 75, 76, 77, 82, 83, 84, 85, 86, 87, 88, 89, 90, 91, 92, 93, 94, 95, 96, 97, 98, 99, 100, 101, 102, 103] (by decide +kernel) (by decide +kernel)
set_option maxRecDepth 20000 in
theorem gX10_undo_X10_takeBack : GoodIn wsX10_undo (wsV RX10 263 RX10 yX10_takeBack wsX10_takeBack) := goodIn_app (goodIn_of _ (by decide +kernel)) ggX10_undo_X10_takeBack
set_option maxRecDepth 20000 in
theorem ggX10_undo_X0_dropLatest : GoodIn wsX10_undo wsX0_dropLatest := goodIn_r _ [67, 14, 78, 79, 80, 81] (by decide +kernel) (by decide +kernel)
set_option maxRecDepth 20000 in
theorem gX10_undo_X0_dropLatest : GoodIn wsX10_undo (wsV RX10 267 RX0 yX0_dropLatest wsX0_dropLatest) := goodIn_app (goodIn_of _ (by decide +kernel)) ggX10_undo_X0_dropLatest
theorem dX10_undo_0 : decode cX10_undo 0 = .ok (.aload_n 0, 1) := by decide +kernel
theorem dX10_undo_1 : decode cX10_undo 1 = .ok (.getfield 26, 3) := by decide +kernel
theorem dX10_undo_4 : decode cX10_undo 4 = .ok (.getfield 99, 3) := by decide +kernel
theorem dX10_undo_7 : decode cX10_undo 7 = .ok (.ifCond .ne 5, 3) := by decide +kernel
theorem dX10_undo_10 : decode cX10_undo 10 = .ok (.iconst (-1), 1) := by decide +kernel
theorem dX10_undo_11 : decode cX10_undo 11 = .ok (.ireturn, 1) := by decide +kernel
theorem dX10_undo_12 : decode cX10_undo 12 = .ok (.aload_n 0, 1) := by decide +kernel
theorem dX10_undo_13 : decode cX10_undo 13 = .ok (.aload_n 0, 1) := by decide +kernel
theorem dX10_undo_14 : decode cX10_undo 14 = .ok (.getfield 26, 3) := by decide +kernel
theorem dX10_undo_17 : decode cX10_undo 17 = .ok (.invokevirtual 254, 3) := by decide +kernel
theorem dX10_undo_20 : decode cX10_undo 20 = .ok (.aload_n 0, 1) := by decide +kernel
theorem dX10_undo_21 : decode cX10_undo 21 = .ok (.getfield 50, 3) := by decide +kernel
theorem dX10_undo_24 : decode cX10_undo 24 = .ok (.aload_n 0, 1) := by decide +kernel
theorem dX10_undo_25 : decode cX10_undo 25 = .ok (.getfield 26, 3) := by decide +kernel
theorem dX10_undo_28 : decode cX10_undo 28 = .ok (.invokevirtual 257, 3) := by decide +kernel
theorem dX10_undo_31 : decode cX10_undo 31 = .ok (.invokevirtual 100, 3) := by decide +kernel
theorem dX10_undo_34 : decode cX10_undo 34 = .ok (.aload_n 0, 1) := by decide +kernel
theorem dX10_undo_35 : decode cX10_undo 35 = .ok (.getfield 26, 3) := by decide +kernel
theorem dX10_undo_38 : decode cX10_undo 38 = .ok (.invokevirtual 260, 3) := by decide +kernel
theorem dX10_undo_41 : decode cX10_undo 41 = .ok (.invokevirtual 263, 3) := by decide +kernel
theorem dX10_undo_44 : decode cX10_undo 44 = .ok (.aload_n 0, 1) := by decide +kernel
theorem dX10_undo_45 : decode cX10_undo 45 = .ok (.getfield 26, 3) := by decide +kernel
theorem dX10_undo_48 : decode cX10_undo 48 = .ok (.invokevirtual 267, 3) := by decide +kernel
theorem dX10_undo_51 : decode cX10_undo 51 = .ok (.aload_n 0, 1) := by decide +kernel
theorem dX10_undo_52 : decode cX10_undo 52 = .ok (.getfield 26, 3) := by decide +kernel
theorem dX10_undo_55 : decode cX10_undo 55 = .ok (.getfield 99, 3) := by decide +kernel
theorem dX10_undo_58 : decode cX10_undo 58 = .ok (.ireturn, 1) := by decide +kernel
theorem dX10_isMonth_0 : decode cX10_isMonth 0 = .ok (.iload_n 0, 1) := by decide +kernel
theorem dX10_isMonth_1 : decode cX10_isMonth 1 = .ok (.ifCond .lt 14, 3) := by decide +kernel
theorem dX10_isMonth_4 : decode cX10_isMonth 4 = .ok (.iload_n 0, 1) := by decide +kernel
theorem dX10_isMonth_5 : decode cX10_isMonth 5 = .ok (.sipush 240, 3) := by decide +kernel
theorem dX10_isMonth_8 : decode cX10_isMonth 8 = .ok (.if_icmp .ge 7, 3) := by decide +kernel
theorem dX10_isMonth_11 : decode cX10_isMonth 11 = .ok (.iconst 1, 1) := by decide +kernel
theorem dX10_isMonth_12 : decode cX10_isMonth 12 = .ok (.goto 4, 3) := by decide +kernel
theorem dX10_isMonth_15 : decode cX10_isMonth 15 = .ok (.iconst 0, 1) := by decide +kernel
theorem dX10_isMonth_16 : decode cX10_isMonth 16 = .ok (.ireturn, 1) := by decide +kernel
set_option maxRecDepth 20000 in
theorem ggX10_refusalOf_X10_isMonth : GoodIn wsX10_refusalOf wsX10_isMonth := goodIn_r _ [7] (by decide +kernel) (by decide +kernel)
set_option maxRecDepth 20000 in
theorem gX10_refusalOf_X10_isMonth : GoodIn wsX10_refusalOf (va_wsS RX10 141 yX10_isMonth wsX10_isMonth) := goodIn_app (goodIn_of _ (by decide +kernel)) ggX10_refusalOf_X10_isMonth
set_option maxRecDepth 20000 in
theorem ggX10_refusalOf_X8_has : GoodIn wsX10_refusalOf wsX8_has := goodIn_r _ [12, 13, 29, 30, 31] (by decide +kernel) (by decide +kernel)
set_option maxRecDepth 20000 in
theorem gX10_refusalOf_X8_has : GoodIn wsX10_refusalOf (wsV RX10 270 RX8 yX8_has wsX8_has) := goodIn_app (goodIn_of _ (by decide +kernel)) ggX10_refusalOf_X8_has
theorem dX10_refusalOf_0 : decode cX10_refusalOf 0 = .ok (.iload_n 1, 1) := by decide +kernel
theorem dX10_refusalOf_1 : decode cX10_refusalOf 1 = .ok (.invokestatic 141, 3) := by decide +kernel
theorem dX10_refusalOf_4 : decode cX10_refusalOf 4 = .ok (.ifCond .eq 29, 3) := by decide +kernel
theorem dX10_refusalOf_7 : decode cX10_refusalOf 7 = .ok (.iload_n 2, 1) := by decide +kernel
theorem dX10_refusalOf_8 : decode cX10_refusalOf 8 = .ok (.iconst 1, 1) := by decide +kernel
theorem dX10_refusalOf_9 : decode cX10_refusalOf 9 = .ok (.if_icmp .lt 24, 3) := by decide +kernel
theorem dX10_refusalOf_12 : decode cX10_refusalOf 12 = .ok (.iload_n 2, 1) := by decide +kernel
theorem dX10_refusalOf_13 : decode cX10_refusalOf 13 = .ok (.sipush 9999, 3) := by decide +kernel
theorem dX10_refusalOf_16 : decode cX10_refusalOf 16 = .ok (.if_icmp .gt 17, 3) := by decide +kernel
theorem dX10_refusalOf_19 : decode cX10_refusalOf 19 = .ok (.aload_n 0, 1) := by decide +kernel
theorem dX10_refusalOf_20 : decode cX10_refusalOf 20 = .ok (.getfield 50, 3) := by decide +kernel
theorem dX10_refusalOf_23 : decode cX10_refusalOf 23 = .ok (.getfield 90, 3) := by decide +kernel
theorem dX10_refusalOf_26 : decode cX10_refusalOf 26 = .ok (.iload_n 1, 1) := by decide +kernel
theorem dX10_refusalOf_27 : decode cX10_refusalOf 27 = .ok (.invokevirtual 270, 3) := by decide +kernel
theorem dX10_refusalOf_30 : decode cX10_refusalOf 30 = .ok (.ifCond .eq 5, 3) := by decide +kernel
theorem dX10_refusalOf_33 : decode cX10_refusalOf 33 = .ok (.iconst (-1), 1) := by decide +kernel
theorem dX10_refusalOf_34 : decode cX10_refusalOf 34 = .ok (.ireturn, 1) := by decide +kernel
theorem dX10_refusalOf_35 : decode cX10_refusalOf 35 = .ok (.aload_n 0, 1) := by decide +kernel
theorem dX10_refusalOf_36 : decode cX10_refusalOf 36 = .ok (.getfield 50, 3) := by decide +kernel
theorem dX10_refusalOf_39 : decode cX10_refusalOf 39 = .ok (.getfield 90, 3) := by decide +kernel
theorem dX10_refusalOf_42 : decode cX10_refusalOf 42 = .ok (.getfield 94, 3) := by decide +kernel
theorem dX10_refusalOf_45 : decode cX10_refusalOf 45 = .ok (.bipush 40, 2) := by decide +kernel
theorem dX10_refusalOf_47 : decode cX10_refusalOf 47 = .ok (.if_icmp .lt 8, 3) := by decide +kernel
theorem dX10_refusalOf_50 : decode cX10_refusalOf 50 = .ok (.bipush (-2), 2) := by decide +kernel
theorem dX10_refusalOf_52 : decode cX10_refusalOf 52 = .ok (.goto 4, 3) := by decide +kernel
theorem dX10_refusalOf_55 : decode cX10_refusalOf 55 = .ok (.iconst 0, 1) := by decide +kernel
theorem dX10_refusalOf_56 : decode cX10_refusalOf 56 = .ok (.ireturn, 1) := by decide +kernel
set_option maxRecDepth 20000 in
theorem ggX10_rentKnownIn_X9_begin : GoodIn wsX10_rentKnownIn wsX9_begin := goodIn_r _ [9, 10, 11, 12, 13, 14, 15, 16, 17, 18, 19, 20, 8, 21, 22, 23, 24, 25, 26, 27, 28, 29, 30, 31, 32, 33, 34, 35, 36, 37, 38, 39, 40, 124, 125, 126, 127, 128, 129, 130, 131, 132, 133, 134, 135, 136, 137, 138, 139, 140, 141, 142, 143, 144, 145, 146, 147] (by decide +kernel) (by decide +kernel)
set_option maxRecDepth 20000 in
theorem gX10_rentKnownIn_X9_begin : GoodIn wsX10_rentKnownIn (wsV RX10 163 RX9 yX9_begin wsX9_begin) := goodIn_app (goodIn_of _ (by decide +kernel)) ggX10_rentKnownIn_X9_begin
set_option maxRecDepth 20000 in
theorem ggX10_rentKnownIn_X9_goTo : GoodIn wsX10_rentKnownIn wsX9_goTo := goodIn_r _ [44, 11, 14, 15, 45, 46, 16, 47, 48, 49, 50, 51, 52, 13, 53, 54, 55, 56, 57, 58, 59, 60, 61, 62, 63, 64, 65, 66, 67, 68, 8, 69, 17, 10, 70, 71, 72, 73, 74, 75, 12, 76, 77, 78, 79, 22, 80, 81, 82, 83, 84, 85, 86, 87, 88, 89, 90, 91, 92, 93, 94, 95, 96, 97, 98, 99, 100, 101, 102, 103, 104, 105, 106, 107, 108, 124, 125, 126, 127, 128, 129, 130, 131, 132, 133, 134, 135, 136, 137, 138, 139, 140, 141, 142, 143, 144, 148, 149, 150] (by decide +kernel) (by decide +kernel)
set_option maxRecDepth 20000 in
theorem gX10_rentKnownIn_X9_goTo : GoodIn wsX10_rentKnownIn (wsV RX10 170 RX9 yX9_goTo wsX9_goTo) := goodIn_app (goodIn_of _ (by decide +kernel)) ggX10_rentKnownIn_X9_goTo
theorem dX10_rentKnownIn_0 : decode cX10_rentKnownIn 0 = .ok (.aload_n 0, 1) := by decide +kernel
theorem dX10_rentKnownIn_1 : decode cX10_rentKnownIn 1 = .ok (.getfield 33, 3) := by decide +kernel
theorem dX10_rentKnownIn_4 : decode cX10_rentKnownIn 4 = .ok (.aload_n 1, 1) := by decide +kernel
theorem dX10_rentKnownIn_5 : decode cX10_rentKnownIn 5 = .ok (.aload_n 0, 1) := by decide +kernel
theorem dX10_rentKnownIn_6 : decode cX10_rentKnownIn 6 = .ok (.getfield 50, 3) := by decide +kernel
theorem dX10_rentKnownIn_9 : decode cX10_rentKnownIn 9 = .ok (.getfield 90, 3) := by decide +kernel
theorem dX10_rentKnownIn_12 : decode cX10_rentKnownIn 12 = .ok (.iload_n 3, 1) := by decide +kernel
theorem dX10_rentKnownIn_13 : decode cX10_rentKnownIn 13 = .ok (.invokevirtual 163, 3) := by decide +kernel
theorem dX10_rentKnownIn_16 : decode cX10_rentKnownIn 16 = .ok (.aload_n 0, 1) := by decide +kernel
theorem dX10_rentKnownIn_17 : decode cX10_rentKnownIn 17 = .ok (.getfield 33, 3) := by decide +kernel
theorem dX10_rentKnownIn_20 : decode cX10_rentKnownIn 20 = .ok (.aload_n 1, 1) := by decide +kernel
theorem dX10_rentKnownIn_21 : decode cX10_rentKnownIn 21 = .ok (.iload_n 2, 1) := by decide +kernel
theorem dX10_rentKnownIn_22 : decode cX10_rentKnownIn 22 = .ok (.invokevirtual 170, 3) := by decide +kernel
theorem dX10_rentKnownIn_25 : decode cX10_rentKnownIn 25 = .ok (.aload_n 0, 1) := by decide +kernel
theorem dX10_rentKnownIn_26 : decode cX10_rentKnownIn 26 = .ok (.getfield 33, 3) := by decide +kernel
theorem dX10_rentKnownIn_29 : decode cX10_rentKnownIn 29 = .ok (.getfield 177, 3) := by decide +kernel
theorem dX10_rentKnownIn_32 : decode cX10_rentKnownIn 32 = .ok (.ireturn, 1) := by decide +kernel
set_option maxRecDepth 20000 in
theorem ggX10_trueUp_X1_leaseAt : GoodIn wsX10_trueUp wsX1_leaseAt := goodIn_r _ [15, 16, 17, 154, 155, 156, 157, 158] (by decide +kernel) (by decide +kernel)
set_option maxRecDepth 20000 in
theorem gX10_trueUp_X1_leaseAt : GoodIn wsX10_trueUp (wsV RX10 100 RX1 yX1_leaseAt wsX1_leaseAt) := goodIn_app (goodIn_of _ (by decide +kernel)) ggX10_trueUp_X1_leaseAt
set_option maxRecDepth 20000 in
theorem ggX10_trueUp_X10_isMonth : GoodIn wsX10_trueUp wsX10_isMonth := goodIn_r _ [21] (by decide +kernel) (by decide +kernel)
set_option maxRecDepth 20000 in
theorem gX10_trueUp_X10_isMonth : GoodIn wsX10_trueUp (va_wsS RX10 141 yX10_isMonth wsX10_isMonth) := goodIn_app (goodIn_of _ (by decide +kernel)) ggX10_trueUp_X10_isMonth
set_option maxRecDepth 20000 in
theorem ggX10_trueUp_X9_begin : GoodIn wsX10_trueUp wsX9_begin := goodIn_r _ [26, 27, 28, 29, 30, 31, 32, 33, 34, 35, 36, 37, 25, 38, 39, 40, 41, 42, 43, 44, 45, 46, 47, 48, 49, 50, 51, 52, 53, 54, 55, 56, 57, 173, 174, 175, 176, 177, 178, 179, 159, 160, 161, 162, 163, 164, 165, 166, 167, 168, 169, 170, 171, 172, 180, 181, 182] (by decide +kernel) (by decide +kernel)
set_option maxRecDepth 20000 in
theorem gX10_trueUp_X9_begin : GoodIn wsX10_trueUp (wsV RX10 163 RX9 yX9_begin wsX9_begin) := goodIn_app (goodIn_of _ (by decide +kernel)) ggX10_trueUp_X9_begin
set_option maxRecDepth 20000 in
theorem ggX10_trueUp_X2_endKnownIn : GoodIn wsX10_trueUp wsX2_endKnownIn := goodIn_r _ [62, 63, 64, 65, 66, 159, 160, 161, 162, 163, 164, 165, 166, 167, 168, 169, 170, 171, 172] (by decide +kernel) (by decide +kernel)
set_option maxRecDepth 20000 in
theorem gX10_trueUp_X2_endKnownIn : GoodIn wsX10_trueUp (wsV RX10 131 RX2 yX2_endKnownIn wsX2_endKnownIn) := goodIn_app (goodIn_of _ (by decide +kernel)) ggX10_trueUp_X2_endKnownIn
set_option maxRecDepth 20000 in
theorem ggX10_trueUp_X9_dueIn : GoodIn wsX10_trueUp wsX9_dueIn := goodIn_r _ [70, 30, 71, 72, 73, 25, 74, 28, 31, 32, 75, 76, 33, 77, 78, 79, 7, 8, 9, 80, 81, 82, 61, 83, 84, 85, 66, 86, 87, 88, 89, 65, 90, 91, 92, 93, 34, 27, 94, 95, 96, 97, 98, 99, 29, 100, 101, 102, 103, 39, 104, 105, 106, 107, 108, 109, 110, 111, 112, 113, 114, 115, 116, 117, 118, 119, 120, 121, 122, 123, 124, 125, 126, 127, 128, 129, 130, 131, 132, 133, 134, 135, 136, 137, 173, 174, 175, 176, 177, 178, 179, 159, 160, 161, 162, 163, 164, 165, 166, 167, 168, 169, 170, 171, 172, 183, 184, 185] (by decide +kernel) (by decide +kernel)
set_option maxRecDepth 20000 in
theorem gX10_trueUp_X9_dueIn : GoodIn wsX10_trueUp (wsV RX10 196 RX9 yX9_dueIn wsX9_dueIn) := goodIn_app (goodIn_of _ (by decide +kernel)) ggX10_trueUp_X9_dueIn
set_option maxRecDepth 20000 in
theorem ggX10_trueUp_X10_interestOn : GoodIn wsX10_trueUp wsX10_interestOn := goodIn_r _ [141, 1, 142, 143, 144, 145, 146, 147, 148, 149, 150, 151, 152, 153, 154, 155, 156, 157, 158] (by decide +kernel) (by decide +kernel)
set_option maxRecDepth 20000 in
theorem gX10_trueUp_X10_interestOn : GoodIn wsX10_trueUp (wsV RX10 273 RX10 yX10_interestOn wsX10_interestOn) := goodIn_app (goodIn_of _ (by decide +kernel)) ggX10_trueUp_X10_interestOn
theorem dX10_trueUp_0 : decode cX10_trueUp 0 = .ok (.aload_n 0, 1) := by decide +kernel
theorem dX10_trueUp_1 : decode cX10_trueUp 1 = .ok (.getfield 50, 3) := by decide +kernel
theorem dX10_trueUp_4 : decode cX10_trueUp 4 = .ok (.iload_n 1, 1) := by decide +kernel
theorem dX10_trueUp_5 : decode cX10_trueUp 5 = .ok (.invokevirtual 100, 3) := by decide +kernel
theorem dX10_trueUp_8 : decode cX10_trueUp 8 = .ok (.astore 4, 2) := by decide +kernel
theorem dX10_trueUp_10 : decode cX10_trueUp 10 = .ok (.aload 4, 2) := by decide +kernel
theorem dX10_trueUp_12 : decode cX10_trueUp 12 = .ok (.ifnull 15, 3) := by decide +kernel
theorem dX10_trueUp_15 : decode cX10_trueUp 15 = .ok (.iload_n 2, 1) := by decide +kernel
theorem dX10_trueUp_16 : decode cX10_trueUp 16 = .ok (.iconst 1, 1) := by decide +kernel
theorem dX10_trueUp_17 : decode cX10_trueUp 17 = .ok (.if_icmp .lt 10, 3) := by decide +kernel
theorem dX10_trueUp_20 : decode cX10_trueUp 20 = .ok (.iload_n 2, 1) := by decide +kernel
theorem dX10_trueUp_21 : decode cX10_trueUp 21 = .ok (.invokestatic 141, 3) := by decide +kernel
theorem dX10_trueUp_24 : decode cX10_trueUp 24 = .ok (.ifCond .ne 6, 3) := by decide +kernel
theorem dX10_trueUp_27 : decode cX10_trueUp 27 = .ok (.ldc 162, 2) := by decide +kernel
theorem dX10_trueUp_29 : decode cX10_trueUp 29 = .ok (.ireturn, 1) := by decide +kernel
theorem dX10_trueUp_30 : decode cX10_trueUp 30 = .ok (.aload_n 0, 1) := by decide +kernel
theorem dX10_trueUp_31 : decode cX10_trueUp 31 = .ok (.getfield 33, 3) := by decide +kernel
theorem dX10_trueUp_34 : decode cX10_trueUp 34 = .ok (.aload 4, 2) := by decide +kernel
theorem dX10_trueUp_36 : decode cX10_trueUp 36 = .ok (.aload_n 0, 1) := by decide +kernel
theorem dX10_trueUp_37 : decode cX10_trueUp 37 = .ok (.getfield 50, 3) := by decide +kernel
theorem dX10_trueUp_40 : decode cX10_trueUp 40 = .ok (.getfield 90, 3) := by decide +kernel
theorem dX10_trueUp_43 : decode cX10_trueUp 43 = .ok (.iload_n 2, 1) := by decide +kernel
theorem dX10_trueUp_44 : decode cX10_trueUp 44 = .ok (.invokevirtual 163, 3) := by decide +kernel
theorem dX10_trueUp_47 : decode cX10_trueUp 47 = .ok (.aload_n 0, 1) := by decide +kernel
theorem dX10_trueUp_48 : decode cX10_trueUp 48 = .ok (.getfield 37, 3) := by decide +kernel
theorem dX10_trueUp_51 : decode cX10_trueUp 51 = .ok (.aload 4, 2) := by decide +kernel
theorem dX10_trueUp_53 : decode cX10_trueUp 53 = .ok (.aload_n 0, 1) := by decide +kernel
theorem dX10_trueUp_54 : decode cX10_trueUp 54 = .ok (.getfield 50, 3) := by decide +kernel
theorem dX10_trueUp_57 : decode cX10_trueUp 57 = .ok (.getfield 90, 3) := by decide +kernel
theorem dX10_trueUp_60 : decode cX10_trueUp 60 = .ok (.iload_n 2, 1) := by decide +kernel
theorem dX10_trueUp_61 : decode cX10_trueUp 61 = .ok (.iconst 1, 1) := by decide +kernel
theorem dX10_trueUp_62 : decode cX10_trueUp 62 = .ok (.isub, 1) := by decide +kernel
theorem dX10_trueUp_63 : decode cX10_trueUp 63 = .ok (.invokevirtual 163, 3) := by decide +kernel
theorem dX10_trueUp_66 : decode cX10_trueUp 66 = .ok (.iload_n 2, 1) := by decide +kernel
theorem dX10_trueUp_67 : decode cX10_trueUp 67 = .ok (.aload 4, 2) := by decide +kernel
theorem dX10_trueUp_69 : decode cX10_trueUp 69 = .ok (.iload_n 2, 1) := by decide +kernel
theorem dX10_trueUp_70 : decode cX10_trueUp 70 = .ok (.invokevirtual 131, 3) := by decide +kernel
theorem dX10_trueUp_73 : decode cX10_trueUp 73 = .ok (.invokestatic 210, 3) := by decide +kernel
theorem dX10_trueUp_76 : decode cX10_trueUp 76 = .ok (.istore 5, 2) := by decide +kernel
theorem dX10_trueUp_78 : decode cX10_trueUp 78 = .ok (.iconst 0, 1) := by decide +kernel
theorem dX10_trueUp_79 : decode cX10_trueUp 79 = .ok (.istore 6, 2) := by decide +kernel
theorem dX10_trueUp_81 : decode cX10_trueUp 81 = .ok (.aload 4, 2) := by decide +kernel
theorem dX10_trueUp_83 : decode cX10_trueUp 83 = .ok (.getfield 111, 3) := by decide +kernel
theorem dX10_trueUp_86 : decode cX10_trueUp 86 = .ok (.istore 7, 2) := by decide +kernel
theorem dX10_trueUp_88 : decode cX10_trueUp 88 = .ok (.iload 7, 2) := by decide +kernel
theorem dX10_trueUp_90 : decode cX10_trueUp 90 = .ok (.iload 5, 2) := by decide +kernel
theorem dX10_trueUp_92 : decode cX10_trueUp 92 = .ok (.if_icmp .ge 59, 3) := by decide +kernel
theorem dX10_trueUp_95 : decode cX10_trueUp 95 = .ok (.aload_n 0, 1) := by decide +kernel
theorem dX10_trueUp_96 : decode cX10_trueUp 96 = .ok (.getfield 33, 3) := by decide +kernel
theorem dX10_trueUp_99 : decode cX10_trueUp 99 = .ok (.aload 4, 2) := by decide +kernel
theorem dX10_trueUp_101 : decode cX10_trueUp 101 = .ok (.iload 7, 2) := by decide +kernel
theorem dX10_trueUp_103 : decode cX10_trueUp 103 = .ok (.invokevirtual 196, 3) := by decide +kernel
theorem dX10_trueUp_106 : decode cX10_trueUp 106 = .ok (.aload_n 0, 1) := by decide +kernel
theorem dX10_trueUp_107 : decode cX10_trueUp 107 = .ok (.getfield 37, 3) := by decide +kernel
theorem dX10_trueUp_110 : decode cX10_trueUp 110 = .ok (.aload 4, 2) := by decide +kernel
theorem dX10_trueUp_112 : decode cX10_trueUp 112 = .ok (.iload 7, 2) := by decide +kernel
theorem dX10_trueUp_114 : decode cX10_trueUp 114 = .ok (.invokevirtual 196, 3) := by decide +kernel
theorem dX10_trueUp_117 : decode cX10_trueUp 117 = .ok (.isub, 1) := by decide +kernel
theorem dX10_trueUp_118 : decode cX10_trueUp 118 = .ok (.istore 8, 2) := by decide +kernel
theorem dX10_trueUp_120 : decode cX10_trueUp 120 = .ok (.iload 6, 2) := by decide +kernel
theorem dX10_trueUp_122 : decode cX10_trueUp 122 = .ok (.iload_n 3, 1) := by decide +kernel
theorem dX10_trueUp_123 : decode cX10_trueUp 123 = .ok (.ifCond .eq 17, 3) := by decide +kernel
theorem dX10_trueUp_126 : decode cX10_trueUp 126 = .ok (.aload_n 0, 1) := by decide +kernel
theorem dX10_trueUp_127 : decode cX10_trueUp 127 = .ok (.iload 8, 2) := by decide +kernel
theorem dX10_trueUp_129 : decode cX10_trueUp 129 = .ok (.i2l, 1) := by decide +kernel
theorem dX10_trueUp_130 : decode cX10_trueUp 130 = .ok (.iload_n 2, 1) := by decide +kernel
theorem dX10_trueUp_131 : decode cX10_trueUp 131 = .ok (.iload 7, 2) := by decide +kernel
theorem dX10_trueUp_133 : decode cX10_trueUp 133 = .ok (.isub, 1) := by decide +kernel
theorem dX10_trueUp_134 : decode cX10_trueUp 134 = .ok (.invokevirtual 273, 3) := by decide +kernel
theorem dX10_trueUp_137 : decode cX10_trueUp 137 = .ok (.goto 5, 3) := by decide +kernel
theorem dX10_trueUp_140 : decode cX10_trueUp 140 = .ok (.iload 8, 2) := by decide +kernel
theorem dX10_trueUp_142 : decode cX10_trueUp 142 = .ok (.iadd, 1) := by decide +kernel
theorem dX10_trueUp_143 : decode cX10_trueUp 143 = .ok (.istore 6, 2) := by decide +kernel
theorem dX10_trueUp_145 : decode cX10_trueUp 145 = .ok (.iinc 7 1, 3) := by decide +kernel
theorem dX10_trueUp_148 : decode cX10_trueUp 148 = .ok (.goto (-60), 3) := by decide +kernel
theorem dX10_trueUp_151 : decode cX10_trueUp 151 = .ok (.iload 6, 2) := by decide +kernel
theorem dX10_trueUp_153 : decode cX10_trueUp 153 = .ok (.ireturn, 1) := by decide +kernel
theorem dX10_interestOn_0 : decode cX10_interestOn 0 = .ok (.lload_n 1, 1) := by decide +kernel
theorem dX10_interestOn_1 : decode cX10_interestOn 1 = .ok (.aload_n 0, 1) := by decide +kernel
theorem dX10_interestOn_2 : decode cX10_interestOn 2 = .ok (.getfield 50, 3) := by decide +kernel
theorem dX10_interestOn_5 : decode cX10_interestOn 5 = .ok (.getfield 87, 3) := by decide +kernel
theorem dX10_interestOn_8 : decode cX10_interestOn 8 = .ok (.i2l, 1) := by decide +kernel
theorem dX10_interestOn_9 : decode cX10_interestOn 9 = .ok (.lmul, 1) := by decide +kernel
theorem dX10_interestOn_10 : decode cX10_interestOn 10 = .ok (.iload_n 3, 1) := by decide +kernel
theorem dX10_interestOn_11 : decode cX10_interestOn 11 = .ok (.i2l, 1) := by decide +kernel
theorem dX10_interestOn_12 : decode cX10_interestOn 12 = .ok (.lmul, 1) := by decide +kernel
theorem dX10_interestOn_13 : decode cX10_interestOn 13 = .ok (.ldc2_w 277, 3) := by decide +kernel
theorem dX10_interestOn_16 : decode cX10_interestOn 16 = .ok (.ldiv, 1) := by decide +kernel
theorem dX10_interestOn_17 : decode cX10_interestOn 17 = .ok (.l2i, 1) := by decide +kernel
theorem dX10_interestOn_18 : decode cX10_interestOn 18 = .ok (.ireturn, 1) := by decide +kernel
set_option maxRecDepth 20000 in
theorem ggX10_tellOfLease_X2_tell : GoodIn wsX10_tellOfLease wsX2_tell := goodIn_r _ [8, 9, 10, 40, 41, 42, 43, 44, 45, 46, 47, 48, 49, 50, 51, 52, 53] (by decide +kernel) (by decide +kernel)
set_option maxRecDepth 20000 in
theorem gX10_tellOfLease_X2_tell : GoodIn wsX10_tellOfLease (wsV RX10 279 RX2 yX2_tell wsX2_tell) := goodIn_app (goodIn_of _ (by decide +kernel)) ggX10_tellOfLease_X2_tell
set_option maxRecDepth 20000 in
theorem ggX10_tellOfLease_X1_addNews : GoodIn wsX10_tellOfLease wsX1_addNews := goodIn_r _ [15, 16, 54, 55, 56, 57, 58] (by decide +kernel) (by decide +kernel)
set_option maxRecDepth 20000 in
theorem gX10_tellOfLease_X1_addNews : GoodIn wsX10_tellOfLease (wsV RX10 232 RX1 yX1_addNews wsX1_addNews) := goodIn_app (goodIn_of _ (by decide +kernel)) ggX10_tellOfLease_X1_addNews
set_option maxRecDepth 20000 in
theorem ggX10_tellOfLease_X0_keep : GoodIn wsX10_tellOfLease wsX0_keep := goodIn_r _ [21, 22, 23, 24, 25, 26, 27, 28, 20, 29, 59, 60, 61, 62] (by decide +kernel) (by decide +kernel)
set_option maxRecDepth 20000 in
theorem gX10_tellOfLease_X0_keep : GoodIn wsX10_tellOfLease (wsV RX10 236 RX0 yX0_keep wsX0_keep) := goodIn_app (goodIn_of _ (by decide +kernel)) ggX10_tellOfLease_X0_keep
theorem dX10_tellOfLease_0 : decode cX10_tellOfLease 0 = .ok (.aload_n 1, 1) := by decide +kernel
theorem dX10_tellOfLease_1 : decode cX10_tellOfLease 1 = .ok (.iload_n 3, 1) := by decide +kernel
theorem dX10_tellOfLease_2 : decode cX10_tellOfLease 2 = .ok (.iload 4, 2) := by decide +kernel
theorem dX10_tellOfLease_4 : decode cX10_tellOfLease 4 = .ok (.aload_n 0, 1) := by decide +kernel
theorem dX10_tellOfLease_5 : decode cX10_tellOfLease 5 = .ok (.getfield 78, 3) := by decide +kernel
theorem dX10_tellOfLease_8 : decode cX10_tellOfLease 8 = .ok (.invokevirtual 279, 3) := by decide +kernel
theorem dX10_tellOfLease_11 : decode cX10_tellOfLease 11 = .ok (.aload_n 0, 1) := by decide +kernel
theorem dX10_tellOfLease_12 : decode cX10_tellOfLease 12 = .ok (.getfield 50, 3) := by decide +kernel
theorem dX10_tellOfLease_15 : decode cX10_tellOfLease 15 = .ok (.aload_n 0, 1) := by decide +kernel
theorem dX10_tellOfLease_16 : decode cX10_tellOfLease 16 = .ok (.getfield 78, 3) := by decide +kernel
theorem dX10_tellOfLease_19 : decode cX10_tellOfLease 19 = .ok (.iconst 1, 1) := by decide +kernel
theorem dX10_tellOfLease_20 : decode cX10_tellOfLease 20 = .ok (.invokevirtual 232, 3) := by decide +kernel
theorem dX10_tellOfLease_23 : decode cX10_tellOfLease 23 = .ok (.aload_n 0, 1) := by decide +kernel
theorem dX10_tellOfLease_24 : decode cX10_tellOfLease 24 = .ok (.getfield 26, 3) := by decide +kernel
theorem dX10_tellOfLease_27 : decode cX10_tellOfLease 27 = .ok (.iconst 2, 1) := by decide +kernel
theorem dX10_tellOfLease_28 : decode cX10_tellOfLease 28 = .ok (.iload_n 2, 1) := by decide +kernel
theorem dX10_tellOfLease_29 : decode cX10_tellOfLease 29 = .ok (.iload_n 3, 1) := by decide +kernel
theorem dX10_tellOfLease_30 : decode cX10_tellOfLease 30 = .ok (.invokevirtual 236, 3) := by decide +kernel
theorem dX10_tellOfLease_33 : decode cX10_tellOfLease 33 = .ok (.return_, 1) := by decide +kernel
set_option maxRecDepth 20000 in
theorem ggX10_takeBack_X1_addNews : GoodIn wsX10_takeBack wsX1_addNews := goodIn_r _ [9, 10, 40, 41, 42, 43, 44] (by decide +kernel) (by decide +kernel)
set_option maxRecDepth 20000 in
theorem gX10_takeBack_X1_addNews : GoodIn wsX10_takeBack (wsV RX10 232 RX1 yX1_addNews wsX1_addNews) := goodIn_app (goodIn_of _ (by decide +kernel)) ggX10_takeBack_X1_addNews
set_option maxRecDepth 20000 in
theorem ggX10_takeBack_X8_drop : GoodIn wsX10_takeBack wsX8_drop := goodIn_r _ [15, 16, 17, 18, 59, 60, 61] (by decide +kernel) (by decide +kernel)
set_option maxRecDepth 20000 in
theorem gX10_takeBack_X8_drop : GoodIn wsX10_takeBack (wsV RX10 229 RX8 yX8_drop wsX8_drop) := goodIn_app (goodIn_of _ (by decide +kernel)) ggX10_takeBack_X8_drop
set_option maxRecDepth 20000 in
theorem ggX10_takeBack_X2_drop : GoodIn wsX10_takeBack wsX2_drop := goodIn_r _ [23, 24, 25, 26, 22, 27, 28, 29, 45, 46, 47, 48, 49, 50, 51, 52, 53, 54, 55, 56, 57, 58] (by decide +kernel) (by decide +kernel)
set_option maxRecDepth 20000 in
theorem gX10_takeBack_X2_drop : GoodIn wsX10_takeBack (wsV RX10 280 RX2 yX2_drop wsX2_drop) := goodIn_app (goodIn_of _ (by decide +kernel)) ggX10_takeBack_X2_drop
theorem dX10_takeBack_0 : decode cX10_takeBack 0 = .ok (.iload_n 1, 1) := by decide +kernel
theorem dX10_takeBack_1 : decode cX10_takeBack 1 = .ok (.iconst 4, 1) := by decide +kernel
theorem dX10_takeBack_2 : decode cX10_takeBack 2 = .ok (.if_icmp .ne 14, 3) := by decide +kernel
theorem dX10_takeBack_5 : decode cX10_takeBack 5 = .ok (.aload_n 0, 1) := by decide +kernel
theorem dX10_takeBack_6 : decode cX10_takeBack 6 = .ok (.dup, 1) := by decide +kernel
theorem dX10_takeBack_7 : decode cX10_takeBack 7 = .ok (.getfield 78, 3) := by decide +kernel
theorem dX10_takeBack_10 : decode cX10_takeBack 10 = .ok (.iload_n 3, 1) := by decide +kernel
theorem dX10_takeBack_11 : decode cX10_takeBack 11 = .ok (.isub, 1) := by decide +kernel
theorem dX10_takeBack_12 : decode cX10_takeBack 12 = .ok (.putfield 78, 3) := by decide +kernel
theorem dX10_takeBack_15 : decode cX10_takeBack 15 = .ok (.return_, 1) := by decide +kernel
theorem dX10_takeBack_16 : decode cX10_takeBack 16 = .ok (.aload_n 0, 1) := by decide +kernel
theorem dX10_takeBack_17 : decode cX10_takeBack 17 = .ok (.getfield 50, 3) := by decide +kernel
theorem dX10_takeBack_20 : decode cX10_takeBack 20 = .ok (.aload_n 0, 1) := by decide +kernel
theorem dX10_takeBack_21 : decode cX10_takeBack 21 = .ok (.getfield 78, 3) := by decide +kernel
theorem dX10_takeBack_24 : decode cX10_takeBack 24 = .ok (.iconst (-1), 1) := by decide +kernel
theorem dX10_takeBack_25 : decode cX10_takeBack 25 = .ok (.invokevirtual 232, 3) := by decide +kernel
theorem dX10_takeBack_28 : decode cX10_takeBack 28 = .ok (.iload_n 1, 1) := by decide +kernel
theorem dX10_takeBack_29 : decode cX10_takeBack 29 = .ok (.iconst 1, 1) := by decide +kernel
theorem dX10_takeBack_30 : decode cX10_takeBack 30 = .ok (.if_icmp .ne 17, 3) := by decide +kernel
theorem dX10_takeBack_33 : decode cX10_takeBack 33 = .ok (.aload_n 0, 1) := by decide +kernel
theorem dX10_takeBack_34 : decode cX10_takeBack 34 = .ok (.getfield 50, 3) := by decide +kernel
theorem dX10_takeBack_37 : decode cX10_takeBack 37 = .ok (.getfield 90, 3) := by decide +kernel
theorem dX10_takeBack_40 : decode cX10_takeBack 40 = .ok (.iload_n 3, 1) := by decide +kernel
theorem dX10_takeBack_41 : decode cX10_takeBack 41 = .ok (.invokevirtual 229, 3) := by decide +kernel
theorem dX10_takeBack_44 : decode cX10_takeBack 44 = .ok (.goto 36, 3) := by decide +kernel
theorem dX10_takeBack_47 : decode cX10_takeBack 47 = .ok (.iload_n 1, 1) := by decide +kernel
theorem dX10_takeBack_48 : decode cX10_takeBack 48 = .ok (.iconst 2, 1) := by decide +kernel
theorem dX10_takeBack_49 : decode cX10_takeBack 49 = .ok (.if_icmp .ne 15, 3) := by decide +kernel
theorem dX10_takeBack_52 : decode cX10_takeBack 52 = .ok (.aload_n 2, 1) := by decide +kernel
theorem dX10_takeBack_53 : decode cX10_takeBack 53 = .ok (.ifnull 11, 3) := by decide +kernel
theorem dX10_takeBack_56 : decode cX10_takeBack 56 = .ok (.aload_n 2, 1) := by decide +kernel
theorem dX10_takeBack_57 : decode cX10_takeBack 57 = .ok (.iload_n 3, 1) := by decide +kernel
theorem dX10_takeBack_58 : decode cX10_takeBack 58 = .ok (.invokevirtual 280, 3) := by decide +kernel
theorem dX10_takeBack_61 : decode cX10_takeBack 61 = .ok (.goto 19, 3) := by decide +kernel
theorem dX10_takeBack_64 : decode cX10_takeBack 64 = .ok (.iload_n 1, 1) := by decide +kernel
theorem dX10_takeBack_65 : decode cX10_takeBack 65 = .ok (.iconst 3, 1) := by decide +kernel
theorem dX10_takeBack_66 : decode cX10_takeBack 66 = .ok (.if_icmp .ne 14, 3) := by decide +kernel
theorem dX10_takeBack_69 : decode cX10_takeBack 69 = .ok (.aload_n 2, 1) := by decide +kernel
theorem dX10_takeBack_70 : decode cX10_takeBack 70 = .ok (.ifnull 10, 3) := by decide +kernel
theorem dX10_takeBack_73 : decode cX10_takeBack 73 = .ok (.aload_n 2, 1) := by decide +kernel
theorem dX10_takeBack_74 : decode cX10_takeBack 74 = .ok (.sipush 240, 3) := by decide +kernel
theorem dX10_takeBack_77 : decode cX10_takeBack 77 = .ok (.putfield 251, 3) := by decide +kernel
theorem dX10_takeBack_80 : decode cX10_takeBack 80 = .ok (.return_, 1) := by decide +kernel
theorem dX11_thrown_0 : decode cX11_thrown 0 = .ok (.aload_n 0, 1) := by decide +kernel
theorem dX11_thrown_1 : decode cX11_thrown 1 = .ok (.getfield 1, 3) := by decide +kernel
theorem dX11_thrown_4 : decode cX11_thrown 4 = .ok (.ireturn, 1) := by decide +kernel
theorem dX11_refuse_0 : decode cX11_refuse 0 = .ok (.aload_n 0, 1) := by decide +kernel
theorem dX11_refuse_1 : decode cX11_refuse 1 = .ok (.iconst 1, 1) := by decide +kernel
theorem dX11_refuse_2 : decode cX11_refuse 2 = .ok (.putfield 1, 3) := by decide +kernel
theorem dX11_refuse_5 : decode cX11_refuse 5 = .ok (.iconst 0, 1) := by decide +kernel
theorem dX11_refuse_6 : decode cX11_refuse 6 = .ok (.ireturn, 1) := by decide +kernel
theorem dX11_isIn_0 : decode cX11_isIn 0 = .ok (.iload_n 0, 1) := by decide +kernel
theorem dX11_isIn_1 : decode cX11_isIn 1 = .ok (.iload_n 1, 1) := by decide +kernel
theorem dX11_isIn_2 : decode cX11_isIn 2 = .ok (.if_icmp .lt 12, 3) := by decide +kernel
theorem dX11_isIn_5 : decode cX11_isIn 5 = .ok (.iload_n 0, 1) := by decide +kernel
theorem dX11_isIn_6 : decode cX11_isIn 6 = .ok (.iload_n 2, 1) := by decide +kernel
theorem dX11_isIn_7 : decode cX11_isIn 7 = .ok (.if_icmp .gt 7, 3) := by decide +kernel
theorem dX11_isIn_10 : decode cX11_isIn 10 = .ok (.iconst 1, 1) := by decide +kernel
theorem dX11_isIn_11 : decode cX11_isIn 11 = .ok (.goto 4, 3) := by decide +kernel
theorem dX11_isIn_14 : decode cX11_isIn 14 = .ok (.iconst 0, 1) := by decide +kernel
theorem dX11_isIn_15 : decode cX11_isIn 15 = .ok (.ireturn, 1) := by decide +kernel
theorem dX11_lays_0 : decode cX11_lays 0 = .ok (.bipush 24, 2) := by decide +kernel
theorem dX11_lays_2 : decode cX11_lays 2 = .ok (.istore_n 2, 1) := by decide +kernel
theorem dX11_lays_3 : decode cX11_lays 3 = .ok (.iload_n 2, 1) := by decide +kernel
theorem dX11_lays_4 : decode cX11_lays 4 = .ok (.ifCond .lt 35, 3) := by decide +kernel
theorem dX11_lays_7 : decode cX11_lays 7 = .ok (.aload_n 0, 1) := by decide +kernel
theorem dX11_lays_8 : decode cX11_lays 8 = .ok (.getfield 7, 3) := by decide +kernel
theorem dX11_lays_11 : decode cX11_lays 11 = .ok (.aload_n 0, 1) := by decide +kernel
theorem dX11_lays_12 : decode cX11_lays 12 = .ok (.getfield 11, 3) := by decide +kernel
theorem dX11_lays_15 : decode cX11_lays 15 = .ok (.iload_n 1, 1) := by decide +kernel
theorem dX11_lays_16 : decode cX11_lays 16 = .ok (.iload_n 2, 1) := by decide +kernel
theorem dX11_lays_17 : decode cX11_lays 17 = .ok (.iushr, 1) := by decide +kernel
theorem dX11_lays_18 : decode cX11_lays 18 = .ok (.sipush 255, 3) := by decide +kernel
theorem dX11_lays_21 : decode cX11_lays 21 = .ok (.iand, 1) := by decide +kernel
theorem dX11_lays_22 : decode cX11_lays 22 = .ok (.iastore, 1) := by decide +kernel
theorem dX11_lays_23 : decode cX11_lays 23 = .ok (.aload_n 0, 1) := by decide +kernel
theorem dX11_lays_24 : decode cX11_lays 24 = .ok (.dup, 1) := by decide +kernel
theorem dX11_lays_25 : decode cX11_lays 25 = .ok (.getfield 11, 3) := by decide +kernel
theorem dX11_lays_28 : decode cX11_lays 28 = .ok (.iconst 1, 1) := by decide +kernel
theorem dX11_lays_29 : decode cX11_lays 29 = .ok (.iadd, 1) := by decide +kernel
theorem dX11_lays_30 : decode cX11_lays 30 = .ok (.putfield 11, 3) := by decide +kernel
theorem dX11_lays_33 : decode cX11_lays 33 = .ok (.iinc 2 (-8), 3) := by decide +kernel
theorem dX11_lays_36 : decode cX11_lays 36 = .ok (.goto (-33), 3) := by decide +kernel
theorem dX11_lays_39 : decode cX11_lays 39 = .ok (.return_, 1) := by decide +kernel
set_option maxRecDepth 20000 in
theorem ggX11_feed_X11_lays : GoodIn wsX11_feed wsX11_lays := goodIn_r _ [7, 8, 2, 9, 10, 11, 12, 13, 14, 15, 16, 17, 18, 19, 20, 21, 22, 23, 24, 25, 26, 27, 28, 29, 30] (by decide +kernel) (by decide +kernel)
set_option maxRecDepth 20000 in
theorem gX11_feed_X11_lays : GoodIn wsX11_feed (wsV RX11 14 RX11 yX11_lays wsX11_lays) := goodIn_app (goodIn_of _ (by decide +kernel)) ggX11_feed_X11_lays
theorem dX11_feed_0 : decode cX11_feed 0 = .ok (.aload_n 0, 1) := by decide +kernel
theorem dX11_feed_1 : decode cX11_feed 1 = .ok (.iconst 0, 1) := by decide +kernel
theorem dX11_feed_2 : decode cX11_feed 2 = .ok (.putfield 1, 3) := by decide +kernel
theorem dX11_feed_5 : decode cX11_feed 5 = .ok (.aload_n 0, 1) := by decide +kernel
theorem dX11_feed_6 : decode cX11_feed 6 = .ok (.getfield 11, 3) := by decide +kernel
theorem dX11_feed_9 : decode cX11_feed 9 = .ok (.bipush 20, 2) := by decide +kernel
theorem dX11_feed_11 : decode cX11_feed 11 = .ok (.iadd, 1) := by decide +kernel
theorem dX11_feed_12 : decode cX11_feed 12 = .ok (.sipush 640, 3) := by decide +kernel
theorem dX11_feed_15 : decode cX11_feed 15 = .ok (.if_icmp .le 5, 3) := by decide +kernel
theorem dX11_feed_18 : decode cX11_feed 18 = .ok (.iconst (-1), 1) := by decide +kernel
theorem dX11_feed_19 : decode cX11_feed 19 = .ok (.ireturn, 1) := by decide +kernel
theorem dX11_feed_20 : decode cX11_feed 20 = .ok (.aload_n 0, 1) := by decide +kernel
theorem dX11_feed_21 : decode cX11_feed 21 = .ok (.iload_n 1, 1) := by decide +kernel
theorem dX11_feed_22 : decode cX11_feed 22 = .ok (.invokevirtual 14, 3) := by decide +kernel
theorem dX11_feed_25 : decode cX11_feed 25 = .ok (.aload_n 0, 1) := by decide +kernel
theorem dX11_feed_26 : decode cX11_feed 26 = .ok (.iload_n 2, 1) := by decide +kernel
theorem dX11_feed_27 : decode cX11_feed 27 = .ok (.invokevirtual 14, 3) := by decide +kernel
theorem dX11_feed_30 : decode cX11_feed 30 = .ok (.aload_n 0, 1) := by decide +kernel
theorem dX11_feed_31 : decode cX11_feed 31 = .ok (.iload_n 3, 1) := by decide +kernel
theorem dX11_feed_32 : decode cX11_feed 32 = .ok (.invokevirtual 14, 3) := by decide +kernel
theorem dX11_feed_35 : decode cX11_feed 35 = .ok (.aload_n 0, 1) := by decide +kernel
theorem dX11_feed_36 : decode cX11_feed 36 = .ok (.iload 4, 2) := by decide +kernel
theorem dX11_feed_38 : decode cX11_feed 38 = .ok (.invokevirtual 14, 3) := by decide +kernel
theorem dX11_feed_41 : decode cX11_feed 41 = .ok (.aload_n 0, 1) := by decide +kernel
theorem dX11_feed_42 : decode cX11_feed 42 = .ok (.iload 5, 2) := by decide +kernel
theorem dX11_feed_44 : decode cX11_feed 44 = .ok (.invokevirtual 14, 3) := by decide +kernel
theorem dX11_feed_47 : decode cX11_feed 47 = .ok (.aload_n 0, 1) := by decide +kernel
theorem dX11_feed_48 : decode cX11_feed 48 = .ok (.getfield 11, 3) := by decide +kernel
theorem dX11_feed_51 : decode cX11_feed 51 = .ok (.ireturn, 1) := by decide +kernel
theorem dX11_end_0 : decode cX11_end 0 = .ok (.aload_n 0, 1) := by decide +kernel
theorem dX11_end_1 : decode cX11_end 1 = .ok (.iconst 0, 1) := by decide +kernel
theorem dX11_end_2 : decode cX11_end 2 = .ok (.putfield 1, 3) := by decide +kernel
theorem dX11_end_5 : decode cX11_end 5 = .ok (.iload_n 1, 1) := by decide +kernel
theorem dX11_end_6 : decode cX11_end 6 = .ok (.ifCond .lt 11, 3) := by decide +kernel
theorem dX11_end_9 : decode cX11_end 9 = .ok (.iload_n 1, 1) := by decide +kernel
theorem dX11_end_10 : decode cX11_end 10 = .ok (.aload_n 0, 1) := by decide +kernel
theorem dX11_end_11 : decode cX11_end 11 = .ok (.getfield 11, 3) := by decide +kernel
theorem dX11_end_14 : decode cX11_end 14 = .ok (.if_icmp .le 5, 3) := by decide +kernel
theorem dX11_end_17 : decode cX11_end 17 = .ok (.iconst 0, 1) := by decide +kernel
theorem dX11_end_18 : decode cX11_end 18 = .ok (.ireturn, 1) := by decide +kernel
theorem dX11_end_19 : decode cX11_end 19 = .ok (.aload_n 0, 1) := by decide +kernel
theorem dX11_end_20 : decode cX11_end 20 = .ok (.iload_n 1, 1) := by decide +kernel
theorem dX11_end_21 : decode cX11_end 21 = .ok (.putfield 11, 3) := by decide +kernel
theorem dX11_end_24 : decode cX11_end 24 = .ok (.iconst 1, 1) := by decide +kernel
theorem dX11_end_25 : decode cX11_end 25 = .ok (.ireturn, 1) := by decide +kernel
theorem dX11_tapeAt_0 : decode cX11_tapeAt 0 = .ok (.iload_n 1, 1) := by decide +kernel
theorem dX11_tapeAt_1 : decode cX11_tapeAt 1 = .ok (.aload_n 0, 1) := by decide +kernel
theorem dX11_tapeAt_2 : decode cX11_tapeAt 2 = .ok (.getfield 18, 3) := by decide +kernel
theorem dX11_tapeAt_5 : decode cX11_tapeAt 5 = .ok (.if_icmp .ge 12, 3) := by decide +kernel
theorem dX11_tapeAt_8 : decode cX11_tapeAt 8 = .ok (.aload_n 0, 1) := by decide +kernel
theorem dX11_tapeAt_9 : decode cX11_tapeAt 9 = .ok (.getfield 7, 3) := by decide +kernel
theorem dX11_tapeAt_12 : decode cX11_tapeAt 12 = .ok (.iload_n 1, 1) := by decide +kernel
theorem dX11_tapeAt_13 : decode cX11_tapeAt 13 = .ok (.iaload, 1) := by decide +kernel
theorem dX11_tapeAt_14 : decode cX11_tapeAt 14 = .ok (.goto 4, 3) := by decide +kernel
theorem dX11_tapeAt_17 : decode cX11_tapeAt 17 = .ok (.iconst 0, 1) := by decide +kernel
theorem dX11_tapeAt_18 : decode cX11_tapeAt 18 = .ok (.ireturn, 1) := by decide +kernel
theorem dX11_isDigit_0 : decode cX11_isDigit 0 = .ok (.iload_n 0, 1) := by decide +kernel
theorem dX11_isDigit_1 : decode cX11_isDigit 1 = .ok (.bipush 48, 2) := by decide +kernel
theorem dX11_isDigit_3 : decode cX11_isDigit 3 = .ok (.if_icmp .lt 13, 3) := by decide +kernel
theorem dX11_isDigit_6 : decode cX11_isDigit 6 = .ok (.iload_n 0, 1) := by decide +kernel
theorem dX11_isDigit_7 : decode cX11_isDigit 7 = .ok (.bipush 57, 2) := by decide +kernel
theorem dX11_isDigit_9 : decode cX11_isDigit 9 = .ok (.if_icmp .gt 7, 3) := by decide +kernel
theorem dX11_isDigit_12 : decode cX11_isDigit 12 = .ok (.iconst 1, 1) := by decide +kernel
theorem dX11_isDigit_13 : decode cX11_isDigit 13 = .ok (.goto 4, 3) := by decide +kernel
theorem dX11_isDigit_16 : decode cX11_isDigit 16 = .ok (.iconst 0, 1) := by decide +kernel
theorem dX11_isDigit_17 : decode cX11_isDigit 17 = .ok (.ireturn, 1) := by decide +kernel
theorem dX11_isLetter_0 : decode cX11_isLetter 0 = .ok (.iload_n 0, 1) := by decide +kernel
theorem dX11_isLetter_1 : decode cX11_isLetter 1 = .ok (.bipush 97, 2) := by decide +kernel
theorem dX11_isLetter_3 : decode cX11_isLetter 3 = .ok (.if_icmp .lt 13, 3) := by decide +kernel
theorem dX11_isLetter_6 : decode cX11_isLetter 6 = .ok (.iload_n 0, 1) := by decide +kernel
theorem dX11_isLetter_7 : decode cX11_isLetter 7 = .ok (.bipush 122, 2) := by decide +kernel
theorem dX11_isLetter_9 : decode cX11_isLetter 9 = .ok (.if_icmp .gt 7, 3) := by decide +kernel
theorem dX11_isLetter_12 : decode cX11_isLetter 12 = .ok (.iconst 1, 1) := by decide +kernel
theorem dX11_isLetter_13 : decode cX11_isLetter 13 = .ok (.goto 4, 3) := by decide +kernel
theorem dX11_isLetter_16 : decode cX11_isLetter 16 = .ok (.iconst 0, 1) := by decide +kernel
theorem dX11_isLetter_17 : decode cX11_isLetter 17 = .ok (.ireturn, 1) := by decide +kernel
set_option maxRecDepth 20000 in
theorem ggX11_go_X11_isLetter : GoodIn wsX11_go wsX11_isLetter := goodIn_r _ [13] (by decide +kernel) (by decide +kernel)
set_option maxRecDepth 20000 in
theorem gX11_go_X11_isLetter : GoodIn wsX11_go (va_wsS RX11 30 yX11_isLetter wsX11_isLetter) := goodIn_app (goodIn_of _ (by decide +kernel)) ggX11_go_X11_isLetter
set_option maxRecDepth 20000 in
theorem ggX11_go_X11_isDigit : GoodIn wsX11_go wsX11_isDigit := goodIn_r _ [16] (by decide +kernel) (by decide +kernel)
set_option maxRecDepth 20000 in
theorem gX11_go_X11_isDigit : GoodIn wsX11_go (va_wsS RX11 34 yX11_isDigit wsX11_isDigit) := goodIn_app (goodIn_of _ (by decide +kernel)) ggX11_go_X11_isDigit
set_option maxRecDepth 20000 in
theorem ggX11_go_X11_tapeAt : GoodIn wsX11_go wsX11_tapeAt := goodIn_r _ [20, 2, 3, 21, 22, 23, 24, 25, 26, 27, 28, 29, 30, 31, 32, 33, 34, 35, 36, 37, 38, 39, 40, 41, 42] (by decide +kernel) (by decide +kernel)
set_option maxRecDepth 20000 in
theorem gX11_go_X11_tapeAt : GoodIn wsX11_go (wsV RX11 44 RX11 yX11_tapeAt wsX11_tapeAt) := goodIn_app (goodIn_of _ (by decide +kernel)) ggX11_go_X11_tapeAt
theorem dX11_go_0 : decode cX11_go 0 = .ok (.aload_n 0, 1) := by decide +kernel
theorem dX11_go_1 : decode cX11_go 1 = .ok (.getfield 21, 3) := by decide +kernel
theorem dX11_go_4 : decode cX11_go 4 = .ok (.aload_n 0, 1) := by decide +kernel
theorem dX11_go_5 : decode cX11_go 5 = .ok (.getfield 18, 3) := by decide +kernel
theorem dX11_go_8 : decode cX11_go 8 = .ok (.if_icmp .ge 44, 3) := by decide +kernel
theorem dX11_go_11 : decode cX11_go 11 = .ok (.aload_n 0, 1) := by decide +kernel
theorem dX11_go_12 : decode cX11_go 12 = .ok (.getfield 7, 3) := by decide +kernel
theorem dX11_go_15 : decode cX11_go 15 = .ok (.aload_n 0, 1) := by decide +kernel
theorem dX11_go_16 : decode cX11_go 16 = .ok (.getfield 21, 3) := by decide +kernel
theorem dX11_go_19 : decode cX11_go 19 = .ok (.iaload, 1) := by decide +kernel
theorem dX11_go_20 : decode cX11_go 20 = .ok (.bipush 32, 2) := by decide +kernel
theorem dX11_go_22 : decode cX11_go 22 = .ok (.if_icmp .eq 17, 3) := by decide +kernel
theorem dX11_go_25 : decode cX11_go 25 = .ok (.aload_n 0, 1) := by decide +kernel
theorem dX11_go_26 : decode cX11_go 26 = .ok (.getfield 7, 3) := by decide +kernel
theorem dX11_go_29 : decode cX11_go 29 = .ok (.aload_n 0, 1) := by decide +kernel
theorem dX11_go_30 : decode cX11_go 30 = .ok (.getfield 21, 3) := by decide +kernel
theorem dX11_go_33 : decode cX11_go 33 = .ok (.iaload, 1) := by decide +kernel
theorem dX11_go_34 : decode cX11_go 34 = .ok (.bipush 10, 2) := by decide +kernel
theorem dX11_go_36 : decode cX11_go 36 = .ok (.if_icmp .ne 16, 3) := by decide +kernel
theorem dX11_go_39 : decode cX11_go 39 = .ok (.aload_n 0, 1) := by decide +kernel
theorem dX11_go_40 : decode cX11_go 40 = .ok (.dup, 1) := by decide +kernel
theorem dX11_go_41 : decode cX11_go 41 = .ok (.getfield 21, 3) := by decide +kernel
theorem dX11_go_44 : decode cX11_go 44 = .ok (.iconst 1, 1) := by decide +kernel
theorem dX11_go_45 : decode cX11_go 45 = .ok (.iadd, 1) := by decide +kernel
theorem dX11_go_46 : decode cX11_go 46 = .ok (.putfield 21, 3) := by decide +kernel
theorem dX11_go_49 : decode cX11_go 49 = .ok (.goto (-49), 3) := by decide +kernel
theorem dX11_go_52 : decode cX11_go 52 = .ok (.aload_n 0, 1) := by decide +kernel
theorem dX11_go_53 : decode cX11_go 53 = .ok (.aload_n 0, 1) := by decide +kernel
theorem dX11_go_54 : decode cX11_go 54 = .ok (.getfield 21, 3) := by decide +kernel
theorem dX11_go_57 : decode cX11_go 57 = .ok (.putfield 24, 3) := by decide +kernel
theorem dX11_go_60 : decode cX11_go 60 = .ok (.aload_n 0, 1) := by decide +kernel
theorem dX11_go_61 : decode cX11_go 61 = .ok (.getfield 18, 3) := by decide +kernel
theorem dX11_go_64 : decode cX11_go 64 = .ok (.sipush 600, 3) := by decide +kernel
theorem dX11_go_67 : decode cX11_go 67 = .ok (.if_icmp .le 26, 3) := by decide +kernel
theorem dX11_go_70 : decode cX11_go 70 = .ok (.aload_n 0, 1) := by decide +kernel
theorem dX11_go_71 : decode cX11_go 71 = .ok (.getfield 24, 3) := by decide +kernel
theorem dX11_go_74 : decode cX11_go 74 = .ok (.sipush 600, 3) := by decide +kernel
theorem dX11_go_77 : decode cX11_go 77 = .ok (.if_icmp .lt 16, 3) := by decide +kernel
theorem dX11_go_80 : decode cX11_go 80 = .ok (.aload_n 0, 1) := by decide +kernel
theorem dX11_go_81 : decode cX11_go 81 = .ok (.sipush 600, 3) := by decide +kernel
theorem dX11_go_84 : decode cX11_go 84 = .ok (.putfield 24, 3) := by decide +kernel
theorem dX11_go_87 : decode cX11_go 87 = .ok (.aload_n 0, 1) := by decide +kernel
theorem dX11_go_88 : decode cX11_go 88 = .ok (.iconst 1, 1) := by decide +kernel
theorem dX11_go_89 : decode cX11_go 89 = .ok (.putfield 27, 3) := by decide +kernel
theorem dX11_go_92 : decode cX11_go 92 = .ok (.return_, 1) := by decide +kernel
theorem dX11_go_93 : decode cX11_go 93 = .ok (.aload_n 0, 1) := by decide +kernel
theorem dX11_go_94 : decode cX11_go 94 = .ok (.getfield 21, 3) := by decide +kernel
theorem dX11_go_97 : decode cX11_go 97 = .ok (.aload_n 0, 1) := by decide +kernel
theorem dX11_go_98 : decode cX11_go 98 = .ok (.getfield 18, 3) := by decide +kernel
theorem dX11_go_101 : decode cX11_go 101 = .ok (.if_icmp .lt 9, 3) := by decide +kernel
theorem dX11_go_104 : decode cX11_go 104 = .ok (.aload_n 0, 1) := by decide +kernel
theorem dX11_go_105 : decode cX11_go 105 = .ok (.iconst 0, 1) := by decide +kernel
theorem dX11_go_106 : decode cX11_go 106 = .ok (.putfield 27, 3) := by decide +kernel
theorem dX11_go_109 : decode cX11_go 109 = .ok (.return_, 1) := by decide +kernel
theorem dX11_go_110 : decode cX11_go 110 = .ok (.aload_n 0, 1) := by decide +kernel
theorem dX11_go_111 : decode cX11_go 111 = .ok (.getfield 7, 3) := by decide +kernel
theorem dX11_go_114 : decode cX11_go 114 = .ok (.aload_n 0, 1) := by decide +kernel
theorem dX11_go_115 : decode cX11_go 115 = .ok (.getfield 21, 3) := by decide +kernel
theorem dX11_go_118 : decode cX11_go 118 = .ok (.iaload, 1) := by decide +kernel
theorem dX11_go_119 : decode cX11_go 119 = .ok (.istore_n 1, 1) := by decide +kernel
theorem dX11_go_120 : decode cX11_go 120 = .ok (.iload_n 1, 1) := by decide +kernel
theorem dX11_go_121 : decode cX11_go 121 = .ok (.invokestatic 30, 3) := by decide +kernel
theorem dX11_go_124 : decode cX11_go 124 = .ok (.ifCond .ne 36, 3) := by decide +kernel
theorem dX11_go_127 : decode cX11_go 127 = .ok (.iload_n 1, 1) := by decide +kernel
theorem dX11_go_128 : decode cX11_go 128 = .ok (.invokestatic 34, 3) := by decide +kernel
theorem dX11_go_131 : decode cX11_go 131 = .ok (.ifCond .ne 29, 3) := by decide +kernel
theorem dX11_go_134 : decode cX11_go 134 = .ok (.aload_n 0, 1) := by decide +kernel
theorem dX11_go_135 : decode cX11_go 135 = .ok (.iload_n 1, 1) := by decide +kernel
theorem dX11_go_136 : decode cX11_go 136 = .ok (.bipush 59, 2) := by decide +kernel
theorem dX11_go_138 : decode cX11_go 138 = .ok (.if_icmp .ne 7, 3) := by decide +kernel
theorem dX11_go_141 : decode cX11_go 141 = .ok (.iconst 4, 1) := by decide +kernel
theorem dX11_go_142 : decode cX11_go 142 = .ok (.goto 4, 3) := by decide +kernel
theorem dX11_go_145 : decode cX11_go 145 = .ok (.iconst 1, 1) := by decide +kernel
theorem dX11_go_146 : decode cX11_go 146 = .ok (.putfield 27, 3) := by decide +kernel
theorem dX11_go_149 : decode cX11_go 149 = .ok (.aload_n 0, 1) := by decide +kernel
theorem dX11_go_150 : decode cX11_go 150 = .ok (.dup, 1) := by decide +kernel
theorem dX11_go_151 : decode cX11_go 151 = .ok (.getfield 21, 3) := by decide +kernel
theorem dX11_go_154 : decode cX11_go 154 = .ok (.iconst 1, 1) := by decide +kernel
theorem dX11_go_155 : decode cX11_go 155 = .ok (.iadd, 1) := by decide +kernel
theorem dX11_go_156 : decode cX11_go 156 = .ok (.putfield 21, 3) := by decide +kernel
theorem dX11_go_159 : decode cX11_go 159 = .ok (.return_, 1) := by decide +kernel
theorem dX11_go_160 : decode cX11_go 160 = .ok (.iload_n 1, 1) := by decide +kernel
theorem dX11_go_161 : decode cX11_go 161 = .ok (.invokestatic 30, 3) := by decide +kernel
theorem dX11_go_164 : decode cX11_go 164 = .ok (.istore_n 2, 1) := by decide +kernel
theorem dX11_go_165 : decode cX11_go 165 = .ok (.iconst 1, 1) := by decide +kernel
theorem dX11_go_166 : decode cX11_go 166 = .ok (.istore_n 3, 1) := by decide +kernel
theorem dX11_go_167 : decode cX11_go 167 = .ok (.aload_n 0, 1) := by decide +kernel
theorem dX11_go_168 : decode cX11_go 168 = .ok (.lconst 0, 1) := by decide +kernel
theorem dX11_go_169 : decode cX11_go 169 = .ok (.putfield 37, 3) := by decide +kernel
theorem dX11_go_172 : decode cX11_go 172 = .ok (.aload_n 0, 1) := by decide +kernel
theorem dX11_go_173 : decode cX11_go 173 = .ok (.iconst 0, 1) := by decide +kernel
theorem dX11_go_174 : decode cX11_go 174 = .ok (.putfield 41, 3) := by decide +kernel
theorem dX11_go_177 : decode cX11_go 177 = .ok (.aload_n 0, 1) := by decide +kernel
theorem dX11_go_178 : decode cX11_go 178 = .ok (.aload_n 0, 1) := by decide +kernel
theorem dX11_go_179 : decode cX11_go 179 = .ok (.getfield 21, 3) := by decide +kernel
theorem dX11_go_182 : decode cX11_go 182 = .ok (.invokevirtual 44, 3) := by decide +kernel
theorem dX11_go_185 : decode cX11_go 185 = .ok (.invokestatic 30, 3) := by decide +kernel
theorem dX11_go_188 : decode cX11_go 188 = .ok (.ifCond .ne 17, 3) := by decide +kernel
theorem dX11_go_191 : decode cX11_go 191 = .ok (.aload_n 0, 1) := by decide +kernel
theorem dX11_go_192 : decode cX11_go 192 = .ok (.aload_n 0, 1) := by decide +kernel
theorem dX11_go_193 : decode cX11_go 193 = .ok (.getfield 21, 3) := by decide +kernel
theorem dX11_go_196 : decode cX11_go 196 = .ok (.invokevirtual 44, 3) := by decide +kernel
theorem dX11_go_199 : decode cX11_go 199 = .ok (.invokestatic 34, 3) := by decide +kernel
theorem dX11_go_202 : decode cX11_go 202 = .ok (.ifCond .eq 110, 3) := by decide +kernel
theorem dX11_go_205 : decode cX11_go 205 = .ok (.aload_n 0, 1) := by decide +kernel
theorem dX11_go_206 : decode cX11_go 206 = .ok (.getfield 7, 3) := by decide +kernel
theorem dX11_go_209 : decode cX11_go 209 = .ok (.aload_n 0, 1) := by decide +kernel
theorem dX11_go_210 : decode cX11_go 210 = .ok (.getfield 21, 3) := by decide +kernel
theorem dX11_go_213 : decode cX11_go 213 = .ok (.iaload, 1) := by decide +kernel
theorem dX11_go_214 : decode cX11_go 214 = .ok (.istore 4, 2) := by decide +kernel
theorem dX11_go_216 : decode cX11_go 216 = .ok (.iload_n 3, 1) := by decide +kernel
theorem dX11_go_217 : decode cX11_go 217 = .ok (.ifCond .eq 16, 3) := by decide +kernel
theorem dX11_go_220 : decode cX11_go 220 = .ok (.iload 4, 2) := by decide +kernel
theorem dX11_go_222 : decode cX11_go 222 = .ok (.invokestatic 30, 3) := by decide +kernel
theorem dX11_go_225 : decode cX11_go 225 = .ok (.iload_n 2, 1) := by decide +kernel
theorem dX11_go_226 : decode cX11_go 226 = .ok (.if_icmp .ne 7, 3) := by decide +kernel
theorem dX11_go_229 : decode cX11_go 229 = .ok (.iconst 1, 1) := by decide +kernel
