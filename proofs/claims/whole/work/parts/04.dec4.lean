theorem dX11_review_13 : decode cX11_review 13 = .ok (.iload_n 2, 1) := by decide +kernel
theorem dX11_review_14 : decode cX11_review 14 = .ok (.iconst 1, 1) := by decide +kernel
theorem dX11_review_15 : decode cX11_review 15 = .ok (.aload_n 0, 1) := by decide +kernel
theorem dX11_review_16 : decode cX11_review 16 = .ok (.iload_n 1, 1) := by decide +kernel
theorem dX11_review_17 : decode cX11_review 17 = .ok (.invokevirtual 199, 3) := by decide +kernel
theorem dX11_review_20 : decode cX11_review 20 = .ok (.invokestatic 114, 3) := by decide +kernel
theorem dX11_review_23 : decode cX11_review 23 = .ok (.ifCond .eq 20, 3) := by decide +kernel
theorem dX11_review_26 : decode cX11_review 26 = .ok (.iload_n 3, 1) := by decide +kernel
theorem dX11_review_27 : decode cX11_review 27 = .ok (.invokestatic 170, 3) := by decide +kernel
theorem dX11_review_30 : decode cX11_review 30 = .ok (.ifCond .eq 13, 3) := by decide +kernel
theorem dX11_review_33 : decode cX11_review 33 = .ok (.iload 4, 2) := by decide +kernel
theorem dX11_review_35 : decode cX11_review 35 = .ok (.iconst 0, 1) := by decide +kernel
theorem dX11_review_36 : decode cX11_review 36 = .ok (.iconst 4, 1) := by decide +kernel
theorem dX11_review_37 : decode cX11_review 37 = .ok (.invokestatic 114, 3) := by decide +kernel
theorem dX11_review_40 : decode cX11_review 40 = .ok (.ifCond .ne 6, 3) := by decide +kernel
theorem dX11_review_43 : decode cX11_review 43 = .ok (.ldc 230, 2) := by decide +kernel
theorem dX11_review_45 : decode cX11_review 45 = .ok (.ireturn, 1) := by decide +kernel
theorem dX11_review_46 : decode cX11_review 46 = .ok (.aload_n 0, 1) := by decide +kernel
theorem dX11_review_47 : decode cX11_review 47 = .ok (.iload_n 1, 1) := by decide +kernel
theorem dX11_review_48 : decode cX11_review 48 = .ok (.iload_n 3, 1) := by decide +kernel
theorem dX11_review_49 : decode cX11_review 49 = .ok (.invokevirtual 226, 3) := by decide +kernel
theorem dX11_review_52 : decode cX11_review 52 = .ok (.iload 4, 2) := by decide +kernel
theorem dX11_review_54 : decode cX11_review 54 = .ok (.ifCond .ne 10, 3) := by decide +kernel
theorem dX11_review_57 : decode cX11_review 57 = .ok (.aload_n 0, 1) := by decide +kernel
theorem dX11_review_58 : decode cX11_review 58 = .ok (.iload_n 1, 1) := by decide +kernel
theorem dX11_review_59 : decode cX11_review 59 = .ok (.iload_n 2, 1) := by decide +kernel
theorem dX11_review_60 : decode cX11_review 60 = .ok (.invokevirtual 184, 3) := by decide +kernel
theorem dX11_review_63 : decode cX11_review 63 = .ok (.ireturn, 1) := by decide +kernel
theorem dX11_review_64 : decode cX11_review 64 = .ok (.iload 4, 2) := by decide +kernel
theorem dX11_review_66 : decode cX11_review 66 = .ok (.iconst 3, 1) := by decide +kernel
theorem dX11_review_67 : decode cX11_review 67 = .ok (.if_icmp .ge 26, 3) := by decide +kernel
theorem dX11_review_70 : decode cX11_review 70 = .ok (.iload 4, 2) := by decide +kernel
theorem dX11_review_72 : decode cX11_review 72 = .ok (.iconst 1, 1) := by decide +kernel
theorem dX11_review_73 : decode cX11_review 73 = .ok (.if_icmp .ne 12, 3) := by decide +kernel
theorem dX11_review_76 : decode cX11_review 76 = .ok (.aload_n 0, 1) := by decide +kernel
theorem dX11_review_77 : decode cX11_review 77 = .ok (.getfield 92, 3) := by decide +kernel
theorem dX11_review_80 : decode cX11_review 80 = .ok (.iload_n 2, 1) := by decide +kernel
theorem dX11_review_81 : decode cX11_review 81 = .ok (.laload, 1) := by decide +kernel
theorem dX11_review_82 : decode cX11_review 82 = .ok (.goto 9, 3) := by decide +kernel
theorem dX11_review_85 : decode cX11_review 85 = .ok (.aload_n 0, 1) := by decide +kernel
theorem dX11_review_86 : decode cX11_review 86 = .ok (.getfield 96, 3) := by decide +kernel
theorem dX11_review_89 : decode cX11_review 89 = .ok (.iload_n 2, 1) := by decide +kernel
theorem dX11_review_90 : decode cX11_review 90 = .ok (.laload, 1) := by decide +kernel
theorem dX11_review_91 : decode cX11_review 91 = .ok (.l2i, 1) := by decide +kernel
theorem dX11_review_92 : decode cX11_review 92 = .ok (.ireturn, 1) := by decide +kernel
theorem dX11_review_93 : decode cX11_review 93 = .ok (.aload_n 0, 1) := by decide +kernel
theorem dX11_review_94 : decode cX11_review 94 = .ok (.iload_n 1, 1) := by decide +kernel
theorem dX11_review_95 : decode cX11_review 95 = .ok (.iconst 4, 1) := by decide +kernel
theorem dX11_review_96 : decode cX11_review 96 = .ok (.invokevirtual 194, 3) := by decide +kernel
theorem dX11_review_99 : decode cX11_review 99 = .ok (.ifCond .ne 7, 3) := by decide +kernel
theorem dX11_review_102 : decode cX11_review 102 = .ok (.iconst (-1), 1) := by decide +kernel
theorem dX11_review_103 : decode cX11_review 103 = .ok (.goto 25, 3) := by decide +kernel
theorem dX11_review_106 : decode cX11_review 106 = .ok (.iload 4, 2) := by decide +kernel
theorem dX11_review_108 : decode cX11_review 108 = .ok (.iconst 3, 1) := by decide +kernel
theorem dX11_review_109 : decode cX11_review 109 = .ok (.if_icmp .ne 12, 3) := by decide +kernel
theorem dX11_review_112 : decode cX11_review 112 = .ok (.aload_n 0, 1) := by decide +kernel
theorem dX11_review_113 : decode cX11_review 113 = .ok (.getfield 99, 3) := by decide +kernel
theorem dX11_review_116 : decode cX11_review 116 = .ok (.iload_n 2, 1) := by decide +kernel
theorem dX11_review_117 : decode cX11_review 117 = .ok (.laload, 1) := by decide +kernel
theorem dX11_review_118 : decode cX11_review 118 = .ok (.goto 9, 3) := by decide +kernel
theorem dX11_review_121 : decode cX11_review 121 = .ok (.aload_n 0, 1) := by decide +kernel
theorem dX11_review_122 : decode cX11_review 122 = .ok (.getfield 102, 3) := by decide +kernel
theorem dX11_review_125 : decode cX11_review 125 = .ok (.iload_n 2, 1) := by decide +kernel
theorem dX11_review_126 : decode cX11_review 126 = .ok (.laload, 1) := by decide +kernel
theorem dX11_review_127 : decode cX11_review 127 = .ok (.l2i, 1) := by decide +kernel
theorem dX11_review_128 : decode cX11_review 128 = .ok (.ireturn, 1) := by decide +kernel
set_option maxRecDepth 20000 in
theorem ggX11_billed_X11_isOf : GoodIn wsX11_billed wsX11_isOf := goodIn_r _ [6, 7, 8, 9, 5, 10, 11, 12, 13, 14, 15, 16, 17, 18, 19, 20, 21, 22, 85, 86, 87, 88, 89, 90, 91, 92, 93, 94, 95, 96, 97, 98, 99, 100, 101, 102, 103, 104, 105, 106] (by decide +kernel) (by decide +kernel)
set_option maxRecDepth 20000 in
theorem gX11_billed_X11_isOf : GoodIn wsX11_billed (wsV RX11 223 RX11 yX11_isOf wsX11_isOf) := goodIn_app (goodIn_of _ (by decide +kernel)) ggX11_billed_X11_isOf
set_option maxRecDepth 20000 in
theorem ggX11_billed_X11_endOf : GoodIn wsX11_billed wsX11_endOf := goodIn_r _ [26, 15, 16, 17, 5, 18, 11, 19, 20, 21, 22, 85, 86, 87, 88, 89, 90, 91, 92, 93, 94, 95, 96, 97, 98, 99, 100, 101, 102, 103, 104, 105, 106] (by decide +kernel) (by decide +kernel)
set_option maxRecDepth 20000 in
theorem gX11_billed_X11_endOf : GoodIn wsX11_billed (wsV RX11 220 RX11 yX11_endOf wsX11_endOf) := goodIn_app (goodIn_of _ (by decide +kernel)) ggX11_billed_X11_endOf
set_option maxRecDepth 20000 in
theorem ggX11_billed_X11_laysRents : GoodIn wsX11_billed wsX11_laysRents := goodIn_r _ [30, 31, 32, 33, 34, 35, 36, 37, 15, 16, 17, 5, 18, 11, 38, 39, 40, 41, 42, 43, 44, 45, 46, 47, 48, 49, 50, 51, 52, 53, 54, 55, 56, 57, 58, 59, 60, 61, 62, 63, 64, 12, 13, 14, 65, 66, 67, 68, 69, 70, 71, 72, 73, 74, 75, 76, 85, 86, 87, 88, 89, 90, 91, 92, 93, 94, 95, 96, 97, 98, 99, 100, 101, 102, 103, 104, 105, 106] (by decide +kernel) (by decide +kernel)
set_option maxRecDepth 20000 in
theorem gX11_billed_X11_laysRents : GoodIn wsX11_billed (wsV RX11 226 RX11 yX11_laysRents wsX11_laysRents) := goodIn_app (goodIn_of _ (by decide +kernel)) ggX11_billed_X11_laysRents
set_option maxRecDepth 20000 in
theorem ggX11_billed_X11_dueLaid : GoodIn wsX11_billed wsX11_dueLaid := goodIn_r _ [80, 15, 16, 17, 5, 18, 11, 81, 82, 83, 84, 31, 38, 39, 40, 41, 85, 86, 87, 88, 89, 90, 91, 92, 93, 94, 95, 96, 97, 98, 99, 100, 101, 102, 103, 104, 105, 106] (by decide +kernel) (by decide +kernel)
set_option maxRecDepth 20000 in
theorem gX11_billed_X11_dueLaid : GoodIn wsX11_billed (wsV RX11 231 RX11 yX11_dueLaid wsX11_dueLaid) := goodIn_app (goodIn_of _ (by decide +kernel)) ggX11_billed_X11_dueLaid
theorem dX11_billed_0 : decode cX11_billed 0 = .ok (.aload_n 0, 1) := by decide +kernel
theorem dX11_billed_1 : decode cX11_billed 1 = .ok (.iconst 0, 1) := by decide +kernel
theorem dX11_billed_2 : decode cX11_billed 2 = .ok (.putfield 1, 3) := by decide +kernel
theorem dX11_billed_5 : decode cX11_billed 5 = .ok (.aload_n 0, 1) := by decide +kernel
theorem dX11_billed_6 : decode cX11_billed 6 = .ok (.iload_n 1, 1) := by decide +kernel
theorem dX11_billed_7 : decode cX11_billed 7 = .ok (.iload_n 2, 1) := by decide +kernel
theorem dX11_billed_8 : decode cX11_billed 8 = .ok (.invokevirtual 223, 3) := by decide +kernel
theorem dX11_billed_11 : decode cX11_billed 11 = .ok (.ifCond .eq 13, 3) := by decide +kernel
theorem dX11_billed_14 : decode cX11_billed 14 = .ok (.iload_n 2, 1) := by decide +kernel
theorem dX11_billed_15 : decode cX11_billed 15 = .ok (.aload_n 0, 1) := by decide +kernel
theorem dX11_billed_16 : decode cX11_billed 16 = .ok (.iload_n 1, 1) := by decide +kernel
theorem dX11_billed_17 : decode cX11_billed 17 = .ok (.iload_n 2, 1) := by decide +kernel
theorem dX11_billed_18 : decode cX11_billed 18 = .ok (.invokevirtual 220, 3) := by decide +kernel
theorem dX11_billed_21 : decode cX11_billed 21 = .ok (.if_icmp .lt 5, 3) := by decide +kernel
theorem dX11_billed_24 : decode cX11_billed 24 = .ok (.iconst (-1), 1) := by decide +kernel
theorem dX11_billed_25 : decode cX11_billed 25 = .ok (.ireturn, 1) := by decide +kernel
theorem dX11_billed_26 : decode cX11_billed 26 = .ok (.aload_n 0, 1) := by decide +kernel
theorem dX11_billed_27 : decode cX11_billed 27 = .ok (.iload_n 1, 1) := by decide +kernel
theorem dX11_billed_28 : decode cX11_billed 28 = .ok (.iload_n 2, 1) := by decide +kernel
theorem dX11_billed_29 : decode cX11_billed 29 = .ok (.invokevirtual 226, 3) := by decide +kernel
theorem dX11_billed_32 : decode cX11_billed 32 = .ok (.aload_n 0, 1) := by decide +kernel
theorem dX11_billed_33 : decode cX11_billed 33 = .ok (.iload_n 1, 1) := by decide +kernel
theorem dX11_billed_34 : decode cX11_billed 34 = .ok (.iload_n 2, 1) := by decide +kernel
theorem dX11_billed_35 : decode cX11_billed 35 = .ok (.invokevirtual 231, 3) := by decide +kernel
theorem dX11_billed_38 : decode cX11_billed 38 = .ok (.ireturn, 1) := by decide +kernel
set_option maxRecDepth 20000 in
theorem ggX11_truedIn_X11_its : GoodIn wsX11_truedIn wsX11_its := goodIn_r _ [8, 2, 78, 79, 80, 81, 82, 83, 84, 85, 86, 87, 88, 89, 90, 91, 92, 93, 94, 95, 96, 97, 98, 99] (by decide +kernel) (by decide +kernel)
set_option maxRecDepth 20000 in
theorem gX11_truedIn_X11_its : GoodIn wsX11_truedIn (wsV RX11 163 RX11 yX11_its wsX11_its) := goodIn_app (goodIn_of _ (by decide +kernel)) ggX11_truedIn_X11_its
set_option maxRecDepth 20000 in
theorem ggX11_truedIn_X11_endOf : GoodIn wsX11_truedIn wsX11_endOf := goodIn_r _ [12, 4, 5, 6, 7, 8, 2, 13, 14, 15, 16, 78, 79, 80, 81, 82, 83, 84, 85, 86, 87, 88, 89, 90, 91, 92, 93, 94, 95, 96, 97, 98, 99] (by decide +kernel) (by decide +kernel)
set_option maxRecDepth 20000 in
theorem gX11_truedIn_X11_endOf : GoodIn wsX11_truedIn (wsV RX11 220 RX11 yX11_endOf wsX11_endOf) := goodIn_app (goodIn_of _ (by decide +kernel)) ggX11_truedIn_X11_endOf
set_option maxRecDepth 20000 in
theorem ggX11_truedIn_X11_laysRents : GoodIn wsX11_truedIn wsX11_laysRents := goodIn_r _ [20, 21, 22, 23, 24, 25, 26, 27, 4, 5, 6, 7, 8, 2, 28, 29, 30, 31, 32, 33, 34, 35, 36, 37, 38, 39, 40, 41, 42, 43, 44, 45, 46, 47, 48, 49, 50, 51, 52, 53, 54, 55, 56, 57, 58, 59, 60, 61, 62, 63, 64, 65, 66, 67, 68, 69, 78, 79, 80, 81, 82, 83, 84, 85, 86, 87, 88, 89, 90, 91, 92, 93, 94, 95, 96, 97, 98, 99] (by decide +kernel) (by decide +kernel)
set_option maxRecDepth 20000 in
theorem gX11_truedIn_X11_laysRents : GoodIn wsX11_truedIn (wsV RX11 226 RX11 yX11_laysRents wsX11_laysRents) := goodIn_app (goodIn_of _ (by decide +kernel)) ggX11_truedIn_X11_laysRents
set_option maxRecDepth 20000 in
theorem ggX11_truedIn_X11_dueLaid : GoodIn wsX11_truedIn wsX11_dueLaid := goodIn_r _ [73, 4, 5, 6, 7, 8, 2, 74, 75, 76, 77, 21, 28, 29, 30, 31, 78, 79, 80, 81, 82, 83, 84, 85, 86, 87, 88, 89, 90, 91, 92, 93, 94, 95, 96, 97, 98, 99] (by decide +kernel) (by decide +kernel)
set_option maxRecDepth 20000 in
theorem gX11_truedIn_X11_dueLaid : GoodIn wsX11_truedIn (wsV RX11 231 RX11 yX11_dueLaid wsX11_dueLaid) := goodIn_app (goodIn_of _ (by decide +kernel)) ggX11_truedIn_X11_dueLaid
theorem dX11_truedIn_0 : decode cX11_truedIn 0 = .ok (.aload_n 0, 1) := by decide +kernel
theorem dX11_truedIn_1 : decode cX11_truedIn 1 = .ok (.iload_n 1, 1) := by decide +kernel
theorem dX11_truedIn_2 : decode cX11_truedIn 2 = .ok (.iconst 0, 1) := by decide +kernel
theorem dX11_truedIn_3 : decode cX11_truedIn 3 = .ok (.invokevirtual 163, 3) := by decide +kernel
theorem dX11_truedIn_6 : decode cX11_truedIn 6 = .ok (.istore 4, 2) := by decide +kernel
theorem dX11_truedIn_8 : decode cX11_truedIn 8 = .ok (.aload_n 0, 1) := by decide +kernel
theorem dX11_truedIn_9 : decode cX11_truedIn 9 = .ok (.iload_n 1, 1) := by decide +kernel
theorem dX11_truedIn_10 : decode cX11_truedIn 10 = .ok (.iload_n 2, 1) := by decide +kernel
theorem dX11_truedIn_11 : decode cX11_truedIn 11 = .ok (.invokevirtual 220, 3) := by decide +kernel
theorem dX11_truedIn_14 : decode cX11_truedIn 14 = .ok (.iload_n 2, 1) := by decide +kernel
theorem dX11_truedIn_15 : decode cX11_truedIn 15 = .ok (.if_icmp .ge 12, 3) := by decide +kernel
theorem dX11_truedIn_18 : decode cX11_truedIn 18 = .ok (.aload_n 0, 1) := by decide +kernel
theorem dX11_truedIn_19 : decode cX11_truedIn 19 = .ok (.iload_n 1, 1) := by decide +kernel
theorem dX11_truedIn_20 : decode cX11_truedIn 20 = .ok (.iload_n 2, 1) := by decide +kernel
theorem dX11_truedIn_21 : decode cX11_truedIn 21 = .ok (.invokevirtual 220, 3) := by decide +kernel
theorem dX11_truedIn_24 : decode cX11_truedIn 24 = .ok (.goto 4, 3) := by decide +kernel
theorem dX11_truedIn_27 : decode cX11_truedIn 27 = .ok (.iload_n 2, 1) := by decide +kernel
theorem dX11_truedIn_28 : decode cX11_truedIn 28 = .ok (.istore 5, 2) := by decide +kernel
theorem dX11_truedIn_30 : decode cX11_truedIn 30 = .ok (.aload_n 0, 1) := by decide +kernel
theorem dX11_truedIn_31 : decode cX11_truedIn 31 = .ok (.iload_n 1, 1) := by decide +kernel
theorem dX11_truedIn_32 : decode cX11_truedIn 32 = .ok (.iload_n 2, 1) := by decide +kernel
theorem dX11_truedIn_33 : decode cX11_truedIn 33 = .ok (.iconst 1, 1) := by decide +kernel
theorem dX11_truedIn_34 : decode cX11_truedIn 34 = .ok (.isub, 1) := by decide +kernel
theorem dX11_truedIn_35 : decode cX11_truedIn 35 = .ok (.invokevirtual 226, 3) := by decide +kernel
theorem dX11_truedIn_38 : decode cX11_truedIn 38 = .ok (.iload 4, 2) := by decide +kernel
theorem dX11_truedIn_40 : decode cX11_truedIn 40 = .ok (.istore 6, 2) := by decide +kernel
theorem dX11_truedIn_42 : decode cX11_truedIn 42 = .ok (.iload 6, 2) := by decide +kernel
theorem dX11_truedIn_44 : decode cX11_truedIn 44 = .ok (.iload 5, 2) := by decide +kernel
theorem dX11_truedIn_46 : decode cX11_truedIn 46 = .ok (.if_icmp .ge 26, 3) := by decide +kernel
theorem dX11_truedIn_49 : decode cX11_truedIn 49 = .ok (.aload_n 0, 1) := by decide +kernel
theorem dX11_truedIn_50 : decode cX11_truedIn 50 = .ok (.getfield 105, 3) := by decide +kernel
theorem dX11_truedIn_53 : decode cX11_truedIn 53 = .ok (.iload 6, 2) := by decide +kernel
theorem dX11_truedIn_55 : decode cX11_truedIn 55 = .ok (.iload 4, 2) := by decide +kernel
theorem dX11_truedIn_57 : decode cX11_truedIn 57 = .ok (.isub, 1) := by decide +kernel
theorem dX11_truedIn_58 : decode cX11_truedIn 58 = .ok (.aload_n 0, 1) := by decide +kernel
theorem dX11_truedIn_59 : decode cX11_truedIn 59 = .ok (.iload_n 1, 1) := by decide +kernel
theorem dX11_truedIn_60 : decode cX11_truedIn 60 = .ok (.iload 6, 2) := by decide +kernel
theorem dX11_truedIn_62 : decode cX11_truedIn 62 = .ok (.invokevirtual 231, 3) := by decide +kernel
theorem dX11_truedIn_65 : decode cX11_truedIn 65 = .ok (.iastore, 1) := by decide +kernel
theorem dX11_truedIn_66 : decode cX11_truedIn 66 = .ok (.iinc 6 1, 3) := by decide +kernel
theorem dX11_truedIn_69 : decode cX11_truedIn 69 = .ok (.goto (-27), 3) := by decide +kernel
theorem dX11_truedIn_72 : decode cX11_truedIn 72 = .ok (.aload_n 0, 1) := by decide +kernel
theorem dX11_truedIn_73 : decode cX11_truedIn 73 = .ok (.iload_n 1, 1) := by decide +kernel
theorem dX11_truedIn_74 : decode cX11_truedIn 74 = .ok (.iload_n 2, 1) := by decide +kernel
theorem dX11_truedIn_75 : decode cX11_truedIn 75 = .ok (.invokevirtual 226, 3) := by decide +kernel
theorem dX11_truedIn_78 : decode cX11_truedIn 78 = .ok (.lconst 0, 1) := by decide +kernel
theorem dX11_truedIn_79 : decode cX11_truedIn 79 = .ok (.lstore 6, 2) := by decide +kernel
theorem dX11_truedIn_81 : decode cX11_truedIn 81 = .ok (.iload 4, 2) := by decide +kernel
theorem dX11_truedIn_83 : decode cX11_truedIn 83 = .ok (.istore 8, 2) := by decide +kernel
theorem dX11_truedIn_85 : decode cX11_truedIn 85 = .ok (.iload 8, 2) := by decide +kernel
theorem dX11_truedIn_87 : decode cX11_truedIn 87 = .ok (.iload 5, 2) := by decide +kernel
theorem dX11_truedIn_89 : decode cX11_truedIn 89 = .ok (.if_icmp .ge 64, 3) := by decide +kernel
theorem dX11_truedIn_92 : decode cX11_truedIn 92 = .ok (.aload_n 0, 1) := by decide +kernel
theorem dX11_truedIn_93 : decode cX11_truedIn 93 = .ok (.iload_n 1, 1) := by decide +kernel
theorem dX11_truedIn_94 : decode cX11_truedIn 94 = .ok (.iload 8, 2) := by decide +kernel
theorem dX11_truedIn_96 : decode cX11_truedIn 96 = .ok (.invokevirtual 231, 3) := by decide +kernel
theorem dX11_truedIn_99 : decode cX11_truedIn 99 = .ok (.aload_n 0, 1) := by decide +kernel
theorem dX11_truedIn_100 : decode cX11_truedIn 100 = .ok (.getfield 105, 3) := by decide +kernel
theorem dX11_truedIn_103 : decode cX11_truedIn 103 = .ok (.iload 8, 2) := by decide +kernel
theorem dX11_truedIn_105 : decode cX11_truedIn 105 = .ok (.iload 4, 2) := by decide +kernel
theorem dX11_truedIn_107 : decode cX11_truedIn 107 = .ok (.isub, 1) := by decide +kernel
theorem dX11_truedIn_108 : decode cX11_truedIn 108 = .ok (.iaload, 1) := by decide +kernel
theorem dX11_truedIn_109 : decode cX11_truedIn 109 = .ok (.isub, 1) := by decide +kernel
theorem dX11_truedIn_110 : decode cX11_truedIn 110 = .ok (.i2l, 1) := by decide +kernel
theorem dX11_truedIn_111 : decode cX11_truedIn 111 = .ok (.lstore 9, 2) := by decide +kernel
theorem dX11_truedIn_113 : decode cX11_truedIn 113 = .ok (.lload 6, 2) := by decide +kernel
theorem dX11_truedIn_115 : decode cX11_truedIn 115 = .ok (.iload_n 3, 1) := by decide +kernel
theorem dX11_truedIn_116 : decode cX11_truedIn 116 = .ok (.ifCond .eq 26, 3) := by decide +kernel
theorem dX11_truedIn_119 : decode cX11_truedIn 119 = .ok (.lload 9, 2) := by decide +kernel
theorem dX11_truedIn_121 : decode cX11_truedIn 121 = .ok (.aload_n 0, 1) := by decide +kernel
theorem dX11_truedIn_122 : decode cX11_truedIn 122 = .ok (.getfield 82, 3) := by decide +kernel
theorem dX11_truedIn_125 : decode cX11_truedIn 125 = .ok (.iconst 1, 1) := by decide +kernel
theorem dX11_truedIn_126 : decode cX11_truedIn 126 = .ok (.iaload, 1) := by decide +kernel
theorem dX11_truedIn_127 : decode cX11_truedIn 127 = .ok (.i2l, 1) := by decide +kernel
theorem dX11_truedIn_128 : decode cX11_truedIn 128 = .ok (.lmul, 1) := by decide +kernel
theorem dX11_truedIn_129 : decode cX11_truedIn 129 = .ok (.iload_n 2, 1) := by decide +kernel
theorem dX11_truedIn_130 : decode cX11_truedIn 130 = .ok (.iload 8, 2) := by decide +kernel
theorem dX11_truedIn_132 : decode cX11_truedIn 132 = .ok (.isub, 1) := by decide +kernel
theorem dX11_truedIn_133 : decode cX11_truedIn 133 = .ok (.i2l, 1) := by decide +kernel
theorem dX11_truedIn_134 : decode cX11_truedIn 134 = .ok (.lmul, 1) := by decide +kernel
theorem dX11_truedIn_135 : decode cX11_truedIn 135 = .ok (.ldc2_w 234, 3) := by decide +kernel
theorem dX11_truedIn_138 : decode cX11_truedIn 138 = .ok (.ldiv, 1) := by decide +kernel
theorem dX11_truedIn_139 : decode cX11_truedIn 139 = .ok (.goto 5, 3) := by decide +kernel
theorem dX11_truedIn_142 : decode cX11_truedIn 142 = .ok (.lload 9, 2) := by decide +kernel
theorem dX11_truedIn_144 : decode cX11_truedIn 144 = .ok (.ladd, 1) := by decide +kernel
theorem dX11_truedIn_145 : decode cX11_truedIn 145 = .ok (.lstore 6, 2) := by decide +kernel
theorem dX11_truedIn_147 : decode cX11_truedIn 147 = .ok (.iinc 8 1, 3) := by decide +kernel
theorem dX11_truedIn_150 : decode cX11_truedIn 150 = .ok (.goto (-65), 3) := by decide +kernel
theorem dX11_truedIn_153 : decode cX11_truedIn 153 = .ok (.lload 6, 2) := by decide +kernel
theorem dX11_truedIn_155 : decode cX11_truedIn 155 = .ok (.l2i, 1) := by decide +kernel
theorem dX11_truedIn_156 : decode cX11_truedIn 156 = .ok (.ireturn, 1) := by decide +kernel
set_option maxRecDepth 20000 in
theorem ggX11_trued_X11_isLease : GoodIn wsX11_trued wsX11_isLease := goodIn_r _ [7, 8, 9, 10, 6, 11, 88, 89, 90, 91, 92, 93, 94, 95, 96, 97, 98, 99, 100, 101, 102, 103, 104, 105, 106, 107, 108, 109] (by decide +kernel) (by decide +kernel)
set_option maxRecDepth 20000 in
theorem gX11_trued_X11_isLease : GoodIn wsX11_trued (wsV RX11 214 RX11 yX11_isLease wsX11_isLease) := goodIn_app (goodIn_of _ (by decide +kernel)) ggX11_trued_X11_isLease
set_option maxRecDepth 20000 in
theorem ggX11_trued_X11_isIn : GoodIn wsX11_trued wsX11_isIn := goodIn_r _ [11] (by decide +kernel) (by decide +kernel)
set_option maxRecDepth 20000 in
theorem gX11_trued_X11_isIn : GoodIn wsX11_trued (va_wsS RX11 114 yX11_isIn wsX11_isIn) := goodIn_app (goodIn_of _ (by decide +kernel)) ggX11_trued_X11_isIn
set_option maxRecDepth 20000 in
theorem ggX11_trued_X11_truedIn : GoodIn wsX11_trued wsX11_truedIn := goodIn_r _ [15, 16, 8, 17, 18, 19, 20, 6, 21, 22, 23, 24, 25, 26, 27, 28, 29, 30, 31, 32, 33, 34, 35, 36, 37, 38, 39, 40, 41, 42, 43, 44, 45, 46, 47, 48, 49, 50, 51, 52, 53, 54, 55, 56, 57, 58, 59, 60, 61, 62, 63, 64, 65, 66, 67, 9, 10, 11, 68, 69, 70, 71, 72, 73, 74, 75, 76, 77, 78, 79, 80, 81, 82, 83, 84, 85, 86, 87, 88, 89, 90, 91, 92, 93, 94, 95, 96, 97, 98, 99, 100, 101, 102, 103, 104, 105, 106, 107, 108, 109] (by decide +kernel) (by decide +kernel)
set_option maxRecDepth 20000 in
theorem gX11_trued_X11_truedIn : GoodIn wsX11_trued (wsV RX11 236 RX11 yX11_truedIn wsX11_truedIn) := goodIn_app (goodIn_of _ (by decide +kernel)) ggX11_trued_X11_truedIn
theorem dX11_trued_0 : decode cX11_trued 0 = .ok (.aload_n 0, 1) := by decide +kernel
theorem dX11_trued_1 : decode cX11_trued 1 = .ok (.iconst 0, 1) := by decide +kernel
theorem dX11_trued_2 : decode cX11_trued 2 = .ok (.putfield 1, 3) := by decide +kernel
theorem dX11_trued_5 : decode cX11_trued 5 = .ok (.aload_n 0, 1) := by decide +kernel
theorem dX11_trued_6 : decode cX11_trued 6 = .ok (.iload_n 1, 1) := by decide +kernel
theorem dX11_trued_7 : decode cX11_trued 7 = .ok (.invokevirtual 214, 3) := by decide +kernel
theorem dX11_trued_10 : decode cX11_trued 10 = .ok (.ifCond .eq 24, 3) := by decide +kernel
theorem dX11_trued_13 : decode cX11_trued 13 = .ok (.iload_n 2, 1) := by decide +kernel
theorem dX11_trued_14 : decode cX11_trued 14 = .ok (.iconst 1, 1) := by decide +kernel
theorem dX11_trued_15 : decode cX11_trued 15 = .ok (.sipush 239, 3) := by decide +kernel
theorem dX11_trued_18 : decode cX11_trued 18 = .ok (.invokestatic 114, 3) := by decide +kernel
theorem dX11_trued_21 : decode cX11_trued 21 = .ok (.ifCond .eq 13, 3) := by decide +kernel
theorem dX11_trued_24 : decode cX11_trued 24 = .ok (.aload_n 0, 1) := by decide +kernel
theorem dX11_trued_25 : decode cX11_trued 25 = .ok (.iload_n 1, 1) := by decide +kernel
theorem dX11_trued_26 : decode cX11_trued 26 = .ok (.iload_n 2, 1) := by decide +kernel
theorem dX11_trued_27 : decode cX11_trued 27 = .ok (.iconst 0, 1) := by decide +kernel
theorem dX11_trued_28 : decode cX11_trued 28 = .ok (.invokevirtual 236, 3) := by decide +kernel
theorem dX11_trued_31 : decode cX11_trued 31 = .ok (.goto 5, 3) := by decide +kernel
theorem dX11_trued_34 : decode cX11_trued 34 = .ok (.ldc 230, 2) := by decide +kernel
theorem dX11_trued_36 : decode cX11_trued 36 = .ok (.ireturn, 1) := by decide +kernel
set_option maxRecDepth 20000 in
theorem ggX11_interest_X11_isLease : GoodIn wsX11_interest wsX11_isLease := goodIn_r _ [7, 8, 9, 10, 6, 11, 88, 89, 90, 91, 92, 93, 94, 95, 96, 97, 98, 99, 100, 101, 102, 103, 104, 105, 106, 107, 108, 109] (by decide +kernel) (by decide +kernel)
set_option maxRecDepth 20000 in
theorem gX11_interest_X11_isLease : GoodIn wsX11_interest (wsV RX11 214 RX11 yX11_isLease wsX11_isLease) := goodIn_app (goodIn_of _ (by decide +kernel)) ggX11_interest_X11_isLease
set_option maxRecDepth 20000 in
theorem ggX11_interest_X11_isIn : GoodIn wsX11_interest wsX11_isIn := goodIn_r _ [11] (by decide +kernel) (by decide +kernel)
set_option maxRecDepth 20000 in
theorem gX11_interest_X11_isIn : GoodIn wsX11_interest (va_wsS RX11 114 yX11_isIn wsX11_isIn) := goodIn_app (goodIn_of _ (by decide +kernel)) ggX11_interest_X11_isIn
set_option maxRecDepth 20000 in
theorem ggX11_interest_X11_truedIn : GoodIn wsX11_interest wsX11_truedIn := goodIn_r _ [15, 16, 8, 17, 18, 19, 20, 6, 21, 22, 23, 24, 25, 26, 27, 28, 29, 30, 31, 32, 33, 34, 35, 36, 37, 38, 39, 40, 41, 42, 43, 44, 45, 46, 47, 48, 49, 50, 51, 52, 53, 54, 55, 56, 57, 58, 59, 60, 61, 62, 63, 64, 65, 66, 67, 9, 10, 11, 68, 69, 70, 71, 72, 73, 74, 75, 76, 77, 78, 79, 80, 81, 82, 83, 84, 85, 86, 87, 88, 89, 90, 91, 92, 93, 94, 95, 96, 97, 98, 99, 100, 101, 102, 103, 104, 105, 106, 107, 108, 109] (by decide +kernel) (by decide +kernel)
set_option maxRecDepth 20000 in
theorem gX11_interest_X11_truedIn : GoodIn wsX11_interest (wsV RX11 236 RX11 yX11_truedIn wsX11_truedIn) := goodIn_app (goodIn_of _ (by decide +kernel)) ggX11_interest_X11_truedIn
theorem dX11_interest_0 : decode cX11_interest 0 = .ok (.aload_n 0, 1) := by decide +kernel
theorem dX11_interest_1 : decode cX11_interest 1 = .ok (.iconst 0, 1) := by decide +kernel
theorem dX11_interest_2 : decode cX11_interest 2 = .ok (.putfield 1, 3) := by decide +kernel
theorem dX11_interest_5 : decode cX11_interest 5 = .ok (.aload_n 0, 1) := by decide +kernel
theorem dX11_interest_6 : decode cX11_interest 6 = .ok (.iload_n 1, 1) := by decide +kernel
theorem dX11_interest_7 : decode cX11_interest 7 = .ok (.invokevirtual 214, 3) := by decide +kernel
theorem dX11_interest_10 : decode cX11_interest 10 = .ok (.ifCond .eq 24, 3) := by decide +kernel
theorem dX11_interest_13 : decode cX11_interest 13 = .ok (.iload_n 2, 1) := by decide +kernel
theorem dX11_interest_14 : decode cX11_interest 14 = .ok (.iconst 1, 1) := by decide +kernel
theorem dX11_interest_15 : decode cX11_interest 15 = .ok (.sipush 239, 3) := by decide +kernel
theorem dX11_interest_18 : decode cX11_interest 18 = .ok (.invokestatic 114, 3) := by decide +kernel
theorem dX11_interest_21 : decode cX11_interest 21 = .ok (.ifCond .eq 13, 3) := by decide +kernel
theorem dX11_interest_24 : decode cX11_interest 24 = .ok (.aload_n 0, 1) := by decide +kernel
theorem dX11_interest_25 : decode cX11_interest 25 = .ok (.iload_n 1, 1) := by decide +kernel
theorem dX11_interest_26 : decode cX11_interest 26 = .ok (.iload_n 2, 1) := by decide +kernel
theorem dX11_interest_27 : decode cX11_interest 27 = .ok (.iconst 1, 1) := by decide +kernel
theorem dX11_interest_28 : decode cX11_interest 28 = .ok (.invokevirtual 236, 3) := by decide +kernel
theorem dX11_interest_31 : decode cX11_interest 31 = .ok (.goto 5, 3) := by decide +kernel
theorem dX11_interest_34 : decode cX11_interest 34 = .ok (.ldc 230, 2) := by decide +kernel
theorem dX11_interest_36 : decode cX11_interest 36 = .ok (.ireturn, 1) := by decide +kernel
set_option maxRecDepth 20000 in
theorem ggX11_laysSpreads_X11_its : GoodIn wsX11_laysSpreads wsX11_its := goodIn_r _ [6, 7, 77, 78, 79, 80, 81, 82, 83, 84, 85, 86, 87, 88, 89, 90, 91, 92, 93, 94, 95, 96, 97, 98] (by decide +kernel) (by decide +kernel)
set_option maxRecDepth 20000 in
theorem gX11_laysSpreads_X11_its : GoodIn wsX11_laysSpreads (wsV RX11 163 RX11 yX11_its wsX11_its) := goodIn_app (goodIn_of _ (by decide +kernel)) ggX11_laysSpreads_X11_its
set_option maxRecDepth 20000 in
theorem ggX11_laysSpreads_X11_endOf : GoodIn wsX11_laysSpreads wsX11_endOf := goodIn_r _ [11, 2, 3, 4, 5, 6, 7, 12, 13, 14, 15, 77, 78, 79, 80, 81, 82, 83, 84, 85, 86, 87, 88, 89, 90, 91, 92, 93, 94, 95, 96, 97, 98] (by decide +kernel) (by decide +kernel)
set_option maxRecDepth 20000 in
theorem gX11_laysSpreads_X11_endOf : GoodIn wsX11_laysSpreads (wsV RX11 220 RX11 yX11_endOf wsX11_endOf) := goodIn_app (goodIn_of _ (by decide +kernel)) ggX11_laysSpreads_X11_endOf
set_option maxRecDepth 20000 in
theorem ggX11_laysSpreads_X11_laysRents : GoodIn wsX11_laysSpreads wsX11_laysRents := goodIn_r _ [19, 20, 21, 22, 23, 24, 25, 26, 2, 3, 4, 5, 6, 7, 27, 28, 29, 30, 31, 32, 33, 34, 35, 36, 37, 38, 39, 40, 41, 42, 43, 44, 45, 46, 47, 48, 49, 50, 51, 52, 53, 54, 55, 56, 57, 58, 59, 60, 61, 62, 63, 64, 65, 66, 67, 68, 77, 78, 79, 80, 81, 82, 83, 84, 85, 86, 87, 88, 89, 90, 91, 92, 93, 94, 95, 96, 97, 98] (by decide +kernel) (by decide +kernel)
set_option maxRecDepth 20000 in
theorem gX11_laysSpreads_X11_laysRents : GoodIn wsX11_laysSpreads (wsV RX11 226 RX11 yX11_laysRents wsX11_laysRents) := goodIn_app (goodIn_of _ (by decide +kernel)) ggX11_laysSpreads_X11_laysRents
set_option maxRecDepth 20000 in
theorem ggX11_laysSpreads_X11_dueLaid : GoodIn wsX11_laysSpreads wsX11_dueLaid := goodIn_r _ [72, 2, 3, 4, 5, 6, 7, 73, 74, 75, 76, 20, 27, 28, 29, 30, 77, 78, 79, 80, 81, 82, 83, 84, 85, 86, 87, 88, 89, 90, 91, 92, 93, 94, 95, 96, 97, 98] (by decide +kernel) (by decide +kernel)
set_option maxRecDepth 20000 in
theorem gX11_laysSpreads_X11_dueLaid : GoodIn wsX11_laysSpreads (wsV RX11 231 RX11 yX11_dueLaid wsX11_dueLaid) := goodIn_app (goodIn_of _ (by decide +kernel)) ggX11_laysSpreads_X11_dueLaid
theorem dX11_laysSpreads_0 : decode cX11_laysSpreads 0 = .ok (.aload_n 0, 1) := by decide +kernel
theorem dX11_laysSpreads_1 : decode cX11_laysSpreads 1 = .ok (.iload_n 1, 1) := by decide +kernel
theorem dX11_laysSpreads_2 : decode cX11_laysSpreads 2 = .ok (.iconst 0, 1) := by decide +kernel
theorem dX11_laysSpreads_3 : decode cX11_laysSpreads 3 = .ok (.invokevirtual 163, 3) := by decide +kernel
theorem dX11_laysSpreads_6 : decode cX11_laysSpreads 6 = .ok (.istore_n 3, 1) := by decide +kernel
theorem dX11_laysSpreads_7 : decode cX11_laysSpreads 7 = .ok (.lconst 0, 1) := by decide +kernel
theorem dX11_laysSpreads_8 : decode cX11_laysSpreads 8 = .ok (.lstore 4, 2) := by decide +kernel
theorem dX11_laysSpreads_10 : decode cX11_laysSpreads 10 = .ok (.iload_n 3, 1) := by decide +kernel
theorem dX11_laysSpreads_11 : decode cX11_laysSpreads 11 = .ok (.istore 6, 2) := by decide +kernel
theorem dX11_laysSpreads_13 : decode cX11_laysSpreads 13 = .ok (.iload 6, 2) := by decide +kernel
theorem dX11_laysSpreads_15 : decode cX11_laysSpreads 15 = .ok (.iload_n 2, 1) := by decide +kernel
theorem dX11_laysSpreads_16 : decode cX11_laysSpreads 16 = .ok (.if_icmp .gt 103, 3) := by decide +kernel
theorem dX11_laysSpreads_19 : decode cX11_laysSpreads 19 = .ok (.aload_n 0, 1) := by decide +kernel
theorem dX11_laysSpreads_20 : decode cX11_laysSpreads 20 = .ok (.iload_n 1, 1) := by decide +kernel
theorem dX11_laysSpreads_21 : decode cX11_laysSpreads 21 = .ok (.iload 6, 2) := by decide +kernel
theorem dX11_laysSpreads_23 : decode cX11_laysSpreads 23 = .ok (.invokevirtual 220, 3) := by decide +kernel
theorem dX11_laysSpreads_26 : decode cX11_laysSpreads 26 = .ok (.istore 7, 2) := by decide +kernel
theorem dX11_laysSpreads_28 : decode cX11_laysSpreads 28 = .ok (.aload_n 0, 1) := by decide +kernel
theorem dX11_laysSpreads_29 : decode cX11_laysSpreads 29 = .ok (.iload_n 1, 1) := by decide +kernel
theorem dX11_laysSpreads_30 : decode cX11_laysSpreads 30 = .ok (.iload 6, 2) := by decide +kernel
theorem dX11_laysSpreads_32 : decode cX11_laysSpreads 32 = .ok (.invokevirtual 226, 3) := by decide +kernel
theorem dX11_laysSpreads_35 : decode cX11_laysSpreads 35 = .ok (.lconst 0, 1) := by decide +kernel
theorem dX11_laysSpreads_36 : decode cX11_laysSpreads 36 = .ok (.lstore 8, 2) := by decide +kernel
theorem dX11_laysSpreads_38 : decode cX11_laysSpreads 38 = .ok (.iload_n 3, 1) := by decide +kernel
theorem dX11_laysSpreads_39 : decode cX11_laysSpreads 39 = .ok (.istore 10, 2) := by decide +kernel
theorem dX11_laysSpreads_41 : decode cX11_laysSpreads 41 = .ok (.iload 10, 2) := by decide +kernel
theorem dX11_laysSpreads_43 : decode cX11_laysSpreads 43 = .ok (.iload 7, 2) := by decide +kernel
theorem dX11_laysSpreads_45 : decode cX11_laysSpreads 45 = .ok (.if_icmp .ge 22, 3) := by decide +kernel
theorem dX11_laysSpreads_48 : decode cX11_laysSpreads 48 = .ok (.lload 8, 2) := by decide +kernel
theorem dX11_laysSpreads_50 : decode cX11_laysSpreads 50 = .ok (.aload_n 0, 1) := by decide +kernel
theorem dX11_laysSpreads_51 : decode cX11_laysSpreads 51 = .ok (.iload_n 1, 1) := by decide +kernel
theorem dX11_laysSpreads_52 : decode cX11_laysSpreads 52 = .ok (.iload 10, 2) := by decide +kernel
theorem dX11_laysSpreads_54 : decode cX11_laysSpreads 54 = .ok (.invokevirtual 231, 3) := by decide +kernel
theorem dX11_laysSpreads_57 : decode cX11_laysSpreads 57 = .ok (.i2l, 1) := by decide +kernel
theorem dX11_laysSpreads_58 : decode cX11_laysSpreads 58 = .ok (.ladd, 1) := by decide +kernel
theorem dX11_laysSpreads_59 : decode cX11_laysSpreads 59 = .ok (.lstore 8, 2) := by decide +kernel
theorem dX11_laysSpreads_61 : decode cX11_laysSpreads 61 = .ok (.iinc 10 1, 3) := by decide +kernel
theorem dX11_laysSpreads_64 : decode cX11_laysSpreads 64 = .ok (.goto (-23), 3) := by decide +kernel
theorem dX11_laysSpreads_67 : decode cX11_laysSpreads 67 = .ok (.aload_n 0, 1) := by decide +kernel
theorem dX11_laysSpreads_68 : decode cX11_laysSpreads 68 = .ok (.getfield 108, 3) := by decide +kernel
theorem dX11_laysSpreads_71 : decode cX11_laysSpreads 71 = .ok (.iload 6, 2) := by decide +kernel
theorem dX11_laysSpreads_73 : decode cX11_laysSpreads 73 = .ok (.iload_n 3, 1) := by decide +kernel
theorem dX11_laysSpreads_74 : decode cX11_laysSpreads 74 = .ok (.isub, 1) := by decide +kernel
theorem dX11_laysSpreads_75 : decode cX11_laysSpreads 75 = .ok (.iload 6, 2) := by decide +kernel
theorem dX11_laysSpreads_77 : decode cX11_laysSpreads 77 = .ok (.iload 7, 2) := by decide +kernel
theorem dX11_laysSpreads_79 : decode cX11_laysSpreads 79 = .ok (.if_icmp .ge 18, 3) := by decide +kernel
theorem dX11_laysSpreads_82 : decode cX11_laysSpreads 82 = .ok (.lload 8, 2) := by decide +kernel
theorem dX11_laysSpreads_84 : decode cX11_laysSpreads 84 = .ok (.lload 4, 2) := by decide +kernel
theorem dX11_laysSpreads_86 : decode cX11_laysSpreads 86 = .ok (.lsub, 1) := by decide +kernel
theorem dX11_laysSpreads_87 : decode cX11_laysSpreads 87 = .ok (.iload 7, 2) := by decide +kernel
theorem dX11_laysSpreads_89 : decode cX11_laysSpreads 89 = .ok (.iload 6, 2) := by decide +kernel
theorem dX11_laysSpreads_91 : decode cX11_laysSpreads 91 = .ok (.isub, 1) := by decide +kernel
theorem dX11_laysSpreads_92 : decode cX11_laysSpreads 92 = .ok (.i2l, 1) := by decide +kernel
theorem dX11_laysSpreads_93 : decode cX11_laysSpreads 93 = .ok (.ldiv, 1) := by decide +kernel
theorem dX11_laysSpreads_94 : decode cX11_laysSpreads 94 = .ok (.goto 4, 3) := by decide +kernel
theorem dX11_laysSpreads_97 : decode cX11_laysSpreads 97 = .ok (.lconst 0, 1) := by decide +kernel
theorem dX11_laysSpreads_98 : decode cX11_laysSpreads 98 = .ok (.lastore, 1) := by decide +kernel
theorem dX11_laysSpreads_99 : decode cX11_laysSpreads 99 = .ok (.lload 4, 2) := by decide +kernel
theorem dX11_laysSpreads_101 : decode cX11_laysSpreads 101 = .ok (.aload_n 0, 1) := by decide +kernel
theorem dX11_laysSpreads_102 : decode cX11_laysSpreads 102 = .ok (.getfield 108, 3) := by decide +kernel
theorem dX11_laysSpreads_105 : decode cX11_laysSpreads 105 = .ok (.iload 6, 2) := by decide +kernel
theorem dX11_laysSpreads_107 : decode cX11_laysSpreads 107 = .ok (.iload_n 3, 1) := by decide +kernel
theorem dX11_laysSpreads_108 : decode cX11_laysSpreads 108 = .ok (.isub, 1) := by decide +kernel
theorem dX11_laysSpreads_109 : decode cX11_laysSpreads 109 = .ok (.laload, 1) := by decide +kernel
theorem dX11_laysSpreads_110 : decode cX11_laysSpreads 110 = .ok (.ladd, 1) := by decide +kernel
theorem dX11_laysSpreads_111 : decode cX11_laysSpreads 111 = .ok (.lstore 4, 2) := by decide +kernel
theorem dX11_laysSpreads_113 : decode cX11_laysSpreads 113 = .ok (.iinc 6 1, 3) := by decide +kernel
theorem dX11_laysSpreads_116 : decode cX11_laysSpreads 116 = .ok (.goto (-103), 3) := by decide +kernel
theorem dX11_laysSpreads_119 : decode cX11_laysSpreads 119 = .ok (.return_, 1) := by decide +kernel
set_option maxRecDepth 20000 in
theorem ggX11_spread_X11_isOf : GoodIn wsX11_spread wsX11_isOf := goodIn_r _ [8, 9, 10, 11, 7, 12, 13, 14, 15, 16, 17, 18, 19, 20, 21, 22, 23, 24, 91, 92, 93, 94, 95, 96, 97, 98, 99, 100, 101, 102, 103, 104, 105, 106, 107, 108, 109, 110, 111, 112] (by decide +kernel) (by decide +kernel)
set_option maxRecDepth 20000 in
theorem gX11_spread_X11_isOf : GoodIn wsX11_spread (wsV RX11 223 RX11 yX11_isOf wsX11_isOf) := goodIn_app (goodIn_of _ (by decide +kernel)) ggX11_spread_X11_isOf
set_option maxRecDepth 20000 in
theorem ggX11_spread_X11_laysSpreads : GoodIn wsX11_spread wsX11_laysSpreads := goodIn_r _ [28, 3, 17, 18, 19, 7, 20, 13, 29, 30, 31, 32, 21, 22, 23, 24, 33, 34, 35, 36, 37, 38, 39, 40, 41, 42, 43, 44, 45, 46, 47, 48, 49, 50, 51, 52, 53, 54, 55, 56, 57, 58, 59, 60, 61, 62, 63, 64, 65, 66, 67, 68, 69, 70, 14, 15, 16, 71, 72, 73, 74, 75, 76, 77, 78, 79, 80, 81, 82, 83, 84, 85, 86, 87, 88, 89, 90, 91, 92, 93, 94, 95, 96, 97, 98, 99, 100, 101, 102, 103, 104, 105, 106, 107, 108, 109, 110, 111, 112] (by decide +kernel) (by decide +kernel)
set_option maxRecDepth 20000 in
theorem gX11_spread_X11_laysSpreads : GoodIn wsX11_spread (wsV RX11 240 RX11 yX11_laysSpreads wsX11_laysSpreads) := goodIn_app (goodIn_of _ (by decide +kernel)) ggX11_spread_X11_laysSpreads
set_option maxRecDepth 20000 in
theorem ggX11_spread_X11_its : GoodIn wsX11_spread wsX11_its := goodIn_r _ [20, 13, 91, 92, 93, 94, 95, 96, 97, 98, 99, 100, 101, 102, 103, 104, 105, 106, 107, 108, 109, 110, 111, 112] (by decide +kernel) (by decide +kernel)
set_option maxRecDepth 20000 in
theorem gX11_spread_X11_its : GoodIn wsX11_spread (wsV RX11 163 RX11 yX11_its wsX11_its) := goodIn_app (goodIn_of _ (by decide +kernel)) ggX11_spread_X11_its
theorem dX11_spread_0 : decode cX11_spread 0 = .ok (.aload_n 0, 1) := by decide +kernel
theorem dX11_spread_1 : decode cX11_spread 1 = .ok (.iconst 0, 1) := by decide +kernel
theorem dX11_spread_2 : decode cX11_spread 2 = .ok (.putfield 1, 3) := by decide +kernel
theorem dX11_spread_5 : decode cX11_spread 5 = .ok (.aload_n 0, 1) := by decide +kernel
theorem dX11_spread_6 : decode cX11_spread 6 = .ok (.iload_n 1, 1) := by decide +kernel
theorem dX11_spread_7 : decode cX11_spread 7 = .ok (.iload_n 2, 1) := by decide +kernel
theorem dX11_spread_8 : decode cX11_spread 8 = .ok (.invokevirtual 223, 3) := by decide +kernel
theorem dX11_spread_11 : decode cX11_spread 11 = .ok (.ifCond .ne 6, 3) := by decide +kernel
theorem dX11_spread_14 : decode cX11_spread 14 = .ok (.ldc 230, 2) := by decide +kernel
theorem dX11_spread_16 : decode cX11_spread 16 = .ok (.ireturn, 1) := by decide +kernel
theorem dX11_spread_17 : decode cX11_spread 17 = .ok (.aload_n 0, 1) := by decide +kernel
theorem dX11_spread_18 : decode cX11_spread 18 = .ok (.iload_n 1, 1) := by decide +kernel
theorem dX11_spread_19 : decode cX11_spread 19 = .ok (.iload_n 2, 1) := by decide +kernel
theorem dX11_spread_20 : decode cX11_spread 20 = .ok (.invokevirtual 240, 3) := by decide +kernel
theorem dX11_spread_23 : decode cX11_spread 23 = .ok (.aload_n 0, 1) := by decide +kernel
theorem dX11_spread_24 : decode cX11_spread 24 = .ok (.getfield 108, 3) := by decide +kernel
theorem dX11_spread_27 : decode cX11_spread 27 = .ok (.iload_n 2, 1) := by decide +kernel
theorem dX11_spread_28 : decode cX11_spread 28 = .ok (.aload_n 0, 1) := by decide +kernel
theorem dX11_spread_29 : decode cX11_spread 29 = .ok (.iload_n 1, 1) := by decide +kernel
theorem dX11_spread_30 : decode cX11_spread 30 = .ok (.iconst 0, 1) := by decide +kernel
theorem dX11_spread_31 : decode cX11_spread 31 = .ok (.invokevirtual 163, 3) := by decide +kernel
theorem dX11_spread_34 : decode cX11_spread 34 = .ok (.isub, 1) := by decide +kernel
theorem dX11_spread_35 : decode cX11_spread 35 = .ok (.laload, 1) := by decide +kernel
theorem dX11_spread_36 : decode cX11_spread 36 = .ok (.l2i, 1) := by decide +kernel
theorem dX11_spread_37 : decode cX11_spread 37 = .ok (.ireturn, 1) := by decide +kernel
set_option maxRecDepth 20000 in
theorem ggX11_ahead_X11_isOf : GoodIn wsX11_ahead wsX11_isOf := goodIn_r _ [8, 9, 10, 11, 7, 12, 13, 14, 15, 16, 17, 18, 19, 20, 21, 22, 23, 24, 91, 92, 93, 94, 95, 96, 97, 98, 99, 100, 101, 102, 103, 104, 105, 106, 107, 108, 109, 110, 111, 112] (by decide +kernel) (by decide +kernel)
set_option maxRecDepth 20000 in
theorem gX11_ahead_X11_isOf : GoodIn wsX11_ahead (wsV RX11 223 RX11 yX11_isOf wsX11_isOf) := goodIn_app (goodIn_of _ (by decide +kernel)) ggX11_ahead_X11_isOf
set_option maxRecDepth 20000 in
theorem ggX11_ahead_X11_laysSpreads : GoodIn wsX11_ahead wsX11_laysSpreads := goodIn_r _ [28, 3, 17, 18, 19, 7, 20, 13, 29, 30, 31, 32, 21, 22, 23, 24, 33, 34, 35, 36, 37, 38, 39, 40, 41, 42, 43, 44, 45, 46, 47, 48, 49, 50, 51, 52, 53, 54, 55, 56, 57, 58, 59, 60, 61, 62, 63, 64, 65, 66, 67, 68, 69, 70, 14, 15, 16, 71, 72, 73, 74, 75, 76, 77, 78, 79, 80, 81, 82, 83, 84, 85, 86, 87, 88, 89, 90, 91, 92, 93, 94, 95, 96, 97, 98, 99, 100, 101, 102, 103, 104, 105, 106, 107, 108, 109, 110, 111, 112] (by decide +kernel) (by decide +kernel)
set_option maxRecDepth 20000 in
theorem gX11_ahead_X11_laysSpreads : GoodIn wsX11_ahead (wsV RX11 240 RX11 yX11_laysSpreads wsX11_laysSpreads) := goodIn_app (goodIn_of _ (by decide +kernel)) ggX11_ahead_X11_laysSpreads
set_option maxRecDepth 20000 in
theorem ggX11_ahead_X11_laysRents : GoodIn wsX11_ahead wsX11_laysRents := goodIn_r _ [36, 37, 38, 39, 40, 41, 42, 43, 17, 18, 19, 7, 20, 13, 44, 45, 46, 47, 48, 49, 50, 51, 52, 53, 54, 55, 56, 57, 58, 59, 60, 61, 62, 63, 64, 65, 66, 67, 68, 69, 70, 14, 15, 16, 71, 72, 73, 74, 75, 76, 77, 78, 79, 80, 81, 82, 91, 92, 93, 94, 95, 96, 97, 98, 99, 100, 101, 102, 103, 104, 105, 106, 107, 108, 109, 110, 111, 112] (by decide +kernel) (by decide +kernel)
set_option maxRecDepth 20000 in
theorem gX11_ahead_X11_laysRents : GoodIn wsX11_ahead (wsV RX11 226 RX11 yX11_laysRents wsX11_laysRents) := goodIn_app (goodIn_of _ (by decide +kernel)) ggX11_ahead_X11_laysRents
set_option maxRecDepth 20000 in
theorem ggX11_ahead_X11_its : GoodIn wsX11_ahead wsX11_its := goodIn_r _ [20, 13, 91, 92, 93, 94, 95, 96, 97, 98, 99, 100, 101, 102, 103, 104, 105, 106, 107, 108, 109, 110, 111, 112] (by decide +kernel) (by decide +kernel)
set_option maxRecDepth 20000 in
theorem gX11_ahead_X11_its : GoodIn wsX11_ahead (wsV RX11 163 RX11 yX11_its wsX11_its) := goodIn_app (goodIn_of _ (by decide +kernel)) ggX11_ahead_X11_its
set_option maxRecDepth 20000 in
theorem ggX11_ahead_X11_endOf : GoodIn wsX11_ahead wsX11_endOf := goodIn_r _ [32, 17, 18, 19, 7, 20, 13, 21, 22, 23, 24, 91, 92, 93, 94, 95, 96, 97, 98, 99, 100, 101, 102, 103, 104, 105, 106, 107, 108, 109, 110, 111, 112] (by decide +kernel) (by decide +kernel)
set_option maxRecDepth 20000 in
theorem gX11_ahead_X11_endOf : GoodIn wsX11_ahead (wsV RX11 220 RX11 yX11_endOf wsX11_endOf) := goodIn_app (goodIn_of _ (by decide +kernel)) ggX11_ahead_X11_endOf
set_option maxRecDepth 20000 in
theorem ggX11_ahead_X11_dueLaid : GoodIn wsX11_ahead wsX11_dueLaid := goodIn_r _ [86, 17, 18, 19, 7, 20, 13, 87, 88, 89, 90, 37, 44, 45, 46, 47, 91, 92, 93, 94, 95, 96, 97, 98, 99, 100, 101, 102, 103, 104, 105, 106, 107, 108, 109, 110, 111, 112] (by decide +kernel) (by decide +kernel)
set_option maxRecDepth 20000 in
theorem gX11_ahead_X11_dueLaid : GoodIn wsX11_ahead (wsV RX11 231 RX11 yX11_dueLaid wsX11_dueLaid) := goodIn_app (goodIn_of _ (by decide +kernel)) ggX11_ahead_X11_dueLaid
theorem dX11_ahead_0 : decode cX11_ahead 0 = .ok (.aload_n 0, 1) := by decide +kernel
theorem dX11_ahead_1 : decode cX11_ahead 1 = .ok (.iconst 0, 1) := by decide +kernel
theorem dX11_ahead_2 : decode cX11_ahead 2 = .ok (.putfield 1, 3) := by decide +kernel
theorem dX11_ahead_5 : decode cX11_ahead 5 = .ok (.aload_n 0, 1) := by decide +kernel
theorem dX11_ahead_6 : decode cX11_ahead 6 = .ok (.iload_n 1, 1) := by decide +kernel
theorem dX11_ahead_7 : decode cX11_ahead 7 = .ok (.iload_n 2, 1) := by decide +kernel
theorem dX11_ahead_8 : decode cX11_ahead 8 = .ok (.invokevirtual 223, 3) := by decide +kernel
theorem dX11_ahead_11 : decode cX11_ahead 11 = .ok (.ifCond .ne 6, 3) := by decide +kernel
theorem dX11_ahead_14 : decode cX11_ahead 14 = .ok (.ldc 230, 2) := by decide +kernel
theorem dX11_ahead_16 : decode cX11_ahead 16 = .ok (.ireturn, 1) := by decide +kernel
theorem dX11_ahead_17 : decode cX11_ahead 17 = .ok (.aload_n 0, 1) := by decide +kernel
theorem dX11_ahead_18 : decode cX11_ahead 18 = .ok (.iload_n 1, 1) := by decide +kernel
theorem dX11_ahead_19 : decode cX11_ahead 19 = .ok (.iload_n 2, 1) := by decide +kernel
theorem dX11_ahead_20 : decode cX11_ahead 20 = .ok (.invokevirtual 240, 3) := by decide +kernel
theorem dX11_ahead_23 : decode cX11_ahead 23 = .ok (.aload_n 0, 1) := by decide +kernel
theorem dX11_ahead_24 : decode cX11_ahead 24 = .ok (.iload_n 1, 1) := by decide +kernel
theorem dX11_ahead_25 : decode cX11_ahead 25 = .ok (.iload_n 2, 1) := by decide +kernel
theorem dX11_ahead_26 : decode cX11_ahead 26 = .ok (.invokevirtual 226, 3) := by decide +kernel
theorem dX11_ahead_29 : decode cX11_ahead 29 = .ok (.lconst 0, 1) := by decide +kernel
theorem dX11_ahead_30 : decode cX11_ahead 30 = .ok (.lstore_n 3, 1) := by decide +kernel
theorem dX11_ahead_31 : decode cX11_ahead 31 = .ok (.aload_n 0, 1) := by decide +kernel
theorem dX11_ahead_32 : decode cX11_ahead 32 = .ok (.iload_n 1, 1) := by decide +kernel
theorem dX11_ahead_33 : decode cX11_ahead 33 = .ok (.iconst 0, 1) := by decide +kernel
theorem dX11_ahead_34 : decode cX11_ahead 34 = .ok (.invokevirtual 163, 3) := by decide +kernel
theorem dX11_ahead_37 : decode cX11_ahead 37 = .ok (.istore 5, 2) := by decide +kernel
theorem dX11_ahead_39 : decode cX11_ahead 39 = .ok (.iload 5, 2) := by decide +kernel
theorem dX11_ahead_41 : decode cX11_ahead 41 = .ok (.iload_n 2, 1) := by decide +kernel
theorem dX11_ahead_42 : decode cX11_ahead 42 = .ok (.if_icmp .gt 46, 3) := by decide +kernel
theorem dX11_ahead_45 : decode cX11_ahead 45 = .ok (.iload 5, 2) := by decide +kernel
theorem dX11_ahead_47 : decode cX11_ahead 47 = .ok (.aload_n 0, 1) := by decide +kernel
theorem dX11_ahead_48 : decode cX11_ahead 48 = .ok (.iload_n 1, 1) := by decide +kernel
theorem dX11_ahead_49 : decode cX11_ahead 49 = .ok (.iload_n 2, 1) := by decide +kernel
theorem dX11_ahead_50 : decode cX11_ahead 50 = .ok (.invokevirtual 220, 3) := by decide +kernel
theorem dX11_ahead_53 : decode cX11_ahead 53 = .ok (.if_icmp .ge 35, 3) := by decide +kernel
theorem dX11_ahead_56 : decode cX11_ahead 56 = .ok (.lload_n 3, 1) := by decide +kernel
theorem dX11_ahead_57 : decode cX11_ahead 57 = .ok (.aload_n 0, 1) := by decide +kernel
theorem dX11_ahead_58 : decode cX11_ahead 58 = .ok (.getfield 108, 3) := by decide +kernel
theorem dX11_ahead_61 : decode cX11_ahead 61 = .ok (.iload 5, 2) := by decide +kernel
theorem dX11_ahead_63 : decode cX11_ahead 63 = .ok (.aload_n 0, 1) := by decide +kernel
theorem dX11_ahead_64 : decode cX11_ahead 64 = .ok (.iload_n 1, 1) := by decide +kernel
theorem dX11_ahead_65 : decode cX11_ahead 65 = .ok (.iconst 0, 1) := by decide +kernel
theorem dX11_ahead_66 : decode cX11_ahead 66 = .ok (.invokevirtual 163, 3) := by decide +kernel
theorem dX11_ahead_69 : decode cX11_ahead 69 = .ok (.isub, 1) := by decide +kernel
theorem dX11_ahead_70 : decode cX11_ahead 70 = .ok (.laload, 1) := by decide +kernel
theorem dX11_ahead_71 : decode cX11_ahead 71 = .ok (.aload_n 0, 1) := by decide +kernel
theorem dX11_ahead_72 : decode cX11_ahead 72 = .ok (.iload_n 1, 1) := by decide +kernel
theorem dX11_ahead_73 : decode cX11_ahead 73 = .ok (.iload 5, 2) := by decide +kernel
theorem dX11_ahead_75 : decode cX11_ahead 75 = .ok (.invokevirtual 231, 3) := by decide +kernel
theorem dX11_ahead_78 : decode cX11_ahead 78 = .ok (.i2l, 1) := by decide +kernel
theorem dX11_ahead_79 : decode cX11_ahead 79 = .ok (.lsub, 1) := by decide +kernel
theorem dX11_ahead_80 : decode cX11_ahead 80 = .ok (.ladd, 1) := by decide +kernel
theorem dX11_ahead_81 : decode cX11_ahead 81 = .ok (.lstore_n 3, 1) := by decide +kernel
theorem dX11_ahead_82 : decode cX11_ahead 82 = .ok (.iinc 5 1, 3) := by decide +kernel
theorem dX11_ahead_85 : decode cX11_ahead 85 = .ok (.goto (-46), 3) := by decide +kernel
theorem dX11_ahead_88 : decode cX11_ahead 88 = .ok (.lload_n 3, 1) := by decide +kernel
theorem dX11_ahead_89 : decode cX11_ahead 89 = .ok (.l2i, 1) := by decide +kernel
theorem dX11_ahead_90 : decode cX11_ahead 90 = .ok (.ireturn, 1) := by decide +kernel
set_option maxRecDepth 20000 in
theorem ggX11_whyNot_X11_isMonth : GoodIn wsX11_whyNot wsX11_isMonth := goodIn_r _ [5, 6, 7, 4, 8] (by decide +kernel) (by decide +kernel)
set_option maxRecDepth 20000 in
theorem gX11_whyNot_X11_isMonth : GoodIn wsX11_whyNot (va_wsS RX11 170 yX11_isMonth wsX11_isMonth) := goodIn_app (goodIn_of _ (by decide +kernel)) ggX11_whyNot_X11_isMonth
set_option maxRecDepth 20000 in
theorem ggX11_whyNot_X11_isIn : GoodIn wsX11_whyNot wsX11_isIn := goodIn_r _ [8] (by decide +kernel) (by decide +kernel)
set_option maxRecDepth 20000 in
theorem gX11_whyNot_X11_isIn : GoodIn wsX11_whyNot (va_wsS RX11 114 yX11_isIn wsX11_isIn) := goodIn_app (goodIn_of _ (by decide +kernel)) ggX11_whyNot_X11_isIn
set_option maxRecDepth 20000 in
theorem ggX11_whyNot_X11_valueMany : GoodIn wsX11_whyNot wsX11_valueMany := goodIn_r _ [12, 1, 13, 14, 15, 16, 17, 18, 19, 20, 21, 22, 23, 24, 25, 26, 27, 28, 29, 30, 31, 32, 33, 34] (by decide +kernel) (by decide +kernel)
set_option maxRecDepth 20000 in
theorem gX11_whyNot_X11_valueMany : GoodIn wsX11_whyNot (wsV RX11 211 RX11 yX11_valueMany wsX11_valueMany) := goodIn_app (goodIn_of _ (by decide +kernel)) ggX11_whyNot_X11_valueMany
theorem dX11_whyNot_0 : decode cX11_whyNot 0 = .ok (.iload_n 1, 1) := by decide +kernel
theorem dX11_whyNot_1 : decode cX11_whyNot 1 = .ok (.invokestatic 170, 3) := by decide +kernel
theorem dX11_whyNot_4 : decode cX11_whyNot 4 = .ok (.ifCond .eq 25, 3) := by decide +kernel
theorem dX11_whyNot_7 : decode cX11_whyNot 7 = .ok (.iload_n 2, 1) := by decide +kernel
theorem dX11_whyNot_8 : decode cX11_whyNot 8 = .ok (.iconst 1, 1) := by decide +kernel
theorem dX11_whyNot_9 : decode cX11_whyNot 9 = .ok (.sipush 9999, 3) := by decide +kernel
theorem dX11_whyNot_12 : decode cX11_whyNot 12 = .ok (.invokestatic 114, 3) := by decide +kernel
theorem dX11_whyNot_15 : decode cX11_whyNot 15 = .ok (.ifCond .eq 14, 3) := by decide +kernel
theorem dX11_whyNot_18 : decode cX11_whyNot 18 = .ok (.aload_n 0, 1) := by decide +kernel
theorem dX11_whyNot_19 : decode cX11_whyNot 19 = .ok (.getfield 82, 3) := by decide +kernel
theorem dX11_whyNot_22 : decode cX11_whyNot 22 = .ok (.iconst 3, 1) := by decide +kernel
theorem dX11_whyNot_23 : decode cX11_whyNot 23 = .ok (.iload_n 1, 1) := by decide +kernel
theorem dX11_whyNot_24 : decode cX11_whyNot 24 = .ok (.iadd, 1) := by decide +kernel
theorem dX11_whyNot_25 : decode cX11_whyNot 25 = .ok (.iaload, 1) := by decide +kernel
theorem dX11_whyNot_26 : decode cX11_whyNot 26 = .ok (.ifCond .le 5, 3) := by decide +kernel
theorem dX11_whyNot_29 : decode cX11_whyNot 29 = .ok (.iconst (-1), 1) := by decide +kernel
theorem dX11_whyNot_30 : decode cX11_whyNot 30 = .ok (.ireturn, 1) := by decide +kernel
theorem dX11_whyNot_31 : decode cX11_whyNot 31 = .ok (.aload_n 0, 1) := by decide +kernel
theorem dX11_whyNot_32 : decode cX11_whyNot 32 = .ok (.invokevirtual 211, 3) := by decide +kernel
theorem dX11_whyNot_35 : decode cX11_whyNot 35 = .ok (.bipush 40, 2) := by decide +kernel
theorem dX11_whyNot_37 : decode cX11_whyNot 37 = .ok (.if_icmp .ne 8, 3) := by decide +kernel
theorem dX11_whyNot_40 : decode cX11_whyNot 40 = .ok (.bipush (-2), 2) := by decide +kernel
theorem dX11_whyNot_42 : decode cX11_whyNot 42 = .ok (.goto 4, 3) := by decide +kernel
theorem dX11_whyNot_45 : decode cX11_whyNot 45 = .ok (.iconst 0, 1) := by decide +kernel
theorem dX11_whyNot_46 : decode cX11_whyNot 46 = .ok (.ireturn, 1) := by decide +kernel
theorem dX11_tells_0 : decode cX11_tells 0 = .ok (.aload_n 0, 1) := by decide +kernel
theorem dX11_tells_1 : decode cX11_tells 1 = .ok (.getfield 82, 3) := by decide +kernel
theorem dX11_tells_4 : decode cX11_tells 4 = .ok (.iconst 3, 1) := by decide +kernel
theorem dX11_tells_5 : decode cX11_tells 5 = .ok (.iload_n 1, 1) := by decide +kernel
theorem dX11_tells_6 : decode cX11_tells 6 = .ok (.iadd, 1) := by decide +kernel
theorem dX11_tells_7 : decode cX11_tells 7 = .ok (.iload_n 2, 1) := by decide +kernel
theorem dX11_tells_8 : decode cX11_tells 8 = .ok (.iastore, 1) := by decide +kernel
theorem dX11_tells_9 : decode cX11_tells 9 = .ok (.aload_n 0, 1) := by decide +kernel
theorem dX11_tells_10 : decode cX11_tells 10 = .ok (.getfield 82, 3) := by decide +kernel
theorem dX11_tells_13 : decode cX11_tells 13 = .ok (.sipush 243, 3) := by decide +kernel
theorem dX11_tells_16 : decode cX11_tells 16 = .ok (.iload_n 1, 1) := by decide +kernel
theorem dX11_tells_17 : decode cX11_tells 17 = .ok (.iadd, 1) := by decide +kernel
theorem dX11_tells_18 : decode cX11_tells 18 = .ok (.iload_n 2, 1) := by decide +kernel
theorem dX11_tells_19 : decode cX11_tells 19 = .ok (.ifCond .ne 7, 3) := by decide +kernel
theorem dX11_tells_22 : decode cX11_tells 22 = .ok (.iconst 0, 1) := by decide +kernel
theorem dX11_tells_23 : decode cX11_tells 23 = .ok (.goto 9, 3) := by decide +kernel
theorem dX11_tells_26 : decode cX11_tells 26 = .ok (.aload_n 0, 1) := by decide +kernel
theorem dX11_tells_27 : decode cX11_tells 27 = .ok (.getfield 82, 3) := by decide +kernel
theorem dX11_tells_30 : decode cX11_tells 30 = .ok (.iconst 0, 1) := by decide +kernel
theorem dX11_tells_31 : decode cX11_tells 31 = .ok (.iaload, 1) := by decide +kernel
theorem dX11_tells_32 : decode cX11_tells 32 = .ok (.iastore, 1) := by decide +kernel
theorem dX11_tells_33 : decode cX11_tells 33 = .ok (.return_, 1) := by decide +kernel
set_option maxRecDepth 20000 in
theorem ggX11_would_X11_isOf : GoodIn wsX11_would wsX11_isOf := goodIn_r _ [7, 8, 9, 10, 6, 11, 2, 12, 13, 14, 15, 16, 17, 18, 19, 20, 21, 22, 89, 90, 91, 92, 93, 94, 95, 96, 97, 98, 99, 100, 101, 102, 103, 104, 105, 106, 107, 108, 109, 110] (by decide +kernel) (by decide +kernel)
set_option maxRecDepth 20000 in
theorem gX11_would_X11_isOf : GoodIn wsX11_would (wsV RX11 223 RX11 yX11_isOf wsX11_isOf) := goodIn_app (goodIn_of _ (by decide +kernel)) ggX11_would_X11_isOf
set_option maxRecDepth 20000 in
theorem ggX11_would_X11_whyNot : GoodIn wsX11_would wsX11_whyNot := goodIn_r _ [26, 2, 27, 28, 6, 29, 12, 13, 14, 30, 31, 32, 33, 89, 90, 91, 92, 93, 94, 95, 96, 97, 98, 99, 100, 101, 102, 103, 104, 105, 106, 107, 108, 109, 110] (by decide +kernel) (by decide +kernel)
set_option maxRecDepth 20000 in
theorem gX11_would_X11_whyNot : GoodIn wsX11_would (wsV RX11 243 RX11 yX11_whyNot wsX11_whyNot) := goodIn_app (goodIn_of _ (by decide +kernel)) ggX11_would_X11_whyNot
set_option maxRecDepth 20000 in
theorem ggX11_would_X11_tells : GoodIn wsX11_would wsX11_tells := goodIn_r _ [37, 2, 89, 90, 91, 92, 93, 94, 95, 96, 97, 98, 99, 100, 101, 102, 103, 104, 105, 106, 107, 108, 109, 110] (by decide +kernel) (by decide +kernel)
set_option maxRecDepth 20000 in
theorem gX11_would_X11_tells : GoodIn wsX11_would (wsV RX11 246 RX11 yX11_tells wsX11_tells) := goodIn_app (goodIn_of _ (by decide +kernel)) ggX11_would_X11_tells
set_option maxRecDepth 20000 in
theorem ggX11_would_X11_laysRents : GoodIn wsX11_would wsX11_laysRents := goodIn_r _ [41, 42, 43, 44, 45, 46, 47, 48, 15, 16, 17, 6, 18, 2, 49, 50, 51, 52, 53, 54, 55, 56, 57, 58, 59, 60, 61, 62, 63, 64, 65, 66, 67, 68, 69, 70, 71, 72, 27, 28, 29, 12, 13, 14, 73, 74, 75, 76, 77, 78, 79, 80, 81, 82, 83, 84, 89, 90, 91, 92, 93, 94, 95, 96, 97, 98, 99, 100, 101, 102, 103, 104, 105, 106, 107, 108, 109, 110] (by decide +kernel) (by decide +kernel)
set_option maxRecDepth 20000 in
theorem gX11_would_X11_laysRents : GoodIn wsX11_would (wsV RX11 226 RX11 yX11_laysRents wsX11_laysRents) := goodIn_app (goodIn_of _ (by decide +kernel)) ggX11_would_X11_laysRents
set_option maxRecDepth 20000 in
theorem ggX11_would_X11_rentLaid : GoodIn wsX11_would wsX11_rentLaid := goodIn_r _ [88, 42, 15, 16, 17, 6, 18, 2, 49, 50, 51, 52, 89, 90, 91, 92, 93, 94, 95, 96, 97, 98, 99, 100, 101, 102, 103, 104, 105, 106, 107, 108, 109, 110] (by decide +kernel) (by decide +kernel)
set_option maxRecDepth 20000 in
theorem gX11_would_X11_rentLaid : GoodIn wsX11_would (wsV RX11 208 RX11 yX11_rentLaid wsX11_rentLaid) := goodIn_app (goodIn_of _ (by decide +kernel)) ggX11_would_X11_rentLaid
theorem dX11_would_0 : decode cX11_would 0 = .ok (.aload_n 0, 1) := by decide +kernel
theorem dX11_would_1 : decode cX11_would 1 = .ok (.iconst 0, 1) := by decide +kernel
theorem dX11_would_2 : decode cX11_would 2 = .ok (.putfield 1, 3) := by decide +kernel
theorem dX11_would_5 : decode cX11_would 5 = .ok (.aload_n 0, 1) := by decide +kernel
theorem dX11_would_6 : decode cX11_would 6 = .ok (.iload_n 1, 1) := by decide +kernel
theorem dX11_would_7 : decode cX11_would 7 = .ok (.aload_n 0, 1) := by decide +kernel
theorem dX11_would_8 : decode cX11_would 8 = .ok (.getfield 82, 3) := by decide +kernel
theorem dX11_would_11 : decode cX11_would 11 = .ok (.iconst 0, 1) := by decide +kernel
theorem dX11_would_12 : decode cX11_would 12 = .ok (.iaload, 1) := by decide +kernel
theorem dX11_would_13 : decode cX11_would 13 = .ok (.invokevirtual 223, 3) := by decide +kernel
theorem dX11_would_16 : decode cX11_would 16 = .ok (.ifCond .ne 5, 3) := by decide +kernel
theorem dX11_would_19 : decode cX11_would 19 = .ok (.iconst (-1), 1) := by decide +kernel
theorem dX11_would_20 : decode cX11_would 20 = .ok (.ireturn, 1) := by decide +kernel
theorem dX11_would_21 : decode cX11_would 21 = .ok (.aload_n 0, 1) := by decide +kernel
theorem dX11_would_22 : decode cX11_would 22 = .ok (.iload_n 2, 1) := by decide +kernel
theorem dX11_would_23 : decode cX11_would 23 = .ok (.iload_n 3, 1) := by decide +kernel
theorem dX11_would_24 : decode cX11_would 24 = .ok (.invokevirtual 243, 3) := by decide +kernel
theorem dX11_would_27 : decode cX11_would 27 = .ok (.ifCond .ge 10, 3) := by decide +kernel
theorem dX11_would_30 : decode cX11_would 30 = .ok (.aload_n 0, 1) := by decide +kernel
theorem dX11_would_31 : decode cX11_would 31 = .ok (.iload_n 2, 1) := by decide +kernel
theorem dX11_would_32 : decode cX11_would 32 = .ok (.iload_n 3, 1) := by decide +kernel
theorem dX11_would_33 : decode cX11_would 33 = .ok (.invokevirtual 243, 3) := by decide +kernel
theorem dX11_would_36 : decode cX11_would 36 = .ok (.ireturn, 1) := by decide +kernel
theorem dX11_would_37 : decode cX11_would 37 = .ok (.aload_n 0, 1) := by decide +kernel
theorem dX11_would_38 : decode cX11_would 38 = .ok (.iload_n 2, 1) := by decide +kernel
theorem dX11_would_39 : decode cX11_would 39 = .ok (.iload_n 3, 1) := by decide +kernel
theorem dX11_would_40 : decode cX11_would 40 = .ok (.invokevirtual 246, 3) := by decide +kernel
theorem dX11_would_43 : decode cX11_would 43 = .ok (.aload_n 0, 1) := by decide +kernel
theorem dX11_would_44 : decode cX11_would 44 = .ok (.iload_n 1, 1) := by decide +kernel
theorem dX11_would_45 : decode cX11_would 45 = .ok (.aload_n 0, 1) := by decide +kernel
theorem dX11_would_46 : decode cX11_would 46 = .ok (.getfield 82, 3) := by decide +kernel
theorem dX11_would_49 : decode cX11_would 49 = .ok (.iconst 0, 1) := by decide +kernel
theorem dX11_would_50 : decode cX11_would 50 = .ok (.iaload, 1) := by decide +kernel
theorem dX11_would_51 : decode cX11_would 51 = .ok (.invokevirtual 226, 3) := by decide +kernel
theorem dX11_would_54 : decode cX11_would 54 = .ok (.aload_n 0, 1) := by decide +kernel
theorem dX11_would_55 : decode cX11_would 55 = .ok (.iload_n 2, 1) := by decide +kernel
theorem dX11_would_56 : decode cX11_would 56 = .ok (.iconst 0, 1) := by decide +kernel
theorem dX11_would_57 : decode cX11_would 57 = .ok (.invokevirtual 246, 3) := by decide +kernel
theorem dX11_would_60 : decode cX11_would 60 = .ok (.aload_n 0, 1) := by decide +kernel
theorem dX11_would_61 : decode cX11_would 61 = .ok (.iload_n 1, 1) := by decide +kernel
theorem dX11_would_62 : decode cX11_would 62 = .ok (.aload_n 0, 1) := by decide +kernel
theorem dX11_would_63 : decode cX11_would 63 = .ok (.getfield 82, 3) := by decide +kernel
theorem dX11_would_66 : decode cX11_would 66 = .ok (.iconst 0, 1) := by decide +kernel
theorem dX11_would_67 : decode cX11_would 67 = .ok (.iaload, 1) := by decide +kernel
theorem dX11_would_68 : decode cX11_would 68 = .ok (.invokevirtual 208, 3) := by decide +kernel
theorem dX11_would_71 : decode cX11_would 71 = .ok (.ireturn, 1) := by decide +kernel
theorem dX11_snap_0 : decode cX11_snap 0 = .ok (.aload_n 0, 1) := by decide +kernel
theorem dX11_snap_1 : decode cX11_snap 1 = .ok (.getfield 160, 3) := by decide +kernel
theorem dX11_snap_4 : decode cX11_snap 4 = .ok (.bipush 10, 2) := by decide +kernel
theorem dX11_snap_6 : decode cX11_snap 6 = .ok (.if_icmp .ne 44, 3) := by decide +kernel
theorem dX11_snap_9 : decode cX11_snap 9 = .ok (.iconst 0, 1) := by decide +kernel
theorem dX11_snap_10 : decode cX11_snap 10 = .ok (.istore_n 1, 1) := by decide +kernel
theorem dX11_snap_11 : decode cX11_snap 11 = .ok (.iload_n 1, 1) := by decide +kernel
theorem dX11_snap_12 : decode cX11_snap 12 = .ok (.sipush 31347, 3) := by decide +kernel
theorem dX11_snap_15 : decode cX11_snap 15 = .ok (.if_icmp .ge 25, 3) := by decide +kernel
theorem dX11_snap_18 : decode cX11_snap 18 = .ok (.aload_n 0, 1) := by decide +kernel
theorem dX11_snap_19 : decode cX11_snap 19 = .ok (.getfield 89, 3) := by decide +kernel
theorem dX11_snap_22 : decode cX11_snap 22 = .ok (.iload_n 1, 1) := by decide +kernel
theorem dX11_snap_23 : decode cX11_snap 23 = .ok (.aload_n 0, 1) := by decide +kernel
theorem dX11_snap_24 : decode cX11_snap 24 = .ok (.getfield 89, 3) := by decide +kernel
theorem dX11_snap_27 : decode cX11_snap 27 = .ok (.iload_n 1, 1) := by decide +kernel
theorem dX11_snap_28 : decode cX11_snap 28 = .ok (.sipush 3483, 3) := by decide +kernel
theorem dX11_snap_31 : decode cX11_snap 31 = .ok (.iadd, 1) := by decide +kernel
theorem dX11_snap_32 : decode cX11_snap 32 = .ok (.iaload, 1) := by decide +kernel
theorem dX11_snap_33 : decode cX11_snap 33 = .ok (.iastore, 1) := by decide +kernel
theorem dX11_snap_34 : decode cX11_snap 34 = .ok (.iinc 1 1, 3) := by decide +kernel
theorem dX11_snap_37 : decode cX11_snap 37 = .ok (.goto (-26), 3) := by decide +kernel
theorem dX11_snap_40 : decode cX11_snap 40 = .ok (.aload_n 0, 1) := by decide +kernel
theorem dX11_snap_41 : decode cX11_snap 41 = .ok (.dup, 1) := by decide +kernel
theorem dX11_snap_42 : decode cX11_snap 42 = .ok (.getfield 160, 3) := by decide +kernel
theorem dX11_snap_45 : decode cX11_snap 45 = .ok (.iconst 1, 1) := by decide +kernel
theorem dX11_snap_46 : decode cX11_snap 46 = .ok (.isub, 1) := by decide +kernel
theorem dX11_snap_47 : decode cX11_snap 47 = .ok (.putfield 160, 3) := by decide +kernel
theorem dX11_snap_50 : decode cX11_snap 50 = .ok (.iconst 0, 1) := by decide +kernel
theorem dX11_snap_51 : decode cX11_snap 51 = .ok (.istore_n 1, 1) := by decide +kernel
theorem dX11_snap_52 : decode cX11_snap 52 = .ok (.iload_n 1, 1) := by decide +kernel
theorem dX11_snap_53 : decode cX11_snap 53 = .ok (.sipush 3483, 3) := by decide +kernel
theorem dX11_snap_56 : decode cX11_snap 56 = .ok (.if_icmp .ge 30, 3) := by decide +kernel
theorem dX11_snap_59 : decode cX11_snap 59 = .ok (.aload_n 0, 1) := by decide +kernel
theorem dX11_snap_60 : decode cX11_snap 60 = .ok (.getfield 89, 3) := by decide +kernel
theorem dX11_snap_63 : decode cX11_snap 63 = .ok (.sipush 3483, 3) := by decide +kernel
theorem dX11_snap_66 : decode cX11_snap 66 = .ok (.aload_n 0, 1) := by decide +kernel
theorem dX11_snap_67 : decode cX11_snap 67 = .ok (.getfield 160, 3) := by decide +kernel
theorem dX11_snap_70 : decode cX11_snap 70 = .ok (.imul, 1) := by decide +kernel
theorem dX11_snap_71 : decode cX11_snap 71 = .ok (.iload_n 1, 1) := by decide +kernel
theorem dX11_snap_72 : decode cX11_snap 72 = .ok (.iadd, 1) := by decide +kernel
theorem dX11_snap_73 : decode cX11_snap 73 = .ok (.aload_n 0, 1) := by decide +kernel
theorem dX11_snap_74 : decode cX11_snap 74 = .ok (.getfield 82, 3) := by decide +kernel
theorem dX11_snap_77 : decode cX11_snap 77 = .ok (.iload_n 1, 1) := by decide +kernel
theorem dX11_snap_78 : decode cX11_snap 78 = .ok (.iaload, 1) := by decide +kernel
theorem dX11_snap_79 : decode cX11_snap 79 = .ok (.iastore, 1) := by decide +kernel
theorem dX11_snap_80 : decode cX11_snap 80 = .ok (.iinc 1 1, 3) := by decide +kernel
theorem dX11_snap_83 : decode cX11_snap 83 = .ok (.goto (-31), 3) := by decide +kernel
theorem dX11_snap_86 : decode cX11_snap 86 = .ok (.aload_n 0, 1) := by decide +kernel
theorem dX11_snap_87 : decode cX11_snap 87 = .ok (.dup, 1) := by decide +kernel
theorem dX11_snap_88 : decode cX11_snap 88 = .ok (.getfield 160, 3) := by decide +kernel
theorem dX11_snap_91 : decode cX11_snap 91 = .ok (.iconst 1, 1) := by decide +kernel
theorem dX11_snap_92 : decode cX11_snap 92 = .ok (.iadd, 1) := by decide +kernel
theorem dX11_snap_93 : decode cX11_snap 93 = .ok (.putfield 160, 3) := by decide +kernel
theorem dX11_snap_96 : decode cX11_snap 96 = .ok (.return_, 1) := by decide +kernel
set_option maxRecDepth 20000 in
theorem ggX11_publish_X11_whyNot : GoodIn wsX11_publish wsX11_whyNot := goodIn_r _ [6, 7, 8, 9, 5, 10, 11, 12, 13, 14, 15, 16, 17, 28, 29, 30, 31, 32, 33, 34, 35, 36, 37, 38, 39, 40, 41, 42, 43, 44, 45, 46, 47, 48, 49] (by decide +kernel) (by decide +kernel)
set_option maxRecDepth 20000 in
theorem gX11_publish_X11_whyNot : GoodIn wsX11_publish (wsV RX11 243 RX11 yX11_whyNot wsX11_whyNot) := goodIn_app (goodIn_of _ (by decide +kernel)) ggX11_publish_X11_whyNot
set_option maxRecDepth 20000 in
theorem ggX11_publish_X11_snap : GoodIn wsX11_publish wsX11_snap := goodIn_r _ [21, 22, 23, 7, 28, 29, 30, 31, 32, 33, 34, 35, 36, 37, 38, 39, 40, 41, 42, 43, 44, 45, 46, 47, 48, 49] (by decide +kernel) (by decide +kernel)
set_option maxRecDepth 20000 in
theorem gX11_publish_X11_snap : GoodIn wsX11_publish (wsV RX11 249 RX11 yX11_snap wsX11_snap) := goodIn_app (goodIn_of _ (by decide +kernel)) ggX11_publish_X11_snap
set_option maxRecDepth 20000 in
theorem ggX11_publish_X11_tells : GoodIn wsX11_publish wsX11_tells := goodIn_r _ [27, 7, 28, 29, 30, 31, 32, 33, 34, 35, 36, 37, 38, 39, 40, 41, 42, 43, 44, 45, 46, 47, 48, 49] (by decide +kernel) (by decide +kernel)
set_option maxRecDepth 20000 in
theorem gX11_publish_X11_tells : GoodIn wsX11_publish (wsV RX11 246 RX11 yX11_tells wsX11_tells) := goodIn_app (goodIn_of _ (by decide +kernel)) ggX11_publish_X11_tells
set_option maxRecDepth 20000 in
theorem ggX11_publish_X11_valueMany : GoodIn wsX11_publish wsX11_valueMany := goodIn_r _ [17, 7, 28, 29, 30, 31, 32, 33, 34, 35, 36, 37, 38, 39, 40, 41, 42, 43, 44, 45, 46, 47, 48, 49] (by decide +kernel) (by decide +kernel)
set_option maxRecDepth 20000 in
theorem gX11_publish_X11_valueMany : GoodIn wsX11_publish (wsV RX11 211 RX11 yX11_valueMany wsX11_valueMany) := goodIn_app (goodIn_of _ (by decide +kernel)) ggX11_publish_X11_valueMany
theorem dX11_publish_0 : decode cX11_publish 0 = .ok (.aload_n 0, 1) := by decide +kernel
theorem dX11_publish_1 : decode cX11_publish 1 = .ok (.iconst 0, 1) := by decide +kernel
theorem dX11_publish_2 : decode cX11_publish 2 = .ok (.putfield 1, 3) := by decide +kernel
theorem dX11_publish_5 : decode cX11_publish 5 = .ok (.aload_n 0, 1) := by decide +kernel
theorem dX11_publish_6 : decode cX11_publish 6 = .ok (.iload_n 1, 1) := by decide +kernel
theorem dX11_publish_7 : decode cX11_publish 7 = .ok (.iload_n 2, 1) := by decide +kernel
theorem dX11_publish_8 : decode cX11_publish 8 = .ok (.invokevirtual 243, 3) := by decide +kernel
theorem dX11_publish_11 : decode cX11_publish 11 = .ok (.ifCond .ge 10, 3) := by decide +kernel
theorem dX11_publish_14 : decode cX11_publish 14 = .ok (.aload_n 0, 1) := by decide +kernel
theorem dX11_publish_15 : decode cX11_publish 15 = .ok (.iload_n 1, 1) := by decide +kernel
theorem dX11_publish_16 : decode cX11_publish 16 = .ok (.iload_n 2, 1) := by decide +kernel
theorem dX11_publish_17 : decode cX11_publish 17 = .ok (.invokevirtual 243, 3) := by decide +kernel
theorem dX11_publish_20 : decode cX11_publish 20 = .ok (.ireturn, 1) := by decide +kernel
theorem dX11_publish_21 : decode cX11_publish 21 = .ok (.aload_n 0, 1) := by decide +kernel
theorem dX11_publish_22 : decode cX11_publish 22 = .ok (.invokevirtual 249, 3) := by decide +kernel
theorem dX11_publish_25 : decode cX11_publish 25 = .ok (.aload_n 0, 1) := by decide +kernel
theorem dX11_publish_26 : decode cX11_publish 26 = .ok (.iload_n 1, 1) := by decide +kernel
theorem dX11_publish_27 : decode cX11_publish 27 = .ok (.iload_n 2, 1) := by decide +kernel
theorem dX11_publish_28 : decode cX11_publish 28 = .ok (.invokevirtual 246, 3) := by decide +kernel
theorem dX11_publish_31 : decode cX11_publish 31 = .ok (.aload_n 0, 1) := by decide +kernel
theorem dX11_publish_32 : decode cX11_publish 32 = .ok (.invokevirtual 211, 3) := by decide +kernel
theorem dX11_publish_35 : decode cX11_publish 35 = .ok (.ireturn, 1) := by decide +kernel
set_option maxRecDepth 20000 in
theorem ggX11_market_X11_isLease : GoodIn wsX11_market wsX11_isLease := goodIn_r _ [8, 3, 9, 10, 7, 11, 30, 31, 32, 33, 34, 35, 36, 37, 38, 39, 40, 41, 42, 43, 44, 45, 46, 47, 48, 49, 50, 51] (by decide +kernel) (by decide +kernel)
set_option maxRecDepth 20000 in
theorem gX11_market_X11_isLease : GoodIn wsX11_market (wsV RX11 214 RX11 yX11_isLease wsX11_isLease) := goodIn_app (goodIn_of _ (by decide +kernel)) ggX11_market_X11_isLease
set_option maxRecDepth 20000 in
theorem ggX11_market_X11_its : GoodIn wsX11_market wsX11_its := goodIn_r _ [15, 3, 30, 31, 32, 33, 34, 35, 36, 37, 38, 39, 40, 41, 42, 43, 44, 45, 46, 47, 48, 49, 50, 51] (by decide +kernel) (by decide +kernel)
set_option maxRecDepth 20000 in
theorem gX11_market_X11_its : GoodIn wsX11_market (wsV RX11 163 RX11 yX11_its wsX11_its) := goodIn_app (goodIn_of _ (by decide +kernel)) ggX11_market_X11_its
set_option maxRecDepth 20000 in
theorem ggX11_market_X11_reviewsOf : GoodIn wsX11_market wsX11_reviewsOf := goodIn_r _ [19, 12, 13, 14, 7, 15, 3, 30, 31, 32, 33, 34, 35, 36, 37, 38, 39, 40, 41, 42, 43, 44, 45, 46, 47, 48, 49, 50, 51] (by decide +kernel) (by decide +kernel)
set_option maxRecDepth 20000 in
theorem gX11_market_X11_reviewsOf : GoodIn wsX11_market (wsV RX11 199 RX11 yX11_reviewsOf wsX11_reviewsOf) := goodIn_app (goodIn_of _ (by decide +kernel)) ggX11_market_X11_reviewsOf
set_option maxRecDepth 20000 in
theorem ggX11_market_X11_isIn : GoodIn wsX11_market wsX11_isIn := goodIn_r _ [11] (by decide +kernel) (by decide +kernel)
set_option maxRecDepth 20000 in
theorem gX11_market_X11_isIn : GoodIn wsX11_market (va_wsS RX11 114 yX11_isIn wsX11_isIn) := goodIn_app (goodIn_of _ (by decide +kernel)) ggX11_market_X11_isIn
set_option maxRecDepth 20000 in
theorem ggX11_market_X11_snap : GoodIn wsX11_market wsX11_snap := goodIn_r _ [23, 24, 25, 3, 30, 31, 32, 33, 34, 35, 36, 37, 38, 39, 40, 41, 42, 43, 44, 45, 46, 47, 48, 49, 50, 51] (by decide +kernel) (by decide +kernel)
set_option maxRecDepth 20000 in
theorem gX11_market_X11_snap : GoodIn wsX11_market (wsV RX11 249 RX11 yX11_snap wsX11_snap) := goodIn_app (goodIn_of _ (by decide +kernel)) ggX11_market_X11_snap
set_option maxRecDepth 20000 in
theorem ggX11_market_X11_monthOf : GoodIn wsX11_market wsX11_monthOf := goodIn_r _ [29, 12, 13, 14, 7, 15, 3, 30, 31, 32, 33, 34, 35, 36, 37, 38, 39, 40, 41, 42, 43, 44, 45, 46, 47, 48, 49, 50, 51] (by decide +kernel) (by decide +kernel)
set_option maxRecDepth 20000 in
theorem gX11_market_X11_monthOf : GoodIn wsX11_market (wsV RX11 184 RX11 yX11_monthOf wsX11_monthOf) := goodIn_app (goodIn_of _ (by decide +kernel)) ggX11_market_X11_monthOf
theorem dX11_market_0 : decode cX11_market 0 = .ok (.aload_n 0, 1) := by decide +kernel
theorem dX11_market_1 : decode cX11_market 1 = .ok (.iconst 0, 1) := by decide +kernel
theorem dX11_market_2 : decode cX11_market 2 = .ok (.putfield 1, 3) := by decide +kernel
theorem dX11_market_5 : decode cX11_market 5 = .ok (.aload_n 0, 1) := by decide +kernel
theorem dX11_market_6 : decode cX11_market 6 = .ok (.iload_n 1, 1) := by decide +kernel
theorem dX11_market_7 : decode cX11_market 7 = .ok (.invokevirtual 214, 3) := by decide +kernel
theorem dX11_market_10 : decode cX11_market 10 = .ok (.ifCond .eq 48, 3) := by decide +kernel
theorem dX11_market_13 : decode cX11_market 13 = .ok (.aload_n 0, 1) := by decide +kernel
theorem dX11_market_14 : decode cX11_market 14 = .ok (.iload_n 1, 1) := by decide +kernel
theorem dX11_market_15 : decode cX11_market 15 = .ok (.iconst 5, 1) := by decide +kernel
theorem dX11_market_16 : decode cX11_market 16 = .ok (.invokevirtual 163, 3) := by decide +kernel
theorem dX11_market_19 : decode cX11_market 19 = .ok (.iconst 2, 1) := by decide +kernel
theorem dX11_market_20 : decode cX11_market 20 = .ok (.if_icmp .ne 38, 3) := by decide +kernel
theorem dX11_market_23 : decode cX11_market 23 = .ok (.iload_n 2, 1) := by decide +kernel
theorem dX11_market_24 : decode cX11_market 24 = .ok (.iconst 1, 1) := by decide +kernel
theorem dX11_market_25 : decode cX11_market 25 = .ok (.aload_n 0, 1) := by decide +kernel
theorem dX11_market_26 : decode cX11_market 26 = .ok (.iload_n 1, 1) := by decide +kernel
theorem dX11_market_27 : decode cX11_market 27 = .ok (.invokevirtual 199, 3) := by decide +kernel
theorem dX11_market_30 : decode cX11_market 30 = .ok (.invokestatic 114, 3) := by decide +kernel
theorem dX11_market_33 : decode cX11_market 33 = .ok (.ifCond .eq 25, 3) := by decide +kernel
theorem dX11_market_36 : decode cX11_market 36 = .ok (.iload_n 3, 1) := by decide +kernel
theorem dX11_market_37 : decode cX11_market 37 = .ok (.iconst 1, 1) := by decide +kernel
theorem dX11_market_38 : decode cX11_market 38 = .ok (.ldc 131, 2) := by decide +kernel
theorem dX11_market_40 : decode cX11_market 40 = .ok (.invokestatic 114, 3) := by decide +kernel
theorem dX11_market_43 : decode cX11_market 43 = .ok (.ifCond .eq 15, 3) := by decide +kernel
theorem dX11_market_46 : decode cX11_market 46 = .ok (.aload_n 0, 1) := by decide +kernel
theorem dX11_market_47 : decode cX11_market 47 = .ok (.iload_n 1, 1) := by decide +kernel
theorem dX11_market_48 : decode cX11_market 48 = .ok (.bipush 20, 2) := by decide +kernel
theorem dX11_market_50 : decode cX11_market 50 = .ok (.iload_n 2, 1) := by decide +kernel
theorem dX11_market_51 : decode cX11_market 51 = .ok (.iadd, 1) := by decide +kernel
theorem dX11_market_52 : decode cX11_market 52 = .ok (.invokevirtual 163, 3) := by decide +kernel
theorem dX11_market_55 : decode cX11_market 55 = .ok (.ifCond .le 5, 3) := by decide +kernel
theorem dX11_market_58 : decode cX11_market 58 = .ok (.iconst (-1), 1) := by decide +kernel
theorem dX11_market_59 : decode cX11_market 59 = .ok (.ireturn, 1) := by decide +kernel
theorem dX11_market_60 : decode cX11_market 60 = .ok (.aload_n 0, 1) := by decide +kernel
theorem dX11_market_61 : decode cX11_market 61 = .ok (.invokevirtual 249, 3) := by decide +kernel
theorem dX11_market_64 : decode cX11_market 64 = .ok (.aload_n 0, 1) := by decide +kernel
theorem dX11_market_65 : decode cX11_market 65 = .ok (.getfield 82, 3) := by decide +kernel
theorem dX11_market_68 : decode cX11_market 68 = .ok (.sipush 483, 3) := by decide +kernel
theorem dX11_market_71 : decode cX11_market 71 = .ok (.sipush 500, 3) := by decide +kernel
theorem dX11_market_74 : decode cX11_market 74 = .ok (.iload_n 1, 1) := by decide +kernel
theorem dX11_market_75 : decode cX11_market 75 = .ok (.imul, 1) := by decide +kernel
theorem dX11_market_76 : decode cX11_market 76 = .ok (.iadd, 1) := by decide +kernel
theorem dX11_market_77 : decode cX11_market 77 = .ok (.bipush 20, 2) := by decide +kernel
theorem dX11_market_79 : decode cX11_market 79 = .ok (.iadd, 1) := by decide +kernel
theorem dX11_market_80 : decode cX11_market 80 = .ok (.iload_n 2, 1) := by decide +kernel
theorem dX11_market_81 : decode cX11_market 81 = .ok (.iadd, 1) := by decide +kernel
theorem dX11_market_82 : decode cX11_market 82 = .ok (.iload_n 3, 1) := by decide +kernel
theorem dX11_market_83 : decode cX11_market 83 = .ok (.iastore, 1) := by decide +kernel
theorem dX11_market_84 : decode cX11_market 84 = .ok (.aload_n 0, 1) := by decide +kernel
theorem dX11_market_85 : decode cX11_market 85 = .ok (.getfield 82, 3) := by decide +kernel
theorem dX11_market_88 : decode cX11_market 88 = .ok (.sipush 483, 3) := by decide +kernel
theorem dX11_market_91 : decode cX11_market 91 = .ok (.sipush 500, 3) := by decide +kernel
theorem dX11_market_94 : decode cX11_market 94 = .ok (.iload_n 1, 1) := by decide +kernel
theorem dX11_market_95 : decode cX11_market 95 = .ok (.imul, 1) := by decide +kernel
theorem dX11_market_96 : decode cX11_market 96 = .ok (.iadd, 1) := by decide +kernel
theorem dX11_market_97 : decode cX11_market 97 = .ok (.sipush 140, 3) := by decide +kernel
theorem dX11_market_100 : decode cX11_market 100 = .ok (.iadd, 1) := by decide +kernel
theorem dX11_market_101 : decode cX11_market 101 = .ok (.iload_n 2, 1) := by decide +kernel
theorem dX11_market_102 : decode cX11_market 102 = .ok (.iadd, 1) := by decide +kernel
theorem dX11_market_103 : decode cX11_market 103 = .ok (.aload_n 0, 1) := by decide +kernel
theorem dX11_market_104 : decode cX11_market 104 = .ok (.getfield 82, 3) := by decide +kernel
theorem dX11_market_107 : decode cX11_market 107 = .ok (.iconst 0, 1) := by decide +kernel
theorem dX11_market_108 : decode cX11_market 108 = .ok (.iaload, 1) := by decide +kernel
theorem dX11_market_109 : decode cX11_market 109 = .ok (.iastore, 1) := by decide +kernel
theorem dX11_market_110 : decode cX11_market 110 = .ok (.aload_n 0, 1) := by decide +kernel
theorem dX11_market_111 : decode cX11_market 111 = .ok (.iload_n 1, 1) := by decide +kernel
theorem dX11_market_112 : decode cX11_market 112 = .ok (.iload_n 2, 1) := by decide +kernel
theorem dX11_market_113 : decode cX11_market 113 = .ok (.invokevirtual 184, 3) := by decide +kernel
theorem dX11_market_116 : decode cX11_market 116 = .ok (.ireturn, 1) := by decide +kernel
set_option maxRecDepth 20000 in
theorem ggX11_turnover_X11_isOf : GoodIn wsX11_turnover wsX11_isOf := goodIn_r _ [8, 9, 10, 11, 7, 12, 3, 13, 14, 15, 16, 17, 18, 19, 20, 21, 22, 23, 30, 31, 32, 33, 34, 35, 36, 37, 38, 39, 40, 41, 42, 43, 44, 45, 46, 47, 48, 49, 50, 51] (by decide +kernel) (by decide +kernel)
set_option maxRecDepth 20000 in
theorem gX11_turnover_X11_isOf : GoodIn wsX11_turnover (wsV RX11 223 RX11 yX11_isOf wsX11_isOf) := goodIn_app (goodIn_of _ (by decide +kernel)) ggX11_turnover_X11_isOf
set_option maxRecDepth 20000 in
theorem ggX11_turnover_X11_its : GoodIn wsX11_turnover wsX11_its := goodIn_r _ [19, 3, 30, 31, 32, 33, 34, 35, 36, 37, 38, 39, 40, 41, 42, 43, 44, 45, 46, 47, 48, 49, 50, 51] (by decide +kernel) (by decide +kernel)
set_option maxRecDepth 20000 in
theorem gX11_turnover_X11_its : GoodIn wsX11_turnover (wsV RX11 163 RX11 yX11_its wsX11_its) := goodIn_app (goodIn_of _ (by decide +kernel)) ggX11_turnover_X11_its
set_option maxRecDepth 20000 in
theorem ggX11_turnover_X11_isIn : GoodIn wsX11_turnover wsX11_isIn := goodIn_r _ [15] (by decide +kernel) (by decide +kernel)
set_option maxRecDepth 20000 in
theorem gX11_turnover_X11_isIn : GoodIn wsX11_turnover (va_wsS RX11 114 yX11_isIn wsX11_isIn) := goodIn_app (goodIn_of _ (by decide +kernel)) ggX11_turnover_X11_isIn
set_option maxRecDepth 20000 in
theorem ggX11_turnover_X11_snap : GoodIn wsX11_turnover wsX11_snap := goodIn_r _ [27, 28, 29, 3, 30, 31, 32, 33, 34, 35, 36, 37, 38, 39, 40, 41, 42, 43, 44, 45, 46, 47, 48, 49, 50, 51] (by decide +kernel) (by decide +kernel)
set_option maxRecDepth 20000 in
theorem gX11_turnover_X11_snap : GoodIn wsX11_turnover (wsV RX11 249 RX11 yX11_snap wsX11_snap) := goodIn_app (goodIn_of _ (by decide +kernel)) ggX11_turnover_X11_snap
theorem dX11_turnover_0 : decode cX11_turnover 0 = .ok (.aload_n 0, 1) := by decide +kernel
theorem dX11_turnover_1 : decode cX11_turnover 1 = .ok (.iconst 0, 1) := by decide +kernel
theorem dX11_turnover_2 : decode cX11_turnover 2 = .ok (.putfield 1, 3) := by decide +kernel
theorem dX11_turnover_5 : decode cX11_turnover 5 = .ok (.aload_n 0, 1) := by decide +kernel
theorem dX11_turnover_6 : decode cX11_turnover 6 = .ok (.iload_n 1, 1) := by decide +kernel
theorem dX11_turnover_7 : decode cX11_turnover 7 = .ok (.iload_n 2, 1) := by decide +kernel
theorem dX11_turnover_8 : decode cX11_turnover 8 = .ok (.invokevirtual 223, 3) := by decide +kernel
theorem dX11_turnover_11 : decode cX11_turnover 11 = .ok (.ifCond .eq 43, 3) := by decide +kernel
theorem dX11_turnover_14 : decode cX11_turnover 14 = .ok (.aload_n 0, 1) := by decide +kernel
theorem dX11_turnover_15 : decode cX11_turnover 15 = .ok (.iload_n 1, 1) := by decide +kernel
theorem dX11_turnover_16 : decode cX11_turnover 16 = .ok (.iconst 5, 1) := by decide +kernel
theorem dX11_turnover_17 : decode cX11_turnover 17 = .ok (.invokevirtual 163, 3) := by decide +kernel
theorem dX11_turnover_20 : decode cX11_turnover 20 = .ok (.iconst 3, 1) := by decide +kernel
theorem dX11_turnover_21 : decode cX11_turnover 21 = .ok (.if_icmp .ne 33, 3) := by decide +kernel
theorem dX11_turnover_24 : decode cX11_turnover 24 = .ok (.iload_n 3, 1) := by decide +kernel
theorem dX11_turnover_25 : decode cX11_turnover 25 = .ok (.iconst 0, 1) := by decide +kernel
theorem dX11_turnover_26 : decode cX11_turnover 26 = .ok (.ldc 252, 2) := by decide +kernel
theorem dX11_turnover_28 : decode cX11_turnover 28 = .ok (.invokestatic 114, 3) := by decide +kernel
theorem dX11_turnover_31 : decode cX11_turnover 31 = .ok (.ifCond .eq 23, 3) := by decide +kernel
theorem dX11_turnover_34 : decode cX11_turnover 34 = .ok (.aload_n 0, 1) := by decide +kernel
theorem dX11_turnover_35 : decode cX11_turnover 35 = .ok (.iload_n 1, 1) := by decide +kernel
theorem dX11_turnover_36 : decode cX11_turnover 36 = .ok (.sipush 260, 3) := by decide +kernel
theorem dX11_turnover_39 : decode cX11_turnover 39 = .ok (.iload_n 2, 1) := by decide +kernel
theorem dX11_turnover_40 : decode cX11_turnover 40 = .ok (.iadd, 1) := by decide +kernel
theorem dX11_turnover_41 : decode cX11_turnover 41 = .ok (.aload_n 0, 1) := by decide +kernel
theorem dX11_turnover_42 : decode cX11_turnover 42 = .ok (.iload_n 1, 1) := by decide +kernel
theorem dX11_turnover_43 : decode cX11_turnover 43 = .ok (.iconst 0, 1) := by decide +kernel
theorem dX11_turnover_44 : decode cX11_turnover 44 = .ok (.invokevirtual 163, 3) := by decide +kernel
theorem dX11_turnover_47 : decode cX11_turnover 47 = .ok (.isub, 1) := by decide +kernel
theorem dX11_turnover_48 : decode cX11_turnover 48 = .ok (.invokevirtual 163, 3) := by decide +kernel
theorem dX11_turnover_51 : decode cX11_turnover 51 = .ok (.ifCond .le 5, 3) := by decide +kernel
theorem dX11_turnover_54 : decode cX11_turnover 54 = .ok (.iconst 0, 1) := by decide +kernel
theorem dX11_turnover_55 : decode cX11_turnover 55 = .ok (.ireturn, 1) := by decide +kernel
theorem dX11_turnover_56 : decode cX11_turnover 56 = .ok (.aload_n 0, 1) := by decide +kernel
theorem dX11_turnover_57 : decode cX11_turnover 57 = .ok (.invokevirtual 249, 3) := by decide +kernel
theorem dX11_turnover_60 : decode cX11_turnover 60 = .ok (.aload_n 0, 1) := by decide +kernel
theorem dX11_turnover_61 : decode cX11_turnover 61 = .ok (.getfield 82, 3) := by decide +kernel
theorem dX11_turnover_64 : decode cX11_turnover 64 = .ok (.sipush 483, 3) := by decide +kernel
theorem dX11_turnover_67 : decode cX11_turnover 67 = .ok (.sipush 500, 3) := by decide +kernel
theorem dX11_turnover_70 : decode cX11_turnover 70 = .ok (.iload_n 1, 1) := by decide +kernel
theorem dX11_turnover_71 : decode cX11_turnover 71 = .ok (.imul, 1) := by decide +kernel
theorem dX11_turnover_72 : decode cX11_turnover 72 = .ok (.iadd, 1) := by decide +kernel
theorem dX11_turnover_73 : decode cX11_turnover 73 = .ok (.sipush 260, 3) := by decide +kernel
theorem dX11_turnover_76 : decode cX11_turnover 76 = .ok (.iadd, 1) := by decide +kernel
theorem dX11_turnover_77 : decode cX11_turnover 77 = .ok (.iload_n 2, 1) := by decide +kernel
theorem dX11_turnover_78 : decode cX11_turnover 78 = .ok (.iadd, 1) := by decide +kernel
theorem dX11_turnover_79 : decode cX11_turnover 79 = .ok (.aload_n 0, 1) := by decide +kernel
theorem dX11_turnover_80 : decode cX11_turnover 80 = .ok (.iload_n 1, 1) := by decide +kernel
theorem dX11_turnover_81 : decode cX11_turnover 81 = .ok (.iconst 0, 1) := by decide +kernel
theorem dX11_turnover_82 : decode cX11_turnover 82 = .ok (.invokevirtual 163, 3) := by decide +kernel
theorem dX11_turnover_85 : decode cX11_turnover 85 = .ok (.isub, 1) := by decide +kernel
theorem dX11_turnover_86 : decode cX11_turnover 86 = .ok (.iload_n 3, 1) := by decide +kernel
theorem dX11_turnover_87 : decode cX11_turnover 87 = .ok (.iconst 1, 1) := by decide +kernel
theorem dX11_turnover_88 : decode cX11_turnover 88 = .ok (.iadd, 1) := by decide +kernel
theorem dX11_turnover_89 : decode cX11_turnover 89 = .ok (.iastore, 1) := by decide +kernel
theorem dX11_turnover_90 : decode cX11_turnover 90 = .ok (.aload_n 0, 1) := by decide +kernel
theorem dX11_turnover_91 : decode cX11_turnover 91 = .ok (.getfield 82, 3) := by decide +kernel
theorem dX11_turnover_94 : decode cX11_turnover 94 = .ok (.sipush 483, 3) := by decide +kernel
theorem dX11_turnover_97 : decode cX11_turnover 97 = .ok (.sipush 500, 3) := by decide +kernel
theorem dX11_turnover_100 : decode cX11_turnover 100 = .ok (.iload_n 1, 1) := by decide +kernel
theorem dX11_turnover_101 : decode cX11_turnover 101 = .ok (.imul, 1) := by decide +kernel
theorem dX11_turnover_102 : decode cX11_turnover 102 = .ok (.iadd, 1) := by decide +kernel
theorem dX11_turnover_103 : decode cX11_turnover 103 = .ok (.sipush 380, 3) := by decide +kernel
theorem dX11_turnover_106 : decode cX11_turnover 106 = .ok (.iadd, 1) := by decide +kernel
theorem dX11_turnover_107 : decode cX11_turnover 107 = .ok (.iload_n 2, 1) := by decide +kernel
theorem dX11_turnover_108 : decode cX11_turnover 108 = .ok (.iadd, 1) := by decide +kernel
theorem dX11_turnover_109 : decode cX11_turnover 109 = .ok (.aload_n 0, 1) := by decide +kernel
theorem dX11_turnover_110 : decode cX11_turnover 110 = .ok (.iload_n 1, 1) := by decide +kernel
theorem dX11_turnover_111 : decode cX11_turnover 111 = .ok (.iconst 0, 1) := by decide +kernel
theorem dX11_turnover_112 : decode cX11_turnover 112 = .ok (.invokevirtual 163, 3) := by decide +kernel
theorem dX11_turnover_115 : decode cX11_turnover 115 = .ok (.isub, 1) := by decide +kernel
theorem dX11_turnover_116 : decode cX11_turnover 116 = .ok (.aload_n 0, 1) := by decide +kernel
theorem dX11_turnover_117 : decode cX11_turnover 117 = .ok (.getfield 82, 3) := by decide +kernel
theorem dX11_turnover_120 : decode cX11_turnover 120 = .ok (.iconst 0, 1) := by decide +kernel
theorem dX11_turnover_121 : decode cX11_turnover 121 = .ok (.iaload, 1) := by decide +kernel
theorem dX11_turnover_122 : decode cX11_turnover 122 = .ok (.iastore, 1) := by decide +kernel
theorem dX11_turnover_123 : decode cX11_turnover 123 = .ok (.iconst 1, 1) := by decide +kernel
theorem dX11_turnover_124 : decode cX11_turnover 124 = .ok (.ireturn, 1) := by decide +kernel
set_option maxRecDepth 20000 in
theorem ggX11_breaks_X11_isLease : GoodIn wsX11_breaks wsX11_isLease := goodIn_r _ [7, 2, 8, 9, 6, 10, 25, 26, 27, 28, 29, 30, 31, 32, 33, 34, 35, 36, 37, 38, 39, 40, 41, 42, 43, 44, 45, 46] (by decide +kernel) (by decide +kernel)
set_option maxRecDepth 20000 in
theorem gX11_breaks_X11_isLease : GoodIn wsX11_breaks (wsV RX11 214 RX11 yX11_isLease wsX11_isLease) := goodIn_app (goodIn_of _ (by decide +kernel)) ggX11_breaks_X11_isLease
set_option maxRecDepth 20000 in
theorem ggX11_breaks_X11_hasPart : GoodIn wsX11_breaks wsX11_hasPart := goodIn_r _ [14, 15, 16, 17, 6, 18, 2, 25, 26, 27, 28, 29, 30, 31, 32, 33, 34, 35, 36, 37, 38, 39, 40, 41, 42, 43, 44, 45, 46] (by decide +kernel) (by decide +kernel)
set_option maxRecDepth 20000 in
theorem gX11_breaks_X11_hasPart : GoodIn wsX11_breaks (wsV RX11 194 RX11 yX11_hasPart wsX11_hasPart) := goodIn_app (goodIn_of _ (by decide +kernel)) ggX11_breaks_X11_hasPart
set_option maxRecDepth 20000 in
theorem ggX11_breaks_X11_its : GoodIn wsX11_breaks wsX11_its := goodIn_r _ [18, 2, 25, 26, 27, 28, 29, 30, 31, 32, 33, 34, 35, 36, 37, 38, 39, 40, 41, 42, 43, 44, 45, 46] (by decide +kernel) (by decide +kernel)
set_option maxRecDepth 20000 in
theorem gX11_breaks_X11_its : GoodIn wsX11_breaks (wsV RX11 163 RX11 yX11_its wsX11_its) := goodIn_app (goodIn_of _ (by decide +kernel)) ggX11_breaks_X11_its
set_option maxRecDepth 20000 in
theorem ggX11_breaks_X11_snap : GoodIn wsX11_breaks wsX11_snap := goodIn_r _ [22, 23, 24, 2, 25, 26, 27, 28, 29, 30, 31, 32, 33, 34, 35, 36, 37, 38, 39, 40, 41, 42, 43, 44, 45, 46] (by decide +kernel) (by decide +kernel)
set_option maxRecDepth 20000 in
theorem gX11_breaks_X11_snap : GoodIn wsX11_breaks (wsV RX11 249 RX11 yX11_snap wsX11_snap) := goodIn_app (goodIn_of _ (by decide +kernel)) ggX11_breaks_X11_snap
theorem dX11_breaks_0 : decode cX11_breaks 0 = .ok (.aload_n 0, 1) := by decide +kernel
theorem dX11_breaks_1 : decode cX11_breaks 1 = .ok (.iconst 0, 1) := by decide +kernel
theorem dX11_breaks_2 : decode cX11_breaks 2 = .ok (.putfield 1, 3) := by decide +kernel
theorem dX11_breaks_5 : decode cX11_breaks 5 = .ok (.aload_n 0, 1) := by decide +kernel
theorem dX11_breaks_6 : decode cX11_breaks 6 = .ok (.iload_n 1, 1) := by decide +kernel
theorem dX11_breaks_7 : decode cX11_breaks 7 = .ok (.invokevirtual 214, 3) := by decide +kernel
theorem dX11_breaks_10 : decode cX11_breaks 10 = .ok (.ifCond .eq 39, 3) := by decide +kernel
theorem dX11_breaks_13 : decode cX11_breaks 13 = .ok (.aload_n 0, 1) := by decide +kernel
theorem dX11_breaks_14 : decode cX11_breaks 14 = .ok (.iload_n 1, 1) := by decide +kernel
theorem dX11_breaks_15 : decode cX11_breaks 15 = .ok (.bipush 16, 2) := by decide +kernel
theorem dX11_breaks_17 : decode cX11_breaks 17 = .ok (.invokevirtual 194, 3) := by decide +kernel
theorem dX11_breaks_20 : decode cX11_breaks 20 = .ok (.ifCond .eq 29, 3) := by decide +kernel
theorem dX11_breaks_23 : decode cX11_breaks 23 = .ok (.aload_n 0, 1) := by decide +kernel
theorem dX11_breaks_24 : decode cX11_breaks 24 = .ok (.iload_n 1, 1) := by decide +kernel
theorem dX11_breaks_25 : decode cX11_breaks 25 = .ok (.bipush 12, 2) := by decide +kernel
theorem dX11_breaks_27 : decode cX11_breaks 27 = .ok (.invokevirtual 163, 3) := by decide +kernel
theorem dX11_breaks_30 : decode cX11_breaks 30 = .ok (.aload_n 0, 1) := by decide +kernel
theorem dX11_breaks_31 : decode cX11_breaks 31 = .ok (.getfield 82, 3) := by decide +kernel
theorem dX11_breaks_34 : decode cX11_breaks 34 = .ok (.iconst 0, 1) := by decide +kernel
theorem dX11_breaks_35 : decode cX11_breaks 35 = .ok (.iaload, 1) := by decide +kernel
theorem dX11_breaks_36 : decode cX11_breaks 36 = .ok (.if_icmp .le 13, 3) := by decide +kernel
theorem dX11_breaks_39 : decode cX11_breaks 39 = .ok (.aload_n 0, 1) := by decide +kernel
theorem dX11_breaks_40 : decode cX11_breaks 40 = .ok (.iload_n 1, 1) := by decide +kernel
theorem dX11_breaks_41 : decode cX11_breaks 41 = .ok (.bipush 13, 2) := by decide +kernel
theorem dX11_breaks_43 : decode cX11_breaks 43 = .ok (.invokevirtual 163, 3) := by decide +kernel
theorem dX11_breaks_46 : decode cX11_breaks 46 = .ok (.ifCond .le 5, 3) := by decide +kernel
theorem dX11_breaks_49 : decode cX11_breaks 49 = .ok (.iconst (-1), 1) := by decide +kernel
theorem dX11_breaks_50 : decode cX11_breaks 50 = .ok (.ireturn, 1) := by decide +kernel
theorem dX11_breaks_51 : decode cX11_breaks 51 = .ok (.aload_n 0, 1) := by decide +kernel
theorem dX11_breaks_52 : decode cX11_breaks 52 = .ok (.invokevirtual 249, 3) := by decide +kernel
theorem dX11_breaks_55 : decode cX11_breaks 55 = .ok (.aload_n 0, 1) := by decide +kernel
theorem dX11_breaks_56 : decode cX11_breaks 56 = .ok (.getfield 82, 3) := by decide +kernel
theorem dX11_breaks_59 : decode cX11_breaks 59 = .ok (.sipush 483, 3) := by decide +kernel
theorem dX11_breaks_62 : decode cX11_breaks 62 = .ok (.sipush 500, 3) := by decide +kernel
theorem dX11_breaks_65 : decode cX11_breaks 65 = .ok (.iload_n 1, 1) := by decide +kernel
theorem dX11_breaks_66 : decode cX11_breaks 66 = .ok (.imul, 1) := by decide +kernel
theorem dX11_breaks_67 : decode cX11_breaks 67 = .ok (.iadd, 1) := by decide +kernel
theorem dX11_breaks_68 : decode cX11_breaks 68 = .ok (.bipush 13, 2) := by decide +kernel
theorem dX11_breaks_70 : decode cX11_breaks 70 = .ok (.iadd, 1) := by decide +kernel
theorem dX11_breaks_71 : decode cX11_breaks 71 = .ok (.aload_n 0, 1) := by decide +kernel
theorem dX11_breaks_72 : decode cX11_breaks 72 = .ok (.getfield 82, 3) := by decide +kernel
theorem dX11_breaks_75 : decode cX11_breaks 75 = .ok (.iconst 0, 1) := by decide +kernel
theorem dX11_breaks_76 : decode cX11_breaks 76 = .ok (.iaload, 1) := by decide +kernel
theorem dX11_breaks_77 : decode cX11_breaks 77 = .ok (.iconst 1, 1) := by decide +kernel
theorem dX11_breaks_78 : decode cX11_breaks 78 = .ok (.iadd, 1) := by decide +kernel
theorem dX11_breaks_79 : decode cX11_breaks 79 = .ok (.iastore, 1) := by decide +kernel
theorem dX11_breaks_80 : decode cX11_breaks 80 = .ok (.aload_n 0, 1) := by decide +kernel
theorem dX11_breaks_81 : decode cX11_breaks 81 = .ok (.iload_n 1, 1) := by decide +kernel
theorem dX11_breaks_82 : decode cX11_breaks 82 = .ok (.bipush 12, 2) := by decide +kernel
theorem dX11_breaks_84 : decode cX11_breaks 84 = .ok (.invokevirtual 163, 3) := by decide +kernel
theorem dX11_breaks_87 : decode cX11_breaks 87 = .ok (.ireturn, 1) := by decide +kernel
set_option maxRecDepth 20000 in
theorem ggX11_pass_X11_isIn : GoodIn wsX11_pass wsX11_isIn := goodIn_r _ [6] (by decide +kernel) (by decide +kernel)
set_option maxRecDepth 20000 in
theorem gX11_pass_X11_isIn : GoodIn wsX11_pass (va_wsS RX11 114 yX11_isIn wsX11_isIn) := goodIn_app (goodIn_of _ (by decide +kernel)) ggX11_pass_X11_isIn
set_option maxRecDepth 20000 in
theorem ggX11_pass_X11_snap : GoodIn wsX11_pass wsX11_snap := goodIn_r _ [10, 11, 12, 2, 13, 14, 15, 16, 17, 18, 19, 20, 21, 22, 23, 24, 25, 26, 27, 28, 29, 30, 31, 32, 33, 34] (by decide +kernel) (by decide +kernel)
set_option maxRecDepth 20000 in
theorem gX11_pass_X11_snap : GoodIn wsX11_pass (wsV RX11 249 RX11 yX11_snap wsX11_snap) := goodIn_app (goodIn_of _ (by decide +kernel)) ggX11_pass_X11_snap
theorem dX11_pass_0 : decode cX11_pass 0 = .ok (.aload_n 0, 1) := by decide +kernel
theorem dX11_pass_1 : decode cX11_pass 1 = .ok (.iconst 0, 1) := by decide +kernel
theorem dX11_pass_2 : decode cX11_pass 2 = .ok (.putfield 1, 3) := by decide +kernel
theorem dX11_pass_5 : decode cX11_pass 5 = .ok (.iload_n 1, 1) := by decide +kernel
theorem dX11_pass_6 : decode cX11_pass 6 = .ok (.iconst 1, 1) := by decide +kernel
theorem dX11_pass_7 : decode cX11_pass 7 = .ok (.bipush 99, 2) := by decide +kernel
theorem dX11_pass_9 : decode cX11_pass 9 = .ok (.invokestatic 114, 3) := by decide +kernel
theorem dX11_pass_12 : decode cX11_pass 12 = .ok (.ifCond .eq 17, 3) := by decide +kernel
theorem dX11_pass_15 : decode cX11_pass 15 = .ok (.aload_n 0, 1) := by decide +kernel
theorem dX11_pass_16 : decode cX11_pass 16 = .ok (.getfield 82, 3) := by decide +kernel
theorem dX11_pass_19 : decode cX11_pass 19 = .ok (.iconst 0, 1) := by decide +kernel
theorem dX11_pass_20 : decode cX11_pass 20 = .ok (.iaload, 1) := by decide +kernel
theorem dX11_pass_21 : decode cX11_pass 21 = .ok (.iload_n 1, 1) := by decide +kernel
theorem dX11_pass_22 : decode cX11_pass 22 = .ok (.iadd, 1) := by decide +kernel
theorem dX11_pass_23 : decode cX11_pass 23 = .ok (.sipush 240, 3) := by decide +kernel
theorem dX11_pass_26 : decode cX11_pass 26 = .ok (.if_icmp .lt 5, 3) := by decide +kernel
theorem dX11_pass_29 : decode cX11_pass 29 = .ok (.iconst (-1), 1) := by decide +kernel
theorem dX11_pass_30 : decode cX11_pass 30 = .ok (.ireturn, 1) := by decide +kernel
theorem dX11_pass_31 : decode cX11_pass 31 = .ok (.aload_n 0, 1) := by decide +kernel
theorem dX11_pass_32 : decode cX11_pass 32 = .ok (.invokevirtual 249, 3) := by decide +kernel
theorem dX11_pass_35 : decode cX11_pass 35 = .ok (.aload_n 0, 1) := by decide +kernel
theorem dX11_pass_36 : decode cX11_pass 36 = .ok (.getfield 82, 3) := by decide +kernel
theorem dX11_pass_39 : decode cX11_pass 39 = .ok (.iconst 0, 1) := by decide +kernel
theorem dX11_pass_40 : decode cX11_pass 40 = .ok (.dup2, 1) := by decide +kernel
theorem dX11_pass_41 : decode cX11_pass 41 = .ok (.iaload, 1) := by decide +kernel
theorem dX11_pass_42 : decode cX11_pass 42 = .ok (.iload_n 1, 1) := by decide +kernel
theorem dX11_pass_43 : decode cX11_pass 43 = .ok (.iadd, 1) := by decide +kernel
theorem dX11_pass_44 : decode cX11_pass 44 = .ok (.iastore, 1) := by decide +kernel
theorem dX11_pass_45 : decode cX11_pass 45 = .ok (.aload_n 0, 1) := by decide +kernel
theorem dX11_pass_46 : decode cX11_pass 46 = .ok (.getfield 82, 3) := by decide +kernel
theorem dX11_pass_49 : decode cX11_pass 49 = .ok (.iconst 0, 1) := by decide +kernel
theorem dX11_pass_50 : decode cX11_pass 50 = .ok (.iaload, 1) := by decide +kernel
theorem dX11_pass_51 : decode cX11_pass 51 = .ok (.ireturn, 1) := by decide +kernel
theorem dX11_undo_0 : decode cX11_undo 0 = .ok (.aload_n 0, 1) := by decide +kernel
theorem dX11_undo_1 : decode cX11_undo 1 = .ok (.iconst 0, 1) := by decide +kernel
theorem dX11_undo_2 : decode cX11_undo 2 = .ok (.putfield 1, 3) := by decide +kernel
theorem dX11_undo_5 : decode cX11_undo 5 = .ok (.aload_n 0, 1) := by decide +kernel
theorem dX11_undo_6 : decode cX11_undo 6 = .ok (.getfield 160, 3) := by decide +kernel
theorem dX11_undo_9 : decode cX11_undo 9 = .ok (.ifCond .ne 5, 3) := by decide +kernel
theorem dX11_undo_12 : decode cX11_undo 12 = .ok (.iconst (-1), 1) := by decide +kernel
theorem dX11_undo_13 : decode cX11_undo 13 = .ok (.ireturn, 1) := by decide +kernel
theorem dX11_undo_14 : decode cX11_undo 14 = .ok (.aload_n 0, 1) := by decide +kernel
theorem dX11_undo_15 : decode cX11_undo 15 = .ok (.dup, 1) := by decide +kernel
theorem dX11_undo_16 : decode cX11_undo 16 = .ok (.getfield 160, 3) := by decide +kernel
theorem dX11_undo_19 : decode cX11_undo 19 = .ok (.iconst 1, 1) := by decide +kernel
theorem dX11_undo_20 : decode cX11_undo 20 = .ok (.isub, 1) := by decide +kernel
theorem dX11_undo_21 : decode cX11_undo 21 = .ok (.putfield 160, 3) := by decide +kernel
theorem dX11_undo_24 : decode cX11_undo 24 = .ok (.iconst 0, 1) := by decide +kernel
theorem dX11_undo_25 : decode cX11_undo 25 = .ok (.istore_n 1, 1) := by decide +kernel
theorem dX11_undo_26 : decode cX11_undo 26 = .ok (.iload_n 1, 1) := by decide +kernel
theorem dX11_undo_27 : decode cX11_undo 27 = .ok (.sipush 3483, 3) := by decide +kernel
theorem dX11_undo_30 : decode cX11_undo 30 = .ok (.if_icmp .ge 30, 3) := by decide +kernel
theorem dX11_undo_33 : decode cX11_undo 33 = .ok (.aload_n 0, 1) := by decide +kernel
theorem dX11_undo_34 : decode cX11_undo 34 = .ok (.getfield 82, 3) := by decide +kernel
theorem dX11_undo_37 : decode cX11_undo 37 = .ok (.iload_n 1, 1) := by decide +kernel
theorem dX11_undo_38 : decode cX11_undo 38 = .ok (.aload_n 0, 1) := by decide +kernel
theorem dX11_undo_39 : decode cX11_undo 39 = .ok (.getfield 89, 3) := by decide +kernel
theorem dX11_undo_42 : decode cX11_undo 42 = .ok (.sipush 3483, 3) := by decide +kernel
theorem dX11_undo_45 : decode cX11_undo 45 = .ok (.aload_n 0, 1) := by decide +kernel
theorem dX11_undo_46 : decode cX11_undo 46 = .ok (.getfield 160, 3) := by decide +kernel
theorem dX11_undo_49 : decode cX11_undo 49 = .ok (.imul, 1) := by decide +kernel
theorem dX11_undo_50 : decode cX11_undo 50 = .ok (.iload_n 1, 1) := by decide +kernel
theorem dX11_undo_51 : decode cX11_undo 51 = .ok (.iadd, 1) := by decide +kernel
theorem dX11_undo_52 : decode cX11_undo 52 = .ok (.iaload, 1) := by decide +kernel
theorem dX11_undo_53 : decode cX11_undo 53 = .ok (.iastore, 1) := by decide +kernel
theorem dX11_undo_54 : decode cX11_undo 54 = .ok (.iinc 1 1, 3) := by decide +kernel
theorem dX11_undo_57 : decode cX11_undo 57 = .ok (.goto (-31), 3) := by decide +kernel
theorem dX11_undo_60 : decode cX11_undo 60 = .ok (.aload_n 0, 1) := by decide +kernel
theorem dX11_undo_61 : decode cX11_undo 61 = .ok (.getfield 160, 3) := by decide +kernel
theorem dX11_undo_64 : decode cX11_undo 64 = .ok (.ireturn, 1) := by decide +kernel
theorem dJ9_max_7cf53_0 : decode cJ9_max_7cf53 0 = .ok (.iload_n 0, 1) := by decide +kernel
theorem dJ9_max_7cf53_1 : decode cJ9_max_7cf53 1 = .ok (.iload_n 1, 1) := by decide +kernel
theorem dJ9_max_7cf53_2 : decode cJ9_max_7cf53 2 = .ok (.if_icmp .lt 7, 3) := by decide +kernel
theorem dJ9_max_7cf53_5 : decode cJ9_max_7cf53 5 = .ok (.iload_n 0, 1) := by decide +kernel
theorem dJ9_max_7cf53_6 : decode cJ9_max_7cf53 6 = .ok (.goto 4, 3) := by decide +kernel
theorem dJ9_max_7cf53_9 : decode cJ9_max_7cf53 9 = .ok (.iload_n 1, 1) := by decide +kernel
theorem dJ9_max_7cf53_10 : decode cJ9_max_7cf53 10 = .ok (.ireturn, 1) := by decide +kernel
theorem dJ9_min_7cf53_0 : decode cJ9_min_7cf53 0 = .ok (.iload_n 0, 1) := by decide +kernel
theorem dJ9_min_7cf53_1 : decode cJ9_min_7cf53 1 = .ok (.iload_n 1, 1) := by decide +kernel
theorem dJ9_min_7cf53_2 : decode cJ9_min_7cf53 2 = .ok (.if_icmp .gt 7, 3) := by decide +kernel
theorem dJ9_min_7cf53_5 : decode cJ9_min_7cf53 5 = .ok (.iload_n 0, 1) := by decide +kernel
theorem dJ9_min_7cf53_6 : decode cJ9_min_7cf53 6 = .ok (.goto 4, 3) := by decide +kernel
theorem dJ9_min_7cf53_9 : decode cJ9_min_7cf53 9 = .ok (.iload_n 1, 1) := by decide +kernel
theorem dJ9_min_7cf53_10 : decode cJ9_min_7cf53 10 = .ok (.ireturn, 1) := by decide +kernel
set_option maxRecDepth 20000 in
theorem ggJ0_length_8abf5_J0_coder_7d493 : GoodIn wsJ0_length_8abf5 wsJ0_coder_7d493 := goodIn_r _ [6, 7, 8] (by decide +kernel) (by decide +kernel)
set_option maxRecDepth 20000 in
theorem gJ0_length_8abf5_J0_coder_7d493 : GoodIn wsJ0_length_8abf5 (wsV RJ0 335 RJ0 yJ0_coder_7d493 wsJ0_coder_7d493) := goodIn_app (goodIn_of _ (by decide +kernel)) ggJ0_length_8abf5_J0_coder_7d493
theorem dJ0_length_8abf5_0 : decode cJ0_length_8abf5 0 = .ok (.aload_n 0, 1) := by decide +kernel
theorem dJ0_length_8abf5_1 : decode cJ0_length_8abf5 1 = .ok (.getfield 9, 3) := by decide +kernel
theorem dJ0_length_8abf5_4 : decode cJ0_length_8abf5 4 = .ok (.arraylength, 1) := by decide +kernel
theorem dJ0_length_8abf5_5 : decode cJ0_length_8abf5 5 = .ok (.aload_n 0, 1) := by decide +kernel
theorem dJ0_length_8abf5_6 : decode cJ0_length_8abf5 6 = .ok (.invokevirtual 335, 3) := by decide +kernel
theorem dJ0_length_8abf5_9 : decode cJ0_length_8abf5 9 = .ok (.ishr, 1) := by decide +kernel
theorem dJ0_length_8abf5_10 : decode cJ0_length_8abf5 10 = .ok (.ireturn, 1) := by decide +kernel
set_option maxRecDepth 20000 in
theorem ggJ0_charAt_5068e_J0_isLatin1_aae02 : GoodIn wsJ0_charAt_5068e wsJ0_isLatin1_aae02 := goodIn_r _ [6, 7, 8] (by decide +kernel) (by decide +kernel)
set_option maxRecDepth 20000 in
theorem gJ0_charAt_5068e_J0_isLatin1_aae02 : GoodIn wsJ0_charAt_5068e (wsV RJ0 492 RJ0 yJ0_isLatin1_aae02 wsJ0_isLatin1_aae02) := goodIn_app (goodIn_of _ (by decide +kernel)) ggJ0_charAt_5068e_J0_isLatin1_aae02
set_option maxRecDepth 20000 in
theorem ggJ0_charAt_5068e_J1_charAt_3b067 : GoodIn wsJ0_charAt_5068e wsJ1_charAt_3b067 := goodIn_r _ [12, 13, 14, 5, 15, 16, 17, 18, 19, 20] (by decide +kernel) (by decide +kernel)
set_option maxRecDepth 20000 in
theorem gJ0_charAt_5068e_J1_charAt_3b067 : GoodIn wsJ0_charAt_5068e (va_wsS RJ0 495 yJ1_charAt_3b067 wsJ1_charAt_3b067) := goodIn_app (goodIn_of _ (by decide +kernel)) ggJ0_charAt_5068e_J1_charAt_3b067
set_option maxRecDepth 20000 in
theorem ggJ0_charAt_5068e_J2_charAt_3b067 : GoodIn wsJ0_charAt_5068e wsJ2_charAt_3b067 := goodIn_r _ [24, 25, 26, 23, 27, 28, 29, 30, 31, 14, 5, 15, 16, 17, 18, 19, 20, 32, 33, 34, 35, 36, 37] (by decide +kernel) (by decide +kernel)
set_option maxRecDepth 20000 in
theorem gJ0_charAt_5068e_J2_charAt_3b067 : GoodIn wsJ0_charAt_5068e (va_wsS RJ0 498 yJ2_charAt_3b067 wsJ2_charAt_3b067) := goodIn_app (goodIn_of _ (by decide +kernel)) ggJ0_charAt_5068e_J2_charAt_3b067
theorem dJ0_charAt_5068e_0 : decode cJ0_charAt_5068e 0 = .ok (.aload_n 0, 1) := by decide +kernel
theorem dJ0_charAt_5068e_1 : decode cJ0_charAt_5068e 1 = .ok (.invokevirtual 492, 3) := by decide +kernel
theorem dJ0_charAt_5068e_4 : decode cJ0_charAt_5068e 4 = .ok (.ifCond .eq 12, 3) := by decide +kernel
theorem dJ0_charAt_5068e_7 : decode cJ0_charAt_5068e 7 = .ok (.aload_n 0, 1) := by decide +kernel
theorem dJ0_charAt_5068e_8 : decode cJ0_charAt_5068e 8 = .ok (.getfield 9, 3) := by decide +kernel
theorem dJ0_charAt_5068e_11 : decode cJ0_charAt_5068e 11 = .ok (.iload_n 1, 1) := by decide +kernel
theorem dJ0_charAt_5068e_12 : decode cJ0_charAt_5068e 12 = .ok (.invokestatic 495, 3) := by decide +kernel
theorem dJ0_charAt_5068e_15 : decode cJ0_charAt_5068e 15 = .ok (.ireturn, 1) := by decide +kernel
theorem dJ0_charAt_5068e_16 : decode cJ0_charAt_5068e 16 = .ok (.aload_n 0, 1) := by decide +kernel
theorem dJ0_charAt_5068e_17 : decode cJ0_charAt_5068e 17 = .ok (.getfield 9, 3) := by decide +kernel
theorem dJ0_charAt_5068e_20 : decode cJ0_charAt_5068e 20 = .ok (.iload_n 1, 1) := by decide +kernel
theorem dJ0_charAt_5068e_21 : decode cJ0_charAt_5068e 21 = .ok (.invokestatic 498, 3) := by decide +kernel
theorem dJ0_charAt_5068e_24 : decode cJ0_charAt_5068e 24 = .ok (.ireturn, 1) := by decide +kernel
theorem dJ0_coder_7d493_0 : decode cJ0_coder_7d493 0 = .ok (.getstatic 38, 3) := by decide +kernel
theorem dJ0_coder_7d493_3 : decode cJ0_coder_7d493 3 = .ok (.ifCond .eq 10, 3) := by decide +kernel
theorem dJ0_coder_7d493_6 : decode cJ0_coder_7d493 6 = .ok (.aload_n 0, 1) := by decide +kernel
theorem dJ0_coder_7d493_7 : decode cJ0_coder_7d493 7 = .ok (.getfield 15, 3) := by decide +kernel
theorem dJ0_coder_7d493_10 : decode cJ0_coder_7d493 10 = .ok (.goto 4, 3) := by decide +kernel
theorem dJ0_coder_7d493_13 : decode cJ0_coder_7d493 13 = .ok (.iconst 1, 1) := by decide +kernel
theorem dJ0_coder_7d493_14 : decode cJ0_coder_7d493 14 = .ok (.ireturn, 1) := by decide +kernel
theorem dJ0_isLatin1_aae02_0 : decode cJ0_isLatin1_aae02 0 = .ok (.getstatic 38, 3) := by decide +kernel
theorem dJ0_isLatin1_aae02_3 : decode cJ0_isLatin1_aae02 3 = .ok (.ifCond .eq 14, 3) := by decide +kernel
theorem dJ0_isLatin1_aae02_6 : decode cJ0_isLatin1_aae02 6 = .ok (.aload_n 0, 1) := by decide +kernel
theorem dJ0_isLatin1_aae02_7 : decode cJ0_isLatin1_aae02 7 = .ok (.getfield 15, 3) := by decide +kernel
theorem dJ0_isLatin1_aae02_10 : decode cJ0_isLatin1_aae02 10 = .ok (.ifCond .ne 7, 3) := by decide +kernel
theorem dJ0_isLatin1_aae02_13 : decode cJ0_isLatin1_aae02 13 = .ok (.iconst 1, 1) := by decide +kernel
theorem dJ0_isLatin1_aae02_14 : decode cJ0_isLatin1_aae02 14 = .ok (.goto 4, 3) := by decide +kernel
theorem dJ0_isLatin1_aae02_17 : decode cJ0_isLatin1_aae02 17 = .ok (.iconst 0, 1) := by decide +kernel
theorem dJ0_isLatin1_aae02_18 : decode cJ0_isLatin1_aae02 18 = .ok (.ireturn, 1) := by decide +kernel
set_option maxRecDepth 20000 in
theorem ggJ0_checkIndex_df160_J3_checkIndex_8e157 : GoodIn wsJ0_checkIndex_df160 wsJ3_checkIndex_8e157 := goodIn_r _ [5] (by decide +kernel) (by decide +kernel)
set_option maxRecDepth 20000 in
theorem gJ0_checkIndex_df160_J3_checkIndex_8e157 : GoodIn wsJ0_checkIndex_df160 (va_wsS RJ0 1059 yJ3_checkIndex_8e157 wsJ3_checkIndex_8e157) := goodIn_app (goodIn_of _ (by decide +kernel)) ggJ0_checkIndex_df160_J3_checkIndex_8e157
theorem dJ0_checkIndex_df160_0 : decode cJ0_checkIndex_df160 0 = .ok (.iload_n 0, 1) := by decide +kernel
theorem dJ0_checkIndex_df160_1 : decode cJ0_checkIndex_df160 1 = .ok (.iload_n 1, 1) := by decide +kernel
theorem dJ0_checkIndex_df160_2 : decode cJ0_checkIndex_df160 2 = .ok (.getstatic 1053, 3) := by decide +kernel
theorem dJ0_checkIndex_df160_5 : decode cJ0_checkIndex_df160 5 = .ok (.invokestatic 1059, 3) := by decide +kernel
theorem dJ0_checkIndex_df160_8 : decode cJ0_checkIndex_df160 8 = .ok (.pop, 1) := by decide +kernel
theorem dJ0_checkIndex_df160_9 : decode cJ0_checkIndex_df160 9 = .ok (.return_, 1) := by decide +kernel
set_option maxRecDepth 20000 in
theorem ggJ1_charAt_3b067_J0_checkIndex_df160 : GoodIn wsJ1_charAt_3b067 wsJ0_checkIndex_df160 := goodIn_r _ [4, 5, 6, 7, 8, 9] (by decide +kernel) (by decide +kernel)
set_option maxRecDepth 20000 in
theorem gJ1_charAt_3b067_J0_checkIndex_df160 : GoodIn wsJ1_charAt_3b067 (va_wsS RJ1 9 yJ0_checkIndex_df160 wsJ0_checkIndex_df160) := goodIn_app (goodIn_of _ (by decide +kernel)) ggJ1_charAt_3b067_J0_checkIndex_df160
theorem dJ1_charAt_3b067_0 : decode cJ1_charAt_3b067 0 = .ok (.iload_n 1, 1) := by decide +kernel
theorem dJ1_charAt_3b067_1 : decode cJ1_charAt_3b067 1 = .ok (.aload_n 0, 1) := by decide +kernel
theorem dJ1_charAt_3b067_2 : decode cJ1_charAt_3b067 2 = .ok (.arraylength, 1) := by decide +kernel
theorem dJ1_charAt_3b067_3 : decode cJ1_charAt_3b067 3 = .ok (.invokestatic 9, 3) := by decide +kernel
theorem dJ1_charAt_3b067_6 : decode cJ1_charAt_3b067 6 = .ok (.aload_n 0, 1) := by decide +kernel
theorem dJ1_charAt_3b067_7 : decode cJ1_charAt_3b067 7 = .ok (.iload_n 1, 1) := by decide +kernel
theorem dJ1_charAt_3b067_8 : decode cJ1_charAt_3b067 8 = .ok (.baload, 1) := by decide +kernel
theorem dJ1_charAt_3b067_9 : decode cJ1_charAt_3b067 9 = .ok (.sipush 255, 3) := by decide +kernel
theorem dJ1_charAt_3b067_12 : decode cJ1_charAt_3b067 12 = .ok (.iand, 1) := by decide +kernel
theorem dJ1_charAt_3b067_13 : decode cJ1_charAt_3b067 13 = .ok (.i2c, 1) := by decide +kernel
theorem dJ1_charAt_3b067_14 : decode cJ1_charAt_3b067 14 = .ok (.ireturn, 1) := by decide +kernel
set_option maxRecDepth 20000 in
theorem ggJ2_getChar_3b067_J2_length_9d52b : GoodIn wsJ2_getChar_3b067 wsJ2_length_9d52b := goodIn_r _ [7] (by decide +kernel) (by decide +kernel)
set_option maxRecDepth 20000 in
theorem gJ2_getChar_3b067_J2_length_9d52b : GoodIn wsJ2_getChar_3b067 (va_wsS RJ2 48 yJ2_length_9d52b wsJ2_length_9d52b) := goodIn_app (goodIn_of _ (by decide +kernel)) ggJ2_getChar_3b067_J2_length_9d52b
theorem dJ2_getChar_3b067_0 : decode cJ2_getChar_3b067 0 = .ok (.getstatic 44, 3) := by decide +kernel
theorem dJ2_getChar_3b067_3 : decode cJ2_getChar_3b067 3 = .ok (.ifCond .ne 25, 3) := by decide +kernel
theorem dJ2_getChar_3b067_6 : decode cJ2_getChar_3b067 6 = .ok (.iload_n 1, 1) := by decide +kernel
theorem dJ2_getChar_3b067_7 : decode cJ2_getChar_3b067 7 = .ok (.ifCond .lt 11, 3) := by decide +kernel
theorem dJ2_getChar_3b067_10 : decode cJ2_getChar_3b067 10 = .ok (.iload_n 1, 1) := by decide +kernel
theorem dJ2_getChar_3b067_11 : decode cJ2_getChar_3b067 11 = .ok (.aload_n 0, 1) := by decide +kernel
theorem dJ2_getChar_3b067_12 : decode cJ2_getChar_3b067 12 = .ok (.invokestatic 48, 3) := by decide +kernel
theorem dJ2_getChar_3b067_15 : decode cJ2_getChar_3b067 15 = .ok (.if_icmp .lt 13, 3) := by decide +kernel
theorem dJ2_getChar_3b067_18 : decode cJ2_getChar_3b067 18 = .ok (.new 52, 3) := by decide +kernel
theorem dJ2_getChar_3b067_21 : decode cJ2_getChar_3b067 21 = .ok (.dup, 1) := by decide +kernel
theorem dJ2_getChar_3b067_22 : decode cJ2_getChar_3b067 22 = .ok (.ldc 54, 2) := by decide +kernel
theorem dJ2_getChar_3b067_24 : decode cJ2_getChar_3b067 24 = .ok (.invokespecial 56, 3) := by decide +kernel
theorem dJ2_getChar_3b067_27 : decode cJ2_getChar_3b067 27 = .ok (.athrow, 1) := by decide +kernel
theorem dJ2_getChar_3b067_28 : decode cJ2_getChar_3b067 28 = .ok (.iload_n 1, 1) := by decide +kernel
theorem dJ2_getChar_3b067_29 : decode cJ2_getChar_3b067 29 = .ok (.iconst 1, 1) := by decide +kernel
theorem dJ2_getChar_3b067_30 : decode cJ2_getChar_3b067 30 = .ok (.ishl, 1) := by decide +kernel
theorem dJ2_getChar_3b067_31 : decode cJ2_getChar_3b067 31 = .ok (.istore_n 1, 1) := by decide +kernel
theorem dJ2_getChar_3b067_32 : decode cJ2_getChar_3b067 32 = .ok (.aload_n 0, 1) := by decide +kernel
theorem dJ2_getChar_3b067_33 : decode cJ2_getChar_3b067 33 = .ok (.iload_n 1, 1) := by decide +kernel
theorem dJ2_getChar_3b067_34 : decode cJ2_getChar_3b067 34 = .ok (.iinc 1 1, 3) := by decide +kernel
theorem dJ2_getChar_3b067_37 : decode cJ2_getChar_3b067 37 = .ok (.baload, 1) := by decide +kernel
theorem dJ2_getChar_3b067_38 : decode cJ2_getChar_3b067 38 = .ok (.sipush 255, 3) := by decide +kernel
theorem dJ2_getChar_3b067_41 : decode cJ2_getChar_3b067 41 = .ok (.iand, 1) := by decide +kernel
theorem dJ2_getChar_3b067_42 : decode cJ2_getChar_3b067 42 = .ok (.getstatic 59, 3) := by decide +kernel
theorem dJ2_getChar_3b067_45 : decode cJ2_getChar_3b067 45 = .ok (.ishl, 1) := by decide +kernel
theorem dJ2_getChar_3b067_46 : decode cJ2_getChar_3b067 46 = .ok (.aload_n 0, 1) := by decide +kernel
theorem dJ2_getChar_3b067_47 : decode cJ2_getChar_3b067 47 = .ok (.iload_n 1, 1) := by decide +kernel
theorem dJ2_getChar_3b067_48 : decode cJ2_getChar_3b067 48 = .ok (.baload, 1) := by decide +kernel
theorem dJ2_getChar_3b067_49 : decode cJ2_getChar_3b067 49 = .ok (.sipush 255, 3) := by decide +kernel
theorem dJ2_getChar_3b067_52 : decode cJ2_getChar_3b067 52 = .ok (.iand, 1) := by decide +kernel
theorem dJ2_getChar_3b067_53 : decode cJ2_getChar_3b067 53 = .ok (.getstatic 63, 3) := by decide +kernel
theorem dJ2_getChar_3b067_56 : decode cJ2_getChar_3b067 56 = .ok (.ishl, 1) := by decide +kernel
theorem dJ2_getChar_3b067_57 : decode cJ2_getChar_3b067 57 = .ok (.ior, 1) := by decide +kernel
theorem dJ2_getChar_3b067_58 : decode cJ2_getChar_3b067 58 = .ok (.i2c, 1) := by decide +kernel
theorem dJ2_getChar_3b067_59 : decode cJ2_getChar_3b067 59 = .ok (.ireturn, 1) := by decide +kernel
theorem dJ2_length_9d52b_0 : decode cJ2_length_9d52b 0 = .ok (.aload_n 0, 1) := by decide +kernel
theorem dJ2_length_9d52b_1 : decode cJ2_length_9d52b 1 = .ok (.arraylength, 1) := by decide +kernel
theorem dJ2_length_9d52b_2 : decode cJ2_length_9d52b 2 = .ok (.iconst 1, 1) := by decide +kernel
theorem dJ2_length_9d52b_3 : decode cJ2_length_9d52b 3 = .ok (.ishr, 1) := by decide +kernel
theorem dJ2_length_9d52b_4 : decode cJ2_length_9d52b 4 = .ok (.ireturn, 1) := by decide +kernel
set_option maxRecDepth 20000 in
theorem ggJ2_charAt_3b067_J2_checkIndex_2214a : GoodIn wsJ2_charAt_3b067 wsJ2_checkIndex_2214a := goodIn_r _ [4, 5, 6, 3, 7, 8, 9, 10, 11, 12, 13, 14, 15, 16] (by decide +kernel) (by decide +kernel)
set_option maxRecDepth 20000 in
theorem gJ2_charAt_3b067_J2_checkIndex_2214a : GoodIn wsJ2_charAt_3b067 (va_wsS RJ2 67 yJ2_checkIndex_2214a wsJ2_checkIndex_2214a) := goodIn_app (goodIn_of _ (by decide +kernel)) ggJ2_charAt_3b067_J2_checkIndex_2214a
set_option maxRecDepth 20000 in
theorem ggJ2_charAt_3b067_J2_getChar_3b067 : GoodIn wsJ2_charAt_3b067 wsJ2_getChar_3b067 := goodIn_r _ [19, 20, 21, 22, 5, 6, 3, 7] (by decide +kernel) (by decide +kernel)
set_option maxRecDepth 20000 in
theorem gJ2_charAt_3b067_J2_getChar_3b067 : GoodIn wsJ2_charAt_3b067 (va_wsS RJ2 71 yJ2_getChar_3b067 wsJ2_getChar_3b067) := goodIn_app (goodIn_of _ (by decide +kernel)) ggJ2_charAt_3b067_J2_getChar_3b067
theorem dJ2_charAt_3b067_0 : decode cJ2_charAt_3b067 0 = .ok (.iload_n 1, 1) := by decide +kernel
theorem dJ2_charAt_3b067_1 : decode cJ2_charAt_3b067 1 = .ok (.aload_n 0, 1) := by decide +kernel
theorem dJ2_charAt_3b067_2 : decode cJ2_charAt_3b067 2 = .ok (.invokestatic 67, 3) := by decide +kernel
theorem dJ2_charAt_3b067_5 : decode cJ2_charAt_3b067 5 = .ok (.aload_n 0, 1) := by decide +kernel
theorem dJ2_charAt_3b067_6 : decode cJ2_charAt_3b067 6 = .ok (.iload_n 1, 1) := by decide +kernel
theorem dJ2_charAt_3b067_7 : decode cJ2_charAt_3b067 7 = .ok (.invokestatic 71, 3) := by decide +kernel
theorem dJ2_charAt_3b067_10 : decode cJ2_charAt_3b067 10 = .ok (.ireturn, 1) := by decide +kernel
set_option maxRecDepth 20000 in
theorem ggJ2_checkIndex_2214a_J2_length_9d52b : GoodIn wsJ2_checkIndex_2214a wsJ2_length_9d52b := goodIn_r _ [4] (by decide +kernel) (by decide +kernel)
set_option maxRecDepth 20000 in
theorem gJ2_checkIndex_2214a_J2_length_9d52b : GoodIn wsJ2_checkIndex_2214a (va_wsS RJ2 48 yJ2_length_9d52b wsJ2_length_9d52b) := goodIn_app (goodIn_of _ (by decide +kernel)) ggJ2_checkIndex_2214a_J2_length_9d52b
set_option maxRecDepth 20000 in
theorem ggJ2_checkIndex_2214a_J0_checkIndex_df160 : GoodIn wsJ2_checkIndex_2214a wsJ0_checkIndex_df160 := goodIn_r _ [8, 9, 10, 11, 12, 13] (by decide +kernel) (by decide +kernel)
set_option maxRecDepth 20000 in
theorem gJ2_checkIndex_2214a_J0_checkIndex_df160 : GoodIn wsJ2_checkIndex_2214a (va_wsS RJ2 414 yJ0_checkIndex_df160 wsJ0_checkIndex_df160) := goodIn_app (goodIn_of _ (by decide +kernel)) ggJ2_checkIndex_2214a_J0_checkIndex_df160
theorem dJ2_checkIndex_2214a_0 : decode cJ2_checkIndex_2214a 0 = .ok (.iload_n 0, 1) := by decide +kernel
theorem dJ2_checkIndex_2214a_1 : decode cJ2_checkIndex_2214a 1 = .ok (.aload_n 1, 1) := by decide +kernel
theorem dJ2_checkIndex_2214a_2 : decode cJ2_checkIndex_2214a 2 = .ok (.invokestatic 48, 3) := by decide +kernel
theorem dJ2_checkIndex_2214a_5 : decode cJ2_checkIndex_2214a 5 = .ok (.invokestatic 414, 3) := by decide +kernel
theorem dJ2_checkIndex_2214a_8 : decode cJ2_checkIndex_2214a 8 = .ok (.return_, 1) := by decide +kernel
theorem dJ7_fill_53178_0 : decode cJ7_fill_53178 0 = .ok (.iconst 0, 1) := by decide +kernel
theorem dJ7_fill_53178_1 : decode cJ7_fill_53178 1 = .ok (.istore_n 2, 1) := by decide +kernel
theorem dJ7_fill_53178_2 : decode cJ7_fill_53178 2 = .ok (.aload_n 0, 1) := by decide +kernel
theorem dJ7_fill_53178_3 : decode cJ7_fill_53178 3 = .ok (.arraylength, 1) := by decide +kernel
theorem dJ7_fill_53178_4 : decode cJ7_fill_53178 4 = .ok (.istore_n 3, 1) := by decide +kernel
theorem dJ7_fill_53178_5 : decode cJ7_fill_53178 5 = .ok (.iload_n 2, 1) := by decide +kernel
theorem dJ7_fill_53178_6 : decode cJ7_fill_53178 6 = .ok (.iload_n 3, 1) := by decide +kernel
theorem dJ7_fill_53178_7 : decode cJ7_fill_53178 7 = .ok (.if_icmp .ge 13, 3) := by decide +kernel
theorem dJ7_fill_53178_10 : decode cJ7_fill_53178 10 = .ok (.aload_n 0, 1) := by decide +kernel
theorem dJ7_fill_53178_11 : decode cJ7_fill_53178 11 = .ok (.iload_n 2, 1) := by decide +kernel
theorem dJ7_fill_53178_12 : decode cJ7_fill_53178 12 = .ok (.iload_n 1, 1) := by decide +kernel
theorem dJ7_fill_53178_13 : decode cJ7_fill_53178 13 = .ok (.iastore, 1) := by decide +kernel
theorem dJ7_fill_53178_14 : decode cJ7_fill_53178 14 = .ok (.iinc 2 1, 3) := by decide +kernel
theorem dJ7_fill_53178_17 : decode cJ7_fill_53178 17 = .ok (.goto (-12), 3) := by decide +kernel
theorem dJ7_fill_53178_20 : decode cJ7_fill_53178 20 = .ok (.return_, 1) := by decide +kernel
theorem dJ3_checkIndex_8e157_0 : decode cJ3_checkIndex_8e157 0 = .ok (.iload_n 0, 1) := by decide +kernel
theorem dJ3_checkIndex_8e157_1 : decode cJ3_checkIndex_8e157 1 = .ok (.ifCond .lt 8, 3) := by decide +kernel
theorem dJ3_checkIndex_8e157_4 : decode cJ3_checkIndex_8e157 4 = .ok (.iload_n 0, 1) := by decide +kernel
theorem dJ3_checkIndex_8e157_5 : decode cJ3_checkIndex_8e157 5 = .ok (.iload_n 1, 1) := by decide +kernel
theorem dJ3_checkIndex_8e157_6 : decode cJ3_checkIndex_8e157 6 = .ok (.if_icmp .lt 10, 3) := by decide +kernel
theorem dJ3_checkIndex_8e157_9 : decode cJ3_checkIndex_8e157 9 = .ok (.aload_n 2, 1) := by decide +kernel
theorem dJ3_checkIndex_8e157_10 : decode cJ3_checkIndex_8e157 10 = .ok (.iload_n 0, 1) := by decide +kernel
theorem dJ3_checkIndex_8e157_11 : decode cJ3_checkIndex_8e157 11 = .ok (.iload_n 1, 1) := by decide +kernel
theorem dJ3_checkIndex_8e157_12 : decode cJ3_checkIndex_8e157 12 = .ok (.invokestatic 95, 3) := by decide +kernel
theorem dJ3_checkIndex_8e157_15 : decode cJ3_checkIndex_8e157 15 = .ok (.athrow, 1) := by decide +kernel
theorem dJ3_checkIndex_8e157_16 : decode cJ3_checkIndex_8e157 16 = .ok (.iload_n 0, 1) := by decide +kernel
theorem dJ3_checkIndex_8e157_17 : decode cJ3_checkIndex_8e157 17 = .ok (.ireturn, 1) := by decide +kernel
set_option maxRecDepth 20000 in
theorem ggL_lease_X10_lease : GoodIn wsL_lease wsX10_lease := goodIn_ca (goodIn_r _ [6, 7, 8, 9, 10, 11, 12, 13, 14, 15, 16, 17, 18, 19, 20, 21, 22, 23, 24, 25, 26, 27, 28, 29, 30, 31, 32, 33, 34, 35, 36, 37, 38, 39, 40, 41, 42, 43, 44, 45, 46, 47, 48, 49, 50, 51, 52, 53, 54, 55, 56, 57, 58, 59, 60, 61, 62, 63, 64, 65, 66, 67] (by decide +kernel) (by decide +kernel)) (goodIn_sub (fun _ h => List.mem_cons_of_mem _ (List.mem_append_right _ h)) (by decide +kernel))
set_option maxRecDepth 20000 in
theorem gL_lease_X10_lease : GoodIn wsL_lease (wsV RL 7 RX10 yX10_lease wsX10_lease) := goodIn_app (goodIn_of _ (by decide +kernel)) ggL_lease_X10_lease
theorem dL_lease_0 : decode cL_lease 0 = .ok (.aload_n 3, 1) := by decide +kernel
theorem dL_lease_1 : decode cL_lease 1 = .ok (.iconst 0, 1) := by decide +kernel
theorem dL_lease_2 : decode cL_lease 2 = .ok (.aload_n 0, 1) := by decide +kernel
theorem dL_lease_3 : decode cL_lease 3 = .ok (.iload_n 1, 1) := by decide +kernel
theorem dL_lease_4 : decode cL_lease 4 = .ok (.iload_n 2, 1) := by decide +kernel
theorem dL_lease_5 : decode cL_lease 5 = .ok (.invokevirtual 7, 3) := by decide +kernel
theorem dL_lease_8 : decode cL_lease 8 = .ok (.i2l, 1) := by decide +kernel
theorem dL_lease_9 : decode cL_lease 9 = .ok (.lastore, 1) := by decide +kernel
theorem dL_lease_10 : decode cL_lease 10 = .ok (.goto 7, 3) := by decide +kernel
theorem dL_lease_13 : decode cL_lease 13 = .ok (.astore 4, 2) := by decide +kernel
theorem dL_lease_15 : decode cL_lease 15 = .ok (.iconst 1, 1) := by decide +kernel
theorem dL_lease_16 : decode cL_lease 16 = .ok (.ireturn, 1) := by decide +kernel
theorem dL_lease_17 : decode cL_lease 17 = .ok (.iconst 0, 1) := by decide +kernel
theorem dL_lease_18 : decode cL_lease 18 = .ok (.ireturn, 1) := by decide +kernel
set_option maxRecDepth 20000 in
theorem ggL_law_X10_init : GoodIn wsL_law wsX10_init := goodIn_r _ [9, 10, 11, 12, 13, 14, 15, 16, 17, 18, 19, 20, 21, 22, 23, 24, 25, 26, 27, 28, 29, 30, 31, 32, 33, 34, 35, 36, 37, 38, 39, 40, 41, 42, 43, 44, 45, 46, 47, 48, 49, 50, 51, 52, 53, 54, 55, 56, 57, 58, 59, 60, 61, 62, 63, 64, 65, 66, 67, 68, 69, 70, 71, 72, 73, 74, 75, 76, 77, 78, 79, 80, 81, 82, 83, 84, 85, 86, 87, 88, 89, 90, 91, 92, 93, 94, 95, 96, 97, 98, 99, 100, 101, 102, 103, 104, 105, 106, 107, 108, 109, 1027, 1028, 995, 996, 997, 998, 999, 1000, 1001, 1002, 1003, 1004, 1029, 1030, 1031, 1032, 1033, 1034, 1035, 1036, 1037, 1038, 1039, 1040, 1041, 1042, 1043, 1044, 1045, 1046, 1047, 1048, 1049, 1050, 1051, 1052, 1053, 1054, 1055, 1056, 1057, 1058, 1059, 1060, 1061, 1062, 1063, 1064, 1065, 1066, 1067, 1068, 1069, 1070, 1071, 1072, 1073, 1074, 1075, 1076, 1077, 1078] (by decide +kernel) (by decide +kernel)
set_option maxRecDepth 20000 in
theorem gL_law_X10_init : GoodIn wsL_law (wsX10_init) := ggL_law_X10_init
set_option maxRecDepth 20000 in
theorem ggL_law_X11_init : GoodIn wsL_law wsX11_init := goodIn_r _ [112, 113, 11, 12, 43, 114, 115, 116, 117, 118, 6, 119, 120, 121, 122, 123, 124, 1005, 1006, 1007, 1008, 1009, 1010, 1011, 1012, 1013, 1014, 1015, 1016, 1017, 1018, 1019, 1020, 1021, 1022, 1023, 1024, 1025, 1026] (by decide +kernel) (by decide +kernel)
set_option maxRecDepth 20000 in
theorem gL_law_X11_init : GoodIn wsL_law (wsX11_init) := ggL_law_X11_init
set_option maxRecDepth 20000 in
theorem ggL_law_X10_feed : GoodIn wsL_law wsX10_feed := goodIn_r _ [128, 16, 129, 130, 131, 132, 15, 133, 134, 44, 995, 996, 997, 998, 999, 1000, 1001, 1002, 1003, 1004, 1027, 1028] (by decide +kernel) (by decide +kernel)
set_option maxRecDepth 20000 in
theorem gL_law_X10_feed : GoodIn wsL_law (wsV RL 19 RX10 yX10_feed wsX10_feed) := goodIn_app (goodIn_of _ (by decide +kernel)) ggL_law_X10_feed
set_option maxRecDepth 20000 in
theorem ggL_law_X11_feed : GoodIn wsL_law wsX11_feed := goodIn_r _ [138, 139, 140, 141, 142, 143, 5, 144, 114, 1005, 1006, 1007, 1008, 1009, 1010, 1011, 1012, 1013, 1014, 1015, 1016, 1017, 1018, 1019, 1020, 1021, 1022, 1023, 1024, 1025, 1026] (by decide +kernel) (by decide +kernel)
set_option maxRecDepth 20000 in
theorem gL_law_X11_feed : GoodIn wsL_law (wsV RL 23 RX11 yX11_feed wsX11_feed) := goodIn_app (goodIn_of _ (by decide +kernel)) ggL_law_X11_feed
set_option maxRecDepth 20000 in
theorem ggL_law_X10_end : GoodIn wsL_law wsX10_end := goodIn_r _ [148, 16, 129, 995, 996, 997, 998, 999, 1000, 1001, 1002, 1003, 1004, 1027, 1028] (by decide +kernel) (by decide +kernel)
set_option maxRecDepth 20000 in
theorem gL_law_X10_end : GoodIn wsL_law (wsV RL 24 RX10 yX10_end wsX10_end) := goodIn_app (goodIn_of _ (by decide +kernel)) ggL_law_X10_end
set_option maxRecDepth 20000 in
theorem ggL_law_X11_end : GoodIn wsL_law wsX11_end := goodIn_r _ [152, 139, 140, 1005, 1006, 1007, 1008, 1009, 1010, 1011, 1012, 1013, 1014, 1015, 1016, 1017, 1018, 1019, 1020, 1021, 1022, 1023, 1024, 1025, 1026] (by decide +kernel) (by decide +kernel)
set_option maxRecDepth 20000 in
theorem gL_law_X11_end : GoodIn wsL_law (wsV RL 28 RX11 yX11_end wsX11_end) := goodIn_app (goodIn_of _ (by decide +kernel)) ggL_law_X11_end
set_option maxRecDepth 20000 in
theorem ggL_law_X10_text : GoodIn wsL_law wsX10_text := goodIn_r _ [156, 20, 16, 38, 129, 157, 158, 159, 37, 160, 24, 161, 162, 163, 164, 19, 165, 52, 166, 167, 168, 169, 170, 51, 171, 172, 173, 174, 175, 176, 177, 178, 179, 180, 181, 182, 183, 184, 15, 185, 134, 44, 186, 187, 188, 189, 57, 58, 59, 190, 191, 192, 193, 194, 195, 196, 197, 198, 199, 200, 201, 202, 203, 204, 205, 206, 207, 208, 209, 210, 211, 212, 213, 214, 215, 216, 217, 218, 219, 220, 221, 222, 223, 224, 225, 226, 227, 228, 229, 230, 231, 232, 233, 234, 235, 236, 237, 238, 239, 240, 241, 242, 243, 244, 245, 246, 247, 248, 249, 250, 251, 252, 253, 254, 255, 256, 257, 258, 259, 260, 261, 262, 263, 36, 264, 83, 86, 265, 266, 267, 268, 269, 82, 270, 93, 94, 271, 272, 273, 274, 275, 276, 277, 278, 279, 280, 281, 282, 283, 284, 285, 286, 287, 288, 289, 290, 291, 292, 293, 294, 295, 296, 297, 298, 299, 300, 301, 302, 303, 304, 305, 306, 307, 308, 309, 310, 311, 312, 313, 314, 315, 316, 317, 318, 319, 320, 321, 322, 323, 324, 325, 326, 327, 328, 329, 330, 331, 332, 333, 334, 85, 335, 336, 337, 88, 338, 102, 103, 104, 105, 339, 340, 341, 342, 343, 344, 345, 346, 347, 348, 349, 350, 351, 101, 352, 353, 354, 355, 356, 357, 358, 359, 360, 361, 362, 363, 364, 365, 366, 367, 368, 369, 370, 371, 372, 373, 374, 375, 376, 377, 378, 379, 380, 381, 382, 383, 384, 385, 386, 387, 388, 389, 390, 391, 392, 393, 394, 395, 396, 397, 398, 399, 400, 401, 402, 403, 404, 405, 406, 407, 408, 409, 410, 23, 411, 412, 995, 996, 997, 998, 999, 1000, 1001, 1002, 1003, 1004, 1027, 1028, 1029, 1030, 1031, 1032, 1033, 1034, 1035, 1049, 1050, 1051, 1052, 1053, 1054, 1055, 1056, 1057, 1058, 1059, 1060, 1061, 1062, 1063, 1064, 1065, 1066, 1067, 1068, 1069, 1070, 1071, 1072, 1073, 1074, 1075, 1076, 1077, 1078, 1036, 1037, 1038, 1039] (by decide +kernel) (by decide +kernel)
set_option maxRecDepth 20000 in
theorem gL_law_X10_text : GoodIn wsL_law (wsV RL 29 RX10 yX10_text wsX10_text) := goodIn_app (goodIn_of _ (by decide +kernel)) ggL_law_X10_text
set_option maxRecDepth 20000 in
theorem ggL_law_X11_text : GoodIn wsL_law wsX11_text := goodIn_r _ [416, 139, 140, 417, 418, 419, 420, 116, 421, 115, 422, 423, 424, 425, 5, 426, 114, 427, 428, 429, 430, 431, 432, 433, 434, 435, 436, 437, 438, 439, 440, 441, 442, 443, 444, 445, 446, 447, 448, 449, 450, 451, 452, 453, 454, 455, 456, 457, 458, 459, 460, 461, 462, 463, 464, 465, 466, 467, 468, 469, 470, 471, 472, 473, 474, 475, 476, 477, 478, 479, 480, 481, 482, 483, 484, 485, 486, 487, 488, 489, 490, 491, 492, 493, 494, 495, 496, 497, 498, 499, 500, 501, 502, 503, 504, 1005, 1006, 1007, 1008, 1009, 1010, 1011, 1012, 1013, 1014, 1015, 1016, 1017, 1018, 1019, 1020, 1021, 1022, 1023, 1024, 1025, 1026] (by decide +kernel) (by decide +kernel)
set_option maxRecDepth 20000 in
theorem gL_law_X11_text : GoodIn wsL_law (wsV RL 33 RX11 yX11_text wsX11_text) := goodIn_app (goodIn_of _ (by decide +kernel)) ggL_law_X11_text
set_option maxRecDepth 20000 in
theorem ggL_law_X10_fault : GoodIn wsL_law wsX10_fault := goodIn_r _ [508, 158, 995, 996, 997, 998, 999, 1000, 1001, 1002, 1003, 1004] (by decide +kernel) (by decide +kernel)
set_option maxRecDepth 20000 in
theorem gL_law_X10_fault : GoodIn wsL_law (wsV RL 34 RX10 yX10_fault wsX10_fault) := goodIn_app (goodIn_of _ (by decide +kernel)) ggL_law_X10_fault
set_option maxRecDepth 20000 in
theorem ggL_law_X11_fault : GoodIn wsL_law wsX11_fault := goodIn_r _ [512, 139, 418, 1005, 1006, 1007, 1008, 1009, 1010, 1011, 1012, 1013, 1014, 1015, 1016, 1017, 1018, 1019, 1020, 1021, 1022, 1023, 1024, 1025, 1026] (by decide +kernel) (by decide +kernel)
set_option maxRecDepth 20000 in
theorem gL_law_X11_fault : GoodIn wsL_law (wsV RL 37 RX11 yX11_fault wsX11_fault) := goodIn_app (goodIn_of _ (by decide +kernel)) ggL_law_X11_fault
set_option maxRecDepth 20000 in
theorem ggL_law_X10_now : GoodIn wsL_law wsX10_now := goodIn_r _ [516, 160, 37, 517, 161, 518, 519, 24, 520, 16, 129, 995, 996, 997, 998, 999, 1000, 1001, 1002, 1003, 1004, 1049, 1050, 1051, 1052, 1053, 1059, 1060, 1061, 1036, 1037, 1038, 1039, 1027, 1028] (by decide +kernel) (by decide +kernel)
set_option maxRecDepth 20000 in
theorem gL_law_X10_now : GoodIn wsL_law (wsV RL 38 RX10 yX10_now wsX10_now) := goodIn_app (goodIn_of _ (by decide +kernel)) ggL_law_X10_now
set_option maxRecDepth 20000 in
theorem ggL_law_X11_now : GoodIn wsL_law wsX11_now := goodIn_r _ [524, 139, 115, 422, 140, 525, 526, 527, 5, 528, 1005, 1006, 1007, 1008, 1009, 1010, 1011, 1012, 1013, 1014, 1015, 1016, 1017, 1018, 1019, 1020, 1021, 1022, 1023, 1024, 1025, 1026] (by decide +kernel) (by decide +kernel)
set_option maxRecDepth 20000 in
theorem gL_law_X11_now : GoodIn wsL_law (wsV RL 42 RX11 yX11_now wsX11_now) := goodIn_app (goodIn_of _ (by decide +kernel)) ggL_law_X11_now
set_option maxRecDepth 20000 in
theorem ggL_law_L_lease : GoodIn wsL_law wsL_lease := goodIn_ca (goodIn_r _ [532, 533, 534, 535, 536, 2, 537, 538, 539, 37, 540, 541, 542, 543, 544, 545, 160, 546, 547, 548, 36, 549, 266, 85, 550, 551, 552, 88, 553, 348, 347, 339, 340, 554, 555, 556, 557, 344, 342, 995, 996, 997, 998, 999, 1000, 1001, 1002, 1003, 1004, 1062, 1063, 1064, 1065, 1066, 1067, 1068, 1069, 1070, 1071, 1072, 1073, 1074, 1075, 1049, 1050, 1051, 1052, 1053] (by decide +kernel) (by decide +kernel)) (goodIn_sub (fun _ h => List.mem_append_right _ h) (by decide +kernel))
set_option maxRecDepth 20000 in
theorem gL_law_L_lease : GoodIn wsL_law (va_wsS RL 43 yL_lease wsL_lease) := goodIn_app (goodIn_of _ (by decide +kernel)) ggL_law_L_lease
set_option maxRecDepth 20000 in
theorem ggL_law_X11_lease : GoodIn wsL_law wsX11_lease := goodIn_r _ [561, 139, 115, 562, 563, 564, 5, 565, 466, 467, 468, 566, 567, 568, 569, 570, 571, 572, 573, 574, 575, 576, 577, 578, 579, 580, 581, 582, 583, 584, 585, 1005, 1006, 1007, 1008, 1009, 1010, 1011, 1012, 1013, 1014, 1015, 1016, 1017, 1018, 1019, 1020, 1021, 1022, 1023, 1024, 1025, 1026] (by decide +kernel) (by decide +kernel)
set_option maxRecDepth 20000 in
theorem gL_law_X11_lease : GoodIn wsL_law (wsV RL 48 RX11 yX11_lease wsX11_lease) := goodIn_app (goodIn_of _ (by decide +kernel)) ggL_law_X11_lease
set_option maxRecDepth 20000 in
theorem ggL_law_X11_thrown : GoodIn wsL_law wsX11_thrown := goodIn_r _ [589, 139, 1005, 1006, 1007, 1008, 1009, 1010, 1011, 1012, 1013, 1014, 1015, 1016, 1017, 1018, 1019, 1020, 1021, 1022, 1023, 1024, 1025, 1026] (by decide +kernel) (by decide +kernel)
set_option maxRecDepth 20000 in
theorem gL_law_X11_thrown : GoodIn wsL_law (wsV RL 49 RX11 yX11_thrown wsX11_thrown) := goodIn_app (goodIn_of _ (by decide +kernel)) ggL_law_X11_thrown
set_option maxRecDepth 20000 in
theorem ggL_law_X10_index : GoodIn wsL_law wsX10_index := goodIn_r _ [593, 28, 37, 518, 594, 595, 2, 596, 597, 598, 599, 27, 600, 71, 601, 602, 603, 82, 604, 94, 93, 272, 273, 274, 275, 605, 316, 317, 318, 606, 607, 608, 609, 610, 611, 612, 995, 996, 997, 998, 999, 1000, 1001, 1002, 1003, 1004, 1049, 1050, 1051, 1052, 1053, 1040, 1041, 1042, 1043, 1044, 1045, 1046, 1059, 1060, 1061] (by decide +kernel) (by decide +kernel)
set_option maxRecDepth 20000 in
theorem gL_law_X10_index : GoodIn wsL_law (wsV RL 52 RX10 yX10_index wsX10_index) := goodIn_app (goodIn_of _ (by decide +kernel)) ggL_law_X10_index
set_option maxRecDepth 20000 in
theorem ggL_law_X11_index : GoodIn wsL_law wsX11_index := goodIn_r _ [616, 139, 617, 618, 5, 619, 466, 467, 468, 620, 621, 622, 623, 115, 624, 625, 626, 627, 1005, 1006, 1007, 1008, 1009, 1010, 1011, 1012, 1013, 1014, 1015, 1016, 1017, 1018, 1019, 1020, 1021, 1022, 1023, 1024, 1025, 1026] (by decide +kernel) (by decide +kernel)
set_option maxRecDepth 20000 in
theorem gL_law_X11_index : GoodIn wsL_law (wsV RL 55 RX11 yX11_index wsX11_index) := goodIn_app (goodIn_of _ (by decide +kernel)) ggL_law_X11_index
set_option maxRecDepth 20000 in
theorem ggL_law_X10_rent : GoodIn wsL_law wsX10_rent := goodIn_r _ [631, 37, 546, 547, 548, 36, 549, 266, 85, 632, 633, 634, 88, 635, 339, 340, 594, 595, 2, 596, 636, 637, 638, 639, 28, 518, 640, 641, 642, 643, 27, 644, 645, 646, 647, 648, 649, 650, 651, 652, 653, 598, 599, 600, 71, 601, 602, 603, 82, 604, 94, 93, 272, 273, 274, 275, 605, 316, 317, 318, 606, 607, 608, 654, 655, 656, 657, 658, 659, 660, 661, 662, 175, 176, 177, 663, 555, 556, 557, 344, 342, 664, 665, 666, 667, 668, 669, 670, 671, 672, 673, 674, 675, 676, 677, 678, 610, 611, 612, 679, 680, 681, 682, 105, 683, 684, 685, 686, 104, 687, 688, 689, 690, 691, 692, 693, 180, 181, 694, 695, 696, 697, 698, 699, 700, 701, 702, 703, 995, 996, 997, 998, 999, 1000, 1001, 1002, 1003, 1004, 1049, 1050, 1051, 1052, 1053, 1062, 1063, 1064, 1065, 1066, 1067, 1068, 1069, 1070, 1071, 1072, 1073, 1074, 1075, 1040, 1041, 1042, 1043, 1044, 1045, 1046, 1059, 1060, 1061, 1076, 1077, 1078] (by decide +kernel) (by decide +kernel)
set_option maxRecDepth 20000 in
theorem gL_law_X10_rent : GoodIn wsL_law (wsV RL 56 RX10 yX10_rent wsX10_rent) := goodIn_app (goodIn_of _ (by decide +kernel)) ggL_law_X10_rent
set_option maxRecDepth 20000 in
theorem ggL_law_X11_rent : GoodIn wsL_law wsX11_rent := goodIn_r _ [707, 139, 708, 709, 710, 5, 711, 562, 563, 564, 565, 115, 466, 467, 468, 570, 571, 572, 573, 578, 579, 580, 581, 617, 618, 619, 712, 713, 714, 715, 120, 121, 122, 716, 717, 119, 718, 582, 583, 584, 585, 719, 720, 721, 722, 723, 724, 725, 726, 727, 728, 729, 730, 620, 621, 622, 623, 624, 625, 626, 627, 731, 732, 733, 734, 735, 736, 737, 738, 739, 740, 741, 742, 743, 744, 745, 746, 1005, 1006, 1007, 1008, 1009, 1010, 1011, 1012, 1013, 1014, 1015, 1016, 1017, 1018, 1019, 1020, 1021, 1022, 1023, 1024, 1025, 1026] (by decide +kernel) (by decide +kernel)
set_option maxRecDepth 20000 in
theorem gL_law_X11_rent : GoodIn wsL_law (wsV RL 60 RX11 yX11_rent wsX11_rent) := goodIn_app (goodIn_of _ (by decide +kernel)) ggL_law_X11_rent
set_option maxRecDepth 20000 in
theorem ggL_law_X10_review : GoodIn wsL_law wsX10_review := goodIn_r _ [750, 37, 751, 28, 518, 752, 640, 753, 754, 755, 756, 546, 547, 548, 36, 549, 266, 85, 757, 758, 759, 88, 760, 761, 555, 556, 557, 344, 342, 340, 594, 595, 2, 596, 641, 642, 643, 27, 644, 645, 646, 647, 648, 649, 650, 651, 652, 653, 598, 599, 600, 71, 601, 602, 603, 82, 604, 94, 93, 272, 273, 274, 275, 605, 316, 317, 318, 606, 607, 608, 762, 665, 666, 667, 339, 654, 655, 656, 657, 658, 659, 660, 661, 662, 175, 176, 177, 663, 664, 668, 669, 670, 671, 672, 673, 674, 675, 676, 677, 678, 610, 611, 612, 679, 680, 681, 682, 105, 683, 684, 685, 686, 104, 687, 688, 689, 690, 691, 692, 693, 180, 181, 694, 695, 696, 697, 698, 699, 700, 701, 702, 703, 995, 996, 997, 998, 999, 1000, 1001, 1002, 1003, 1004, 1049, 1050, 1051, 1052, 1053, 1040, 1041, 1042, 1043, 1044, 1045, 1046, 1062, 1063, 1064, 1065, 1066, 1067, 1068, 1069, 1070, 1071, 1072, 1073, 1074, 1075, 1076, 1077, 1078, 1059, 1060, 1061] (by decide +kernel) (by decide +kernel)
set_option maxRecDepth 20000 in
theorem gL_law_X10_review : GoodIn wsL_law (wsV RL 61 RX10 yX10_review wsX10_review) := goodIn_app (goodIn_of _ (by decide +kernel)) ggL_law_X10_review
set_option maxRecDepth 20000 in
theorem ggL_law_X11_review : GoodIn wsL_law wsX11_review := goodIn_r _ [766, 139, 767, 119, 120, 121, 122, 562, 563, 564, 5, 565, 115, 466, 467, 468, 582, 583, 584, 585, 570, 571, 572, 573, 617, 618, 619, 712, 713, 714, 715, 716, 717, 718, 719, 720, 721, 722, 723, 724, 725, 726, 727, 728, 729, 730, 620, 621, 622, 623, 624, 625, 626, 627, 731, 732, 733, 734, 735, 736, 737, 738, 739, 740, 741, 742, 1005, 1006, 1007, 1008, 1009, 1010, 1011, 1012, 1013, 1014, 1015, 1016, 1017, 1018, 1019, 1020, 1021, 1022, 1023, 1024, 1025, 1026] (by decide +kernel) (by decide +kernel)
set_option maxRecDepth 20000 in
theorem gL_law_X11_review : GoodIn wsL_law (wsV RL 65 RX11 yX11_review wsX11_review) := goodIn_app (goodIn_of _ (by decide +kernel)) ggL_law_X11_review
set_option maxRecDepth 20000 in
theorem ggL_law_X10_billed : GoodIn wsL_law wsX10_billed := goodIn_r _ [771, 37, 28, 518, 546, 547, 548, 36, 549, 266, 85, 632, 633, 634, 88, 635, 339, 340, 550, 551, 552, 553, 348, 347, 641, 642, 643, 27, 644, 645, 646, 647, 648, 649, 650, 651, 652, 653, 598, 599, 600, 71, 601, 602, 603, 82, 604, 94, 93, 272, 273, 274, 275, 605, 316, 317, 318, 606, 607, 608, 772, 773, 774, 775, 776, 655, 656, 657, 658, 659, 660, 661, 662, 175, 176, 177, 663, 555, 556, 557, 344, 342, 664, 665, 666, 667, 668, 669, 670, 671, 672, 673, 674, 675, 676, 677, 678, 610, 611, 612, 679, 680, 681, 682, 105, 683, 684, 685, 686, 104, 687, 688, 689, 690, 691, 692, 693, 180, 181, 694, 695, 696, 697, 698, 699, 700, 701, 702, 703, 777, 778, 779, 780, 343, 995, 996, 997, 998, 999, 1000, 1001, 1002, 1003, 1004, 1049, 1050, 1051, 1052, 1053, 1062, 1063, 1064, 1065, 1066, 1067, 1068, 1069, 1070, 1071, 1072, 1073, 1074, 1075, 1040, 1041, 1042, 1043, 1044, 1045, 1046, 1059, 1060, 1061, 1076, 1077, 1078] (by decide +kernel) (by decide +kernel)
set_option maxRecDepth 20000 in
theorem gL_law_X10_billed : GoodIn wsL_law (wsV RL 66 RX10 yX10_billed wsX10_billed) := goodIn_app (goodIn_of _ (by decide +kernel)) ggL_law_X10_billed
set_option maxRecDepth 20000 in
theorem ggL_law_X11_billed : GoodIn wsL_law wsX11_billed := goodIn_r _ [784, 139, 708, 709, 710, 5, 711, 562, 563, 564, 565, 115, 466, 467, 468, 570, 571, 572, 573, 578, 579, 580, 581, 574, 575, 576, 577, 712, 713, 714, 715, 120, 121, 122, 716, 717, 119, 718, 582, 583, 584, 585, 719, 720, 721, 722, 723, 724, 725, 726, 727, 728, 729, 730, 620, 621, 622, 623, 624, 625, 626, 627, 617, 618, 619, 731, 732, 733, 734, 735, 736, 737, 738, 739, 740, 741, 742, 785, 786, 787, 788, 743, 744, 745, 746, 1005, 1006, 1007, 1008, 1009, 1010, 1011, 1012, 1013, 1014, 1015, 1016, 1017, 1018, 1019, 1020, 1021, 1022, 1023, 1024, 1025, 1026] (by decide +kernel) (by decide +kernel)
set_option maxRecDepth 20000 in
theorem gL_law_X11_billed : GoodIn wsL_law (wsV RL 69 RX11 yX11_billed wsX11_billed) := goodIn_app (goodIn_of _ (by decide +kernel)) ggL_law_X11_billed
set_option maxRecDepth 20000 in
theorem ggL_law_X10_trued : GoodIn wsL_law wsX10_trued := goodIn_r _ [792, 793, 794, 795, 2, 796, 37, 751, 28, 518, 29, 797, 175, 176, 177, 540, 546, 547, 548, 36, 549, 266, 85, 594, 595, 596, 641, 642, 643, 27, 644, 645, 646, 647, 648, 649, 650, 651, 652, 653, 598, 599, 600, 71, 601, 602, 603, 82, 604, 94, 93, 272, 273, 274, 275, 605, 316, 317, 318, 606, 607, 608, 550, 551, 552, 88, 553, 348, 347, 339, 340, 772, 773, 774, 775, 776, 655, 656, 657, 658, 659, 660, 661, 662, 663, 555, 556, 557, 344, 342, 664, 665, 666, 667, 668, 669, 670, 671, 672, 673, 674, 675, 676, 677, 678, 610, 611, 612, 679, 680, 681, 682, 105, 683, 684, 685, 686, 104, 687, 688, 689, 690, 691, 692, 693, 180, 181, 694, 695, 696, 697, 698, 699, 700, 701, 702, 703, 777, 778, 779, 780, 343, 798, 799, 800, 801, 517, 802, 995, 996, 997, 998, 999, 1000, 1001, 1002, 1003, 1004, 1049, 1050, 1051, 1052, 1053, 1062, 1063, 1064, 1065, 1066, 1067, 1068, 1069, 1070, 1071, 1072, 1073, 1074, 1075, 1040, 1041, 1042, 1043, 1044, 1045, 1046, 1059, 1060, 1061, 1076, 1077, 1078] (by decide +kernel) (by decide +kernel)
set_option maxRecDepth 20000 in
theorem gL_law_X10_trued : GoodIn wsL_law (wsV RL 70 RX10 yX10_trued wsX10_trued) := goodIn_app (goodIn_of _ (by decide +kernel)) ggL_law_X10_trued
set_option maxRecDepth 20000 in
theorem ggL_law_X11_trued : GoodIn wsL_law wsX11_trued := goodIn_r _ [806, 139, 767, 562, 563, 564, 5, 565, 115, 466, 467, 468, 807, 808, 809, 810, 123, 811, 570, 571, 572, 573, 574, 575, 576, 577, 578, 579, 580, 581, 712, 713, 714, 715, 120, 121, 122, 716, 717, 119, 718, 582, 583, 584, 585, 719, 720, 721, 722, 723, 724, 725, 726, 727, 728, 729, 730, 620, 621, 622, 623, 624, 625, 626, 627, 617, 618, 619, 731, 732, 733, 734, 735, 736, 737, 738, 739, 740, 741, 742, 785, 786, 787, 788, 743, 744, 745, 746, 1005, 1006, 1007, 1008, 1009, 1010, 1011, 1012, 1013, 1014, 1015, 1016, 1017, 1018, 1019, 1020, 1021, 1022, 1023, 1024, 1025, 1026] (by decide +kernel) (by decide +kernel)
set_option maxRecDepth 20000 in
theorem gL_law_X11_trued : GoodIn wsL_law (wsV RL 73 RX11 yX11_trued wsX11_trued) := goodIn_app (goodIn_of _ (by decide +kernel)) ggL_law_X11_trued
set_option maxRecDepth 20000 in
theorem ggL_law_X10_interest : GoodIn wsL_law wsX10_interest := goodIn_r _ [815, 793, 794, 795, 2, 796, 37, 751, 28, 518, 29, 797, 175, 176, 177, 540, 546, 547, 548, 36, 549, 266, 85, 594, 595, 596, 641, 642, 643, 27, 644, 645, 646, 647, 648, 649, 650, 651, 652, 653, 598, 599, 600, 71, 601, 602, 603, 82, 604, 94, 93, 272, 273, 274, 275, 605, 316, 317, 318, 606, 607, 608, 550, 551, 552, 88, 553, 348, 347, 339, 340, 772, 773, 774, 775, 776, 655, 656, 657, 658, 659, 660, 661, 662, 663, 555, 556, 557, 344, 342, 664, 665, 666, 667, 668, 669, 670, 671, 672, 673, 674, 675, 676, 677, 678, 610, 611, 612, 679, 680, 681, 682, 105, 683, 684, 685, 686, 104, 687, 688, 689, 690, 691, 692, 693, 180, 181, 694, 695, 696, 697, 698, 699, 700, 701, 702, 703, 777, 778, 779, 780, 343, 798, 799, 800, 801, 517, 802, 995, 996, 997, 998, 999, 1000, 1001, 1002, 1003, 1004, 1049, 1050, 1051, 1052, 1053, 1062, 1063, 1064, 1065, 1066, 1067, 1068, 1069, 1070, 1071, 1072, 1073, 1074, 1075, 1040, 1041, 1042, 1043, 1044, 1045, 1046, 1059, 1060, 1061, 1076, 1077, 1078] (by decide +kernel) (by decide +kernel)
set_option maxRecDepth 20000 in
theorem gL_law_X10_interest : GoodIn wsL_law (wsV RL 74 RX10 yX10_interest wsX10_interest) := goodIn_app (goodIn_of _ (by decide +kernel)) ggL_law_X10_interest
set_option maxRecDepth 20000 in
theorem ggL_law_X11_interest : GoodIn wsL_law wsX11_interest := goodIn_r _ [819, 139, 767, 562, 563, 564, 5, 565, 115, 466, 467, 468, 807, 808, 809, 810, 123, 811, 570, 571, 572, 573, 574, 575, 576, 577, 578, 579, 580, 581, 712, 713, 714, 715, 120, 121, 122, 716, 717, 119, 718, 582, 583, 584, 585, 719, 720, 721, 722, 723, 724, 725, 726, 727, 728, 729, 730, 620, 621, 622, 623, 624, 625, 626, 627, 617, 618, 619, 731, 732, 733, 734, 735, 736, 737, 738, 739, 740, 741, 742, 785, 786, 787, 788, 743, 744, 745, 746, 1005, 1006, 1007, 1008, 1009, 1010, 1011, 1012, 1013, 1014, 1015, 1016, 1017, 1018, 1019, 1020, 1021, 1022, 1023, 1024, 1025, 1026] (by decide +kernel) (by decide +kernel)
set_option maxRecDepth 20000 in
theorem gL_law_X11_interest : GoodIn wsL_law (wsV RL 77 RX11 yX11_interest wsX11_interest) := goodIn_app (goodIn_of _ (by decide +kernel)) ggL_law_X11_interest
set_option maxRecDepth 20000 in
theorem ggL_law_X10_spread : GoodIn wsL_law wsX10_spread := goodIn_r _ [823, 37, 751, 33, 28, 824, 546, 547, 548, 36, 549, 266, 85, 632, 633, 634, 88, 635, 339, 340, 825, 826, 827, 32, 828, 829, 830, 831, 832, 833, 551, 552, 553, 348, 347, 834, 835, 836, 837, 86, 838, 642, 643, 27, 644, 645, 646, 647, 648, 649, 650, 651, 652, 653, 598, 599, 600, 71, 601, 602, 603, 82, 604, 94, 93, 272, 273, 274, 275, 605, 316, 317, 318, 606, 607, 608, 839, 840, 841, 842, 677, 776, 655, 656, 657, 658, 659, 660, 661, 662, 175, 176, 177, 663, 555, 556, 557, 344, 342, 664, 665, 666, 667, 668, 669, 670, 671, 672, 673, 674, 675, 676, 678, 610, 611, 612, 679, 680, 681, 682, 105, 683, 684, 685, 686, 104, 687, 688, 689, 690, 691, 692, 693, 180, 181, 694, 695, 696, 697, 698, 699, 700, 701, 702, 703, 777, 778, 779, 780, 343, 995, 996, 997, 998, 999, 1000, 1001, 1002, 1003, 1004, 1047, 1048, 1049, 1050, 1051, 1052, 1053, 1062, 1063, 1064, 1065, 1066, 1067, 1068, 1069, 1070, 1071, 1072, 1073, 1074, 1075, 1040, 1041, 1042, 1043, 1044, 1045, 1046, 1059, 1060, 1061, 1076, 1077, 1078] (by decide +kernel) (by decide +kernel)
set_option maxRecDepth 20000 in
theorem gL_law_X10_spread : GoodIn wsL_law (wsV RL 78 RX10 yX10_spread wsX10_spread) := goodIn_app (goodIn_of _ (by decide +kernel)) ggL_law_X10_spread
set_option maxRecDepth 20000 in
theorem ggL_law_X11_spread : GoodIn wsL_law wsX11_spread := goodIn_r _ [846, 139, 767, 124, 708, 709, 710, 5, 711, 562, 563, 564, 565, 115, 466, 467, 468, 570, 571, 572, 573, 578, 579, 580, 581, 847, 848, 849, 850, 574, 575, 576, 577, 712, 713, 714, 715, 120, 121, 122, 716, 717, 119, 718, 582, 583, 584, 585, 719, 720, 721, 722, 723, 724, 725, 726, 727, 728, 729, 730, 620, 621, 622, 623, 624, 625, 626, 627, 617, 618, 619, 731, 732, 733, 734, 735, 736, 737, 738, 739, 740, 741, 742, 785, 786, 787, 788, 743, 744, 745, 746, 1005, 1006, 1007, 1008, 1009, 1010, 1011, 1012, 1013, 1014, 1015, 1016, 1017, 1018, 1019, 1020, 1021, 1022, 1023, 1024, 1025, 1026] (by decide +kernel) (by decide +kernel)
set_option maxRecDepth 20000 in
theorem gL_law_X11_spread : GoodIn wsL_law (wsV RL 81 RX11 yX11_spread wsX11_spread) := goodIn_app (goodIn_of _ (by decide +kernel)) ggL_law_X11_spread
set_option maxRecDepth 20000 in
theorem ggL_law_X10_ahead : GoodIn wsL_law wsX10_ahead := goodIn_r _ [854, 37, 751, 797, 175, 176, 177, 33, 28, 518, 855, 546, 547, 548, 36, 549, 266, 85, 632, 633, 634, 88, 635, 339, 340, 550, 551, 552, 553, 348, 347, 825, 826, 827, 32, 828, 829, 830, 831, 832, 833, 834, 835, 836, 837, 86, 838, 642, 643, 27, 644, 645, 646, 647, 648, 649, 650, 651, 652, 653, 598, 599, 600, 71, 601, 602, 603, 82, 604, 94, 93, 272, 273, 274, 275, 605, 316, 317, 318, 606, 607, 608, 839, 840, 841, 842, 677, 776, 655, 656, 657, 658, 659, 660, 661, 662, 663, 555, 556, 557, 344, 342, 664, 665, 666, 667, 668, 669, 670, 671, 672, 673, 674, 675, 676, 678, 610, 611, 612, 679, 680, 681, 682, 105, 683, 684, 685, 686, 104, 687, 688, 689, 690, 691, 692, 693, 180, 181, 694, 695, 696, 697, 698, 699, 700, 701, 702, 703, 777, 778, 779, 780, 343, 641, 856, 995, 996, 997, 998, 999, 1000, 1001, 1002, 1003, 1004, 1049, 1050, 1051, 1052, 1053, 1047, 1048, 1062, 1063, 1064, 1065, 1066, 1067, 1068, 1069, 1070, 1071, 1072, 1073, 1074, 1075, 1040, 1041, 1042, 1043, 1044, 1045, 1046, 1059, 1060, 1061, 1076, 1077, 1078] (by decide +kernel) (by decide +kernel)
set_option maxRecDepth 20000 in
theorem gL_law_X10_ahead : GoodIn wsL_law (wsV RL 82 RX10 yX10_ahead wsX10_ahead) := goodIn_app (goodIn_of _ (by decide +kernel)) ggL_law_X10_ahead
set_option maxRecDepth 20000 in
theorem ggL_law_X11_ahead : GoodIn wsL_law wsX11_ahead := goodIn_r _ [860, 139, 767, 124, 708, 709, 710, 5, 711, 562, 563, 564, 565, 115, 466, 467, 468, 570, 571, 572, 573, 578, 579, 580, 581, 847, 848, 849, 850, 574, 575, 576, 577, 712, 713, 714, 715, 120, 121, 122, 716, 717, 119, 718, 582, 583, 584, 585, 719, 720, 721, 722, 723, 724, 725, 726, 727, 728, 729, 730, 620, 621, 622, 623, 624, 625, 626, 627, 617, 618, 619, 731, 732, 733, 734, 735, 736, 737, 738, 739, 740, 741, 742, 785, 786, 787, 788, 743, 744, 745, 746, 1005, 1006, 1007, 1008, 1009, 1010, 1011, 1012, 1013, 1014, 1015, 1016, 1017, 1018, 1019, 1020, 1021, 1022, 1023, 1024, 1025, 1026] (by decide +kernel) (by decide +kernel)
set_option maxRecDepth 20000 in
theorem gL_law_X11_ahead : GoodIn wsL_law (wsV RL 85 RX11 yX11_ahead wsX11_ahead) := goodIn_app (goodIn_of _ (by decide +kernel)) ggL_law_X11_ahead
set_option maxRecDepth 20000 in
theorem ggL_law_X10_would : GoodIn wsL_law wsX10_would := goodIn_r _ [864, 37, 160, 518, 546, 547, 548, 36, 549, 266, 85, 632, 633, 634, 88, 635, 339, 340, 865, 866, 867, 2, 868, 519, 594, 595, 596, 869, 316, 317, 82, 318, 93, 870, 320, 321, 322, 94, 271, 636, 637, 638, 639, 28, 640, 641, 642, 643, 27, 644, 645, 646, 647, 648, 649, 650, 651, 652, 653, 598, 599, 600, 71, 601, 602, 603, 604, 272, 273, 274, 275, 605, 606, 607, 608, 654, 655, 656, 657, 658, 659, 660, 661, 662, 175, 176, 177, 663, 555, 556, 557, 344, 342, 664, 665, 666, 667, 668, 669, 670, 671, 672, 673, 674, 675, 676, 677, 678, 610, 611, 612, 679, 680, 681, 682, 105, 683, 684, 685, 686, 104, 687, 688, 689, 690, 691, 692, 693, 180, 181, 694, 695, 696, 697, 698, 699, 700, 701, 702, 703, 871, 872, 873, 874, 995, 996, 997, 998, 999, 1000, 1001, 1002, 1003, 1004, 1049, 1050, 1051, 1052, 1053, 1062, 1063, 1064, 1065, 1066, 1067, 1068, 1069, 1070, 1071, 1072, 1073, 1074, 1075, 1059, 1060, 1061, 1040, 1041, 1042, 1043, 1044, 1045, 1046, 1076, 1077, 1078] (by decide +kernel) (by decide +kernel)
set_option maxRecDepth 20000 in
theorem gL_law_X10_would : GoodIn wsL_law (wsV RL 86 RX10 yX10_would wsX10_would) := goodIn_app (goodIn_of _ (by decide +kernel)) ggL_law_X10_would
set_option maxRecDepth 20000 in
theorem ggL_law_X11_would : GoodIn wsL_law wsX11_would := goodIn_r _ [878, 139, 115, 708, 709, 710, 5, 711, 562, 563, 564, 565, 466, 467, 468, 570, 571, 572, 573, 578, 579, 580, 581, 879, 880, 881, 882, 617, 618, 619, 525, 526, 527, 528, 883, 884, 885, 886, 712, 713, 714, 715, 120, 121, 122, 716, 717, 119, 718, 582, 583, 584, 585, 719, 720, 721, 722, 723, 724, 725, 726, 727, 728, 729, 730, 620, 621, 622, 623, 624, 625, 626, 627, 731, 732, 733, 734, 735, 736, 737, 738, 739, 740, 741, 742, 743, 744, 745, 746, 1005, 1006, 1007, 1008, 1009, 1010, 1011, 1012, 1013, 1014, 1015, 1016, 1017, 1018, 1019, 1020, 1021, 1022, 1023, 1024, 1025, 1026] (by decide +kernel) (by decide +kernel)
set_option maxRecDepth 20000 in
theorem gL_law_X11_would : GoodIn wsL_law (wsV RL 89 RX11 yX11_would wsX11_would) := goodIn_app (goodIn_of _ (by decide +kernel)) ggL_law_X11_would
set_option maxRecDepth 20000 in
theorem ggL_law_X10_publish : GoodIn wsL_law wsX10_publish := goodIn_r _ [890, 37, 518, 160, 24, 519, 865, 866, 867, 2, 868, 594, 595, 596, 869, 316, 317, 82, 318, 93, 870, 320, 321, 322, 94, 271, 891, 324, 325, 36, 326, 86, 892, 893, 894, 23, 895, 412, 64, 65, 66, 896, 897, 898, 899, 995, 996, 997, 998, 999, 1000, 1001, 1002, 1003, 1004, 1049, 1050, 1051, 1052, 1053, 1059, 1060, 1061, 1036, 1037, 1038, 1039] (by decide +kernel) (by decide +kernel)
set_option maxRecDepth 20000 in
theorem gL_law_X10_publish : GoodIn wsL_law (wsV RL 90 RX10 yX10_publish wsX10_publish) := goodIn_app (goodIn_of _ (by decide +kernel)) ggL_law_X10_publish
set_option maxRecDepth 20000 in
theorem ggL_law_X11_publish : GoodIn wsL_law wsX11_publish := goodIn_r _ [903, 139, 879, 880, 881, 5, 882, 115, 617, 618, 619, 466, 467, 468, 525, 526, 527, 528, 904, 905, 906, 907, 422, 118, 883, 884, 885, 886, 1005, 1006, 1007, 1008, 1009, 1010, 1011, 1012, 1013, 1014, 1015, 1016, 1017, 1018, 1019, 1020, 1021, 1022, 1023, 1024, 1025, 1026] (by decide +kernel) (by decide +kernel)
set_option maxRecDepth 20000 in
theorem gL_law_X11_publish : GoodIn wsL_law (wsV RL 93 RX11 yX11_publish wsX11_publish) := goodIn_app (goodIn_of _ (by decide +kernel)) ggL_law_X11_publish
set_option maxRecDepth 20000 in
theorem ggL_law_X10_market : GoodIn wsL_law wsX10_market := goodIn_r _ [911, 37, 545, 912, 546, 547, 548, 36, 549, 266, 85, 757, 758, 759, 88, 760, 761, 555, 556, 557, 344, 342, 340, 913, 914, 915, 916, 917, 680, 681, 682, 105, 918, 919, 920, 2, 921, 160, 24, 922, 923, 924, 925, 104, 891, 324, 325, 326, 86, 892, 893, 894, 23, 895, 412, 64, 65, 66, 896, 897, 898, 899, 762, 665, 666, 667, 339, 995, 996, 997, 998, 999, 1000, 1001, 1002, 1003, 1004, 1062, 1063, 1064, 1065, 1066, 1067, 1068, 1069, 1070, 1071, 1072, 1073, 1074, 1075, 1049, 1050, 1051, 1052, 1053, 1036, 1037, 1038, 1039] (by decide +kernel) (by decide +kernel)
set_option maxRecDepth 20000 in
theorem gL_law_X10_market : GoodIn wsL_law (wsV RL 94 RX10 yX10_market wsX10_market) := goodIn_app (goodIn_of _ (by decide +kernel)) ggL_law_X10_market
set_option maxRecDepth 20000 in
theorem ggL_law_X11_market : GoodIn wsL_law wsX11_market := goodIn_r _ [929, 139, 488, 115, 562, 563, 564, 5, 565, 466, 467, 468, 570, 571, 572, 573, 582, 583, 584, 585, 904, 905, 906, 907, 422, 118, 723, 724, 725, 726, 1005, 1006, 1007, 1008, 1009, 1010, 1011, 1012, 1013, 1014, 1015, 1016, 1017, 1018, 1019, 1020, 1021, 1022, 1023, 1024, 1025, 1026] (by decide +kernel) (by decide +kernel)
set_option maxRecDepth 20000 in
theorem gL_law_X11_market : GoodIn wsL_law (wsV RL 97 RX11 yX11_market wsX11_market) := goodIn_app (goodIn_of _ (by decide +kernel)) ggL_law_X11_market
set_option maxRecDepth 20000 in
theorem ggL_law_X10_turnover : GoodIn wsL_law wsX10_turnover := goodIn_r _ [933, 37, 545, 540, 934, 546, 547, 548, 36, 549, 266, 85, 632, 633, 634, 88, 635, 339, 340, 913, 914, 915, 916, 917, 680, 681, 682, 105, 918, 919, 920, 2, 921, 160, 24, 922, 923, 924, 925, 104, 891, 324, 325, 326, 86, 892, 893, 894, 23, 895, 412, 64, 65, 66, 896, 897, 898, 899, 995, 996, 997, 998, 999, 1000, 1001, 1002, 1003, 1004, 1062, 1063, 1064, 1065, 1066, 1067, 1068, 1069, 1070, 1071, 1072, 1073, 1074, 1075, 1049, 1050, 1051, 1052, 1053, 1036, 1037, 1038, 1039] (by decide +kernel) (by decide +kernel)
set_option maxRecDepth 20000 in
theorem gL_law_X10_turnover : GoodIn wsL_law (wsV RL 98 RX10 yX10_turnover wsX10_turnover) := goodIn_app (goodIn_of _ (by decide +kernel)) ggL_law_X10_turnover
set_option maxRecDepth 20000 in
theorem ggL_law_X11_turnover : GoodIn wsL_law wsX11_turnover := goodIn_r _ [938, 139, 939, 115, 708, 709, 710, 5, 711, 562, 563, 564, 565, 466, 467, 468, 570, 571, 572, 573, 578, 579, 580, 581, 904, 905, 906, 907, 422, 118, 1005, 1006, 1007, 1008, 1009, 1010, 1011, 1012, 1013, 1014, 1015, 1016, 1017, 1018, 1019, 1020, 1021, 1022, 1023, 1024, 1025, 1026] (by decide +kernel) (by decide +kernel)
set_option maxRecDepth 20000 in
theorem gL_law_X11_turnover : GoodIn wsL_law (wsV RL 102 RX11 yX11_turnover wsX11_turnover) := goodIn_app (goodIn_of _ (by decide +kernel)) ggL_law_X11_turnover
set_option maxRecDepth 20000 in
theorem ggL_law_X10_breaks : GoodIn wsL_law wsX10_breaks := goodIn_r _ [943, 37, 944, 160, 945, 24, 546, 547, 548, 36, 549, 266, 85, 891, 324, 325, 326, 86, 892, 893, 894, 23, 895, 412, 64, 65, 66, 896, 897, 898, 899, 995, 996, 997, 998, 999, 1000, 1001, 1002, 1003, 1004, 1062, 1063, 1064, 1065, 1066, 1067, 1068, 1069, 1070, 1071, 1072, 1073, 1074, 1075, 1049, 1050, 1051, 1052, 1053, 1036, 1037, 1038, 1039] (by decide +kernel) (by decide +kernel)
set_option maxRecDepth 20000 in
theorem gL_law_X10_breaks : GoodIn wsL_law (wsV RL 103 RX10 yX10_breaks wsX10_breaks) := goodIn_app (goodIn_of _ (by decide +kernel)) ggL_law_X10_breaks
set_option maxRecDepth 20000 in
theorem ggL_law_X11_breaks : GoodIn wsL_law wsX11_breaks := goodIn_r _ [949, 139, 115, 562, 563, 564, 5, 565, 466, 467, 468, 739, 740, 741, 742, 570, 571, 572, 573, 904, 905, 906, 907, 422, 118, 1005, 1006, 1007, 1008, 1009, 1010, 1011, 1012, 1013, 1014, 1015, 1016, 1017, 1018, 1019, 1020, 1021, 1022, 1023, 1024, 1025, 1026] (by decide +kernel) (by decide +kernel)
set_option maxRecDepth 20000 in
theorem gL_law_X11_breaks : GoodIn wsL_law (wsV RL 106 RX11 yX11_breaks wsX11_breaks) := goodIn_app (goodIn_of _ (by decide +kernel)) ggL_law_X11_breaks
set_option maxRecDepth 20000 in
theorem ggL_law_X10_pass : GoodIn wsL_law wsX10_pass := goodIn_r _ [953, 160, 24, 594, 595, 2, 596, 892, 893, 894, 23, 895, 412, 64, 65, 66, 896, 897, 898, 899, 995, 996, 997, 998, 999, 1000, 1001, 1002, 1003, 1004, 1036, 1037, 1038, 1039] (by decide +kernel) (by decide +kernel)
set_option maxRecDepth 20000 in
theorem gL_law_X10_pass : GoodIn wsL_law (wsV RL 107 RX10 yX10_pass wsX10_pass) := goodIn_app (goodIn_of _ (by decide +kernel)) ggL_law_X10_pass
set_option maxRecDepth 20000 in
theorem ggL_law_X11_pass : GoodIn wsL_law wsX11_pass := goodIn_r _ [957, 139, 115, 466, 467, 5, 468, 904, 905, 906, 907, 422, 118, 1005, 1006, 1007, 1008, 1009, 1010, 1011, 1012, 1013, 1014, 1015, 1016, 1017, 1018, 1019, 1020, 1021, 1022, 1023, 1024, 1025, 1026] (by decide +kernel) (by decide +kernel)
set_option maxRecDepth 20000 in
theorem gL_law_X11_pass : GoodIn wsL_law (wsV RL 110 RX11 yX11_pass wsX11_pass) := goodIn_app (goodIn_of _ (by decide +kernel)) ggL_law_X11_pass
set_option maxRecDepth 20000 in
theorem ggL_law_X10_undo : GoodIn wsL_law wsX10_undo := goodIn_r _ [961, 24, 520, 37, 962, 963, 964, 23, 965, 64, 966, 967, 968, 969, 412, 970, 971, 972, 973, 65, 546, 547, 548, 36, 549, 266, 85, 974, 975, 976, 977, 66, 978, 979, 980, 2, 981, 160, 518, 945, 891, 324, 325, 326, 86, 871, 872, 873, 82, 874, 93, 94, 271, 982, 983, 984, 88, 985, 986, 923, 924, 925, 104, 105, 987, 988, 989, 990, 995, 996, 997, 998, 999, 1000, 1001, 1002, 1003, 1004, 1036, 1037, 1038, 1039, 1049, 1050, 1051, 1052, 1053, 1062, 1063, 1064, 1065, 1066, 1067, 1068, 1069, 1070, 1071, 1072, 1073, 1074, 1075, 1059, 1060, 1061] (by decide +kernel) (by decide +kernel)
set_option maxRecDepth 20000 in
theorem gL_law_X10_undo : GoodIn wsL_law (wsV RL 111 RX10 yX10_undo wsX10_undo) := goodIn_app (goodIn_of _ (by decide +kernel)) ggL_law_X10_undo
set_option maxRecDepth 20000 in
theorem ggL_law_X11_undo : GoodIn wsL_law wsX11_undo := goodIn_r _ [994, 139, 422, 115, 118, 1005, 1006, 1007, 1008, 1009, 1010, 1011, 1012, 1013, 1014, 1015, 1016, 1017, 1018, 1019, 1020, 1021, 1022, 1023, 1024, 1025, 1026] (by decide +kernel) (by decide +kernel)
set_option maxRecDepth 20000 in
theorem gL_law_X11_undo : GoodIn wsL_law (wsV RL 114 RX11 yX11_undo wsX11_undo) := goodIn_app (goodIn_of _ (by decide +kernel)) ggL_law_X11_undo
theorem dL_law_0 : decode cL_law 0 = .ok (.new 8, 3) := by decide +kernel
theorem dL_law_3 : decode cL_law 3 = .ok (.dup, 1) := by decide +kernel
theorem dL_law_4 : decode cL_law 4 = .ok (.invokespecial 15, 3) := by decide +kernel
theorem dL_law_7 : decode cL_law 7 = .ok (.astore_n 1, 1) := by decide +kernel
theorem dL_law_8 : decode cL_law 8 = .ok (.new 16, 3) := by decide +kernel
theorem dL_law_11 : decode cL_law 11 = .ok (.dup, 1) := by decide +kernel
theorem dL_law_12 : decode cL_law 12 = .ok (.invokespecial 18, 3) := by decide +kernel
theorem dL_law_15 : decode cL_law 15 = .ok (.astore_n 2, 1) := by decide +kernel
theorem dL_law_16 : decode cL_law 16 = .ok (.iconst 1, 1) := by decide +kernel
theorem dL_law_17 : decode cL_law 17 = .ok (.newarray .long, 2) := by decide +kernel
theorem dL_law_19 : decode cL_law 19 = .ok (.astore_n 3, 1) := by decide +kernel
theorem dL_law_20 : decode cL_law 20 = .ok (.iconst 0, 1) := by decide +kernel
theorem dL_law_21 : decode cL_law 21 = .ok (.istore 4, 2) := by decide +kernel
theorem dL_law_23 : decode cL_law 23 = .ok (.iload 4, 2) := by decide +kernel
theorem dL_law_25 : decode cL_law 25 = .ok (.aload_n 0, 1) := by decide +kernel
theorem dL_law_26 : decode cL_law 26 = .ok (.arraylength, 1) := by decide +kernel
theorem dL_law_27 : decode cL_law 27 = .ok (.bipush 6, 2) := by decide +kernel
theorem dL_law_29 : decode cL_law 29 = .ok (.isub, 1) := by decide +kernel
theorem dL_law_30 : decode cL_law 30 = .ok (.if_icmp .gt 912, 3) := by decide +kernel
theorem dL_law_33 : decode cL_law 33 = .ok (.aload_n 0, 1) := by decide +kernel
theorem dL_law_34 : decode cL_law 34 = .ok (.iload 4, 2) := by decide +kernel
theorem dL_law_36 : decode cL_law 36 = .ok (.iaload, 1) := by decide +kernel
theorem dL_law_37 : decode cL_law 37 = .ok (.bipush 31, 2) := by decide +kernel
theorem dL_law_39 : decode cL_law 39 = .ok (.iand, 1) := by decide +kernel
theorem dL_law_40 : decode cL_law 40 = .ok (.tableswitch 896 0 20 #[100, 173, 198, 211, 224, 249, 317, 354, 403, 464, 501, 538, 575, 612, 649, 698, 735, 784, 833, 858, 883], 100) := by decide +kernel
theorem dL_law_140 : decode cL_law 140 = .ok (.aload_n 1, 1) := by decide +kernel
theorem dL_law_141 : decode cL_law 141 = .ok (.aload_n 0, 1) := by decide +kernel
theorem dL_law_142 : decode cL_law 142 = .ok (.iload 4, 2) := by decide +kernel
theorem dL_law_144 : decode cL_law 144 = .ok (.iconst 1, 1) := by decide +kernel
theorem dL_law_145 : decode cL_law 145 = .ok (.iadd, 1) := by decide +kernel
theorem dL_law_146 : decode cL_law 146 = .ok (.iaload, 1) := by decide +kernel
theorem dL_law_147 : decode cL_law 147 = .ok (.aload_n 0, 1) := by decide +kernel
theorem dL_law_148 : decode cL_law 148 = .ok (.iload 4, 2) := by decide +kernel
theorem dL_law_150 : decode cL_law 150 = .ok (.iconst 2, 1) := by decide +kernel
theorem dL_law_151 : decode cL_law 151 = .ok (.iadd, 1) := by decide +kernel
theorem dL_law_152 : decode cL_law 152 = .ok (.iaload, 1) := by decide +kernel
theorem dL_law_153 : decode cL_law 153 = .ok (.aload_n 0, 1) := by decide +kernel
theorem dL_law_154 : decode cL_law 154 = .ok (.iload 4, 2) := by decide +kernel
theorem dL_law_156 : decode cL_law 156 = .ok (.iconst 3, 1) := by decide +kernel
theorem dL_law_157 : decode cL_law 157 = .ok (.iadd, 1) := by decide +kernel
theorem dL_law_158 : decode cL_law 158 = .ok (.iaload, 1) := by decide +kernel
theorem dL_law_159 : decode cL_law 159 = .ok (.aload_n 0, 1) := by decide +kernel
theorem dL_law_160 : decode cL_law 160 = .ok (.iload 4, 2) := by decide +kernel
theorem dL_law_162 : decode cL_law 162 = .ok (.iconst 4, 1) := by decide +kernel
theorem dL_law_163 : decode cL_law 163 = .ok (.iadd, 1) := by decide +kernel
theorem dL_law_164 : decode cL_law 164 = .ok (.iaload, 1) := by decide +kernel
theorem dL_law_165 : decode cL_law 165 = .ok (.aload_n 0, 1) := by decide +kernel
theorem dL_law_166 : decode cL_law 166 = .ok (.iload 4, 2) := by decide +kernel
theorem dL_law_168 : decode cL_law 168 = .ok (.iconst 5, 1) := by decide +kernel
theorem dL_law_169 : decode cL_law 169 = .ok (.iadd, 1) := by decide +kernel
theorem dL_law_170 : decode cL_law 170 = .ok (.iaload, 1) := by decide +kernel
theorem dL_law_171 : decode cL_law 171 = .ok (.invokevirtual 19, 3) := by decide +kernel
theorem dL_law_174 : decode cL_law 174 = .ok (.aload_n 2, 1) := by decide +kernel
theorem dL_law_175 : decode cL_law 175 = .ok (.aload_n 0, 1) := by decide +kernel
theorem dL_law_176 : decode cL_law 176 = .ok (.iload 4, 2) := by decide +kernel
theorem dL_law_178 : decode cL_law 178 = .ok (.iconst 1, 1) := by decide +kernel
theorem dL_law_179 : decode cL_law 179 = .ok (.iadd, 1) := by decide +kernel
theorem dL_law_180 : decode cL_law 180 = .ok (.iaload, 1) := by decide +kernel
theorem dL_law_181 : decode cL_law 181 = .ok (.aload_n 0, 1) := by decide +kernel
theorem dL_law_182 : decode cL_law 182 = .ok (.iload 4, 2) := by decide +kernel
theorem dL_law_184 : decode cL_law 184 = .ok (.iconst 2, 1) := by decide +kernel
theorem dL_law_185 : decode cL_law 185 = .ok (.iadd, 1) := by decide +kernel
theorem dL_law_186 : decode cL_law 186 = .ok (.iaload, 1) := by decide +kernel
theorem dL_law_187 : decode cL_law 187 = .ok (.aload_n 0, 1) := by decide +kernel
theorem dL_law_188 : decode cL_law 188 = .ok (.iload 4, 2) := by decide +kernel
theorem dL_law_190 : decode cL_law 190 = .ok (.iconst 3, 1) := by decide +kernel
theorem dL_law_191 : decode cL_law 191 = .ok (.iadd, 1) := by decide +kernel
theorem dL_law_192 : decode cL_law 192 = .ok (.iaload, 1) := by decide +kernel
theorem dL_law_193 : decode cL_law 193 = .ok (.aload_n 0, 1) := by decide +kernel
theorem dL_law_194 : decode cL_law 194 = .ok (.iload 4, 2) := by decide +kernel
theorem dL_law_196 : decode cL_law 196 = .ok (.iconst 4, 1) := by decide +kernel
theorem dL_law_197 : decode cL_law 197 = .ok (.iadd, 1) := by decide +kernel
theorem dL_law_198 : decode cL_law 198 = .ok (.iaload, 1) := by decide +kernel
theorem dL_law_199 : decode cL_law 199 = .ok (.aload_n 0, 1) := by decide +kernel
theorem dL_law_200 : decode cL_law 200 = .ok (.iload 4, 2) := by decide +kernel
theorem dL_law_202 : decode cL_law 202 = .ok (.iconst 5, 1) := by decide +kernel
theorem dL_law_203 : decode cL_law 203 = .ok (.iadd, 1) := by decide +kernel
theorem dL_law_204 : decode cL_law 204 = .ok (.iaload, 1) := by decide +kernel
theorem dL_law_205 : decode cL_law 205 = .ok (.invokevirtual 23, 3) := by decide +kernel
theorem dL_law_208 : decode cL_law 208 = .ok (.if_icmp .eq 728, 3) := by decide +kernel
theorem dL_law_211 : decode cL_law 211 = .ok (.iconst 0, 1) := by decide +kernel
theorem dL_law_212 : decode cL_law 212 = .ok (.ireturn, 1) := by decide +kernel
theorem dL_law_213 : decode cL_law 213 = .ok (.aload_n 1, 1) := by decide +kernel
theorem dL_law_214 : decode cL_law 214 = .ok (.aload_n 0, 1) := by decide +kernel
theorem dL_law_215 : decode cL_law 215 = .ok (.iload 4, 2) := by decide +kernel
theorem dL_law_217 : decode cL_law 217 = .ok (.iconst 1, 1) := by decide +kernel
theorem dL_law_218 : decode cL_law 218 = .ok (.iadd, 1) := by decide +kernel
theorem dL_law_219 : decode cL_law 219 = .ok (.iaload, 1) := by decide +kernel
theorem dL_law_220 : decode cL_law 220 = .ok (.invokevirtual 24, 3) := by decide +kernel
theorem dL_law_223 : decode cL_law 223 = .ok (.aload_n 2, 1) := by decide +kernel
theorem dL_law_224 : decode cL_law 224 = .ok (.aload_n 0, 1) := by decide +kernel
theorem dL_law_225 : decode cL_law 225 = .ok (.iload 4, 2) := by decide +kernel
theorem dL_law_227 : decode cL_law 227 = .ok (.iconst 1, 1) := by decide +kernel
theorem dL_law_228 : decode cL_law 228 = .ok (.iadd, 1) := by decide +kernel
theorem dL_law_229 : decode cL_law 229 = .ok (.iaload, 1) := by decide +kernel
theorem dL_law_230 : decode cL_law 230 = .ok (.invokevirtual 28, 3) := by decide +kernel
theorem dL_law_233 : decode cL_law 233 = .ok (.if_icmp .eq 703, 3) := by decide +kernel
theorem dL_law_236 : decode cL_law 236 = .ok (.iconst 0, 1) := by decide +kernel
theorem dL_law_237 : decode cL_law 237 = .ok (.ireturn, 1) := by decide +kernel
theorem dL_law_238 : decode cL_law 238 = .ok (.aload_n 1, 1) := by decide +kernel
theorem dL_law_239 : decode cL_law 239 = .ok (.invokevirtual 29, 3) := by decide +kernel
theorem dL_law_242 : decode cL_law 242 = .ok (.aload_n 2, 1) := by decide +kernel
theorem dL_law_243 : decode cL_law 243 = .ok (.invokevirtual 33, 3) := by decide +kernel
theorem dL_law_246 : decode cL_law 246 = .ok (.if_icmp .eq 690, 3) := by decide +kernel
theorem dL_law_249 : decode cL_law 249 = .ok (.iconst 0, 1) := by decide +kernel
theorem dL_law_250 : decode cL_law 250 = .ok (.ireturn, 1) := by decide +kernel
theorem dL_law_251 : decode cL_law 251 = .ok (.aload_n 1, 1) := by decide +kernel
theorem dL_law_252 : decode cL_law 252 = .ok (.invokevirtual 34, 3) := by decide +kernel
theorem dL_law_255 : decode cL_law 255 = .ok (.aload_n 2, 1) := by decide +kernel
theorem dL_law_256 : decode cL_law 256 = .ok (.invokevirtual 37, 3) := by decide +kernel
theorem dL_law_259 : decode cL_law 259 = .ok (.if_icmp .eq 677, 3) := by decide +kernel
theorem dL_law_262 : decode cL_law 262 = .ok (.iconst 0, 1) := by decide +kernel
theorem dL_law_263 : decode cL_law 263 = .ok (.ireturn, 1) := by decide +kernel
theorem dL_law_264 : decode cL_law 264 = .ok (.aload_n 1, 1) := by decide +kernel
theorem dL_law_265 : decode cL_law 265 = .ok (.aload_n 0, 1) := by decide +kernel
theorem dL_law_266 : decode cL_law 266 = .ok (.iload 4, 2) := by decide +kernel
theorem dL_law_268 : decode cL_law 268 = .ok (.iconst 1, 1) := by decide +kernel
theorem dL_law_269 : decode cL_law 269 = .ok (.iadd, 1) := by decide +kernel
theorem dL_law_270 : decode cL_law 270 = .ok (.iaload, 1) := by decide +kernel
theorem dL_law_271 : decode cL_law 271 = .ok (.invokevirtual 38, 3) := by decide +kernel
theorem dL_law_274 : decode cL_law 274 = .ok (.aload_n 2, 1) := by decide +kernel
theorem dL_law_275 : decode cL_law 275 = .ok (.aload_n 0, 1) := by decide +kernel
theorem dL_law_276 : decode cL_law 276 = .ok (.iload 4, 2) := by decide +kernel
theorem dL_law_278 : decode cL_law 278 = .ok (.iconst 1, 1) := by decide +kernel
theorem dL_law_279 : decode cL_law 279 = .ok (.iadd, 1) := by decide +kernel
theorem dL_law_280 : decode cL_law 280 = .ok (.iaload, 1) := by decide +kernel
theorem dL_law_281 : decode cL_law 281 = .ok (.invokevirtual 42, 3) := by decide +kernel
theorem dL_law_284 : decode cL_law 284 = .ok (.if_icmp .eq 652, 3) := by decide +kernel
theorem dL_law_287 : decode cL_law 287 = .ok (.iconst 0, 1) := by decide +kernel
theorem dL_law_288 : decode cL_law 288 = .ok (.ireturn, 1) := by decide +kernel
theorem dL_law_289 : decode cL_law 289 = .ok (.aload_n 1, 1) := by decide +kernel
theorem dL_law_290 : decode cL_law 290 = .ok (.aload_n 0, 1) := by decide +kernel
theorem dL_law_291 : decode cL_law 291 = .ok (.iload 4, 2) := by decide +kernel
theorem dL_law_293 : decode cL_law 293 = .ok (.iconst 1, 1) := by decide +kernel
theorem dL_law_294 : decode cL_law 294 = .ok (.iadd, 1) := by decide +kernel
theorem dL_law_295 : decode cL_law 295 = .ok (.iaload, 1) := by decide +kernel
theorem dL_law_296 : decode cL_law 296 = .ok (.aload_n 0, 1) := by decide +kernel
theorem dL_law_297 : decode cL_law 297 = .ok (.iload 4, 2) := by decide +kernel
theorem dL_law_299 : decode cL_law 299 = .ok (.iconst 2, 1) := by decide +kernel
theorem dL_law_300 : decode cL_law 300 = .ok (.iadd, 1) := by decide +kernel
theorem dL_law_301 : decode cL_law 301 = .ok (.iaload, 1) := by decide +kernel
theorem dL_law_302 : decode cL_law 302 = .ok (.aload_n 3, 1) := by decide +kernel
theorem dL_law_303 : decode cL_law 303 = .ok (.invokestatic 43, 3) := by decide +kernel
theorem dL_law_306 : decode cL_law 306 = .ok (.istore 5, 2) := by decide +kernel
theorem dL_law_308 : decode cL_law 308 = .ok (.aload_n 2, 1) := by decide +kernel
theorem dL_law_309 : decode cL_law 309 = .ok (.aload_n 0, 1) := by decide +kernel
theorem dL_law_310 : decode cL_law 310 = .ok (.iload 4, 2) := by decide +kernel
theorem dL_law_312 : decode cL_law 312 = .ok (.iconst 1, 1) := by decide +kernel
theorem dL_law_313 : decode cL_law 313 = .ok (.iadd, 1) := by decide +kernel
theorem dL_law_314 : decode cL_law 314 = .ok (.iaload, 1) := by decide +kernel
theorem dL_law_315 : decode cL_law 315 = .ok (.aload_n 0, 1) := by decide +kernel
theorem dL_law_316 : decode cL_law 316 = .ok (.iload 4, 2) := by decide +kernel
theorem dL_law_318 : decode cL_law 318 = .ok (.iconst 2, 1) := by decide +kernel
theorem dL_law_319 : decode cL_law 319 = .ok (.iadd, 1) := by decide +kernel
theorem dL_law_320 : decode cL_law 320 = .ok (.iaload, 1) := by decide +kernel
theorem dL_law_321 : decode cL_law 321 = .ok (.invokevirtual 48, 3) := by decide +kernel
theorem dL_law_324 : decode cL_law 324 = .ok (.istore 6, 2) := by decide +kernel
theorem dL_law_326 : decode cL_law 326 = .ok (.aload_n 2, 1) := by decide +kernel
theorem dL_law_327 : decode cL_law 327 = .ok (.invokevirtual 49, 3) := by decide +kernel
theorem dL_law_330 : decode cL_law 330 = .ok (.iload 5, 2) := by decide +kernel
theorem dL_law_332 : decode cL_law 332 = .ok (.if_icmp .eq 5, 3) := by decide +kernel
theorem dL_law_335 : decode cL_law 335 = .ok (.iconst 0, 1) := by decide +kernel
theorem dL_law_336 : decode cL_law 336 = .ok (.ireturn, 1) := by decide +kernel
theorem dL_law_337 : decode cL_law 337 = .ok (.iload 5, 2) := by decide +kernel
theorem dL_law_339 : decode cL_law 339 = .ok (.ifCond .ne 15, 3) := by decide +kernel
theorem dL_law_342 : decode cL_law 342 = .ok (.aload_n 3, 1) := by decide +kernel
theorem dL_law_343 : decode cL_law 343 = .ok (.iconst 0, 1) := by decide +kernel
theorem dL_law_344 : decode cL_law 344 = .ok (.laload, 1) := by decide +kernel
theorem dL_law_345 : decode cL_law 345 = .ok (.iload 6, 2) := by decide +kernel
theorem dL_law_347 : decode cL_law 347 = .ok (.i2l, 1) := by decide +kernel
theorem dL_law_348 : decode cL_law 348 = .ok (.lcmp, 1) := by decide +kernel
theorem dL_law_349 : decode cL_law 349 = .ok (.ifCond .eq 5, 3) := by decide +kernel
theorem dL_law_352 : decode cL_law 352 = .ok (.iconst 0, 1) := by decide +kernel
theorem dL_law_353 : decode cL_law 353 = .ok (.ireturn, 1) := by decide +kernel
theorem dL_law_354 : decode cL_law 354 = .ok (.goto 582, 3) := by decide +kernel
theorem dL_law_357 : decode cL_law 357 = .ok (.aload_n 1, 1) := by decide +kernel
theorem dL_law_358 : decode cL_law 358 = .ok (.aload_n 0, 1) := by decide +kernel
theorem dL_law_359 : decode cL_law 359 = .ok (.iload 4, 2) := by decide +kernel
theorem dL_law_361 : decode cL_law 361 = .ok (.iconst 1, 1) := by decide +kernel
theorem dL_law_362 : decode cL_law 362 = .ok (.iadd, 1) := by decide +kernel
theorem dL_law_363 : decode cL_law 363 = .ok (.iaload, 1) := by decide +kernel
theorem dL_law_364 : decode cL_law 364 = .ok (.aload_n 0, 1) := by decide +kernel
theorem dL_law_365 : decode cL_law 365 = .ok (.iload 4, 2) := by decide +kernel
theorem dL_law_367 : decode cL_law 367 = .ok (.iconst 2, 1) := by decide +kernel
theorem dL_law_368 : decode cL_law 368 = .ok (.iadd, 1) := by decide +kernel
theorem dL_law_369 : decode cL_law 369 = .ok (.iaload, 1) := by decide +kernel
theorem dL_law_370 : decode cL_law 370 = .ok (.invokevirtual 52, 3) := by decide +kernel
theorem dL_law_373 : decode cL_law 373 = .ok (.aload_n 2, 1) := by decide +kernel
theorem dL_law_374 : decode cL_law 374 = .ok (.aload_n 0, 1) := by decide +kernel
theorem dL_law_375 : decode cL_law 375 = .ok (.iload 4, 2) := by decide +kernel
theorem dL_law_377 : decode cL_law 377 = .ok (.iconst 1, 1) := by decide +kernel
theorem dL_law_378 : decode cL_law 378 = .ok (.iadd, 1) := by decide +kernel
theorem dL_law_379 : decode cL_law 379 = .ok (.iaload, 1) := by decide +kernel
theorem dL_law_380 : decode cL_law 380 = .ok (.aload_n 0, 1) := by decide +kernel
theorem dL_law_381 : decode cL_law 381 = .ok (.iload 4, 2) := by decide +kernel
theorem dL_law_383 : decode cL_law 383 = .ok (.iconst 2, 1) := by decide +kernel
theorem dL_law_384 : decode cL_law 384 = .ok (.iadd, 1) := by decide +kernel
theorem dL_law_385 : decode cL_law 385 = .ok (.iaload, 1) := by decide +kernel
theorem dL_law_386 : decode cL_law 386 = .ok (.invokevirtual 55, 3) := by decide +kernel
theorem dL_law_389 : decode cL_law 389 = .ok (.if_icmp .eq 547, 3) := by decide +kernel
theorem dL_law_392 : decode cL_law 392 = .ok (.iconst 0, 1) := by decide +kernel
theorem dL_law_393 : decode cL_law 393 = .ok (.ireturn, 1) := by decide +kernel
theorem dL_law_394 : decode cL_law 394 = .ok (.aload_n 1, 1) := by decide +kernel
theorem dL_law_395 : decode cL_law 395 = .ok (.aload_n 0, 1) := by decide +kernel
theorem dL_law_396 : decode cL_law 396 = .ok (.iload 4, 2) := by decide +kernel
theorem dL_law_398 : decode cL_law 398 = .ok (.iconst 1, 1) := by decide +kernel
theorem dL_law_399 : decode cL_law 399 = .ok (.iadd, 1) := by decide +kernel
theorem dL_law_400 : decode cL_law 400 = .ok (.iaload, 1) := by decide +kernel
theorem dL_law_401 : decode cL_law 401 = .ok (.aload_n 0, 1) := by decide +kernel
theorem dL_law_402 : decode cL_law 402 = .ok (.iload 4, 2) := by decide +kernel
theorem dL_law_404 : decode cL_law 404 = .ok (.iconst 2, 1) := by decide +kernel
theorem dL_law_405 : decode cL_law 405 = .ok (.iadd, 1) := by decide +kernel
theorem dL_law_406 : decode cL_law 406 = .ok (.iaload, 1) := by decide +kernel
theorem dL_law_407 : decode cL_law 407 = .ok (.aload_n 0, 1) := by decide +kernel
theorem dL_law_408 : decode cL_law 408 = .ok (.iload 4, 2) := by decide +kernel
theorem dL_law_410 : decode cL_law 410 = .ok (.iconst 3, 1) := by decide +kernel
theorem dL_law_411 : decode cL_law 411 = .ok (.iadd, 1) := by decide +kernel
theorem dL_law_412 : decode cL_law 412 = .ok (.iaload, 1) := by decide +kernel
theorem dL_law_413 : decode cL_law 413 = .ok (.invokevirtual 56, 3) := by decide +kernel
theorem dL_law_416 : decode cL_law 416 = .ok (.aload_n 2, 1) := by decide +kernel
theorem dL_law_417 : decode cL_law 417 = .ok (.aload_n 0, 1) := by decide +kernel
theorem dL_law_418 : decode cL_law 418 = .ok (.iload 4, 2) := by decide +kernel
theorem dL_law_420 : decode cL_law 420 = .ok (.iconst 1, 1) := by decide +kernel
theorem dL_law_421 : decode cL_law 421 = .ok (.iadd, 1) := by decide +kernel
theorem dL_law_422 : decode cL_law 422 = .ok (.iaload, 1) := by decide +kernel
theorem dL_law_423 : decode cL_law 423 = .ok (.aload_n 0, 1) := by decide +kernel
theorem dL_law_424 : decode cL_law 424 = .ok (.iload 4, 2) := by decide +kernel
theorem dL_law_426 : decode cL_law 426 = .ok (.iconst 2, 1) := by decide +kernel
theorem dL_law_427 : decode cL_law 427 = .ok (.iadd, 1) := by decide +kernel
theorem dL_law_428 : decode cL_law 428 = .ok (.iaload, 1) := by decide +kernel
theorem dL_law_429 : decode cL_law 429 = .ok (.aload_n 0, 1) := by decide +kernel
theorem dL_law_430 : decode cL_law 430 = .ok (.iload 4, 2) := by decide +kernel
theorem dL_law_432 : decode cL_law 432 = .ok (.iconst 3, 1) := by decide +kernel
theorem dL_law_433 : decode cL_law 433 = .ok (.iadd, 1) := by decide +kernel
theorem dL_law_434 : decode cL_law 434 = .ok (.iaload, 1) := by decide +kernel
theorem dL_law_435 : decode cL_law 435 = .ok (.invokevirtual 60, 3) := by decide +kernel
theorem dL_law_438 : decode cL_law 438 = .ok (.if_icmp .eq 498, 3) := by decide +kernel
theorem dL_law_441 : decode cL_law 441 = .ok (.iconst 0, 1) := by decide +kernel
theorem dL_law_442 : decode cL_law 442 = .ok (.ireturn, 1) := by decide +kernel
theorem dL_law_443 : decode cL_law 443 = .ok (.aload_n 1, 1) := by decide +kernel
theorem dL_law_444 : decode cL_law 444 = .ok (.aload_n 0, 1) := by decide +kernel
theorem dL_law_445 : decode cL_law 445 = .ok (.iload 4, 2) := by decide +kernel
theorem dL_law_447 : decode cL_law 447 = .ok (.iconst 1, 1) := by decide +kernel
theorem dL_law_448 : decode cL_law 448 = .ok (.iadd, 1) := by decide +kernel
theorem dL_law_449 : decode cL_law 449 = .ok (.iaload, 1) := by decide +kernel
theorem dL_law_450 : decode cL_law 450 = .ok (.aload_n 0, 1) := by decide +kernel
theorem dL_law_451 : decode cL_law 451 = .ok (.iload 4, 2) := by decide +kernel
theorem dL_law_453 : decode cL_law 453 = .ok (.iconst 2, 1) := by decide +kernel
theorem dL_law_454 : decode cL_law 454 = .ok (.iadd, 1) := by decide +kernel
theorem dL_law_455 : decode cL_law 455 = .ok (.iaload, 1) := by decide +kernel
theorem dL_law_456 : decode cL_law 456 = .ok (.aload_n 0, 1) := by decide +kernel
theorem dL_law_457 : decode cL_law 457 = .ok (.iload 4, 2) := by decide +kernel
theorem dL_law_459 : decode cL_law 459 = .ok (.iconst 3, 1) := by decide +kernel
theorem dL_law_460 : decode cL_law 460 = .ok (.iadd, 1) := by decide +kernel
theorem dL_law_461 : decode cL_law 461 = .ok (.iaload, 1) := by decide +kernel
theorem dL_law_462 : decode cL_law 462 = .ok (.aload_n 0, 1) := by decide +kernel
theorem dL_law_463 : decode cL_law 463 = .ok (.iload 4, 2) := by decide +kernel
theorem dL_law_465 : decode cL_law 465 = .ok (.iconst 4, 1) := by decide +kernel
theorem dL_law_466 : decode cL_law 466 = .ok (.iadd, 1) := by decide +kernel
theorem dL_law_467 : decode cL_law 467 = .ok (.iaload, 1) := by decide +kernel
theorem dL_law_468 : decode cL_law 468 = .ok (.invokevirtual 61, 3) := by decide +kernel
theorem dL_law_471 : decode cL_law 471 = .ok (.aload_n 2, 1) := by decide +kernel
theorem dL_law_472 : decode cL_law 472 = .ok (.aload_n 0, 1) := by decide +kernel
theorem dL_law_473 : decode cL_law 473 = .ok (.iload 4, 2) := by decide +kernel
theorem dL_law_475 : decode cL_law 475 = .ok (.iconst 1, 1) := by decide +kernel
theorem dL_law_476 : decode cL_law 476 = .ok (.iadd, 1) := by decide +kernel
theorem dL_law_477 : decode cL_law 477 = .ok (.iaload, 1) := by decide +kernel
theorem dL_law_478 : decode cL_law 478 = .ok (.aload_n 0, 1) := by decide +kernel
theorem dL_law_479 : decode cL_law 479 = .ok (.iload 4, 2) := by decide +kernel
theorem dL_law_481 : decode cL_law 481 = .ok (.iconst 2, 1) := by decide +kernel
theorem dL_law_482 : decode cL_law 482 = .ok (.iadd, 1) := by decide +kernel
theorem dL_law_483 : decode cL_law 483 = .ok (.iaload, 1) := by decide +kernel
theorem dL_law_484 : decode cL_law 484 = .ok (.aload_n 0, 1) := by decide +kernel
theorem dL_law_485 : decode cL_law 485 = .ok (.iload 4, 2) := by decide +kernel
theorem dL_law_487 : decode cL_law 487 = .ok (.iconst 3, 1) := by decide +kernel
theorem dL_law_488 : decode cL_law 488 = .ok (.iadd, 1) := by decide +kernel
theorem dL_law_489 : decode cL_law 489 = .ok (.iaload, 1) := by decide +kernel
theorem dL_law_490 : decode cL_law 490 = .ok (.aload_n 0, 1) := by decide +kernel
theorem dL_law_491 : decode cL_law 491 = .ok (.iload 4, 2) := by decide +kernel
theorem dL_law_493 : decode cL_law 493 = .ok (.iconst 4, 1) := by decide +kernel
theorem dL_law_494 : decode cL_law 494 = .ok (.iadd, 1) := by decide +kernel
theorem dL_law_495 : decode cL_law 495 = .ok (.iaload, 1) := by decide +kernel
theorem dL_law_496 : decode cL_law 496 = .ok (.invokevirtual 65, 3) := by decide +kernel
theorem dL_law_499 : decode cL_law 499 = .ok (.if_icmp .eq 437, 3) := by decide +kernel
theorem dL_law_502 : decode cL_law 502 = .ok (.iconst 0, 1) := by decide +kernel
theorem dL_law_503 : decode cL_law 503 = .ok (.ireturn, 1) := by decide +kernel
theorem dL_law_504 : decode cL_law 504 = .ok (.aload_n 1, 1) := by decide +kernel
theorem dL_law_505 : decode cL_law 505 = .ok (.aload_n 0, 1) := by decide +kernel
theorem dL_law_506 : decode cL_law 506 = .ok (.iload 4, 2) := by decide +kernel
theorem dL_law_508 : decode cL_law 508 = .ok (.iconst 1, 1) := by decide +kernel
theorem dL_law_509 : decode cL_law 509 = .ok (.iadd, 1) := by decide +kernel
theorem dL_law_510 : decode cL_law 510 = .ok (.iaload, 1) := by decide +kernel
theorem dL_law_511 : decode cL_law 511 = .ok (.aload_n 0, 1) := by decide +kernel
theorem dL_law_512 : decode cL_law 512 = .ok (.iload 4, 2) := by decide +kernel
theorem dL_law_514 : decode cL_law 514 = .ok (.iconst 2, 1) := by decide +kernel
theorem dL_law_515 : decode cL_law 515 = .ok (.iadd, 1) := by decide +kernel
theorem dL_law_516 : decode cL_law 516 = .ok (.iaload, 1) := by decide +kernel
theorem dL_law_517 : decode cL_law 517 = .ok (.invokevirtual 66, 3) := by decide +kernel
theorem dL_law_520 : decode cL_law 520 = .ok (.aload_n 2, 1) := by decide +kernel
theorem dL_law_521 : decode cL_law 521 = .ok (.aload_n 0, 1) := by decide +kernel
theorem dL_law_522 : decode cL_law 522 = .ok (.iload 4, 2) := by decide +kernel
theorem dL_law_524 : decode cL_law 524 = .ok (.iconst 1, 1) := by decide +kernel
theorem dL_law_525 : decode cL_law 525 = .ok (.iadd, 1) := by decide +kernel
theorem dL_law_526 : decode cL_law 526 = .ok (.iaload, 1) := by decide +kernel
theorem dL_law_527 : decode cL_law 527 = .ok (.aload_n 0, 1) := by decide +kernel
theorem dL_law_528 : decode cL_law 528 = .ok (.iload 4, 2) := by decide +kernel
theorem dL_law_530 : decode cL_law 530 = .ok (.iconst 2, 1) := by decide +kernel
theorem dL_law_531 : decode cL_law 531 = .ok (.iadd, 1) := by decide +kernel
theorem dL_law_532 : decode cL_law 532 = .ok (.iaload, 1) := by decide +kernel
theorem dL_law_533 : decode cL_law 533 = .ok (.invokevirtual 69, 3) := by decide +kernel
theorem dL_law_536 : decode cL_law 536 = .ok (.if_icmp .eq 400, 3) := by decide +kernel
theorem dL_law_539 : decode cL_law 539 = .ok (.iconst 0, 1) := by decide +kernel
theorem dL_law_540 : decode cL_law 540 = .ok (.ireturn, 1) := by decide +kernel
theorem dL_law_541 : decode cL_law 541 = .ok (.aload_n 1, 1) := by decide +kernel
theorem dL_law_542 : decode cL_law 542 = .ok (.aload_n 0, 1) := by decide +kernel
theorem dL_law_543 : decode cL_law 543 = .ok (.iload 4, 2) := by decide +kernel
theorem dL_law_545 : decode cL_law 545 = .ok (.iconst 1, 1) := by decide +kernel
theorem dL_law_546 : decode cL_law 546 = .ok (.iadd, 1) := by decide +kernel
theorem dL_law_547 : decode cL_law 547 = .ok (.iaload, 1) := by decide +kernel
theorem dL_law_548 : decode cL_law 548 = .ok (.aload_n 0, 1) := by decide +kernel
theorem dL_law_549 : decode cL_law 549 = .ok (.iload 4, 2) := by decide +kernel
theorem dL_law_551 : decode cL_law 551 = .ok (.iconst 2, 1) := by decide +kernel
theorem dL_law_552 : decode cL_law 552 = .ok (.iadd, 1) := by decide +kernel
theorem dL_law_553 : decode cL_law 553 = .ok (.iaload, 1) := by decide +kernel
theorem dL_law_554 : decode cL_law 554 = .ok (.invokevirtual 70, 3) := by decide +kernel
theorem dL_law_557 : decode cL_law 557 = .ok (.aload_n 2, 1) := by decide +kernel
theorem dL_law_558 : decode cL_law 558 = .ok (.aload_n 0, 1) := by decide +kernel
theorem dL_law_559 : decode cL_law 559 = .ok (.iload 4, 2) := by decide +kernel
theorem dL_law_561 : decode cL_law 561 = .ok (.iconst 1, 1) := by decide +kernel
theorem dL_law_562 : decode cL_law 562 = .ok (.iadd, 1) := by decide +kernel
theorem dL_law_563 : decode cL_law 563 = .ok (.iaload, 1) := by decide +kernel
theorem dL_law_564 : decode cL_law 564 = .ok (.aload_n 0, 1) := by decide +kernel
theorem dL_law_565 : decode cL_law 565 = .ok (.iload 4, 2) := by decide +kernel
theorem dL_law_567 : decode cL_law 567 = .ok (.iconst 2, 1) := by decide +kernel
theorem dL_law_568 : decode cL_law 568 = .ok (.iadd, 1) := by decide +kernel
theorem dL_law_569 : decode cL_law 569 = .ok (.iaload, 1) := by decide +kernel
theorem dL_law_570 : decode cL_law 570 = .ok (.invokevirtual 73, 3) := by decide +kernel
theorem dL_law_573 : decode cL_law 573 = .ok (.if_icmp .eq 363, 3) := by decide +kernel
theorem dL_law_576 : decode cL_law 576 = .ok (.iconst 0, 1) := by decide +kernel
theorem dL_law_577 : decode cL_law 577 = .ok (.ireturn, 1) := by decide +kernel
theorem dL_law_578 : decode cL_law 578 = .ok (.aload_n 1, 1) := by decide +kernel
theorem dL_law_579 : decode cL_law 579 = .ok (.aload_n 0, 1) := by decide +kernel
theorem dL_law_580 : decode cL_law 580 = .ok (.iload 4, 2) := by decide +kernel
theorem dL_law_582 : decode cL_law 582 = .ok (.iconst 1, 1) := by decide +kernel
theorem dL_law_583 : decode cL_law 583 = .ok (.iadd, 1) := by decide +kernel
theorem dL_law_584 : decode cL_law 584 = .ok (.iaload, 1) := by decide +kernel
theorem dL_law_585 : decode cL_law 585 = .ok (.aload_n 0, 1) := by decide +kernel
theorem dL_law_586 : decode cL_law 586 = .ok (.iload 4, 2) := by decide +kernel
theorem dL_law_588 : decode cL_law 588 = .ok (.iconst 2, 1) := by decide +kernel
theorem dL_law_589 : decode cL_law 589 = .ok (.iadd, 1) := by decide +kernel
theorem dL_law_590 : decode cL_law 590 = .ok (.iaload, 1) := by decide +kernel
theorem dL_law_591 : decode cL_law 591 = .ok (.invokevirtual 74, 3) := by decide +kernel
theorem dL_law_594 : decode cL_law 594 = .ok (.aload_n 2, 1) := by decide +kernel
theorem dL_law_595 : decode cL_law 595 = .ok (.aload_n 0, 1) := by decide +kernel
theorem dL_law_596 : decode cL_law 596 = .ok (.iload 4, 2) := by decide +kernel
theorem dL_law_598 : decode cL_law 598 = .ok (.iconst 1, 1) := by decide +kernel
theorem dL_law_599 : decode cL_law 599 = .ok (.iadd, 1) := by decide +kernel
theorem dL_law_600 : decode cL_law 600 = .ok (.iaload, 1) := by decide +kernel
theorem dL_law_601 : decode cL_law 601 = .ok (.aload_n 0, 1) := by decide +kernel
theorem dL_law_602 : decode cL_law 602 = .ok (.iload 4, 2) := by decide +kernel
theorem dL_law_604 : decode cL_law 604 = .ok (.iconst 2, 1) := by decide +kernel
theorem dL_law_605 : decode cL_law 605 = .ok (.iadd, 1) := by decide +kernel
theorem dL_law_606 : decode cL_law 606 = .ok (.iaload, 1) := by decide +kernel
theorem dL_law_607 : decode cL_law 607 = .ok (.invokevirtual 77, 3) := by decide +kernel
theorem dL_law_610 : decode cL_law 610 = .ok (.if_icmp .eq 326, 3) := by decide +kernel
theorem dL_law_613 : decode cL_law 613 = .ok (.iconst 0, 1) := by decide +kernel
theorem dL_law_614 : decode cL_law 614 = .ok (.ireturn, 1) := by decide +kernel
theorem dL_law_615 : decode cL_law 615 = .ok (.aload_n 1, 1) := by decide +kernel
theorem dL_law_616 : decode cL_law 616 = .ok (.aload_n 0, 1) := by decide +kernel
theorem dL_law_617 : decode cL_law 617 = .ok (.iload 4, 2) := by decide +kernel
theorem dL_law_619 : decode cL_law 619 = .ok (.iconst 1, 1) := by decide +kernel
theorem dL_law_620 : decode cL_law 620 = .ok (.iadd, 1) := by decide +kernel
theorem dL_law_621 : decode cL_law 621 = .ok (.iaload, 1) := by decide +kernel
theorem dL_law_622 : decode cL_law 622 = .ok (.aload_n 0, 1) := by decide +kernel
theorem dL_law_623 : decode cL_law 623 = .ok (.iload 4, 2) := by decide +kernel
theorem dL_law_625 : decode cL_law 625 = .ok (.iconst 2, 1) := by decide +kernel
theorem dL_law_626 : decode cL_law 626 = .ok (.iadd, 1) := by decide +kernel
theorem dL_law_627 : decode cL_law 627 = .ok (.iaload, 1) := by decide +kernel
theorem dL_law_628 : decode cL_law 628 = .ok (.invokevirtual 78, 3) := by decide +kernel
theorem dL_law_631 : decode cL_law 631 = .ok (.aload_n 2, 1) := by decide +kernel
theorem dL_law_632 : decode cL_law 632 = .ok (.aload_n 0, 1) := by decide +kernel
theorem dL_law_633 : decode cL_law 633 = .ok (.iload 4, 2) := by decide +kernel
theorem dL_law_635 : decode cL_law 635 = .ok (.iconst 1, 1) := by decide +kernel
theorem dL_law_636 : decode cL_law 636 = .ok (.iadd, 1) := by decide +kernel
theorem dL_law_637 : decode cL_law 637 = .ok (.iaload, 1) := by decide +kernel
theorem dL_law_638 : decode cL_law 638 = .ok (.aload_n 0, 1) := by decide +kernel
theorem dL_law_639 : decode cL_law 639 = .ok (.iload 4, 2) := by decide +kernel
theorem dL_law_641 : decode cL_law 641 = .ok (.iconst 2, 1) := by decide +kernel
theorem dL_law_642 : decode cL_law 642 = .ok (.iadd, 1) := by decide +kernel
theorem dL_law_643 : decode cL_law 643 = .ok (.iaload, 1) := by decide +kernel
theorem dL_law_644 : decode cL_law 644 = .ok (.invokevirtual 81, 3) := by decide +kernel
theorem dL_law_647 : decode cL_law 647 = .ok (.if_icmp .eq 289, 3) := by decide +kernel
theorem dL_law_650 : decode cL_law 650 = .ok (.iconst 0, 1) := by decide +kernel
theorem dL_law_651 : decode cL_law 651 = .ok (.ireturn, 1) := by decide +kernel
theorem dL_law_652 : decode cL_law 652 = .ok (.aload_n 1, 1) := by decide +kernel
theorem dL_law_653 : decode cL_law 653 = .ok (.aload_n 0, 1) := by decide +kernel
theorem dL_law_654 : decode cL_law 654 = .ok (.iload 4, 2) := by decide +kernel
theorem dL_law_656 : decode cL_law 656 = .ok (.iconst 1, 1) := by decide +kernel
theorem dL_law_657 : decode cL_law 657 = .ok (.iadd, 1) := by decide +kernel
theorem dL_law_658 : decode cL_law 658 = .ok (.iaload, 1) := by decide +kernel
theorem dL_law_659 : decode cL_law 659 = .ok (.aload_n 0, 1) := by decide +kernel
theorem dL_law_660 : decode cL_law 660 = .ok (.iload 4, 2) := by decide +kernel
theorem dL_law_662 : decode cL_law 662 = .ok (.iconst 2, 1) := by decide +kernel
theorem dL_law_663 : decode cL_law 663 = .ok (.iadd, 1) := by decide +kernel
theorem dL_law_664 : decode cL_law 664 = .ok (.iaload, 1) := by decide +kernel
theorem dL_law_665 : decode cL_law 665 = .ok (.invokevirtual 82, 3) := by decide +kernel
theorem dL_law_668 : decode cL_law 668 = .ok (.aload_n 2, 1) := by decide +kernel
theorem dL_law_669 : decode cL_law 669 = .ok (.aload_n 0, 1) := by decide +kernel
theorem dL_law_670 : decode cL_law 670 = .ok (.iload 4, 2) := by decide +kernel
theorem dL_law_672 : decode cL_law 672 = .ok (.iconst 1, 1) := by decide +kernel
theorem dL_law_673 : decode cL_law 673 = .ok (.iadd, 1) := by decide +kernel
theorem dL_law_674 : decode cL_law 674 = .ok (.iaload, 1) := by decide +kernel
theorem dL_law_675 : decode cL_law 675 = .ok (.aload_n 0, 1) := by decide +kernel
theorem dL_law_676 : decode cL_law 676 = .ok (.iload 4, 2) := by decide +kernel
theorem dL_law_678 : decode cL_law 678 = .ok (.iconst 2, 1) := by decide +kernel
theorem dL_law_679 : decode cL_law 679 = .ok (.iadd, 1) := by decide +kernel
theorem dL_law_680 : decode cL_law 680 = .ok (.iaload, 1) := by decide +kernel
theorem dL_law_681 : decode cL_law 681 = .ok (.invokevirtual 85, 3) := by decide +kernel
theorem dL_law_684 : decode cL_law 684 = .ok (.if_icmp .eq 252, 3) := by decide +kernel
theorem dL_law_687 : decode cL_law 687 = .ok (.iconst 0, 1) := by decide +kernel
theorem dL_law_688 : decode cL_law 688 = .ok (.ireturn, 1) := by decide +kernel
theorem dL_law_689 : decode cL_law 689 = .ok (.aload_n 1, 1) := by decide +kernel
theorem dL_law_690 : decode cL_law 690 = .ok (.aload_n 0, 1) := by decide +kernel
theorem dL_law_691 : decode cL_law 691 = .ok (.iload 4, 2) := by decide +kernel
theorem dL_law_693 : decode cL_law 693 = .ok (.iconst 1, 1) := by decide +kernel
theorem dL_law_694 : decode cL_law 694 = .ok (.iadd, 1) := by decide +kernel
theorem dL_law_695 : decode cL_law 695 = .ok (.iaload, 1) := by decide +kernel
theorem dL_law_696 : decode cL_law 696 = .ok (.aload_n 0, 1) := by decide +kernel
theorem dL_law_697 : decode cL_law 697 = .ok (.iload 4, 2) := by decide +kernel
theorem dL_law_699 : decode cL_law 699 = .ok (.iconst 2, 1) := by decide +kernel
theorem dL_law_700 : decode cL_law 700 = .ok (.iadd, 1) := by decide +kernel
theorem dL_law_701 : decode cL_law 701 = .ok (.iaload, 1) := by decide +kernel
theorem dL_law_702 : decode cL_law 702 = .ok (.aload_n 0, 1) := by decide +kernel
theorem dL_law_703 : decode cL_law 703 = .ok (.iload 4, 2) := by decide +kernel
theorem dL_law_705 : decode cL_law 705 = .ok (.iconst 3, 1) := by decide +kernel
theorem dL_law_706 : decode cL_law 706 = .ok (.iadd, 1) := by decide +kernel
theorem dL_law_707 : decode cL_law 707 = .ok (.iaload, 1) := by decide +kernel
theorem dL_law_708 : decode cL_law 708 = .ok (.invokevirtual 86, 3) := by decide +kernel
theorem dL_law_711 : decode cL_law 711 = .ok (.aload_n 2, 1) := by decide +kernel
theorem dL_law_712 : decode cL_law 712 = .ok (.aload_n 0, 1) := by decide +kernel
theorem dL_law_713 : decode cL_law 713 = .ok (.iload 4, 2) := by decide +kernel
theorem dL_law_715 : decode cL_law 715 = .ok (.iconst 1, 1) := by decide +kernel
theorem dL_law_716 : decode cL_law 716 = .ok (.iadd, 1) := by decide +kernel
theorem dL_law_717 : decode cL_law 717 = .ok (.iaload, 1) := by decide +kernel
theorem dL_law_718 : decode cL_law 718 = .ok (.aload_n 0, 1) := by decide +kernel
theorem dL_law_719 : decode cL_law 719 = .ok (.iload 4, 2) := by decide +kernel
theorem dL_law_721 : decode cL_law 721 = .ok (.iconst 2, 1) := by decide +kernel
theorem dL_law_722 : decode cL_law 722 = .ok (.iadd, 1) := by decide +kernel
theorem dL_law_723 : decode cL_law 723 = .ok (.iaload, 1) := by decide +kernel
theorem dL_law_724 : decode cL_law 724 = .ok (.aload_n 0, 1) := by decide +kernel
theorem dL_law_725 : decode cL_law 725 = .ok (.iload 4, 2) := by decide +kernel
theorem dL_law_727 : decode cL_law 727 = .ok (.iconst 3, 1) := by decide +kernel
theorem dL_law_728 : decode cL_law 728 = .ok (.iadd, 1) := by decide +kernel
theorem dL_law_729 : decode cL_law 729 = .ok (.iaload, 1) := by decide +kernel
theorem dL_law_730 : decode cL_law 730 = .ok (.invokevirtual 89, 3) := by decide +kernel
theorem dL_law_733 : decode cL_law 733 = .ok (.if_icmp .eq 203, 3) := by decide +kernel
theorem dL_law_736 : decode cL_law 736 = .ok (.iconst 0, 1) := by decide +kernel
theorem dL_law_737 : decode cL_law 737 = .ok (.ireturn, 1) := by decide +kernel
theorem dL_law_738 : decode cL_law 738 = .ok (.aload_n 1, 1) := by decide +kernel
theorem dL_law_739 : decode cL_law 739 = .ok (.aload_n 0, 1) := by decide +kernel
theorem dL_law_740 : decode cL_law 740 = .ok (.iload 4, 2) := by decide +kernel
theorem dL_law_742 : decode cL_law 742 = .ok (.iconst 1, 1) := by decide +kernel
theorem dL_law_743 : decode cL_law 743 = .ok (.iadd, 1) := by decide +kernel
theorem dL_law_744 : decode cL_law 744 = .ok (.iaload, 1) := by decide +kernel
theorem dL_law_745 : decode cL_law 745 = .ok (.aload_n 0, 1) := by decide +kernel
theorem dL_law_746 : decode cL_law 746 = .ok (.iload 4, 2) := by decide +kernel
theorem dL_law_748 : decode cL_law 748 = .ok (.iconst 2, 1) := by decide +kernel
theorem dL_law_749 : decode cL_law 749 = .ok (.iadd, 1) := by decide +kernel
theorem dL_law_750 : decode cL_law 750 = .ok (.iaload, 1) := by decide +kernel
theorem dL_law_751 : decode cL_law 751 = .ok (.invokevirtual 90, 3) := by decide +kernel
theorem dL_law_754 : decode cL_law 754 = .ok (.aload_n 2, 1) := by decide +kernel
theorem dL_law_755 : decode cL_law 755 = .ok (.aload_n 0, 1) := by decide +kernel
theorem dL_law_756 : decode cL_law 756 = .ok (.iload 4, 2) := by decide +kernel
theorem dL_law_758 : decode cL_law 758 = .ok (.iconst 1, 1) := by decide +kernel
theorem dL_law_759 : decode cL_law 759 = .ok (.iadd, 1) := by decide +kernel
theorem dL_law_760 : decode cL_law 760 = .ok (.iaload, 1) := by decide +kernel
theorem dL_law_761 : decode cL_law 761 = .ok (.aload_n 0, 1) := by decide +kernel
theorem dL_law_762 : decode cL_law 762 = .ok (.iload 4, 2) := by decide +kernel
theorem dL_law_764 : decode cL_law 764 = .ok (.iconst 2, 1) := by decide +kernel
theorem dL_law_765 : decode cL_law 765 = .ok (.iadd, 1) := by decide +kernel
theorem dL_law_766 : decode cL_law 766 = .ok (.iaload, 1) := by decide +kernel
theorem dL_law_767 : decode cL_law 767 = .ok (.invokevirtual 93, 3) := by decide +kernel
theorem dL_law_770 : decode cL_law 770 = .ok (.if_icmp .eq 166, 3) := by decide +kernel
theorem dL_law_773 : decode cL_law 773 = .ok (.iconst 0, 1) := by decide +kernel
theorem dL_law_774 : decode cL_law 774 = .ok (.ireturn, 1) := by decide +kernel
theorem dL_law_775 : decode cL_law 775 = .ok (.aload_n 1, 1) := by decide +kernel
theorem dL_law_776 : decode cL_law 776 = .ok (.aload_n 0, 1) := by decide +kernel
theorem dL_law_777 : decode cL_law 777 = .ok (.iload 4, 2) := by decide +kernel
theorem dL_law_779 : decode cL_law 779 = .ok (.iconst 1, 1) := by decide +kernel
theorem dL_law_780 : decode cL_law 780 = .ok (.iadd, 1) := by decide +kernel
theorem dL_law_781 : decode cL_law 781 = .ok (.iaload, 1) := by decide +kernel
theorem dL_law_782 : decode cL_law 782 = .ok (.aload_n 0, 1) := by decide +kernel
theorem dL_law_783 : decode cL_law 783 = .ok (.iload 4, 2) := by decide +kernel
theorem dL_law_785 : decode cL_law 785 = .ok (.iconst 2, 1) := by decide +kernel
theorem dL_law_786 : decode cL_law 786 = .ok (.iadd, 1) := by decide +kernel
theorem dL_law_787 : decode cL_law 787 = .ok (.iaload, 1) := by decide +kernel
theorem dL_law_788 : decode cL_law 788 = .ok (.aload_n 0, 1) := by decide +kernel
theorem dL_law_789 : decode cL_law 789 = .ok (.iload 4, 2) := by decide +kernel
theorem dL_law_791 : decode cL_law 791 = .ok (.iconst 3, 1) := by decide +kernel
theorem dL_law_792 : decode cL_law 792 = .ok (.iadd, 1) := by decide +kernel
theorem dL_law_793 : decode cL_law 793 = .ok (.iaload, 1) := by decide +kernel
theorem dL_law_794 : decode cL_law 794 = .ok (.invokevirtual 94, 3) := by decide +kernel
theorem dL_law_797 : decode cL_law 797 = .ok (.aload_n 2, 1) := by decide +kernel
theorem dL_law_798 : decode cL_law 798 = .ok (.aload_n 0, 1) := by decide +kernel
theorem dL_law_799 : decode cL_law 799 = .ok (.iload 4, 2) := by decide +kernel
theorem dL_law_801 : decode cL_law 801 = .ok (.iconst 1, 1) := by decide +kernel
theorem dL_law_802 : decode cL_law 802 = .ok (.iadd, 1) := by decide +kernel
theorem dL_law_803 : decode cL_law 803 = .ok (.iaload, 1) := by decide +kernel
theorem dL_law_804 : decode cL_law 804 = .ok (.aload_n 0, 1) := by decide +kernel
theorem dL_law_805 : decode cL_law 805 = .ok (.iload 4, 2) := by decide +kernel
theorem dL_law_807 : decode cL_law 807 = .ok (.iconst 2, 1) := by decide +kernel
theorem dL_law_808 : decode cL_law 808 = .ok (.iadd, 1) := by decide +kernel
theorem dL_law_809 : decode cL_law 809 = .ok (.iaload, 1) := by decide +kernel
theorem dL_law_810 : decode cL_law 810 = .ok (.aload_n 0, 1) := by decide +kernel
theorem dL_law_811 : decode cL_law 811 = .ok (.iload 4, 2) := by decide +kernel
theorem dL_law_813 : decode cL_law 813 = .ok (.iconst 3, 1) := by decide +kernel
theorem dL_law_814 : decode cL_law 814 = .ok (.iadd, 1) := by decide +kernel
theorem dL_law_815 : decode cL_law 815 = .ok (.iaload, 1) := by decide +kernel
theorem dL_law_816 : decode cL_law 816 = .ok (.invokevirtual 97, 3) := by decide +kernel
theorem dL_law_819 : decode cL_law 819 = .ok (.if_icmp .eq 117, 3) := by decide +kernel
theorem dL_law_822 : decode cL_law 822 = .ok (.iconst 0, 1) := by decide +kernel
theorem dL_law_823 : decode cL_law 823 = .ok (.ireturn, 1) := by decide +kernel
theorem dL_law_824 : decode cL_law 824 = .ok (.aload_n 1, 1) := by decide +kernel
theorem dL_law_825 : decode cL_law 825 = .ok (.aload_n 0, 1) := by decide +kernel
theorem dL_law_826 : decode cL_law 826 = .ok (.iload 4, 2) := by decide +kernel
theorem dL_law_828 : decode cL_law 828 = .ok (.iconst 1, 1) := by decide +kernel
theorem dL_law_829 : decode cL_law 829 = .ok (.iadd, 1) := by decide +kernel
theorem dL_law_830 : decode cL_law 830 = .ok (.iaload, 1) := by decide +kernel
theorem dL_law_831 : decode cL_law 831 = .ok (.aload_n 0, 1) := by decide +kernel
theorem dL_law_832 : decode cL_law 832 = .ok (.iload 4, 2) := by decide +kernel
theorem dL_law_834 : decode cL_law 834 = .ok (.iconst 2, 1) := by decide +kernel
theorem dL_law_835 : decode cL_law 835 = .ok (.iadd, 1) := by decide +kernel
theorem dL_law_836 : decode cL_law 836 = .ok (.iaload, 1) := by decide +kernel
theorem dL_law_837 : decode cL_law 837 = .ok (.aload_n 0, 1) := by decide +kernel
theorem dL_law_838 : decode cL_law 838 = .ok (.iload 4, 2) := by decide +kernel
theorem dL_law_840 : decode cL_law 840 = .ok (.iconst 3, 1) := by decide +kernel
theorem dL_law_841 : decode cL_law 841 = .ok (.iadd, 1) := by decide +kernel
theorem dL_law_842 : decode cL_law 842 = .ok (.iaload, 1) := by decide +kernel
theorem dL_law_843 : decode cL_law 843 = .ok (.invokevirtual 98, 3) := by decide +kernel
theorem dL_law_846 : decode cL_law 846 = .ok (.aload_n 2, 1) := by decide +kernel
theorem dL_law_847 : decode cL_law 847 = .ok (.aload_n 0, 1) := by decide +kernel
theorem dL_law_848 : decode cL_law 848 = .ok (.iload 4, 2) := by decide +kernel
theorem dL_law_850 : decode cL_law 850 = .ok (.iconst 1, 1) := by decide +kernel
theorem dL_law_851 : decode cL_law 851 = .ok (.iadd, 1) := by decide +kernel
theorem dL_law_852 : decode cL_law 852 = .ok (.iaload, 1) := by decide +kernel
theorem dL_law_853 : decode cL_law 853 = .ok (.aload_n 0, 1) := by decide +kernel
theorem dL_law_854 : decode cL_law 854 = .ok (.iload 4, 2) := by decide +kernel
theorem dL_law_856 : decode cL_law 856 = .ok (.iconst 2, 1) := by decide +kernel
theorem dL_law_857 : decode cL_law 857 = .ok (.iadd, 1) := by decide +kernel
theorem dL_law_858 : decode cL_law 858 = .ok (.iaload, 1) := by decide +kernel
theorem dL_law_859 : decode cL_law 859 = .ok (.aload_n 0, 1) := by decide +kernel
theorem dL_law_860 : decode cL_law 860 = .ok (.iload 4, 2) := by decide +kernel
theorem dL_law_862 : decode cL_law 862 = .ok (.iconst 3, 1) := by decide +kernel
theorem dL_law_863 : decode cL_law 863 = .ok (.iadd, 1) := by decide +kernel
theorem dL_law_864 : decode cL_law 864 = .ok (.iaload, 1) := by decide +kernel
theorem dL_law_865 : decode cL_law 865 = .ok (.invokevirtual 102, 3) := by decide +kernel
theorem dL_law_868 : decode cL_law 868 = .ok (.if_icmp .eq 68, 3) := by decide +kernel
theorem dL_law_871 : decode cL_law 871 = .ok (.iconst 0, 1) := by decide +kernel
theorem dL_law_872 : decode cL_law 872 = .ok (.ireturn, 1) := by decide +kernel
theorem dL_law_873 : decode cL_law 873 = .ok (.aload_n 1, 1) := by decide +kernel
theorem dL_law_874 : decode cL_law 874 = .ok (.aload_n 0, 1) := by decide +kernel
theorem dL_law_875 : decode cL_law 875 = .ok (.iload 4, 2) := by decide +kernel
theorem dL_law_877 : decode cL_law 877 = .ok (.iconst 1, 1) := by decide +kernel
theorem dL_law_878 : decode cL_law 878 = .ok (.iadd, 1) := by decide +kernel
theorem dL_law_879 : decode cL_law 879 = .ok (.iaload, 1) := by decide +kernel
theorem dL_law_880 : decode cL_law 880 = .ok (.invokevirtual 103, 3) := by decide +kernel
theorem dL_law_883 : decode cL_law 883 = .ok (.aload_n 2, 1) := by decide +kernel
theorem dL_law_884 : decode cL_law 884 = .ok (.aload_n 0, 1) := by decide +kernel
theorem dL_law_885 : decode cL_law 885 = .ok (.iload 4, 2) := by decide +kernel
theorem dL_law_887 : decode cL_law 887 = .ok (.iconst 1, 1) := by decide +kernel
theorem dL_law_888 : decode cL_law 888 = .ok (.iadd, 1) := by decide +kernel
theorem dL_law_889 : decode cL_law 889 = .ok (.iaload, 1) := by decide +kernel
theorem dL_law_890 : decode cL_law 890 = .ok (.invokevirtual 106, 3) := by decide +kernel
theorem dL_law_893 : decode cL_law 893 = .ok (.if_icmp .eq 43, 3) := by decide +kernel
theorem dL_law_896 : decode cL_law 896 = .ok (.iconst 0, 1) := by decide +kernel
theorem dL_law_897 : decode cL_law 897 = .ok (.ireturn, 1) := by decide +kernel
theorem dL_law_898 : decode cL_law 898 = .ok (.aload_n 1, 1) := by decide +kernel
theorem dL_law_899 : decode cL_law 899 = .ok (.aload_n 0, 1) := by decide +kernel
theorem dL_law_900 : decode cL_law 900 = .ok (.iload 4, 2) := by decide +kernel
theorem dL_law_902 : decode cL_law 902 = .ok (.iconst 1, 1) := by decide +kernel
theorem dL_law_903 : decode cL_law 903 = .ok (.iadd, 1) := by decide +kernel
