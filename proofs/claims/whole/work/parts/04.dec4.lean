theorem dX11_review_13 : decode cX11_review 13 = .ok (.iload_n 2, 1) := by decide +kernel
theorem dX11_review_14 : decode cX11_review 14 = .ok (.iconst 1, 1) := by decide +kernel
theorem dX11_review_15 : decode cX11_review 15 = .ok (.aload_n 0, 1) := by decide +kernel
theorem dX11_review_16 : decode cX11_review 16 = .ok (.iload_n 1, 1) := by decide +kernel
theorem dX11_review_17 : decode cX11_review 17 = .ok (.invokevirtual 199, 3) := by decide +kernel
theorem dX11_review_20 : decode cX11_review 20 = .ok (.invokestatic 114, 3) := by decide +kernel
theorem dX11_review_23 : decode cX11_review 23 = .ok (.ifCond .eq 20, 3) := by decide +kernel
theorem dX11_review_26 : decode cX11_review 26 = .ok (.iload_n 3, 1) := by decide +kernel
theorem dX11_review_27 : decode cX11_review 27 = .ok (.invokestatic 170, 3) := by decide +kernel
theorem dX11_review_30 : decode cX11_review 30 = .ok (.ifCond .eq 13, 3) := by decide +kernel
theorem dX11_review_33 : decode cX11_review 33 = .ok (.iload 4, 2) := by decide +kernel
theorem dX11_review_35 : decode cX11_review 35 = .ok (.iconst 0, 1) := by decide +kernel
theorem dX11_review_36 : decode cX11_review 36 = .ok (.iconst 4, 1) := by decide +kernel
theorem dX11_review_37 : decode cX11_review 37 = .ok (.invokestatic 114, 3) := by decide +kernel
theorem dX11_review_40 : decode cX11_review 40 = .ok (.ifCond .ne 6, 3) := by decide +kernel
theorem dX11_review_43 : decode cX11_review 43 = .ok (.ldc 230, 2) := by decide +kernel
theorem dX11_review_45 : decode cX11_review 45 = .ok (.ireturn, 1) := by decide +kernel
theorem dX11_review_46 : decode cX11_review 46 = .ok (.aload_n 0, 1) := by decide +kernel
theorem dX11_review_47 : decode cX11_review 47 = .ok (.iload_n 1, 1) := by decide +kernel
theorem dX11_review_48 : decode cX11_review 48 = .ok (.iload_n 3, 1) := by decide +kernel
theorem dX11_review_49 : decode cX11_review 49 = .ok (.invokevirtual 226, 3) := by decide +kernel
theorem dX11_review_52 : decode cX11_review 52 = .ok (.iload 4, 2) := by decide +kernel
theorem dX11_review_54 : decode cX11_review 54 = .ok (.ifCond .ne 10, 3) := by decide +kernel
theorem dX11_review_57 : decode cX11_review 57 = .ok (.aload_n 0, 1) := by decide +kernel
theorem dX11_review_58 : decode cX11_review 58 = .ok (.iload_n 1, 1) := by decide +kernel
theorem dX11_review_59 : decode cX11_review 59 = .ok (.iload_n 2, 1) := by decide +kernel
theorem dX11_review_60 : decode cX11_review 60 = .ok (.invokevirtual 184, 3) := by decide +kernel
theorem dX11_review_63 : decode cX11_review 63 = .ok (.ireturn, 1) := by decide +kernel
theorem dX11_review_64 : decode cX11_review 64 = .ok (.iload 4, 2) := by decide +kernel
theorem dX11_review_66 : decode cX11_review 66 = .ok (.iconst 3, 1) := by decide +kernel
theorem dX11_review_67 : decode cX11_review 67 = .ok (.if_icmp .ge 26, 3) := by decide +kernel
theorem dX11_review_70 : decode cX11_review 70 = .ok (.iload 4, 2) := by decide +kernel
theorem dX11_review_72 : decode cX11_review 72 = .ok (.iconst 1, 1) := by decide +kernel
theorem dX11_review_73 : decode cX11_review 73 = .ok (.if_icmp .ne 12, 3) := by decide +kernel
theorem dX11_review_76 : decode cX11_review 76 = .ok (.aload_n 0, 1) := by decide +kernel
theorem dX11_review_77 : decode cX11_review 77 = .ok (.getfield 92, 3) := by decide +kernel
theorem dX11_review_80 : decode cX11_review 80 = .ok (.iload_n 2, 1) := by decide +kernel
theorem dX11_review_81 : decode cX11_review 81 = .ok (.laload, 1) := by decide +kernel
theorem dX11_review_82 : decode cX11_review 82 = .ok (.goto 9, 3) := by decide +kernel
theorem dX11_review_85 : decode cX11_review 85 = .ok (.aload_n 0, 1) := by decide +kernel
theorem dX11_review_86 : decode cX11_review 86 = .ok (.getfield 96, 3) := by decide +kernel
theorem dX11_review_89 : decode cX11_review 89 = .ok (.iload_n 2, 1) := by decide +kernel
theorem dX11_review_90 : decode cX11_review 90 = .ok (.laload, 1) := by decide +kernel
theorem dX11_review_91 : decode cX11_review 91 = .ok (.l2i, 1) := by decide +kernel
theorem dX11_review_92 : decode cX11_review 92 = .ok (.ireturn, 1) := by decide +kernel
theorem dX11_review_93 : decode cX11_review 93 = .ok (.aload_n 0, 1) := by decide +kernel
theorem dX11_review_94 : decode cX11_review 94 = .ok (.iload_n 1, 1) := by decide +kernel
theorem dX11_review_95 : decode cX11_review 95 = .ok (.iconst 4, 1) := by decide +kernel
theorem dX11_review_96 : decode cX11_review 96 = .ok (.invokevirtual 194, 3) := by decide +kernel
theorem dX11_review_99 : decode cX11_review 99 = .ok (.ifCond .ne 7, 3) := by decide +kernel
theorem dX11_review_102 : decode cX11_review 102 = .ok (.iconst (-1), 1) := by decide +kernel
theorem dX11_review_103 : decode cX11_review 103 = .ok (.goto 25, 3) := by decide +kernel
theorem dX11_review_106 : decode cX11_review 106 = .ok (.iload 4, 2) := by decide +kernel
theorem dX11_review_108 : decode cX11_review 108 = .ok (.iconst 3, 1) := by decide +kernel
theorem dX11_review_109 : decode cX11_review 109 = .ok (.if_icmp .ne 12, 3) := by decide +kernel
theorem dX11_review_112 : decode cX11_review 112 = .ok (.aload_n 0, 1) := by decide +kernel
theorem dX11_review_113 : decode cX11_review 113 = .ok (.getfield 99, 3) := by decide +kernel
theorem dX11_review_116 : decode cX11_review 116 = .ok (.iload_n 2, 1) := by decide +kernel
theorem dX11_review_117 : decode cX11_review 117 = .ok (.laload, 1) := by decide +kernel
theorem dX11_review_118 : decode cX11_review 118 = .ok (.goto 9, 3) := by decide +kernel
theorem dX11_review_121 : decode cX11_review 121 = .ok (.aload_n 0, 1) := by decide +kernel
theorem dX11_review_122 : decode cX11_review 122 = .ok (.getfield 102, 3) := by decide +kernel
theorem dX11_review_125 : decode cX11_review 125 = .ok (.iload_n 2, 1) := by decide +kernel
theorem dX11_review_126 : decode cX11_review 126 = .ok (.laload, 1) := by decide +kernel
theorem dX11_review_127 : decode cX11_review 127 = .ok (.l2i, 1) := by decide +kernel
theorem dX11_review_128 : decode cX11_review 128 = .ok (.ireturn, 1) := by decide +kernel
set_option maxRecDepth 20000 in
theorem ggX11_billed_X11_isOf : GoodIn wsX11_billed wsX11_isOf := goodIn_r _ [6, 7, 8, 9, 5, 10, 11, 12, 13, 14, 15, 16, 17, 18, 19, 20, 21, 22, 85, 86, 87, 88, 89, 90, 91, 92, 93, 94, 95, 96, 97, 98, 99, 100, 101, 102, 103, 104, 105, 106] (by decide +kernel) (by decide +kernel)
set_option maxRecDepth 20000 in
theorem gX11_billed_X11_isOf : GoodIn wsX11_billed (wsV RX11 223 RX11 yX11_isOf wsX11_isOf) := goodIn_app (goodIn_of _ (by decide +kernel)) ggX11_billed_X11_isOf
set_option maxRecDepth 20000 in
theorem ggX11_billed_X11_endOf : GoodIn wsX11_billed wsX11_endOf := goodIn_r _ [26, 15, 16, 17, 5, 18, 11, 19, 20, 21, 22, 85, 86, 87, 88, 89, 90, 91, 92, 93, 94, 95, 96, 97, 98, 99, 100, 101, 102, 103, 104, 105, 106] (by decide +kernel) (by decide +kernel)
set_option maxRecDepth 20000 in
theorem gX11_billed_X11_endOf : GoodIn wsX11_billed (wsV RX11 220 RX11 yX11_endOf wsX11_endOf) := goodIn_app (goodIn_of _ (by decide +kernel)) ggX11_billed_X11_endOf
set_option maxRecDepth 20000 in
theorem ggX11_billed_X11_laysRents : GoodIn wsX11_billed wsX11_laysRents := goodIn_r _ [30, 31, 32, 33, 34, 35, 36, 37, 15, 16, 17, 5, 18, 11, 38, 39, 40, 41, 42, 43, 44, 45, 46, 47, 48, 49, 50, 51, 52, 53, 54, 55, 56, 57, 58, 59, 60, 61, 62, 63, 64, 12, 13, 14, 65, 66, 67, 68, 69, 70, 71, 72, 73, 74, 75, 76, 85, 86, 87, 88, 89, 90, 91, 92, 93, 94, 95, 96, 97, 98, 99, 100, 101, 102, 103, 104, 105, 106] (by decide +kernel) (by decide +kernel)
set_option maxRecDepth 20000 in
theorem gX11_billed_X11_laysRents : GoodIn wsX11_billed (wsV RX11 226 RX11 yX11_laysRents wsX11_laysRents) := goodIn_app (goodIn_of _ (by decide +kernel)) ggX11_billed_X11_laysRents
set_option maxRecDepth 20000 in
theorem ggX11_billed_X11_dueLaid : GoodIn wsX11_billed wsX11_dueLaid := goodIn_r _ [80, 15, 16, 17, 5, 18, 11, 81, 82, 83, 84, 31, 38, 39, 40, 41, 85, 86, 87, 88, 89, 90, 91, 92, 93, 94, 95, 96, 97, 98, 99, 100, 101, 102, 103, 104, 105, 106] (by decide +kernel) (by decide +kernel)
set_option maxRecDepth 20000 in
theorem gX11_billed_X11_dueLaid : GoodIn wsX11_billed (wsV RX11 231 RX11 yX11_dueLaid wsX11_dueLaid) := goodIn_app (goodIn_of _ (by decide +kernel)) ggX11_billed_X11_dueLaid
theorem dX11_billed_0 : decode cX11_billed 0 = .ok (.aload_n 0, 1) := by decide +kernel
theorem dX11_billed_1 : decode cX11_billed 1 = .ok (.iconst 0, 1) := by decide +kernel
theorem dX11_billed_2 : decode cX11_billed 2 = .ok (.putfield 1, 3) := by decide +kernel
theorem dX11_billed_5 : decode cX11_billed 5 = .ok (.aload_n 0, 1) := by decide +kernel
theorem dX11_billed_6 : decode cX11_billed 6 = .ok (.iload_n 1, 1) := by decide +kernel
theorem dX11_billed_7 : decode cX11_billed 7 = .ok (.iload_n 2, 1) := by decide +kernel
theorem dX11_billed_8 : decode cX11_billed 8 = .ok (.invokevirtual 223, 3) := by decide +kernel
theorem dX11_billed_11 : decode cX11_billed 11 = .ok (.ifCond .eq 13, 3) := by decide +kernel
theorem dX11_billed_14 : decode cX11_billed 14 = .ok (.iload_n 2, 1) := by decide +kernel
theorem dX11_billed_15 : decode cX11_billed 15 = .ok (.aload_n 0, 1) := by decide +kernel
theorem dX11_billed_16 : decode cX11_billed 16 = .ok (.iload_n 1, 1) := by decide +kernel
theorem dX11_billed_17 : decode cX11_billed 17 = .ok (.iload_n 2, 1) := by decide +kernel
theorem dX11_billed_18 : decode cX11_billed 18 = .ok (.invokevirtual 220, 3) := by decide +kernel
theorem dX11_billed_21 : decode cX11_billed 21 = .ok (.if_icmp .lt 5, 3) := by decide +kernel
theorem dX11_billed_24 : decode cX11_billed 24 = .ok (.iconst (-1), 1) := by decide +kernel
theorem dX11_billed_25 : decode cX11_billed 25 = .ok (.ireturn, 1) := by decide +kernel
theorem dX11_billed_26 : decode cX11_billed 26 = .ok (.aload_n 0, 1) := by decide +kernel
theorem dX11_billed_27 : decode cX11_billed 27 = .ok (.iload_n 1, 1) := by decide +kernel
theorem dX11_billed_28 : decode cX11_billed 28 = .ok (.iload_n 2, 1) := by decide +kernel
theorem dX11_billed_29 : decode cX11_billed 29 = .ok (.invokevirtual 226, 3) := by decide +kernel
theorem dX11_billed_32 : decode cX11_billed 32 = .ok (.aload_n 0, 1) := by decide +kernel
theorem dX11_billed_33 : decode cX11_billed 33 = .ok (.iload_n 1, 1) := by decide +kernel
theorem dX11_billed_34 : decode cX11_billed 34 = .ok (.iload_n 2, 1) := by decide +kernel
theorem dX11_billed_35 : decode cX11_billed 35 = .ok (.invokevirtual 231, 3) := by decide +kernel
theorem dX11_billed_38 : decode cX11_billed 38 = .ok (.ireturn, 1) := by decide +kernel
set_option maxRecDepth 20000 in
theorem ggX11_truedIn_X11_its : GoodIn wsX11_truedIn wsX11_its := goodIn_r _ [8, 2, 78, 79, 80, 81, 82, 83, 84, 85, 86, 87, 88, 89, 90, 91, 92, 93, 94, 95, 96, 97, 98, 99] (by decide +kernel) (by decide +kernel)
set_option maxRecDepth 20000 in
theorem gX11_truedIn_X11_its : GoodIn wsX11_truedIn (wsV RX11 163 RX11 yX11_its wsX11_its) := goodIn_app (goodIn_of _ (by decide +kernel)) ggX11_truedIn_X11_its
set_option maxRecDepth 20000 in
theorem ggX11_truedIn_X11_endOf : GoodIn wsX11_truedIn wsX11_endOf := goodIn_r _ [12, 4, 5, 6, 7, 8, 2, 13, 14, 15, 16, 78, 79, 80, 81, 82, 83, 84, 85, 86, 87, 88, 89, 90, 91, 92, 93, 94, 95, 96, 97, 98, 99] (by decide +kernel) (by decide +kernel)
set_option maxRecDepth 20000 in
theorem gX11_truedIn_X11_endOf : GoodIn wsX11_truedIn (wsV RX11 220 RX11 yX11_endOf wsX11_endOf) := goodIn_app (goodIn_of _ (by decide +kernel)) ggX11_truedIn_X11_endOf
set_option maxRecDepth 20000 in
theorem ggX11_truedIn_X11_laysRents : GoodIn wsX11_truedIn wsX11_laysRents := goodIn_r _ [20, 21, 22, 23, 24, 25, 26, 27, 4, 5, 6, 7, 8, 2, 28, 29, 30, 31, 32, 33, 34, 35, 36, 37, 38, 39, 40, 41, 42, 43, 44, 45, 46, 47, 48, 49, 50, 51, 52, 53, 54, 55, 56, 57, 58, 59, 60, 61, 62, 63, 64, 65, 66, 67, 68, 69, 78, 79, 80, 81, 82, 83, 84, 85, 86, 87, 88, 89, 90, 91, 92, 93, 94, 95, 96, 97, 98, 99] (by decide +kernel) (by decide +kernel)
set_option maxRecDepth 20000 in
theorem gX11_truedIn_X11_laysRents : GoodIn wsX11_truedIn (wsV RX11 226 RX11 yX11_laysRents wsX11_laysRents) := goodIn_app (goodIn_of _ (by decide +kernel)) ggX11_truedIn_X11_laysRents
set_option maxRecDepth 20000 in
theorem ggX11_truedIn_X11_dueLaid : GoodIn wsX11_truedIn wsX11_dueLaid := goodIn_r _ [73, 4, 5, 6, 7, 8, 2, 74, 75, 76, 77, 21, 28, 29, 30, 31, 78, 79, 80, 81, 82, 83, 84, 85, 86, 87, 88, 89, 90, 91, 92, 93, 94, 95, 96, 97, 98, 99] (by decide +kernel) (by decide +kernel)
set_option maxRecDepth 20000 in
theorem gX11_truedIn_X11_dueLaid : GoodIn wsX11_truedIn (wsV RX11 231 RX11 yX11_dueLaid wsX11_dueLaid) := goodIn_app (goodIn_of _ (by decide +kernel)) ggX11_truedIn_X11_dueLaid
theorem dX11_truedIn_0 : decode cX11_truedIn 0 = .ok (.aload_n 0, 1) := by decide +kernel
theorem dX11_truedIn_1 : decode cX11_truedIn 1 = .ok (.iload_n 1, 1) := by decide +kernel
theorem dX11_truedIn_2 : decode cX11_truedIn 2 = .ok (.iconst 0, 1) := by decide +kernel
theorem dX11_truedIn_3 : decode cX11_truedIn 3 = .ok (.invokevirtual 163, 3) := by decide +kernel
theorem dX11_truedIn_6 : decode cX11_truedIn 6 = .ok (.istore 4, 2) := by decide +kernel
theorem dX11_truedIn_8 : decode cX11_truedIn 8 = .ok (.aload_n 0, 1) := by decide +kernel
theorem dX11_truedIn_9 : decode cX11_truedIn 9 = .ok (.iload_n 1, 1) := by decide +kernel
theorem dX11_truedIn_10 : decode cX11_truedIn 10 = .ok (.iload_n 2, 1) := by decide +kernel
theorem dX11_truedIn_11 : decode cX11_truedIn 11 = .ok (.invokevirtual 220, 3) := by decide +kernel
theorem dX11_truedIn_14 : decode cX11_truedIn 14 = .ok (.iload_n 2, 1) := by decide +kernel
theorem dX11_truedIn_15 : decode cX11_truedIn 15 = .ok (.if_icmp .ge 12, 3) := by decide +kernel
theorem dX11_truedIn_18 : decode cX11_truedIn 18 = .ok (.aload_n 0, 1) := by decide +kernel
theorem dX11_truedIn_19 : decode cX11_truedIn 19 = .ok (.iload_n 1, 1) := by decide +kernel
theorem dX11_truedIn_20 : decode cX11_truedIn 20 = .ok (.iload_n 2, 1) := by decide +kernel
theorem dX11_truedIn_21 : decode cX11_truedIn 21 = .ok (.invokevirtual 220, 3) := by decide +kernel
theorem dX11_truedIn_24 : decode cX11_truedIn 24 = .ok (.goto 4, 3) := by decide +kernel
theorem dX11_truedIn_27 : decode cX11_truedIn 27 = .ok (.iload_n 2, 1) := by decide +kernel
theorem dX11_truedIn_28 : decode cX11_truedIn 28 = .ok (.istore 5, 2) := by decide +kernel
theorem dX11_truedIn_30 : decode cX11_truedIn 30 = .ok (.aload_n 0, 1) := by decide +kernel
theorem dX11_truedIn_31 : decode cX11_truedIn 31 = .ok (.iload_n 1, 1) := by decide +kernel
theorem dX11_truedIn_32 : decode cX11_truedIn 32 = .ok (.iload_n 2, 1) := by decide +kernel
theorem dX11_truedIn_33 : decode cX11_truedIn 33 = .ok (.iconst 1, 1) := by decide +kernel
theorem dX11_truedIn_34 : decode cX11_truedIn 34 = .ok (.isub, 1) := by decide +kernel
theorem dX11_truedIn_35 : decode cX11_truedIn 35 = .ok (.invokevirtual 226, 3) := by decide +kernel
theorem dX11_truedIn_38 : decode cX11_truedIn 38 = .ok (.iload 4, 2) := by decide +kernel
theorem dX11_truedIn_40 : decode cX11_truedIn 40 = .ok (.istore 6, 2) := by decide +kernel
theorem dX11_truedIn_42 : decode cX11_truedIn 42 = .ok (.iload 6, 2) := by decide +kernel
theorem dX11_truedIn_44 : decode cX11_truedIn 44 = .ok (.iload 5, 2) := by decide +kernel
theorem dX11_truedIn_46 : decode cX11_truedIn 46 = .ok (.if_icmp .ge 26, 3) := by decide +kernel
theorem dX11_truedIn_49 : decode cX11_truedIn 49 = .ok (.aload_n 0, 1) := by decide +kernel
theorem dX11_truedIn_50 : decode cX11_truedIn 50 = .ok (.getfield 105, 3) := by decide +kernel
theorem dX11_truedIn_53 : decode cX11_truedIn 53 = .ok (.iload 6, 2) := by decide +kernel
theorem dX11_truedIn_55 : decode cX11_truedIn 55 = .ok (.iload 4, 2) := by decide +kernel
theorem dX11_truedIn_57 : decode cX11_truedIn 57 = .ok (.isub, 1) := by decide +kernel
theorem dX11_truedIn_58 : decode cX11_truedIn 58 = .ok (.aload_n 0, 1) := by decide +kernel
theorem dX11_truedIn_59 : decode cX11_truedIn 59 = .ok (.iload_n 1, 1) := by decide +kernel
theorem dX11_truedIn_60 : decode cX11_truedIn 60 = .ok (.iload 6, 2) := by decide +kernel
theorem dX11_truedIn_62 : decode cX11_truedIn 62 = .ok (.invokevirtual 231, 3) := by decide +kernel
theorem dX11_truedIn_65 : decode cX11_truedIn 65 = .ok (.iastore, 1) := by decide +kernel
theorem dX11_truedIn_66 : decode cX11_truedIn 66 = .ok (.iinc 6 1, 3) := by decide +kernel
theorem dX11_truedIn_69 : decode cX11_truedIn 69 = .ok (.goto (-27), 3) := by decide +kernel
theorem dX11_truedIn_72 : decode cX11_truedIn 72 = .ok (.aload_n 0, 1) := by decide +kernel
theorem dX11_truedIn_73 : decode cX11_truedIn 73 = .ok (.iload_n 1, 1) := by decide +kernel
theorem dX11_truedIn_74 : decode cX11_truedIn 74 = .ok (.iload_n 2, 1) := by decide +kernel
theorem dX11_truedIn_75 : decode cX11_truedIn 75 = .ok (.invokevirtual 226, 3) := by decide +kernel
theorem dX11_truedIn_78 : decode cX11_truedIn 78 = .ok (.lconst 0, 1) := by decide +kernel
theorem dX11_truedIn_79 : decode cX11_truedIn 79 = .ok (.lstore 6, 2) := by decide +kernel
theorem dX11_truedIn_81 : decode cX11_truedIn 81 = .ok (.iload 4, 2) := by decide +kernel
theorem dX11_truedIn_83 : decode cX11_truedIn 83 = .ok (.istore 8, 2) := by decide +kernel
theorem dX11_truedIn_85 : decode cX11_truedIn 85 = .ok (.iload 8, 2) := by decide +kernel
theorem dX11_truedIn_87 : decode cX11_truedIn 87 = .ok (.iload 5, 2) := by decide +kernel
theorem dX11_truedIn_89 : decode cX11_truedIn 89 = .ok (.if_icmp .ge 64, 3) := by decide +kernel
theorem dX11_truedIn_92 : decode cX11_truedIn 92 = .ok (.aload_n 0, 1) := by decide +kernel
theorem dX11_truedIn_93 : decode cX11_truedIn 93 = .ok (.iload_n 1, 1) := by decide +kernel
theorem dX11_truedIn_94 : decode cX11_truedIn 94 = .ok (.iload 8, 2) := by decide +kernel
theorem dX11_truedIn_96 : decode cX11_truedIn 96 = .ok (.invokevirtual 231, 3) := by decide +kernel
theorem dX11_truedIn_99 : decode cX11_truedIn 99 = .ok (.aload_n 0, 1) := by decide +kernel
theorem dX11_truedIn_100 : decode cX11_truedIn 100 = .ok (.getfield 105, 3) := by decide +kernel
theorem dX11_truedIn_103 : decode cX11_truedIn 103 = .ok (.iload 8, 2) := by decide +kernel
theorem dX11_truedIn_105 : decode cX11_truedIn 105 = .ok (.iload 4, 2) := by decide +kernel
theorem dX11_truedIn_107 : decode cX11_truedIn 107 = .ok (.isub, 1) := by decide +kernel
theorem dX11_truedIn_108 : decode cX11_truedIn 108 = .ok (.iaload, 1) := by decide +kernel
theorem dX11_truedIn_109 : decode cX11_truedIn 109 = .ok (.isub, 1) := by decide +kernel
theorem dX11_truedIn_110 : decode cX11_truedIn 110 = .ok (.i2l, 1) := by decide +kernel
theorem dX11_truedIn_111 : decode cX11_truedIn 111 = .ok (.lstore 9, 2) := by decide +kernel
theorem dX11_truedIn_113 : decode cX11_truedIn 113 = .ok (.lload 6, 2) := by decide +kernel
theorem dX11_truedIn_115 : decode cX11_truedIn 115 = .ok (.iload_n 3, 1) := by decide +kernel
theorem dX11_truedIn_116 : decode cX11_truedIn 116 = .ok (.ifCond .eq 26, 3) := by decide +kernel
theorem dX11_truedIn_119 : decode cX11_truedIn 119 = .ok (.lload 9, 2) := by decide +kernel
theorem dX11_truedIn_121 : decode cX11_truedIn 121 = .ok (.aload_n 0, 1) := by decide +kernel
theorem dX11_truedIn_122 : decode cX11_truedIn 122 = .ok (.getfield 82, 3) := by decide +kernel
theorem dX11_truedIn_125 : decode cX11_truedIn 125 = .ok (.iconst 1, 1) := by decide +kernel
theorem dX11_truedIn_126 : decode cX11_truedIn 126 = .ok (.iaload, 1) := by decide +kernel
theorem dX11_truedIn_127 : decode cX11_truedIn 127 = .ok (.i2l, 1) := by decide +kernel
theorem dX11_truedIn_128 : decode cX11_truedIn 128 = .ok (.lmul, 1) := by decide +kernel
theorem dX11_truedIn_129 : decode cX11_truedIn 129 = .ok (.iload_n 2, 1) := by decide +kernel
theorem dX11_truedIn_130 : decode cX11_truedIn 130 = .ok (.iload 8, 2) := by decide +kernel
theorem dX11_truedIn_132 : decode cX11_truedIn 132 = .ok (.isub, 1) := by decide +kernel
theorem dX11_truedIn_133 : decode cX11_truedIn 133 = .ok (.i2l, 1) := by decide +kernel
theorem dX11_truedIn_134 : decode cX11_truedIn 134 = .ok (.lmul, 1) := by decide +kernel
theorem dX11_truedIn_135 : decode cX11_truedIn 135 = .ok (.ldc2_w 234, 3) := by decide +kernel
theorem dX11_truedIn_138 : decode cX11_truedIn 138 = .ok (.ldiv, 1) := by decide +kernel
theorem dX11_truedIn_139 : decode cX11_truedIn 139 = .ok (.goto 5, 3) := by decide +kernel
theorem dX11_truedIn_142 : decode cX11_truedIn 142 = .ok (.lload 9, 2) := by decide +kernel
theorem dX11_truedIn_144 : decode cX11_truedIn 144 = .ok (.ladd, 1) := by decide +kernel
theorem dX11_truedIn_145 : decode cX11_truedIn 145 = .ok (.lstore 6, 2) := by decide +kernel
theorem dX11_truedIn_147 : decode cX11_truedIn 147 = .ok (.iinc 8 1, 3) := by decide +kernel
theorem dX11_truedIn_150 : decode cX11_truedIn 150 = .ok (.goto (-65), 3) := by decide +kernel
theorem dX11_truedIn_153 : decode cX11_truedIn 153 = .ok (.lload 6, 2) := by decide +kernel
theorem dX11_truedIn_155 : decode cX11_truedIn 155 = .ok (.l2i, 1) := by decide +kernel
theorem dX11_truedIn_156 : decode cX11_truedIn 156 = .ok (.ireturn, 1) := by decide +kernel
set_option maxRecDepth 20000 in
theorem ggX11_trued_X11_isLease : GoodIn wsX11_trued wsX11_isLease := goodIn_r _ [7, 8, 9, 10, 6, 11, 88, 89, 90, 91, 92, 93, 94, 95, 96, 97, 98, 99, 100, 101, 102, 103, 104, 105, 106, 107, 108, 109] (by decide +kernel) (by decide +kernel)
set_option maxRecDepth 20000 in
theorem gX11_trued_X11_isLease : GoodIn wsX11_trued (wsV RX11 214 RX11 yX11_isLease wsX11_isLease) := goodIn_app (goodIn_of _ (by decide +kernel)) ggX11_trued_X11_isLease
set_option maxRecDepth 20000 in
theorem ggX11_trued_X11_isIn : GoodIn wsX11_trued wsX11_isIn := goodIn_r _ [11] (by decide +kernel) (by decide +kernel)
set_option maxRecDepth 20000 in
theorem gX11_trued_X11_isIn : GoodIn wsX11_trued (va_wsS RX11 114 yX11_isIn wsX11_isIn) := goodIn_app (goodIn_of _ (by decide +kernel)) ggX11_trued_X11_isIn
set_option maxRecDepth 20000 in
theorem ggX11_trued_X11_truedIn : GoodIn wsX11_trued wsX11_truedIn := goodIn_r _ [15, 16, 8, 17, 18, 19, 20, 6, 21, 22, 23, 24, 25, 26, 27, 28, 29, 30, 31, 32, 33, 34, 35, 36, 37, 38, 39, 40, 41, 42, 43, 44, 45, 46, 47, 48, 49, 50, 51, 52, 53, 54, 55, 56, 57, 58, 59, 60, 61, 62, 63, 64, 65, 66, 67, 9, 10, 11, 68, 69, 70, 71, 72, 73, 74, 75, 76, 77, 78, 79, 80, 81, 82, 83, 84, 85, 86, 87, 88, 89, 90, 91, 92, 93, 94, 95, 96, 97, 98, 99, 100, 101, 102, 103, 104, 105, 106, 107, 108, 109] (by decide +kernel) (by decide +kernel)
set_option maxRecDepth 20000 in
theorem gX11_trued_X11_truedIn : GoodIn wsX11_trued (wsV RX11 236 RX11 yX11_truedIn wsX11_truedIn) := goodIn_app (goodIn_of _ (by decide +kernel)) ggX11_trued_X11_truedIn
theorem dX11_trued_0 : decode cX11_trued 0 = .ok (.aload_n 0, 1) := by decide +kernel
theorem dX11_trued_1 : decode cX11_trued 1 = .ok (.iconst 0, 1) := by decide +kernel
theorem dX11_trued_2 : decode cX11_trued 2 = .ok (.putfield 1, 3) := by decide +kernel
theorem dX11_trued_5 : decode cX11_trued 5 = .ok (.aload_n 0, 1) := by decide +kernel
theorem dX11_trued_6 : decode cX11_trued 6 = .ok (.iload_n 1, 1) := by decide +kernel
theorem dX11_trued_7 : decode cX11_trued 7 = .ok (.invokevirtual 214, 3) := by decide +kernel
theorem dX11_trued_10 : decode cX11_trued 10 = .ok (.ifCond .eq 24, 3) := by decide +kernel
theorem dX11_trued_13 : decode cX11_trued 13 = .ok (.iload_n 2, 1) := by decide +kernel
theorem dX11_trued_14 : decode cX11_trued 14 = .ok (.iconst 1, 1) := by decide +kernel
theorem dX11_trued_15 : decode cX11_trued 15 = .ok (.sipush 239, 3) := by decide +kernel
theorem dX11_trued_18 : decode cX11_trued 18 = .ok (.invokestatic 114, 3) := by decide +kernel
theorem dX11_trued_21 : decode cX11_trued 21 = .ok (.ifCond .eq 13, 3) := by decide +kernel
theorem dX11_trued_24 : decode cX11_trued 24 = .ok (.aload_n 0, 1) := by decide +kernel
theorem dX11_trued_25 : decode cX11_trued 25 = .ok (.iload_n 1, 1) := by decide +kernel
theorem dX11_trued_26 : decode cX11_trued 26 = .ok (.iload_n 2, 1) := by decide +kernel
theorem dX11_trued_27 : decode cX11_trued 27 = .ok (.iconst 0, 1) := by decide +kernel
theorem dX11_trued_28 : decode cX11_trued 28 = .ok (.invokevirtual 236, 3) := by decide +kernel
theorem dX11_trued_31 : decode cX11_trued 31 = .ok (.goto 5, 3) := by decide +kernel
theorem dX11_trued_34 : decode cX11_trued 34 = .ok (.ldc 230, 2) := by decide +kernel
theorem dX11_trued_36 : decode cX11_trued 36 = .ok (.ireturn, 1) := by decide +kernel
set_option maxRecDepth 20000 in
theorem ggX11_interest_X11_isLease : GoodIn wsX11_interest wsX11_isLease := goodIn_r _ [7, 8, 9, 10, 6, 11, 88, 89, 90, 91, 92, 93, 94, 95, 96, 97, 98, 99, 100, 101, 102, 103, 104, 105, 106, 107, 108, 109] (by decide +kernel) (by decide +kernel)
set_option maxRecDepth 20000 in
theorem gX11_interest_X11_isLease : GoodIn wsX11_interest (wsV RX11 214 RX11 yX11_isLease wsX11_isLease) := goodIn_app (goodIn_of _ (by decide +kernel)) ggX11_interest_X11_isLease
set_option maxRecDepth 20000 in
theorem ggX11_interest_X11_isIn : GoodIn wsX11_interest wsX11_isIn := goodIn_r _ [11] (by decide +kernel) (by decide +kernel)
set_option maxRecDepth 20000 in
theorem gX11_interest_X11_isIn : GoodIn wsX11_interest (va_wsS RX11 114 yX11_isIn wsX11_isIn) := goodIn_app (goodIn_of _ (by decide +kernel)) ggX11_interest_X11_isIn
set_option maxRecDepth 20000 in
theorem ggX11_interest_X11_truedIn : GoodIn wsX11_interest wsX11_truedIn := goodIn_r _ [15, 16, 8, 17, 18, 19, 20, 6, 21, 22, 23, 24, 25, 26, 27, 28, 29, 30, 31, 32, 33, 34, 35, 36, 37, 38, 39, 40, 41, 42, 43, 44, 45, 46, 47, 48, 49, 50, 51, 52, 53, 54, 55, 56, 57, 58, 59, 60, 61, 62, 63, 64, 65, 66, 67, 9, 10, 11, 68, 69, 70, 71, 72, 73, 74, 75, 76, 77, 78, 79, 80, 81, 82, 83, 84, 85, 86, 87, 88, 89, 90, 91, 92, 93, 94, 95, 96, 97, 98, 99, 100, 101, 102, 103, 104, 105, 106, 107, 108, 109] (by decide +kernel) (by decide +kernel)
set_option maxRecDepth 20000 in
theorem gX11_interest_X11_truedIn : GoodIn wsX11_interest (wsV RX11 236 RX11 yX11_truedIn wsX11_truedIn) := goodIn_app (goodIn_of _ (by decide +kernel)) ggX11_interest_X11_truedIn
theorem dX11_interest_0 : decode cX11_interest 0 = .ok (.aload_n 0, 1) := by decide +kernel
theorem dX11_interest_1 : decode cX11_interest 1 = .ok (.iconst 0, 1) := by decide +kernel
theorem dX11_interest_2 : decode cX11_interest 2 = .ok (.putfield 1, 3) := by decide +kernel
theorem dX11_interest_5 : decode cX11_interest 5 = .ok (.aload_n 0, 1) := by decide +kernel
theorem dX11_interest_6 : decode cX11_interest 6 = .ok (.iload_n 1, 1) := by decide +kernel
theorem dX11_interest_7 : decode cX11_interest 7 = .ok (.invokevirtual 214, 3) := by decide +kernel
theorem dX11_interest_10 : decode cX11_interest 10 = .ok (.ifCond .eq 24, 3) := by decide +kernel
theorem dX11_interest_13 : decode cX11_interest 13 = .ok (.iload_n 2, 1) := by decide +kernel
theorem dX11_interest_14 : decode cX11_interest 14 = .ok (.iconst 1, 1) := by decide +kernel
theorem dX11_interest_15 : decode cX11_interest 15 = .ok (.sipush 239, 3) := by decide +kernel
theorem dX11_interest_18 : decode cX11_interest 18 = .ok (.invokestatic 114, 3) := by decide +kernel
theorem dX11_interest_21 : decode cX11_interest 21 = .ok (.ifCond .eq 13, 3) := by decide +kernel
theorem dX11_interest_24 : decode cX11_interest 24 = .ok (.aload_n 0, 1) := by decide +kernel
theorem dX11_interest_25 : decode cX11_interest 25 = .ok (.iload_n 1, 1) := by decide +kernel
theorem dX11_interest_26 : decode cX11_interest 26 = .ok (.iload_n 2, 1) := by decide +kernel
theorem dX11_interest_27 : decode cX11_interest 27 = .ok (.iconst 1, 1) := by decide +kernel
theorem dX11_interest_28 : decode cX11_interest 28 = .ok (.invokevirtual 236, 3) := by decide +kernel
theorem dX11_interest_31 : decode cX11_interest 31 = .ok (.goto 5, 3) := by decide +kernel
theorem dX11_interest_34 : decode cX11_interest 34 = .ok (.ldc 230, 2) := by decide +kernel
theorem dX11_interest_36 : decode cX11_interest 36 = .ok (.ireturn, 1) := by decide +kernel
set_option maxRecDepth 20000 in
theorem ggX11_laysSpreads_X11_its : GoodIn wsX11_laysSpreads wsX11_its := goodIn_r _ [6, 7, 77, 78, 79, 80, 81, 82, 83, 84, 85, 86, 87, 88, 89, 90, 91, 92, 93, 94, 95, 96, 97, 98] (by decide +kernel) (by decide +kernel)
set_option maxRecDepth 20000 in
theorem gX11_laysSpreads_X11_its : GoodIn wsX11_laysSpreads (wsV RX11 163 RX11 yX11_its wsX11_its) := goodIn_app (goodIn_of _ (by decide +kernel)) ggX11_laysSpreads_X11_its
set_option maxRecDepth 20000 in
theorem ggX11_laysSpreads_X11_endOf : GoodIn wsX11_laysSpreads wsX11_endOf := goodIn_r _ [11, 2, 3, 4, 5, 6, 7, 12, 13, 14, 15, 77, 78, 79, 80, 81, 82, 83, 84, 85, 86, 87, 88, 89, 90, 91, 92, 93, 94, 95, 96, 97, 98] (by decide +kernel) (by decide +kernel)
set_option maxRecDepth 20000 in
theorem gX11_laysSpreads_X11_endOf : GoodIn wsX11_laysSpreads (wsV RX11 220 RX11 yX11_endOf wsX11_endOf) := goodIn_app (goodIn_of _ (by decide +kernel)) ggX11_laysSpreads_X11_endOf
set_option maxRecDepth 20000 in
theorem ggX11_laysSpreads_X11_laysRents : GoodIn wsX11_laysSpreads wsX11_laysRents := goodIn_r _ [19, 20, 21, 22, 23, 24, 25, 26, 2, 3, 4, 5, 6, 7, 27, 28, 29, 30, 31, 32, 33, 34, 35, 36, 37, 38, 39, 40, 41, 42, 43, 44, 45, 46, 47, 48, 49, 50, 51, 52, 53, 54, 55, 56, 57, 58, 59, 60, 61, 62, 63, 64, 65, 66, 67, 68, 77, 78, 79, 80, 81, 82, 83, 84, 85, 86, 87, 88, 89, 90, 91, 92, 93, 94, 95, 96, 97, 98] (by decide +kernel) (by decide +kernel)
set_option maxRecDepth 20000 in
theorem gX11_laysSpreads_X11_laysRents : GoodIn wsX11_laysSpreads (wsV RX11 226 RX11 yX11_laysRents wsX11_laysRents) := goodIn_app (goodIn_of _ (by decide +kernel)) ggX11_laysSpreads_X11_laysRents
set_option maxRecDepth 20000 in
theorem ggX11_laysSpreads_X11_dueLaid : GoodIn wsX11_laysSpreads wsX11_dueLaid := goodIn_r _ [72, 2, 3, 4, 5, 6, 7, 73, 74, 75, 76, 20, 27, 28, 29, 30, 77, 78, 79, 80, 81, 82, 83, 84, 85, 86, 87, 88, 89, 90, 91, 92, 93, 94, 95, 96, 97, 98] (by decide +kernel) (by decide +kernel)
set_option maxRecDepth 20000 in
theorem gX11_laysSpreads_X11_dueLaid : GoodIn wsX11_laysSpreads (wsV RX11 231 RX11 yX11_dueLaid wsX11_dueLaid) := goodIn_app (goodIn_of _ (by decide +kernel)) ggX11_laysSpreads_X11_dueLaid
theorem dX11_laysSpreads_0 : decode cX11_laysSpreads 0 = .ok (.aload_n 0, 1) := by decide +kernel
theorem dX11_laysSpreads_1 : decode cX11_laysSpreads 1 = .ok (.iload_n 1, 1) := by decide +kernel
theorem dX11_laysSpreads_2 : decode cX11_laysSpreads 2 = .ok (.iconst 0, 1) := by decide +kernel
theorem dX11_laysSpreads_3 : decode cX11_laysSpreads 3 = .ok (.invokevirtual 163, 3) := by decide +kernel
theorem dX11_laysSpreads_6 : decode cX11_laysSpreads 6 = .ok (.istore_n 3, 1) := by decide +kernel
theorem dX11_laysSpreads_7 : decode cX11_laysSpreads 7 = .ok (.lconst 0, 1) := by decide +kernel
theorem dX11_laysSpreads_8 : decode cX11_laysSpreads 8 = .ok (.lstore 4, 2) := by decide +kernel
theorem dX11_laysSpreads_10 : decode cX11_laysSpreads 10 = .ok (.iload_n 3, 1) := by decide +kernel
theorem dX11_laysSpreads_11 : decode cX11_laysSpreads 11 = .ok (.istore 6, 2) := by decide +kernel
theorem dX11_laysSpreads_13 : decode cX11_laysSpreads 13 = .ok (.iload 6, 2) := by decide +kernel
theorem dX11_laysSpreads_15 : decode cX11_laysSpreads 15 = .ok (.iload_n 2, 1) := by decide +kernel
theorem dX11_laysSpreads_16 : decode cX11_laysSpreads 16 = .ok (.if_icmp .gt 103, 3) := by decide +kernel
theorem dX11_laysSpreads_19 : decode cX11_laysSpreads 19 = .ok (.aload_n 0, 1) := by decide +kernel
theorem dX11_laysSpreads_20 : decode cX11_laysSpreads 20 = .ok (.iload_n 1, 1) := by decide +kernel
theorem dX11_laysSpreads_21 : decode cX11_laysSpreads 21 = .ok (.iload 6, 2) := by decide +kernel
theorem dX11_laysSpreads_23 : decode cX11_laysSpreads 23 = .ok (.invokevirtual 220, 3) := by decide +kernel
theorem dX11_laysSpreads_26 : decode cX11_laysSpreads 26 = .ok (.istore 7, 2) := by decide +kernel
theorem dX11_laysSpreads_28 : decode cX11_laysSpreads 28 = .ok (.aload_n 0, 1) := by decide +kernel
theorem dX11_laysSpreads_29 : decode cX11_laysSpreads 29 = .ok (.iload_n 1, 1) := by decide +kernel
theorem dX11_laysSpreads_30 : decode cX11_laysSpreads 30 = .ok (.iload 6, 2) := by decide +kernel
theorem dX11_laysSpreads_32 : decode cX11_laysSpreads 32 = .ok (.invokevirtual 226, 3) := by decide +kernel
theorem dX11_laysSpreads_35 : decode cX11_laysSpreads 35 = .ok (.lconst 0, 1) := by decide +kernel
theorem dX11_laysSpreads_36 : decode cX11_laysSpreads 36 = .ok (.lstore 8, 2) := by decide +kernel
theorem dX11_laysSpreads_38 : decode cX11_laysSpreads 38 = .ok (.iload_n 3, 1) := by decide +kernel
theorem dX11_laysSpreads_39 : decode cX11_laysSpreads 39 = .ok (.istore 10, 2) := by decide +kernel
theorem dX11_laysSpreads_41 : decode cX11_laysSpreads 41 = .ok (.iload 10, 2) := by decide +kernel
theorem dX11_laysSpreads_43 : decode cX11_laysSpreads 43 = .ok (.iload 7, 2) := by decide +kernel
theorem dX11_laysSpreads_45 : decode cX11_laysSpreads 45 = .ok (.if_icmp .ge 22, 3) := by decide +kernel
theorem dX11_laysSpreads_48 : decode cX11_laysSpreads 48 = .ok (.lload 8, 2) := by decide +kernel
theorem dX11_laysSpreads_50 : decode cX11_laysSpreads 50 = .ok (.aload_n 0, 1) := by decide +kernel
theorem dX11_laysSpreads_51 : decode cX11_laysSpreads 51 = .ok (.iload_n 1, 1) := by decide +kernel
theorem dX11_laysSpreads_52 : decode cX11_laysSpreads 52 = .ok (.iload 10, 2) := by decide +kernel
theorem dX11_laysSpreads_54 : decode cX11_laysSpreads 54 = .ok (.invokevirtual 231, 3) := by decide +kernel
theorem dX11_laysSpreads_57 : decode cX11_laysSpreads 57 = .ok (.i2l, 1) := by decide +kernel
theorem dX11_laysSpreads_58 : decode cX11_laysSpreads 58 = .ok (.ladd, 1) := by decide +kernel
theorem dX11_laysSpreads_59 : decode cX11_laysSpreads 59 = .ok (.lstore 8, 2) := by decide +kernel
theorem dX11_laysSpreads_61 : decode cX11_laysSpreads 61 = .ok (.iinc 10 1, 3) := by decide +kernel
theorem dX11_laysSpreads_64 : decode cX11_laysSpreads 64 = .ok (.goto (-23), 3) := by decide +kernel
theorem dX11_laysSpreads_67 : decode cX11_laysSpreads 67 = .ok (.aload_n 0, 1) := by decide +kernel
theorem dX11_laysSpreads_68 : decode cX11_laysSpreads 68 = .ok (.getfield 108, 3) := by decide +kernel
theorem dX11_laysSpreads_71 : decode cX11_laysSpreads 71 = .ok (.iload 6, 2) := by decide +kernel
theorem dX11_laysSpreads_73 : decode cX11_laysSpreads 73 = .ok (.iload_n 3, 1) := by decide +kernel
theorem dX11_laysSpreads_74 : decode cX11_laysSpreads 74 = .ok (.isub, 1) := by decide +kernel
theorem dX11_laysSpreads_75 : decode cX11_laysSpreads 75 = .ok (.iload 6, 2) := by decide +kernel
theorem dX11_laysSpreads_77 : decode cX11_laysSpreads 77 = .ok (.iload 7, 2) := by decide +kernel
theorem dX11_laysSpreads_79 : decode cX11_laysSpreads 79 = .ok (.if_icmp .ge 18, 3) := by decide +kernel
theorem dX11_laysSpreads_82 : decode cX11_laysSpreads 82 = .ok (.lload 8, 2) := by decide +kernel
theorem dX11_laysSpreads_84 : decode cX11_laysSpreads 84 = .ok (.lload 4, 2) := by decide +kernel
theorem dX11_laysSpreads_86 : decode cX11_laysSpreads 86 = .ok (.lsub, 1) := by decide +kernel
theorem dX11_laysSpreads_87 : decode cX11_laysSpreads 87 = .ok (.iload 7, 2) := by decide +kernel
theorem dX11_laysSpreads_89 : decode cX11_laysSpreads 89 = .ok (.iload 6, 2) := by decide +kernel
theorem dX11_laysSpreads_91 : decode cX11_laysSpreads 91 = .ok (.isub, 1) := by decide +kernel
theorem dX11_laysSpreads_92 : decode cX11_laysSpreads 92 = .ok (.i2l, 1) := by decide +kernel
theorem dX11_laysSpreads_93 : decode cX11_laysSpreads 93 = .ok (.ldiv, 1) := by decide +kernel
theorem dX11_laysSpreads_94 : decode cX11_laysSpreads 94 = .ok (.goto 4, 3) := by decide +kernel
theorem dX11_laysSpreads_97 : decode cX11_laysSpreads 97 = .ok (.lconst 0, 1) := by decide +kernel
theorem dX11_laysSpreads_98 : decode cX11_laysSpreads 98 = .ok (.lastore, 1) := by decide +kernel
theorem dX11_laysSpreads_99 : decode cX11_laysSpreads 99 = .ok (.lload 4, 2) := by decide +kernel
theorem dX11_laysSpreads_101 : decode cX11_laysSpreads 101 = .ok (.aload_n 0, 1) := by decide +kernel
theorem dX11_laysSpreads_102 : decode cX11_laysSpreads 102 = .ok (.getfield 108, 3) := by decide +kernel
theorem dX11_laysSpreads_105 : decode cX11_laysSpreads 105 = .ok (.iload 6, 2) := by decide +kernel
theorem dX11_laysSpreads_107 : decode cX11_laysSpreads 107 = .ok (.iload_n 3, 1) := by decide +kernel
theorem dX11_laysSpreads_108 : decode cX11_laysSpreads 108 = .ok (.isub, 1) := by decide +kernel
theorem dX11_laysSpreads_109 : decode cX11_laysSpreads 109 = .ok (.laload, 1) := by decide +kernel
theorem dX11_laysSpreads_110 : decode cX11_laysSpreads 110 = .ok (.ladd, 1) := by decide +kernel
theorem dX11_laysSpreads_111 : decode cX11_laysSpreads 111 = .ok (.lstore 4, 2) := by decide +kernel
theorem dX11_laysSpreads_113 : decode cX11_laysSpreads 113 = .ok (.iinc 6 1, 3) := by decide +kernel
theorem dX11_laysSpreads_116 : decode cX11_laysSpreads 116 = .ok (.goto (-103), 3) := by decide +kernel
theorem dX11_laysSpreads_119 : decode cX11_laysSpreads 119 = .ok (.return_, 1) := by decide +kernel
set_option maxRecDepth 20000 in
theorem ggX11_spread_X11_isOf : GoodIn wsX11_spread wsX11_isOf := goodIn_r _ [8, 9, 10, 11, 7, 12, 13, 14, 15, 16, 17, 18, 19, 20, 21, 22, 23, 24, 91, 92, 93, 94, 95, 96, 97, 98, 99, 100, 101, 102, 103, 104, 105, 106, 107, 108, 109, 110, 111, 112] (by decide +kernel) (by decide +kernel)
set_option maxRecDepth 20000 in
theorem gX11_spread_X11_isOf : GoodIn wsX11_spread (wsV RX11 223 RX11 yX11_isOf wsX11_isOf) := goodIn_app (goodIn_of _ (by decide +kernel)) ggX11_spread_X11_isOf
set_option maxRecDepth 20000 in
theorem ggX11_spread_X11_laysSpreads : GoodIn wsX11_spread wsX11_laysSpreads := goodIn_r _ [28, 3, 17, 18, 19, 7, 20, 13, 29, 30, 31, 32, 21, 22, 23, 24, 33, 34, 35, 36, 37, 38, 39, 40, 41, 42, 43, 44, 45, 46, 47, 48, 49, 50, 51, 52, 53, 54, 55, 56, 57, 58, 59, 60, 61, 62, 63, 64, 65, 66, 67, 68, 69, 70, 14, 15, 16, 71, 72, 73, 74, 75, 76, 77, 78, 79, 80, 81, 82, 83, 84, 85, 86, 87, 88, 89, 90, 91, 92, 93, 94, 95, 96, 97, 98, 99, 100, 101, 102, 103, 104, 105, 106, 107, 108, 109, 110, 111, 112] (by decide +kernel) (by decide +kernel)
set_option maxRecDepth 20000 in
theorem gX11_spread_X11_laysSpreads : GoodIn wsX11_spread (wsV RX11 240 RX11 yX11_laysSpreads wsX11_laysSpreads) := goodIn_app (goodIn_of _ (by decide +kernel)) ggX11_spread_X11_laysSpreads
set_option maxRecDepth 20000 in
theorem ggX11_spread_X11_its : GoodIn wsX11_spread wsX11_its := goodIn_r _ [20, 13, 91, 92, 93, 94, 95, 96, 97, 98, 99, 100, 101, 102, 103, 104, 105, 106, 107, 108, 109, 110, 111, 112] (by decide +kernel) (by decide +kernel)
set_option maxRecDepth 20000 in
theorem gX11_spread_X11_its : GoodIn wsX11_spread (wsV RX11 163 RX11 yX11_its wsX11_its) := goodIn_app (goodIn_of _ (by decide +kernel)) ggX11_spread_X11_its
theorem dX11_spread_0 : decode cX11_spread 0 = .ok (.aload_n 0, 1) := by decide +kernel
theorem dX11_spread_1 : decode cX11_spread 1 = .ok (.iconst 0, 1) := by decide +kernel
theorem dX11_spread_2 : decode cX11_spread 2 = .ok (.putfield 1, 3) := by decide +kernel
theorem dX11_spread_5 : decode cX11_spread 5 = .ok (.aload_n 0, 1) := by decide +kernel
theorem dX11_spread_6 : decode cX11_spread 6 = .ok (.iload_n 1, 1) := by decide +kernel
theorem dX11_spread_7 : decode cX11_spread 7 = .ok (.iload_n 2, 1) := by decide +kernel
theorem dX11_spread_8 : decode cX11_spread 8 = .ok (.invokevirtual 223, 3) := by decide +kernel
theorem dX11_spread_11 : decode cX11_spread 11 = .ok (.ifCond .ne 6, 3) := by decide +kernel
theorem dX11_spread_14 : decode cX11_spread 14 = .ok (.ldc 230, 2) := by decide +kernel
theorem dX11_spread_16 : decode cX11_spread 16 = .ok (.ireturn, 1) := by decide +kernel
theorem dX11_spread_17 : decode cX11_spread 17 = .ok (.aload_n 0, 1) := by decide +kernel
theorem dX11_spread_18 : decode cX11_spread 18 = .ok (.iload_n 1, 1) := by decide +kernel
theorem dX11_spread_19 : decode cX11_spread 19 = .ok (.iload_n 2, 1) := by decide +kernel
theorem dX11_spread_20 : decode cX11_spread 20 = .ok (.invokevirtual 240, 3) := by decide +kernel
theorem dX11_spread_23 : decode cX11_spread 23 = .ok (.aload_n 0, 1) := by decide +kernel
theorem dX11_spread_24 : decode cX11_spread 24 = .ok (.getfield 108, 3) := by decide +kernel
theorem dX11_spread_27 : decode cX11_spread 27 = .ok (.iload_n 2, 1) := by decide +kernel
theorem dX11_spread_28 : decode cX11_spread 28 = .ok (.aload_n 0, 1) := by decide +kernel
theorem dX11_spread_29 : decode cX11_spread 29 = .ok (.iload_n 1, 1) := by decide +kernel
theorem dX11_spread_30 : decode cX11_spread 30 = .ok (.iconst 0, 1) := by decide +kernel
theorem dX11_spread_31 : decode cX11_spread 31 = .ok (.invokevirtual 163, 3) := by decide +kernel
theorem dX11_spread_34 : decode cX11_spread 34 = .ok (.isub, 1) := by decide +kernel
theorem dX11_spread_35 : decode cX11_spread 35 = .ok (.laload, 1) := by decide +kernel
theorem dX11_spread_36 : decode cX11_spread 36 = .ok (.l2i, 1) := by decide +kernel
theorem dX11_spread_37 : decode cX11_spread 37 = .ok (.ireturn, 1) := by decide +kernel
set_option maxRecDepth 20000 in
theorem ggX11_ahead_X11_isOf : GoodIn wsX11_ahead wsX11_isOf := goodIn_r _ [8, 9, 10, 11, 7, 12, 13, 14, 15, 16, 17, 18, 19, 20, 21, 22, 23, 24, 91, 92, 93, 94, 95, 96, 97, 98, 99, 100, 101, 102, 103, 104, 105, 106, 107, 108, 109, 110, 111, 112] (by decide +kernel) (by decide +kernel)
set_option maxRecDepth 20000 in
theorem gX11_ahead_X11_isOf : GoodIn wsX11_ahead (wsV RX11 223 RX11 yX11_isOf wsX11_isOf) := goodIn_app (goodIn_of _ (by decide +kernel)) ggX11_ahead_X11_isOf
set_option maxRecDepth 20000 in
theorem ggX11_ahead_X11_laysSpreads : GoodIn wsX11_ahead wsX11_laysSpreads := goodIn_r _ [28, 3, 17, 18, 19, 7, 20, 13, 29, 30, 31, 32, 21, 22, 23, 24, 33, 34, 35, 36, 37, 38, 39, 40, 41, 42, 43, 44, 45, 46, 47, 48, 49, 50, 51, 52, 53, 54, 55, 56, 57, 58, 59, 60, 61, 62, 63, 64, 65, 66, 67, 68, 69, 70, 14, 15, 16, 71, 72, 73, 74, 75, 76, 77, 78, 79, 80, 81, 82, 83, 84, 85, 86, 87, 88, 89, 90, 91, 92, 93, 94, 95, 96, 97, 98, 99, 100, 101, 102, 103, 104, 105, 106, 107, 108, 109, 110, 111, 112] (by decide +kernel) (by decide +kernel)
set_option maxRecDepth 20000 in
theorem gX11_ahead_X11_laysSpreads : GoodIn wsX11_ahead (wsV RX11 240 RX11 yX11_laysSpreads wsX11_laysSpreads) := goodIn_app (goodIn_of _ (by decide +kernel)) ggX11_ahead_X11_laysSpreads
set_option maxRecDepth 20000 in
theorem ggX11_ahead_X11_laysRents : GoodIn wsX11_ahead wsX11_laysRents := goodIn_r _ [36, 37, 38, 39, 40, 41, 42, 43, 17, 18, 19, 7, 20, 13, 44, 45, 46, 47, 48, 49, 50, 51, 52, 53, 54, 55, 56, 57, 58, 59, 60, 61, 62, 63, 64, 65, 66, 67, 68, 69, 70, 14, 15, 16, 71, 72, 73, 74, 75, 76, 77, 78, 79, 80, 81, 82, 91, 92, 93, 94, 95, 96, 97, 98, 99, 100, 101, 102, 103, 104, 105, 106, 107, 108, 109, 110, 111, 112] (by decide +kernel) (by decide +kernel)
set_option maxRecDepth 20000 in
theorem gX11_ahead_X11_laysRents : GoodIn wsX11_ahead (wsV RX11 226 RX11 yX11_laysRents wsX11_laysRents) := goodIn_app (goodIn_of _ (by decide +kernel)) ggX11_ahead_X11_laysRents
set_option maxRecDepth 20000 in
theorem ggX11_ahead_X11_its : GoodIn wsX11_ahead wsX11_its := goodIn_r _ [20, 13, 91, 92, 93, 94, 95, 96, 97, 98, 99, 100, 101, 102, 103, 104, 105, 106, 107, 108, 109, 110, 111, 112] (by decide +kernel) (by decide +kernel)
set_option maxRecDepth 20000 in
theorem gX11_ahead_X11_its : GoodIn wsX11_ahead (wsV RX11 163 RX11 yX11_its wsX11_its) := goodIn_app (goodIn_of _ (by decide +kernel)) ggX11_ahead_X11_its
set_option maxRecDepth 20000 in
theorem ggX11_ahead_X11_endOf : GoodIn wsX11_ahead wsX11_endOf := goodIn_r _ [32, 17, 18, 19, 7, 20, 13, 21, 22, 23, 24, 91, 92, 93, 94, 95, 96, 97, 98, 99, 100, 101, 102, 103, 104, 105, 106, 107, 108, 109, 110, 111, 112] (by decide +kernel) (by decide +kernel)
set_option maxRecDepth 20000 in
theorem gX11_ahead_X11_endOf : GoodIn wsX11_ahead (wsV RX11 220 RX11 yX11_endOf wsX11_endOf) := goodIn_app (goodIn_of _ (by decide +kernel)) ggX11_ahead_X11_endOf
set_option maxRecDepth 20000 in
theorem ggX11_ahead_X11_dueLaid : GoodIn wsX11_ahead wsX11_dueLaid := goodIn_r _ [86, 17, 18, 19, 7, 20, 13, 87, 88, 89, 90, 37, 44, 45, 46, 47, 91, 92, 93, 94, 95, 96, 97, 98, 99, 100, 101, 102, 103, 104, 105, 106, 107, 108, 109, 110, 111, 112] (by decide +kernel) (by decide +kernel)
set_option maxRecDepth 20000 in
theorem gX11_ahead_X11_dueLaid : GoodIn wsX11_ahead (wsV RX11 231 RX11 yX11_dueLaid wsX11_dueLaid) := goodIn_app (goodIn_of _ (by decide +kernel)) ggX11_ahead_X11_dueLaid
theorem dX11_ahead_0 : decode cX11_ahead 0 = .ok (.aload_n 0, 1) := by decide +kernel
theorem dX11_ahead_1 : decode cX11_ahead 1 = .ok (.iconst 0, 1) := by decide +kernel
theorem dX11_ahead_2 : decode cX11_ahead 2 = .ok (.putfield 1, 3) := by decide +kernel
theorem dX11_ahead_5 : decode cX11_ahead 5 = .ok (.aload_n 0, 1) := by decide +kernel
theorem dX11_ahead_6 : decode cX11_ahead 6 = .ok (.iload_n 1, 1) := by decide +kernel
theorem dX11_ahead_7 : decode cX11_ahead 7 = .ok (.iload_n 2, 1) := by decide +kernel
theorem dX11_ahead_8 : decode cX11_ahead 8 = .ok (.invokevirtual 223, 3) := by decide +kernel
theorem dX11_ahead_11 : decode cX11_ahead 11 = .ok (.ifCond .ne 6, 3) := by decide +kernel
theorem dX11_ahead_14 : decode cX11_ahead 14 = .ok (.ldc 230, 2) := by decide +kernel
theorem dX11_ahead_16 : decode cX11_ahead 16 = .ok (.ireturn, 1) := by decide +kernel
theorem dX11_ahead_17 : decode cX11_ahead 17 = .ok (.aload_n 0, 1) := by decide +kernel
theorem dX11_ahead_18 : decode cX11_ahead 18 = .ok (.iload_n 1, 1) := by decide +kernel
theorem dX11_ahead_19 : decode cX11_ahead 19 = .ok (.iload_n 2, 1) := by decide +kernel
theorem dX11_ahead_20 : decode cX11_ahead 20 = .ok (.invokevirtual 240, 3) := by decide +kernel
theorem dX11_ahead_23 : decode cX11_ahead 23 = .ok (.aload_n 0, 1) := by decide +kernel
theorem dX11_ahead_24 : decode cX11_ahead 24 = .ok (.iload_n 1, 1) := by decide +kernel
theorem dX11_ahead_25 : decode cX11_ahead 25 = .ok (.iload_n 2, 1) := by decide +kernel
theorem dX11_ahead_26 : decode cX11_ahead 26 = .ok (.invokevirtual 226, 3) := by decide +kernel
theorem dX11_ahead_29 : decode cX11_ahead 29 = .ok (.lconst 0, 1) := by decide +kernel
theorem dX11_ahead_30 : decode cX11_ahead 30 = .ok (.lstore_n 3, 1) := by decide +kernel
theorem dX11_ahead_31 : decode cX11_ahead 31 = .ok (.aload_n 0, 1) := by decide +kernel
theorem dX11_ahead_32 : decode cX11_ahead 32 = .ok (.iload_n 1, 1) := by decide +kernel
theorem dX11_ahead_33 : decode cX11_ahead 33 = .ok (.iconst 0, 1) := by decide +kernel
theorem dX11_ahead_34 : decode cX11_ahead 34 = .ok (.invokevirtual 163, 3) := by decide +kernel
theorem dX11_ahead_37 : decode cX11_ahead 37 = .ok (.istore 5, 2) := by decide +kernel
theorem dX11_ahead_39 : decode cX11_ahead 39 = .ok (.iload 5, 2) := by decide +kernel
theorem dX11_ahead_41 : decode cX11_ahead 41 = .ok (.iload_n 2, 1) := by decide +kernel
theorem dX11_ahead_42 : decode cX11_ahead 42 = .ok (.if_icmp .gt 46, 3) := by decide +kernel
theorem dX11_ahead_45 : decode cX11_ahead 45 = .ok (.iload 5, 2) := by decide +kernel
theorem dX11_ahead_47 : decode cX11_ahead 47 = .ok (.aload_n 0, 1) := by decide +kernel
theorem dX11_ahead_48 : decode cX11_ahead 48 = .ok (.iload_n 1, 1) := by decide +kernel
theorem dX11_ahead_49 : decode cX11_ahead 49 = .ok (.iload_n 2, 1) := by decide +kernel
theorem dX11_ahead_50 : decode cX11_ahead 50 = .ok (.invokevirtual 220, 3) := by decide +kernel
theorem dX11_ahead_53 : decode cX11_ahead 53 = .ok (.if_icmp .ge 35, 3) := by decide +kernel
theorem dX11_ahead_56 : decode cX11_ahead 56 = .ok (.lload_n 3, 1) := by decide +kernel
theorem dX11_ahead_57 : decode cX11_ahead 57 = .ok (.aload_n 0, 1) := by decide +kernel
theorem dX11_ahead_58 : decode cX11_ahead 58 = .ok (.getfield 108, 3) := by decide +kernel
theorem dX11_ahead_61 : decode cX11_ahead 61 = .ok (.iload 5, 2) := by decide +kernel
theorem dX11_ahead_63 : decode cX11_ahead 63 = .ok (.aload_n 0, 1) := by decide +kernel
theorem dX11_ahead_64 : decode cX11_ahead 64 = .ok (.iload_n 1, 1) := by decide +kernel
theorem dX11_ahead_65 : decode cX11_ahead 65 = .ok (.iconst 0, 1) := by decide +kernel
theorem dX11_ahead_66 : decode cX11_ahead 66 = .ok (.invokevirtual 163, 3) := by decide +kernel
theorem dX11_ahead_69 : decode cX11_ahead 69 = .ok (.isub, 1) := by decide +kernel
theorem dX11_ahead_70 : decode cX11_ahead 70 = .ok (.laload, 1) := by decide +kernel
theorem dX11_ahead_71 : decode cX11_ahead 71 = .ok (.aload_n 0, 1) := by decide +kernel
theorem dX11_ahead_72 : decode cX11_ahead 72 = .ok (.iload_n 1, 1) := by decide +kernel
theorem dX11_ahead_73 : decode cX11_ahead 73 = .ok (.iload 5, 2) := by decide +kernel
theorem dX11_ahead_75 : decode cX11_ahead 75 = .ok (.invokevirtual 231, 3) := by decide +kernel
theorem dX11_ahead_78 : decode cX11_ahead 78 = .ok (.i2l, 1) := by decide +kernel
theorem dX11_ahead_79 : decode cX11_ahead 79 = .ok (.lsub, 1) := by decide +kernel
theorem dX11_ahead_80 : decode cX11_ahead 80 = .ok (.ladd, 1) := by decide +kernel
theorem dX11_ahead_81 : decode cX11_ahead 81 = .ok (.lstore_n 3, 1) := by decide +kernel
theorem dX11_ahead_82 : decode cX11_ahead 82 = .ok (.iinc 5 1, 3) := by decide +kernel
theorem dX11_ahead_85 : decode cX11_ahead 85 = .ok (.goto (-46), 3) := by decide +kernel
theorem dX11_ahead_88 : decode cX11_ahead 88 = .ok (.lload_n 3, 1) := by decide +kernel
theorem dX11_ahead_89 : decode cX11_ahead 89 = .ok (.l2i, 1) := by decide +kernel
theorem dX11_ahead_90 : decode cX11_ahead 90 = .ok (.ireturn, 1) := by decide +kernel
set_option maxRecDepth 20000 in
theorem ggX11_whyNot_X11_isMonth : GoodIn wsX11_whyNot wsX11_isMonth := goodIn_r _ [5, 6, 7, 4, 8] (by decide +kernel) (by decide +kernel)
set_option maxRecDepth 20000 in
theorem gX11_whyNot_X11_isMonth : GoodIn wsX11_whyNot (va_wsS RX11 170 yX11_isMonth wsX11_isMonth) := goodIn_app (goodIn_of _ (by decide +kernel)) ggX11_whyNot_X11_isMonth
set_option maxRecDepth 20000 in
theorem ggX11_whyNot_X11_isIn : GoodIn wsX11_whyNot wsX11_isIn := goodIn_r _ [8] (by decide +kernel) (by decide +kernel)
set_option maxRecDepth 20000 in
theorem gX11_whyNot_X11_isIn : GoodIn wsX11_whyNot (va_wsS RX11 114 yX11_isIn wsX11_isIn) := goodIn_app (goodIn_of _ (by decide +kernel)) ggX11_whyNot_X11_isIn
set_option maxRecDepth 20000 in
theorem ggX11_whyNot_X11_valueMany : GoodIn wsX11_whyNot wsX11_valueMany := goodIn_r _ [12, 1, 13, 14, 15, 16, 17, 18, 19, 20, 21, 22, 23, 24, 25, 26, 27, 28, 29, 30, 31, 32, 33, 34] (by decide +kernel) (by decide +kernel)
set_option maxRecDepth 20000 in
theorem gX11_whyNot_X11_valueMany : GoodIn wsX11_whyNot (wsV RX11 211 RX11 yX11_valueMany wsX11_valueMany) := goodIn_app (goodIn_of _ (by decide +kernel)) ggX11_whyNot_X11_valueMany
theorem dX11_whyNot_0 : decode cX11_whyNot 0 = .ok (.iload_n 1, 1) := by decide +kernel
theorem dX11_whyNot_1 : decode cX11_whyNot 1 = .ok (.invokestatic 170, 3) := by decide +kernel
theorem dX11_whyNot_4 : decode cX11_whyNot 4 = .ok (.ifCond .eq 25, 3) := by decide +kernel
theorem dX11_whyNot_7 : decode cX11_whyNot 7 = .ok (.iload_n 2, 1) := by decide +kernel
theorem dX11_whyNot_8 : decode cX11_whyNot 8 = .ok (.iconst 1, 1) := by decide +kernel
theorem dX11_whyNot_9 : decode cX11_whyNot 9 = .ok (.sipush 9999, 3) := by decide +kernel
theorem dX11_whyNot_12 : decode cX11_whyNot 12 = .ok (.invokestatic 114, 3) := by decide +kernel
theorem dX11_whyNot_15 : decode cX11_whyNot 15 = .ok (.ifCond .eq 14, 3) := by decide +kernel
theorem dX11_whyNot_18 : decode cX11_whyNot 18 = .ok (.aload_n 0, 1) := by decide +kernel
theorem dX11_whyNot_19 : decode cX11_whyNot 19 = .ok (.getfield 82, 3) := by decide +kernel
theorem dX11_whyNot_22 : decode cX11_whyNot 22 = .ok (.iconst 3, 1) := by decide +kernel
theorem dX11_whyNot_23 : decode cX11_whyNot 23 = .ok (.iload_n 1, 1) := by decide +kernel
theorem dX11_whyNot_24 : decode cX11_whyNot 24 = .ok (.iadd, 1) := by decide +kernel
theorem dX11_whyNot_25 : decode cX11_whyNot 25 = .ok (.iaload, 1) := by decide +kernel
theorem dX11_whyNot_26 : decode cX11_whyNot 26 = .ok (.ifCond .le 5, 3) := by decide +kernel
theorem dX11_whyNot_29 : decode cX11_whyNot 29 = .ok (.iconst (-1), 1) := by decide +kernel
theorem dX11_whyNot_30 : decode cX11_whyNot 30 = .ok (.ireturn, 1) := by decide +kernel
theorem dX11_whyNot_31 : decode cX11_whyNot 31 = .ok (.aload_n 0, 1) := by decide +kernel
theorem dX11_whyNot_32 : decode cX11_whyNot 32 = .ok (.invokevirtual 211, 3) := by decide +kernel
theorem dX11_whyNot_35 : decode cX11_whyNot 35 = .ok (.bipush 40, 2) := by decide +kernel
theorem dX11_whyNot_37 : decode cX11_whyNot 37 = .ok (.if_icmp .ne 8, 3) := by decide +kernel
theorem dX11_whyNot_40 : decode cX11_whyNot 40 = .ok (.bipush (-2), 2) := by decide +kernel
theorem dX11_whyNot_42 : decode cX11_whyNot 42 = .ok (.goto 4, 3) := by decide +kernel
theorem dX11_whyNot_45 : decode cX11_whyNot 45 = .ok (.iconst 0, 1) := by decide +kernel
theorem dX11_whyNot_46 : decode cX11_whyNot 46 = .ok (.ireturn, 1) := by decide +kernel
theorem dX11_tells_0 : decode cX11_tells 0 = .ok (.aload_n 0, 1) := by decide +kernel
theorem dX11_tells_1 : decode cX11_tells 1 = .ok (.getfield 82, 3) := by decide +kernel
theorem dX11_tells_4 : decode cX11_tells 4 = .ok (.iconst 3, 1) := by decide +kernel
theorem dX11_tells_5 : decode cX11_tells 5 = .ok (.iload_n 1, 1) := by decide +kernel
theorem dX11_tells_6 : decode cX11_tells 6 = .ok (.iadd, 1) := by decide +kernel
theorem dX11_tells_7 : decode cX11_tells 7 = .ok (.iload_n 2, 1) := by decide +kernel
theorem dX11_tells_8 : decode cX11_tells 8 = .ok (.iastore, 1) := by decide +kernel
theorem dX11_tells_9 : decode cX11_tells 9 = .ok (.aload_n 0, 1) := by decide +kernel
theorem dX11_tells_10 : decode cX11_tells 10 = .ok (.getfield 82, 3) := by decide +kernel
theorem dX11_tells_13 : decode cX11_tells 13 = .ok (.sipush 243, 3) := by decide +kernel
theorem dX11_tells_16 : decode cX11_tells 16 = .ok (.iload_n 1, 1) := by decide +kernel
theorem dX11_tells_17 : decode cX11_tells 17 = .ok (.iadd, 1) := by decide +kernel
theorem dX11_tells_18 : decode cX11_tells 18 = .ok (.iload_n 2, 1) := by decide +kernel
theorem dX11_tells_19 : decode cX11_tells 19 = .ok (.ifCond .ne 7, 3) := by decide +kernel
theorem dX11_tells_22 : decode cX11_tells 22 = .ok (.iconst 0, 1) := by decide +kernel
theorem dX11_tells_23 : decode cX11_tells 23 = .ok (.goto 9, 3) := by decide +kernel
theorem dX11_tells_26 : decode cX11_tells 26 = .ok (.aload_n 0, 1) := by decide +kernel
theorem dX11_tells_27 : decode cX11_tells 27 = .ok (.getfield 82, 3) := by decide +kernel
theorem dX11_tells_30 : decode cX11_tells 30 = .ok (.iconst 0, 1) := by decide +kernel
theorem dX11_tells_31 : decode cX11_tells 31 = .ok (.iaload, 1) := by decide +kernel
theorem dX11_tells_32 : decode cX11_tells 32 = .ok (.iastore, 1) := by decide +kernel
theorem dX11_tells_33 : decode cX11_tells 33 = .ok (.return_, 1) := by decide +kernel
set_option maxRecDepth 20000 in
theorem ggX11_would_X11_isOf : GoodIn wsX11_would wsX11_isOf := goodIn_r _ [7, 8, 9, 10, 6, 11, 2, 12, 13, 14, 15, 16, 17, 18, 19, 20, 21, 22, 89, 90, 91, 92, 93, 94, 95, 96, 97, 98, 99, 100, 101, 102, 103, 104, 105, 106, 107, 108, 109, 110] (by decide +kernel) (by decide +kernel)
set_option maxRecDepth 20000 in
theorem gX11_would_X11_isOf : GoodIn wsX11_would (wsV RX11 223 RX11 yX11_isOf wsX11_isOf) := goodIn_app (goodIn_of _ (by decide +kernel)) ggX11_would_X11_isOf
set_option maxRecDepth 20000 in
theorem ggX11_would_X11_whyNot : GoodIn wsX11_would wsX11_whyNot := goodIn_r _ [26, 2, 27, 28, 6, 29, 12, 13, 14, 30, 31, 32, 33, 89, 90, 91, 92, 93, 94, 95, 96, 97, 98, 99, 100, 101, 102, 103, 104, 105, 106, 107, 108, 109, 110] (by decide +kernel) (by decide +kernel)
set_option maxRecDepth 20000 in
theorem gX11_would_X11_whyNot : GoodIn wsX11_would (wsV RX11 243 RX11 yX11_whyNot wsX11_whyNot) := goodIn_app (goodIn_of _ (by decide +kernel)) ggX11_would_X11_whyNot
set_option maxRecDepth 20000 in
theorem ggX11_would_X11_tells : GoodIn wsX11_would wsX11_tells := goodIn_r _ [37, 2, 89, 90, 91, 92, 93, 94, 95, 96, 97, 98, 99, 100, 101, 102, 103, 104, 105, 106, 107, 108, 109, 110] (by decide +kernel) (by decide +kernel)
set_option maxRecDepth 20000 in
theorem gX11_would_X11_tells : GoodIn wsX11_would (wsV RX11 246 RX11 yX11_tells wsX11_tells) := goodIn_app (goodIn_of _ (by decide +kernel)) ggX11_would_X11_tells
set_option maxRecDepth 20000 in
theorem ggX11_would_X11_laysRents : GoodIn wsX11_would wsX11_laysRents := goodIn_r _ [41, 42, 43, 44, 45, 46, 47, 48, 15, 16, 17, 6, 18, 2, 49, 50, 51, 52, 53, 54, 55, 56, 57, 58, 59, 60, 61, 62, 63, 64, 65, 66, 67, 68, 69, 70, 71, 72, 27, 28, 29, 12, 13, 14, 73, 74, 75, 76, 77, 78, 79, 80, 81, 82, 83, 84, 89, 90, 91, 92, 93, 94, 95, 96, 97, 98, 99, 100, 101, 102, 103, 104, 105, 106, 107, 108, 109, 110] (by decide +kernel) (by decide +kernel)
set_option maxRecDepth 20000 in
theorem gX11_would_X11_laysRents : GoodIn wsX11_would (wsV RX11 226 RX11 yX11_laysRents wsX11_laysRents) := goodIn_app (goodIn_of _ (by decide +kernel)) ggX11_would_X11_laysRents
set_option maxRecDepth 20000 in
theorem ggX11_would_X11_rentLaid : GoodIn wsX11_would wsX11_rentLaid := goodIn_r _ [88, 42, 15, 16, 17, 6, 18, 2, 49, 50, 51, 52, 89, 90, 91, 92, 93, 94, 95, 96, 97, 98, 99, 100, 101, 102, 103, 104, 105, 106, 107, 108, 109, 110] (by decide +kernel) (by decide +kernel)
set_option maxRecDepth 20000 in
theorem gX11_would_X11_rentLaid : GoodIn wsX11_would (wsV RX11 208 RX11 yX11_rentLaid wsX11_rentLaid) := goodIn_app (goodIn_of _ (by decide +kernel)) ggX11_would_X11_rentLaid
theorem dX11_would_0 : decode cX11_would 0 = .ok (.aload_n 0, 1) := by decide +kernel
theorem dX11_would_1 : decode cX11_would 1 = .ok (.iconst 0, 1) := by decide +kernel
theorem dX11_would_2 : decode cX11_would 2 = .ok (.putfield 1, 3) := by decide +kernel
theorem dX11_would_5 : decode cX11_would 5 = .ok (.aload_n 0, 1) := by decide +kernel
theorem dX11_would_6 : decode cX11_would 6 = .ok (.iload_n 1, 1) := by decide +kernel
theorem dX11_would_7 : decode cX11_would 7 = .ok (.aload_n 0, 1) := by decide +kernel
theorem dX11_would_8 : decode cX11_would 8 = .ok (.getfield 82, 3) := by decide +kernel
theorem dX11_would_11 : decode cX11_would 11 = .ok (.iconst 0, 1) := by decide +kernel
theorem dX11_would_12 : decode cX11_would 12 = .ok (.iaload, 1) := by decide +kernel
theorem dX11_would_13 : decode cX11_would 13 = .ok (.invokevirtual 223, 3) := by decide +kernel
theorem dX11_would_16 : decode cX11_would 16 = .ok (.ifCond .ne 5, 3) := by decide +kernel
theorem dX11_would_19 : decode cX11_would 19 = .ok (.iconst (-1), 1) := by decide +kernel
theorem dX11_would_20 : decode cX11_would 20 = .ok (.ireturn, 1) := by decide +kernel
theorem dX11_would_21 : decode cX11_would 21 = .ok (.aload_n 0, 1) := by decide +kernel
theorem dX11_would_22 : decode cX11_would 22 = .ok (.iload_n 2, 1) := by decide +kernel
theorem dX11_would_23 : decode cX11_would 23 = .ok (.iload_n 3, 1) := by decide +kernel
theorem dX11_would_24 : decode cX11_would 24 = .ok (.invokevirtual 243, 3) := by decide +kernel
theorem dX11_would_27 : decode cX11_would 27 = .ok (.ifCond .ge 10, 3) := by decide +kernel
theorem dX11_would_30 : decode cX11_would 30 = .ok (.aload_n 0, 1) := by decide +kernel
theorem dX11_would_31 : decode cX11_would 31 = .ok (.iload_n 2, 1) := by decide +kernel
theorem dX11_would_32 : decode cX11_would 32 = .ok (.iload_n 3, 1) := by decide +kernel
theorem dX11_would_33 : decode cX11_would 33 = .ok (.invokevirtual 243, 3) := by decide +kernel
theorem dX11_would_36 : decode cX11_would 36 = .ok (.ireturn, 1) := by decide +kernel
theorem dX11_would_37 : decode cX11_would 37 = .ok (.aload_n 0, 1) := by decide +kernel
theorem dX11_would_38 : decode cX11_would 38 = .ok (.iload_n 2, 1) := by decide +kernel
theorem dX11_would_39 : decode cX11_would 39 = .ok (.iload_n 3, 1) := by decide +kernel
theorem dX11_would_40 : decode cX11_would 40 = .ok (.invokevirtual 246, 3) := by decide +kernel
theorem dX11_would_43 : decode cX11_would 43 = .ok (.aload_n 0, 1) := by decide +kernel
theorem dX11_would_44 : decode cX11_would 44 = .ok (.iload_n 1, 1) := by decide +kernel
theorem dX11_would_45 : decode cX11_would 45 = .ok (.aload_n 0, 1) := by decide +kernel
theorem dX11_would_46 : decode cX11_would 46 = .ok (.getfield 82, 3) := by decide +kernel
theorem dX11_would_49 : decode cX11_would 49 = .ok (.iconst 0, 1) := by decide +kernel
theorem dX11_would_50 : decode cX11_would 50 = .ok (.iaload, 1) := by decide +kernel
theorem dX11_would_51 : decode cX11_would 51 = .ok (.invokevirtual 226, 3) := by decide +kernel
theorem dX11_would_54 : decode cX11_would 54 = .ok (.aload_n 0, 1) := by decide +kernel
theorem dX11_would_55 : decode cX11_would 55 = .ok (.iload_n 2, 1) := by decide +kernel
theorem dX11_would_56 : decode cX11_would 56 = .ok (.iconst 0, 1) := by decide +kernel
theorem dX11_would_57 : decode cX11_would 57 = .ok (.invokevirtual 246, 3) := by decide +kernel
theorem dX11_would_60 : decode cX11_would 60 = .ok (.aload_n 0, 1) := by decide +kernel
theorem dX11_would_61 : decode cX11_would 61 = .ok (.iload_n 1, 1) := by decide +kernel
theorem dX11_would_62 : decode cX11_would 62 = .ok (.aload_n 0, 1) := by decide +kernel
theorem dX11_would_63 : decode cX11_would 63 = .ok (.getfield 82, 3) := by decide +kernel
theorem dX11_would_66 : decode cX11_would 66 = .ok (.iconst 0, 1) := by decide +kernel
theorem dX11_would_67 : decode cX11_would 67 = .ok (.iaload, 1) := by decide +kernel
theorem dX11_would_68 : decode cX11_would 68 = .ok (.invokevirtual 208, 3) := by decide +kernel
theorem dX11_would_71 : decode cX11_would 71 = .ok (.ireturn, 1) := by decide +kernel
theorem dX11_snap_0 : decode cX11_snap 0 = .ok (.aload_n 0, 1) := by decide +kernel
theorem dX11_snap_1 : decode cX11_snap 1 = .ok (.getfield 160, 3) := by decide +kernel
theorem dX11_snap_4 : decode cX11_snap 4 = .ok (.bipush 10, 2) := by decide +kernel
theorem dX11_snap_6 : decode cX11_snap 6 = .ok (.if_icmp .ne 44, 3) := by decide +kernel
theorem dX11_snap_9 : decode cX11_snap 9 = .ok (.iconst 0, 1) := by decide +kernel
theorem dX11_snap_10 : decode cX11_snap 10 = .ok (.istore_n 1, 1) := by decide +kernel
theorem dX11_snap_11 : decode cX11_snap 11 = .ok (.iload_n 1, 1) := by decide +kernel
theorem dX11_snap_12 : decode cX11_snap 12 = .ok (.sipush 31347, 3) := by decide +kernel
theorem dX11_snap_15 : decode cX11_snap 15 = .ok (.if_icmp .ge 25, 3) := by decide +kernel
theorem dX11_snap_18 : decode cX11_snap 18 = .ok (.aload_n 0, 1) := by decide +kernel
theorem dX11_snap_19 : decode cX11_snap 19 = .ok (.getfield 89, 3) := by decide +kernel
theorem dX11_snap_22 : decode cX11_snap 22 = .ok (.iload_n 1, 1) := by decide +kernel
theorem dX11_snap_23 : decode cX11_snap 23 = .ok (.aload_n 0, 1) := by decide +kernel
theorem dX11_snap_24 : decode cX11_snap 24 = .ok (.getfield 89, 3) := by decide +kernel
theorem dX11_snap_27 : decode cX11_snap 27 = .ok (.iload_n 1, 1) := by decide +kernel
theorem dX11_snap_28 : decode cX11_snap 28 = .ok (.sipush 3483, 3) := by decide +kernel
theorem dX11_snap_31 : decode cX11_snap 31 = .ok (.iadd, 1) := by decide +kernel
theorem dX11_snap_32 : decode cX11_snap 32 = .ok (.iaload, 1) := by decide +kernel
theorem dX11_snap_33 : decode cX11_snap 33 = .ok (.iastore, 1) := by decide +kernel
theorem dX11_snap_34 : decode cX11_snap 34 = .ok (.iinc 1 1, 3) := by decide +kernel
theorem dX11_snap_37 : decode cX11_snap 37 = .ok (.goto (-26), 3) := by decide +kernel
theorem dX11_snap_40 : decode cX11_snap 40 = .ok (.aload_n 0, 1) := by decide +kernel
theorem dX11_snap_41 : decode cX11_snap 41 = .ok (.dup, 1) := by decide +kernel
theorem dX11_snap_42 : decode cX11_snap 42 = .ok (.getfield 160, 3) := by decide +kernel
theorem dX11_snap_45 : decode cX11_snap 45 = .ok (.iconst 1, 1) := by decide +kernel
theorem dX11_snap_46 : decode cX11_snap 46 = .ok (.isub, 1) := by decide +kernel
theorem dX11_snap_47 : decode cX11_snap 47 = .ok (.putfield 160, 3) := by decide +kernel
theorem dX11_snap_50 : decode cX11_snap 50 = .ok (.iconst 0, 1) := by decide +kernel
theorem dX11_snap_51 : decode cX11_snap 51 = .ok (.istore_n 1, 1) := by decide +kernel
theorem dX11_snap_52 : decode cX11_snap 52 = .ok (.iload_n 1, 1) := by decide +kernel
theorem dX11_snap_53 : decode cX11_snap 53 = .ok (.sipush 3483, 3) := by decide +kernel
theorem dX11_snap_56 : decode cX11_snap 56 = .ok (.if_icmp .ge 30, 3) := by decide +kernel
theorem dX11_snap_59 : decode cX11_snap 59 = .ok (.aload_n 0, 1) := by decide +kernel
theorem dX11_snap_60 : decode cX11_snap 60 = .ok (.getfield 89, 3) := by decide +kernel
theorem dX11_snap_63 : decode cX11_snap 63 = .ok (.sipush 3483, 3) := by decide +kernel
theorem dX11_snap_66 : decode cX11_snap 66 = .ok (.aload_n 0, 1) := by decide +kernel
theorem dX11_snap_67 : decode cX11_snap 67 = .ok (.getfield 160, 3) := by decide +kernel
theorem dX11_snap_70 : decode cX11_snap 70 = .ok (.imul, 1) := by decide +kernel
theorem dX11_snap_71 : decode cX11_snap 71 = .ok (.iload_n 1, 1) := by decide +kernel
theorem dX11_snap_72 : decode cX11_snap 72 = .ok (.iadd, 1) := by decide +kernel
theorem dX11_snap_73 : decode cX11_snap 73 = .ok (.aload_n 0, 1) := by decide +kernel
theorem dX11_snap_74 : decode cX11_snap 74 = .ok (.getfield 82, 3) := by decide +kernel
theorem dX11_snap_77 : decode cX11_snap 77 = .ok (.iload_n 1, 1) := by decide +kernel
theorem dX11_snap_78 : decode cX11_snap 78 = .ok (.iaload, 1) := by decide +kernel
theorem dX11_snap_79 : decode cX11_snap 79 = .ok (.iastore, 1) := by decide +kernel
theorem dX11_snap_80 : decode cX11_snap 80 = .ok (.iinc 1 1, 3) := by decide +kernel
theorem dX11_snap_83 : decode cX11_snap 83 = .ok (.goto (-31), 3) := by decide +kernel
theorem dX11_snap_86 : decode cX11_snap 86 = .ok (.aload_n 0, 1) := by decide +kernel
theorem dX11_snap_87 : decode cX11_snap 87 = .ok (.dup, 1) := by decide +kernel
theorem dX11_snap_88 : decode cX11_snap 88 = .ok (.getfield 160, 3) := by decide +kernel
theorem dX11_snap_91 : decode cX11_snap 91 = .ok (.iconst 1, 1) := by decide +kernel
theorem dX11_snap_92 : decode cX11_snap 92 = .ok (.iadd, 1) := by decide +kernel
theorem dX11_snap_93 : decode cX11_snap 93 = .ok (.putfield 160, 3) := by decide +kernel
theorem dX11_snap_96 : decode cX11_snap 96 = .ok (.return_, 1) := by decide +kernel
set_option maxRecDepth 20000 in
theorem ggX11_publish_X11_whyNot : GoodIn wsX11_publish wsX11_whyNot := goodIn_r _ [6, 7, 8, 9, 5, 10, 11, 12, 13, 14, 15, 16, 17, 28, 29, 30, 31, 32, 33, 34, 35, 36, 37, 38, 39, 40, 41, 42, 43, 44, 45, 46, 47, 48, 49] (by decide +kernel) (by decide +kernel)
set_option maxRecDepth 20000 in
theorem gX11_publish_X11_whyNot : GoodIn wsX11_publish (wsV RX11 243 RX11 yX11_whyNot wsX11_whyNot) := goodIn_app (goodIn_of _ (by decide +kernel)) ggX11_publish_X11_whyNot
set_option maxRecDepth 20000 in
theorem ggX11_publish_X11_snap : GoodIn wsX11_publish wsX11_snap := goodIn_r _ [21, 22, 23, 7, 28, 29, 30, 31, 32, 33, 34, 35, 36, 37, 38, 39, 40, 41, 42, 43, 44, 45, 46, 47, 48, 49] (by decide +kernel) (by decide +kernel)
set_option maxRecDepth 20000 in
theorem gX11_publish_X11_snap : GoodIn wsX11_publish (wsV RX11 249 RX11 yX11_snap wsX11_snap) := goodIn_app (goodIn_of _ (by decide +kernel)) ggX11_publish_X11_snap
set_option maxRecDepth 20000 in
theorem ggX11_publish_X11_tells : GoodIn wsX11_publish wsX11_tells := goodIn_r _ [27, 7, 28, 29, 30, 31, 32, 33, 34, 35, 36, 37, 38, 39, 40, 41, 42, 43, 44, 45, 46, 47, 48, 49] (by decide +kernel) (by decide +kernel)
set_option maxRecDepth 20000 in
theorem gX11_publish_X11_tells : GoodIn wsX11_publish (wsV RX11 246 RX11 yX11_tells wsX11_tells) := goodIn_app (goodIn_of _ (by decide +kernel)) ggX11_publish_X11_tells
set_option maxRecDepth 20000 in
theorem ggX11_publish_X11_valueMany : GoodIn wsX11_publish wsX11_valueMany := goodIn_r _ [17, 7, 28, 29, 30, 31, 32, 33, 34, 35, 36, 37, 38, 39, 40, 41, 42, 43, 44, 45, 46, 47, 48, 49] (by decide +kernel) (by decide +kernel)
set_option maxRecDepth 20000 in
theorem gX11_publish_X11_valueMany : GoodIn wsX11_publish (wsV RX11 211 RX11 yX11_valueMany wsX11_valueMany) := goodIn_app (goodIn_of _ (by decide +kernel)) ggX11_publish_X11_valueMany
theorem dX11_publish_0 : decode cX11_publish 0 = .ok (.aload_n 0, 1) := by decide +kernel
theorem dX11_publish_1 : decode cX11_publish 1 = .ok (.iconst 0, 1) := by decide +kernel
theorem dX11_publish_2 : decode cX11_publish 2 = .ok (.putfield 1, 3) := by decide +kernel
theorem dX11_publish_5 : decode cX11_publish 5 = .ok (.aload_n 0, 1) := by decide +kernel
theorem dX11_publish_6 : decode cX11_publish 6 = .ok (.iload_n 1, 1) := by decide +kernel
theorem dX11_publish_7 : decode cX11_publish 7 = .ok (.iload_n 2, 1) := by decide +kernel
theorem dX11_publish_8 : decode cX11_publish 8 = .ok (.invokevirtual 243, 3) := by decide +kernel
theorem dX11_publish_11 : decode cX11_publish 11 = .ok (.ifCond .ge 10, 3) := by decide +kernel
theorem dX11_publish_14 : decode cX11_publish 14 = .ok (.aload_n 0, 1) := by decide +kernel
theorem dX11_publish_15 : decode cX11_publish 15 = .ok (.iload_n 1, 1) := by decide +kernel
theorem dX11_publish_16 : decode cX11_publish 16 = .ok (.iload_n 2, 1) := by decide +kernel
theorem dX11_publish_17 : decode cX11_publish 17 = .ok (.invokevirtual 243, 3) := by decide +kernel
theorem dX11_publish_20 : decode cX11_publish 20 = .ok (.ireturn, 1) := by decide +kernel
theorem dX11_publish_21 : decode cX11_publish 21 = .ok (.aload_n 0, 1) := by decide +kernel
theorem dX11_publish_22 : decode cX11_publish 22 = .ok (.invokevirtual 249, 3) := by decide +kernel
theorem dX11_publish_25 : decode cX11_publish 25 = .ok (.aload_n 0, 1) := by decide +kernel
theorem dX11_publish_26 : decode cX11_publish 26 = .ok (.iload_n 1, 1) := by decide +kernel
theorem dX11_publish_27 : decode cX11_publish 27 = .ok (.iload_n 2, 1) := by decide +kernel
theorem dX11_publish_28 : decode cX11_publish 28 = .ok (.invokevirtual 246, 3) := by decide +kernel
theorem dX11_publish_31 : decode cX11_publish 31 = .ok (.aload_n 0, 1) := by decide +kernel
theorem dX11_publish_32 : decode cX11_publish 32 = .ok (.invokevirtual 211, 3) := by decide +kernel
theorem dX11_publish_35 : decode cX11_publish 35 = .ok (.ireturn, 1) := by decide +kernel
set_option maxRecDepth 20000 in
theorem ggX11_market_X11_isLease : GoodIn wsX11_market wsX11_isLease := goodIn_r _ [8, 3, 9, 10, 7, 11, 30, 31, 32, 33, 34, 35, 36, 37, 38, 39, 40, 41, 42, 43, 44, 45, 46, 47, 48, 49, 50, 51] (by decide +kernel) (by decide +kernel)
set_option maxRecDepth 20000 in
theorem gX11_market_X11_isLease : GoodIn wsX11_market (wsV RX11 214 RX11 yX11_isLease wsX11_isLease) := goodIn_app (goodIn_of _ (by decide +kernel)) ggX11_market_X11_isLease
set_option maxRecDepth 20000 in
theorem ggX11_market_X11_its : GoodIn wsX11_market wsX11_its := goodIn_r _ [15, 3, 30, 31, 32, 33, 34, 35, 36, 37, 38, 39, 40, 41, 42, 43, 44, 45, 46, 47, 48, 49, 50, 51] (by decide +kernel) (by decide +kernel)
set_option maxRecDepth 20000 in
theorem gX11_market_X11_its : GoodIn wsX11_market (wsV RX11 163 RX11 yX11_its wsX11_its) := goodIn_app (goodIn_of _ (by decide +kernel)) ggX11_market_X11_its
set_option maxRecDepth 20000 in
theorem ggX11_market_X11_reviewsOf : GoodIn wsX11_market wsX11_reviewsOf := goodIn_r _ [19, 12, 13, 14, 7, 15, 3, 30, 31, 32, 33, 34, 35, 36, 37, 38, 39, 40, 41, 42, 43, 44, 45, 46, 47, 48, 49, 50, 51] (by decide +kernel) (by decide +kernel)
set_option maxRecDepth 20000 in
theorem gX11_market_X11_reviewsOf : GoodIn wsX11_market (wsV RX11 199 RX11 yX11_reviewsOf wsX11_reviewsOf) := goodIn_app (goodIn_of _ (by decide +kernel)) ggX11_market_X11_reviewsOf
set_option maxRecDepth 20000 in
theorem ggX11_market_X11_isIn : GoodIn wsX11_market wsX11_isIn := goodIn_r _ [11] (by decide +kernel) (by decide +kernel)
set_option maxRecDepth 20000 in
theorem gX11_market_X11_isIn : GoodIn wsX11_market (va_wsS RX11 114 yX11_isIn wsX11_isIn) := goodIn_app (goodIn_of _ (by decide +kernel)) ggX11_market_X11_isIn
set_option maxRecDepth 20000 in
theorem ggX11_market_X11_snap : GoodIn wsX11_market wsX11_snap := goodIn_r _ [23, 24, 25, 3, 30, 31, 32, 33, 34, 35, 36, 37, 38, 39, 40, 41, 42, 43, 44, 45, 46, 47, 48, 49, 50, 51] (by decide +kernel) (by decide +kernel)
set_option maxRecDepth 20000 in
theorem gX11_market_X11_snap : GoodIn wsX11_market (wsV RX11 249 RX11 yX11_snap wsX11_snap) := goodIn_app (goodIn_of _ (by decide +kernel)) ggX11_market_X11_snap
set_option maxRecDepth 20000 in
theorem ggX11_market_X11_monthOf : GoodIn wsX11_market wsX11_monthOf := goodIn_r _ [29, 12, 13, 14, 7, 15, 3, 30, 31, 32, 33, 34, 35, 36, 37, 38, 39, 40, 41, 42, 43, 44, 45, 46, 47, 48, 49, 50, 51] (by decide +kernel) (by decide +kernel)
set_option maxRecDepth 20000 in
theorem gX11_market_X11_monthOf : GoodIn wsX11_market (wsV RX11 184 RX11 yX11_monthOf wsX11_monthOf) := goodIn_app (goodIn_of _ (by decide +kernel)) ggX11_market_X11_monthOf
theorem dX11_market_0 : decode cX11_market 0 = .ok (.aload_n 0, 1) := by decide +kernel
theorem dX11_market_1 : decode cX11_market 1 = .ok (.iconst 0, 1) := by decide +kernel
theorem dX11_market_2 : decode cX11_market 2 = .ok (.putfield 1, 3) := by decide +kernel
theorem dX11_market_5 : decode cX11_market 5 = .ok (.aload_n 0, 1) := by decide +kernel
theorem dX11_market_6 : decode cX11_market 6 = .ok (.iload_n 1, 1) := by decide +kernel
theorem dX11_market_7 : decode cX11_market 7 = .ok (.invokevirtual 214, 3) := by decide +kernel
theorem dX11_market_10 : decode cX11_market 10 = .ok (.ifCond .eq 48, 3) := by decide +kernel
theorem dX11_market_13 : decode cX11_market 13 = .ok (.aload_n 0, 1) := by decide +kernel
theorem dX11_market_14 : decode cX11_market 14 = .ok (.iload_n 1, 1) := by decide +kernel
theorem dX11_market_15 : decode cX11_market 15 = .ok (.iconst 5, 1) := by decide +kernel
theorem dX11_market_16 : decode cX11_market 16 = .ok (.invokevirtual 163, 3) := by decide +kernel
theorem dX11_market_19 : decode cX11_market 19 = .ok (.iconst 2, 1) := by decide +kernel
theorem dX11_market_20 : decode cX11_market 20 = .ok (.if_icmp .ne 38, 3) := by decide +kernel
theorem dX11_market_23 : decode cX11_market 23 = .ok (.iload_n 2, 1) := by decide +kernel
theorem dX11_market_24 : decode cX11_market 24 = .ok (.iconst 1, 1) := by decide +kernel
theorem dX11_market_25 : decode cX11_market 25 = .ok (.aload_n 0, 1) := by decide +kernel
theorem dX11_market_26 : decode cX11_market 26 = .ok (.iload_n 1, 1) := by decide +kernel
theorem dX11_market_27 : decode cX11_market 27 = .ok (.invokevirtual 199, 3) := by decide +kernel
theorem dX11_market_30 : decode cX11_market 30 = .ok (.invokestatic 114, 3) := by decide +kernel
theorem dX11_market_33 : decode cX11_market 33 = .ok (.ifCond .eq 25, 3) := by decide +kernel
theorem dX11_market_36 : decode cX11_market 36 = .ok (.iload_n 3, 1) := by decide +kernel
theorem dX11_market_37 : decode cX11_market 37 = .ok (.iconst 1, 1) := by decide +kernel
theorem dX11_market_38 : decode cX11_market 38 = .ok (.ldc 131, 2) := by decide +kernel
theorem dX11_market_40 : decode cX11_market 40 = .ok (.invokestatic 114, 3) := by decide +kernel
theorem dX11_market_43 : decode cX11_market 43 = .ok (.ifCond .eq 15, 3) := by decide +kernel
theorem dX11_market_46 : decode cX11_market 46 = .ok (.aload_n 0, 1) := by decide +kernel
theorem dX11_market_47 : decode cX11_market 47 = .ok (.iload_n 1, 1) := by decide +kernel
theorem dX11_market_48 : decode cX11_market 48 = .ok (.bipush 20, 2) := by decide +kernel
theorem dX11_market_50 : decode cX11_market 50 = .ok (.iload_n 2, 1) := by decide +kernel
theorem dX11_market_51 : decode cX11_market 51 = .ok (.iadd, 1) := by decide +kernel
theorem dX11_market_52 : decode cX11_market 52 = .ok (.invokevirtual 163, 3) := by decide +kernel
theorem dX11_market_55 : decode cX11_market 55 = .ok (.ifCond .le 5, 3) := by decide +kernel
theorem dX11_market_58 : decode cX11_market 58 = .ok (.iconst (-1), 1) := by decide +kernel
theorem dX11_market_59 : decode cX11_market 59 = .ok (.ireturn, 1) := by decide +kernel
theorem dX11_market_60 : decode cX11_market 60 = .ok (.aload_n 0, 1) := by decide +kernel
theorem dX11_market_61 : decode cX11_market 61 = .ok (.invokevirtual 249, 3) := by decide +kernel
theorem dX11_market_64 : decode cX11_market 64 = .ok (.aload_n 0, 1) := by decide +kernel
theorem dX11_market_65 : decode cX11_market 65 = .ok (.getfield 82, 3) := by decide +kernel
theorem dX11_market_68 : decode cX11_market 68 = .ok (.sipush 483, 3) := by decide +kernel
theorem dX11_market_71 : decode cX11_market 71 = .ok (.sipush 500, 3) := by decide +kernel
theorem dX11_market_74 : decode cX11_market 74 = .ok (.iload_n 1, 1) := by decide +kernel
theorem dX11_market_75 : decode cX11_market 75 = .ok (.imul, 1) := by decide +kernel
theorem dX11_market_76 : decode cX11_market 76 = .ok (.iadd, 1) := by decide +kernel
theorem dX11_market_77 : decode cX11_market 77 = .ok (.bipush 20, 2) := by decide +kernel
theorem dX11_market_79 : decode cX11_market 79 = .ok (.iadd, 1) := by decide +kernel
theorem dX11_market_80 : decode cX11_market 80 = .ok (.iload_n 2, 1) := by decide +kernel
theorem dX11_market_81 : decode cX11_market 81 = .ok (.iadd, 1) := by decide +kernel
theorem dX11_market_82 : decode cX11_market 82 = .ok (.iload_n 3, 1) := by decide +kernel
theorem dX11_market_83 : decode cX11_market 83 = .ok (.iastore, 1) := by decide +kernel
theorem dX11_market_84 : decode cX11_market 84 = .ok (.aload_n 0, 1) := by decide +kernel
theorem dX11_market_85 : decode cX11_market 85 = .ok (.getfield 82, 3) := by decide +kernel
theorem dX11_market_88 : decode cX11_market 88 = .ok (.sipush 483, 3) := by decide +kernel
theorem dX11_market_91 : decode cX11_market 91 = .ok (.sipush 500, 3) := by decide +kernel
theorem dX11_market_94 : decode cX11_market 94 = .ok (.iload_n 1, 1) := by decide +kernel
theorem dX11_market_95 : decode cX11_market 95 = .ok (.imul, 1) := by decide +kernel
theorem dX11_market_96 : decode cX11_market 96 = .ok (.iadd, 1) := by decide +kernel
theorem dX11_market_97 : decode cX11_market 97 = .ok (.sipush 140, 3) := by decide +kernel
theorem dX11_market_100 : decode cX11_market 100 = .ok (.iadd, 1) := by decide +kernel
theorem dX11_market_101 : decode cX11_market 101 = .ok (.iload_n 2, 1) := by decide +kernel
theorem dX11_market_102 : decode cX11_market 102 = .ok (.iadd, 1) := by decide +kernel
theorem dX11_market_103 : decode cX11_market 103 = .ok (.aload_n 0, 1) := by decide +kernel
theorem dX11_market_104 : decode cX11_market 104 = .ok (.getfield 82, 3) := by decide +kernel
theorem dX11_market_107 : decode cX11_market 107 = .ok (.iconst 0, 1) := by decide +kernel
theorem dX11_market_108 : decode cX11_market 108 = .ok (.iaload, 1) := by decide +kernel
theorem dX11_market_109 : decode cX11_market 109 = .ok (.iastore, 1) := by decide +kernel
theorem dX11_market_110 : decode cX11_market 110 = .ok (.aload_n 0, 1) := by decide +kernel
theorem dX11_market_111 : decode cX11_market 111 = .ok (.iload_n 1, 1) := by decide +kernel
theorem dX11_market_112 : decode cX11_market 112 = .ok (.iload_n 2, 1) := by decide +kernel
theorem dX11_market_113 : decode cX11_market 113 = .ok (.invokevirtual 184, 3) := by decide +kernel
theorem dX11_market_116 : decode cX11_market 116 = .ok (.ireturn, 1) := by decide +kernel
set_option maxRecDepth 20000 in
theorem ggX11_turnover_X11_isOf : GoodIn wsX11_turnover wsX11_isOf := goodIn_r _ [8, 9, 10, 11, 7, 12, 3, 13, 14, 15, 16, 17, 18, 19, 20, 21, 22, 23, 30, 31, 32, 33, 34, 35, 36, 37, 38, 39, 40, 41, 42, 43, 44, 45, 46, 47, 48, 49, 50, 51] (by decide +kernel) (by decide +kernel)
set_option maxRecDepth 20000 in
theorem gX11_turnover_X11_isOf : GoodIn wsX11_turnover (wsV RX11 223 RX11 yX11_isOf wsX11_isOf) := goodIn_app (goodIn_of _ (by decide +kernel)) ggX11_turnover_X11_isOf
set_option maxRecDepth 20000 in
theorem ggX11_turnover_X11_its : GoodIn wsX11_turnover wsX11_its := goodIn_r _ [19, 3, 30, 31, 32, 33, 34, 35, 36, 37, 38, 39, 40, 41, 42, 43, 44, 45, 46, 47, 48, 49, 50, 51] (by decide +kernel) (by decide +kernel)
set_option maxRecDepth 20000 in
theorem gX11_turnover_X11_its : GoodIn wsX11_turnover (wsV RX11 163 RX11 yX11_its wsX11_its) := goodIn_app (goodIn_of _ (by decide +kernel)) ggX11_turnover_X11_its
set_option maxRecDepth 20000 in
theorem ggX11_turnover_X11_isIn : GoodIn wsX11_turnover wsX11_isIn := goodIn_r _ [15] (by decide +kernel) (by decide +kernel)
set_option maxRecDepth 20000 in
theorem gX11_turnover_X11_isIn : GoodIn wsX11_turnover (va_wsS RX11 114 yX11_isIn wsX11_isIn) := goodIn_app (goodIn_of _ (by decide +kernel)) ggX11_turnover_X11_isIn
set_option maxRecDepth 20000 in
theorem ggX11_turnover_X11_snap : GoodIn wsX11_turnover wsX11_snap := goodIn_r _ [27, 28, 29, 3, 30, 31, 32, 33, 34, 35, 36, 37, 38, 39, 40, 41, 42, 43, 44, 45, 46, 47, 48, 49, 50, 51] (by decide +kernel) (by decide +kernel)
set_option maxRecDepth 20000 in
theorem gX11_turnover_X11_snap : GoodIn wsX11_turnover (wsV RX11 249 RX11 yX11_snap wsX11_snap) := goodIn_app (goodIn_of _ (by decide +kernel)) ggX11_turnover_X11_snap
theorem dX11_turnover_0 : decode cX11_turnover 0 = .ok (.aload_n 0, 1) := by decide +kernel
theorem dX11_turnover_1 : decode cX11_turnover 1 = .ok (.iconst 0, 1) := by decide +kernel
theorem dX11_turnover_2 : decode cX11_turnover 2 = .ok (.putfield 1, 3) := by decide +kernel
theorem dX11_turnover_5 : decode cX11_turnover 5 = .ok (.aload_n 0, 1) := by decide +kernel
theorem dX11_turnover_6 : decode cX11_turnover 6 = .ok (.iload_n 1, 1) := by decide +kernel
theorem dX11_turnover_7 : decode cX11_turnover 7 = .ok (.iload_n 2, 1) := by decide +kernel
theorem dX11_turnover_8 : decode cX11_turnover 8 = .ok (.invokevirtual 223, 3) := by decide +kernel
theorem dX11_turnover_11 : decode cX11_turnover 11 = .ok (.ifCond .eq 43, 3) := by decide +kernel
theorem dX11_turnover_14 : decode cX11_turnover 14 = .ok (.aload_n 0, 1) := by decide +kernel
theorem dX11_turnover_15 : decode cX11_turnover 15 = .ok (.iload_n 1, 1) := by decide +kernel
theorem dX11_turnover_16 : decode cX11_turnover 16 = .ok (.iconst 5, 1) := by decide +kernel
theorem dX11_turnover_17 : decode cX11_turnover 17 = .ok (.invokevirtual 163, 3) := by decide +kernel
theorem dX11_turnover_20 : decode cX11_turnover 20 = .ok (.iconst 3, 1) := by decide +kernel
theorem dX11_turnover_21 : decode cX11_turnover 21 = .ok (.if_icmp .ne 33, 3) := by decide +kernel
theorem dX11_turnover_24 : decode cX11_turnover 24 = .ok (.iload_n 3, 1) := by decide +kernel
theorem dX11_turnover_25 : decode cX11_turnover 25 = .ok (.iconst 0, 1) := by decide +kernel
theorem dX11_turnover_26 : decode cX11_turnover 26 = .ok (.ldc 252, 2) := by decide +kernel
theorem dX11_turnover_28 : decode cX11_turnover 28 = .ok (.invokestatic 114, 3) := by decide +kernel
theorem dX11_turnover_31 : decode cX11_turnover 31 = .ok (.ifCond .eq 23, 3) := by decide +kernel
theorem dX11_turnover_34 : decode cX11_turnover 34 = .ok (.aload_n 0, 1) := by decide +kernel
theorem dX11_turnover_35 : decode cX11_turnover 35 = .ok (.iload_n 1, 1) := by decide +kernel
theorem dX11_turnover_36 : decode cX11_turnover 36 = .ok (.sipush 260, 3) := by decide +kernel
theorem dX11_turnover_39 : decode cX11_turnover 39 = .ok (.iload_n 2, 1) := by decide +kernel
theorem dX11_turnover_40 : decode cX11_turnover 40 = .ok (.iadd, 1) := by decide +kernel
theorem dX11_turnover_41 : decode cX11_turnover 41 = .ok (.aload_n 0, 1) := by decide +kernel
theorem dX11_turnover_42 : decode cX11_turnover 42 = .ok (.iload_n 1, 1) := by decide +kernel
theorem dX11_turnover_43 : decode cX11_turnover 43 = .ok (.iconst 0, 1) := by decide +kernel
theorem dX11_turnover_44 : decode cX11_turnover 44 = .ok (.invokevirtual 163, 3) := by decide +kernel
theorem dX11_turnover_47 : decode cX11_turnover 47 = .ok (.isub, 1) := by decide +kernel
theorem dX11_turnover_48 : decode cX11_turnover 48 = .ok (.invokevirtual 163, 3) := by decide +kernel
theorem dX11_turnover_51 : decode cX11_turnover 51 = .ok (.ifCond .le 5, 3) := by decide +kernel
theorem dX11_turnover_54 : decode cX11_turnover 54 = .ok (.iconst 0, 1) := by decide +kernel
theorem dX11_turnover_55 : decode cX11_turnover 55 = .ok (.ireturn, 1) := by decide +kernel
theorem dX11_turnover_56 : decode cX11_turnover 56 = .ok (.aload_n 0, 1) := by decide +kernel
theorem dX11_turnover_57 : decode cX11_turnover 57 = .ok (.invokevirtual 249, 3) := by decide +kernel
theorem dX11_turnover_60 : decode cX11_turnover 60 = .ok (.aload_n 0, 1) := by decide +kernel
theorem dX11_turnover_61 : decode cX11_turnover 61 = .ok (.getfield 82, 3) := by decide +kernel
theorem dX11_turnover_64 : decode cX11_turnover 64 = .ok (.sipush 483, 3) := by decide +kernel
theorem dX11_turnover_67 : decode cX11_turnover 67 = .ok (.sipush 500, 3) := by decide +kernel
theorem dX11_turnover_70 : decode cX11_turnover 70 = .ok (.iload_n 1, 1) := by decide +kernel
theorem dX11_turnover_71 : decode cX11_turnover 71 = .ok (.imul, 1) := by decide +kernel
theorem dX11_turnover_72 : decode cX11_turnover 72 = .ok (.iadd, 1) := by decide +kernel
theorem dX11_turnover_73 : decode cX11_turnover 73 = .ok (.sipush 260, 3) := by decide +kernel
theorem dX11_turnover_76 : decode cX11_turnover 76 = .ok (.iadd, 1) := by decide +kernel
theorem dX11_turnover_77 : decode cX11_turnover 77 = .ok (.iload_n 2, 1) := by decide +kernel
theorem dX11_turnover_78 : decode cX11_turnover 78 = .ok (.iadd, 1) := by decide +kernel
theorem dX11_turnover_79 : decode cX11_turnover 79 = .ok (.aload_n 0, 1) := by decide +kernel
theorem dX11_turnover_80 : decode cX11_turnover 80 = .ok (.iload_n 1, 1) := by decide +kernel
theorem dX11_turnover_81 : decode cX11_turnover 81 = .ok (.iconst 0, 1) := by decide +kernel
theorem dX11_turnover_82 : decode cX11_turnover 82 = .ok (.invokevirtual 163, 3) := by decide +kernel
theorem dX11_turnover_85 : decode cX11_turnover 85 = .ok (.isub, 1) := by decide +kernel
theorem dX11_turnover_86 : decode cX11_turnover 86 = .ok (.iload_n 3, 1) := by decide +kernel
theorem dX11_turnover_87 : decode cX11_turnover 87 = .ok (.iconst 1, 1) := by decide +kernel
theorem dX11_turnover_88 : decode cX11_turnover 88 = .ok (.iadd, 1) := by decide +kernel
theorem dX11_turnover_89 : decode cX11_turnover 89 = .ok (.iastore, 1) := by decide +kernel
theorem dX11_turnover_90 : decode cX11_turnover 90 = .ok (.aload_n 0, 1) := by decide +kernel
theorem dX11_turnover_91 : decode cX11_turnover 91 = .ok (.getfield 82, 3) := by decide +kernel
theorem dX11_turnover_94 : decode cX11_turnover 94 = .ok (.sipush 483, 3) := by decide +kernel
theorem dX11_turnover_97 : decode cX11_turnover 97 = .ok (.sipush 500, 3) := by decide +kernel
theorem dX11_turnover_100 : decode cX11_turnover 100 = .ok (.iload_n 1, 1) := by decide +kernel
theorem dX11_turnover_101 : decode cX11_turnover 101 = .ok (.imul, 1) := by decide +kernel
theorem dX11_turnover_102 : decode cX11_turnover 102 = .ok (.iadd, 1) := by decide +kernel
theorem dX11_turnover_103 : decode cX11_turnover 103 = .ok (.sipush 380, 3) := by decide +kernel
theorem dX11_turnover_106 : decode cX11_turnover 106 = .ok (.iadd, 1) := by decide +kernel
theorem dX11_turnover_107 : decode cX11_turnover 107 = .ok (.iload_n 2, 1) := by decide +kernel
theorem dX11_turnover_108 : decode cX11_turnover 108 = .ok (.iadd, 1) := by decide +kernel
theorem dX11_turnover_109 : decode cX11_turnover 109 = .ok (.aload_n 0, 1) := by decide +kernel
theorem dX11_turnover_110 : decode cX11_turnover 110 = .ok (.iload_n 1, 1) := by decide +kernel
theorem dX11_turnover_111 : decode cX11_turnover 111 = .ok (.iconst 0, 1) := by decide +kernel
theorem dX11_turnover_112 : decode cX11_turnover 112 = .ok (.invokevirtual 163, 3) := by decide +kernel
theorem dX11_turnover_115 : decode cX11_turnover 115 = .ok (.isub, 1) := by decide +kernel
theorem dX11_turnover_116 : decode cX11_turnover 116 = .ok (.aload_n 0, 1) := by decide +kernel
theorem dX11_turnover_117 : decode cX11_turnover 117 = .ok (.getfield 82, 3) := by decide +kernel
theorem dX11_turnover_120 : decode cX11_turnover 120 = .ok (.iconst 0, 1) := by decide +kernel
theorem dX11_turnover_121 : decode cX11_turnover 121 = .ok (.iaload, 1) := by decide +kernel
theorem dX11_turnover_122 : decode cX11_turnover 122 = .ok (.iastore, 1) := by decide +kernel
theorem dX11_turnover_123 : decode cX11_turnover 123 = .ok (.iconst 1, 1) := by decide +kernel
theorem dX11_turnover_124 : decode cX11_turnover 124 = .ok (.ireturn, 1) := by decide +kernel
set_option maxRecDepth 20000 in
theorem ggX11_breaks_X11_isLease : GoodIn wsX11_breaks wsX11_isLease := goodIn_r _ [7, 2, 8, 9, 6, 10, 25, 26, 27, 28, 29, 30, 31, 32, 33, 34, 35, 36, 37, 38, 39, 40, 41, 42, 43, 44, 45, 46] (by decide +kernel) (by decide +kernel)
set_option maxRecDepth 20000 in
theorem gX11_breaks_X11_isLease : GoodIn wsX11_breaks (wsV RX11 214 RX11 yX11_isLease wsX11_isLease) := goodIn_app (goodIn_of _ (by decide +kernel)) ggX11_breaks_X11_isLease
set_option maxRecDepth 20000 in
theorem ggX11_breaks_X11_hasPart : GoodIn wsX11_breaks wsX11_hasPart := goodIn_r _ [14, 15, 16, 17, 6, 18, 2, 25, 26, 27, 28, 29, 30, 31, 32, 33, 34, 35, 36, 37, 38, 39, 40, 41, 42, 43, 44, 45, 46] (by decide +kernel) (by decide +kernel)
set_option maxRecDepth 20000 in
theorem gX11_breaks_X11_hasPart : GoodIn wsX11_breaks (wsV RX11 194 RX11 yX11_hasPart wsX11_hasPart) := goodIn_app (goodIn_of _ (by decide +kernel)) ggX11_breaks_X11_hasPart
set_option maxRecDepth 20000 in
theorem ggX11_breaks_X11_its : GoodIn wsX11_breaks wsX11_its := goodIn_r _ [18, 2, 25, 26, 27, 28, 29, 30, 31, 32, 33, 34, 35, 36, 37, 38, 39, 40, 41, 42, 43, 44, 45, 46] (by decide +kernel) (by decide +kernel)
set_option maxRecDepth 20000 in
theorem gX11_breaks_X11_its : GoodIn wsX11_breaks (wsV RX11 163 RX11 yX11_its wsX11_its) := goodIn_app (goodIn_of _ (by decide +kernel)) ggX11_breaks_X11_its
set_option maxRecDepth 20000 in
theorem ggX11_breaks_X11_snap : GoodIn wsX11_breaks wsX11_snap := goodIn_r _ [22, 23, 24, 2, 25, 26, 27, 28, 29, 30, 31, 32, 33, 34, 35, 36, 37, 38, 39, 40, 41, 42, 43, 44, 45, 46] (by decide +kernel) (by decide +kernel)
set_option maxRecDepth 20000 in
theorem gX11_breaks_X11_snap : GoodIn wsX11_breaks (wsV RX11 249 RX11 yX11_snap wsX11_snap) := goodIn_app (goodIn_of _ (by decide +kernel)) ggX11_breaks_X11_snap
theorem dX11_breaks_0 : decode cX11_breaks 0 = .ok (.aload_n 0, 1) := by decide +kernel
theorem dX11_breaks_1 : decode cX11_breaks 1 = .ok (.iconst 0, 1) := by decide +kernel
theorem dX11_breaks_2 : decode cX11_breaks 2 = .ok (.putfield 1, 3) := by decide +kernel
theorem dX11_breaks_5 : decode cX11_breaks 5 = .ok (.aload_n 0, 1) := by decide +kernel
theorem dX11_breaks_6 : decode cX11_breaks 6 = .ok (.iload_n 1, 1) := by decide +kernel
theorem dX11_breaks_7 : decode cX11_breaks 7 = .ok (.invokevirtual 214, 3) := by decide +kernel
theorem dX11_breaks_10 : decode cX11_breaks 10 = .ok (.ifCond .eq 39, 3) := by decide +kernel
theorem dX11_breaks_13 : decode cX11_breaks 13 = .ok (.aload_n 0, 1) := by decide +kernel
theorem dX11_breaks_14 : decode cX11_breaks 14 = .ok (.iload_n 1, 1) := by decide +kernel
theorem dX11_breaks_15 : decode cX11_breaks 15 = .ok (.bipush 16, 2) := by decide +kernel
theorem dX11_breaks_17 : decode cX11_breaks 17 = .ok (.invokevirtual 194, 3) := by decide +kernel
theorem dX11_breaks_20 : decode cX11_breaks 20 = .ok (.ifCond .eq 29, 3) := by decide +kernel
theorem dX11_breaks_23 : decode cX11_breaks 23 = .ok (.aload_n 0, 1) := by decide +kernel
theorem dX11_breaks_24 : decode cX11_breaks 24 = .ok (.iload_n 1, 1) := by decide +kernel
theorem dX11_breaks_25 : decode cX11_breaks 25 = .ok (.bipush 12, 2) := by decide +kernel
theorem dX11_breaks_27 : decode cX11_breaks 27 = .ok (.invokevirtual 163, 3) := by decide +kernel
theorem dX11_breaks_30 : decode cX11_breaks 30 = .ok (.aload_n 0, 1) := by decide +kernel
theorem dX11_breaks_31 : decode cX11_breaks 31 = .ok (.getfield 82, 3) := by decide +kernel
theorem dX11_breaks_34 : decode cX11_breaks 34 = .ok (.iconst 0, 1) := by decide +kernel
theorem dX11_breaks_35 : decode cX11_breaks 35 = .ok (.iaload, 1) := by decide +kernel
theorem dX11_breaks_36 : decode cX11_breaks 36 = .ok (.if_icmp .le 13, 3) := by decide +kernel
theorem dX11_breaks_39 : decode cX11_breaks 39 = .ok (.aload_n 0, 1) := by decide +kernel
theorem dX11_breaks_40 : decode cX11_breaks 40 = .ok (.iload_n 1, 1) := by decide +kernel
theorem dX11_breaks_41 : decode cX11_breaks 41 = .ok (.bipush 13, 2) := by decide +kernel
theorem dX11_breaks_43 : decode cX11_breaks 43 = .ok (.invokevirtual 163, 3) := by decide +kernel
theorem dX11_breaks_46 : decode cX11_breaks 46 = .ok (.ifCond .le 5, 3) := by decide +kernel
theorem dX11_breaks_49 : decode cX11_breaks 49 = .ok (.iconst (-1), 1) := by decide +kernel
theorem dX11_breaks_50 : decode cX11_breaks 50 = .ok (.ireturn, 1) := by decide +kernel
theorem dX11_breaks_51 : decode cX11_breaks 51 = .ok (.aload_n 0, 1) := by decide +kernel
theorem dX11_breaks_52 : decode cX11_breaks 52 = .ok (.invokevirtual 249, 3) := by decide +kernel
theorem dX11_breaks_55 : decode cX11_breaks 55 = .ok (.aload_n 0, 1) := by decide +kernel
theorem dX11_breaks_56 : decode cX11_breaks 56 = .ok (.getfield 82, 3) := by decide +kernel
theorem dX11_breaks_59 : decode cX11_breaks 59 = .ok (.sipush 483, 3) := by decide +kernel
theorem dX11_breaks_62 : decode cX11_breaks 62 = .ok (.sipush 500, 3) := by decide +kernel
theorem dX11_breaks_65 : decode cX11_breaks 65 = .ok (.iload_n 1, 1) := by decide +kernel
theorem dX11_breaks_66 : decode cX11_breaks 66 = .ok (.imul, 1) := by decide +kernel
theorem dX11_breaks_67 : decode cX11_breaks 67 = .ok (.iadd, 1) := by decide +kernel
theorem dX11_breaks_68 : decode cX11_breaks 68 = .ok (.bipush 13, 2) := by decide +kernel
theorem dX11_breaks_70 : decode cX11_breaks 70 = .ok (.iadd, 1) := by decide +kernel
theorem dX11_breaks_71 : decode cX11_breaks 71 = .ok (.aload_n 0, 1) := by decide +kernel
theorem dX11_breaks_72 : decode cX11_breaks 72 = .ok (.getfield 82, 3) := by decide +kernel
theorem dX11_breaks_75 : decode cX11_breaks 75 = .ok (.iconst 0, 1) := by decide +kernel
theorem dX11_breaks_76 : decode cX11_breaks 76 = .ok (.iaload, 1) := by decide +kernel
theorem dX11_breaks_77 : decode cX11_breaks 77 = .ok (.iconst 1, 1) := by decide +kernel
theorem dX11_breaks_78 : decode cX11_breaks 78 = .ok (.iadd, 1) := by decide +kernel
theorem dX11_breaks_79 : decode cX11_breaks 79 = .ok (.iastore, 1) := by decide +kernel
theorem dX11_breaks_80 : decode cX11_breaks 80 = .ok (.aload_n 0, 1) := by decide +kernel
theorem dX11_breaks_81 : decode cX11_breaks 81 = .ok (.iload_n 1, 1) := by decide +kernel
theorem dX11_breaks_82 : decode cX11_breaks 82 = .ok (.bipush 12, 2) := by decide +kernel
theorem dX11_breaks_84 : decode cX11_breaks 84 = .ok (.invokevirtual 163, 3) := by decide +kernel
theorem dX11_breaks_87 : decode cX11_breaks 87 = .ok (.ireturn, 1) := by decide +kernel
set_option maxRecDepth 20000 in
theorem ggX11_pass_X11_isIn : GoodIn wsX11_pass wsX11_isIn := goodIn_r _ [6] (by decide +kernel) (by decide +kernel)
set_option maxRecDepth 20000 in
theorem gX11_pass_X11_isIn : GoodIn wsX11_pass (va_wsS RX11 114 yX11_isIn wsX11_isIn) := goodIn_app (goodIn_of _ (by decide +kernel)) ggX11_pass_X11_isIn
set_option maxRecDepth 20000 in
theorem ggX11_pass_X11_snap : GoodIn wsX11_pass wsX11_snap := goodIn_r _ [10, 11, 12, 2, 13, 14, 15, 16, 17, 18, 19, 20, 21, 22, 23, 24, 25, 26, 27, 28, 29, 30, 31, 32, 33, 34] (by decide +kernel) (by decide +kernel)
set_option maxRecDepth 20000 in
theorem gX11_pass_X11_snap : GoodIn wsX11_pass (wsV RX11 249 RX11 yX11_snap wsX11_snap) := goodIn_app (goodIn_of _ (by decide +kernel)) ggX11_pass_X11_snap
theorem dX11_pass_0 : decode cX11_pass 0 = .ok (.aload_n 0, 1) := by decide +kernel
theorem dX11_pass_1 : decode cX11_pass 1 = .ok (.iconst 0, 1) := by decide +kernel
theorem dX11_pass_2 : decode cX11_pass 2 = .ok (.putfield 1, 3) := by decide +kernel
theorem dX11_pass_5 : decode cX11_pass 5 = .ok (.iload_n 1, 1) := by decide +kernel
theorem dX11_pass_6 : decode cX11_pass 6 = .ok (.iconst 1, 1) := by decide +kernel
theorem dX11_pass_7 : decode cX11_pass 7 = .ok (.bipush 99, 2) := by decide +kernel
theorem dX11_pass_9 : decode cX11_pass 9 = .ok (.invokestatic 114, 3) := by decide +kernel
theorem dX11_pass_12 : decode cX11_pass 12 = .ok (.ifCond .eq 17, 3) := by decide +kernel
theorem dX11_pass_15 : decode cX11_pass 15 = .ok (.aload_n 0, 1) := by decide +kernel
theorem dX11_pass_16 : decode cX11_pass 16 = .ok (.getfield 82, 3) := by decide +kernel
theorem dX11_pass_19 : decode cX11_pass 19 = .ok (.iconst 0, 1) := by decide +kernel
theorem dX11_pass_20 : decode cX11_pass 20 = .ok (.iaload, 1) := by decide +kernel
theorem dX11_pass_21 : decode cX11_pass 21 = .ok (.iload_n 1, 1) := by decide +kernel
theorem dX11_pass_22 : decode cX11_pass 22 = .ok (.iadd, 1) := by decide +kernel
theorem dX11_pass_23 : decode cX11_pass 23 = .ok (.sipush 240, 3) := by decide +kernel
theorem dX11_pass_26 : decode cX11_pass 26 = .ok (.if_icmp .lt 5, 3) := by decide +kernel
theorem dX11_pass_29 : decode cX11_pass 29 = .ok (.iconst (-1), 1) := by decide +kernel
theorem dX11_pass_30 : decode cX11_pass 30 = .ok (.ireturn, 1) := by decide +kernel
theorem dX11_pass_31 : decode cX11_pass 31 = .ok (.aload_n 0, 1) := by decide +kernel
theorem dX11_pass_32 : decode cX11_pass 32 = .ok (.invokevirtual 249, 3) := by decide +kernel
theorem dX11_pass_35 : decode cX11_pass 35 = .ok (.aload_n 0, 1) := by decide +kernel
theorem dX11_pass_36 : decode cX11_pass 36 = .ok (.getfield 82, 3) := by decide +kernel
theorem dX11_pass_39 : decode cX11_pass 39 = .ok (.iconst 0, 1) := by decide +kernel
theorem dX11_pass_40 : decode cX11_pass 40 = .ok (.dup2, 1) := by decide +kernel
theorem dX11_pass_41 : decode cX11_pass 41 = .ok (.iaload, 1) := by decide +kernel
theorem dX11_pass_42 : decode cX11_pass 42 = .ok (.iload_n 1, 1) := by decide +kernel
theorem dX11_pass_43 : decode cX11_pass 43 = .ok (.iadd, 1) := by decide +kernel
theorem dX11_pass_44 : decode cX11_pass 44 = .ok (.iastore, 1) := by decide +kernel
theorem dX11_pass_45 : decode cX11_pass 45 = .ok (.aload_n 0, 1) := by decide +kernel
theorem dX11_pass_46 : decode cX11_pass 46 = .ok (.getfield 82, 3) := by decide +kernel
theorem dX11_pass_49 : decode cX11_pass 49 = .ok (.iconst 0, 1) := by decide +kernel
theorem dX11_pass_50 : decode cX11_pass 50 = .ok (.iaload, 1) := by decide +kernel
theorem dX11_pass_51 : decode cX11_pass 51 = .ok (.ireturn, 1) := by decide +kernel
theorem dX11_undo_0 : decode cX11_undo 0 = .ok (.aload_n 0, 1) := by decide +kernel
theorem dX11_undo_1 : decode cX11_undo 1 = .ok (.iconst 0, 1) := by decide +kernel
theorem dX11_undo_2 : decode cX11_undo 2 = .ok (.putfield 1, 3) := by decide +kernel
theorem dX11_undo_5 : decode cX11_undo 5 = .ok (.aload_n 0, 1) := by decide +kernel
theorem dX11_undo_6 : decode cX11_undo 6 = .ok (.getfield 160, 3) := by decide +kernel
theorem dX11_undo_9 : decode cX11_undo 9 = .ok (.ifCond .ne 5, 3) := by decide +kernel
theorem dX11_undo_12 : decode cX11_undo 12 = .ok (.iconst (-1), 1) := by decide +kernel
theorem dX11_undo_13 : decode cX11_undo 13 = .ok (.ireturn, 1) := by decide +kernel
theorem dX11_undo_14 : decode cX11_undo 14 = .ok (.aload_n 0, 1) := by decide +kernel
theorem dX11_undo_15 : decode cX11_undo 15 = .ok (.dup, 1) := by decide +kernel
theorem dX11_undo_16 : decode cX11_undo 16 = .ok (.getfield 160, 3) := by decide +kernel
theorem dX11_undo_19 : decode cX11_undo 19 = .ok (.iconst 1, 1) := by decide +kernel
theorem dX11_undo_20 : decode cX11_undo 20 = .ok (.isub, 1) := by decide +kernel
theorem dX11_undo_21 : decode cX11_undo 21 = .ok (.putfield 160, 3) := by decide +kernel
theorem dX11_undo_24 : decode cX11_undo 24 = .ok (.iconst 0, 1) := by decide +kernel
theorem dX11_undo_25 : decode cX11_undo 25 = .ok (.istore_n 1, 1) := by decide +kernel
theorem dX11_undo_26 : decode cX11_undo 26 = .ok (.iload_n 1, 1) := by decide +kernel
theorem dX11_undo_27 : decode cX11_undo 27 = .ok (.sipush 3483, 3) := by decide +kernel
theorem dX11_undo_30 : decode cX11_undo 30 = .ok (.if_icmp .ge 30, 3) := by decide +kernel
theorem dX11_undo_33 : decode cX11_undo 33 = .ok (.aload_n 0, 1) := by decide +kernel
theorem dX11_undo_34 : decode cX11_undo 34 = .ok (.getfield 82, 3) := by decide +kernel
theorem dX11_undo_37 : decode cX11_undo 37 = .ok (.iload_n 1, 1) := by decide +kernel
theorem dX11_undo_38 : decode cX11_undo 38 = .ok (.aload_n 0, 1) := by decide +kernel
theorem dX11_undo_39 : decode cX11_undo 39 = .ok (.getfield 89, 3) := by decide +kernel
theorem dX11_undo_42 : decode cX11_undo 42 = .ok (.sipush 3483, 3) := by decide +kernel
theorem dX11_undo_45 : decode cX11_undo 45 = .ok (.aload_n 0, 1) := by decide +kernel
theorem dX11_undo_46 : decode cX11_undo 46 = .ok (.getfield 160, 3) := by decide +kernel
theorem dX11_undo_49 : decode cX11_undo 49 = .ok (.imul, 1) := by decide +kernel
theorem dX11_undo_50 : decode cX11_undo 50 = .ok (.iload_n 1, 1) := by decide +kernel
theorem dX11_undo_51 : decode cX11_undo 51 = .ok (.iadd, 1) := by decide +kernel
theorem dX11_undo_52 : decode cX11_undo 52 = .ok (.iaload, 1) := by decide +kernel
theorem dX11_undo_53 : decode cX11_undo 53 = .ok (.iastore, 1) := by decide +kernel
theorem dX11_undo_54 : decode cX11_undo 54 = .ok (.iinc 1 1, 3) := by decide +kernel
theorem dX11_undo_57 : decode cX11_undo 57 = .ok (.goto (-31), 3) := by decide +kernel
theorem dX11_undo_60 : decode cX11_undo 60 = .ok (.aload_n 0, 1) := by decide +kernel
theorem dX11_undo_61 : decode cX11_undo 61 = .ok (.getfield 160, 3) := by decide +kernel
theorem dX11_undo_64 : decode cX11_undo 64 = .ok (.ireturn, 1) := by decide +kernel
theorem dJ9_max_7cf53_0 : decode cJ9_max_7cf53 0 = .ok (.iload_n 0, 1) := by decide +kernel
theorem dJ9_max_7cf53_1 : decode cJ9_max_7cf53 1 = .ok (.iload_n 1, 1) := by decide +kernel
theorem dJ9_max_7cf53_2 : decode cJ9_max_7cf53 2 = .ok (.if_icmp .lt 7, 3) := by decide +kernel
theorem dJ9_max_7cf53_5 : decode cJ9_max_7cf53 5 = .ok (.iload_n 0, 1) := by decide +kernel
theorem dJ9_max_7cf53_6 : decode cJ9_max_7cf53 6 = .ok (.goto 4, 3) := by decide +kernel
theorem dJ9_max_7cf53_9 : decode cJ9_max_7cf53 9 = .ok (.iload_n 1, 1) := by decide +kernel
theorem dJ9_max_7cf53_10 : decode cJ9_max_7cf53 10 = .ok (.ireturn, 1) := by decide +kernel
theorem dJ9_min_7cf53_0 : decode cJ9_min_7cf53 0 = .ok (.iload_n 0, 1) := by decide +kernel
theorem dJ9_min_7cf53_1 : decode cJ9_min_7cf53 1 = .ok (.iload_n 1, 1) := by decide +kernel
theorem dJ9_min_7cf53_2 : decode cJ9_min_7cf53 2 = .ok (.if_icmp .gt 7, 3) := by decide +kernel
theorem dJ9_min_7cf53_5 : decode cJ9_min_7cf53 5 = .ok (.iload_n 0, 1) := by decide +kernel
theorem dJ9_min_7cf53_6 : decode cJ9_min_7cf53 6 = .ok (.goto 4, 3) := by decide +kernel
theorem dJ9_min_7cf53_9 : decode cJ9_min_7cf53 9 = .ok (.iload_n 1, 1) := by decide +kernel
theorem dJ9_min_7cf53_10 : decode cJ9_min_7cf53 10 = .ok (.ireturn, 1) := by decide +kernel
set_option maxRecDepth 20000 in
theorem ggJ0_length_8abf5_J0_coder_7d493 : GoodIn wsJ0_length_8abf5 wsJ0_coder_7d493 := goodIn_r _ [6, 7, 8] (by decide +kernel) (by decide +kernel)
set_option maxRecDepth 20000 in
theorem gJ0_length_8abf5_J0_coder_7d493 : GoodIn wsJ0_length_8abf5 (wsV RJ0 335 RJ0 yJ0_coder_7d493 wsJ0_coder_7d493) := goodIn_app (goodIn_of _ (by decide +kernel)) ggJ0_length_8abf5_J0_coder_7d493
theorem dJ0_length_8abf5_0 : decode cJ0_length_8abf5 0 = .ok (.aload_n 0, 1) := by decide +kernel
theorem dJ0_length_8abf5_1 : decode cJ0_length_8abf5 1 = .ok (.getfield 9, 3) := by decide +kernel
theorem dJ0_length_8abf5_4 : decode cJ0_length_8abf5 4 = .ok (.arraylength, 1) := by decide +kernel
theorem dJ0_length_8abf5_5 : decode cJ0_length_8abf5 5 = .ok (.aload_n 0, 1) := by decide +kernel
theorem dJ0_length_8abf5_6 : decode cJ0_length_8abf5 6 = .ok (.invokevirtual 335, 3) := by decide +kernel
theorem dJ0_length_8abf5_9 : decode cJ0_length_8abf5 9 = .ok (.ishr, 1) := by decide +kernel
theorem dJ0_length_8abf5_10 : decode cJ0_length_8abf5 10 = .ok (.ireturn, 1) := by decide +kernel
set_option maxRecDepth 20000 in
theorem ggJ0_charAt_5068e_J0_isLatin1_aae02 : GoodIn wsJ0_charAt_5068e wsJ0_isLatin1_aae02 := goodIn_r _ [6, 7, 8] (by decide +kernel) (by decide +kernel)
set_option maxRecDepth 20000 in
theorem gJ0_charAt_5068e_J0_isLatin1_aae02 : GoodIn wsJ0_charAt_5068e (wsV RJ0 492 RJ0 yJ0_isLatin1_aae02 wsJ0_isLatin1_aae02) := goodIn_app (goodIn_of _ (by decide +kernel)) ggJ0_charAt_5068e_J0_isLatin1_aae02
set_option maxRecDepth 20000 in
theorem ggJ0_charAt_5068e_J1_charAt_3b067 : GoodIn wsJ0_charAt_5068e wsJ1_charAt_3b067 := goodIn_r _ [12, 13, 14, 5, 15, 16, 17, 18, 19, 20] (by decide +kernel) (by decide +kernel)
set_option maxRecDepth 20000 in
theorem gJ0_charAt_5068e_J1_charAt_3b067 : GoodIn wsJ0_charAt_5068e (va_wsS RJ0 495 yJ1_charAt_3b067 wsJ1_charAt_3b067) := goodIn_app (goodIn_of _ (by decide +kernel)) ggJ0_charAt_5068e_J1_charAt_3b067
set_option maxRecDepth 20000 in
theorem ggJ0_charAt_5068e_J2_charAt_3b067 : GoodIn wsJ0_charAt_5068e wsJ2_charAt_3b067 := goodIn_r _ [24, 25, 26, 23, 27, 28, 29, 30, 31, 14, 5, 15, 16, 17, 18, 19, 20, 32, 33, 34, 35, 36, 37] (by decide +kernel) (by decide +kernel)
set_option maxRecDepth 20000 in
theorem gJ0_charAt_5068e_J2_charAt_3b067 : GoodIn wsJ0_charAt_5068e (va_wsS RJ0 498 yJ2_charAt_3b067 wsJ2_charAt_3b067) := goodIn_app (goodIn_of _ (by decide +kernel)) ggJ0_charAt_5068e_J2_charAt_3b067
theorem dJ0_charAt_5068e_0 : decode cJ0_charAt_5068e 0 = .ok (.aload_n 0, 1) := by decide +kernel
theorem dJ0_charAt_5068e_1 : decode cJ0_charAt_5068e 1 = .ok (.invokevirtual 492, 3) := by decide +kernel
theorem dJ0_charAt_5068e_4 : decode cJ0_charAt_5068e 4 = .ok (.ifCond .eq 12, 3) := by decide +kernel
theorem dJ0_charAt_5068e_7 : decode cJ0_charAt_5068e 7 = .ok (.aload_n 0, 1) := by decide +kernel
theorem dJ0_charAt_5068e_8 : decode cJ0_charAt_5068e 8 = .ok (.getfield 9, 3) := by decide +kernel
theorem dJ0_charAt_5068e_11 : decode cJ0_charAt_5068e 11 = .ok (.iload_n 1, 1) := by decide +kernel
theorem dJ0_charAt_5068e_12 : decode cJ0_charAt_5068e 12 = .ok (.invokestatic 495, 3) := by decide +kernel
theorem dJ0_charAt_5068e_15 : decode cJ0_charAt_5068e 15 = .ok (.ireturn, 1) := by decide +kernel
theorem dJ0_charAt_5068e_16 : decode cJ0_charAt_5068e 16 = .ok (.aload_n 0, 1) := by decide +kernel
theorem dJ0_charAt_5068e_17 : decode cJ0_charAt_5068e 17 = .ok (.getfield 9, 3) := by decide +kernel
theorem dJ0_charAt_5068e_20 : decode cJ0_charAt_5068e 20 = .ok (.iload_n 1, 1) := by decide +kernel
theorem dJ0_charAt_5068e_21 : decode cJ0_charAt_5068e 21 = .ok (.invokestatic 498, 3) := by decide +kernel
theorem dJ0_charAt_5068e_24 : decode cJ0_charAt_5068e 24 = .ok (.ireturn, 1) := by decide +kernel
theorem dJ0_coder_7d493_0 : decode cJ0_coder_7d493 0 = .ok (.getstatic 38, 3) := by decide +kernel
theorem dJ0_coder_7d493_3 : decode cJ0_coder_7d493 3 = .ok (.ifCond .eq 10, 3) := by decide +kernel
theorem dJ0_coder_7d493_6 : decode cJ0_coder_7d493 6 = .ok (.aload_n 0, 1) := by decide +kernel
theorem dJ0_coder_7d493_7 : decode cJ0_coder_7d493 7 = .ok (.getfield 15, 3) := by decide +kernel
theorem dJ0_coder_7d493_10 : decode cJ0_coder_7d493 10 = .ok (.goto 4, 3) := by decide +kernel
theorem dJ0_coder_7d493_13 : decode cJ0_coder_7d493 13 = .ok (.iconst 1, 1) := by decide +kernel
theorem dJ0_coder_7d493_14 : decode cJ0_coder_7d493 14 = .ok (.ireturn, 1) := by decide +kernel
theorem dJ0_isLatin1_aae02_0 : decode cJ0_isLatin1_aae02 0 = .ok (.getstatic 38, 3) := by decide +kernel
theorem dJ0_isLatin1_aae02_3 : decode cJ0_isLatin1_aae02 3 = .ok (.ifCond .eq 14, 3) := by decide +kernel
theorem dJ0_isLatin1_aae02_6 : decode cJ0_isLatin1_aae02 6 = .ok (.aload_n 0, 1) := by decide +kernel
theorem dJ0_isLatin1_aae02_7 : decode cJ0_isLatin1_aae02 7 = .ok (.getfield 15, 3) := by decide +kernel
theorem dJ0_isLatin1_aae02_10 : decode cJ0_isLatin1_aae02 10 = .ok (.ifCond .ne 7, 3) := by decide +kernel
theorem dJ0_isLatin1_aae02_13 : decode cJ0_isLatin1_aae02 13 = .ok (.iconst 1, 1) := by decide +kernel
theorem dJ0_isLatin1_aae02_14 : decode cJ0_isLatin1_aae02 14 = .ok (.goto 4, 3) := by decide +kernel
theorem dJ0_isLatin1_aae02_17 : decode cJ0_isLatin1_aae02 17 = .ok (.iconst 0, 1) := by decide +kernel
theorem dJ0_isLatin1_aae02_18 : decode cJ0_isLatin1_aae02 18 = .ok (.ireturn, 1) := by decide +kernel
set_option maxRecDepth 20000 in
theorem ggJ0_checkIndex_df160_J3_checkIndex_8e157 : GoodIn wsJ0_checkIndex_df160 wsJ3_checkIndex_8e157 := goodIn_r _ [5] (by decide +kernel) (by decide +kernel)
set_option maxRecDepth 20000 in
theorem gJ0_checkIndex_df160_J3_checkIndex_8e157 : GoodIn wsJ0_checkIndex_df160 (va_wsS RJ0 1059 yJ3_checkIndex_8e157 wsJ3_checkIndex_8e157) := goodIn_app (goodIn_of _ (by decide +kernel)) ggJ0_checkIndex_df160_J3_checkIndex_8e157
theorem dJ0_checkIndex_df160_0 : decode cJ0_checkIndex_df160 0 = .ok (.iload_n 0, 1) := by decide +kernel
theorem dJ0_checkIndex_df160_1 : decode cJ0_checkIndex_df160 1 = .ok (.iload_n 1, 1) := by decide +kernel
theorem dJ0_checkIndex_df160_2 : decode cJ0_checkIndex_df160 2 = .ok (.getstatic 1053, 3) := by decide +kernel
theorem dJ0_checkIndex_df160_5 : decode cJ0_checkIndex_df160 5 = .ok (.invokestatic 1059, 3) := by decide +kernel
theorem dJ0_checkIndex_df160_8 : decode cJ0_checkIndex_df160 8 = .ok (.pop, 1) := by decide +kernel
theorem dJ0_checkIndex_df160_9 : decode cJ0_checkIndex_df160 9 = .ok (.return_, 1) := by decide +kernel
set_option maxRecDepth 20000 in
theorem ggJ1_charAt_3b067_J0_checkIndex_df160 : GoodIn wsJ1_charAt_3b067 wsJ0_checkIndex_df160 := goodIn_r _ [4, 5, 6, 7, 8, 9] (by decide +kernel) (by decide +kernel)
set_option maxRecDepth 20000 in
theorem gJ1_charAt_3b067_J0_checkIndex_df160 : GoodIn wsJ1_charAt_3b067 (va_wsS RJ1 9 yJ0_checkIndex_df160 wsJ0_checkIndex_df160) := goodIn_app (goodIn_of _ (by decide +kernel)) ggJ1_charAt_3b067_J0_checkIndex_df160
theorem dJ1_charAt_3b067_0 : decode cJ1_charAt_3b067 0 = .ok (.iload_n 1, 1) := by decide +kernel
theorem dJ1_charAt_3b067_1 : decode cJ1_charAt_3b067 1 = .ok (.aload_n 0, 1) := by decide +kernel
theorem dJ1_charAt_3b067_2 : decode cJ1_charAt_3b067 2 = .ok (.arraylength, 1) := by decide +kernel
theorem dJ1_charAt_3b067_3 : decode cJ1_charAt_3b067 3 = .ok (.invokestatic 9, 3) := by decide +kernel
theorem dJ1_charAt_3b067_6 : decode cJ1_charAt_3b067 6 = .ok (.aload_n 0, 1) := by decide +kernel
theorem dJ1_charAt_3b067_7 : decode cJ1_charAt_3b067 7 = .ok (.iload_n 1, 1) := by decide +kernel
theorem dJ1_charAt_3b067_8 : decode cJ1_charAt_3b067 8 = .ok (.baload, 1) := by decide +kernel
theorem dJ1_charAt_3b067_9 : decode cJ1_charAt_3b067 9 = .ok (.sipush 255, 3) := by decide +kernel
theorem dJ1_charAt_3b067_12 : decode cJ1_charAt_3b067 12 = .ok (.iand, 1) := by decide +kernel
theorem dJ1_charAt_3b067_13 : decode cJ1_charAt_3b067 13 = .ok (.i2c, 1) := by decide +kernel
theorem dJ1_charAt_3b067_14 : decode cJ1_charAt_3b067 14 = .ok (.ireturn, 1) := by decide +kernel
set_option maxRecDepth 20000 in
theorem ggJ2_getChar_3b067_J2_length_9d52b : GoodIn wsJ2_getChar_3b067 wsJ2_length_9d52b := goodIn_r _ [7] (by decide +kernel) (by decide +kernel)
set_option maxRecDepth 20000 in
theorem gJ2_getChar_3b067_J2_length_9d52b : GoodIn wsJ2_getChar_3b067 (va_wsS RJ2 48 yJ2_length_9d52b wsJ2_length_9d52b) := goodIn_app (goodIn_of _ (by decide +kernel)) ggJ2_getChar_3b067_J2_length_9d52b
theorem dJ2_getChar_3b067_0 : decode cJ2_getChar_3b067 0 = .ok (.getstatic 44, 3) := by decide +kernel
theorem dJ2_getChar_3b067_3 : decode cJ2_getChar_3b067 3 = .ok (.ifCond .ne 25, 3) := by decide +kernel
theorem dJ2_getChar_3b067_6 : decode cJ2_getChar_3b067 6 = .ok (.iload_n 1, 1) := by decide +kernel
theorem dJ2_getChar_3b067_7 : decode cJ2_getChar_3b067 7 = .ok (.ifCond .lt 11, 3) := by decide +kernel
theorem dJ2_getChar_3b067_10 : decode cJ2_getChar_3b067 10 = .ok (.iload_n 1, 1) := by decide +kernel
theorem dJ2_getChar_3b067_11 : decode cJ2_getChar_3b067 11 = .ok (.aload_n 0, 1) := by decide +kernel
theorem dJ2_getChar_3b067_12 : decode cJ2_getChar_3b067 12 = .ok (.invokestatic 48, 3) := by decide +kernel
theorem dJ2_getChar_3b067_15 : decode cJ2_getChar_3b067 15 = .ok (.if_icmp .lt 13, 3) := by decide +kernel
theorem dJ2_getChar_3b067_18 : decode cJ2_getChar_3b067 18 = .ok (.new 52, 3) := by decide +kernel
theorem dJ2_getChar_3b067_21 : decode cJ2_getChar_3b067 21 = .ok (.dup, 1) := by decide +kernel
theorem dJ2_getChar_3b067_22 : decode cJ2_getChar_3b067 22 = .ok (.ldc 54, 2) := by decide +kernel
theorem dJ2_getChar_3b067_24 : decode cJ2_getChar_3b067 24 = .ok (.invokespecial 56, 3) := by decide +kernel
theorem dJ2_getChar_3b067_27 : decode cJ2_getChar_3b067 27 = .ok (.athrow, 1) := by decide +kernel
theorem dJ2_getChar_3b067_28 : decode cJ2_getChar_3b067 28 = .ok (.iload_n 1, 1) := by decide +kernel
theorem dJ2_getChar_3b067_29 : decode cJ2_getChar_3b067 29 = .ok (.iconst 1, 1) := by decide +kernel
theorem dJ2_getChar_3b067_30 : decode cJ2_getChar_3b067 30 = .ok (.ishl, 1) := by decide +kernel
theorem dJ2_getChar_3b067_31 : decode cJ2_getChar_3b067 31 = .ok (.istore_n 1, 1) := by decide +kernel
theorem dJ2_getChar_3b067_32 : decode cJ2_getChar_3b067 32 = .ok (.aload_n 0, 1) := by decide +kernel
theorem dJ2_getChar_3b067_33 : decode cJ2_getChar_3b067 33 = .ok (.iload_n 1, 1) := by decide +kernel
theorem dJ2_getChar_3b067_34 : decode cJ2_getChar_3b067 34 = .ok (.iinc 1 1, 3) := by decide +kernel
theorem dJ2_getChar_3b067_37 : decode cJ2_getChar_3b067 37 = .ok (.baload, 1) := by decide +kernel
theorem dJ2_getChar_3b067_38 : decode cJ2_getChar_3b067 38 = .ok (.sipush 255, 3) := by decide +kernel
theorem dJ2_getChar_3b067_41 : decode cJ2_getChar_3b067 41 = .ok (.iand, 1) := by decide +kernel
theorem dJ2_getChar_3b067_42 : decode cJ2_getChar_3b067 42 = .ok (.getstatic 59, 3) := by decide +kernel
theorem dJ2_getChar_3b067_45 : decode cJ2_getChar_3b067 45 = .ok (.ishl, 1) := by decide +kernel
theorem dJ2_getChar_3b067_46 : decode cJ2_getChar_3b067 46 = .ok (.aload_n 0, 1) := by decide +kernel
theorem dJ2_getChar_3b067_47 : decode cJ2_getChar_3b067 47 = .ok (.iload_n 1, 1) := by decide +kernel
theorem dJ2_getChar_3b067_48 : decode cJ2_getChar_3b067 48 = .ok (.baload, 1) := by decide +kernel
theorem dJ2_getChar_3b067_49 : decode cJ2_getChar_3b067 49 = .ok (.sipush 255, 3) := by decide +kernel
theorem dJ2_getChar_3b067_52 : decode cJ2_getChar_3b067 52 = .ok (.iand, 1) := by decide +kernel
theorem dJ2_getChar_3b067_53 : decode cJ2_getChar_3b067 53 = .ok (.getstatic 63, 3) := by decide +kernel
theorem dJ2_getChar_3b067_56 : decode cJ2_getChar_3b067 56 = .ok (.ishl, 1) := by decide +kernel
theorem dJ2_getChar_3b067_57 : decode cJ2_getChar_3b067 57 = .ok (.ior, 1) := by decide +kernel
theorem dJ2_getChar_3b067_58 : decode cJ2_getChar_3b067 58 = .ok (.i2c, 1) := by decide +kernel
theorem dJ2_getChar_3b067_59 : decode cJ2_getChar_3b067 59 = .ok (.ireturn, 1) := by decide +kernel
theorem dJ2_length_9d52b_0 : decode cJ2_length_9d52b 0 = .ok (.aload_n 0, 1) := by decide +kernel
theorem dJ2_length_9d52b_1 : decode cJ2_length_9d52b 1 = .ok (.arraylength, 1) := by decide +kernel
theorem dJ2_length_9d52b_2 : decode cJ2_length_9d52b 2 = .ok (.iconst 1, 1) := by decide +kernel
theorem dJ2_length_9d52b_3 : decode cJ2_length_9d52b 3 = .ok (.ishr, 1) := by decide +kernel
theorem dJ2_length_9d52b_4 : decode cJ2_length_9d52b 4 = .ok (.ireturn, 1) := by decide +kernel
set_option maxRecDepth 20000 in
theorem ggJ2_charAt_3b067_J2_checkIndex_2214a : GoodIn wsJ2_charAt_3b067 wsJ2_checkIndex_2214a := goodIn_r _ [4, 5, 6, 3, 7, 8, 9, 10, 11, 12, 13, 14, 15, 16] (by decide +kernel) (by decide +kernel)
set_option maxRecDepth 20000 in
theorem gJ2_charAt_3b067_J2_checkIndex_2214a : GoodIn wsJ2_charAt_3b067 (va_wsS RJ2 67 yJ2_checkIndex_2214a wsJ2_checkIndex_2214a) := goodIn_app (goodIn_of _ (by decide +kernel)) ggJ2_charAt_3b067_J2_checkIndex_2214a
set_option maxRecDepth 20000 in
theorem ggJ2_charAt_3b067_J2_getChar_3b067 : GoodIn wsJ2_charAt_3b067 wsJ2_getChar_3b067 := goodIn_r _ [19, 20, 21, 22, 5, 6, 3, 7] (by decide +kernel) (by decide +kernel)
set_option maxRecDepth 20000 in
theorem gJ2_charAt_3b067_J2_getChar_3b067 : GoodIn wsJ2_charAt_3b067 (va_wsS RJ2 71 yJ2_getChar_3b067 wsJ2_getChar_3b067) := goodIn_app (goodIn_of _ (by decide +kernel)) ggJ2_charAt_3b067_J2_getChar_3b067
theorem dJ2_charAt_3b067_0 : decode cJ2_charAt_3b067 0 = .ok (.iload_n 1, 1) := by decide +kernel
theorem dJ2_charAt_3b067_1 : decode cJ2_charAt_3b067 1 = .ok (.aload_n 0, 1) := by decide +kernel
theorem dJ2_charAt_3b067_2 : decode cJ2_charAt_3b067 2 = .ok (.invokestatic 67, 3) := by decide +kernel
theorem dJ2_charAt_3b067_5 : decode cJ2_charAt_3b067 5 = .ok (.aload_n 0, 1) := by decide +kernel
theorem dJ2_charAt_3b067_6 : decode cJ2_charAt_3b067 6 = .ok (.iload_n 1, 1) := by decide +kernel
theorem dJ2_charAt_3b067_7 : decode cJ2_charAt_3b067 7 = .ok (.invokestatic 71, 3) := by decide +kernel
theorem dJ2_charAt_3b067_10 : decode cJ2_charAt_3b067 10 = .ok (.ireturn, 1) := by decide +kernel
set_option maxRecDepth 20000 in
theorem ggJ2_checkIndex_2214a_J2_length_9d52b : GoodIn wsJ2_checkIndex_2214a wsJ2_length_9d52b := goodIn_r _ [4] (by decide +kernel) (by decide +kernel)
set_option maxRecDepth 20000 in
theorem gJ2_checkIndex_2214a_J2_length_9d52b : GoodIn wsJ2_checkIndex_2214a (va_wsS RJ2 48 yJ2_length_9d52b wsJ2_length_9d52b) := goodIn_app (goodIn_of _ (by decide +kernel)) ggJ2_checkIndex_2214a_J2_length_9d52b
set_option maxRecDepth 20000 in
theorem ggJ2_checkIndex_2214a_J0_checkIndex_df160 : GoodIn wsJ2_checkIndex_2214a wsJ0_checkIndex_df160 := goodIn_r _ [8, 9, 10, 11, 12, 13] (by decide +kernel) (by decide +kernel)
set_option maxRecDepth 20000 in
theorem gJ2_checkIndex_2214a_J0_checkIndex_df160 : GoodIn wsJ2_checkIndex_2214a (va_wsS RJ2 414 yJ0_checkIndex_df160 wsJ0_checkIndex_df160) := goodIn_app (goodIn_of _ (by decide +kernel)) ggJ2_checkIndex_2214a_J0_checkIndex_df160
theorem dJ2_checkIndex_2214a_0 : decode cJ2_checkIndex_2214a 0 = .ok (.iload_n 0, 1) := by decide +kernel
theorem dJ2_checkIndex_2214a_1 : decode cJ2_checkIndex_2214a 1 = .ok (.aload_n 1, 1) := by decide +kernel
theorem dJ2_checkIndex_2214a_2 : decode cJ2_checkIndex_2214a 2 = .ok (.invokestatic 48, 3) := by decide +kernel
theorem dJ2_checkIndex_2214a_5 : decode cJ2_checkIndex_2214a 5 = .ok (.invokestatic 414, 3) := by decide +kernel
theorem dJ2_checkIndex_2214a_8 : decode cJ2_checkIndex_2214a 8 = .ok (.return_, 1) := by decide +kernel
theorem dJ7_fill_53178_0 : decode cJ7_fill_53178 0 = .ok (.iconst 0, 1) := by decide +kernel
theorem dJ7_fill_53178_1 : decode cJ7_fill_53178 1 = .ok (.istore_n 2, 1) := by decide +kernel
theorem dJ7_fill_53178_2 : decode cJ7_fill_53178 2 = .ok (.aload_n 0, 1) := by decide +kernel
theorem dJ7_fill_53178_3 : decode cJ7_fill_53178 3 = .ok (.arraylength, 1) := by decide +kernel
theorem dJ7_fill_53178_4 : decode cJ7_fill_53178 4 = .ok (.istore_n 3, 1) := by decide +kernel
theorem dJ7_fill_53178_5 : decode cJ7_fill_53178 5 = .ok (.iload_n 2, 1) := by decide +kernel
theorem dJ7_fill_53178_6 : decode cJ7_fill_53178 6 = .ok (.iload_n 3, 1) := by decide +kernel
theorem dJ7_fill_53178_7 : decode cJ7_fill_53178 7 = .ok (.if_icmp .ge 13, 3) := by decide +kernel
theorem dJ7_fill_53178_10 : decode cJ7_fill_53178 10 = .ok (.aload_n 0, 1) := by decide +kernel
theorem dJ7_fill_53178_11 : decode cJ7_fill_53178 11 = .ok (.iload_n 2, 1) := by decide +kernel
theorem dJ7_fill_53178_12 : decode cJ7_fill_53178 12 = .ok (.iload_n 1, 1) := by decide +kernel
theorem dJ7_fill_53178_13 : decode cJ7_fill_53178 13 = .ok (.iastore, 1) := by decide +kernel
theorem dJ7_fill_53178_14 : decode cJ7_fill_53178 14 = .ok (.iinc 2 1, 3) := by decide +kernel
theorem dJ7_fill_53178_17 : decode cJ7_fill_53178 17 = .ok (.goto (-12), 3) := by decide +kernel
theorem dJ7_fill_53178_20 : decode cJ7_fill_53178 20 = .ok (.return_, 1) := by decide +kernel
theorem dJ3_checkIndex_8e157_0 : decode cJ3_checkIndex_8e157 0 = .ok (.iload_n 0, 1) := by decide +kernel
theorem dJ3_checkIndex_8e157_1 : decode cJ3_checkIndex_8e157 1 = .ok (.ifCond .lt 8, 3) := by decide +kernel
theorem dJ3_checkIndex_8e157_4 : decode cJ3_checkIndex_8e157 4 = .ok (.iload_n 0, 1) := by decide +kernel
theorem dJ3_checkIndex_8e157_5 : decode cJ3_checkIndex_8e157 5 = .ok (.iload_n 1, 1) := by decide +kernel
theorem dJ3_checkIndex_8e157_6 : decode cJ3_checkIndex_8e157 6 = .ok (.if_icmp .lt 10, 3) := by decide +kernel
theorem dJ3_checkIndex_8e157_9 : decode cJ3_checkIndex_8e157 9 = .ok (.aload_n 2, 1) := by decide +kernel
theorem dJ3_checkIndex_8e157_10 : decode cJ3_checkIndex_8e157 10 = .ok (.iload_n 0, 1) := by decide +kernel
theorem dJ3_checkIndex_8e157_11 : decode cJ3_checkIndex_8e157 11 = .ok (.iload_n 1, 1) := by decide +kernel
theorem dJ3_checkIndex_8e157_12 : decode cJ3_checkIndex_8e157 12 = .ok (.invokestatic 95, 3) := by decide +kernel
theorem dJ3_checkIndex_8e157_15 : decode cJ3_checkIndex_8e157 15 = .ok (.athrow, 1) := by decide +kernel
theorem dJ3_checkIndex_8e157_16 : decode cJ3_checkIndex_8e157 16 = .ok (.iload_n 0, 1) := by decide +kernel
theorem dJ3_checkIndex_8e157_17 : decode cJ3_checkIndex_8e157 17 = .ok (.ireturn, 1) := by decide +kernel
abbrev vwCl : List vw_C := [(RX0, TX0, 4), (RX1, TX1, 5), (RX2, TX2, 14), (RX3, TX3, 3), (RX4, TX4, 7), (RX5, TX5, 2), (RX6, TX6, 2), (RX7, TX7, 5), (RX8, TX8, 3), (RX9, TX9, 7), (RX10, TX10, 10), (RX11, TX11, 22)]
