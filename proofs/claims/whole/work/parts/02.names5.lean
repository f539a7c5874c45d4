theorem dX3_foresee_14 : decode cX3_foresee 14 = .ok (.ldc 158, 2) := by decide +kernel
theorem dX3_foresee_16 : decode cX3_foresee 16 = .ok (.invokespecial 34, 3) := by decide +kernel
theorem dX3_foresee_19 : decode cX3_foresee 19 = .ok (.athrow, 1) := by decide +kernel
theorem dX3_foresee_20 : decode cX3_foresee 20 = .ok (.iload_n 2, 1) := by decide +kernel
theorem dX3_foresee_21 : decode cX3_foresee 21 = .ok (.iconst 0, 1) := by decide +kernel
theorem dX3_foresee_22 : decode cX3_foresee 22 = .ok (.bipush 8, 2) := by decide +kernel
theorem dX3_foresee_24 : decode cX3_foresee 24 = .ok (.invokestatic 19, 3) := by decide +kernel
theorem dX3_foresee_27 : decode cX3_foresee 27 = .ok (.ifCond .ne 13, 3) := by decide +kernel
theorem dX3_foresee_30 : decode cX3_foresee 30 = .ok (.new 23, 3) := by decide +kernel
theorem dX3_foresee_33 : decode cX3_foresee 33 = .ok (.dup, 1) := by decide +kernel
theorem dX3_foresee_34 : decode cX3_foresee 34 = .ok (.ldc 153, 2) := by decide +kernel
theorem dX3_foresee_36 : decode cX3_foresee 36 = .ok (.invokespecial 27, 3) := by decide +kernel
theorem dX3_foresee_39 : decode cX3_foresee 39 = .ok (.athrow, 1) := by decide +kernel
theorem dX3_foresee_40 : decode cX3_foresee 40 = .ok (.aload_n 0, 1) := by decide +kernel
theorem dX3_foresee_41 : decode cX3_foresee 41 = .ok (.getfield 16, 3) := by decide +kernel
theorem dX3_foresee_44 : decode cX3_foresee 44 = .ok (.aload_n 0, 1) := by decide +kernel
theorem dX3_foresee_45 : decode cX3_foresee 45 = .ok (.getfield 10, 3) := by decide +kernel
theorem dX3_foresee_48 : decode cX3_foresee 48 = .ok (.invokevirtual 163, 3) := by decide +kernel
theorem dX3_foresee_51 : decode cX3_foresee 51 = .ok (.aload_n 0, 1) := by decide +kernel
theorem dX3_foresee_52 : decode cX3_foresee 52 = .ok (.getfield 16, 3) := by decide +kernel
theorem dX3_foresee_55 : decode cX3_foresee 55 = .ok (.iload_n 1, 1) := by decide +kernel
theorem dX3_foresee_56 : decode cX3_foresee 56 = .ok (.invokevirtual 160, 3) := by decide +kernel
theorem dX3_foresee_59 : decode cX3_foresee 59 = .ok (.pop, 1) := by decide +kernel
theorem dX3_foresee_60 : decode cX3_foresee 60 = .ok (.aload_n 0, 1) := by decide +kernel
theorem dX3_foresee_61 : decode cX3_foresee 61 = .ok (.getfield 16, 3) := by decide +kernel
theorem dX3_foresee_64 : decode cX3_foresee 64 = .ok (.iload_n 2, 1) := by decide +kernel
theorem dX3_foresee_65 : decode cX3_foresee 65 = .ok (.invokevirtual 155, 3) := by decide +kernel
theorem dX3_foresee_68 : decode cX3_foresee 68 = .ok (.ireturn, 1) := by decide +kernel
set_option maxRecDepth 20000 in
theorem ggX3_advise_X1_has : GoodIn wsX3_advise wsX1_has := goodIn_r _ [13, 14, 162, 163, 164, 165, 166, 167, 168, 169, 170] (by decide +kernel) (by decide +kernel)
set_option maxRecDepth 20000 in
theorem gX3_advise_X1_has : GoodIn wsX3_advise (wsV RX3 107 RX1 yX1_has wsX1_has) := goodIn_app (goodIn_of _ (by decide +kernel)) ggX3_advise_X1_has
set_option maxRecDepth 20000 in
theorem ggX3_advise_X3_isWithin : GoodIn wsX3_advise wsX3_isWithin := goodIn_r _ [18] (by decide +kernel) (by decide +kernel)
set_option maxRecDepth 20000 in
theorem gX3_advise_X3_isWithin : GoodIn wsX3_advise (va_wsS RX3 19 yX3_isWithin wsX3_isWithin) := goodIn_app (goodIn_of _ (by decide +kernel)) ggX3_advise_X3_isWithin
set_option maxRecDepth 20000 in
theorem ggX3_advise_X2_copyFrom : GoodIn wsX3_advise wsX2_copyFrom := goodIn_r _ [23, 24, 25, 26, 27, 28, 29, 30, 31, 17, 32, 33, 34, 35, 36, 37, 38, 39, 40, 41, 42, 43, 44, 45, 46, 47, 48, 49, 50, 51, 52, 53, 12, 54, 14, 55, 56, 57, 58, 59, 60, 61, 62, 155, 156, 157, 158, 159, 160, 161, 171, 172, 173, 174, 175, 162, 163, 164, 165, 166, 167, 168, 169, 170] (by decide +kernel) (by decide +kernel)
set_option maxRecDepth 20000 in
theorem gX3_advise_X2_copyFrom : GoodIn wsX3_advise (wsV RX3 163 RX2 yX2_copyFrom wsX2_copyFrom) := goodIn_app (goodIn_of _ (by decide +kernel)) ggX3_advise_X2_copyFrom
set_option maxRecDepth 20000 in
theorem ggX3_advise_X1_putWaxOn : GoodIn wsX3_advise wsX1_putWaxOn := goodIn_r _ [66, 57, 58, 162, 163, 164, 165, 166, 167, 168, 169, 170] (by decide +kernel) (by decide +kernel)
set_option maxRecDepth 20000 in
theorem gX3_advise_X1_putWaxOn : GoodIn wsX3_advise (wsV RX3 116 RX1 yX1_putWaxOn wsX1_putWaxOn) := goodIn_app (goodIn_of _ (by decide +kernel)) ggX3_advise_X1_putWaxOn
set_option maxRecDepth 20000 in
theorem ggX3_advise_X2_letHoursGo : GoodIn wsX3_advise wsX2_letHoursGo := goodIn_r _ [70, 29, 24, 71, 72, 73, 22, 74, 26, 75, 76, 77, 78, 79, 17, 80, 81, 82, 83, 44, 84, 46, 85, 86, 87, 88, 49, 89, 90, 33, 34, 35, 36, 91, 92, 93, 94, 95, 96, 97, 30, 27, 98, 25, 99, 28, 100, 101, 102, 12, 103, 14, 61, 104, 105, 106, 107, 62, 108, 10, 11, 13, 109, 110, 111, 112, 113, 114, 115, 116, 117, 118, 119, 120, 121, 122, 123, 124, 125, 126, 127, 47, 48, 128, 129, 130, 131, 132, 133, 134, 135, 136, 137, 138, 139, 58, 57, 140, 141, 142, 143, 144, 145, 146, 59, 147, 148, 149, 150, 151, 152, 155, 156, 157, 158, 159, 160, 161, 171, 172, 173, 174, 175, 162, 163, 164, 165, 166, 167, 168, 169, 170] (by decide +kernel) (by decide +kernel)
set_option maxRecDepth 20000 in
theorem gX3_advise_X2_letHoursGo : GoodIn wsX3_advise (wsV RX3 160 RX2 yX2_letHoursGo wsX2_letHoursGo) := goodIn_app (goodIn_of _ (by decide +kernel)) ggX3_advise_X2_letHoursGo
theorem dX3_advise_0 : decode cX3_advise 0 = .ok (.aload_n 0, 1) := by decide +kernel
theorem dX3_advise_1 : decode cX3_advise 1 = .ok (.getfield 10, 3) := by decide +kernel
theorem dX3_advise_4 : decode cX3_advise 4 = .ok (.getfield 97, 3) := by decide +kernel
theorem dX3_advise_7 : decode cX3_advise 7 = .ok (.iload_n 1, 1) := by decide +kernel
theorem dX3_advise_8 : decode cX3_advise 8 = .ok (.invokevirtual 107, 3) := by decide +kernel
theorem dX3_advise_11 : decode cX3_advise 11 = .ok (.ifCond .ne 13, 3) := by decide +kernel
theorem dX3_advise_14 : decode cX3_advise 14 = .ok (.new 23, 3) := by decide +kernel
theorem dX3_advise_17 : decode cX3_advise 17 = .ok (.dup, 1) := by decide +kernel
theorem dX3_advise_18 : decode cX3_advise 18 = .ok (.ldc 108, 2) := by decide +kernel
theorem dX3_advise_20 : decode cX3_advise 20 = .ok (.invokespecial 27, 3) := by decide +kernel
theorem dX3_advise_23 : decode cX3_advise 23 = .ok (.athrow, 1) := by decide +kernel
theorem dX3_advise_24 : decode cX3_advise 24 = .ok (.iload_n 2, 1) := by decide +kernel
theorem dX3_advise_25 : decode cX3_advise 25 = .ok (.iconst 1, 1) := by decide +kernel
theorem dX3_advise_26 : decode cX3_advise 26 = .ok (.bipush 12, 2) := by decide +kernel
theorem dX3_advise_28 : decode cX3_advise 28 = .ok (.invokestatic 19, 3) := by decide +kernel
theorem dX3_advise_31 : decode cX3_advise 31 = .ok (.ifCond .ne 13, 3) := by decide +kernel
theorem dX3_advise_34 : decode cX3_advise 34 = .ok (.new 30, 3) := by decide +kernel
theorem dX3_advise_37 : decode cX3_advise 37 = .ok (.dup, 1) := by decide +kernel
theorem dX3_advise_38 : decode cX3_advise 38 = .ok (.ldc 170, 2) := by decide +kernel
theorem dX3_advise_40 : decode cX3_advise 40 = .ok (.invokespecial 34, 3) := by decide +kernel
theorem dX3_advise_43 : decode cX3_advise 43 = .ok (.athrow, 1) := by decide +kernel
theorem dX3_advise_44 : decode cX3_advise 44 = .ok (.iconst 0, 1) := by decide +kernel
theorem dX3_advise_45 : decode cX3_advise 45 = .ok (.istore_n 3, 1) := by decide +kernel
theorem dX3_advise_46 : decode cX3_advise 46 = .ok (.iconst (-1), 1) := by decide +kernel
theorem dX3_advise_47 : decode cX3_advise 47 = .ok (.istore 4, 2) := by decide +kernel
theorem dX3_advise_49 : decode cX3_advise 49 = .ok (.iconst 0, 1) := by decide +kernel
theorem dX3_advise_50 : decode cX3_advise 50 = .ok (.istore 5, 2) := by decide +kernel
theorem dX3_advise_52 : decode cX3_advise 52 = .ok (.iload 5, 2) := by decide +kernel
theorem dX3_advise_54 : decode cX3_advise 54 = .ok (.iconst 4, 1) := by decide +kernel
theorem dX3_advise_55 : decode cX3_advise 55 = .ok (.if_icmp .ge 76, 3) := by decide +kernel
theorem dX3_advise_58 : decode cX3_advise 58 = .ok (.aload_n 0, 1) := by decide +kernel
theorem dX3_advise_59 : decode cX3_advise 59 = .ok (.getfield 16, 3) := by decide +kernel
theorem dX3_advise_62 : decode cX3_advise 62 = .ok (.aload_n 0, 1) := by decide +kernel
theorem dX3_advise_63 : decode cX3_advise 63 = .ok (.getfield 10, 3) := by decide +kernel
theorem dX3_advise_66 : decode cX3_advise 66 = .ok (.invokevirtual 163, 3) := by decide +kernel
theorem dX3_advise_69 : decode cX3_advise 69 = .ok (.aload_n 0, 1) := by decide +kernel
theorem dX3_advise_70 : decode cX3_advise 70 = .ok (.getfield 16, 3) := by decide +kernel
theorem dX3_advise_73 : decode cX3_advise 73 = .ok (.getfield 97, 3) := by decide +kernel
theorem dX3_advise_76 : decode cX3_advise 76 = .ok (.iload_n 1, 1) := by decide +kernel
theorem dX3_advise_77 : decode cX3_advise 77 = .ok (.iload 5, 2) := by decide +kernel
theorem dX3_advise_79 : decode cX3_advise 79 = .ok (.invokevirtual 116, 3) := by decide +kernel
theorem dX3_advise_82 : decode cX3_advise 82 = .ok (.aload_n 0, 1) := by decide +kernel
theorem dX3_advise_83 : decode cX3_advise 83 = .ok (.getfield 16, 3) := by decide +kernel
theorem dX3_advise_86 : decode cX3_advise 86 = .ok (.iload_n 2, 1) := by decide +kernel
theorem dX3_advise_87 : decode cX3_advise 87 = .ok (.invokevirtual 160, 3) := by decide +kernel
theorem dX3_advise_90 : decode cX3_advise 90 = .ok (.pop, 1) := by decide +kernel
theorem dX3_advise_91 : decode cX3_advise 91 = .ok (.aload_n 0, 1) := by decide +kernel
theorem dX3_advise_92 : decode cX3_advise 92 = .ok (.getfield 16, 3) := by decide +kernel
theorem dX3_advise_95 : decode cX3_advise 95 = .ok (.getfield 97, 3) := by decide +kernel
theorem dX3_advise_98 : decode cX3_advise 98 = .ok (.getfield 172, 3) := by decide +kernel
theorem dX3_advise_101 : decode cX3_advise 101 = .ok (.iload_n 1, 1) := by decide +kernel
theorem dX3_advise_102 : decode cX3_advise 102 = .ok (.iaload, 1) := by decide +kernel
theorem dX3_advise_103 : decode cX3_advise 103 = .ok (.iload 4, 2) := by decide +kernel
theorem dX3_advise_105 : decode cX3_advise 105 = .ok (.if_icmp .le 20, 3) := by decide +kernel
theorem dX3_advise_108 : decode cX3_advise 108 = .ok (.aload_n 0, 1) := by decide +kernel
theorem dX3_advise_109 : decode cX3_advise 109 = .ok (.getfield 16, 3) := by decide +kernel
theorem dX3_advise_112 : decode cX3_advise 112 = .ok (.getfield 97, 3) := by decide +kernel
theorem dX3_advise_115 : decode cX3_advise 115 = .ok (.getfield 172, 3) := by decide +kernel
theorem dX3_advise_118 : decode cX3_advise 118 = .ok (.iload_n 1, 1) := by decide +kernel
theorem dX3_advise_119 : decode cX3_advise 119 = .ok (.iaload, 1) := by decide +kernel
theorem dX3_advise_120 : decode cX3_advise 120 = .ok (.istore 4, 2) := by decide +kernel
theorem dX3_advise_122 : decode cX3_advise 122 = .ok (.iload 5, 2) := by decide +kernel
theorem dX3_advise_124 : decode cX3_advise 124 = .ok (.istore_n 3, 1) := by decide +kernel
theorem dX3_advise_125 : decode cX3_advise 125 = .ok (.iinc 5 1, 3) := by decide +kernel
theorem dX3_advise_128 : decode cX3_advise 128 = .ok (.goto (-76), 3) := by decide +kernel
theorem dX3_advise_131 : decode cX3_advise 131 = .ok (.iload_n 3, 1) := by decide +kernel
theorem dX3_advise_132 : decode cX3_advise 132 = .ok (.ireturn, 1) := by decide +kernel
set_option maxRecDepth 20000 in
theorem ggX3_mean_X1_allPoints : GoodIn wsX3_mean wsX1_allPoints := goodIn_r _ [8, 9, 10, 20, 21, 22, 23, 24, 25, 26, 27, 28] (by decide +kernel) (by decide +kernel)
set_option maxRecDepth 20000 in
theorem gX3_mean_X1_allPoints : GoodIn wsX3_mean (wsV RX3 178 RX1 yX1_allPoints wsX1_allPoints) := goodIn_app (goodIn_of _ (by decide +kernel)) ggX3_mean_X1_allPoints
theorem dX3_mean_0 : decode cX3_mean 0 = .ok (.aload_n 0, 1) := by decide +kernel
theorem dX3_mean_1 : decode cX3_mean 1 = .ok (.getfield 10, 3) := by decide +kernel
theorem dX3_mean_4 : decode cX3_mean 4 = .ok (.getfield 97, 3) := by decide +kernel
theorem dX3_mean_7 : decode cX3_mean 7 = .ok (.getfield 175, 3) := by decide +kernel
theorem dX3_mean_10 : decode cX3_mean 10 = .ok (.ifCond .gt 5, 3) := by decide +kernel
theorem dX3_mean_13 : decode cX3_mean 13 = .ok (.dconst 0, 1) := by decide +kernel
theorem dX3_mean_14 : decode cX3_mean 14 = .ok (.dreturn, 1) := by decide +kernel
theorem dX3_mean_15 : decode cX3_mean 15 = .ok (.aload_n 0, 1) := by decide +kernel
theorem dX3_mean_16 : decode cX3_mean 16 = .ok (.getfield 10, 3) := by decide +kernel
theorem dX3_mean_19 : decode cX3_mean 19 = .ok (.getfield 97, 3) := by decide +kernel
theorem dX3_mean_22 : decode cX3_mean 22 = .ok (.invokevirtual 178, 3) := by decide +kernel
theorem dX3_mean_25 : decode cX3_mean 25 = .ok (.i2d, 1) := by decide +kernel
theorem dX3_mean_26 : decode cX3_mean 26 = .ok (.aload_n 0, 1) := by decide +kernel
theorem dX3_mean_27 : decode cX3_mean 27 = .ok (.getfield 10, 3) := by decide +kernel
theorem dX3_mean_30 : decode cX3_mean 30 = .ok (.getfield 97, 3) := by decide +kernel
theorem dX3_mean_33 : decode cX3_mean 33 = .ok (.getfield 175, 3) := by decide +kernel
theorem dX3_mean_36 : decode cX3_mean 36 = .ok (.i2d, 1) := by decide +kernel
theorem dX3_mean_37 : decode cX3_mean 37 = .ok (.ddiv, 1) := by decide +kernel
theorem dX3_mean_38 : decode cX3_mean 38 = .ok (.dreturn, 1) := by decide +kernel
set_option maxRecDepth 20000 in
theorem ggX3_digest_X2_figure : GoodIn wsX3_digest wsX2_figure := goodIn_r _ [12, 13, 14, 15, 16, 17, 18, 19, 20, 21, 11, 22, 23, 24, 25, 26, 27, 28, 29, 30, 31, 32, 33, 34, 35, 36, 37, 38, 39, 40, 41, 42, 43, 44, 45, 46, 47, 48, 49, 50, 51, 52, 53, 54, 55, 56, 94, 95, 96, 97, 98, 99, 100, 101, 102, 103, 104, 105, 106, 107, 108, 109, 110, 111, 112, 113, 114] (by decide +kernel) (by decide +kernel)
set_option maxRecDepth 20000 in
theorem gX3_digest_X2_figure : GoodIn wsX3_digest (wsV RX3 155 RX2 yX2_figure wsX2_figure) := goodIn_app (goodIn_of _ (by decide +kernel)) ggX3_digest_X2_figure
set_option maxRecDepth 20000 in
theorem ggX3_digest_X3_mixed : GoodIn wsX3_digest wsX3_mixed := goodIn_r _ [60, 61] (by decide +kernel) (by decide +kernel)
set_option maxRecDepth 20000 in
theorem gX3_digest_X3_mixed : GoodIn wsX3_digest (va_wsS RX3 184 yX3_mixed wsX3_mixed) := goodIn_app (goodIn_of _ (by decide +kernel)) ggX3_digest_X3_mixed
set_option maxRecDepth 20000 in
theorem ggX3_digest_X0_figure : GoodIn wsX3_digest wsX0_figure := goodIn_r _ [65, 66, 39, 38, 67, 34, 35, 36, 31, 37, 101, 102, 103, 104, 105] (by decide +kernel) (by decide +kernel)
set_option maxRecDepth 20000 in
theorem gX3_digest_X0_figure : GoodIn wsX3_digest (wsV RX3 134 RX0 yX0_figure wsX0_figure) := goodIn_app (goodIn_of _ (by decide +kernel)) ggX3_digest_X0_figure
set_option maxRecDepth 20000 in
theorem ggX3_digest_X1_figure : GoodIn wsX3_digest wsX1_figure := goodIn_r _ [71, 72, 73, 74, 75, 56, 76, 51, 106, 107, 108, 109, 110, 111, 112, 113, 114] (by decide +kernel) (by decide +kernel)
set_option maxRecDepth 20000 in
theorem gX3_digest_X1_figure : GoodIn wsX3_digest (wsV RX3 139 RX1 yX1_figure wsX1_figure) := goodIn_app (goodIn_of _ (by decide +kernel)) ggX3_digest_X1_figure
set_option maxRecDepth 20000 in
theorem ggX3_digest_X2_towFigure : GoodIn wsX3_digest wsX2_towFigure := goodIn_r _ [80, 81, 17, 44, 82, 83, 84, 48, 85, 50, 51, 94, 95, 96, 97, 98, 99, 100, 106, 107, 108, 109, 110, 111, 112, 113, 114] (by decide +kernel) (by decide +kernel)
set_option maxRecDepth 20000 in
theorem gX3_digest_X2_towFigure : GoodIn wsX3_digest (wsV RX3 142 RX2 yX2_towFigure wsX2_towFigure) := goodIn_app (goodIn_of _ (by decide +kernel)) ggX3_digest_X2_towFigure
set_option maxRecDepth 20000 in
theorem ggX3_digest_X1_waitingAt : GoodIn wsX3_digest wsX1_waitingAt := goodIn_r _ [85, 50, 51, 106, 107, 108, 109, 110, 111, 112, 113, 114] (by decide +kernel) (by decide +kernel)
set_option maxRecDepth 20000 in
theorem gX3_digest_X1_waitingAt : GoodIn wsX3_digest (wsV RX3 189 RX1 yX1_waitingAt wsX1_waitingAt) := goodIn_app (goodIn_of _ (by decide +kernel)) ggX3_digest_X1_waitingAt
set_option maxRecDepth 20000 in
theorem ggX3_digest_X1_at : GoodIn wsX3_digest wsX1_at := goodIn_r _ [90, 50, 51, 91, 106, 107, 108, 109, 110, 111, 112, 113, 114] (by decide +kernel) (by decide +kernel)
set_option maxRecDepth 20000 in
theorem gX3_digest_X1_at : GoodIn wsX3_digest (wsV RX3 145 RX1 yX1_at wsX1_at) := goodIn_app (goodIn_of _ (by decide +kernel)) ggX3_digest_X1_at
theorem dX3_digest_0 : decode cX3_digest 0 = .ok (.ldc2_w 182, 3) := by decide +kernel
theorem dX3_digest_3 : decode cX3_digest 3 = .ok (.lstore_n 1, 1) := by decide +kernel
theorem dX3_digest_4 : decode cX3_digest 4 = .ok (.iconst 0, 1) := by decide +kernel
theorem dX3_digest_5 : decode cX3_digest 5 = .ok (.istore_n 3, 1) := by decide +kernel
theorem dX3_digest_6 : decode cX3_digest 6 = .ok (.iload_n 3, 1) := by decide +kernel
theorem dX3_digest_7 : decode cX3_digest 7 = .ok (.bipush 9, 2) := by decide +kernel
theorem dX3_digest_9 : decode cX3_digest 9 = .ok (.if_icmp .ge 22, 3) := by decide +kernel
theorem dX3_digest_12 : decode cX3_digest 12 = .ok (.lload_n 1, 1) := by decide +kernel
theorem dX3_digest_13 : decode cX3_digest 13 = .ok (.aload_n 0, 1) := by decide +kernel
theorem dX3_digest_14 : decode cX3_digest 14 = .ok (.getfield 10, 3) := by decide +kernel
theorem dX3_digest_17 : decode cX3_digest 17 = .ok (.iload_n 3, 1) := by decide +kernel
theorem dX3_digest_18 : decode cX3_digest 18 = .ok (.invokevirtual 155, 3) := by decide +kernel
theorem dX3_digest_21 : decode cX3_digest 21 = .ok (.invokestatic 184, 3) := by decide +kernel
theorem dX3_digest_24 : decode cX3_digest 24 = .ok (.lstore_n 1, 1) := by decide +kernel
theorem dX3_digest_25 : decode cX3_digest 25 = .ok (.iinc 3 1, 3) := by decide +kernel
theorem dX3_digest_28 : decode cX3_digest 28 = .ok (.goto (-22), 3) := by decide +kernel
theorem dX3_digest_31 : decode cX3_digest 31 = .ok (.iconst 0, 1) := by decide +kernel
theorem dX3_digest_32 : decode cX3_digest 32 = .ok (.istore_n 3, 1) := by decide +kernel
theorem dX3_digest_33 : decode cX3_digest 33 = .ok (.iload_n 3, 1) := by decide +kernel
theorem dX3_digest_34 : decode cX3_digest 34 = .ok (.bipush 6, 2) := by decide +kernel
theorem dX3_digest_36 : decode cX3_digest 36 = .ok (.if_icmp .ge 23, 3) := by decide +kernel
theorem dX3_digest_39 : decode cX3_digest 39 = .ok (.lload_n 1, 1) := by decide +kernel
theorem dX3_digest_40 : decode cX3_digest 40 = .ok (.aload_n 0, 1) := by decide +kernel
theorem dX3_digest_41 : decode cX3_digest 41 = .ok (.getfield 10, 3) := by decide +kernel
theorem dX3_digest_44 : decode cX3_digest 44 = .ok (.getfield 64, 3) := by decide +kernel
theorem dX3_digest_47 : decode cX3_digest 47 = .ok (.iload_n 3, 1) := by decide +kernel
theorem dX3_digest_48 : decode cX3_digest 48 = .ok (.iaload, 1) := by decide +kernel
theorem dX3_digest_49 : decode cX3_digest 49 = .ok (.invokestatic 184, 3) := by decide +kernel
theorem dX3_digest_52 : decode cX3_digest 52 = .ok (.lstore_n 1, 1) := by decide +kernel
theorem dX3_digest_53 : decode cX3_digest 53 = .ok (.iinc 3 1, 3) := by decide +kernel
theorem dX3_digest_56 : decode cX3_digest 56 = .ok (.goto (-23), 3) := by decide +kernel
theorem dX3_digest_59 : decode cX3_digest 59 = .ok (.iconst 0, 1) := by decide +kernel
theorem dX3_digest_60 : decode cX3_digest 60 = .ok (.istore_n 3, 1) := by decide +kernel
theorem dX3_digest_61 : decode cX3_digest 61 = .ok (.iload_n 3, 1) := by decide +kernel
theorem dX3_digest_62 : decode cX3_digest 62 = .ok (.aload_n 0, 1) := by decide +kernel
theorem dX3_digest_63 : decode cX3_digest 63 = .ok (.getfield 10, 3) := by decide +kernel
theorem dX3_digest_66 : decode cX3_digest 66 = .ok (.getfield 35, 3) := by decide +kernel
theorem dX3_digest_69 : decode cX3_digest 69 = .ok (.getfield 188, 3) := by decide +kernel
theorem dX3_digest_72 : decode cX3_digest 72 = .ok (.if_icmp .ge 42, 3) := by decide +kernel
theorem dX3_digest_75 : decode cX3_digest 75 = .ok (.iconst 0, 1) := by decide +kernel
theorem dX3_digest_76 : decode cX3_digest 76 = .ok (.istore 4, 2) := by decide +kernel
theorem dX3_digest_78 : decode cX3_digest 78 = .ok (.iload 4, 2) := by decide +kernel
theorem dX3_digest_80 : decode cX3_digest 80 = .ok (.iconst 5, 1) := by decide +kernel
theorem dX3_digest_81 : decode cX3_digest 81 = .ok (.if_icmp .ge 27, 3) := by decide +kernel
theorem dX3_digest_84 : decode cX3_digest 84 = .ok (.lload_n 1, 1) := by decide +kernel
theorem dX3_digest_85 : decode cX3_digest 85 = .ok (.aload_n 0, 1) := by decide +kernel
theorem dX3_digest_86 : decode cX3_digest 86 = .ok (.getfield 10, 3) := by decide +kernel
theorem dX3_digest_89 : decode cX3_digest 89 = .ok (.getfield 35, 3) := by decide +kernel
theorem dX3_digest_92 : decode cX3_digest 92 = .ok (.iload_n 3, 1) := by decide +kernel
theorem dX3_digest_93 : decode cX3_digest 93 = .ok (.iload 4, 2) := by decide +kernel
theorem dX3_digest_95 : decode cX3_digest 95 = .ok (.invokevirtual 134, 3) := by decide +kernel
theorem dX3_digest_98 : decode cX3_digest 98 = .ok (.invokestatic 184, 3) := by decide +kernel
theorem dX3_digest_101 : decode cX3_digest 101 = .ok (.lstore_n 1, 1) := by decide +kernel
theorem dX3_digest_102 : decode cX3_digest 102 = .ok (.iinc 4 1, 3) := by decide +kernel
theorem dX3_digest_105 : decode cX3_digest 105 = .ok (.goto (-27), 3) := by decide +kernel
theorem dX3_digest_108 : decode cX3_digest 108 = .ok (.iinc 3 1, 3) := by decide +kernel
theorem dX3_digest_111 : decode cX3_digest 111 = .ok (.goto (-50), 3) := by decide +kernel
theorem dX3_digest_114 : decode cX3_digest 114 = .ok (.iconst 0, 1) := by decide +kernel
theorem dX3_digest_115 : decode cX3_digest 115 = .ok (.istore_n 3, 1) := by decide +kernel
theorem dX3_digest_116 : decode cX3_digest 116 = .ok (.iload_n 3, 1) := by decide +kernel
theorem dX3_digest_117 : decode cX3_digest 117 = .ok (.aload_n 0, 1) := by decide +kernel
theorem dX3_digest_118 : decode cX3_digest 118 = .ok (.getfield 10, 3) := by decide +kernel
theorem dX3_digest_121 : decode cX3_digest 121 = .ok (.getfield 97, 3) := by decide +kernel
theorem dX3_digest_124 : decode cX3_digest 124 = .ok (.getfield 175, 3) := by decide +kernel
theorem dX3_digest_127 : decode cX3_digest 127 = .ok (.if_icmp .ge 43, 3) := by decide +kernel
theorem dX3_digest_130 : decode cX3_digest 130 = .ok (.iconst 0, 1) := by decide +kernel
theorem dX3_digest_131 : decode cX3_digest 131 = .ok (.istore 4, 2) := by decide +kernel
theorem dX3_digest_133 : decode cX3_digest 133 = .ok (.iload 4, 2) := by decide +kernel
theorem dX3_digest_135 : decode cX3_digest 135 = .ok (.bipush 7, 2) := by decide +kernel
theorem dX3_digest_137 : decode cX3_digest 137 = .ok (.if_icmp .ge 27, 3) := by decide +kernel
theorem dX3_digest_140 : decode cX3_digest 140 = .ok (.lload_n 1, 1) := by decide +kernel
theorem dX3_digest_141 : decode cX3_digest 141 = .ok (.aload_n 0, 1) := by decide +kernel
theorem dX3_digest_142 : decode cX3_digest 142 = .ok (.getfield 10, 3) := by decide +kernel
theorem dX3_digest_145 : decode cX3_digest 145 = .ok (.getfield 97, 3) := by decide +kernel
theorem dX3_digest_148 : decode cX3_digest 148 = .ok (.iload_n 3, 1) := by decide +kernel
theorem dX3_digest_149 : decode cX3_digest 149 = .ok (.iload 4, 2) := by decide +kernel
theorem dX3_digest_151 : decode cX3_digest 151 = .ok (.invokevirtual 139, 3) := by decide +kernel
theorem dX3_digest_154 : decode cX3_digest 154 = .ok (.invokestatic 184, 3) := by decide +kernel
theorem dX3_digest_157 : decode cX3_digest 157 = .ok (.lstore_n 1, 1) := by decide +kernel
theorem dX3_digest_158 : decode cX3_digest 158 = .ok (.iinc 4 1, 3) := by decide +kernel
theorem dX3_digest_161 : decode cX3_digest 161 = .ok (.goto (-28), 3) := by decide +kernel
theorem dX3_digest_164 : decode cX3_digest 164 = .ok (.iinc 3 1, 3) := by decide +kernel
theorem dX3_digest_167 : decode cX3_digest 167 = .ok (.goto (-51), 3) := by decide +kernel
theorem dX3_digest_170 : decode cX3_digest 170 = .ok (.iconst 0, 1) := by decide +kernel
theorem dX3_digest_171 : decode cX3_digest 171 = .ok (.istore_n 3, 1) := by decide +kernel
theorem dX3_digest_172 : decode cX3_digest 172 = .ok (.iload_n 3, 1) := by decide +kernel
theorem dX3_digest_173 : decode cX3_digest 173 = .ok (.iconst 3, 1) := by decide +kernel
theorem dX3_digest_174 : decode cX3_digest 174 = .ok (.if_icmp .ge 86, 3) := by decide +kernel
theorem dX3_digest_177 : decode cX3_digest 177 = .ok (.iconst 0, 1) := by decide +kernel
theorem dX3_digest_178 : decode cX3_digest 178 = .ok (.istore 4, 2) := by decide +kernel
theorem dX3_digest_180 : decode cX3_digest 180 = .ok (.iload 4, 2) := by decide +kernel
theorem dX3_digest_182 : decode cX3_digest 182 = .ok (.iconst 3, 1) := by decide +kernel
theorem dX3_digest_183 : decode cX3_digest 183 = .ok (.if_icmp .ge 24, 3) := by decide +kernel
theorem dX3_digest_186 : decode cX3_digest 186 = .ok (.lload_n 1, 1) := by decide +kernel
theorem dX3_digest_187 : decode cX3_digest 187 = .ok (.aload_n 0, 1) := by decide +kernel
theorem dX3_digest_188 : decode cX3_digest 188 = .ok (.getfield 10, 3) := by decide +kernel
theorem dX3_digest_191 : decode cX3_digest 191 = .ok (.iload_n 3, 1) := by decide +kernel
theorem dX3_digest_192 : decode cX3_digest 192 = .ok (.iload 4, 2) := by decide +kernel
theorem dX3_digest_194 : decode cX3_digest 194 = .ok (.invokevirtual 142, 3) := by decide +kernel
theorem dX3_digest_197 : decode cX3_digest 197 = .ok (.invokestatic 184, 3) := by decide +kernel
theorem dX3_digest_200 : decode cX3_digest 200 = .ok (.lstore_n 1, 1) := by decide +kernel
theorem dX3_digest_201 : decode cX3_digest 201 = .ok (.iinc 4 1, 3) := by decide +kernel
theorem dX3_digest_204 : decode cX3_digest 204 = .ok (.goto (-24), 3) := by decide +kernel
theorem dX3_digest_207 : decode cX3_digest 207 = .ok (.aload_n 0, 1) := by decide +kernel
theorem dX3_digest_208 : decode cX3_digest 208 = .ok (.getfield 10, 3) := by decide +kernel
theorem dX3_digest_211 : decode cX3_digest 211 = .ok (.getfield 97, 3) := by decide +kernel
theorem dX3_digest_214 : decode cX3_digest 214 = .ok (.iload_n 3, 1) := by decide +kernel
theorem dX3_digest_215 : decode cX3_digest 215 = .ok (.invokevirtual 189, 3) := by decide +kernel
theorem dX3_digest_218 : decode cX3_digest 218 = .ok (.istore 4, 2) := by decide +kernel
theorem dX3_digest_220 : decode cX3_digest 220 = .ok (.iconst 0, 1) := by decide +kernel
theorem dX3_digest_221 : decode cX3_digest 221 = .ok (.istore 5, 2) := by decide +kernel
theorem dX3_digest_223 : decode cX3_digest 223 = .ok (.iload 5, 2) := by decide +kernel
theorem dX3_digest_225 : decode cX3_digest 225 = .ok (.iload 4, 2) := by decide +kernel
theorem dX3_digest_227 : decode cX3_digest 227 = .ok (.if_icmp .ge 27, 3) := by decide +kernel
theorem dX3_digest_230 : decode cX3_digest 230 = .ok (.lload_n 1, 1) := by decide +kernel
theorem dX3_digest_231 : decode cX3_digest 231 = .ok (.aload_n 0, 1) := by decide +kernel
theorem dX3_digest_232 : decode cX3_digest 232 = .ok (.getfield 10, 3) := by decide +kernel
theorem dX3_digest_235 : decode cX3_digest 235 = .ok (.getfield 97, 3) := by decide +kernel
theorem dX3_digest_238 : decode cX3_digest 238 = .ok (.iload_n 3, 1) := by decide +kernel
theorem dX3_digest_239 : decode cX3_digest 239 = .ok (.iload 5, 2) := by decide +kernel
theorem dX3_digest_241 : decode cX3_digest 241 = .ok (.invokevirtual 145, 3) := by decide +kernel
theorem dX3_digest_244 : decode cX3_digest 244 = .ok (.invokestatic 184, 3) := by decide +kernel
theorem dX3_digest_247 : decode cX3_digest 247 = .ok (.lstore_n 1, 1) := by decide +kernel
theorem dX3_digest_248 : decode cX3_digest 248 = .ok (.iinc 5 1, 3) := by decide +kernel
theorem dX3_digest_251 : decode cX3_digest 251 = .ok (.goto (-28), 3) := by decide +kernel
theorem dX3_digest_254 : decode cX3_digest 254 = .ok (.iinc 3 1, 3) := by decide +kernel
theorem dX3_digest_257 : decode cX3_digest 257 = .ok (.goto (-85), 3) := by decide +kernel
theorem dX3_digest_260 : decode cX3_digest 260 = .ok (.lload_n 1, 1) := by decide +kernel
theorem dX3_digest_261 : decode cX3_digest 261 = .ok (.lreturn, 1) := by decide +kernel
theorem dX3_mixed_0 : decode cX3_mixed 0 = .ok (.lload_n 0, 1) := by decide +kernel
theorem dX3_mixed_1 : decode cX3_mixed 1 = .ok (.ldc2_w 192, 3) := by decide +kernel
theorem dX3_mixed_4 : decode cX3_mixed 4 = .ok (.lmul, 1) := by decide +kernel
theorem dX3_mixed_5 : decode cX3_mixed 5 = .ok (.iload_n 2, 1) := by decide +kernel
theorem dX3_mixed_6 : decode cX3_mixed 6 = .ok (.i2l, 1) := by decide +kernel
theorem dX3_mixed_7 : decode cX3_mixed 7 = .ok (.ladd, 1) := by decide +kernel
theorem dX3_mixed_8 : decode cX3_mixed 8 = .ok (.lreturn, 1) := by decide +kernel
theorem dX3_isWithin_0 : decode cX3_isWithin 0 = .ok (.iload_n 0, 1) := by decide +kernel
theorem dX3_isWithin_1 : decode cX3_isWithin 1 = .ok (.iload_n 1, 1) := by decide +kernel
theorem dX3_isWithin_2 : decode cX3_isWithin 2 = .ok (.if_icmp .lt 12, 3) := by decide +kernel
theorem dX3_isWithin_5 : decode cX3_isWithin 5 = .ok (.iload_n 0, 1) := by decide +kernel
theorem dX3_isWithin_6 : decode cX3_isWithin 6 = .ok (.iload_n 2, 1) := by decide +kernel
theorem dX3_isWithin_7 : decode cX3_isWithin 7 = .ok (.if_icmp .gt 7, 3) := by decide +kernel
theorem dX3_isWithin_10 : decode cX3_isWithin 10 = .ok (.iconst 1, 1) := by decide +kernel
theorem dX3_isWithin_11 : decode cX3_isWithin 11 = .ok (.goto 4, 3) := by decide +kernel
theorem dX3_isWithin_14 : decode cX3_isWithin 14 = .ok (.iconst 0, 1) := by decide +kernel
theorem dX3_isWithin_15 : decode cX3_isWithin 15 = .ok (.ireturn, 1) := by decide +kernel
theorem dX3_held_0 : decode cX3_held 0 = .ok (.iload_n 1, 1) := by decide +kernel
theorem dX3_held_1 : decode cX3_held 1 = .ok (.iload_n 2, 1) := by decide +kernel
theorem dX3_held_2 : decode cX3_held 2 = .ok (.iload_n 0, 1) := by decide +kernel
theorem dX3_held_3 : decode cX3_held 3 = .ok (.invokestatic 194, 3) := by decide +kernel
theorem dX3_held_6 : decode cX3_held 6 = .ok (.invokestatic 199, 3) := by decide +kernel
theorem dX3_held_9 : decode cX3_held 9 = .ok (.ireturn, 1) := by decide +kernel
theorem dX3_copyRow_0 : decode cX3_copyRow 0 = .ok (.aload_n 0, 1) := by decide +kernel
theorem dX3_copyRow_1 : decode cX3_copyRow 1 = .ok (.iconst 0, 1) := by decide +kernel
theorem dX3_copyRow_2 : decode cX3_copyRow 2 = .ok (.aload_n 1, 1) := by decide +kernel
theorem dX3_copyRow_3 : decode cX3_copyRow 3 = .ok (.iconst 0, 1) := by decide +kernel
theorem dX3_copyRow_4 : decode cX3_copyRow 4 = .ok (.aload_n 0, 1) := by decide +kernel
theorem dX3_copyRow_5 : decode cX3_copyRow 5 = .ok (.arraylength, 1) := by decide +kernel
theorem dX3_copyRow_6 : decode cX3_copyRow 6 = .ok (.aload_n 1, 1) := by decide +kernel
theorem dX3_copyRow_7 : decode cX3_copyRow 7 = .ok (.arraylength, 1) := by decide +kernel
theorem dX3_copyRow_8 : decode cX3_copyRow 8 = .ok (.invokestatic 194, 3) := by decide +kernel
theorem dX3_copyRow_11 : decode cX3_copyRow 11 = .ok (.invokestatic 202, 3) := by decide +kernel
theorem dX3_copyRow_14 : decode cX3_copyRow 14 = .ok (.return_, 1) := by decide +kernel
theorem dX3_snowOf_0 : decode cX3_snowOf 0 = .ok (.iload_n 0, 1) := by decide +kernel
theorem dX3_snowOf_1 : decode cX3_snowOf 1 = .ok (.tableswitch 38 0 3 #[31, 38, 33, 36], 31) := by decide +kernel
theorem dX3_snowOf_32 : decode cX3_snowOf 32 = .ok (.iconst 4, 1) := by decide +kernel
theorem dX3_snowOf_33 : decode cX3_snowOf 33 = .ok (.ireturn, 1) := by decide +kernel
theorem dX3_snowOf_34 : decode cX3_snowOf 34 = .ok (.bipush (-2), 2) := by decide +kernel
theorem dX3_snowOf_36 : decode cX3_snowOf 36 = .ok (.ireturn, 1) := by decide +kernel
theorem dX3_snowOf_37 : decode cX3_snowOf 37 = .ok (.iconst (-1), 1) := by decide +kernel
theorem dX3_snowOf_38 : decode cX3_snowOf 38 = .ok (.ireturn, 1) := by decide +kernel
theorem dX3_snowOf_39 : decode cX3_snowOf 39 = .ok (.iconst 0, 1) := by decide +kernel
theorem dX3_snowOf_40 : decode cX3_snowOf 40 = .ok (.ireturn, 1) := by decide +kernel
theorem dX4_init_0 : decode cX4_init 0 = .ok (.aload_n 0, 1) := by decide +kernel
theorem dX4_init_1 : decode cX4_init 1 = .ok (.aload_n 1, 1) := by decide +kernel
theorem dX4_init_2 : decode cX4_init 2 = .ok (.putfield 3, 3) := by decide +kernel
theorem dX4_init_5 : decode cX4_init 5 = .ok (.aload_n 0, 1) := by decide +kernel
theorem dX4_init_6 : decode cX4_init 6 = .ok (.invokespecial 9, 3) := by decide +kernel
theorem dX4_init_9 : decode cX4_init 9 = .ok (.aload_n 0, 1) := by decide +kernel
theorem dX4_init_10 : decode cX4_init 10 = .ok (.bipush 6, 2) := by decide +kernel
theorem dX4_init_12 : decode cX4_init 12 = .ok (.newarray .int, 2) := by decide +kernel
theorem dX4_init_14 : decode cX4_init 14 = .ok (.putfield 15, 3) := by decide +kernel
theorem dX4_init_17 : decode cX4_init 17 = .ok (.aload_n 0, 1) := by decide +kernel
theorem dX4_init_18 : decode cX4_init 18 = .ok (.bipush 6, 2) := by decide +kernel
theorem dX4_init_20 : decode cX4_init 20 = .ok (.newarray .int, 2) := by decide +kernel
theorem dX4_init_22 : decode cX4_init 22 = .ok (.putfield 19, 3) := by decide +kernel
theorem dX4_init_25 : decode cX4_init 25 = .ok (.aload_n 0, 1) := by decide +kernel
theorem dX4_init_26 : decode cX4_init 26 = .ok (.bipush 8, 2) := by decide +kernel
theorem dX4_init_28 : decode cX4_init 28 = .ok (.newarray .int, 2) := by decide +kernel
theorem dX4_init_30 : decode cX4_init 30 = .ok (.putfield 22, 3) := by decide +kernel
theorem dX4_init_33 : decode cX4_init 33 = .ok (.aload_n 0, 1) := by decide +kernel
theorem dX4_init_34 : decode cX4_init 34 = .ok (.bipush 8, 2) := by decide +kernel
theorem dX4_init_36 : decode cX4_init 36 = .ok (.newarray .int, 2) := by decide +kernel
theorem dX4_init_38 : decode cX4_init 38 = .ok (.putfield 25, 3) := by decide +kernel
theorem dX4_init_41 : decode cX4_init 41 = .ok (.aload_n 0, 1) := by decide +kernel
theorem dX4_init_42 : decode cX4_init 42 = .ok (.bipush 8, 2) := by decide +kernel
theorem dX4_init_44 : decode cX4_init 44 = .ok (.newarray .int, 2) := by decide +kernel
theorem dX4_init_46 : decode cX4_init 46 = .ok (.putfield 28, 3) := by decide +kernel
theorem dX4_init_49 : decode cX4_init 49 = .ok (.aload_n 0, 1) := by decide +kernel
theorem dX4_init_50 : decode cX4_init 50 = .ok (.bipush 8, 2) := by decide +kernel
theorem dX4_init_52 : decode cX4_init 52 = .ok (.newarray .int, 2) := by decide +kernel
theorem dX4_init_54 : decode cX4_init 54 = .ok (.putfield 31, 3) := by decide +kernel
theorem dX4_init_57 : decode cX4_init 57 = .ok (.aload_n 0, 1) := by decide +kernel
theorem dX4_init_58 : decode cX4_init 58 = .ok (.bipush 8, 2) := by decide +kernel
theorem dX4_init_60 : decode cX4_init 60 = .ok (.newarray .int, 2) := by decide +kernel
theorem dX4_init_62 : decode cX4_init 62 = .ok (.putfield 34, 3) := by decide +kernel
theorem dX4_init_65 : decode cX4_init 65 = .ok (.aload_n 0, 1) := by decide +kernel
theorem dX4_init_66 : decode cX4_init 66 = .ok (.iconst 3, 1) := by decide +kernel
theorem dX4_init_67 : decode cX4_init 67 = .ok (.newarray .int, 2) := by decide +kernel
theorem dX4_init_69 : decode cX4_init 69 = .ok (.putfield 37, 3) := by decide +kernel
theorem dX4_init_72 : decode cX4_init 72 = .ok (.aload_n 0, 1) := by decide +kernel
theorem dX4_init_73 : decode cX4_init 73 = .ok (.iconst 3, 1) := by decide +kernel
theorem dX4_init_74 : decode cX4_init 74 = .ok (.newarray .int, 2) := by decide +kernel
theorem dX4_init_76 : decode cX4_init 76 = .ok (.putfield 40, 3) := by decide +kernel
theorem dX4_init_79 : decode cX4_init 79 = .ok (.aload_n 0, 1) := by decide +kernel
theorem dX4_init_80 : decode cX4_init 80 = .ok (.bipush 24, 2) := by decide +kernel
theorem dX4_init_82 : decode cX4_init 82 = .ok (.newarray .int, 2) := by decide +kernel
theorem dX4_init_84 : decode cX4_init 84 = .ok (.putfield 43, 3) := by decide +kernel
theorem dX4_init_87 : decode cX4_init 87 = .ok (.return_, 1) := by decide +kernel
theorem dX4_become_0 : decode cX4_become 0 = .ok (.aload_n 0, 1) := by decide +kernel
theorem dX4_become_1 : decode cX4_become 1 = .ok (.aload_n 1, 1) := by decide +kernel
theorem dX4_become_2 : decode cX4_become 2 = .ok (.getfield 46, 3) := by decide +kernel
theorem dX4_become_5 : decode cX4_become 5 = .ok (.putfield 46, 3) := by decide +kernel
theorem dX4_become_8 : decode cX4_become 8 = .ok (.aload_n 0, 1) := by decide +kernel
theorem dX4_become_9 : decode cX4_become 9 = .ok (.aload_n 1, 1) := by decide +kernel
theorem dX4_become_10 : decode cX4_become 10 = .ok (.getfield 50, 3) := by decide +kernel
theorem dX4_become_13 : decode cX4_become 13 = .ok (.putfield 50, 3) := by decide +kernel
theorem dX4_become_16 : decode cX4_become 16 = .ok (.aload_n 0, 1) := by decide +kernel
theorem dX4_become_17 : decode cX4_become 17 = .ok (.aload_n 1, 1) := by decide +kernel
theorem dX4_become_18 : decode cX4_become 18 = .ok (.getfield 53, 3) := by decide +kernel
theorem dX4_become_21 : decode cX4_become 21 = .ok (.putfield 53, 3) := by decide +kernel
theorem dX4_become_24 : decode cX4_become 24 = .ok (.aload_n 1, 1) := by decide +kernel
theorem dX4_become_25 : decode cX4_become 25 = .ok (.getfield 15, 3) := by decide +kernel
theorem dX4_become_28 : decode cX4_become 28 = .ok (.iconst 0, 1) := by decide +kernel
theorem dX4_become_29 : decode cX4_become 29 = .ok (.aload_n 0, 1) := by decide +kernel
theorem dX4_become_30 : decode cX4_become 30 = .ok (.getfield 15, 3) := by decide +kernel
theorem dX4_become_33 : decode cX4_become 33 = .ok (.iconst 0, 1) := by decide +kernel
theorem dX4_become_34 : decode cX4_become 34 = .ok (.bipush 6, 2) := by decide +kernel
theorem dX4_become_36 : decode cX4_become 36 = .ok (.invokestatic 56, 3) := by decide +kernel
theorem dX4_become_39 : decode cX4_become 39 = .ok (.aload_n 1, 1) := by decide +kernel
theorem dX4_become_40 : decode cX4_become 40 = .ok (.getfield 19, 3) := by decide +kernel
theorem dX4_become_43 : decode cX4_become 43 = .ok (.iconst 0, 1) := by decide +kernel
theorem dX4_become_44 : decode cX4_become 44 = .ok (.aload_n 0, 1) := by decide +kernel
theorem dX4_become_45 : decode cX4_become 45 = .ok (.getfield 19, 3) := by decide +kernel
theorem dX4_become_48 : decode cX4_become 48 = .ok (.iconst 0, 1) := by decide +kernel
theorem dX4_become_49 : decode cX4_become 49 = .ok (.bipush 6, 2) := by decide +kernel
theorem dX4_become_51 : decode cX4_become 51 = .ok (.invokestatic 56, 3) := by decide +kernel
theorem dX4_become_54 : decode cX4_become 54 = .ok (.aload_n 1, 1) := by decide +kernel
theorem dX4_become_55 : decode cX4_become 55 = .ok (.getfield 22, 3) := by decide +kernel
theorem dX4_become_58 : decode cX4_become 58 = .ok (.iconst 0, 1) := by decide +kernel
theorem dX4_become_59 : decode cX4_become 59 = .ok (.aload_n 0, 1) := by decide +kernel
theorem dX4_become_60 : decode cX4_become 60 = .ok (.getfield 22, 3) := by decide +kernel
theorem dX4_become_63 : decode cX4_become 63 = .ok (.iconst 0, 1) := by decide +kernel
theorem dX4_become_64 : decode cX4_become 64 = .ok (.bipush 8, 2) := by decide +kernel
theorem dX4_become_66 : decode cX4_become 66 = .ok (.invokestatic 56, 3) := by decide +kernel
theorem dX4_become_69 : decode cX4_become 69 = .ok (.aload_n 1, 1) := by decide +kernel
theorem dX4_become_70 : decode cX4_become 70 = .ok (.getfield 25, 3) := by decide +kernel
theorem dX4_become_73 : decode cX4_become 73 = .ok (.iconst 0, 1) := by decide +kernel
theorem dX4_become_74 : decode cX4_become 74 = .ok (.aload_n 0, 1) := by decide +kernel
theorem dX4_become_75 : decode cX4_become 75 = .ok (.getfield 25, 3) := by decide +kernel
theorem dX4_become_78 : decode cX4_become 78 = .ok (.iconst 0, 1) := by decide +kernel
theorem dX4_become_79 : decode cX4_become 79 = .ok (.bipush 8, 2) := by decide +kernel
theorem dX4_become_81 : decode cX4_become 81 = .ok (.invokestatic 56, 3) := by decide +kernel
theorem dX4_become_84 : decode cX4_become 84 = .ok (.aload_n 1, 1) := by decide +kernel
theorem dX4_become_85 : decode cX4_become 85 = .ok (.getfield 28, 3) := by decide +kernel
theorem dX4_become_88 : decode cX4_become 88 = .ok (.iconst 0, 1) := by decide +kernel
theorem dX4_become_89 : decode cX4_become 89 = .ok (.aload_n 0, 1) := by decide +kernel
theorem dX4_become_90 : decode cX4_become 90 = .ok (.getfield 28, 3) := by decide +kernel
theorem dX4_become_93 : decode cX4_become 93 = .ok (.iconst 0, 1) := by decide +kernel
theorem dX4_become_94 : decode cX4_become 94 = .ok (.bipush 8, 2) := by decide +kernel
theorem dX4_become_96 : decode cX4_become 96 = .ok (.invokestatic 56, 3) := by decide +kernel
theorem dX4_become_99 : decode cX4_become 99 = .ok (.aload_n 1, 1) := by decide +kernel
theorem dX4_become_100 : decode cX4_become 100 = .ok (.getfield 31, 3) := by decide +kernel
theorem dX4_become_103 : decode cX4_become 103 = .ok (.iconst 0, 1) := by decide +kernel
theorem dX4_become_104 : decode cX4_become 104 = .ok (.aload_n 0, 1) := by decide +kernel
theorem dX4_become_105 : decode cX4_become 105 = .ok (.getfield 31, 3) := by decide +kernel
theorem dX4_become_108 : decode cX4_become 108 = .ok (.iconst 0, 1) := by decide +kernel
theorem dX4_become_109 : decode cX4_become 109 = .ok (.bipush 8, 2) := by decide +kernel
theorem dX4_become_111 : decode cX4_become 111 = .ok (.invokestatic 56, 3) := by decide +kernel
theorem dX4_become_114 : decode cX4_become 114 = .ok (.aload_n 1, 1) := by decide +kernel
theorem dX4_become_115 : decode cX4_become 115 = .ok (.getfield 34, 3) := by decide +kernel
theorem dX4_become_118 : decode cX4_become 118 = .ok (.iconst 0, 1) := by decide +kernel
theorem dX4_become_119 : decode cX4_become 119 = .ok (.aload_n 0, 1) := by decide +kernel
theorem dX4_become_120 : decode cX4_become 120 = .ok (.getfield 34, 3) := by decide +kernel
theorem dX4_become_123 : decode cX4_become 123 = .ok (.iconst 0, 1) := by decide +kernel
theorem dX4_become_124 : decode cX4_become 124 = .ok (.bipush 8, 2) := by decide +kernel
theorem dX4_become_126 : decode cX4_become 126 = .ok (.invokestatic 56, 3) := by decide +kernel
theorem dX4_become_129 : decode cX4_become 129 = .ok (.aload_n 1, 1) := by decide +kernel
theorem dX4_become_130 : decode cX4_become 130 = .ok (.getfield 37, 3) := by decide +kernel
theorem dX4_become_133 : decode cX4_become 133 = .ok (.iconst 0, 1) := by decide +kernel
theorem dX4_become_134 : decode cX4_become 134 = .ok (.aload_n 0, 1) := by decide +kernel
theorem dX4_become_135 : decode cX4_become 135 = .ok (.getfield 37, 3) := by decide +kernel
theorem dX4_become_138 : decode cX4_become 138 = .ok (.iconst 0, 1) := by decide +kernel
theorem dX4_become_139 : decode cX4_become 139 = .ok (.iconst 3, 1) := by decide +kernel
theorem dX4_become_140 : decode cX4_become 140 = .ok (.invokestatic 56, 3) := by decide +kernel
theorem dX4_become_143 : decode cX4_become 143 = .ok (.aload_n 1, 1) := by decide +kernel
theorem dX4_become_144 : decode cX4_become 144 = .ok (.getfield 40, 3) := by decide +kernel
theorem dX4_become_147 : decode cX4_become 147 = .ok (.iconst 0, 1) := by decide +kernel
theorem dX4_become_148 : decode cX4_become 148 = .ok (.aload_n 0, 1) := by decide +kernel
theorem dX4_become_149 : decode cX4_become 149 = .ok (.getfield 40, 3) := by decide +kernel
theorem dX4_become_152 : decode cX4_become 152 = .ok (.iconst 0, 1) := by decide +kernel
theorem dX4_become_153 : decode cX4_become 153 = .ok (.iconst 3, 1) := by decide +kernel
theorem dX4_become_154 : decode cX4_become 154 = .ok (.invokestatic 56, 3) := by decide +kernel
theorem dX4_become_157 : decode cX4_become 157 = .ok (.aload_n 1, 1) := by decide +kernel
theorem dX4_become_158 : decode cX4_become 158 = .ok (.getfield 43, 3) := by decide +kernel
theorem dX4_become_161 : decode cX4_become 161 = .ok (.iconst 0, 1) := by decide +kernel
theorem dX4_become_162 : decode cX4_become 162 = .ok (.aload_n 0, 1) := by decide +kernel
theorem dX4_become_163 : decode cX4_become 163 = .ok (.getfield 43, 3) := by decide +kernel
theorem dX4_become_166 : decode cX4_become 166 = .ok (.iconst 0, 1) := by decide +kernel
theorem dX4_become_167 : decode cX4_become 167 = .ok (.aload_n 0, 1) := by decide +kernel
theorem dX4_become_168 : decode cX4_become 168 = .ok (.getfield 43, 3) := by decide +kernel
theorem dX4_become_171 : decode cX4_become 171 = .ok (.arraylength, 1) := by decide +kernel
theorem dX4_become_172 : decode cX4_become 172 = .ok (.invokestatic 56, 3) := by decide +kernel
theorem dX4_become_175 : decode cX4_become 175 = .ok (.return_, 1) := by decide +kernel
theorem dX4_flake_0 : decode cX4_flake 0 = .ok (.aload_n 0, 1) := by decide +kernel
theorem dX4_flake_1 : decode cX4_flake 1 = .ok (.getfield 3, 3) := by decide +kernel
theorem dX4_flake_4 : decode cX4_flake 4 = .ok (.getfield 62, 3) := by decide +kernel
theorem dX4_flake_7 : decode cX4_flake 7 = .ok (.aload_n 0, 1) := by decide +kernel
theorem dX4_flake_8 : decode cX4_flake 8 = .ok (.getfield 46, 3) := by decide +kernel
theorem dX4_flake_11 : decode cX4_flake 11 = .ok (.bipush 6, 2) := by decide +kernel
theorem dX4_flake_13 : decode cX4_flake 13 = .ok (.irem, 1) := by decide +kernel
theorem dX4_flake_14 : decode cX4_flake 14 = .ok (.iaload, 1) := by decide +kernel
theorem dX4_flake_15 : decode cX4_flake 15 = .ok (.ireturn, 1) := by decide +kernel
theorem dX4_isFlagged_0 : decode cX4_isFlagged 0 = .ok (.aload_n 0, 1) := by decide +kernel
theorem dX4_isFlagged_1 : decode cX4_isFlagged 1 = .ok (.getfield 15, 3) := by decide +kernel
theorem dX4_isFlagged_4 : decode cX4_isFlagged 4 = .ok (.iload_n 1, 1) := by decide +kernel
theorem dX4_isFlagged_5 : decode cX4_isFlagged 5 = .ok (.iaload, 1) := by decide +kernel
theorem dX4_isFlagged_6 : decode cX4_isFlagged 6 = .ok (.iconst 5, 1) := by decide +kernel
theorem dX4_isFlagged_7 : decode cX4_isFlagged 7 = .ok (.if_icmp .lt 25, 3) := by decide +kernel
theorem dX4_isFlagged_10 : decode cX4_isFlagged 10 = .ok (.aload_n 0, 1) := by decide +kernel
theorem dX4_isFlagged_11 : decode cX4_isFlagged 11 = .ok (.getfield 15, 3) := by decide +kernel
theorem dX4_isFlagged_14 : decode cX4_isFlagged 14 = .ok (.iload_n 1, 1) := by decide +kernel
theorem dX4_isFlagged_15 : decode cX4_isFlagged 15 = .ok (.iaload, 1) := by decide +kernel
theorem dX4_isFlagged_16 : decode cX4_isFlagged 16 = .ok (.aload_n 0, 1) := by decide +kernel
theorem dX4_isFlagged_17 : decode cX4_isFlagged 17 = .ok (.getfield 3, 3) := by decide +kernel
theorem dX4_isFlagged_20 : decode cX4_isFlagged 20 = .ok (.getfield 65, 3) := by decide +kernel
theorem dX4_isFlagged_23 : decode cX4_isFlagged 23 = .ok (.iload_n 1, 1) := by decide +kernel
theorem dX4_isFlagged_24 : decode cX4_isFlagged 24 = .ok (.iaload, 1) := by decide +kernel
theorem dX4_isFlagged_25 : decode cX4_isFlagged 25 = .ok (.imul, 1) := by decide +kernel
theorem dX4_isFlagged_26 : decode cX4_isFlagged 26 = .ok (.sipush 300, 3) := by decide +kernel
theorem dX4_isFlagged_29 : decode cX4_isFlagged 29 = .ok (.if_icmp .lt 7, 3) := by decide +kernel
theorem dX4_isFlagged_32 : decode cX4_isFlagged 32 = .ok (.iconst 1, 1) := by decide +kernel
theorem dX4_isFlagged_33 : decode cX4_isFlagged 33 = .ok (.goto 4, 3) := by decide +kernel
theorem dX4_isFlagged_36 : decode cX4_isFlagged 36 = .ok (.iconst 0, 1) := by decide +kernel
theorem dX4_isFlagged_37 : decode cX4_isFlagged 37 = .ok (.ireturn, 1) := by decide +kernel
set_option maxRecDepth 20000 in
theorem ggX4_choice_X4_isFlagged : GoodIn wsX4_choice wsX4_isFlagged := goodIn_r _ [6, 7, 1, 8, 9, 10, 11, 12, 13, 14, 15, 16, 17, 18, 19, 20, 21, 22, 23, 24, 25, 26, 27, 28, 29, 30, 31] (by decide +kernel) (by decide +kernel)
set_option maxRecDepth 20000 in
theorem gX4_choice_X4_isFlagged : GoodIn wsX4_choice (wsV RX4 74 RX4 yX4_isFlagged wsX4_isFlagged) := goodIn_app (goodIn_of _ (by decide +kernel)) ggX4_choice_X4_isFlagged
theorem dX4_choice_0 : decode cX4_choice 0 = .ok (.iconst (-1), 1) := by decide +kernel
theorem dX4_choice_1 : decode cX4_choice 1 = .ok (.istore_n 3, 1) := by decide +kernel
theorem dX4_choice_2 : decode cX4_choice 2 = .ok (.iconst 0, 1) := by decide +kernel
theorem dX4_choice_3 : decode cX4_choice 3 = .ok (.istore 4, 2) := by decide +kernel
theorem dX4_choice_5 : decode cX4_choice 5 = .ok (.iload 4, 2) := by decide +kernel
theorem dX4_choice_7 : decode cX4_choice 7 = .ok (.aload_n 0, 1) := by decide +kernel
theorem dX4_choice_8 : decode cX4_choice 8 = .ok (.getfield 3, 3) := by decide +kernel
theorem dX4_choice_11 : decode cX4_choice 11 = .ok (.getfield 68, 3) := by decide +kernel
theorem dX4_choice_14 : decode cX4_choice 14 = .ok (.if_icmp .ge 89, 3) := by decide +kernel
theorem dX4_choice_17 : decode cX4_choice 17 = .ok (.aload_n 0, 1) := by decide +kernel
theorem dX4_choice_18 : decode cX4_choice 18 = .ok (.getfield 3, 3) := by decide +kernel
theorem dX4_choice_21 : decode cX4_choice 21 = .ok (.getfield 71, 3) := by decide +kernel
theorem dX4_choice_24 : decode cX4_choice 24 = .ok (.iload 4, 2) := by decide +kernel
theorem dX4_choice_26 : decode cX4_choice 26 = .ok (.iaload, 1) := by decide +kernel
theorem dX4_choice_27 : decode cX4_choice 27 = .ok (.iload_n 2, 1) := by decide +kernel
theorem dX4_choice_28 : decode cX4_choice 28 = .ok (.if_icmp .ne 69, 3) := by decide +kernel
theorem dX4_choice_31 : decode cX4_choice 31 = .ok (.aload_n 0, 1) := by decide +kernel
theorem dX4_choice_32 : decode cX4_choice 32 = .ok (.iload 4, 2) := by decide +kernel
theorem dX4_choice_34 : decode cX4_choice 34 = .ok (.invokevirtual 74, 3) := by decide +kernel
theorem dX4_choice_37 : decode cX4_choice 37 = .ok (.ifCond .ne 60, 3) := by decide +kernel
theorem dX4_choice_40 : decode cX4_choice 40 = .ok (.aload_n 0, 1) := by decide +kernel
theorem dX4_choice_41 : decode cX4_choice 41 = .ok (.getfield 3, 3) := by decide +kernel
theorem dX4_choice_44 : decode cX4_choice 44 = .ok (.getfield 65, 3) := by decide +kernel
theorem dX4_choice_47 : decode cX4_choice 47 = .ok (.iload 4, 2) := by decide +kernel
theorem dX4_choice_49 : decode cX4_choice 49 = .ok (.iaload, 1) := by decide +kernel
theorem dX4_choice_50 : decode cX4_choice 50 = .ok (.aload_n 0, 1) := by decide +kernel
theorem dX4_choice_51 : decode cX4_choice 51 = .ok (.getfield 3, 3) := by decide +kernel
theorem dX4_choice_54 : decode cX4_choice 54 = .ok (.getfield 78, 3) := by decide +kernel
theorem dX4_choice_57 : decode cX4_choice 57 = .ok (.iload_n 1, 1) := by decide +kernel
theorem dX4_choice_58 : decode cX4_choice 58 = .ok (.iaload, 1) := by decide +kernel
theorem dX4_choice_59 : decode cX4_choice 59 = .ok (.iconst 1, 1) := by decide +kernel
theorem dX4_choice_60 : decode cX4_choice 60 = .ok (.iadd, 1) := by decide +kernel
theorem dX4_choice_61 : decode cX4_choice 61 = .ok (.if_icmp .le 6, 3) := by decide +kernel
theorem dX4_choice_64 : decode cX4_choice 64 = .ok (.goto 33, 3) := by decide +kernel
theorem dX4_choice_67 : decode cX4_choice 67 = .ok (.iload_n 3, 1) := by decide +kernel
theorem dX4_choice_68 : decode cX4_choice 68 = .ok (.iconst (-1), 1) := by decide +kernel
theorem dX4_choice_69 : decode cX4_choice 69 = .ok (.if_icmp .eq 25, 3) := by decide +kernel
theorem dX4_choice_72 : decode cX4_choice 72 = .ok (.aload_n 0, 1) := by decide +kernel
theorem dX4_choice_73 : decode cX4_choice 73 = .ok (.getfield 3, 3) := by decide +kernel
theorem dX4_choice_76 : decode cX4_choice 76 = .ok (.getfield 65, 3) := by decide +kernel
theorem dX4_choice_79 : decode cX4_choice 79 = .ok (.iload 4, 2) := by decide +kernel
theorem dX4_choice_81 : decode cX4_choice 81 = .ok (.iaload, 1) := by decide +kernel
theorem dX4_choice_82 : decode cX4_choice 82 = .ok (.aload_n 0, 1) := by decide +kernel
theorem dX4_choice_83 : decode cX4_choice 83 = .ok (.getfield 3, 3) := by decide +kernel
theorem dX4_choice_86 : decode cX4_choice 86 = .ok (.getfield 65, 3) := by decide +kernel
theorem dX4_choice_89 : decode cX4_choice 89 = .ok (.iload_n 3, 1) := by decide +kernel
theorem dX4_choice_90 : decode cX4_choice 90 = .ok (.iaload, 1) := by decide +kernel
theorem dX4_choice_91 : decode cX4_choice 91 = .ok (.if_icmp .le 6, 3) := by decide +kernel
theorem dX4_choice_94 : decode cX4_choice 94 = .ok (.iload 4, 2) := by decide +kernel
theorem dX4_choice_96 : decode cX4_choice 96 = .ok (.istore_n 3, 1) := by decide +kernel
theorem dX4_choice_97 : decode cX4_choice 97 = .ok (.iinc 4 1, 3) := by decide +kernel
theorem dX4_choice_100 : decode cX4_choice 100 = .ok (.goto (-95), 3) := by decide +kernel
theorem dX4_choice_103 : decode cX4_choice 103 = .ok (.iload_n 3, 1) := by decide +kernel
theorem dX4_choice_104 : decode cX4_choice 104 = .ok (.ireturn, 1) := by decide +kernel
theorem dX4_towAt_0 : decode cX4_towAt 0 = .ok (.iconst 0, 1) := by decide +kernel
theorem dX4_towAt_1 : decode cX4_towAt 1 = .ok (.istore_n 2, 1) := by decide +kernel
theorem dX4_towAt_2 : decode cX4_towAt 2 = .ok (.iload_n 2, 1) := by decide +kernel
theorem dX4_towAt_3 : decode cX4_towAt 3 = .ok (.iconst 3, 1) := by decide +kernel
theorem dX4_towAt_4 : decode cX4_towAt 4 = .ok (.if_icmp .ge 44, 3) := by decide +kernel
theorem dX4_towAt_7 : decode cX4_towAt 7 = .ok (.iconst 0, 1) := by decide +kernel
theorem dX4_towAt_8 : decode cX4_towAt 8 = .ok (.istore_n 3, 1) := by decide +kernel
theorem dX4_towAt_9 : decode cX4_towAt 9 = .ok (.iload_n 3, 1) := by decide +kernel
theorem dX4_towAt_10 : decode cX4_towAt 10 = .ok (.aload_n 0, 1) := by decide +kernel
theorem dX4_towAt_11 : decode cX4_towAt 11 = .ok (.getfield 40, 3) := by decide +kernel
theorem dX4_towAt_14 : decode cX4_towAt 14 = .ok (.iload_n 2, 1) := by decide +kernel
theorem dX4_towAt_15 : decode cX4_towAt 15 = .ok (.iaload, 1) := by decide +kernel
theorem dX4_towAt_16 : decode cX4_towAt 16 = .ok (.if_icmp .ge 26, 3) := by decide +kernel
theorem dX4_towAt_19 : decode cX4_towAt 19 = .ok (.aload_n 0, 1) := by decide +kernel
theorem dX4_towAt_20 : decode cX4_towAt 20 = .ok (.getfield 43, 3) := by decide +kernel
theorem dX4_towAt_23 : decode cX4_towAt 23 = .ok (.bipush 8, 2) := by decide +kernel
theorem dX4_towAt_25 : decode cX4_towAt 25 = .ok (.iload_n 2, 1) := by decide +kernel
theorem dX4_towAt_26 : decode cX4_towAt 26 = .ok (.imul, 1) := by decide +kernel
theorem dX4_towAt_27 : decode cX4_towAt 27 = .ok (.iload_n 3, 1) := by decide +kernel
theorem dX4_towAt_28 : decode cX4_towAt 28 = .ok (.iadd, 1) := by decide +kernel
theorem dX4_towAt_29 : decode cX4_towAt 29 = .ok (.iaload, 1) := by decide +kernel
theorem dX4_towAt_30 : decode cX4_towAt 30 = .ok (.iload_n 1, 1) := by decide +kernel
theorem dX4_towAt_31 : decode cX4_towAt 31 = .ok (.if_icmp .ne 5, 3) := by decide +kernel
theorem dX4_towAt_34 : decode cX4_towAt 34 = .ok (.iload_n 2, 1) := by decide +kernel
theorem dX4_towAt_35 : decode cX4_towAt 35 = .ok (.ireturn, 1) := by decide +kernel
theorem dX4_towAt_36 : decode cX4_towAt 36 = .ok (.iinc 3 1, 3) := by decide +kernel
theorem dX4_towAt_39 : decode cX4_towAt 39 = .ok (.goto (-30), 3) := by decide +kernel
theorem dX4_towAt_42 : decode cX4_towAt 42 = .ok (.iinc 2 1, 3) := by decide +kernel
theorem dX4_towAt_45 : decode cX4_towAt 45 = .ok (.goto (-43), 3) := by decide +kernel
theorem dX4_towAt_48 : decode cX4_towAt 48 = .ok (.iconst (-1), 1) := by decide +kernel
theorem dX4_towAt_49 : decode cX4_towAt 49 = .ok (.ireturn, 1) := by decide +kernel
theorem dX4_out_0 : decode cX4_out 0 = .ok (.bipush 8, 2) := by decide +kernel
theorem dX4_out_2 : decode cX4_out 2 = .ok (.iload_n 1, 1) := by decide +kernel
theorem dX4_out_3 : decode cX4_out 3 = .ok (.imul, 1) := by decide +kernel
theorem dX4_out_4 : decode cX4_out 4 = .ok (.istore_n 3, 1) := by decide +kernel
theorem dX4_out_5 : decode cX4_out 5 = .ok (.aload_n 0, 1) := by decide +kernel
theorem dX4_out_6 : decode cX4_out 6 = .ok (.getfield 43, 3) := by decide +kernel
theorem dX4_out_9 : decode cX4_out 9 = .ok (.iload_n 3, 1) := by decide +kernel
theorem dX4_out_10 : decode cX4_out 10 = .ok (.iload_n 2, 1) := by decide +kernel
theorem dX4_out_11 : decode cX4_out 11 = .ok (.iadd, 1) := by decide +kernel
theorem dX4_out_12 : decode cX4_out 12 = .ok (.iaload, 1) := by decide +kernel
theorem dX4_out_13 : decode cX4_out 13 = .ok (.istore 4, 2) := by decide +kernel
theorem dX4_out_15 : decode cX4_out 15 = .ok (.aload_n 0, 1) := by decide +kernel
theorem dX4_out_16 : decode cX4_out 16 = .ok (.getfield 40, 3) := by decide +kernel
theorem dX4_out_19 : decode cX4_out 19 = .ok (.iload_n 1, 1) := by decide +kernel
theorem dX4_out_20 : decode cX4_out 20 = .ok (.dup2, 1) := by decide +kernel
theorem dX4_out_21 : decode cX4_out 21 = .ok (.iaload, 1) := by decide +kernel
theorem dX4_out_22 : decode cX4_out 22 = .ok (.iconst 1, 1) := by decide +kernel
theorem dX4_out_23 : decode cX4_out 23 = .ok (.isub, 1) := by decide +kernel
theorem dX4_out_24 : decode cX4_out 24 = .ok (.iastore, 1) := by decide +kernel
theorem dX4_out_25 : decode cX4_out 25 = .ok (.iload_n 2, 1) := by decide +kernel
theorem dX4_out_26 : decode cX4_out 26 = .ok (.istore 5, 2) := by decide +kernel
theorem dX4_out_28 : decode cX4_out 28 = .ok (.iload 5, 2) := by decide +kernel
theorem dX4_out_30 : decode cX4_out 30 = .ok (.aload_n 0, 1) := by decide +kernel
theorem dX4_out_31 : decode cX4_out 31 = .ok (.getfield 40, 3) := by decide +kernel
theorem dX4_out_34 : decode cX4_out 34 = .ok (.iload_n 1, 1) := by decide +kernel
theorem dX4_out_35 : decode cX4_out 35 = .ok (.iaload, 1) := by decide +kernel
theorem dX4_out_36 : decode cX4_out 36 = .ok (.if_icmp .ge 29, 3) := by decide +kernel
theorem dX4_out_39 : decode cX4_out 39 = .ok (.aload_n 0, 1) := by decide +kernel
theorem dX4_out_40 : decode cX4_out 40 = .ok (.getfield 43, 3) := by decide +kernel
theorem dX4_out_43 : decode cX4_out 43 = .ok (.iload_n 3, 1) := by decide +kernel
theorem dX4_out_44 : decode cX4_out 44 = .ok (.iload 5, 2) := by decide +kernel
theorem dX4_out_46 : decode cX4_out 46 = .ok (.iadd, 1) := by decide +kernel
theorem dX4_out_47 : decode cX4_out 47 = .ok (.aload_n 0, 1) := by decide +kernel
theorem dX4_out_48 : decode cX4_out 48 = .ok (.getfield 43, 3) := by decide +kernel
theorem dX4_out_51 : decode cX4_out 51 = .ok (.iload_n 3, 1) := by decide +kernel
theorem dX4_out_52 : decode cX4_out 52 = .ok (.iload 5, 2) := by decide +kernel
theorem dX4_out_54 : decode cX4_out 54 = .ok (.iadd, 1) := by decide +kernel
theorem dX4_out_55 : decode cX4_out 55 = .ok (.iconst 1, 1) := by decide +kernel
theorem dX4_out_56 : decode cX4_out 56 = .ok (.iadd, 1) := by decide +kernel
theorem dX4_out_57 : decode cX4_out 57 = .ok (.iaload, 1) := by decide +kernel
theorem dX4_out_58 : decode cX4_out 58 = .ok (.iastore, 1) := by decide +kernel
theorem dX4_out_59 : decode cX4_out 59 = .ok (.iinc 5 1, 3) := by decide +kernel
theorem dX4_out_62 : decode cX4_out 62 = .ok (.goto (-34), 3) := by decide +kernel
theorem dX4_out_65 : decode cX4_out 65 = .ok (.iload 4, 2) := by decide +kernel
theorem dX4_out_67 : decode cX4_out 67 = .ok (.ireturn, 1) := by decide +kernel
theorem dX4_in_0 : decode cX4_in 0 = .ok (.aload_n 0, 1) := by decide +kernel
theorem dX4_in_1 : decode cX4_in 1 = .ok (.getfield 43, 3) := by decide +kernel
theorem dX4_in_4 : decode cX4_in 4 = .ok (.bipush 8, 2) := by decide +kernel
theorem dX4_in_6 : decode cX4_in 6 = .ok (.iload_n 1, 1) := by decide +kernel
theorem dX4_in_7 : decode cX4_in 7 = .ok (.imul, 1) := by decide +kernel
theorem dX4_in_8 : decode cX4_in 8 = .ok (.aload_n 0, 1) := by decide +kernel
theorem dX4_in_9 : decode cX4_in 9 = .ok (.getfield 40, 3) := by decide +kernel
theorem dX4_in_12 : decode cX4_in 12 = .ok (.iload_n 1, 1) := by decide +kernel
theorem dX4_in_13 : decode cX4_in 13 = .ok (.iaload, 1) := by decide +kernel
theorem dX4_in_14 : decode cX4_in 14 = .ok (.iadd, 1) := by decide +kernel
theorem dX4_in_15 : decode cX4_in 15 = .ok (.iload_n 2, 1) := by decide +kernel
theorem dX4_in_16 : decode cX4_in 16 = .ok (.iastore, 1) := by decide +kernel
theorem dX4_in_17 : decode cX4_in 17 = .ok (.aload_n 0, 1) := by decide +kernel
theorem dX4_in_18 : decode cX4_in 18 = .ok (.getfield 40, 3) := by decide +kernel
theorem dX4_in_21 : decode cX4_in 21 = .ok (.iload_n 1, 1) := by decide +kernel
theorem dX4_in_22 : decode cX4_in 22 = .ok (.dup2, 1) := by decide +kernel
theorem dX4_in_23 : decode cX4_in 23 = .ok (.iaload, 1) := by decide +kernel
theorem dX4_in_24 : decode cX4_in 24 = .ok (.iconst 1, 1) := by decide +kernel
theorem dX4_in_25 : decode cX4_in 25 = .ok (.iadd, 1) := by decide +kernel
theorem dX4_in_26 : decode cX4_in 26 = .ok (.iastore, 1) := by decide +kernel
theorem dX4_in_27 : decode cX4_in 27 = .ok (.return_, 1) := by decide +kernel
set_option maxRecDepth 20000 in
theorem ggX4_leave_X4_towAt : GoodIn wsX4_leave wsX4_towAt := goodIn_r _ [6, 7, 1, 12, 13, 14, 15, 16, 17, 18, 19, 20, 21, 22, 23, 24, 25] (by decide +kernel) (by decide +kernel)
set_option maxRecDepth 20000 in
theorem gX4_leave_X4_towAt : GoodIn wsX4_leave (wsV RX4 81 RX4 yX4_towAt wsX4_towAt) := goodIn_app (goodIn_of _ (by decide +kernel)) ggX4_leave_X4_towAt
set_option maxRecDepth 20000 in
theorem ggX4_leave_X4_out : GoodIn wsX4_leave wsX4_out := goodIn_r _ [11, 1, 7, 12, 13, 14, 15, 16, 17, 18, 19, 20, 21, 22, 23, 24, 25] (by decide +kernel) (by decide +kernel)
set_option maxRecDepth 20000 in
theorem gX4_leave_X4_out : GoodIn wsX4_leave (wsV RX4 85 RX4 yX4_out wsX4_out) := goodIn_app (goodIn_of _ (by decide +kernel)) ggX4_leave_X4_out
theorem dX4_leave_0 : decode cX4_leave 0 = .ok (.aload_n 0, 1) := by decide +kernel
theorem dX4_leave_1 : decode cX4_leave 1 = .ok (.iload_n 1, 1) := by decide +kernel
theorem dX4_leave_2 : decode cX4_leave 2 = .ok (.invokevirtual 81, 3) := by decide +kernel
theorem dX4_leave_5 : decode cX4_leave 5 = .ok (.istore_n 2, 1) := by decide +kernel
theorem dX4_leave_6 : decode cX4_leave 6 = .ok (.iload_n 2, 1) := by decide +kernel
theorem dX4_leave_7 : decode cX4_leave 7 = .ok (.iconst (-1), 1) := by decide +kernel
theorem dX4_leave_8 : decode cX4_leave 8 = .ok (.if_icmp .ne 5, 3) := by decide +kernel
theorem dX4_leave_11 : decode cX4_leave 11 = .ok (.iconst 0, 1) := by decide +kernel
theorem dX4_leave_12 : decode cX4_leave 12 = .ok (.ireturn, 1) := by decide +kernel
theorem dX4_leave_13 : decode cX4_leave 13 = .ok (.iconst 0, 1) := by decide +kernel
theorem dX4_leave_14 : decode cX4_leave 14 = .ok (.istore_n 3, 1) := by decide +kernel
theorem dX4_leave_15 : decode cX4_leave 15 = .ok (.aload_n 0, 1) := by decide +kernel
theorem dX4_leave_16 : decode cX4_leave 16 = .ok (.getfield 43, 3) := by decide +kernel
theorem dX4_leave_19 : decode cX4_leave 19 = .ok (.bipush 8, 2) := by decide +kernel
theorem dX4_leave_21 : decode cX4_leave 21 = .ok (.iload_n 2, 1) := by decide +kernel
theorem dX4_leave_22 : decode cX4_leave 22 = .ok (.imul, 1) := by decide +kernel
theorem dX4_leave_23 : decode cX4_leave 23 = .ok (.iload_n 3, 1) := by decide +kernel
theorem dX4_leave_24 : decode cX4_leave 24 = .ok (.iadd, 1) := by decide +kernel
theorem dX4_leave_25 : decode cX4_leave 25 = .ok (.iaload, 1) := by decide +kernel
theorem dX4_leave_26 : decode cX4_leave 26 = .ok (.iload_n 1, 1) := by decide +kernel
theorem dX4_leave_27 : decode cX4_leave 27 = .ok (.if_icmp .eq 9, 3) := by decide +kernel
theorem dX4_leave_30 : decode cX4_leave 30 = .ok (.iinc 3 1, 3) := by decide +kernel
theorem dX4_leave_33 : decode cX4_leave 33 = .ok (.goto (-18), 3) := by decide +kernel
theorem dX4_leave_36 : decode cX4_leave 36 = .ok (.aload_n 0, 1) := by decide +kernel
theorem dX4_leave_37 : decode cX4_leave 37 = .ok (.iload_n 2, 1) := by decide +kernel
theorem dX4_leave_38 : decode cX4_leave 38 = .ok (.iload_n 3, 1) := by decide +kernel
theorem dX4_leave_39 : decode cX4_leave 39 = .ok (.invokevirtual 85, 3) := by decide +kernel
theorem dX4_leave_42 : decode cX4_leave 42 = .ok (.pop, 1) := by decide +kernel
theorem dX4_leave_43 : decode cX4_leave 43 = .ok (.iconst 1, 1) := by decide +kernel
theorem dX4_leave_44 : decode cX4_leave 44 = .ok (.ireturn, 1) := by decide +kernel
set_option maxRecDepth 20000 in
theorem ggX4_glide_X4_flake : GoodIn wsX4_glide wsX4_flake := goodIn_r _ [11, 12, 13, 14, 15, 16, 17, 18, 19, 20, 21, 22, 23, 24, 25, 26, 27, 28, 29, 30, 31, 32, 33, 34, 35, 36, 37] (by decide +kernel) (by decide +kernel)
set_option maxRecDepth 20000 in
theorem gX4_glide_X4_flake : GoodIn wsX4_glide (wsV RX4 89 RX4 yX4_flake wsX4_flake) := goodIn_app (goodIn_of _ (by decide +kernel)) ggX4_glide_X4_flake
theorem dX4_glide_0 : decode cX4_glide 0 = .ok (.aload_n 0, 1) := by decide +kernel
theorem dX4_glide_1 : decode cX4_glide 1 = .ok (.getfield 28, 3) := by decide +kernel
theorem dX4_glide_4 : decode cX4_glide 4 = .ok (.iload_n 1, 1) := by decide +kernel
theorem dX4_glide_5 : decode cX4_glide 5 = .ok (.iaload, 1) := by decide +kernel
theorem dX4_glide_6 : decode cX4_glide 6 = .ok (.ifCond .ne 6, 3) := by decide +kernel
theorem dX4_glide_9 : decode cX4_glide 9 = .ok (.bipush (-4), 2) := by decide +kernel
theorem dX4_glide_11 : decode cX4_glide 11 = .ok (.ireturn, 1) := by decide +kernel
theorem dX4_glide_12 : decode cX4_glide 12 = .ok (.aload_n 0, 1) := by decide +kernel
theorem dX4_glide_13 : decode cX4_glide 13 = .ok (.getfield 28, 3) := by decide +kernel
theorem dX4_glide_16 : decode cX4_glide 16 = .ok (.iload_n 1, 1) := by decide +kernel
theorem dX4_glide_17 : decode cX4_glide 17 = .ok (.dup2, 1) := by decide +kernel
theorem dX4_glide_18 : decode cX4_glide 18 = .ok (.iaload, 1) := by decide +kernel
theorem dX4_glide_19 : decode cX4_glide 19 = .ok (.iconst 1, 1) := by decide +kernel
theorem dX4_glide_20 : decode cX4_glide 20 = .ok (.isub, 1) := by decide +kernel
theorem dX4_glide_21 : decode cX4_glide 21 = .ok (.iastore, 1) := by decide +kernel
theorem dX4_glide_22 : decode cX4_glide 22 = .ok (.iconst 4, 1) := by decide +kernel
theorem dX4_glide_23 : decode cX4_glide 23 = .ok (.iconst 2, 1) := by decide +kernel
theorem dX4_glide_24 : decode cX4_glide 24 = .ok (.aload_n 0, 1) := by decide +kernel
theorem dX4_glide_25 : decode cX4_glide 25 = .ok (.getfield 25, 3) := by decide +kernel
theorem dX4_glide_28 : decode cX4_glide 28 = .ok (.iload_n 1, 1) := by decide +kernel
theorem dX4_glide_29 : decode cX4_glide 29 = .ok (.iaload, 1) := by decide +kernel
theorem dX4_glide_30 : decode cX4_glide 30 = .ok (.aload_n 0, 1) := by decide +kernel
theorem dX4_glide_31 : decode cX4_glide 31 = .ok (.invokevirtual 89, 3) := by decide +kernel
theorem dX4_glide_34 : decode cX4_glide 34 = .ok (.isub, 1) := by decide +kernel
theorem dX4_glide_35 : decode cX4_glide 35 = .ok (.invokestatic 93, 3) := by decide +kernel
theorem dX4_glide_38 : decode cX4_glide 38 = .ok (.imul, 1) := by decide +kernel
theorem dX4_glide_39 : decode cX4_glide 39 = .ok (.isub, 1) := by decide +kernel
theorem dX4_glide_40 : decode cX4_glide 40 = .ok (.ireturn, 1) := by decide +kernel
set_option maxRecDepth 20000 in
theorem ggX4_ski_X4_choice : GoodIn wsX4_ski wsX4_choice := goodIn_r _ [16, 1, 17, 18, 19, 15, 20, 10, 35, 36, 37, 38, 39, 40, 41, 42, 43, 44, 45, 46, 47, 48, 49, 50, 51, 52, 53, 54, 55, 56, 57, 58] (by decide +kernel) (by decide +kernel)
set_option maxRecDepth 20000 in
theorem gX4_ski_X4_choice : GoodIn wsX4_ski (wsV RX4 98 RX4 yX4_choice wsX4_choice) := goodIn_app (goodIn_of _ (by decide +kernel)) ggX4_ski_X4_choice
set_option maxRecDepth 20000 in
theorem ggX4_ski_X4_glide : GoodIn wsX4_ski wsX4_glide := goodIn_r _ [24, 25, 26, 27, 28, 5, 29, 30, 31, 32, 15, 33, 1, 34, 35, 36, 37, 38, 39, 40, 41, 42, 43, 44, 45, 46, 47, 48, 49, 50, 51, 52, 53, 54, 55, 56, 57, 58] (by decide +kernel) (by decide +kernel)
set_option maxRecDepth 20000 in
theorem gX4_ski_X4_glide : GoodIn wsX4_ski (wsV RX4 101 RX4 yX4_glide wsX4_glide) := goodIn_app (goodIn_of _ (by decide +kernel)) ggX4_ski_X4_glide
theorem dX4_ski_0 : decode cX4_ski 0 = .ok (.aload_n 0, 1) := by decide +kernel
theorem dX4_ski_1 : decode cX4_ski 1 = .ok (.iload_n 1, 1) := by decide +kernel
theorem dX4_ski_2 : decode cX4_ski 2 = .ok (.iload_n 2, 1) := by decide +kernel
theorem dX4_ski_3 : decode cX4_ski 3 = .ok (.invokevirtual 98, 3) := by decide +kernel
theorem dX4_ski_6 : decode cX4_ski 6 = .ok (.istore_n 3, 1) := by decide +kernel
theorem dX4_ski_7 : decode cX4_ski 7 = .ok (.iload_n 3, 1) := by decide +kernel
theorem dX4_ski_8 : decode cX4_ski 8 = .ok (.iconst (-1), 1) := by decide +kernel
theorem dX4_ski_9 : decode cX4_ski 9 = .ok (.if_icmp .ne 4, 3) := by decide +kernel
theorem dX4_ski_12 : decode cX4_ski 12 = .ok (.return_, 1) := by decide +kernel
theorem dX4_ski_13 : decode cX4_ski 13 = .ok (.iconst 3, 1) := by decide +kernel
theorem dX4_ski_14 : decode cX4_ski 14 = .ok (.aload_n 0, 1) := by decide +kernel
theorem dX4_ski_15 : decode cX4_ski 15 = .ok (.getfield 3, 3) := by decide +kernel
theorem dX4_ski_18 : decode cX4_ski 18 = .ok (.getfield 65, 3) := by decide +kernel
theorem dX4_ski_21 : decode cX4_ski 21 = .ok (.iload_n 3, 1) := by decide +kernel
theorem dX4_ski_22 : decode cX4_ski 22 = .ok (.iaload, 1) := by decide +kernel
theorem dX4_ski_23 : decode cX4_ski 23 = .ok (.imul, 1) := by decide +kernel
theorem dX4_ski_24 : decode cX4_ski 24 = .ok (.aload_n 0, 1) := by decide +kernel
theorem dX4_ski_25 : decode cX4_ski 25 = .ok (.getfield 3, 3) := by decide +kernel
theorem dX4_ski_28 : decode cX4_ski 28 = .ok (.getfield 78, 3) := by decide +kernel
theorem dX4_ski_31 : decode cX4_ski 31 = .ok (.iload_n 1, 1) := by decide +kernel
theorem dX4_ski_32 : decode cX4_ski 32 = .ok (.iaload, 1) := by decide +kernel
theorem dX4_ski_33 : decode cX4_ski 33 = .ok (.iadd, 1) := by decide +kernel
theorem dX4_ski_34 : decode cX4_ski 34 = .ok (.aload_n 0, 1) := by decide +kernel
theorem dX4_ski_35 : decode cX4_ski 35 = .ok (.iload_n 1, 1) := by decide +kernel
theorem dX4_ski_36 : decode cX4_ski 36 = .ok (.invokevirtual 101, 3) := by decide +kernel
theorem dX4_ski_39 : decode cX4_ski 39 = .ok (.iadd, 1) := by decide +kernel
theorem dX4_ski_40 : decode cX4_ski 40 = .ok (.istore 4, 2) := by decide +kernel
theorem dX4_ski_42 : decode cX4_ski 42 = .ok (.aload_n 0, 1) := by decide +kernel
theorem dX4_ski_43 : decode cX4_ski 43 = .ok (.getfield 31, 3) := by decide +kernel
theorem dX4_ski_46 : decode cX4_ski 46 = .ok (.iload_n 1, 1) := by decide +kernel
theorem dX4_ski_47 : decode cX4_ski 47 = .ok (.iconst 0, 1) := by decide +kernel
theorem dX4_ski_48 : decode cX4_ski 48 = .ok (.sipush 999, 3) := by decide +kernel
theorem dX4_ski_51 : decode cX4_ski 51 = .ok (.aload_n 0, 1) := by decide +kernel
theorem dX4_ski_52 : decode cX4_ski 52 = .ok (.getfield 31, 3) := by decide +kernel
theorem dX4_ski_55 : decode cX4_ski 55 = .ok (.iload_n 1, 1) := by decide +kernel
theorem dX4_ski_56 : decode cX4_ski 56 = .ok (.iaload, 1) := by decide +kernel
theorem dX4_ski_57 : decode cX4_ski 57 = .ok (.iload 4, 2) := by decide +kernel
theorem dX4_ski_59 : decode cX4_ski 59 = .ok (.iadd, 1) := by decide +kernel
theorem dX4_ski_60 : decode cX4_ski 60 = .ok (.invokestatic 104, 3) := by decide +kernel
theorem dX4_ski_63 : decode cX4_ski 63 = .ok (.invokestatic 107, 3) := by decide +kernel
theorem dX4_ski_66 : decode cX4_ski 66 = .ok (.iastore, 1) := by decide +kernel
theorem dX4_ski_67 : decode cX4_ski 67 = .ok (.aload_n 0, 1) := by decide +kernel
theorem dX4_ski_68 : decode cX4_ski 68 = .ok (.getfield 15, 3) := by decide +kernel
theorem dX4_ski_71 : decode cX4_ski 71 = .ok (.iload_n 3, 1) := by decide +kernel
theorem dX4_ski_72 : decode cX4_ski 72 = .ok (.dup2, 1) := by decide +kernel
theorem dX4_ski_73 : decode cX4_ski 73 = .ok (.iaload, 1) := by decide +kernel
theorem dX4_ski_74 : decode cX4_ski 74 = .ok (.iconst 1, 1) := by decide +kernel
theorem dX4_ski_75 : decode cX4_ski 75 = .ok (.isub, 1) := by decide +kernel
theorem dX4_ski_76 : decode cX4_ski 76 = .ok (.iastore, 1) := by decide +kernel
theorem dX4_ski_77 : decode cX4_ski 77 = .ok (.aload_n 0, 1) := by decide +kernel
theorem dX4_ski_78 : decode cX4_ski 78 = .ok (.getfield 19, 3) := by decide +kernel
theorem dX4_ski_81 : decode cX4_ski 81 = .ok (.iload_n 3, 1) := by decide +kernel
theorem dX4_ski_82 : decode cX4_ski 82 = .ok (.dup2, 1) := by decide +kernel
theorem dX4_ski_83 : decode cX4_ski 83 = .ok (.iaload, 1) := by decide +kernel
theorem dX4_ski_84 : decode cX4_ski 84 = .ok (.iconst 1, 1) := by decide +kernel
theorem dX4_ski_85 : decode cX4_ski 85 = .ok (.iadd, 1) := by decide +kernel
theorem dX4_ski_86 : decode cX4_ski 86 = .ok (.iastore, 1) := by decide +kernel
theorem dX4_ski_87 : decode cX4_ski 87 = .ok (.return_, 1) := by decide +kernel
set_option maxRecDepth 20000 in
theorem ggX4_pull_X4_out : GoodIn wsX4_pull wsX4_out := goodIn_r _ [12, 13, 1, 54, 55, 56, 57, 58, 59, 60, 61, 62, 63, 64, 65, 66, 67] (by decide +kernel) (by decide +kernel)
set_option maxRecDepth 20000 in
theorem gX4_pull_X4_out : GoodIn wsX4_pull (wsV RX4 85 RX4 yX4_out wsX4_out) := goodIn_app (goodIn_of _ (by decide +kernel)) ggX4_pull_X4_out
set_option maxRecDepth 20000 in
theorem ggX4_pull_X4_ski : GoodIn wsX4_pull wsX4_ski := goodIn_r _ [17, 2, 18, 19, 20, 21, 22, 23, 24, 25, 26, 27, 28, 29, 30, 11, 31, 32, 33, 34, 35, 36, 37, 38, 39, 40, 41, 42, 43, 44, 45, 46, 47, 48, 49, 54, 55, 56, 57, 58, 59, 60, 61, 62, 63, 64, 65, 66, 67, 68, 69, 70, 71, 72, 73, 74, 75, 76, 77] (by decide +kernel) (by decide +kernel)
set_option maxRecDepth 20000 in
theorem gX4_pull_X4_ski : GoodIn wsX4_pull (wsV RX4 113 RX4 yX4_ski wsX4_ski) := goodIn_app (goodIn_of _ (by decide +kernel)) ggX4_pull_X4_ski
set_option maxRecDepth 20000 in
theorem ggX4_pull_X4_in : GoodIn wsX4_pull wsX4_in := goodIn_r _ [53, 13, 1, 54, 55, 56, 57, 58, 59, 60, 61, 62, 63, 64, 65, 66, 67] (by decide +kernel) (by decide +kernel)
set_option maxRecDepth 20000 in
theorem gX4_pull_X4_in : GoodIn wsX4_pull (wsV RX4 117 RX4 yX4_in wsX4_in) := goodIn_app (goodIn_of _ (by decide +kernel)) ggX4_pull_X4_in
theorem dX4_pull_0 : decode cX4_pull 0 = .ok (.aload_n 0, 1) := by decide +kernel
theorem dX4_pull_1 : decode cX4_pull 1 = .ok (.getfield 40, 3) := by decide +kernel
theorem dX4_pull_4 : decode cX4_pull 4 = .ok (.iload_n 1, 1) := by decide +kernel
theorem dX4_pull_5 : decode cX4_pull 5 = .ok (.iaload, 1) := by decide +kernel
theorem dX4_pull_6 : decode cX4_pull 6 = .ok (.istore_n 2, 1) := by decide +kernel
theorem dX4_pull_7 : decode cX4_pull 7 = .ok (.aload_n 0, 1) := by decide +kernel
theorem dX4_pull_8 : decode cX4_pull 8 = .ok (.getfield 3, 3) := by decide +kernel
theorem dX4_pull_11 : decode cX4_pull 11 = .ok (.getfield 110, 3) := by decide +kernel
theorem dX4_pull_14 : decode cX4_pull 14 = .ok (.iload_n 1, 1) := by decide +kernel
theorem dX4_pull_15 : decode cX4_pull 15 = .ok (.iaload, 1) := by decide +kernel
theorem dX4_pull_16 : decode cX4_pull 16 = .ok (.istore_n 3, 1) := by decide +kernel
theorem dX4_pull_17 : decode cX4_pull 17 = .ok (.iload_n 2, 1) := by decide +kernel
theorem dX4_pull_18 : decode cX4_pull 18 = .ok (.ifCond .le 103, 3) := by decide +kernel
theorem dX4_pull_21 : decode cX4_pull 21 = .ok (.iload_n 3, 1) := by decide +kernel
theorem dX4_pull_22 : decode cX4_pull 22 = .ok (.ifCond .le 99, 3) := by decide +kernel
theorem dX4_pull_25 : decode cX4_pull 25 = .ok (.aload_n 0, 1) := by decide +kernel
theorem dX4_pull_26 : decode cX4_pull 26 = .ok (.iload_n 1, 1) := by decide +kernel
theorem dX4_pull_27 : decode cX4_pull 27 = .ok (.iconst 0, 1) := by decide +kernel
theorem dX4_pull_28 : decode cX4_pull 28 = .ok (.invokevirtual 85, 3) := by decide +kernel
theorem dX4_pull_31 : decode cX4_pull 31 = .ok (.istore 4, 2) := by decide +kernel
theorem dX4_pull_33 : decode cX4_pull 33 = .ok (.aload_n 0, 1) := by decide +kernel
theorem dX4_pull_34 : decode cX4_pull 34 = .ok (.getfield 22, 3) := by decide +kernel
theorem dX4_pull_37 : decode cX4_pull 37 = .ok (.iload 4, 2) := by decide +kernel
theorem dX4_pull_39 : decode cX4_pull 39 = .ok (.iaload, 1) := by decide +kernel
theorem dX4_pull_40 : decode cX4_pull 40 = .ok (.ifCond .ne 6, 3) := by decide +kernel
theorem dX4_pull_43 : decode cX4_pull 43 = .ok (.goto 72, 3) := by decide +kernel
theorem dX4_pull_46 : decode cX4_pull 46 = .ok (.iinc 3 (-1), 3) := by decide +kernel
theorem dX4_pull_49 : decode cX4_pull 49 = .ok (.aload_n 0, 1) := by decide +kernel
theorem dX4_pull_50 : decode cX4_pull 50 = .ok (.getfield 22, 3) := by decide +kernel
theorem dX4_pull_53 : decode cX4_pull 53 = .ok (.iload 4, 2) := by decide +kernel
theorem dX4_pull_55 : decode cX4_pull 55 = .ok (.dup2, 1) := by decide +kernel
theorem dX4_pull_56 : decode cX4_pull 56 = .ok (.iaload, 1) := by decide +kernel
theorem dX4_pull_57 : decode cX4_pull 57 = .ok (.iconst 1, 1) := by decide +kernel
theorem dX4_pull_58 : decode cX4_pull 58 = .ok (.isub, 1) := by decide +kernel
theorem dX4_pull_59 : decode cX4_pull 59 = .ok (.iastore, 1) := by decide +kernel
theorem dX4_pull_60 : decode cX4_pull 60 = .ok (.aload_n 0, 1) := by decide +kernel
theorem dX4_pull_61 : decode cX4_pull 61 = .ok (.dup, 1) := by decide +kernel
theorem dX4_pull_62 : decode cX4_pull 62 = .ok (.getfield 50, 3) := by decide +kernel
theorem dX4_pull_65 : decode cX4_pull 65 = .ok (.iconst 1, 1) := by decide +kernel
theorem dX4_pull_66 : decode cX4_pull 66 = .ok (.iadd, 1) := by decide +kernel
theorem dX4_pull_67 : decode cX4_pull 67 = .ok (.putfield 50, 3) := by decide +kernel
theorem dX4_pull_70 : decode cX4_pull 70 = .ok (.aload_n 0, 1) := by decide +kernel
theorem dX4_pull_71 : decode cX4_pull 71 = .ok (.getfield 34, 3) := by decide +kernel
theorem dX4_pull_74 : decode cX4_pull 74 = .ok (.iload 4, 2) := by decide +kernel
theorem dX4_pull_76 : decode cX4_pull 76 = .ok (.dup2, 1) := by decide +kernel
theorem dX4_pull_77 : decode cX4_pull 77 = .ok (.iaload, 1) := by decide +kernel
theorem dX4_pull_78 : decode cX4_pull 78 = .ok (.iconst 1, 1) := by decide +kernel
theorem dX4_pull_79 : decode cX4_pull 79 = .ok (.iadd, 1) := by decide +kernel
theorem dX4_pull_80 : decode cX4_pull 80 = .ok (.iastore, 1) := by decide +kernel
theorem dX4_pull_81 : decode cX4_pull 81 = .ok (.aload_n 0, 1) := by decide +kernel
theorem dX4_pull_82 : decode cX4_pull 82 = .ok (.dup, 1) := by decide +kernel
theorem dX4_pull_83 : decode cX4_pull 83 = .ok (.getfield 53, 3) := by decide +kernel
theorem dX4_pull_86 : decode cX4_pull 86 = .ok (.iconst 1, 1) := by decide +kernel
theorem dX4_pull_87 : decode cX4_pull 87 = .ok (.iadd, 1) := by decide +kernel
theorem dX4_pull_88 : decode cX4_pull 88 = .ok (.putfield 53, 3) := by decide +kernel
theorem dX4_pull_91 : decode cX4_pull 91 = .ok (.aload_n 0, 1) := by decide +kernel
theorem dX4_pull_92 : decode cX4_pull 92 = .ok (.getfield 37, 3) := by decide +kernel
theorem dX4_pull_95 : decode cX4_pull 95 = .ok (.iload_n 1, 1) := by decide +kernel
theorem dX4_pull_96 : decode cX4_pull 96 = .ok (.dup2, 1) := by decide +kernel
theorem dX4_pull_97 : decode cX4_pull 97 = .ok (.iaload, 1) := by decide +kernel
theorem dX4_pull_98 : decode cX4_pull 98 = .ok (.iconst 1, 1) := by decide +kernel
theorem dX4_pull_99 : decode cX4_pull 99 = .ok (.iadd, 1) := by decide +kernel
theorem dX4_pull_100 : decode cX4_pull 100 = .ok (.iastore, 1) := by decide +kernel
theorem dX4_pull_101 : decode cX4_pull 101 = .ok (.aload_n 0, 1) := by decide +kernel
theorem dX4_pull_102 : decode cX4_pull 102 = .ok (.iload 4, 2) := by decide +kernel
theorem dX4_pull_104 : decode cX4_pull 104 = .ok (.iload_n 1, 1) := by decide +kernel
theorem dX4_pull_105 : decode cX4_pull 105 = .ok (.invokevirtual 113, 3) := by decide +kernel
theorem dX4_pull_108 : decode cX4_pull 108 = .ok (.aload_n 0, 1) := by decide +kernel
theorem dX4_pull_109 : decode cX4_pull 109 = .ok (.iload_n 1, 1) := by decide +kernel
theorem dX4_pull_110 : decode cX4_pull 110 = .ok (.iload 4, 2) := by decide +kernel
theorem dX4_pull_112 : decode cX4_pull 112 = .ok (.invokevirtual 117, 3) := by decide +kernel
theorem dX4_pull_115 : decode cX4_pull 115 = .ok (.iinc 2 (-1), 3) := by decide +kernel
theorem dX4_pull_118 : decode cX4_pull 118 = .ok (.goto (-101), 3) := by decide +kernel
theorem dX4_pull_121 : decode cX4_pull 121 = .ok (.return_, 1) := by decide +kernel
set_option maxRecDepth 20000 in
theorem ggX4_pass_X4_flake : GoodIn wsX4_pass wsX4_flake := goodIn_r _ [15, 1, 10, 58, 59, 60, 61, 62, 63, 64, 65, 66, 67, 68, 69, 70, 71, 72, 73, 74, 75, 76, 77, 78, 79, 80, 81] (by decide +kernel) (by decide +kernel)
set_option maxRecDepth 20000 in
theorem gX4_pass_X4_flake : GoodIn wsX4_pass (wsV RX4 89 RX4 yX4_flake wsX4_flake) := goodIn_app (goodIn_of _ (by decide +kernel)) ggX4_pass_X4_flake
set_option maxRecDepth 20000 in
theorem ggX4_pass_X4_pull : GoodIn wsX4_pass wsX4_pull := goodIn_r _ [19, 20, 1, 21, 22, 23, 24, 25, 26, 27, 28, 14, 29, 30, 31, 32, 33, 34, 35, 3, 4, 5, 6, 7, 8, 9, 2, 36, 37, 38, 39, 40, 41, 42, 43, 44, 45, 46, 47, 48, 49, 50, 51, 52, 53, 11, 12, 13, 15, 10, 54, 55, 56, 57, 58, 59, 60, 61, 62, 63, 64, 65, 66, 67, 68, 69, 70, 71, 72, 73, 74, 75, 76, 77, 78, 79, 80, 81] (by decide +kernel) (by decide +kernel)
set_option maxRecDepth 20000 in
theorem gX4_pass_X4_pull : GoodIn wsX4_pass (wsV RX4 120 RX4 yX4_pull wsX4_pull) := goodIn_app (goodIn_of _ (by decide +kernel)) ggX4_pass_X4_pull
theorem dX4_pass_0 : decode cX4_pass 0 = .ok (.aload_n 0, 1) := by decide +kernel
theorem dX4_pass_1 : decode cX4_pass 1 = .ok (.invokevirtual 89, 3) := by decide +kernel
theorem dX4_pass_4 : decode cX4_pass 4 = .ok (.ifCond .ne 7, 3) := by decide +kernel
theorem dX4_pass_7 : decode cX4_pass 7 = .ok (.iconst 4, 1) := by decide +kernel
theorem dX4_pass_8 : decode cX4_pass 8 = .ok (.goto 29, 3) := by decide +kernel
theorem dX4_pass_11 : decode cX4_pass 11 = .ok (.aload_n 0, 1) := by decide +kernel
theorem dX4_pass_12 : decode cX4_pass 12 = .ok (.invokevirtual 89, 3) := by decide +kernel
theorem dX4_pass_15 : decode cX4_pass 15 = .ok (.iconst 1, 1) := by decide +kernel
theorem dX4_pass_16 : decode cX4_pass 16 = .ok (.if_icmp .ne 7, 3) := by decide +kernel
theorem dX4_pass_19 : decode cX4_pass 19 = .ok (.iconst 0, 1) := by decide +kernel
theorem dX4_pass_20 : decode cX4_pass 20 = .ok (.goto 17, 3) := by decide +kernel
theorem dX4_pass_23 : decode cX4_pass 23 = .ok (.aload_n 0, 1) := by decide +kernel
theorem dX4_pass_24 : decode cX4_pass 24 = .ok (.invokevirtual 89, 3) := by decide +kernel
theorem dX4_pass_27 : decode cX4_pass 27 = .ok (.iconst 2, 1) := by decide +kernel
theorem dX4_pass_28 : decode cX4_pass 28 = .ok (.if_icmp .ne 8, 3) := by decide +kernel
theorem dX4_pass_31 : decode cX4_pass 31 = .ok (.bipush (-2), 2) := by decide +kernel
theorem dX4_pass_33 : decode cX4_pass 33 = .ok (.goto 4, 3) := by decide +kernel
theorem dX4_pass_36 : decode cX4_pass 36 = .ok (.iconst (-1), 1) := by decide +kernel
theorem dX4_pass_37 : decode cX4_pass 37 = .ok (.istore_n 1, 1) := by decide +kernel
theorem dX4_pass_38 : decode cX4_pass 38 = .ok (.iconst 0, 1) := by decide +kernel
theorem dX4_pass_39 : decode cX4_pass 39 = .ok (.istore_n 2, 1) := by decide +kernel
theorem dX4_pass_40 : decode cX4_pass 40 = .ok (.iload_n 2, 1) := by decide +kernel
theorem dX4_pass_41 : decode cX4_pass 41 = .ok (.aload_n 0, 1) := by decide +kernel
theorem dX4_pass_42 : decode cX4_pass 42 = .ok (.getfield 3, 3) := by decide +kernel
theorem dX4_pass_45 : decode cX4_pass 45 = .ok (.getfield 68, 3) := by decide +kernel
theorem dX4_pass_48 : decode cX4_pass 48 = .ok (.if_icmp .ge 32, 3) := by decide +kernel
theorem dX4_pass_51 : decode cX4_pass 51 = .ok (.aload_n 0, 1) := by decide +kernel
theorem dX4_pass_52 : decode cX4_pass 52 = .ok (.getfield 15, 3) := by decide +kernel
theorem dX4_pass_55 : decode cX4_pass 55 = .ok (.iload_n 2, 1) := by decide +kernel
theorem dX4_pass_56 : decode cX4_pass 56 = .ok (.iconst 0, 1) := by decide +kernel
theorem dX4_pass_57 : decode cX4_pass 57 = .ok (.bipush 90, 2) := by decide +kernel
theorem dX4_pass_59 : decode cX4_pass 59 = .ok (.aload_n 0, 1) := by decide +kernel
theorem dX4_pass_60 : decode cX4_pass 60 = .ok (.getfield 15, 3) := by decide +kernel
theorem dX4_pass_63 : decode cX4_pass 63 = .ok (.iload_n 2, 1) := by decide +kernel
theorem dX4_pass_64 : decode cX4_pass 64 = .ok (.iaload, 1) := by decide +kernel
theorem dX4_pass_65 : decode cX4_pass 65 = .ok (.iload_n 1, 1) := by decide +kernel
theorem dX4_pass_66 : decode cX4_pass 66 = .ok (.iadd, 1) := by decide +kernel
theorem dX4_pass_67 : decode cX4_pass 67 = .ok (.invokestatic 104, 3) := by decide +kernel
theorem dX4_pass_70 : decode cX4_pass 70 = .ok (.invokestatic 107, 3) := by decide +kernel
theorem dX4_pass_73 : decode cX4_pass 73 = .ok (.iastore, 1) := by decide +kernel
theorem dX4_pass_74 : decode cX4_pass 74 = .ok (.iinc 2 1, 3) := by decide +kernel
theorem dX4_pass_77 : decode cX4_pass 77 = .ok (.goto (-37), 3) := by decide +kernel
theorem dX4_pass_80 : decode cX4_pass 80 = .ok (.iconst 0, 1) := by decide +kernel
theorem dX4_pass_81 : decode cX4_pass 81 = .ok (.istore_n 2, 1) := by decide +kernel
theorem dX4_pass_82 : decode cX4_pass 82 = .ok (.iload_n 2, 1) := by decide +kernel
theorem dX4_pass_83 : decode cX4_pass 83 = .ok (.iconst 3, 1) := by decide +kernel
theorem dX4_pass_84 : decode cX4_pass 84 = .ok (.if_icmp .ge 14, 3) := by decide +kernel
theorem dX4_pass_87 : decode cX4_pass 87 = .ok (.aload_n 0, 1) := by decide +kernel
theorem dX4_pass_88 : decode cX4_pass 88 = .ok (.iload_n 2, 1) := by decide +kernel
theorem dX4_pass_89 : decode cX4_pass 89 = .ok (.invokevirtual 120, 3) := by decide +kernel
theorem dX4_pass_92 : decode cX4_pass 92 = .ok (.iinc 2 1, 3) := by decide +kernel
theorem dX4_pass_95 : decode cX4_pass 95 = .ok (.goto (-13), 3) := by decide +kernel
theorem dX4_pass_98 : decode cX4_pass 98 = .ok (.aload_n 0, 1) := by decide +kernel
theorem dX4_pass_99 : decode cX4_pass 99 = .ok (.dup, 1) := by decide +kernel
