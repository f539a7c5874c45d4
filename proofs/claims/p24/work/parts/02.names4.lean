set_option maxRecDepth 20000 in
theorem ggX2_skiDown_X1_glide : GoodIn wsX2_skiDown wsX1_glide := goodIn_r _ [42, 43, 44, 45, 46, 47, 48, 79, 80, 81, 82, 83, 84, 85, 86, 87] (by decide +kernel) (by decide +kernel)
set_option maxRecDepth 20000 in
theorem gX2_skiDown_X1_glide : GoodIn wsX2_skiDown (wsV RX2 109 RX1 yX1_glide wsX1_glide) := goodIn_app (goodIn_of _ (by decide +kernel)) ggX2_skiDown_X1_glide
set_option maxRecDepth 20000 in
theorem ggX2_skiDown_X1_addPoints : GoodIn wsX2_skiDown wsX1_addPoints := goodIn_r _ [52, 53, 54, 55, 56, 57, 58, 47, 59, 60, 61, 62, 79, 80, 81, 82, 83, 84, 85, 86, 87] (by decide +kernel) (by decide +kernel)
set_option maxRecDepth 20000 in
theorem gX2_skiDown_X1_addPoints : GoodIn wsX2_skiDown (wsV RX2 115 RX1 yX1_addPoints wsX1_addPoints) := goodIn_app (goodIn_of _ (by decide +kernel)) ggX2_skiDown_X1_addPoints
set_option maxRecDepth 20000 in
theorem ggX2_skiDown_X0_deepen : GoodIn wsX2_skiDown wsX0_deepen := goodIn_r _ [66, 23, 54, 55, 56, 57, 58, 47, 59, 60, 61, 62, 74, 75, 76, 77, 78] (by decide +kernel) (by decide +kernel)
set_option maxRecDepth 20000 in
theorem gX2_skiDown_X0_deepen : GoodIn wsX2_skiDown (wsV RX2 118 RX0 yX0_deepen wsX0_deepen) := goodIn_app (goodIn_of _ (by decide +kernel)) ggX2_skiDown_X0_deepen
theorem dX2_skiDown_0 : decode cX2_skiDown 0 = .ok (.aload_n 0, 1) := by decide +kernel
theorem dX2_skiDown_1 : decode cX2_skiDown 1 = .ok (.iload_n 1, 1) := by decide +kernel
theorem dX2_skiDown_2 : decode cX2_skiDown 2 = .ok (.iload_n 2, 1) := by decide +kernel
theorem dX2_skiDown_3 : decode cX2_skiDown 3 = .ok (.invokevirtual 105, 3) := by decide +kernel
theorem dX2_skiDown_6 : decode cX2_skiDown 6 = .ok (.istore_n 3, 1) := by decide +kernel
theorem dX2_skiDown_7 : decode cX2_skiDown 7 = .ok (.aload_n 0, 1) := by decide +kernel
theorem dX2_skiDown_8 : decode cX2_skiDown 8 = .ok (.getfield 31, 3) := by decide +kernel
theorem dX2_skiDown_11 : decode cX2_skiDown 11 = .ok (.iload_n 3, 1) := by decide +kernel
theorem dX2_skiDown_12 : decode cX2_skiDown 12 = .ok (.invokevirtual 108, 3) := by decide +kernel
theorem dX2_skiDown_15 : decode cX2_skiDown 15 = .ok (.ifCond .ne 4, 3) := by decide +kernel
theorem dX2_skiDown_18 : decode cX2_skiDown 18 = .ok (.return_, 1) := by decide +kernel
theorem dX2_skiDown_19 : decode cX2_skiDown 19 = .ok (.aload_n 0, 1) := by decide +kernel
theorem dX2_skiDown_20 : decode cX2_skiDown 20 = .ok (.getfield 38, 3) := by decide +kernel
theorem dX2_skiDown_23 : decode cX2_skiDown 23 = .ok (.iload_n 1, 1) := by decide +kernel
theorem dX2_skiDown_24 : decode cX2_skiDown 24 = .ok (.aload_n 0, 1) := by decide +kernel
theorem dX2_skiDown_25 : decode cX2_skiDown 25 = .ok (.invokevirtual 65, 3) := by decide +kernel
theorem dX2_skiDown_28 : decode cX2_skiDown 28 = .ok (.invokevirtual 109, 3) := by decide +kernel
theorem dX2_skiDown_31 : decode cX2_skiDown 31 = .ok (.istore 4, 2) := by decide +kernel
theorem dX2_skiDown_33 : decode cX2_skiDown 33 = .ok (.aload_n 0, 1) := by decide +kernel
theorem dX2_skiDown_34 : decode cX2_skiDown 34 = .ok (.getfield 38, 3) := by decide +kernel
theorem dX2_skiDown_37 : decode cX2_skiDown 37 = .ok (.iload_n 1, 1) := by decide +kernel
theorem dX2_skiDown_38 : decode cX2_skiDown 38 = .ok (.iconst 3, 1) := by decide +kernel
theorem dX2_skiDown_39 : decode cX2_skiDown 39 = .ok (.aload_n 0, 1) := by decide +kernel
theorem dX2_skiDown_40 : decode cX2_skiDown 40 = .ok (.getfield 31, 3) := by decide +kernel
theorem dX2_skiDown_43 : decode cX2_skiDown 43 = .ok (.getfield 112, 3) := by decide +kernel
theorem dX2_skiDown_46 : decode cX2_skiDown 46 = .ok (.iload_n 3, 1) := by decide +kernel
theorem dX2_skiDown_47 : decode cX2_skiDown 47 = .ok (.iaload, 1) := by decide +kernel
theorem dX2_skiDown_48 : decode cX2_skiDown 48 = .ok (.imul, 1) := by decide +kernel
theorem dX2_skiDown_49 : decode cX2_skiDown 49 = .ok (.aload_n 0, 1) := by decide +kernel
theorem dX2_skiDown_50 : decode cX2_skiDown 50 = .ok (.getfield 38, 3) := by decide +kernel
theorem dX2_skiDown_53 : decode cX2_skiDown 53 = .ok (.getfield 59, 3) := by decide +kernel
theorem dX2_skiDown_56 : decode cX2_skiDown 56 = .ok (.iload_n 1, 1) := by decide +kernel
theorem dX2_skiDown_57 : decode cX2_skiDown 57 = .ok (.iaload, 1) := by decide +kernel
theorem dX2_skiDown_58 : decode cX2_skiDown 58 = .ok (.iadd, 1) := by decide +kernel
theorem dX2_skiDown_59 : decode cX2_skiDown 59 = .ok (.iload 4, 2) := by decide +kernel
theorem dX2_skiDown_61 : decode cX2_skiDown 61 = .ok (.iadd, 1) := by decide +kernel
theorem dX2_skiDown_62 : decode cX2_skiDown 62 = .ok (.invokevirtual 115, 3) := by decide +kernel
theorem dX2_skiDown_65 : decode cX2_skiDown 65 = .ok (.aload_n 0, 1) := by decide +kernel
theorem dX2_skiDown_66 : decode cX2_skiDown 66 = .ok (.getfield 31, 3) := by decide +kernel
theorem dX2_skiDown_69 : decode cX2_skiDown 69 = .ok (.iload_n 3, 1) := by decide +kernel
theorem dX2_skiDown_70 : decode cX2_skiDown 70 = .ok (.iconst (-1), 1) := by decide +kernel
theorem dX2_skiDown_71 : decode cX2_skiDown 71 = .ok (.invokevirtual 118, 3) := by decide +kernel
theorem dX2_skiDown_74 : decode cX2_skiDown 74 = .ok (.aload_n 0, 1) := by decide +kernel
theorem dX2_skiDown_75 : decode cX2_skiDown 75 = .ok (.getfield 31, 3) := by decide +kernel
theorem dX2_skiDown_78 : decode cX2_skiDown 78 = .ok (.getfield 121, 3) := by decide +kernel
theorem dX2_skiDown_81 : decode cX2_skiDown 81 = .ok (.iload_n 3, 1) := by decide +kernel
theorem dX2_skiDown_82 : decode cX2_skiDown 82 = .ok (.dup2, 1) := by decide +kernel
theorem dX2_skiDown_83 : decode cX2_skiDown 83 = .ok (.iaload, 1) := by decide +kernel
theorem dX2_skiDown_84 : decode cX2_skiDown 84 = .ok (.iconst 1, 1) := by decide +kernel
theorem dX2_skiDown_85 : decode cX2_skiDown 85 = .ok (.iadd, 1) := by decide +kernel
theorem dX2_skiDown_86 : decode cX2_skiDown 86 = .ok (.iastore, 1) := by decide +kernel
theorem dX2_skiDown_87 : decode cX2_skiDown 87 = .ok (.return_, 1) := by decide +kernel
theorem dX2_allRides_0 : decode cX2_allRides 0 = .ok (.iconst 0, 1) := by decide +kernel
theorem dX2_allRides_1 : decode cX2_allRides 1 = .ok (.istore_n 1, 1) := by decide +kernel
theorem dX2_allRides_2 : decode cX2_allRides 2 = .ok (.iconst 0, 1) := by decide +kernel
theorem dX2_allRides_3 : decode cX2_allRides 3 = .ok (.istore_n 2, 1) := by decide +kernel
theorem dX2_allRides_4 : decode cX2_allRides 4 = .ok (.iload_n 2, 1) := by decide +kernel
theorem dX2_allRides_5 : decode cX2_allRides 5 = .ok (.iconst 3, 1) := by decide +kernel
theorem dX2_allRides_6 : decode cX2_allRides 6 = .ok (.if_icmp .ge 18, 3) := by decide +kernel
theorem dX2_allRides_9 : decode cX2_allRides 9 = .ok (.iload_n 1, 1) := by decide +kernel
theorem dX2_allRides_10 : decode cX2_allRides 10 = .ok (.aload_n 0, 1) := by decide +kernel
theorem dX2_allRides_11 : decode cX2_allRides 11 = .ok (.getfield 25, 3) := by decide +kernel
theorem dX2_allRides_14 : decode cX2_allRides 14 = .ok (.iload_n 2, 1) := by decide +kernel
theorem dX2_allRides_15 : decode cX2_allRides 15 = .ok (.iaload, 1) := by decide +kernel
theorem dX2_allRides_16 : decode cX2_allRides 16 = .ok (.iadd, 1) := by decide +kernel
theorem dX2_allRides_17 : decode cX2_allRides 17 = .ok (.istore_n 1, 1) := by decide +kernel
theorem dX2_allRides_18 : decode cX2_allRides 18 = .ok (.iinc 2 1, 3) := by decide +kernel
theorem dX2_allRides_21 : decode cX2_allRides 21 = .ok (.goto (-17), 3) := by decide +kernel
theorem dX2_allRides_24 : decode cX2_allRides 24 = .ok (.iload_n 1, 1) := by decide +kernel
theorem dX2_allRides_25 : decode cX2_allRides 25 = .ok (.ireturn, 1) := by decide +kernel
set_option maxRecDepth 20000 in
theorem ggX2_towFigure_X1_waitingAt : GoodIn wsX2_towFigure wsX1_waitingAt := goodIn_r _ [8, 9, 10, 18, 19, 20, 21, 22, 23, 24, 25, 26] (by decide +kernel) (by decide +kernel)
set_option maxRecDepth 20000 in
theorem gX2_towFigure_X1_waitingAt : GoodIn wsX2_towFigure (wsV RX2 80 RX1 yX1_waitingAt wsX1_waitingAt) := goodIn_app (goodIn_of _ (by decide +kernel)) ggX2_towFigure_X1_waitingAt
theorem dX2_towFigure_0 : decode cX2_towFigure 0 = .ok (.iload_n 2, 1) := by decide +kernel
theorem dX2_towFigure_1 : decode cX2_towFigure 1 = .ok (.lookupswitch 43 #[(0, 27), (1, 34)], 27) := by decide +kernel
theorem dX2_towFigure_28 : decode cX2_towFigure 28 = .ok (.aload_n 0, 1) := by decide +kernel
theorem dX2_towFigure_29 : decode cX2_towFigure 29 = .ok (.getfield 22, 3) := by decide +kernel
theorem dX2_towFigure_32 : decode cX2_towFigure 32 = .ok (.iload_n 1, 1) := by decide +kernel
theorem dX2_towFigure_33 : decode cX2_towFigure 33 = .ok (.iaload, 1) := by decide +kernel
theorem dX2_towFigure_34 : decode cX2_towFigure 34 = .ok (.ireturn, 1) := by decide +kernel
theorem dX2_towFigure_35 : decode cX2_towFigure 35 = .ok (.aload_n 0, 1) := by decide +kernel
theorem dX2_towFigure_36 : decode cX2_towFigure 36 = .ok (.getfield 38, 3) := by decide +kernel
theorem dX2_towFigure_39 : decode cX2_towFigure 39 = .ok (.iload_n 1, 1) := by decide +kernel
theorem dX2_towFigure_40 : decode cX2_towFigure 40 = .ok (.invokevirtual 80, 3) := by decide +kernel
theorem dX2_towFigure_43 : decode cX2_towFigure 43 = .ok (.ireturn, 1) := by decide +kernel
theorem dX2_towFigure_44 : decode cX2_towFigure 44 = .ok (.aload_n 0, 1) := by decide +kernel
theorem dX2_towFigure_45 : decode cX2_towFigure 45 = .ok (.getfield 25, 3) := by decide +kernel
theorem dX2_towFigure_48 : decode cX2_towFigure 48 = .ok (.iload_n 1, 1) := by decide +kernel
theorem dX2_towFigure_49 : decode cX2_towFigure 49 = .ok (.iaload, 1) := by decide +kernel
theorem dX2_towFigure_50 : decode cX2_towFigure 50 = .ok (.ireturn, 1) := by decide +kernel
set_option maxRecDepth 20000 in
theorem ggX2_figure_X2_flakeOfHour : GoodIn wsX2_figure wsX2_flakeOfHour := goodIn_r _ [11, 12, 1, 13, 14, 15, 16, 46, 47, 48, 49, 50, 51, 52] (by decide +kernel) (by decide +kernel)
set_option maxRecDepth 20000 in
theorem gX2_figure_X2_flakeOfHour : GoodIn wsX2_figure (wsV RX2 65 RX2 yX2_flakeOfHour wsX2_flakeOfHour) := goodIn_app (goodIn_of _ (by decide +kernel)) ggX2_figure_X2_flakeOfHour
set_option maxRecDepth 20000 in
theorem ggX2_figure_X0_flagged : GoodIn wsX2_figure wsX0_flagged := goodIn_r _ [21, 22, 23, 24, 25, 20, 26, 27, 28, 53, 54, 55, 56, 57] (by decide +kernel) (by decide +kernel)
set_option maxRecDepth 20000 in
theorem gX2_figure_X0_flagged : GoodIn wsX2_figure (wsV RX2 128 RX0 yX0_flagged wsX0_flagged) := goodIn_app (goodIn_of _ (by decide +kernel)) ggX2_figure_X0_flagged
set_option maxRecDepth 20000 in
theorem ggX2_figure_X2_allRides : GoodIn wsX2_figure wsX2_allRides := goodIn_r _ [32, 33, 46, 47, 48, 49, 50, 51, 52] (by decide +kernel) (by decide +kernel)
set_option maxRecDepth 20000 in
theorem gX2_figure_X2_allRides : GoodIn wsX2_figure (wsV RX2 131 RX2 yX2_allRides wsX2_allRides) := goodIn_app (goodIn_of _ (by decide +kernel)) ggX2_figure_X2_allRides
set_option maxRecDepth 20000 in
theorem ggX2_figure_X1_waitingAnywhere : GoodIn wsX2_figure wsX1_waitingAnywhere := goodIn_r _ [38, 39, 40, 58, 59, 60, 61, 62, 63, 64, 65, 66] (by decide +kernel) (by decide +kernel)
set_option maxRecDepth 20000 in
theorem gX2_figure_X1_waitingAnywhere : GoodIn wsX2_figure (wsV RX2 134 RX1 yX1_waitingAnywhere wsX1_waitingAnywhere) := goodIn_app (goodIn_of _ (by decide +kernel)) ggX2_figure_X1_waitingAnywhere
set_option maxRecDepth 20000 in
theorem ggX2_figure_X1_allPoints : GoodIn wsX2_figure wsX1_allPoints := goodIn_r _ [44, 39, 45, 58, 59, 60, 61, 62, 63, 64, 65, 66] (by decide +kernel) (by decide +kernel)
set_option maxRecDepth 20000 in
theorem gX2_figure_X1_allPoints : GoodIn wsX2_figure (wsV RX2 137 RX1 yX1_allPoints wsX1_allPoints) := goodIn_app (goodIn_of _ (by decide +kernel)) ggX2_figure_X1_allPoints
theorem dX2_figure_0 : decode cX2_figure 0 = .ok (.iload_n 1, 1) := by decide +kernel
theorem dX2_figure_1 : decode cX2_figure 1 = .ok (.tableswitch 99 0 7 #[47, 52, 57, 62, 70, 78, 86, 91], 47) := by decide +kernel
theorem dX2_figure_48 : decode cX2_figure 48 = .ok (.aload_n 0, 1) := by decide +kernel
theorem dX2_figure_49 : decode cX2_figure 49 = .ok (.getfield 9, 3) := by decide +kernel
theorem dX2_figure_52 : decode cX2_figure 52 = .ok (.ireturn, 1) := by decide +kernel
theorem dX2_figure_53 : decode cX2_figure 53 = .ok (.aload_n 0, 1) := by decide +kernel
theorem dX2_figure_54 : decode cX2_figure 54 = .ok (.invokevirtual 65, 3) := by decide +kernel
theorem dX2_figure_57 : decode cX2_figure 57 = .ok (.ireturn, 1) := by decide +kernel
theorem dX2_figure_58 : decode cX2_figure 58 = .ok (.aload_n 0, 1) := by decide +kernel
theorem dX2_figure_59 : decode cX2_figure 59 = .ok (.getfield 15, 3) := by decide +kernel
theorem dX2_figure_62 : decode cX2_figure 62 = .ok (.ireturn, 1) := by decide +kernel
theorem dX2_figure_63 : decode cX2_figure 63 = .ok (.aload_n 0, 1) := by decide +kernel
theorem dX2_figure_64 : decode cX2_figure 64 = .ok (.getfield 31, 3) := by decide +kernel
theorem dX2_figure_67 : decode cX2_figure 67 = .ok (.getfield 124, 3) := by decide +kernel
theorem dX2_figure_70 : decode cX2_figure 70 = .ok (.ireturn, 1) := by decide +kernel
theorem dX2_figure_71 : decode cX2_figure 71 = .ok (.aload_n 0, 1) := by decide +kernel
theorem dX2_figure_72 : decode cX2_figure 72 = .ok (.getfield 38, 3) := by decide +kernel
theorem dX2_figure_75 : decode cX2_figure 75 = .ok (.getfield 127, 3) := by decide +kernel
theorem dX2_figure_78 : decode cX2_figure 78 = .ok (.ireturn, 1) := by decide +kernel
theorem dX2_figure_79 : decode cX2_figure 79 = .ok (.aload_n 0, 1) := by decide +kernel
theorem dX2_figure_80 : decode cX2_figure 80 = .ok (.getfield 31, 3) := by decide +kernel
theorem dX2_figure_83 : decode cX2_figure 83 = .ok (.invokevirtual 128, 3) := by decide +kernel
theorem dX2_figure_86 : decode cX2_figure 86 = .ok (.ireturn, 1) := by decide +kernel
theorem dX2_figure_87 : decode cX2_figure 87 = .ok (.aload_n 0, 1) := by decide +kernel
theorem dX2_figure_88 : decode cX2_figure 88 = .ok (.invokevirtual 131, 3) := by decide +kernel
theorem dX2_figure_91 : decode cX2_figure 91 = .ok (.ireturn, 1) := by decide +kernel
theorem dX2_figure_92 : decode cX2_figure 92 = .ok (.aload_n 0, 1) := by decide +kernel
theorem dX2_figure_93 : decode cX2_figure 93 = .ok (.getfield 38, 3) := by decide +kernel
theorem dX2_figure_96 : decode cX2_figure 96 = .ok (.invokevirtual 134, 3) := by decide +kernel
theorem dX2_figure_99 : decode cX2_figure 99 = .ok (.ireturn, 1) := by decide +kernel
theorem dX2_figure_100 : decode cX2_figure 100 = .ok (.aload_n 0, 1) := by decide +kernel
theorem dX2_figure_101 : decode cX2_figure 101 = .ok (.getfield 38, 3) := by decide +kernel
theorem dX2_figure_104 : decode cX2_figure 104 = .ok (.invokevirtual 137, 3) := by decide +kernel
theorem dX2_figure_107 : decode cX2_figure 107 = .ok (.ireturn, 1) := by decide +kernel
set_option maxRecDepth 20000 in
theorem ggX3_init_X2_init : GoodIn wsX3_init wsX2_init := goodIn_r _ [11, 12, 2, 3, 13, 14, 15, 16, 17, 18, 19, 20, 21, 22, 23, 24, 25, 26, 27, 28, 29, 30, 31, 32, 33, 34, 35, 36, 37, 38, 39, 40, 41, 42, 43, 44, 45, 46, 47, 48, 49, 50, 51, 52, 53, 56, 57, 58, 59, 60, 61, 62, 63, 64, 65, 66, 67, 68, 69] (by decide +kernel) (by decide +kernel)
set_option maxRecDepth 20000 in
theorem gX3_init_X2_init : GoodIn wsX3_init (wsX2_init) := ggX3_init_X2_init
theorem dX3_init_0 : decode cX3_init 0 = .ok (.aload_n 0, 1) := by decide +kernel
theorem dX3_init_1 : decode cX3_init 1 = .ok (.invokespecial 1, 3) := by decide +kernel
theorem dX3_init_4 : decode cX3_init 4 = .ok (.aload_n 0, 1) := by decide +kernel
theorem dX3_init_5 : decode cX3_init 5 = .ok (.new 7, 3) := by decide +kernel
theorem dX3_init_8 : decode cX3_init 8 = .ok (.dup, 1) := by decide +kernel
theorem dX3_init_9 : decode cX3_init 9 = .ok (.invokespecial 9, 3) := by decide +kernel
theorem dX3_init_12 : decode cX3_init 12 = .ok (.putfield 10, 3) := by decide +kernel
theorem dX3_init_15 : decode cX3_init 15 = .ok (.aload_n 0, 1) := by decide +kernel
theorem dX3_init_16 : decode cX3_init 16 = .ok (.new 7, 3) := by decide +kernel
theorem dX3_init_19 : decode cX3_init 19 = .ok (.dup, 1) := by decide +kernel
theorem dX3_init_20 : decode cX3_init 20 = .ok (.invokespecial 9, 3) := by decide +kernel
theorem dX3_init_23 : decode cX3_init 23 = .ok (.putfield 16, 3) := by decide +kernel
theorem dX3_init_26 : decode cX3_init 26 = .ok (.return_, 1) := by decide +kernel
set_option maxRecDepth 20000 in
theorem ggX3_run_X3_isWithin : GoodIn wsX3_run wsX3_isWithin := goodIn_r _ [12] (by decide +kernel) (by decide +kernel)
set_option maxRecDepth 20000 in
theorem gX3_run_X3_isWithin : GoodIn wsX3_run (va_wsS RX3 19 yX3_isWithin wsX3_isWithin) := goodIn_app (goodIn_of _ (by decide +kernel)) ggX3_run_X3_isWithin
set_option maxRecDepth 20000 in
theorem ggX3_run_X0_isFull : GoodIn wsX3_run wsX0_isFull := goodIn_r _ [17, 18, 35, 36, 37, 38, 39] (by decide +kernel) (by decide +kernel)
set_option maxRecDepth 20000 in
theorem gX3_run_X0_isFull : GoodIn wsX3_run (wsV RX3 39 RX0 yX0_isFull wsX0_isFull) := goodIn_app (goodIn_of _ (by decide +kernel)) ggX3_run_X0_isFull
set_option maxRecDepth 20000 in
theorem ggX3_run_X0_add : GoodIn wsX3_run wsX0_add := goodIn_r _ [22, 18, 23, 24, 25, 35, 36, 37, 38, 39] (by decide +kernel) (by decide +kernel)
set_option maxRecDepth 20000 in
theorem gX3_run_X0_add : GoodIn wsX3_run (wsV RX3 50 RX0 yX0_add wsX0_add) := goodIn_app (goodIn_of _ (by decide +kernel)) ggX3_run_X0_add
theorem dX3_run_0 : decode cX3_run 0 = .ok (.iload_n 1, 1) := by decide +kernel
theorem dX3_run_1 : decode cX3_run 1 = .ok (.iconst 0, 1) := by decide +kernel
theorem dX3_run_2 : decode cX3_run 2 = .ok (.iconst 2, 1) := by decide +kernel
theorem dX3_run_3 : decode cX3_run 3 = .ok (.invokestatic 19, 3) := by decide +kernel
theorem dX3_run_6 : decode cX3_run 6 = .ok (.ifCond .ne 13, 3) := by decide +kernel
theorem dX3_run_9 : decode cX3_run 9 = .ok (.new 23, 3) := by decide +kernel
theorem dX3_run_12 : decode cX3_run 12 = .ok (.dup, 1) := by decide +kernel
theorem dX3_run_13 : decode cX3_run 13 = .ok (.ldc 25, 2) := by decide +kernel
theorem dX3_run_15 : decode cX3_run 15 = .ok (.invokespecial 27, 3) := by decide +kernel
theorem dX3_run_18 : decode cX3_run 18 = .ok (.athrow, 1) := by decide +kernel
theorem dX3_run_19 : decode cX3_run 19 = .ok (.iload_n 2, 1) := by decide +kernel
theorem dX3_run_20 : decode cX3_run 20 = .ok (.iconst 1, 1) := by decide +kernel
theorem dX3_run_21 : decode cX3_run 21 = .ok (.bipush 9, 2) := by decide +kernel
theorem dX3_run_23 : decode cX3_run 23 = .ok (.invokestatic 19, 3) := by decide +kernel
theorem dX3_run_26 : decode cX3_run 26 = .ok (.ifCond .ne 13, 3) := by decide +kernel
theorem dX3_run_29 : decode cX3_run 29 = .ok (.new 30, 3) := by decide +kernel
theorem dX3_run_32 : decode cX3_run 32 = .ok (.dup, 1) := by decide +kernel
theorem dX3_run_33 : decode cX3_run 33 = .ok (.ldc 32, 2) := by decide +kernel
theorem dX3_run_35 : decode cX3_run 35 = .ok (.invokespecial 34, 3) := by decide +kernel
theorem dX3_run_38 : decode cX3_run 38 = .ok (.athrow, 1) := by decide +kernel
theorem dX3_run_39 : decode cX3_run 39 = .ok (.aload_n 0, 1) := by decide +kernel
theorem dX3_run_40 : decode cX3_run 40 = .ok (.getfield 10, 3) := by decide +kernel
theorem dX3_run_43 : decode cX3_run 43 = .ok (.getfield 35, 3) := by decide +kernel
theorem dX3_run_46 : decode cX3_run 46 = .ok (.invokevirtual 39, 3) := by decide +kernel
theorem dX3_run_49 : decode cX3_run 49 = .ok (.ifCond .eq 13, 3) := by decide +kernel
theorem dX3_run_52 : decode cX3_run 52 = .ok (.new 45, 3) := by decide +kernel
theorem dX3_run_55 : decode cX3_run 55 = .ok (.dup, 1) := by decide +kernel
theorem dX3_run_56 : decode cX3_run 56 = .ok (.ldc 47, 2) := by decide +kernel
theorem dX3_run_58 : decode cX3_run 58 = .ok (.invokespecial 49, 3) := by decide +kernel
theorem dX3_run_61 : decode cX3_run 61 = .ok (.athrow, 1) := by decide +kernel
theorem dX3_run_62 : decode cX3_run 62 = .ok (.aload_n 0, 1) := by decide +kernel
theorem dX3_run_63 : decode cX3_run 63 = .ok (.getfield 10, 3) := by decide +kernel
theorem dX3_run_66 : decode cX3_run 66 = .ok (.getfield 35, 3) := by decide +kernel
theorem dX3_run_69 : decode cX3_run 69 = .ok (.iload_n 1, 1) := by decide +kernel
theorem dX3_run_70 : decode cX3_run 70 = .ok (.iload_n 2, 1) := by decide +kernel
theorem dX3_run_71 : decode cX3_run 71 = .ok (.invokevirtual 50, 3) := by decide +kernel
theorem dX3_run_74 : decode cX3_run 74 = .ok (.ireturn, 1) := by decide +kernel
set_option maxRecDepth 20000 in
theorem ggX3_setPommels_X3_isWithin : GoodIn wsX3_setPommels wsX3_isWithin := goodIn_r _ [10] (by decide +kernel) (by decide +kernel)
set_option maxRecDepth 20000 in
theorem gX3_setPommels_X3_isWithin : GoodIn wsX3_setPommels (va_wsS RX3 19 yX3_isWithin wsX3_isWithin) := goodIn_app (goodIn_of _ (by decide +kernel)) ggX3_setPommels_X3_isWithin
theorem dX3_setPommels_0 : decode cX3_setPommels 0 = .ok (.iload_n 1, 1) := by decide +kernel
theorem dX3_setPommels_1 : decode cX3_setPommels 1 = .ok (.iconst 0, 1) := by decide +kernel
theorem dX3_setPommels_2 : decode cX3_setPommels 2 = .ok (.iconst 2, 1) := by decide +kernel
theorem dX3_setPommels_3 : decode cX3_setPommels 3 = .ok (.invokestatic 19, 3) := by decide +kernel
theorem dX3_setPommels_6 : decode cX3_setPommels 6 = .ok (.ifCond .ne 13, 3) := by decide +kernel
theorem dX3_setPommels_9 : decode cX3_setPommels 9 = .ok (.new 23, 3) := by decide +kernel
theorem dX3_setPommels_12 : decode cX3_setPommels 12 = .ok (.dup, 1) := by decide +kernel
theorem dX3_setPommels_13 : decode cX3_setPommels 13 = .ok (.ldc 25, 2) := by decide +kernel
theorem dX3_setPommels_15 : decode cX3_setPommels 15 = .ok (.invokespecial 27, 3) := by decide +kernel
theorem dX3_setPommels_18 : decode cX3_setPommels 18 = .ok (.athrow, 1) := by decide +kernel
theorem dX3_setPommels_19 : decode cX3_setPommels 19 = .ok (.iload_n 2, 1) := by decide +kernel
theorem dX3_setPommels_20 : decode cX3_setPommels 20 = .ok (.iconst 1, 1) := by decide +kernel
theorem dX3_setPommels_21 : decode cX3_setPommels 21 = .ok (.iconst 4, 1) := by decide +kernel
theorem dX3_setPommels_22 : decode cX3_setPommels 22 = .ok (.invokestatic 19, 3) := by decide +kernel
theorem dX3_setPommels_25 : decode cX3_setPommels 25 = .ok (.ifCond .ne 13, 3) := by decide +kernel
theorem dX3_setPommels_28 : decode cX3_setPommels 28 = .ok (.new 30, 3) := by decide +kernel
theorem dX3_setPommels_31 : decode cX3_setPommels 31 = .ok (.dup, 1) := by decide +kernel
theorem dX3_setPommels_32 : decode cX3_setPommels 32 = .ok (.ldc 54, 2) := by decide +kernel
theorem dX3_setPommels_34 : decode cX3_setPommels 34 = .ok (.invokespecial 34, 3) := by decide +kernel
theorem dX3_setPommels_37 : decode cX3_setPommels 37 = .ok (.athrow, 1) := by decide +kernel
theorem dX3_setPommels_38 : decode cX3_setPommels 38 = .ok (.aload_n 0, 1) := by decide +kernel
theorem dX3_setPommels_39 : decode cX3_setPommels 39 = .ok (.getfield 10, 3) := by decide +kernel
theorem dX3_setPommels_42 : decode cX3_setPommels 42 = .ok (.getfield 56, 3) := by decide +kernel
theorem dX3_setPommels_45 : decode cX3_setPommels 45 = .ok (.iload_n 1, 1) := by decide +kernel
theorem dX3_setPommels_46 : decode cX3_setPommels 46 = .ok (.iaload, 1) := by decide +kernel
theorem dX3_setPommels_47 : decode cX3_setPommels 47 = .ok (.istore_n 3, 1) := by decide +kernel
theorem dX3_setPommels_48 : decode cX3_setPommels 48 = .ok (.aload_n 0, 1) := by decide +kernel
theorem dX3_setPommels_49 : decode cX3_setPommels 49 = .ok (.getfield 10, 3) := by decide +kernel
theorem dX3_setPommels_52 : decode cX3_setPommels 52 = .ok (.getfield 56, 3) := by decide +kernel
theorem dX3_setPommels_55 : decode cX3_setPommels 55 = .ok (.iload_n 1, 1) := by decide +kernel
theorem dX3_setPommels_56 : decode cX3_setPommels 56 = .ok (.iload_n 2, 1) := by decide +kernel
theorem dX3_setPommels_57 : decode cX3_setPommels 57 = .ok (.iastore, 1) := by decide +kernel
theorem dX3_setPommels_58 : decode cX3_setPommels 58 = .ok (.iload_n 3, 1) := by decide +kernel
theorem dX3_setPommels_59 : decode cX3_setPommels 59 = .ok (.ireturn, 1) := by decide +kernel
set_option maxRecDepth 20000 in
theorem ggX3_setFlake_X3_isWithin : GoodIn wsX3_setFlake wsX3_isWithin := goodIn_r _ [10] (by decide +kernel) (by decide +kernel)
set_option maxRecDepth 20000 in
theorem gX3_setFlake_X3_isWithin : GoodIn wsX3_setFlake (va_wsS RX3 19 yX3_isWithin wsX3_isWithin) := goodIn_app (goodIn_of _ (by decide +kernel)) ggX3_setFlake_X3_isWithin
theorem dX3_setFlake_0 : decode cX3_setFlake 0 = .ok (.iload_n 1, 1) := by decide +kernel
theorem dX3_setFlake_1 : decode cX3_setFlake 1 = .ok (.iconst 0, 1) := by decide +kernel
theorem dX3_setFlake_2 : decode cX3_setFlake 2 = .ok (.iconst 5, 1) := by decide +kernel
theorem dX3_setFlake_3 : decode cX3_setFlake 3 = .ok (.invokestatic 19, 3) := by decide +kernel
theorem dX3_setFlake_6 : decode cX3_setFlake 6 = .ok (.ifCond .ne 13, 3) := by decide +kernel
theorem dX3_setFlake_9 : decode cX3_setFlake 9 = .ok (.new 23, 3) := by decide +kernel
theorem dX3_setFlake_12 : decode cX3_setFlake 12 = .ok (.dup, 1) := by decide +kernel
theorem dX3_setFlake_13 : decode cX3_setFlake 13 = .ok (.ldc 60, 2) := by decide +kernel
theorem dX3_setFlake_15 : decode cX3_setFlake 15 = .ok (.invokespecial 27, 3) := by decide +kernel
theorem dX3_setFlake_18 : decode cX3_setFlake 18 = .ok (.athrow, 1) := by decide +kernel
theorem dX3_setFlake_19 : decode cX3_setFlake 19 = .ok (.iload_n 2, 1) := by decide +kernel
theorem dX3_setFlake_20 : decode cX3_setFlake 20 = .ok (.iconst 0, 1) := by decide +kernel
theorem dX3_setFlake_21 : decode cX3_setFlake 21 = .ok (.iconst 3, 1) := by decide +kernel
theorem dX3_setFlake_22 : decode cX3_setFlake 22 = .ok (.invokestatic 19, 3) := by decide +kernel
theorem dX3_setFlake_25 : decode cX3_setFlake 25 = .ok (.ifCond .ne 13, 3) := by decide +kernel
theorem dX3_setFlake_28 : decode cX3_setFlake 28 = .ok (.new 30, 3) := by decide +kernel
theorem dX3_setFlake_31 : decode cX3_setFlake 31 = .ok (.dup, 1) := by decide +kernel
theorem dX3_setFlake_32 : decode cX3_setFlake 32 = .ok (.ldc 62, 2) := by decide +kernel
theorem dX3_setFlake_34 : decode cX3_setFlake 34 = .ok (.invokespecial 34, 3) := by decide +kernel
theorem dX3_setFlake_37 : decode cX3_setFlake 37 = .ok (.athrow, 1) := by decide +kernel
theorem dX3_setFlake_38 : decode cX3_setFlake 38 = .ok (.aload_n 0, 1) := by decide +kernel
theorem dX3_setFlake_39 : decode cX3_setFlake 39 = .ok (.getfield 10, 3) := by decide +kernel
theorem dX3_setFlake_42 : decode cX3_setFlake 42 = .ok (.getfield 64, 3) := by decide +kernel
theorem dX3_setFlake_45 : decode cX3_setFlake 45 = .ok (.iload_n 1, 1) := by decide +kernel
theorem dX3_setFlake_46 : decode cX3_setFlake 46 = .ok (.iaload, 1) := by decide +kernel
theorem dX3_setFlake_47 : decode cX3_setFlake 47 = .ok (.istore_n 3, 1) := by decide +kernel
theorem dX3_setFlake_48 : decode cX3_setFlake 48 = .ok (.aload_n 0, 1) := by decide +kernel
theorem dX3_setFlake_49 : decode cX3_setFlake 49 = .ok (.getfield 10, 3) := by decide +kernel
theorem dX3_setFlake_52 : decode cX3_setFlake 52 = .ok (.getfield 64, 3) := by decide +kernel
theorem dX3_setFlake_55 : decode cX3_setFlake 55 = .ok (.iload_n 1, 1) := by decide +kernel
theorem dX3_setFlake_56 : decode cX3_setFlake 56 = .ok (.iload_n 2, 1) := by decide +kernel
theorem dX3_setFlake_57 : decode cX3_setFlake 57 = .ok (.iastore, 1) := by decide +kernel
theorem dX3_setFlake_58 : decode cX3_setFlake 58 = .ok (.iload_n 3, 1) := by decide +kernel
theorem dX3_setFlake_59 : decode cX3_setFlake 59 = .ok (.ireturn, 1) := by decide +kernel
set_option maxRecDepth 20000 in
theorem ggX3_skier_X3_isWithin : GoodIn wsX3_skier wsX3_isWithin := goodIn_r _ [10] (by decide +kernel) (by decide +kernel)
set_option maxRecDepth 20000 in
theorem gX3_skier_X3_isWithin : GoodIn wsX3_skier (va_wsS RX3 19 yX3_isWithin wsX3_isWithin) := goodIn_app (goodIn_of _ (by decide +kernel)) ggX3_skier_X3_isWithin
set_option maxRecDepth 20000 in
theorem ggX3_skier_X1_isFull : GoodIn wsX3_skier wsX1_isFull := goodIn_r _ [15, 16, 33, 34, 35, 36, 37, 38, 39, 40, 41] (by decide +kernel) (by decide +kernel)
set_option maxRecDepth 20000 in
theorem gX3_skier_X1_isFull : GoodIn wsX3_skier (wsV RX3 101 RX1 yX1_isFull wsX1_isFull) := goodIn_app (goodIn_of _ (by decide +kernel)) ggX3_skier_X1_isFull
set_option maxRecDepth 20000 in
theorem ggX3_skier_X1_add : GoodIn wsX3_skier wsX1_add := goodIn_r _ [20, 16, 21, 22, 23, 33, 34, 35, 36, 37, 38, 39, 40, 41] (by decide +kernel) (by decide +kernel)
set_option maxRecDepth 20000 in
theorem gX3_skier_X1_add : GoodIn wsX3_skier (wsV RX3 106 RX1 yX1_add wsX1_add) := goodIn_app (goodIn_of _ (by decide +kernel)) ggX3_skier_X1_add
theorem dX3_skier_0 : decode cX3_skier 0 = .ok (.iload_n 1, 1) := by decide +kernel
theorem dX3_skier_1 : decode cX3_skier 1 = .ok (.iconst 1, 1) := by decide +kernel
theorem dX3_skier_2 : decode cX3_skier 2 = .ok (.bipush 9, 2) := by decide +kernel
theorem dX3_skier_4 : decode cX3_skier 4 = .ok (.invokestatic 19, 3) := by decide +kernel
theorem dX3_skier_7 : decode cX3_skier 7 = .ok (.ifCond .ne 13, 3) := by decide +kernel
theorem dX3_skier_10 : decode cX3_skier 10 = .ok (.new 30, 3) := by decide +kernel
theorem dX3_skier_13 : decode cX3_skier 13 = .ok (.dup, 1) := by decide +kernel
theorem dX3_skier_14 : decode cX3_skier 14 = .ok (.ldc 93, 2) := by decide +kernel
theorem dX3_skier_16 : decode cX3_skier 16 = .ok (.invokespecial 34, 3) := by decide +kernel
theorem dX3_skier_19 : decode cX3_skier 19 = .ok (.athrow, 1) := by decide +kernel
theorem dX3_skier_20 : decode cX3_skier 20 = .ok (.iload_n 2, 1) := by decide +kernel
theorem dX3_skier_21 : decode cX3_skier 21 = .ok (.iconst 0, 1) := by decide +kernel
theorem dX3_skier_22 : decode cX3_skier 22 = .ok (.bipush 60, 2) := by decide +kernel
theorem dX3_skier_24 : decode cX3_skier 24 = .ok (.invokestatic 19, 3) := by decide +kernel
theorem dX3_skier_27 : decode cX3_skier 27 = .ok (.ifCond .ne 13, 3) := by decide +kernel
theorem dX3_skier_30 : decode cX3_skier 30 = .ok (.new 30, 3) := by decide +kernel
theorem dX3_skier_33 : decode cX3_skier 33 = .ok (.dup, 1) := by decide +kernel
theorem dX3_skier_34 : decode cX3_skier 34 = .ok (.ldc 95, 2) := by decide +kernel
theorem dX3_skier_36 : decode cX3_skier 36 = .ok (.invokespecial 34, 3) := by decide +kernel
theorem dX3_skier_39 : decode cX3_skier 39 = .ok (.athrow, 1) := by decide +kernel
theorem dX3_skier_40 : decode cX3_skier 40 = .ok (.aload_n 0, 1) := by decide +kernel
theorem dX3_skier_41 : decode cX3_skier 41 = .ok (.getfield 10, 3) := by decide +kernel
theorem dX3_skier_44 : decode cX3_skier 44 = .ok (.getfield 97, 3) := by decide +kernel
theorem dX3_skier_47 : decode cX3_skier 47 = .ok (.invokevirtual 101, 3) := by decide +kernel
theorem dX3_skier_50 : decode cX3_skier 50 = .ok (.ifCond .eq 13, 3) := by decide +kernel
theorem dX3_skier_53 : decode cX3_skier 53 = .ok (.new 45, 3) := by decide +kernel
theorem dX3_skier_56 : decode cX3_skier 56 = .ok (.dup, 1) := by decide +kernel
theorem dX3_skier_57 : decode cX3_skier 57 = .ok (.ldc 104, 2) := by decide +kernel
theorem dX3_skier_59 : decode cX3_skier 59 = .ok (.invokespecial 49, 3) := by decide +kernel
theorem dX3_skier_62 : decode cX3_skier 62 = .ok (.athrow, 1) := by decide +kernel
theorem dX3_skier_63 : decode cX3_skier 63 = .ok (.aload_n 0, 1) := by decide +kernel
theorem dX3_skier_64 : decode cX3_skier 64 = .ok (.getfield 10, 3) := by decide +kernel
theorem dX3_skier_67 : decode cX3_skier 67 = .ok (.getfield 97, 3) := by decide +kernel
theorem dX3_skier_70 : decode cX3_skier 70 = .ok (.iload_n 1, 1) := by decide +kernel
theorem dX3_skier_71 : decode cX3_skier 71 = .ok (.iload_n 2, 1) := by decide +kernel
theorem dX3_skier_72 : decode cX3_skier 72 = .ok (.invokevirtual 106, 3) := by decide +kernel
theorem dX3_skier_75 : decode cX3_skier 75 = .ok (.ireturn, 1) := by decide +kernel
set_option maxRecDepth 20000 in
theorem ggX3_wax_X1_has : GoodIn wsX3_wax wsX1_has := goodIn_r _ [15, 16, 36, 37, 38, 39, 40, 41, 42, 43, 44] (by decide +kernel) (by decide +kernel)
set_option maxRecDepth 20000 in
theorem gX3_wax_X1_has : GoodIn wsX3_wax (wsV RX3 107 RX1 yX1_has wsX1_has) := goodIn_app (goodIn_of _ (by decide +kernel)) ggX3_wax_X1_has
set_option maxRecDepth 20000 in
theorem ggX3_wax_X3_isWithin : GoodIn wsX3_wax wsX3_isWithin := goodIn_r _ [20] (by decide +kernel) (by decide +kernel)
set_option maxRecDepth 20000 in
theorem gX3_wax_X3_isWithin : GoodIn wsX3_wax (va_wsS RX3 19 yX3_isWithin wsX3_isWithin) := goodIn_app (goodIn_of _ (by decide +kernel)) ggX3_wax_X3_isWithin
set_option maxRecDepth 20000 in
theorem ggX3_wax_X1_putWaxOn : GoodIn wsX3_wax wsX1_putWaxOn := goodIn_r _ [24, 25, 26, 36, 37, 38, 39, 40, 41, 42, 43, 44] (by decide +kernel) (by decide +kernel)
set_option maxRecDepth 20000 in
theorem gX3_wax_X1_putWaxOn : GoodIn wsX3_wax (wsV RX3 116 RX1 yX1_putWaxOn wsX1_putWaxOn) := goodIn_app (goodIn_of _ (by decide +kernel)) ggX3_wax_X1_putWaxOn
theorem dX3_wax_0 : decode cX3_wax 0 = .ok (.aload_n 0, 1) := by decide +kernel
theorem dX3_wax_1 : decode cX3_wax 1 = .ok (.getfield 10, 3) := by decide +kernel
theorem dX3_wax_4 : decode cX3_wax 4 = .ok (.getfield 97, 3) := by decide +kernel
theorem dX3_wax_7 : decode cX3_wax 7 = .ok (.iload_n 1, 1) := by decide +kernel
theorem dX3_wax_8 : decode cX3_wax 8 = .ok (.invokevirtual 107, 3) := by decide +kernel
theorem dX3_wax_11 : decode cX3_wax 11 = .ok (.ifCond .ne 13, 3) := by decide +kernel
theorem dX3_wax_14 : decode cX3_wax 14 = .ok (.new 23, 3) := by decide +kernel
theorem dX3_wax_17 : decode cX3_wax 17 = .ok (.dup, 1) := by decide +kernel
theorem dX3_wax_18 : decode cX3_wax 18 = .ok (.ldc 108, 2) := by decide +kernel
theorem dX3_wax_20 : decode cX3_wax 20 = .ok (.invokespecial 27, 3) := by decide +kernel
theorem dX3_wax_23 : decode cX3_wax 23 = .ok (.athrow, 1) := by decide +kernel
theorem dX3_wax_24 : decode cX3_wax 24 = .ok (.iload_n 2, 1) := by decide +kernel
theorem dX3_wax_25 : decode cX3_wax 25 = .ok (.iconst 0, 1) := by decide +kernel
theorem dX3_wax_26 : decode cX3_wax 26 = .ok (.iconst 3, 1) := by decide +kernel
theorem dX3_wax_27 : decode cX3_wax 27 = .ok (.invokestatic 19, 3) := by decide +kernel
theorem dX3_wax_30 : decode cX3_wax 30 = .ok (.ifCond .ne 13, 3) := by decide +kernel
theorem dX3_wax_33 : decode cX3_wax 33 = .ok (.new 30, 3) := by decide +kernel
theorem dX3_wax_36 : decode cX3_wax 36 = .ok (.dup, 1) := by decide +kernel
theorem dX3_wax_37 : decode cX3_wax 37 = .ok (.ldc 110, 2) := by decide +kernel
theorem dX3_wax_39 : decode cX3_wax 39 = .ok (.invokespecial 34, 3) := by decide +kernel
theorem dX3_wax_42 : decode cX3_wax 42 = .ok (.athrow, 1) := by decide +kernel
theorem dX3_wax_43 : decode cX3_wax 43 = .ok (.aload_n 0, 1) := by decide +kernel
theorem dX3_wax_44 : decode cX3_wax 44 = .ok (.getfield 10, 3) := by decide +kernel
theorem dX3_wax_47 : decode cX3_wax 47 = .ok (.getfield 97, 3) := by decide +kernel
theorem dX3_wax_50 : decode cX3_wax 50 = .ok (.getfield 112, 3) := by decide +kernel
theorem dX3_wax_53 : decode cX3_wax 53 = .ok (.iload_n 1, 1) := by decide +kernel
theorem dX3_wax_54 : decode cX3_wax 54 = .ok (.iaload, 1) := by decide +kernel
theorem dX3_wax_55 : decode cX3_wax 55 = .ok (.iconst 2, 1) := by decide +kernel
theorem dX3_wax_56 : decode cX3_wax 56 = .ok (.if_icmp .ge 13, 3) := by decide +kernel
theorem dX3_wax_59 : decode cX3_wax 59 = .ok (.new 45, 3) := by decide +kernel
theorem dX3_wax_62 : decode cX3_wax 62 = .ok (.dup, 1) := by decide +kernel
theorem dX3_wax_63 : decode cX3_wax 63 = .ok (.ldc 114, 2) := by decide +kernel
theorem dX3_wax_65 : decode cX3_wax 65 = .ok (.invokespecial 49, 3) := by decide +kernel
theorem dX3_wax_68 : decode cX3_wax 68 = .ok (.athrow, 1) := by decide +kernel
theorem dX3_wax_69 : decode cX3_wax 69 = .ok (.aload_n 0, 1) := by decide +kernel
theorem dX3_wax_70 : decode cX3_wax 70 = .ok (.getfield 10, 3) := by decide +kernel
theorem dX3_wax_73 : decode cX3_wax 73 = .ok (.getfield 97, 3) := by decide +kernel
theorem dX3_wax_76 : decode cX3_wax 76 = .ok (.getfield 112, 3) := by decide +kernel
theorem dX3_wax_79 : decode cX3_wax 79 = .ok (.iload_n 1, 1) := by decide +kernel
theorem dX3_wax_80 : decode cX3_wax 80 = .ok (.dup2, 1) := by decide +kernel
theorem dX3_wax_81 : decode cX3_wax 81 = .ok (.iaload, 1) := by decide +kernel
theorem dX3_wax_82 : decode cX3_wax 82 = .ok (.iconst 2, 1) := by decide +kernel
theorem dX3_wax_83 : decode cX3_wax 83 = .ok (.isub, 1) := by decide +kernel
theorem dX3_wax_84 : decode cX3_wax 84 = .ok (.iastore, 1) := by decide +kernel
theorem dX3_wax_85 : decode cX3_wax 85 = .ok (.aload_n 0, 1) := by decide +kernel
theorem dX3_wax_86 : decode cX3_wax 86 = .ok (.getfield 10, 3) := by decide +kernel
theorem dX3_wax_89 : decode cX3_wax 89 = .ok (.dup, 1) := by decide +kernel
theorem dX3_wax_90 : decode cX3_wax 90 = .ok (.getfield 73, 3) := by decide +kernel
theorem dX3_wax_93 : decode cX3_wax 93 = .ok (.iconst 2, 1) := by decide +kernel
theorem dX3_wax_94 : decode cX3_wax 94 = .ok (.iadd, 1) := by decide +kernel
theorem dX3_wax_95 : decode cX3_wax 95 = .ok (.putfield 73, 3) := by decide +kernel
theorem dX3_wax_98 : decode cX3_wax 98 = .ok (.aload_n 0, 1) := by decide +kernel
theorem dX3_wax_99 : decode cX3_wax 99 = .ok (.getfield 10, 3) := by decide +kernel
theorem dX3_wax_102 : decode cX3_wax 102 = .ok (.getfield 97, 3) := by decide +kernel
theorem dX3_wax_105 : decode cX3_wax 105 = .ok (.iload_n 1, 1) := by decide +kernel
theorem dX3_wax_106 : decode cX3_wax 106 = .ok (.iload_n 2, 1) := by decide +kernel
theorem dX3_wax_107 : decode cX3_wax 107 = .ok (.invokevirtual 116, 3) := by decide +kernel
theorem dX3_wax_110 : decode cX3_wax 110 = .ok (.aload_n 0, 1) := by decide +kernel
theorem dX3_wax_111 : decode cX3_wax 111 = .ok (.getfield 10, 3) := by decide +kernel
theorem dX3_wax_114 : decode cX3_wax 114 = .ok (.getfield 97, 3) := by decide +kernel
theorem dX3_wax_117 : decode cX3_wax 117 = .ok (.getfield 112, 3) := by decide +kernel
theorem dX3_wax_120 : decode cX3_wax 120 = .ok (.iload_n 1, 1) := by decide +kernel
theorem dX3_wax_121 : decode cX3_wax 121 = .ok (.iaload, 1) := by decide +kernel
theorem dX3_wax_122 : decode cX3_wax 122 = .ok (.ireturn, 1) := by decide +kernel
set_option maxRecDepth 20000 in
theorem ggX3_join_X1_has : GoodIn wsX3_join wsX1_has := goodIn_r _ [10, 11, 39, 40, 41, 42, 43, 44, 45, 46, 47] (by decide +kernel) (by decide +kernel)
set_option maxRecDepth 20000 in
theorem gX3_join_X1_has : GoodIn wsX3_join (wsV RX3 107 RX1 yX1_has wsX1_has) := goodIn_app (goodIn_of _ (by decide +kernel)) ggX3_join_X1_has
set_option maxRecDepth 20000 in
theorem ggX3_join_X3_isWithin : GoodIn wsX3_join wsX3_isWithin := goodIn_r _ [15] (by decide +kernel) (by decide +kernel)
set_option maxRecDepth 20000 in
theorem gX3_join_X3_isWithin : GoodIn wsX3_join (va_wsS RX3 19 yX3_isWithin wsX3_isWithin) := goodIn_app (goodIn_of _ (by decide +kernel)) ggX3_join_X3_isWithin
set_option maxRecDepth 20000 in
theorem ggX3_join_X1_takeOutOfQueue : GoodIn wsX3_join wsX1_takeOutOfQueue := goodIn_r _ [19, 20, 21, 11, 39, 40, 41, 42, 43, 44, 45, 46, 47] (by decide +kernel) (by decide +kernel)
set_option maxRecDepth 20000 in
theorem gX3_join_X1_takeOutOfQueue : GoodIn wsX3_join (wsV RX3 119 RX1 yX1_takeOutOfQueue wsX1_takeOutOfQueue) := goodIn_app (goodIn_of _ (by decide +kernel)) ggX3_join_X1_takeOutOfQueue
set_option maxRecDepth 20000 in
theorem ggX3_join_X1_putAtEnd : GoodIn wsX3_join wsX1_putAtEnd := goodIn_r _ [25, 20, 21, 26, 27, 28, 9, 29, 11, 39, 40, 41, 42, 43, 44, 45, 46, 47] (by decide +kernel) (by decide +kernel)
set_option maxRecDepth 20000 in
theorem gX3_join_X1_putAtEnd : GoodIn wsX3_join (wsV RX3 123 RX1 yX1_putAtEnd wsX1_putAtEnd) := goodIn_app (goodIn_of _ (by decide +kernel)) ggX3_join_X1_putAtEnd
theorem dX3_join_0 : decode cX3_join 0 = .ok (.aload_n 0, 1) := by decide +kernel
theorem dX3_join_1 : decode cX3_join 1 = .ok (.getfield 10, 3) := by decide +kernel
theorem dX3_join_4 : decode cX3_join 4 = .ok (.getfield 97, 3) := by decide +kernel
theorem dX3_join_7 : decode cX3_join 7 = .ok (.iload_n 1, 1) := by decide +kernel
theorem dX3_join_8 : decode cX3_join 8 = .ok (.invokevirtual 107, 3) := by decide +kernel
theorem dX3_join_11 : decode cX3_join 11 = .ok (.ifCond .ne 13, 3) := by decide +kernel
theorem dX3_join_14 : decode cX3_join 14 = .ok (.new 23, 3) := by decide +kernel
theorem dX3_join_17 : decode cX3_join 17 = .ok (.dup, 1) := by decide +kernel
theorem dX3_join_18 : decode cX3_join 18 = .ok (.ldc 108, 2) := by decide +kernel
theorem dX3_join_20 : decode cX3_join 20 = .ok (.invokespecial 27, 3) := by decide +kernel
theorem dX3_join_23 : decode cX3_join 23 = .ok (.athrow, 1) := by decide +kernel
theorem dX3_join_24 : decode cX3_join 24 = .ok (.iload_n 2, 1) := by decide +kernel
theorem dX3_join_25 : decode cX3_join 25 = .ok (.iconst 0, 1) := by decide +kernel
theorem dX3_join_26 : decode cX3_join 26 = .ok (.iconst 2, 1) := by decide +kernel
theorem dX3_join_27 : decode cX3_join 27 = .ok (.invokestatic 19, 3) := by decide +kernel
theorem dX3_join_30 : decode cX3_join 30 = .ok (.ifCond .ne 13, 3) := by decide +kernel
theorem dX3_join_33 : decode cX3_join 33 = .ok (.new 23, 3) := by decide +kernel
theorem dX3_join_36 : decode cX3_join 36 = .ok (.dup, 1) := by decide +kernel
theorem dX3_join_37 : decode cX3_join 37 = .ok (.ldc 25, 2) := by decide +kernel
theorem dX3_join_39 : decode cX3_join 39 = .ok (.invokespecial 27, 3) := by decide +kernel
theorem dX3_join_42 : decode cX3_join 42 = .ok (.athrow, 1) := by decide +kernel
theorem dX3_join_43 : decode cX3_join 43 = .ok (.aload_n 0, 1) := by decide +kernel
theorem dX3_join_44 : decode cX3_join 44 = .ok (.getfield 10, 3) := by decide +kernel
theorem dX3_join_47 : decode cX3_join 47 = .ok (.getfield 97, 3) := by decide +kernel
theorem dX3_join_50 : decode cX3_join 50 = .ok (.iload_n 1, 1) := by decide +kernel
theorem dX3_join_51 : decode cX3_join 51 = .ok (.invokevirtual 119, 3) := by decide +kernel
theorem dX3_join_54 : decode cX3_join 54 = .ok (.aload_n 0, 1) := by decide +kernel
theorem dX3_join_55 : decode cX3_join 55 = .ok (.getfield 10, 3) := by decide +kernel
theorem dX3_join_58 : decode cX3_join 58 = .ok (.getfield 97, 3) := by decide +kernel
theorem dX3_join_61 : decode cX3_join 61 = .ok (.iload_n 1, 1) := by decide +kernel
theorem dX3_join_62 : decode cX3_join 62 = .ok (.iload_n 2, 1) := by decide +kernel
theorem dX3_join_63 : decode cX3_join 63 = .ok (.invokevirtual 123, 3) := by decide +kernel
theorem dX3_join_66 : decode cX3_join 66 = .ok (.aload_n 0, 1) := by decide +kernel
theorem dX3_join_67 : decode cX3_join 67 = .ok (.getfield 10, 3) := by decide +kernel
theorem dX3_join_70 : decode cX3_join 70 = .ok (.getfield 97, 3) := by decide +kernel
theorem dX3_join_73 : decode cX3_join 73 = .ok (.getfield 126, 3) := by decide +kernel
theorem dX3_join_76 : decode cX3_join 76 = .ok (.iload_n 1, 1) := by decide +kernel
theorem dX3_join_77 : decode cX3_join 77 = .ok (.iaload, 1) := by decide +kernel
theorem dX3_join_78 : decode cX3_join 78 = .ok (.ireturn, 1) := by decide +kernel
set_option maxRecDepth 20000 in
theorem ggX3_leave_X1_has : GoodIn wsX3_leave wsX1_has := goodIn_r _ [10, 11, 27, 28, 29, 30, 31, 32, 33, 34, 35] (by decide +kernel) (by decide +kernel)
set_option maxRecDepth 20000 in
theorem gX3_leave_X1_has : GoodIn wsX3_leave (wsV RX3 107 RX1 yX1_has wsX1_has) := goodIn_app (goodIn_of _ (by decide +kernel)) ggX3_leave_X1_has
set_option maxRecDepth 20000 in
theorem ggX3_leave_X1_takeOutOfQueue : GoodIn wsX3_leave wsX1_takeOutOfQueue := goodIn_r _ [15, 16, 17, 11, 27, 28, 29, 30, 31, 32, 33, 34, 35] (by decide +kernel) (by decide +kernel)
set_option maxRecDepth 20000 in
theorem gX3_leave_X1_takeOutOfQueue : GoodIn wsX3_leave (wsV RX3 119 RX1 yX1_takeOutOfQueue wsX1_takeOutOfQueue) := goodIn_app (goodIn_of _ (by decide +kernel)) ggX3_leave_X1_takeOutOfQueue
theorem dX3_leave_0 : decode cX3_leave 0 = .ok (.aload_n 0, 1) := by decide +kernel
theorem dX3_leave_1 : decode cX3_leave 1 = .ok (.getfield 10, 3) := by decide +kernel
theorem dX3_leave_4 : decode cX3_leave 4 = .ok (.getfield 97, 3) := by decide +kernel
theorem dX3_leave_7 : decode cX3_leave 7 = .ok (.iload_n 1, 1) := by decide +kernel
theorem dX3_leave_8 : decode cX3_leave 8 = .ok (.invokevirtual 107, 3) := by decide +kernel
theorem dX3_leave_11 : decode cX3_leave 11 = .ok (.ifCond .ne 13, 3) := by decide +kernel
theorem dX3_leave_14 : decode cX3_leave 14 = .ok (.new 23, 3) := by decide +kernel
theorem dX3_leave_17 : decode cX3_leave 17 = .ok (.dup, 1) := by decide +kernel
theorem dX3_leave_18 : decode cX3_leave 18 = .ok (.ldc 108, 2) := by decide +kernel
theorem dX3_leave_20 : decode cX3_leave 20 = .ok (.invokespecial 27, 3) := by decide +kernel
theorem dX3_leave_23 : decode cX3_leave 23 = .ok (.athrow, 1) := by decide +kernel
theorem dX3_leave_24 : decode cX3_leave 24 = .ok (.aload_n 0, 1) := by decide +kernel
theorem dX3_leave_25 : decode cX3_leave 25 = .ok (.getfield 10, 3) := by decide +kernel
theorem dX3_leave_28 : decode cX3_leave 28 = .ok (.getfield 97, 3) := by decide +kernel
theorem dX3_leave_31 : decode cX3_leave 31 = .ok (.getfield 129, 3) := by decide +kernel
theorem dX3_leave_34 : decode cX3_leave 34 = .ok (.iload_n 1, 1) := by decide +kernel
theorem dX3_leave_35 : decode cX3_leave 35 = .ok (.iaload, 1) := by decide +kernel
theorem dX3_leave_36 : decode cX3_leave 36 = .ok (.iconst (-1), 1) := by decide +kernel
theorem dX3_leave_37 : decode cX3_leave 37 = .ok (.if_icmp .eq 7, 3) := by decide +kernel
theorem dX3_leave_40 : decode cX3_leave 40 = .ok (.iconst 1, 1) := by decide +kernel
theorem dX3_leave_41 : decode cX3_leave 41 = .ok (.goto 4, 3) := by decide +kernel
theorem dX3_leave_44 : decode cX3_leave 44 = .ok (.iconst 0, 1) := by decide +kernel
theorem dX3_leave_45 : decode cX3_leave 45 = .ok (.istore_n 2, 1) := by decide +kernel
theorem dX3_leave_46 : decode cX3_leave 46 = .ok (.aload_n 0, 1) := by decide +kernel
theorem dX3_leave_47 : decode cX3_leave 47 = .ok (.getfield 10, 3) := by decide +kernel
theorem dX3_leave_50 : decode cX3_leave 50 = .ok (.getfield 97, 3) := by decide +kernel
theorem dX3_leave_53 : decode cX3_leave 53 = .ok (.iload_n 1, 1) := by decide +kernel
theorem dX3_leave_54 : decode cX3_leave 54 = .ok (.invokevirtual 119, 3) := by decide +kernel
theorem dX3_leave_57 : decode cX3_leave 57 = .ok (.iload_n 2, 1) := by decide +kernel
theorem dX3_leave_58 : decode cX3_leave 58 = .ok (.ireturn, 1) := by decide +kernel
set_option maxRecDepth 20000 in
theorem ggX3_about_X0_has : GoodIn wsX3_about wsX0_has := goodIn_r _ [9, 10, 36, 37, 38, 39, 40] (by decide +kernel) (by decide +kernel)
set_option maxRecDepth 20000 in
theorem gX3_about_X0_has : GoodIn wsX3_about (wsV RX3 67 RX0 yX0_has wsX0_has) := goodIn_app (goodIn_of _ (by decide +kernel)) ggX3_about_X0_has
set_option maxRecDepth 20000 in
theorem ggX3_about_X3_isWithin : GoodIn wsX3_about wsX3_isWithin := goodIn_r _ [14] (by decide +kernel) (by decide +kernel)
set_option maxRecDepth 20000 in
theorem gX3_about_X3_isWithin : GoodIn wsX3_about (va_wsS RX3 19 yX3_isWithin wsX3_isWithin) := goodIn_app (goodIn_of _ (by decide +kernel)) ggX3_about_X3_isWithin
set_option maxRecDepth 20000 in
theorem ggX3_about_X0_figure : GoodIn wsX3_about wsX0_figure := goodIn_r _ [18, 19, 20, 21, 22, 23, 24, 25, 8, 26, 36, 37, 38, 39, 40] (by decide +kernel) (by decide +kernel)
set_option maxRecDepth 20000 in
theorem gX3_about_X0_figure : GoodIn wsX3_about (wsV RX3 134 RX0 yX0_figure wsX0_figure) := goodIn_app (goodIn_of _ (by decide +kernel)) ggX3_about_X0_figure
theorem dX3_about_0 : decode cX3_about 0 = .ok (.aload_n 0, 1) := by decide +kernel
theorem dX3_about_1 : decode cX3_about 1 = .ok (.getfield 10, 3) := by decide +kernel
theorem dX3_about_4 : decode cX3_about 4 = .ok (.getfield 35, 3) := by decide +kernel
theorem dX3_about_7 : decode cX3_about 7 = .ok (.iload_n 1, 1) := by decide +kernel
theorem dX3_about_8 : decode cX3_about 8 = .ok (.invokevirtual 67, 3) := by decide +kernel
theorem dX3_about_11 : decode cX3_about 11 = .ok (.ifCond .ne 13, 3) := by decide +kernel
theorem dX3_about_14 : decode cX3_about 14 = .ok (.new 23, 3) := by decide +kernel
theorem dX3_about_17 : decode cX3_about 17 = .ok (.dup, 1) := by decide +kernel
theorem dX3_about_18 : decode cX3_about 18 = .ok (.ldc 71, 2) := by decide +kernel
theorem dX3_about_20 : decode cX3_about 20 = .ok (.invokespecial 27, 3) := by decide +kernel
theorem dX3_about_23 : decode cX3_about 23 = .ok (.athrow, 1) := by decide +kernel
theorem dX3_about_24 : decode cX3_about 24 = .ok (.iload_n 2, 1) := by decide +kernel
theorem dX3_about_25 : decode cX3_about 25 = .ok (.iconst 0, 1) := by decide +kernel
theorem dX3_about_26 : decode cX3_about 26 = .ok (.iconst 4, 1) := by decide +kernel
theorem dX3_about_27 : decode cX3_about 27 = .ok (.invokestatic 19, 3) := by decide +kernel
theorem dX3_about_30 : decode cX3_about 30 = .ok (.ifCond .ne 13, 3) := by decide +kernel
theorem dX3_about_33 : decode cX3_about 33 = .ok (.new 23, 3) := by decide +kernel
theorem dX3_about_36 : decode cX3_about 36 = .ok (.dup, 1) := by decide +kernel
theorem dX3_about_37 : decode cX3_about 37 = .ok (.ldc 132, 2) := by decide +kernel
theorem dX3_about_39 : decode cX3_about 39 = .ok (.invokespecial 27, 3) := by decide +kernel
theorem dX3_about_42 : decode cX3_about 42 = .ok (.athrow, 1) := by decide +kernel
theorem dX3_about_43 : decode cX3_about 43 = .ok (.aload_n 0, 1) := by decide +kernel
theorem dX3_about_44 : decode cX3_about 44 = .ok (.getfield 10, 3) := by decide +kernel
theorem dX3_about_47 : decode cX3_about 47 = .ok (.getfield 35, 3) := by decide +kernel
theorem dX3_about_50 : decode cX3_about 50 = .ok (.iload_n 1, 1) := by decide +kernel
theorem dX3_about_51 : decode cX3_about 51 = .ok (.iload_n 2, 1) := by decide +kernel
theorem dX3_about_52 : decode cX3_about 52 = .ok (.invokevirtual 134, 3) := by decide +kernel
theorem dX3_about_55 : decode cX3_about 55 = .ok (.ireturn, 1) := by decide +kernel
set_option maxRecDepth 20000 in
theorem ggX3_told_X1_has : GoodIn wsX3_told wsX1_has := goodIn_r _ [9, 10, 35, 36, 37, 38, 39, 40, 41, 42, 43] (by decide +kernel) (by decide +kernel)
set_option maxRecDepth 20000 in
theorem gX3_told_X1_has : GoodIn wsX3_told (wsV RX3 107 RX1 yX1_has wsX1_has) := goodIn_app (goodIn_of _ (by decide +kernel)) ggX3_told_X1_has
set_option maxRecDepth 20000 in
theorem ggX3_told_X3_isWithin : GoodIn wsX3_told wsX3_isWithin := goodIn_r _ [14] (by decide +kernel) (by decide +kernel)
set_option maxRecDepth 20000 in
theorem gX3_told_X3_isWithin : GoodIn wsX3_told (va_wsS RX3 19 yX3_isWithin wsX3_isWithin) := goodIn_app (goodIn_of _ (by decide +kernel)) ggX3_told_X3_isWithin
set_option maxRecDepth 20000 in
theorem ggX3_told_X1_figure : GoodIn wsX3_told wsX1_figure := goodIn_r _ [18, 19, 20, 21, 22, 23, 24, 25, 35, 36, 37, 38, 39, 40, 41, 42, 43] (by decide +kernel) (by decide +kernel)
set_option maxRecDepth 20000 in
theorem gX3_told_X1_figure : GoodIn wsX3_told (wsV RX3 139 RX1 yX1_figure wsX1_figure) := goodIn_app (goodIn_of _ (by decide +kernel)) ggX3_told_X1_figure
theorem dX3_told_0 : decode cX3_told 0 = .ok (.aload_n 0, 1) := by decide +kernel
theorem dX3_told_1 : decode cX3_told 1 = .ok (.getfield 10, 3) := by decide +kernel
theorem dX3_told_4 : decode cX3_told 4 = .ok (.getfield 97, 3) := by decide +kernel
theorem dX3_told_7 : decode cX3_told 7 = .ok (.iload_n 1, 1) := by decide +kernel
theorem dX3_told_8 : decode cX3_told 8 = .ok (.invokevirtual 107, 3) := by decide +kernel
theorem dX3_told_11 : decode cX3_told 11 = .ok (.ifCond .ne 13, 3) := by decide +kernel
theorem dX3_told_14 : decode cX3_told 14 = .ok (.new 23, 3) := by decide +kernel
theorem dX3_told_17 : decode cX3_told 17 = .ok (.dup, 1) := by decide +kernel
theorem dX3_told_18 : decode cX3_told 18 = .ok (.ldc 108, 2) := by decide +kernel
theorem dX3_told_20 : decode cX3_told 20 = .ok (.invokespecial 27, 3) := by decide +kernel
theorem dX3_told_23 : decode cX3_told 23 = .ok (.athrow, 1) := by decide +kernel
theorem dX3_told_24 : decode cX3_told 24 = .ok (.iload_n 2, 1) := by decide +kernel
theorem dX3_told_25 : decode cX3_told 25 = .ok (.iconst 0, 1) := by decide +kernel
theorem dX3_told_26 : decode cX3_told 26 = .ok (.bipush 6, 2) := by decide +kernel
theorem dX3_told_28 : decode cX3_told 28 = .ok (.invokestatic 19, 3) := by decide +kernel
theorem dX3_told_31 : decode cX3_told 31 = .ok (.ifCond .ne 13, 3) := by decide +kernel
theorem dX3_told_34 : decode cX3_told 34 = .ok (.new 23, 3) := by decide +kernel
theorem dX3_told_37 : decode cX3_told 37 = .ok (.dup, 1) := by decide +kernel
theorem dX3_told_38 : decode cX3_told 38 = .ok (.ldc 137, 2) := by decide +kernel
theorem dX3_told_40 : decode cX3_told 40 = .ok (.invokespecial 27, 3) := by decide +kernel
theorem dX3_told_43 : decode cX3_told 43 = .ok (.athrow, 1) := by decide +kernel
theorem dX3_told_44 : decode cX3_told 44 = .ok (.aload_n 0, 1) := by decide +kernel
theorem dX3_told_45 : decode cX3_told 45 = .ok (.getfield 10, 3) := by decide +kernel
theorem dX3_told_48 : decode cX3_told 48 = .ok (.getfield 97, 3) := by decide +kernel
theorem dX3_told_51 : decode cX3_told 51 = .ok (.iload_n 1, 1) := by decide +kernel
theorem dX3_told_52 : decode cX3_told 52 = .ok (.iload_n 2, 1) := by decide +kernel
theorem dX3_told_53 : decode cX3_told 53 = .ok (.invokevirtual 139, 3) := by decide +kernel
theorem dX3_told_56 : decode cX3_told 56 = .ok (.ireturn, 1) := by decide +kernel
set_option maxRecDepth 20000 in
theorem ggX3_tow_X3_isWithin : GoodIn wsX3_tow wsX3_isWithin := goodIn_r _ [7] (by decide +kernel) (by decide +kernel)
set_option maxRecDepth 20000 in
theorem gX3_tow_X3_isWithin : GoodIn wsX3_tow (va_wsS RX3 19 yX3_isWithin wsX3_isWithin) := goodIn_app (goodIn_of _ (by decide +kernel)) ggX3_tow_X3_isWithin
set_option maxRecDepth 20000 in
theorem ggX3_tow_X2_towFigure : GoodIn wsX3_tow wsX2_towFigure := goodIn_r _ [12, 13, 14, 15, 16, 17, 18, 19, 20, 21, 22, 25, 26, 27, 28, 29, 30, 31, 32, 33, 34, 35, 36, 37, 38, 39, 40] (by decide +kernel) (by decide +kernel)
set_option maxRecDepth 20000 in
theorem gX3_tow_X2_towFigure : GoodIn wsX3_tow (wsV RX3 142 RX2 yX2_towFigure wsX2_towFigure) := goodIn_app (goodIn_of _ (by decide +kernel)) ggX3_tow_X2_towFigure
theorem dX3_tow_0 : decode cX3_tow 0 = .ok (.iload_n 1, 1) := by decide +kernel
theorem dX3_tow_1 : decode cX3_tow 1 = .ok (.iconst 0, 1) := by decide +kernel
theorem dX3_tow_2 : decode cX3_tow 2 = .ok (.iconst 2, 1) := by decide +kernel
theorem dX3_tow_3 : decode cX3_tow 3 = .ok (.invokestatic 19, 3) := by decide +kernel
theorem dX3_tow_6 : decode cX3_tow 6 = .ok (.ifCond .ne 13, 3) := by decide +kernel
theorem dX3_tow_9 : decode cX3_tow 9 = .ok (.new 23, 3) := by decide +kernel
theorem dX3_tow_12 : decode cX3_tow 12 = .ok (.dup, 1) := by decide +kernel
theorem dX3_tow_13 : decode cX3_tow 13 = .ok (.ldc 25, 2) := by decide +kernel
theorem dX3_tow_15 : decode cX3_tow 15 = .ok (.invokespecial 27, 3) := by decide +kernel
theorem dX3_tow_18 : decode cX3_tow 18 = .ok (.athrow, 1) := by decide +kernel
theorem dX3_tow_19 : decode cX3_tow 19 = .ok (.iload_n 2, 1) := by decide +kernel
theorem dX3_tow_20 : decode cX3_tow 20 = .ok (.iconst 0, 1) := by decide +kernel
theorem dX3_tow_21 : decode cX3_tow 21 = .ok (.iconst 2, 1) := by decide +kernel
theorem dX3_tow_22 : decode cX3_tow 22 = .ok (.invokestatic 19, 3) := by decide +kernel
theorem dX3_tow_25 : decode cX3_tow 25 = .ok (.ifCond .ne 13, 3) := by decide +kernel
theorem dX3_tow_28 : decode cX3_tow 28 = .ok (.new 23, 3) := by decide +kernel
theorem dX3_tow_31 : decode cX3_tow 31 = .ok (.dup, 1) := by decide +kernel
theorem dX3_tow_32 : decode cX3_tow 32 = .ok (.ldc 140, 2) := by decide +kernel
theorem dX3_tow_34 : decode cX3_tow 34 = .ok (.invokespecial 27, 3) := by decide +kernel
theorem dX3_tow_37 : decode cX3_tow 37 = .ok (.athrow, 1) := by decide +kernel
theorem dX3_tow_38 : decode cX3_tow 38 = .ok (.aload_n 0, 1) := by decide +kernel
theorem dX3_tow_39 : decode cX3_tow 39 = .ok (.getfield 10, 3) := by decide +kernel
theorem dX3_tow_42 : decode cX3_tow 42 = .ok (.iload_n 1, 1) := by decide +kernel
theorem dX3_tow_43 : decode cX3_tow 43 = .ok (.iload_n 2, 1) := by decide +kernel
theorem dX3_tow_44 : decode cX3_tow 44 = .ok (.invokevirtual 142, 3) := by decide +kernel
theorem dX3_tow_47 : decode cX3_tow 47 = .ok (.ireturn, 1) := by decide +kernel
set_option maxRecDepth 20000 in
theorem ggX3_stands_X3_isWithin : GoodIn wsX3_stands wsX3_isWithin := goodIn_r _ [8] (by decide +kernel) (by decide +kernel)
set_option maxRecDepth 20000 in
theorem gX3_stands_X3_isWithin : GoodIn wsX3_stands (va_wsS RX3 19 yX3_isWithin wsX3_isWithin) := goodIn_app (goodIn_of _ (by decide +kernel)) ggX3_stands_X3_isWithin
set_option maxRecDepth 20000 in
theorem ggX3_stands_X1_at : GoodIn wsX3_stands wsX1_at := goodIn_r _ [13, 14, 15, 16, 26, 27, 28, 29, 30, 31, 32, 33, 34] (by decide +kernel) (by decide +kernel)
set_option maxRecDepth 20000 in
theorem gX3_stands_X1_at : GoodIn wsX3_stands (wsV RX3 145 RX1 yX1_at wsX1_at) := goodIn_app (goodIn_of _ (by decide +kernel)) ggX3_stands_X1_at
theorem dX3_stands_0 : decode cX3_stands 0 = .ok (.iload_n 1, 1) := by decide +kernel
theorem dX3_stands_1 : decode cX3_stands 1 = .ok (.iconst 0, 1) := by decide +kernel
theorem dX3_stands_2 : decode cX3_stands 2 = .ok (.iconst 2, 1) := by decide +kernel
theorem dX3_stands_3 : decode cX3_stands 3 = .ok (.invokestatic 19, 3) := by decide +kernel
theorem dX3_stands_6 : decode cX3_stands 6 = .ok (.ifCond .ne 13, 3) := by decide +kernel
theorem dX3_stands_9 : decode cX3_stands 9 = .ok (.new 23, 3) := by decide +kernel
theorem dX3_stands_12 : decode cX3_stands 12 = .ok (.dup, 1) := by decide +kernel
theorem dX3_stands_13 : decode cX3_stands 13 = .ok (.ldc 25, 2) := by decide +kernel
theorem dX3_stands_15 : decode cX3_stands 15 = .ok (.invokespecial 27, 3) := by decide +kernel
theorem dX3_stands_18 : decode cX3_stands 18 = .ok (.athrow, 1) := by decide +kernel
theorem dX3_stands_19 : decode cX3_stands 19 = .ok (.aload_n 0, 1) := by decide +kernel
theorem dX3_stands_20 : decode cX3_stands 20 = .ok (.getfield 10, 3) := by decide +kernel
theorem dX3_stands_23 : decode cX3_stands 23 = .ok (.getfield 97, 3) := by decide +kernel
theorem dX3_stands_26 : decode cX3_stands 26 = .ok (.iload_n 1, 1) := by decide +kernel
theorem dX3_stands_27 : decode cX3_stands 27 = .ok (.iload_n 2, 1) := by decide +kernel
theorem dX3_stands_28 : decode cX3_stands 28 = .ok (.invokevirtual 145, 3) := by decide +kernel
theorem dX3_stands_31 : decode cX3_stands 31 = .ok (.istore_n 3, 1) := by decide +kernel
theorem dX3_stands_32 : decode cX3_stands 32 = .ok (.iload_n 3, 1) := by decide +kernel
theorem dX3_stands_33 : decode cX3_stands 33 = .ok (.iconst (-1), 1) := by decide +kernel
theorem dX3_stands_34 : decode cX3_stands 34 = .ok (.if_icmp .ne 13, 3) := by decide +kernel
theorem dX3_stands_37 : decode cX3_stands 37 = .ok (.new 23, 3) := by decide +kernel
theorem dX3_stands_40 : decode cX3_stands 40 = .ok (.dup, 1) := by decide +kernel
theorem dX3_stands_41 : decode cX3_stands 41 = .ok (.ldc 148, 2) := by decide +kernel
theorem dX3_stands_43 : decode cX3_stands 43 = .ok (.invokespecial 27, 3) := by decide +kernel
theorem dX3_stands_46 : decode cX3_stands 46 = .ok (.athrow, 1) := by decide +kernel
theorem dX3_stands_47 : decode cX3_stands 47 = .ok (.iload_n 3, 1) := by decide +kernel
theorem dX3_stands_48 : decode cX3_stands 48 = .ok (.ireturn, 1) := by decide +kernel
set_option maxRecDepth 20000 in
theorem ggX3_count_X3_isWithin : GoodIn wsX3_count wsX3_isWithin := goodIn_r _ [7] (by decide +kernel) (by decide +kernel)
set_option maxRecDepth 20000 in
theorem gX3_count_X3_isWithin : GoodIn wsX3_count (va_wsS RX3 19 yX3_isWithin wsX3_isWithin) := goodIn_app (goodIn_of _ (by decide +kernel)) ggX3_count_X3_isWithin
set_option maxRecDepth 20000 in
theorem ggX3_count_X2_figure : GoodIn wsX3_count wsX2_figure := goodIn_r _ [12, 13, 14, 15, 16, 17, 18, 19, 20, 21, 11, 22, 23, 24, 25, 26, 27, 28, 29, 30, 31, 32, 33, 34, 35, 36, 37, 38, 39, 40, 41, 42, 43, 44, 45, 46, 47, 48, 49, 50, 51, 52, 53, 54, 55, 56, 59, 60, 61, 62, 63, 64, 65, 66, 67, 68, 69, 70, 71, 72, 73, 74, 75, 76, 77, 78, 79] (by decide +kernel) (by decide +kernel)
set_option maxRecDepth 20000 in
theorem gX3_count_X2_figure : GoodIn wsX3_count (wsV RX3 155 RX2 yX2_figure wsX2_figure) := goodIn_app (goodIn_of _ (by decide +kernel)) ggX3_count_X2_figure
theorem dX3_count_0 : decode cX3_count 0 = .ok (.iload_n 1, 1) := by decide +kernel
theorem dX3_count_1 : decode cX3_count 1 = .ok (.iconst 0, 1) := by decide +kernel
theorem dX3_count_2 : decode cX3_count 2 = .ok (.bipush 8, 2) := by decide +kernel
theorem dX3_count_4 : decode cX3_count 4 = .ok (.invokestatic 19, 3) := by decide +kernel
theorem dX3_count_7 : decode cX3_count 7 = .ok (.ifCond .ne 13, 3) := by decide +kernel
theorem dX3_count_10 : decode cX3_count 10 = .ok (.new 23, 3) := by decide +kernel
theorem dX3_count_13 : decode cX3_count 13 = .ok (.dup, 1) := by decide +kernel
theorem dX3_count_14 : decode cX3_count 14 = .ok (.ldc 153, 2) := by decide +kernel
theorem dX3_count_16 : decode cX3_count 16 = .ok (.invokespecial 27, 3) := by decide +kernel
theorem dX3_count_19 : decode cX3_count 19 = .ok (.athrow, 1) := by decide +kernel
theorem dX3_count_20 : decode cX3_count 20 = .ok (.aload_n 0, 1) := by decide +kernel
theorem dX3_count_21 : decode cX3_count 21 = .ok (.getfield 10, 3) := by decide +kernel
theorem dX3_count_24 : decode cX3_count 24 = .ok (.iload_n 1, 1) := by decide +kernel
theorem dX3_count_25 : decode cX3_count 25 = .ok (.invokevirtual 155, 3) := by decide +kernel
theorem dX3_count_28 : decode cX3_count 28 = .ok (.ireturn, 1) := by decide +kernel
set_option maxRecDepth 20000 in
theorem ggX3_pass_X3_isWithin : GoodIn wsX3_pass wsX3_isWithin := goodIn_r _ [7] (by decide +kernel) (by decide +kernel)
set_option maxRecDepth 20000 in
theorem gX3_pass_X3_isWithin : GoodIn wsX3_pass (va_wsS RX3 19 yX3_isWithin wsX3_isWithin) := goodIn_app (goodIn_of _ (by decide +kernel)) ggX3_pass_X3_isWithin
set_option maxRecDepth 20000 in
theorem ggX3_pass_X2_letHoursGo : GoodIn wsX3_pass wsX2_letHoursGo := goodIn_r _ [12, 13, 14, 15, 16, 17, 11, 18, 19, 20, 21, 22, 23, 24, 6, 25, 26, 27, 28, 29, 30, 31, 32, 33, 34, 35, 36, 37, 38, 39, 40, 41, 42, 43, 44, 45, 46, 47, 48, 49, 50, 51, 52, 53, 54, 55, 56, 57, 58, 59, 60, 61, 62, 63, 64, 65, 66, 67, 68, 69, 70, 71, 72, 73, 74, 75, 76, 77, 78, 79, 80, 81, 82, 83, 84, 85, 86, 87, 88, 89, 90, 91, 92, 93, 94, 95, 96, 97, 98, 99, 100, 101, 102, 103, 104, 105, 106, 107, 108, 109, 110, 111, 112, 113, 114, 115, 116, 117, 118, 119, 120, 123, 124, 125, 126, 127, 128, 129, 130, 131, 132, 133, 134, 135, 136, 137, 138, 139, 140, 141, 142, 143] (by decide +kernel) (by decide +kernel)
set_option maxRecDepth 20000 in
theorem gX3_pass_X2_letHoursGo : GoodIn wsX3_pass (wsV RX3 160 RX2 yX2_letHoursGo wsX2_letHoursGo) := goodIn_app (goodIn_of _ (by decide +kernel)) ggX3_pass_X2_letHoursGo
theorem dX3_pass_0 : decode cX3_pass 0 = .ok (.iload_n 1, 1) := by decide +kernel
theorem dX3_pass_1 : decode cX3_pass 1 = .ok (.iconst 1, 1) := by decide +kernel
theorem dX3_pass_2 : decode cX3_pass 2 = .ok (.bipush 60, 2) := by decide +kernel
theorem dX3_pass_4 : decode cX3_pass 4 = .ok (.invokestatic 19, 3) := by decide +kernel
theorem dX3_pass_7 : decode cX3_pass 7 = .ok (.ifCond .ne 13, 3) := by decide +kernel
theorem dX3_pass_10 : decode cX3_pass 10 = .ok (.new 30, 3) := by decide +kernel
theorem dX3_pass_13 : decode cX3_pass 13 = .ok (.dup, 1) := by decide +kernel
theorem dX3_pass_14 : decode cX3_pass 14 = .ok (.ldc 158, 2) := by decide +kernel
theorem dX3_pass_16 : decode cX3_pass 16 = .ok (.invokespecial 34, 3) := by decide +kernel
theorem dX3_pass_19 : decode cX3_pass 19 = .ok (.athrow, 1) := by decide +kernel
theorem dX3_pass_20 : decode cX3_pass 20 = .ok (.aload_n 0, 1) := by decide +kernel
theorem dX3_pass_21 : decode cX3_pass 21 = .ok (.getfield 10, 3) := by decide +kernel
theorem dX3_pass_24 : decode cX3_pass 24 = .ok (.iload_n 1, 1) := by decide +kernel
theorem dX3_pass_25 : decode cX3_pass 25 = .ok (.invokevirtual 160, 3) := by decide +kernel
theorem dX3_pass_28 : decode cX3_pass 28 = .ok (.ireturn, 1) := by decide +kernel
set_option maxRecDepth 20000 in
theorem ggX3_until_X1_has : GoodIn wsX3_until wsX1_has := goodIn_r _ [11, 12, 153, 154, 155, 156, 157, 158, 159, 160, 161] (by decide +kernel) (by decide +kernel)
set_option maxRecDepth 20000 in
theorem gX3_until_X1_has : GoodIn wsX3_until (wsV RX3 107 RX1 yX1_has wsX1_has) := goodIn_app (goodIn_of _ (by decide +kernel)) ggX3_until_X1_has
set_option maxRecDepth 20000 in
theorem ggX3_until_X2_copyFrom : GoodIn wsX3_until wsX2_copyFrom := goodIn_r _ [17, 18, 19, 20, 21, 22, 23, 24, 25, 26, 27, 28, 29, 30, 31, 32, 33, 34, 35, 36, 37, 38, 39, 40, 41, 42, 43, 44, 45, 46, 47, 48, 10, 49, 12, 50, 51, 52, 53, 54, 55, 56, 57, 146, 147, 148, 149, 150, 151, 152, 162, 163, 164, 165, 166, 153, 154, 155, 156, 157, 158, 159, 160, 161] (by decide +kernel) (by decide +kernel)
set_option maxRecDepth 20000 in
theorem gX3_until_X2_copyFrom : GoodIn wsX3_until (wsV RX3 163 RX2 yX2_copyFrom wsX2_copyFrom) := goodIn_app (goodIn_of _ (by decide +kernel)) ggX3_until_X2_copyFrom
set_option maxRecDepth 20000 in
theorem ggX3_until_X2_letHoursGo : GoodIn wsX3_until wsX2_letHoursGo := goodIn_r _ [61, 23, 18, 62, 63, 64, 16, 65, 20, 66, 67, 68, 69, 70, 26, 71, 72, 73, 74, 39, 75, 41, 76, 77, 78, 79, 44, 80, 81, 28, 29, 30, 31, 82, 83, 84, 85, 86, 87, 88, 24, 21, 89, 19, 90, 22, 91, 92, 93, 10, 94, 12, 56, 95, 96, 97, 98, 57, 99, 8, 9, 11, 100, 101, 102, 103, 104, 105, 106, 107, 108, 109, 110, 111, 112, 113, 114, 115, 116, 117, 118, 42, 43, 119, 120, 121, 122, 123, 124, 125, 126, 127, 128, 129, 130, 53, 52, 131, 132, 133, 134, 135, 136, 137, 54, 138, 139, 140, 141, 142, 143, 146, 147, 148, 149, 150, 151, 152, 162, 163, 164, 165, 166, 153, 154, 155, 156, 157, 158, 159, 160, 161] (by decide +kernel) (by decide +kernel)
set_option maxRecDepth 20000 in
theorem gX3_until_X2_letHoursGo : GoodIn wsX3_until (wsV RX3 160 RX2 yX2_letHoursGo wsX2_letHoursGo) := goodIn_app (goodIn_of _ (by decide +kernel)) ggX3_until_X2_letHoursGo
theorem dX3_until_0 : decode cX3_until 0 = .ok (.aload_n 0, 1) := by decide +kernel
theorem dX3_until_1 : decode cX3_until 1 = .ok (.getfield 10, 3) := by decide +kernel
theorem dX3_until_4 : decode cX3_until 4 = .ok (.getfield 97, 3) := by decide +kernel
theorem dX3_until_7 : decode cX3_until 7 = .ok (.iload_n 1, 1) := by decide +kernel
theorem dX3_until_8 : decode cX3_until 8 = .ok (.invokevirtual 107, 3) := by decide +kernel
theorem dX3_until_11 : decode cX3_until 11 = .ok (.ifCond .ne 13, 3) := by decide +kernel
theorem dX3_until_14 : decode cX3_until 14 = .ok (.new 23, 3) := by decide +kernel
theorem dX3_until_17 : decode cX3_until 17 = .ok (.dup, 1) := by decide +kernel
theorem dX3_until_18 : decode cX3_until 18 = .ok (.ldc 108, 2) := by decide +kernel
theorem dX3_until_20 : decode cX3_until 20 = .ok (.invokespecial 27, 3) := by decide +kernel
theorem dX3_until_23 : decode cX3_until 23 = .ok (.athrow, 1) := by decide +kernel
theorem dX3_until_24 : decode cX3_until 24 = .ok (.aload_n 0, 1) := by decide +kernel
theorem dX3_until_25 : decode cX3_until 25 = .ok (.getfield 16, 3) := by decide +kernel
theorem dX3_until_28 : decode cX3_until 28 = .ok (.aload_n 0, 1) := by decide +kernel
theorem dX3_until_29 : decode cX3_until 29 = .ok (.getfield 10, 3) := by decide +kernel
theorem dX3_until_32 : decode cX3_until 32 = .ok (.invokevirtual 163, 3) := by decide +kernel
theorem dX3_until_35 : decode cX3_until 35 = .ok (.aload_n 0, 1) := by decide +kernel
theorem dX3_until_36 : decode cX3_until 36 = .ok (.getfield 10, 3) := by decide +kernel
theorem dX3_until_39 : decode cX3_until 39 = .ok (.getfield 97, 3) := by decide +kernel
theorem dX3_until_42 : decode cX3_until 42 = .ok (.getfield 167, 3) := by decide +kernel
theorem dX3_until_45 : decode cX3_until 45 = .ok (.iload_n 1, 1) := by decide +kernel
theorem dX3_until_46 : decode cX3_until 46 = .ok (.iaload, 1) := by decide +kernel
theorem dX3_until_47 : decode cX3_until 47 = .ok (.istore_n 2, 1) := by decide +kernel
theorem dX3_until_48 : decode cX3_until 48 = .ok (.iconst 1, 1) := by decide +kernel
theorem dX3_until_49 : decode cX3_until 49 = .ok (.istore_n 3, 1) := by decide +kernel
theorem dX3_until_50 : decode cX3_until 50 = .ok (.iload_n 3, 1) := by decide +kernel
theorem dX3_until_51 : decode cX3_until 51 = .ok (.bipush 90, 2) := by decide +kernel
theorem dX3_until_53 : decode cX3_until 53 = .ok (.if_icmp .gt 36, 3) := by decide +kernel
theorem dX3_until_56 : decode cX3_until 56 = .ok (.aload_n 0, 1) := by decide +kernel
theorem dX3_until_57 : decode cX3_until 57 = .ok (.getfield 16, 3) := by decide +kernel
theorem dX3_until_60 : decode cX3_until 60 = .ok (.iconst 1, 1) := by decide +kernel
theorem dX3_until_61 : decode cX3_until 61 = .ok (.invokevirtual 160, 3) := by decide +kernel
theorem dX3_until_64 : decode cX3_until 64 = .ok (.pop, 1) := by decide +kernel
theorem dX3_until_65 : decode cX3_until 65 = .ok (.aload_n 0, 1) := by decide +kernel
theorem dX3_until_66 : decode cX3_until 66 = .ok (.getfield 16, 3) := by decide +kernel
theorem dX3_until_69 : decode cX3_until 69 = .ok (.getfield 97, 3) := by decide +kernel
theorem dX3_until_72 : decode cX3_until 72 = .ok (.getfield 167, 3) := by decide +kernel
theorem dX3_until_75 : decode cX3_until 75 = .ok (.iload_n 1, 1) := by decide +kernel
theorem dX3_until_76 : decode cX3_until 76 = .ok (.iaload, 1) := by decide +kernel
theorem dX3_until_77 : decode cX3_until 77 = .ok (.iload_n 2, 1) := by decide +kernel
theorem dX3_until_78 : decode cX3_until 78 = .ok (.if_icmp .le 5, 3) := by decide +kernel
theorem dX3_until_81 : decode cX3_until 81 = .ok (.iload_n 3, 1) := by decide +kernel
theorem dX3_until_82 : decode cX3_until 82 = .ok (.ireturn, 1) := by decide +kernel
theorem dX3_until_83 : decode cX3_until 83 = .ok (.iinc 3 1, 3) := by decide +kernel
theorem dX3_until_86 : decode cX3_until 86 = .ok (.goto (-36), 3) := by decide +kernel
theorem dX3_until_89 : decode cX3_until 89 = .ok (.iconst (-1), 1) := by decide +kernel
theorem dX3_until_90 : decode cX3_until 90 = .ok (.ireturn, 1) := by decide +kernel
set_option maxRecDepth 20000 in
theorem ggX3_foresee_X3_isWithin : GoodIn wsX3_foresee wsX3_isWithin := goodIn_r _ [10] (by decide +kernel) (by decide +kernel)
set_option maxRecDepth 20000 in
theorem gX3_foresee_X3_isWithin : GoodIn wsX3_foresee (va_wsS RX3 19 yX3_isWithin wsX3_isWithin) := goodIn_app (goodIn_of _ (by decide +kernel)) ggX3_foresee_X3_isWithin
set_option maxRecDepth 20000 in
theorem ggX3_foresee_X2_copyFrom : GoodIn wsX3_foresee wsX2_copyFrom := goodIn_r _ [15, 16, 17, 18, 19, 20, 21, 22, 23, 9, 24, 25, 26, 27, 28, 29, 30, 31, 32, 33, 34, 35, 36, 37, 38, 39, 40, 41, 42, 43, 44, 45, 46, 47, 48, 49, 50, 51, 52, 53, 54, 55, 56, 170, 171, 172, 173, 174, 175, 176, 177, 178, 179, 180, 181, 182, 183, 184, 185, 186, 187, 188, 189, 190] (by decide +kernel) (by decide +kernel)
set_option maxRecDepth 20000 in
theorem gX3_foresee_X2_copyFrom : GoodIn wsX3_foresee (wsV RX3 163 RX2 yX2_copyFrom wsX2_copyFrom) := goodIn_app (goodIn_of _ (by decide +kernel)) ggX3_foresee_X2_copyFrom
set_option maxRecDepth 20000 in
theorem ggX3_foresee_X2_letHoursGo : GoodIn wsX3_foresee wsX2_letHoursGo := goodIn_r _ [60, 21, 16, 61, 62, 63, 14, 64, 18, 65, 66, 67, 68, 69, 9, 70, 71, 72, 73, 36, 74, 38, 75, 76, 77, 78, 41, 79, 80, 25, 26, 27, 28, 81, 82, 83, 84, 85, 86, 87, 22, 19, 88, 17, 89, 20, 90, 91, 92, 46, 93, 48, 55, 94, 95, 96, 97, 56, 98, 99, 100, 101, 102, 103, 104, 105, 106, 107, 108, 109, 110, 111, 112, 113, 114, 115, 116, 117, 118, 119, 120, 39, 40, 121, 122, 123, 124, 125, 126, 127, 128, 129, 130, 131, 132, 52, 51, 133, 134, 135, 136, 137, 138, 139, 53, 140, 141, 142, 143, 144, 145, 170, 171, 172, 173, 174, 175, 176, 177, 178, 179, 180, 181, 182, 183, 184, 185, 186, 187, 188, 189, 190] (by decide +kernel) (by decide +kernel)
set_option maxRecDepth 20000 in
theorem gX3_foresee_X2_letHoursGo : GoodIn wsX3_foresee (wsV RX3 160 RX2 yX2_letHoursGo wsX2_letHoursGo) := goodIn_app (goodIn_of _ (by decide +kernel)) ggX3_foresee_X2_letHoursGo
set_option maxRecDepth 20000 in
theorem ggX3_foresee_X2_figure : GoodIn wsX3_foresee wsX2_figure := goodIn_r _ [149, 16, 17, 21, 150, 22, 151, 61, 62, 63, 14, 64, 18, 65, 66, 67, 68, 152, 153, 154, 36, 155, 38, 121, 122, 123, 124, 41, 40, 156, 157, 158, 159, 20, 160, 161, 162, 46, 163, 48, 55, 164, 165, 166, 167, 53, 170, 171, 172, 173, 174, 175, 176, 177, 178, 179, 180, 181, 182, 183, 184, 185, 186, 187, 188, 189, 190] (by decide +kernel) (by decide +kernel)
set_option maxRecDepth 20000 in
theorem gX3_foresee_X2_figure : GoodIn wsX3_foresee (wsV RX3 155 RX2 yX2_figure wsX2_figure) := goodIn_app (goodIn_of _ (by decide +kernel)) ggX3_foresee_X2_figure
theorem dX3_foresee_0 : decode cX3_foresee 0 = .ok (.iload_n 1, 1) := by decide +kernel
theorem dX3_foresee_1 : decode cX3_foresee 1 = .ok (.iconst 1, 1) := by decide +kernel
theorem dX3_foresee_2 : decode cX3_foresee 2 = .ok (.bipush 60, 2) := by decide +kernel
theorem dX3_foresee_4 : decode cX3_foresee 4 = .ok (.invokestatic 19, 3) := by decide +kernel
theorem dX3_foresee_7 : decode cX3_foresee 7 = .ok (.ifCond .ne 13, 3) := by decide +kernel
theorem dX3_foresee_10 : decode cX3_foresee 10 = .ok (.new 30, 3) := by decide +kernel
theorem dX3_foresee_13 : decode cX3_foresee 13 = .ok (.dup, 1) := by decide +kernel
theorem dX3_foresee_14 : decode cX3_foresee 14 = .ok (.ldc 158, 2) := by decide +kernel
theorem dX3_foresee_16 : decode cX3_foresee 16 = .ok (.invokespecial 34, 3) := by decide +kernel
theorem dX3_foresee_19 : decode cX3_foresee 19 = .ok (.athrow, 1) := by decide +kernel
theorem dX3_foresee_20 : decode cX3_foresee 20 = .ok (.iload_n 2, 1) := by decide +kernel
theorem dX3_foresee_21 : decode cX3_foresee 21 = .ok (.iconst 0, 1) := by decide +kernel
theorem dX3_foresee_22 : decode cX3_foresee 22 = .ok (.bipush 8, 2) := by decide +kernel
theorem dX3_foresee_24 : decode cX3_foresee 24 = .ok (.invokestatic 19, 3) := by decide +kernel
theorem dX3_foresee_27 : decode cX3_foresee 27 = .ok (.ifCond .ne 13, 3) := by decide +kernel
theorem dX3_foresee_30 : decode cX3_foresee 30 = .ok (.new 23, 3) := by decide +kernel
theorem dX3_foresee_33 : decode cX3_foresee 33 = .ok (.dup, 1) := by decide +kernel
theorem dX3_foresee_34 : decode cX3_foresee 34 = .ok (.ldc 153, 2) := by decide +kernel
theorem dX3_foresee_36 : decode cX3_foresee 36 = .ok (.invokespecial 27, 3) := by decide +kernel
theorem dX3_foresee_39 : decode cX3_foresee 39 = .ok (.athrow, 1) := by decide +kernel
theorem dX3_foresee_40 : decode cX3_foresee 40 = .ok (.aload_n 0, 1) := by decide +kernel
theorem dX3_foresee_41 : decode cX3_foresee 41 = .ok (.getfield 16, 3) := by decide +kernel
theorem dX3_foresee_44 : decode cX3_foresee 44 = .ok (.aload_n 0, 1) := by decide +kernel
theorem dX3_foresee_45 : decode cX3_foresee 45 = .ok (.getfield 10, 3) := by decide +kernel
theorem dX3_foresee_48 : decode cX3_foresee 48 = .ok (.invokevirtual 163, 3) := by decide +kernel
theorem dX3_foresee_51 : decode cX3_foresee 51 = .ok (.aload_n 0, 1) := by decide +kernel
theorem dX3_foresee_52 : decode cX3_foresee 52 = .ok (.getfield 16, 3) := by decide +kernel
theorem dX3_foresee_55 : decode cX3_foresee 55 = .ok (.iload_n 1, 1) := by decide +kernel
theorem dX3_foresee_56 : decode cX3_foresee 56 = .ok (.invokevirtual 160, 3) := by decide +kernel
theorem dX3_foresee_59 : decode cX3_foresee 59 = .ok (.pop, 1) := by decide +kernel
theorem dX3_foresee_60 : decode cX3_foresee 60 = .ok (.aload_n 0, 1) := by decide +kernel
theorem dX3_foresee_61 : decode cX3_foresee 61 = .ok (.getfield 16, 3) := by decide +kernel
theorem dX3_foresee_64 : decode cX3_foresee 64 = .ok (.iload_n 2, 1) := by decide +kernel
theorem dX3_foresee_65 : decode cX3_foresee 65 = .ok (.invokevirtual 155, 3) := by decide +kernel
theorem dX3_foresee_68 : decode cX3_foresee 68 = .ok (.ireturn, 1) := by decide +kernel
set_option maxRecDepth 20000 in
theorem ggX3_mean_X1_allPoints : GoodIn wsX3_mean wsX1_allPoints := goodIn_r _ [8, 9, 10, 20, 21, 22, 23, 24, 25, 26, 27, 28] (by decide +kernel) (by decide +kernel)
set_option maxRecDepth 20000 in
theorem gX3_mean_X1_allPoints : GoodIn wsX3_mean (wsV RX3 178 RX1 yX1_allPoints wsX1_allPoints) := goodIn_app (goodIn_of _ (by decide +kernel)) ggX3_mean_X1_allPoints
theorem dX3_mean_0 : decode cX3_mean 0 = .ok (.aload_n 0, 1) := by decide +kernel
theorem dX3_mean_1 : decode cX3_mean 1 = .ok (.getfield 10, 3) := by decide +kernel
theorem dX3_mean_4 : decode cX3_mean 4 = .ok (.getfield 97, 3) := by decide +kernel
theorem dX3_mean_7 : decode cX3_mean 7 = .ok (.getfield 175, 3) := by decide +kernel
theorem dX3_mean_10 : decode cX3_mean 10 = .ok (.ifCond .gt 5, 3) := by decide +kernel
theorem dX3_mean_13 : decode cX3_mean 13 = .ok (.dconst 0, 1) := by decide +kernel
theorem dX3_mean_14 : decode cX3_mean 14 = .ok (.dreturn, 1) := by decide +kernel
theorem dX3_mean_15 : decode cX3_mean 15 = .ok (.aload_n 0, 1) := by decide +kernel
theorem dX3_mean_16 : decode cX3_mean 16 = .ok (.getfield 10, 3) := by decide +kernel
theorem dX3_mean_19 : decode cX3_mean 19 = .ok (.getfield 97, 3) := by decide +kernel
theorem dX3_mean_22 : decode cX3_mean 22 = .ok (.invokevirtual 178, 3) := by decide +kernel
theorem dX3_mean_25 : decode cX3_mean 25 = .ok (.i2d, 1) := by decide +kernel
theorem dX3_mean_26 : decode cX3_mean 26 = .ok (.aload_n 0, 1) := by decide +kernel
theorem dX3_mean_27 : decode cX3_mean 27 = .ok (.getfield 10, 3) := by decide +kernel
theorem dX3_mean_30 : decode cX3_mean 30 = .ok (.getfield 97, 3) := by decide +kernel
theorem dX3_mean_33 : decode cX3_mean 33 = .ok (.getfield 175, 3) := by decide +kernel
theorem dX3_mean_36 : decode cX3_mean 36 = .ok (.i2d, 1) := by decide +kernel
theorem dX3_mean_37 : decode cX3_mean 37 = .ok (.ddiv, 1) := by decide +kernel
theorem dX3_mean_38 : decode cX3_mean 38 = .ok (.dreturn, 1) := by decide +kernel
set_option maxRecDepth 20000 in
theorem ggX3_digest_X2_figure : GoodIn wsX3_digest wsX2_figure := goodIn_r _ [12, 13, 14, 15, 16, 17, 18, 19, 20, 21, 11, 22, 23, 24, 25, 26, 27, 28, 29, 30, 31, 32, 33, 34, 35, 36, 37, 38, 39, 40, 41, 42, 43, 44, 45, 46, 47, 48, 49, 50, 51, 52, 53, 54, 55, 56, 94, 95, 96, 97, 98, 99, 100, 101, 102, 103, 104, 105, 106, 107, 108, 109, 110, 111, 112, 113, 114] (by decide +kernel) (by decide +kernel)
set_option maxRecDepth 20000 in
theorem gX3_digest_X2_figure : GoodIn wsX3_digest (wsV RX3 155 RX2 yX2_figure wsX2_figure) := goodIn_app (goodIn_of _ (by decide +kernel)) ggX3_digest_X2_figure
set_option maxRecDepth 20000 in
theorem ggX3_digest_X3_mixed : GoodIn wsX3_digest wsX3_mixed := goodIn_r _ [60, 61] (by decide +kernel) (by decide +kernel)
set_option maxRecDepth 20000 in
theorem gX3_digest_X3_mixed : GoodIn wsX3_digest (va_wsS RX3 184 yX3_mixed wsX3_mixed) := goodIn_app (goodIn_of _ (by decide +kernel)) ggX3_digest_X3_mixed
set_option maxRecDepth 20000 in
theorem ggX3_digest_X0_figure : GoodIn wsX3_digest wsX0_figure := goodIn_r _ [65, 66, 39, 38, 67, 34, 35, 36, 31, 37, 101, 102, 103, 104, 105] (by decide +kernel) (by decide +kernel)
set_option maxRecDepth 20000 in
theorem gX3_digest_X0_figure : GoodIn wsX3_digest (wsV RX3 134 RX0 yX0_figure wsX0_figure) := goodIn_app (goodIn_of _ (by decide +kernel)) ggX3_digest_X0_figure
set_option maxRecDepth 20000 in
theorem ggX3_digest_X1_figure : GoodIn wsX3_digest wsX1_figure := goodIn_r _ [71, 72, 73, 74, 75, 56, 76, 51, 106, 107, 108, 109, 110, 111, 112, 113, 114] (by decide +kernel) (by decide +kernel)
set_option maxRecDepth 20000 in
theorem gX3_digest_X1_figure : GoodIn wsX3_digest (wsV RX3 139 RX1 yX1_figure wsX1_figure) := goodIn_app (goodIn_of _ (by decide +kernel)) ggX3_digest_X1_figure
set_option maxRecDepth 20000 in
theorem ggX3_digest_X2_towFigure : GoodIn wsX3_digest wsX2_towFigure := goodIn_r _ [80, 81, 17, 44, 82, 83, 84, 48, 85, 50, 51, 94, 95, 96, 97, 98, 99, 100, 106, 107, 108, 109, 110, 111, 112, 113, 114] (by decide +kernel) (by decide +kernel)
set_option maxRecDepth 20000 in
theorem gX3_digest_X2_towFigure : GoodIn wsX3_digest (wsV RX3 142 RX2 yX2_towFigure wsX2_towFigure) := goodIn_app (goodIn_of _ (by decide +kernel)) ggX3_digest_X2_towFigure
set_option maxRecDepth 20000 in
theorem ggX3_digest_X1_waitingAt : GoodIn wsX3_digest wsX1_waitingAt := goodIn_r _ [85, 50, 51, 106, 107, 108, 109, 110, 111, 112, 113, 114] (by decide +kernel) (by decide +kernel)
set_option maxRecDepth 20000 in
theorem gX3_digest_X1_waitingAt : GoodIn wsX3_digest (wsV RX3 189 RX1 yX1_waitingAt wsX1_waitingAt) := goodIn_app (goodIn_of _ (by decide +kernel)) ggX3_digest_X1_waitingAt
set_option maxRecDepth 20000 in
theorem ggX3_digest_X1_at : GoodIn wsX3_digest wsX1_at := goodIn_r _ [90, 50, 51, 91, 106, 107, 108, 109, 110, 111, 112, 113, 114] (by decide +kernel) (by decide +kernel)
set_option maxRecDepth 20000 in
theorem gX3_digest_X1_at : GoodIn wsX3_digest (wsV RX3 145 RX1 yX1_at wsX1_at) := goodIn_app (goodIn_of _ (by decide +kernel)) ggX3_digest_X1_at
theorem dX3_digest_0 : decode cX3_digest 0 = .ok (.ldc2_w 182, 3) := by decide +kernel
theorem dX3_digest_3 : decode cX3_digest 3 = .ok (.lstore_n 1, 1) := by decide +kernel
theorem dX3_digest_4 : decode cX3_digest 4 = .ok (.iconst 0, 1) := by decide +kernel
theorem dX3_digest_5 : decode cX3_digest 5 = .ok (.istore_n 3, 1) := by decide +kernel
theorem dX3_digest_6 : decode cX3_digest 6 = .ok (.iload_n 3, 1) := by decide +kernel
theorem dX3_digest_7 : decode cX3_digest 7 = .ok (.bipush 9, 2) := by decide +kernel
theorem dX3_digest_9 : decode cX3_digest 9 = .ok (.if_icmp .ge 22, 3) := by decide +kernel
theorem dX3_digest_12 : decode cX3_digest 12 = .ok (.lload_n 1, 1) := by decide +kernel
theorem dX3_digest_13 : decode cX3_digest 13 = .ok (.aload_n 0, 1) := by decide +kernel
theorem dX3_digest_14 : decode cX3_digest 14 = .ok (.getfield 10, 3) := by decide +kernel
theorem dX3_digest_17 : decode cX3_digest 17 = .ok (.iload_n 3, 1) := by decide +kernel
theorem dX3_digest_18 : decode cX3_digest 18 = .ok (.invokevirtual 155, 3) := by decide +kernel
theorem dX3_digest_21 : decode cX3_digest 21 = .ok (.invokestatic 184, 3) := by decide +kernel
theorem dX3_digest_24 : decode cX3_digest 24 = .ok (.lstore_n 1, 1) := by decide +kernel
theorem dX3_digest_25 : decode cX3_digest 25 = .ok (.iinc 3 1, 3) := by decide +kernel
theorem dX3_digest_28 : decode cX3_digest 28 = .ok (.goto (-22), 3) := by decide +kernel
theorem dX3_digest_31 : decode cX3_digest 31 = .ok (.iconst 0, 1) := by decide +kernel
theorem dX3_digest_32 : decode cX3_digest 32 = .ok (.istore_n 3, 1) := by decide +kernel
theorem dX3_digest_33 : decode cX3_digest 33 = .ok (.iload_n 3, 1) := by decide +kernel
theorem dX3_digest_34 : decode cX3_digest 34 = .ok (.bipush 6, 2) := by decide +kernel
theorem dX3_digest_36 : decode cX3_digest 36 = .ok (.if_icmp .ge 23, 3) := by decide +kernel
theorem dX3_digest_39 : decode cX3_digest 39 = .ok (.lload_n 1, 1) := by decide +kernel
theorem dX3_digest_40 : decode cX3_digest 40 = .ok (.aload_n 0, 1) := by decide +kernel
theorem dX3_digest_41 : decode cX3_digest 41 = .ok (.getfield 10, 3) := by decide +kernel
theorem dX3_digest_44 : decode cX3_digest 44 = .ok (.getfield 64, 3) := by decide +kernel
theorem dX3_digest_47 : decode cX3_digest 47 = .ok (.iload_n 3, 1) := by decide +kernel
theorem dX3_digest_48 : decode cX3_digest 48 = .ok (.iaload, 1) := by decide +kernel
theorem dX3_digest_49 : decode cX3_digest 49 = .ok (.invokestatic 184, 3) := by decide +kernel
theorem dX3_digest_52 : decode cX3_digest 52 = .ok (.lstore_n 1, 1) := by decide +kernel
theorem dX3_digest_53 : decode cX3_digest 53 = .ok (.iinc 3 1, 3) := by decide +kernel
theorem dX3_digest_56 : decode cX3_digest 56 = .ok (.goto (-23), 3) := by decide +kernel
theorem dX3_digest_59 : decode cX3_digest 59 = .ok (.iconst 0, 1) := by decide +kernel
theorem dX3_digest_60 : decode cX3_digest 60 = .ok (.istore_n 3, 1) := by decide +kernel
theorem dX3_digest_61 : decode cX3_digest 61 = .ok (.iload_n 3, 1) := by decide +kernel
theorem dX3_digest_62 : decode cX3_digest 62 = .ok (.aload_n 0, 1) := by decide +kernel
theorem dX3_digest_63 : decode cX3_digest 63 = .ok (.getfield 10, 3) := by decide +kernel
theorem dX3_digest_66 : decode cX3_digest 66 = .ok (.getfield 35, 3) := by decide +kernel
theorem dX3_digest_69 : decode cX3_digest 69 = .ok (.getfield 188, 3) := by decide +kernel
theorem dX3_digest_72 : decode cX3_digest 72 = .ok (.if_icmp .ge 42, 3) := by decide +kernel
theorem dX3_digest_75 : decode cX3_digest 75 = .ok (.iconst 0, 1) := by decide +kernel
theorem dX3_digest_76 : decode cX3_digest 76 = .ok (.istore 4, 2) := by decide +kernel
theorem dX3_digest_78 : decode cX3_digest 78 = .ok (.iload 4, 2) := by decide +kernel
theorem dX3_digest_80 : decode cX3_digest 80 = .ok (.iconst 5, 1) := by decide +kernel
theorem dX3_digest_81 : decode cX3_digest 81 = .ok (.if_icmp .ge 27, 3) := by decide +kernel
theorem dX3_digest_84 : decode cX3_digest 84 = .ok (.lload_n 1, 1) := by decide +kernel
theorem dX3_digest_85 : decode cX3_digest 85 = .ok (.aload_n 0, 1) := by decide +kernel
theorem dX3_digest_86 : decode cX3_digest 86 = .ok (.getfield 10, 3) := by decide +kernel
theorem dX3_digest_89 : decode cX3_digest 89 = .ok (.getfield 35, 3) := by decide +kernel
theorem dX3_digest_92 : decode cX3_digest 92 = .ok (.iload_n 3, 1) := by decide +kernel
theorem dX3_digest_93 : decode cX3_digest 93 = .ok (.iload 4, 2) := by decide +kernel
theorem dX3_digest_95 : decode cX3_digest 95 = .ok (.invokevirtual 134, 3) := by decide +kernel
theorem dX3_digest_98 : decode cX3_digest 98 = .ok (.invokestatic 184, 3) := by decide +kernel
theorem dX3_digest_101 : decode cX3_digest 101 = .ok (.lstore_n 1, 1) := by decide +kernel
theorem dX3_digest_102 : decode cX3_digest 102 = .ok (.iinc 4 1, 3) := by decide +kernel
theorem dX3_digest_105 : decode cX3_digest 105 = .ok (.goto (-27), 3) := by decide +kernel
theorem dX3_digest_108 : decode cX3_digest 108 = .ok (.iinc 3 1, 3) := by decide +kernel
theorem dX3_digest_111 : decode cX3_digest 111 = .ok (.goto (-50), 3) := by decide +kernel
theorem dX3_digest_114 : decode cX3_digest 114 = .ok (.iconst 0, 1) := by decide +kernel
theorem dX3_digest_115 : decode cX3_digest 115 = .ok (.istore_n 3, 1) := by decide +kernel
theorem dX3_digest_116 : decode cX3_digest 116 = .ok (.iload_n 3, 1) := by decide +kernel
theorem dX3_digest_117 : decode cX3_digest 117 = .ok (.aload_n 0, 1) := by decide +kernel
theorem dX3_digest_118 : decode cX3_digest 118 = .ok (.getfield 10, 3) := by decide +kernel
theorem dX3_digest_121 : decode cX3_digest 121 = .ok (.getfield 97, 3) := by decide +kernel
theorem dX3_digest_124 : decode cX3_digest 124 = .ok (.getfield 175, 3) := by decide +kernel
theorem dX3_digest_127 : decode cX3_digest 127 = .ok (.if_icmp .ge 43, 3) := by decide +kernel
theorem dX3_digest_130 : decode cX3_digest 130 = .ok (.iconst 0, 1) := by decide +kernel
theorem dX3_digest_131 : decode cX3_digest 131 = .ok (.istore 4, 2) := by decide +kernel
theorem dX3_digest_133 : decode cX3_digest 133 = .ok (.iload 4, 2) := by decide +kernel
theorem dX3_digest_135 : decode cX3_digest 135 = .ok (.bipush 7, 2) := by decide +kernel
theorem dX3_digest_137 : decode cX3_digest 137 = .ok (.if_icmp .ge 27, 3) := by decide +kernel
theorem dX3_digest_140 : decode cX3_digest 140 = .ok (.lload_n 1, 1) := by decide +kernel
theorem dX3_digest_141 : decode cX3_digest 141 = .ok (.aload_n 0, 1) := by decide +kernel
theorem dX3_digest_142 : decode cX3_digest 142 = .ok (.getfield 10, 3) := by decide +kernel
theorem dX3_digest_145 : decode cX3_digest 145 = .ok (.getfield 97, 3) := by decide +kernel
theorem dX3_digest_148 : decode cX3_digest 148 = .ok (.iload_n 3, 1) := by decide +kernel
theorem dX3_digest_149 : decode cX3_digest 149 = .ok (.iload 4, 2) := by decide +kernel
theorem dX3_digest_151 : decode cX3_digest 151 = .ok (.invokevirtual 139, 3) := by decide +kernel
