theorem dX5_tow_2 : decode cX5_tow 2 = .ok (.putfield 37, 3) := by decide +kernel
theorem dX5_tow_5 : decode cX5_tow 5 = .ok (.aload_n 0, 1) := by decide +kernel
theorem dX5_tow_6 : decode cX5_tow 6 = .ok (.iload_n 1, 1) := by decide +kernel
theorem dX5_tow_7 : decode cX5_tow 7 = .ok (.invokevirtual 51, 3) := by decide +kernel
theorem dX5_tow_10 : decode cX5_tow 10 = .ok (.ifCond .eq 21, 3) := by decide +kernel
theorem dX5_tow_13 : decode cX5_tow 13 = .ok (.iload_n 2, 1) := by decide +kernel
theorem dX5_tow_14 : decode cX5_tow 14 = .ok (.iconst 0, 1) := by decide +kernel
theorem dX5_tow_15 : decode cX5_tow 15 = .ok (.iconst 2, 1) := by decide +kernel
theorem dX5_tow_16 : decode cX5_tow 16 = .ok (.invokestatic 41, 3) := by decide +kernel
theorem dX5_tow_19 : decode cX5_tow 19 = .ok (.ifCond .eq 12, 3) := by decide +kernel
theorem dX5_tow_22 : decode cX5_tow 22 = .ok (.aload_n 0, 1) := by decide +kernel
theorem dX5_tow_23 : decode cX5_tow 23 = .ok (.iload_n 1, 1) := by decide +kernel
theorem dX5_tow_24 : decode cX5_tow 24 = .ok (.iload_n 2, 1) := by decide +kernel
theorem dX5_tow_25 : decode cX5_tow 25 = .ok (.invokevirtual 120, 3) := by decide +kernel
theorem dX5_tow_28 : decode cX5_tow 28 = .ok (.goto 8, 3) := by decide +kernel
theorem dX5_tow_31 : decode cX5_tow 31 = .ok (.aload_n 0, 1) := by decide +kernel
theorem dX5_tow_32 : decode cX5_tow 32 = .ok (.iconst 1, 1) := by decide +kernel
theorem dX5_tow_33 : decode cX5_tow 33 = .ok (.invokevirtual 55, 3) := by decide +kernel
theorem dX5_tow_36 : decode cX5_tow 36 = .ok (.ireturn, 1) := by decide +kernel
set_option maxRecDepth 20000 in
theorem ggX5_stands_X5_isTow : GoodIn wsX5_stands wsX5_isTow := goodIn_r _ [7, 8, 9, 6, 10] (by decide +kernel) (by decide +kernel)
set_option maxRecDepth 20000 in
theorem gX5_stands_X5_isTow : GoodIn wsX5_stands (wsV RX5 51 RX5 yX5_isTow wsX5_isTow) := goodIn_app (goodIn_of _ (by decide +kernel)) ggX5_stands_X5_isTow
set_option maxRecDepth 20000 in
theorem ggX5_stands_X5_isIn : GoodIn wsX5_stands wsX5_isIn := goodIn_r _ [10] (by decide +kernel) (by decide +kernel)
set_option maxRecDepth 20000 in
theorem gX5_stands_X5_isIn : GoodIn wsX5_stands (va_wsS RX5 41 yX5_isIn wsX5_isIn) := goodIn_app (goodIn_of _ (by decide +kernel)) ggX5_stands_X5_isIn
set_option maxRecDepth 20000 in
theorem ggX5_stands_X5_no : GoodIn wsX5_stands wsX5_no := goodIn_r _ [14, 1, 15, 16, 17, 18, 19, 20, 21, 22, 23, 24] (by decide +kernel) (by decide +kernel)
set_option maxRecDepth 20000 in
theorem gX5_stands_X5_no : GoodIn wsX5_stands (wsV RX5 55 RX5 yX5_no wsX5_no) := goodIn_app (goodIn_of _ (by decide +kernel)) ggX5_stands_X5_no
theorem dX5_stands_0 : decode cX5_stands 0 = .ok (.aload_n 0, 1) := by decide +kernel
theorem dX5_stands_1 : decode cX5_stands 1 = .ok (.iconst 0, 1) := by decide +kernel
theorem dX5_stands_2 : decode cX5_stands 2 = .ok (.putfield 37, 3) := by decide +kernel
theorem dX5_stands_5 : decode cX5_stands 5 = .ok (.aload_n 0, 1) := by decide +kernel
theorem dX5_stands_6 : decode cX5_stands 6 = .ok (.iload_n 1, 1) := by decide +kernel
theorem dX5_stands_7 : decode cX5_stands 7 = .ok (.invokevirtual 51, 3) := by decide +kernel
theorem dX5_stands_10 : decode cX5_stands 10 = .ok (.ifCond .eq 39, 3) := by decide +kernel
theorem dX5_stands_13 : decode cX5_stands 13 = .ok (.iload_n 2, 1) := by decide +kernel
theorem dX5_stands_14 : decode cX5_stands 14 = .ok (.iconst 0, 1) := by decide +kernel
theorem dX5_stands_15 : decode cX5_stands 15 = .ok (.aload_n 0, 1) := by decide +kernel
theorem dX5_stands_16 : decode cX5_stands 16 = .ok (.getfield 30, 3) := by decide +kernel
theorem dX5_stands_19 : decode cX5_stands 19 = .ok (.getfield 93, 3) := by decide +kernel
theorem dX5_stands_22 : decode cX5_stands 22 = .ok (.iload_n 1, 1) := by decide +kernel
theorem dX5_stands_23 : decode cX5_stands 23 = .ok (.iaload, 1) := by decide +kernel
theorem dX5_stands_24 : decode cX5_stands 24 = .ok (.iconst 1, 1) := by decide +kernel
theorem dX5_stands_25 : decode cX5_stands 25 = .ok (.isub, 1) := by decide +kernel
theorem dX5_stands_26 : decode cX5_stands 26 = .ok (.invokestatic 41, 3) := by decide +kernel
theorem dX5_stands_29 : decode cX5_stands 29 = .ok (.ifCond .eq 20, 3) := by decide +kernel
theorem dX5_stands_32 : decode cX5_stands 32 = .ok (.aload_n 0, 1) := by decide +kernel
theorem dX5_stands_33 : decode cX5_stands 33 = .ok (.getfield 30, 3) := by decide +kernel
theorem dX5_stands_36 : decode cX5_stands 36 = .ok (.getfield 123, 3) := by decide +kernel
theorem dX5_stands_39 : decode cX5_stands 39 = .ok (.bipush 8, 2) := by decide +kernel
theorem dX5_stands_41 : decode cX5_stands 41 = .ok (.iload_n 1, 1) := by decide +kernel
theorem dX5_stands_42 : decode cX5_stands 42 = .ok (.imul, 1) := by decide +kernel
theorem dX5_stands_43 : decode cX5_stands 43 = .ok (.iload_n 2, 1) := by decide +kernel
theorem dX5_stands_44 : decode cX5_stands 44 = .ok (.iadd, 1) := by decide +kernel
theorem dX5_stands_45 : decode cX5_stands 45 = .ok (.iaload, 1) := by decide +kernel
theorem dX5_stands_46 : decode cX5_stands 46 = .ok (.goto 8, 3) := by decide +kernel
theorem dX5_stands_49 : decode cX5_stands 49 = .ok (.aload_n 0, 1) := by decide +kernel
theorem dX5_stands_50 : decode cX5_stands 50 = .ok (.iconst 1, 1) := by decide +kernel
theorem dX5_stands_51 : decode cX5_stands 51 = .ok (.invokevirtual 55, 3) := by decide +kernel
theorem dX5_stands_54 : decode cX5_stands 54 = .ok (.ireturn, 1) := by decide +kernel
set_option maxRecDepth 20000 in
theorem ggX5_choice_X5_isSkier : GoodIn wsX5_choice wsX5_isSkier := goodIn_r _ [7, 8, 9, 10, 6, 11, 31, 32, 33, 34, 35, 36, 37, 38, 39, 40] (by decide +kernel) (by decide +kernel)
set_option maxRecDepth 20000 in
theorem gX5_choice_X5_isSkier : GoodIn wsX5_choice (wsV RX5 77 RX5 yX5_isSkier wsX5_isSkier) := goodIn_app (goodIn_of _ (by decide +kernel)) ggX5_choice_X5_isSkier
set_option maxRecDepth 20000 in
theorem ggX5_choice_X5_isTow : GoodIn wsX5_choice wsX5_isTow := goodIn_r _ [15, 9, 10, 6, 11] (by decide +kernel) (by decide +kernel)
set_option maxRecDepth 20000 in
theorem gX5_choice_X5_isTow : GoodIn wsX5_choice (wsV RX5 51 RX5 yX5_isTow wsX5_isTow) := goodIn_app (goodIn_of _ (by decide +kernel)) ggX5_choice_X5_isTow
set_option maxRecDepth 20000 in
theorem ggX5_choice_X4_choice : GoodIn wsX5_choice wsX4_choice := goodIn_r _ [20, 21, 22, 23, 24, 19, 25, 26, 41, 42, 43, 44, 45, 46, 47, 48, 49, 50, 51, 52, 53, 54, 31, 32, 33, 34, 35, 36, 37, 38, 39, 40] (by decide +kernel) (by decide +kernel)
set_option maxRecDepth 20000 in
theorem gX5_choice_X4_choice : GoodIn wsX5_choice (wsV RX5 126 RX4 yX4_choice wsX4_choice) := goodIn_app (goodIn_of _ (by decide +kernel)) ggX5_choice_X4_choice
set_option maxRecDepth 20000 in
theorem ggX5_choice_X5_no : GoodIn wsX5_choice wsX5_no := goodIn_r _ [30, 1, 31, 32, 33, 34, 35, 36, 37, 38, 39, 40] (by decide +kernel) (by decide +kernel)
set_option maxRecDepth 20000 in
theorem gX5_choice_X5_no : GoodIn wsX5_choice (wsV RX5 55 RX5 yX5_no wsX5_no) := goodIn_app (goodIn_of _ (by decide +kernel)) ggX5_choice_X5_no
theorem dX5_choice_0 : decode cX5_choice 0 = .ok (.aload_n 0, 1) := by decide +kernel
theorem dX5_choice_1 : decode cX5_choice 1 = .ok (.iconst 0, 1) := by decide +kernel
theorem dX5_choice_2 : decode cX5_choice 2 = .ok (.putfield 37, 3) := by decide +kernel
theorem dX5_choice_5 : decode cX5_choice 5 = .ok (.aload_n 0, 1) := by decide +kernel
theorem dX5_choice_6 : decode cX5_choice 6 = .ok (.iload_n 1, 1) := by decide +kernel
theorem dX5_choice_7 : decode cX5_choice 7 = .ok (.invokevirtual 77, 3) := by decide +kernel
theorem dX5_choice_10 : decode cX5_choice 10 = .ok (.ifCond .eq 23, 3) := by decide +kernel
theorem dX5_choice_13 : decode cX5_choice 13 = .ok (.aload_n 0, 1) := by decide +kernel
theorem dX5_choice_14 : decode cX5_choice 14 = .ok (.iload_n 2, 1) := by decide +kernel
theorem dX5_choice_15 : decode cX5_choice 15 = .ok (.invokevirtual 51, 3) := by decide +kernel
theorem dX5_choice_18 : decode cX5_choice 18 = .ok (.ifCond .eq 15, 3) := by decide +kernel
theorem dX5_choice_21 : decode cX5_choice 21 = .ok (.aload_n 0, 1) := by decide +kernel
theorem dX5_choice_22 : decode cX5_choice 22 = .ok (.getfield 30, 3) := by decide +kernel
theorem dX5_choice_25 : decode cX5_choice 25 = .ok (.iload_n 1, 1) := by decide +kernel
theorem dX5_choice_26 : decode cX5_choice 26 = .ok (.iload_n 2, 1) := by decide +kernel
theorem dX5_choice_27 : decode cX5_choice 27 = .ok (.invokevirtual 126, 3) := by decide +kernel
theorem dX5_choice_30 : decode cX5_choice 30 = .ok (.goto 8, 3) := by decide +kernel
theorem dX5_choice_33 : decode cX5_choice 33 = .ok (.aload_n 0, 1) := by decide +kernel
theorem dX5_choice_34 : decode cX5_choice 34 = .ok (.iconst 1, 1) := by decide +kernel
theorem dX5_choice_35 : decode cX5_choice 35 = .ok (.invokevirtual 55, 3) := by decide +kernel
theorem dX5_choice_38 : decode cX5_choice 38 = .ok (.ireturn, 1) := by decide +kernel
set_option maxRecDepth 20000 in
theorem ggX5_count_X5_isIn : GoodIn wsX5_count wsX5_isIn := goodIn_r _ [6] (by decide +kernel) (by decide +kernel)
set_option maxRecDepth 20000 in
theorem gX5_count_X5_isIn : GoodIn wsX5_count (va_wsS RX5 41 yX5_isIn wsX5_isIn) := goodIn_app (goodIn_of _ (by decide +kernel)) ggX5_count_X5_isIn
set_option maxRecDepth 20000 in
theorem ggX5_count_X4_counted : GoodIn wsX5_count wsX4_counted := goodIn_r _ [11, 12, 13, 14, 15, 16, 17, 18, 10, 19, 20, 21, 22, 23, 24, 25, 26, 27, 28, 29, 30, 31, 32, 33, 34, 35, 36, 37, 38, 53, 54, 55, 56, 57, 58, 59, 60, 61, 62, 63, 64, 65, 66, 43, 44, 45, 46, 47, 48, 49, 50, 51, 52] (by decide +kernel) (by decide +kernel)
set_option maxRecDepth 20000 in
theorem gX5_count_X4_counted : GoodIn wsX5_count (wsV RX5 129 RX4 yX4_counted wsX4_counted) := goodIn_app (goodIn_of _ (by decide +kernel)) ggX5_count_X4_counted
set_option maxRecDepth 20000 in
theorem ggX5_count_X5_no : GoodIn wsX5_count wsX5_no := goodIn_r _ [42, 1, 43, 44, 45, 46, 47, 48, 49, 50, 51, 52] (by decide +kernel) (by decide +kernel)
set_option maxRecDepth 20000 in
theorem gX5_count_X5_no : GoodIn wsX5_count (wsV RX5 55 RX5 yX5_no wsX5_no) := goodIn_app (goodIn_of _ (by decide +kernel)) ggX5_count_X5_no
theorem dX5_count_0 : decode cX5_count 0 = .ok (.aload_n 0, 1) := by decide +kernel
theorem dX5_count_1 : decode cX5_count 1 = .ok (.iconst 0, 1) := by decide +kernel
theorem dX5_count_2 : decode cX5_count 2 = .ok (.putfield 37, 3) := by decide +kernel
theorem dX5_count_5 : decode cX5_count 5 = .ok (.iload_n 1, 1) := by decide +kernel
theorem dX5_count_6 : decode cX5_count 6 = .ok (.iconst 0, 1) := by decide +kernel
theorem dX5_count_7 : decode cX5_count 7 = .ok (.bipush 8, 2) := by decide +kernel
theorem dX5_count_9 : decode cX5_count 9 = .ok (.invokestatic 41, 3) := by decide +kernel
theorem dX5_count_12 : decode cX5_count 12 = .ok (.ifCond .eq 14, 3) := by decide +kernel
theorem dX5_count_15 : decode cX5_count 15 = .ok (.aload_n 0, 1) := by decide +kernel
theorem dX5_count_16 : decode cX5_count 16 = .ok (.getfield 30, 3) := by decide +kernel
theorem dX5_count_19 : decode cX5_count 19 = .ok (.iload_n 1, 1) := by decide +kernel
theorem dX5_count_20 : decode cX5_count 20 = .ok (.invokevirtual 129, 3) := by decide +kernel
theorem dX5_count_23 : decode cX5_count 23 = .ok (.goto 8, 3) := by decide +kernel
theorem dX5_count_26 : decode cX5_count 26 = .ok (.aload_n 0, 1) := by decide +kernel
theorem dX5_count_27 : decode cX5_count 27 = .ok (.iconst 1, 1) := by decide +kernel
theorem dX5_count_28 : decode cX5_count 28 = .ok (.invokevirtual 55, 3) := by decide +kernel
theorem dX5_count_31 : decode cX5_count 31 = .ok (.ireturn, 1) := by decide +kernel
set_option maxRecDepth 20000 in
theorem ggX5_pass_X5_isIn : GoodIn wsX5_pass wsX5_isIn := goodIn_r _ [6] (by decide +kernel) (by decide +kernel)
set_option maxRecDepth 20000 in
theorem gX5_pass_X5_isIn : GoodIn wsX5_pass (va_wsS RX5 41 yX5_isIn wsX5_isIn) := goodIn_app (goodIn_of _ (by decide +kernel)) ggX5_pass_X5_isIn
set_option maxRecDepth 20000 in
theorem ggX5_pass_X5_no : GoodIn wsX5_pass wsX5_no := goodIn_r _ [10, 1, 76, 77, 78, 79, 80, 81, 82, 83, 84, 85] (by decide +kernel) (by decide +kernel)
set_option maxRecDepth 20000 in
theorem gX5_pass_X5_no : GoodIn wsX5_pass (wsV RX5 55 RX5 yX5_no wsX5_no) := goodIn_app (goodIn_of _ (by decide +kernel)) ggX5_pass_X5_no
set_option maxRecDepth 20000 in
theorem ggX5_pass_X4_pass_ : GoodIn wsX5_pass wsX4_pass_ := goodIn_r _ [15, 16, 17, 18, 14, 19, 20, 21, 22, 23, 24, 25, 26, 27, 28, 29, 30, 31, 32, 33, 34, 35, 36, 37, 38, 39, 40, 41, 42, 43, 44, 45, 46, 47, 48, 49, 50, 51, 52, 53, 54, 55, 56, 57, 58, 59, 60, 61, 62, 63, 64, 65, 66, 67, 68, 69, 70, 71, 72, 73, 74, 75, 86, 87, 88, 89, 90, 91, 92, 93, 94, 95, 96, 97, 98, 99, 76, 77, 78, 79, 80, 81, 82, 83, 84, 85] (by decide +kernel) (by decide +kernel)
set_option maxRecDepth 20000 in
theorem gX5_pass_X4_pass_ : GoodIn wsX5_pass (wsV RX5 135 RX4 yX4_pass_ wsX4_pass_) := goodIn_app (goodIn_of _ (by decide +kernel)) ggX5_pass_X4_pass_
theorem dX5_pass_0 : decode cX5_pass 0 = .ok (.aload_n 0, 1) := by decide +kernel
theorem dX5_pass_1 : decode cX5_pass 1 = .ok (.iconst 0, 1) := by decide +kernel
theorem dX5_pass_2 : decode cX5_pass 2 = .ok (.putfield 37, 3) := by decide +kernel
theorem dX5_pass_5 : decode cX5_pass 5 = .ok (.iload_n 1, 1) := by decide +kernel
theorem dX5_pass_6 : decode cX5_pass 6 = .ok (.iconst 1, 1) := by decide +kernel
theorem dX5_pass_7 : decode cX5_pass 7 = .ok (.bipush 60, 2) := by decide +kernel
theorem dX5_pass_9 : decode cX5_pass 9 = .ok (.invokestatic 41, 3) := by decide +kernel
theorem dX5_pass_12 : decode cX5_pass 12 = .ok (.ifCond .ne 9, 3) := by decide +kernel
theorem dX5_pass_15 : decode cX5_pass 15 = .ok (.aload_n 0, 1) := by decide +kernel
theorem dX5_pass_16 : decode cX5_pass 16 = .ok (.iconst 1, 1) := by decide +kernel
theorem dX5_pass_17 : decode cX5_pass 17 = .ok (.invokevirtual 55, 3) := by decide +kernel
theorem dX5_pass_20 : decode cX5_pass 20 = .ok (.ireturn, 1) := by decide +kernel
theorem dX5_pass_21 : decode cX5_pass 21 = .ok (.aload_n 0, 1) := by decide +kernel
theorem dX5_pass_22 : decode cX5_pass 22 = .ok (.getfield 30, 3) := by decide +kernel
theorem dX5_pass_25 : decode cX5_pass 25 = .ok (.getfield 132, 3) := by decide +kernel
theorem dX5_pass_28 : decode cX5_pass 28 = .ok (.istore_n 2, 1) := by decide +kernel
theorem dX5_pass_29 : decode cX5_pass 29 = .ok (.aload_n 0, 1) := by decide +kernel
theorem dX5_pass_30 : decode cX5_pass 30 = .ok (.getfield 30, 3) := by decide +kernel
theorem dX5_pass_33 : decode cX5_pass 33 = .ok (.iload_n 1, 1) := by decide +kernel
theorem dX5_pass_34 : decode cX5_pass 34 = .ok (.invokevirtual 135, 3) := by decide +kernel
theorem dX5_pass_37 : decode cX5_pass 37 = .ok (.aload_n 0, 1) := by decide +kernel
theorem dX5_pass_38 : decode cX5_pass 38 = .ok (.getfield 30, 3) := by decide +kernel
theorem dX5_pass_41 : decode cX5_pass 41 = .ok (.getfield 132, 3) := by decide +kernel
theorem dX5_pass_44 : decode cX5_pass 44 = .ok (.iload_n 2, 1) := by decide +kernel
theorem dX5_pass_45 : decode cX5_pass 45 = .ok (.isub, 1) := by decide +kernel
theorem dX5_pass_46 : decode cX5_pass 46 = .ok (.ireturn, 1) := by decide +kernel
set_option maxRecDepth 20000 in
theorem ggX5_until_X5_isSkier : GoodIn wsX5_until wsX5_isSkier := goodIn_r _ [8, 9, 10, 11, 7, 12, 86, 87, 88, 89, 90, 91, 92, 93, 94, 95] (by decide +kernel) (by decide +kernel)
set_option maxRecDepth 20000 in
theorem gX5_until_X5_isSkier : GoodIn wsX5_until (wsV RX5 77 RX5 yX5_isSkier wsX5_isSkier) := goodIn_app (goodIn_of _ (by decide +kernel)) ggX5_until_X5_isSkier
set_option maxRecDepth 20000 in
theorem ggX5_until_X5_no : GoodIn wsX5_until wsX5_no := goodIn_r _ [16, 1, 86, 87, 88, 89, 90, 91, 92, 93, 94, 95] (by decide +kernel) (by decide +kernel)
set_option maxRecDepth 20000 in
theorem gX5_until_X5_no : GoodIn wsX5_until (wsV RX5 55 RX5 yX5_no wsX5_no) := goodIn_app (goodIn_of _ (by decide +kernel)) ggX5_until_X5_no
set_option maxRecDepth 20000 in
theorem ggX5_until_X4_become : GoodIn wsX5_until wsX4_become := goodIn_r _ [21, 22, 23, 24, 25, 26, 27, 28, 29, 30, 31, 32, 33, 34, 35, 36, 37, 38, 96, 97, 98, 99, 100, 101, 102, 103, 104, 105, 106, 107, 108, 109] (by decide +kernel) (by decide +kernel)
set_option maxRecDepth 20000 in
theorem gX5_until_X4_become : GoodIn wsX5_until (wsV RX5 139 RX4 yX4_become wsX4_become) := goodIn_app (goodIn_of _ (by decide +kernel)) ggX5_until_X4_become
set_option maxRecDepth 20000 in
theorem ggX5_until_X4_pass : GoodIn wsX5_until wsX4_pass := goodIn_r _ [42, 43, 25, 44, 45, 46, 47, 48, 49, 50, 22, 51, 52, 53, 20, 54, 55, 56, 57, 58, 37, 31, 23, 35, 24, 36, 59, 60, 61, 62, 38, 63, 64, 65, 66, 34, 30, 67, 68, 69, 70, 71, 72, 73, 74, 75, 76, 77, 78, 33, 32, 79, 80, 81, 82, 83, 84, 85, 96, 97, 98, 99, 100, 101, 102, 103, 104, 105, 106, 107, 108, 109, 86, 87, 88, 89, 90, 91, 92, 93, 94, 95] (by decide +kernel) (by decide +kernel)
set_option maxRecDepth 20000 in
theorem gX5_until_X4_pass : GoodIn wsX5_until (wsV RX5 143 RX4 yX4_pass wsX4_pass) := goodIn_app (goodIn_of _ (by decide +kernel)) ggX5_until_X4_pass
theorem dX5_until_0 : decode cX5_until 0 = .ok (.aload_n 0, 1) := by decide +kernel
theorem dX5_until_1 : decode cX5_until 1 = .ok (.iconst 0, 1) := by decide +kernel
theorem dX5_until_2 : decode cX5_until 2 = .ok (.putfield 37, 3) := by decide +kernel
theorem dX5_until_5 : decode cX5_until 5 = .ok (.aload_n 0, 1) := by decide +kernel
theorem dX5_until_6 : decode cX5_until 6 = .ok (.iload_n 1, 1) := by decide +kernel
theorem dX5_until_7 : decode cX5_until 7 = .ok (.invokevirtual 77, 3) := by decide +kernel
theorem dX5_until_10 : decode cX5_until 10 = .ok (.ifCond .ne 9, 3) := by decide +kernel
theorem dX5_until_13 : decode cX5_until 13 = .ok (.aload_n 0, 1) := by decide +kernel
theorem dX5_until_14 : decode cX5_until 14 = .ok (.iconst 1, 1) := by decide +kernel
theorem dX5_until_15 : decode cX5_until 15 = .ok (.invokevirtual 55, 3) := by decide +kernel
theorem dX5_until_18 : decode cX5_until 18 = .ok (.ireturn, 1) := by decide +kernel
theorem dX5_until_19 : decode cX5_until 19 = .ok (.aload_n 0, 1) := by decide +kernel
theorem dX5_until_20 : decode cX5_until 20 = .ok (.getfield 34, 3) := by decide +kernel
theorem dX5_until_23 : decode cX5_until 23 = .ok (.aload_n 0, 1) := by decide +kernel
theorem dX5_until_24 : decode cX5_until 24 = .ok (.getfield 30, 3) := by decide +kernel
theorem dX5_until_27 : decode cX5_until 27 = .ok (.invokevirtual 139, 3) := by decide +kernel
theorem dX5_until_30 : decode cX5_until 30 = .ok (.iconst 1, 1) := by decide +kernel
theorem dX5_until_31 : decode cX5_until 31 = .ok (.istore_n 2, 1) := by decide +kernel
theorem dX5_until_32 : decode cX5_until 32 = .ok (.iload_n 2, 1) := by decide +kernel
theorem dX5_until_33 : decode cX5_until 33 = .ok (.bipush 90, 2) := by decide +kernel
theorem dX5_until_35 : decode cX5_until 35 = .ok (.if_icmp .gt 39, 3) := by decide +kernel
theorem dX5_until_38 : decode cX5_until 38 = .ok (.aload_n 0, 1) := by decide +kernel
theorem dX5_until_39 : decode cX5_until 39 = .ok (.getfield 34, 3) := by decide +kernel
theorem dX5_until_42 : decode cX5_until 42 = .ok (.invokevirtual 143, 3) := by decide +kernel
theorem dX5_until_45 : decode cX5_until 45 = .ok (.aload_n 0, 1) := by decide +kernel
theorem dX5_until_46 : decode cX5_until 46 = .ok (.getfield 34, 3) := by decide +kernel
theorem dX5_until_49 : decode cX5_until 49 = .ok (.getfield 108, 3) := by decide +kernel
theorem dX5_until_52 : decode cX5_until 52 = .ok (.iload_n 1, 1) := by decide +kernel
theorem dX5_until_53 : decode cX5_until 53 = .ok (.iaload, 1) := by decide +kernel
theorem dX5_until_54 : decode cX5_until 54 = .ok (.aload_n 0, 1) := by decide +kernel
theorem dX5_until_55 : decode cX5_until 55 = .ok (.getfield 30, 3) := by decide +kernel
theorem dX5_until_58 : decode cX5_until 58 = .ok (.getfield 108, 3) := by decide +kernel
theorem dX5_until_61 : decode cX5_until 61 = .ok (.iload_n 1, 1) := by decide +kernel
theorem dX5_until_62 : decode cX5_until 62 = .ok (.iaload, 1) := by decide +kernel
theorem dX5_until_63 : decode cX5_until 63 = .ok (.if_icmp .le 5, 3) := by decide +kernel
theorem dX5_until_66 : decode cX5_until 66 = .ok (.iload_n 2, 1) := by decide +kernel
theorem dX5_until_67 : decode cX5_until 67 = .ok (.ireturn, 1) := by decide +kernel
theorem dX5_until_68 : decode cX5_until 68 = .ok (.iinc 2 1, 3) := by decide +kernel
theorem dX5_until_71 : decode cX5_until 71 = .ok (.goto (-39), 3) := by decide +kernel
theorem dX5_until_74 : decode cX5_until 74 = .ok (.iconst (-1), 1) := by decide +kernel
theorem dX5_until_75 : decode cX5_until 75 = .ok (.ireturn, 1) := by decide +kernel
set_option maxRecDepth 20000 in
theorem ggX5_foresee_X5_isIn : GoodIn wsX5_foresee wsX5_isIn := goodIn_r _ [7] (by decide +kernel) (by decide +kernel)
set_option maxRecDepth 20000 in
theorem gX5_foresee_X5_isIn : GoodIn wsX5_foresee (va_wsS RX5 41 yX5_isIn wsX5_isIn) := goodIn_app (goodIn_of _ (by decide +kernel)) ggX5_foresee_X5_isIn
set_option maxRecDepth 20000 in
theorem ggX5_foresee_X5_no : GoodIn wsX5_foresee wsX5_no := goodIn_r _ [11, 1, 101, 102, 103, 104, 105, 106, 107, 108, 109, 110] (by decide +kernel) (by decide +kernel)
set_option maxRecDepth 20000 in
theorem gX5_foresee_X5_no : GoodIn wsX5_foresee (wsV RX5 55 RX5 yX5_no wsX5_no) := goodIn_app (goodIn_of _ (by decide +kernel)) ggX5_foresee_X5_no
set_option maxRecDepth 20000 in
theorem ggX5_foresee_X4_become : GoodIn wsX5_foresee wsX4_become := goodIn_r _ [16, 17, 18, 19, 20, 21, 22, 23, 24, 25, 26, 27, 28, 29, 30, 31, 32, 33, 111, 112, 113, 114, 115, 116, 117, 118, 119, 120, 121, 122, 123, 124] (by decide +kernel) (by decide +kernel)
set_option maxRecDepth 20000 in
theorem gX5_foresee_X4_become : GoodIn wsX5_foresee (wsV RX5 139 RX4 yX4_become wsX4_become) := goodIn_app (goodIn_of _ (by decide +kernel)) ggX5_foresee_X4_become
set_option maxRecDepth 20000 in
theorem ggX5_foresee_X4_pass_ : GoodIn wsX5_foresee wsX4_pass_ := goodIn_r _ [37, 38, 39, 40, 15, 41, 42, 20, 43, 44, 45, 46, 47, 48, 49, 17, 50, 51, 52, 53, 54, 55, 56, 57, 32, 26, 18, 30, 19, 31, 58, 59, 60, 61, 33, 62, 63, 64, 65, 29, 25, 66, 67, 68, 69, 70, 71, 72, 73, 74, 75, 76, 77, 28, 27, 78, 79, 80, 81, 82, 83, 84, 111, 112, 113, 114, 115, 116, 117, 118, 119, 120, 121, 122, 123, 124, 101, 102, 103, 104, 105, 106, 107, 108, 109, 110] (by decide +kernel) (by decide +kernel)
set_option maxRecDepth 20000 in
theorem gX5_foresee_X4_pass_ : GoodIn wsX5_foresee (wsV RX5 135 RX4 yX4_pass_ wsX4_pass_) := goodIn_app (goodIn_of _ (by decide +kernel)) ggX5_foresee_X4_pass_
set_option maxRecDepth 20000 in
theorem ggX5_foresee_X4_counted : GoodIn wsX5_foresee wsX4_counted := goodIn_r _ [88, 17, 18, 42, 19, 50, 51, 52, 15, 53, 89, 90, 91, 92, 70, 71, 72, 73, 20, 93, 94, 95, 96, 32, 97, 98, 99, 100, 29, 111, 112, 113, 114, 115, 116, 117, 118, 119, 120, 121, 122, 123, 124, 101, 102, 103, 104, 105, 106, 107, 108, 109, 110] (by decide +kernel) (by decide +kernel)
set_option maxRecDepth 20000 in
theorem gX5_foresee_X4_counted : GoodIn wsX5_foresee (wsV RX5 129 RX4 yX4_counted wsX4_counted) := goodIn_app (goodIn_of _ (by decide +kernel)) ggX5_foresee_X4_counted
theorem dX5_foresee_0 : decode cX5_foresee 0 = .ok (.aload_n 0, 1) := by decide +kernel
theorem dX5_foresee_1 : decode cX5_foresee 1 = .ok (.iconst 0, 1) := by decide +kernel
theorem dX5_foresee_2 : decode cX5_foresee 2 = .ok (.putfield 37, 3) := by decide +kernel
theorem dX5_foresee_5 : decode cX5_foresee 5 = .ok (.iload_n 1, 1) := by decide +kernel
theorem dX5_foresee_6 : decode cX5_foresee 6 = .ok (.iconst 1, 1) := by decide +kernel
theorem dX5_foresee_7 : decode cX5_foresee 7 = .ok (.bipush 60, 2) := by decide +kernel
theorem dX5_foresee_9 : decode cX5_foresee 9 = .ok (.invokestatic 41, 3) := by decide +kernel
theorem dX5_foresee_12 : decode cX5_foresee 12 = .ok (.ifCond .ne 9, 3) := by decide +kernel
theorem dX5_foresee_15 : decode cX5_foresee 15 = .ok (.aload_n 0, 1) := by decide +kernel
theorem dX5_foresee_16 : decode cX5_foresee 16 = .ok (.iconst 1, 1) := by decide +kernel
theorem dX5_foresee_17 : decode cX5_foresee 17 = .ok (.invokevirtual 55, 3) := by decide +kernel
theorem dX5_foresee_20 : decode cX5_foresee 20 = .ok (.ireturn, 1) := by decide +kernel
theorem dX5_foresee_21 : decode cX5_foresee 21 = .ok (.iload_n 2, 1) := by decide +kernel
theorem dX5_foresee_22 : decode cX5_foresee 22 = .ok (.iconst 0, 1) := by decide +kernel
theorem dX5_foresee_23 : decode cX5_foresee 23 = .ok (.bipush 8, 2) := by decide +kernel
theorem dX5_foresee_25 : decode cX5_foresee 25 = .ok (.invokestatic 41, 3) := by decide +kernel
theorem dX5_foresee_28 : decode cX5_foresee 28 = .ok (.ifCond .ne 9, 3) := by decide +kernel
theorem dX5_foresee_31 : decode cX5_foresee 31 = .ok (.aload_n 0, 1) := by decide +kernel
theorem dX5_foresee_32 : decode cX5_foresee 32 = .ok (.iconst 2, 1) := by decide +kernel
theorem dX5_foresee_33 : decode cX5_foresee 33 = .ok (.invokevirtual 55, 3) := by decide +kernel
theorem dX5_foresee_36 : decode cX5_foresee 36 = .ok (.ireturn, 1) := by decide +kernel
theorem dX5_foresee_37 : decode cX5_foresee 37 = .ok (.aload_n 0, 1) := by decide +kernel
theorem dX5_foresee_38 : decode cX5_foresee 38 = .ok (.getfield 34, 3) := by decide +kernel
theorem dX5_foresee_41 : decode cX5_foresee 41 = .ok (.aload_n 0, 1) := by decide +kernel
theorem dX5_foresee_42 : decode cX5_foresee 42 = .ok (.getfield 30, 3) := by decide +kernel
theorem dX5_foresee_45 : decode cX5_foresee 45 = .ok (.invokevirtual 139, 3) := by decide +kernel
theorem dX5_foresee_48 : decode cX5_foresee 48 = .ok (.aload_n 0, 1) := by decide +kernel
theorem dX5_foresee_49 : decode cX5_foresee 49 = .ok (.getfield 34, 3) := by decide +kernel
theorem dX5_foresee_52 : decode cX5_foresee 52 = .ok (.iload_n 1, 1) := by decide +kernel
theorem dX5_foresee_53 : decode cX5_foresee 53 = .ok (.invokevirtual 135, 3) := by decide +kernel
theorem dX5_foresee_56 : decode cX5_foresee 56 = .ok (.aload_n 0, 1) := by decide +kernel
theorem dX5_foresee_57 : decode cX5_foresee 57 = .ok (.getfield 34, 3) := by decide +kernel
theorem dX5_foresee_60 : decode cX5_foresee 60 = .ok (.iload_n 2, 1) := by decide +kernel
theorem dX5_foresee_61 : decode cX5_foresee 61 = .ok (.invokevirtual 129, 3) := by decide +kernel
theorem dX5_foresee_64 : decode cX5_foresee 64 = .ok (.ireturn, 1) := by decide +kernel
set_option maxRecDepth 20000 in
theorem ggX5_advise_X5_isSkier : GoodIn wsX5_advise wsX5_isSkier := goodIn_r _ [8, 9, 10, 11, 7, 12, 90, 91, 92, 93, 94, 95, 96, 97, 98, 99] (by decide +kernel) (by decide +kernel)
set_option maxRecDepth 20000 in
theorem gX5_advise_X5_isSkier : GoodIn wsX5_advise (wsV RX5 77 RX5 yX5_isSkier wsX5_isSkier) := goodIn_app (goodIn_of _ (by decide +kernel)) ggX5_advise_X5_isSkier
set_option maxRecDepth 20000 in
theorem ggX5_advise_X5_no : GoodIn wsX5_advise wsX5_no := goodIn_r _ [16, 1, 90, 91, 92, 93, 94, 95, 96, 97, 98, 99] (by decide +kernel) (by decide +kernel)
set_option maxRecDepth 20000 in
theorem gX5_advise_X5_no : GoodIn wsX5_advise (wsV RX5 55 RX5 yX5_no wsX5_no) := goodIn_app (goodIn_of _ (by decide +kernel)) ggX5_advise_X5_no
set_option maxRecDepth 20000 in
theorem ggX5_advise_X5_isIn : GoodIn wsX5_advise wsX5_isIn := goodIn_r _ [12] (by decide +kernel) (by decide +kernel)
set_option maxRecDepth 20000 in
theorem gX5_advise_X5_isIn : GoodIn wsX5_advise (va_wsS RX5 41 yX5_isIn wsX5_isIn) := goodIn_app (goodIn_of _ (by decide +kernel)) ggX5_advise_X5_isIn
set_option maxRecDepth 20000 in
theorem ggX5_advise_X4_become : GoodIn wsX5_advise wsX4_become := goodIn_r _ [21, 22, 23, 24, 25, 26, 27, 28, 29, 30, 31, 32, 33, 34, 35, 36, 37, 38, 100, 101, 102, 103, 104, 105, 106, 107, 108, 109, 110, 111, 112, 113] (by decide +kernel) (by decide +kernel)
set_option maxRecDepth 20000 in
theorem gX5_advise_X4_become : GoodIn wsX5_advise (wsV RX5 139 RX4 yX4_become wsX4_become) := goodIn_app (goodIn_of _ (by decide +kernel)) ggX5_advise_X4_become
set_option maxRecDepth 20000 in
theorem ggX5_advise_X4_pass_ : GoodIn wsX5_advise wsX4_pass_ := goodIn_r _ [42, 43, 44, 45, 20, 46, 47, 25, 48, 49, 50, 51, 52, 53, 54, 22, 55, 56, 57, 58, 59, 60, 61, 62, 37, 31, 23, 35, 24, 36, 63, 64, 65, 66, 38, 67, 68, 69, 70, 34, 30, 71, 72, 73, 74, 75, 76, 77, 78, 79, 80, 81, 82, 33, 32, 83, 84, 85, 86, 87, 88, 89, 100, 101, 102, 103, 104, 105, 106, 107, 108, 109, 110, 111, 112, 113, 90, 91, 92, 93, 94, 95, 96, 97, 98, 99] (by decide +kernel) (by decide +kernel)
set_option maxRecDepth 20000 in
theorem gX5_advise_X4_pass_ : GoodIn wsX5_advise (wsV RX5 135 RX4 yX4_pass_ wsX4_pass_) := goodIn_app (goodIn_of _ (by decide +kernel)) ggX5_advise_X4_pass_
theorem dX5_advise_0 : decode cX5_advise 0 = .ok (.aload_n 0, 1) := by decide +kernel
theorem dX5_advise_1 : decode cX5_advise 1 = .ok (.iconst 0, 1) := by decide +kernel
theorem dX5_advise_2 : decode cX5_advise 2 = .ok (.putfield 37, 3) := by decide +kernel
theorem dX5_advise_5 : decode cX5_advise 5 = .ok (.aload_n 0, 1) := by decide +kernel
theorem dX5_advise_6 : decode cX5_advise 6 = .ok (.iload_n 1, 1) := by decide +kernel
theorem dX5_advise_7 : decode cX5_advise 7 = .ok (.invokevirtual 77, 3) := by decide +kernel
theorem dX5_advise_10 : decode cX5_advise 10 = .ok (.ifCond .ne 9, 3) := by decide +kernel
theorem dX5_advise_13 : decode cX5_advise 13 = .ok (.aload_n 0, 1) := by decide +kernel
theorem dX5_advise_14 : decode cX5_advise 14 = .ok (.iconst 1, 1) := by decide +kernel
theorem dX5_advise_15 : decode cX5_advise 15 = .ok (.invokevirtual 55, 3) := by decide +kernel
theorem dX5_advise_18 : decode cX5_advise 18 = .ok (.ireturn, 1) := by decide +kernel
theorem dX5_advise_19 : decode cX5_advise 19 = .ok (.iload_n 2, 1) := by decide +kernel
theorem dX5_advise_20 : decode cX5_advise 20 = .ok (.iconst 1, 1) := by decide +kernel
theorem dX5_advise_21 : decode cX5_advise 21 = .ok (.bipush 12, 2) := by decide +kernel
theorem dX5_advise_23 : decode cX5_advise 23 = .ok (.invokestatic 41, 3) := by decide +kernel
theorem dX5_advise_26 : decode cX5_advise 26 = .ok (.ifCond .ne 9, 3) := by decide +kernel
theorem dX5_advise_29 : decode cX5_advise 29 = .ok (.aload_n 0, 1) := by decide +kernel
theorem dX5_advise_30 : decode cX5_advise 30 = .ok (.iconst 2, 1) := by decide +kernel
theorem dX5_advise_31 : decode cX5_advise 31 = .ok (.invokevirtual 55, 3) := by decide +kernel
theorem dX5_advise_34 : decode cX5_advise 34 = .ok (.ireturn, 1) := by decide +kernel
theorem dX5_advise_35 : decode cX5_advise 35 = .ok (.iconst 0, 1) := by decide +kernel
theorem dX5_advise_36 : decode cX5_advise 36 = .ok (.istore_n 3, 1) := by decide +kernel
theorem dX5_advise_37 : decode cX5_advise 37 = .ok (.iconst (-1), 1) := by decide +kernel
theorem dX5_advise_38 : decode cX5_advise 38 = .ok (.istore 4, 2) := by decide +kernel
theorem dX5_advise_40 : decode cX5_advise 40 = .ok (.iconst 0, 1) := by decide +kernel
theorem dX5_advise_41 : decode cX5_advise 41 = .ok (.istore 5, 2) := by decide +kernel
theorem dX5_advise_43 : decode cX5_advise 43 = .ok (.iload 5, 2) := by decide +kernel
theorem dX5_advise_45 : decode cX5_advise 45 = .ok (.iconst 4, 1) := by decide +kernel
theorem dX5_advise_46 : decode cX5_advise 46 = .ok (.if_icmp .ge 81, 3) := by decide +kernel
theorem dX5_advise_49 : decode cX5_advise 49 = .ok (.aload_n 0, 1) := by decide +kernel
theorem dX5_advise_50 : decode cX5_advise 50 = .ok (.getfield 34, 3) := by decide +kernel
theorem dX5_advise_53 : decode cX5_advise 53 = .ok (.aload_n 0, 1) := by decide +kernel
theorem dX5_advise_54 : decode cX5_advise 54 = .ok (.getfield 30, 3) := by decide +kernel
theorem dX5_advise_57 : decode cX5_advise 57 = .ok (.invokevirtual 139, 3) := by decide +kernel
theorem dX5_advise_60 : decode cX5_advise 60 = .ok (.aload_n 0, 1) := by decide +kernel
theorem dX5_advise_61 : decode cX5_advise 61 = .ok (.getfield 34, 3) := by decide +kernel
theorem dX5_advise_64 : decode cX5_advise 64 = .ok (.getfield 80, 3) := by decide +kernel
theorem dX5_advise_67 : decode cX5_advise 67 = .ok (.iload_n 1, 1) := by decide +kernel
theorem dX5_advise_68 : decode cX5_advise 68 = .ok (.iload 5, 2) := by decide +kernel
theorem dX5_advise_70 : decode cX5_advise 70 = .ok (.iastore, 1) := by decide +kernel
theorem dX5_advise_71 : decode cX5_advise 71 = .ok (.aload_n 0, 1) := by decide +kernel
theorem dX5_advise_72 : decode cX5_advise 72 = .ok (.getfield 34, 3) := by decide +kernel
theorem dX5_advise_75 : decode cX5_advise 75 = .ok (.getfield 83, 3) := by decide +kernel
theorem dX5_advise_78 : decode cX5_advise 78 = .ok (.iload_n 1, 1) := by decide +kernel
theorem dX5_advise_79 : decode cX5_advise 79 = .ok (.bipush 10, 2) := by decide +kernel
theorem dX5_advise_81 : decode cX5_advise 81 = .ok (.iastore, 1) := by decide +kernel
theorem dX5_advise_82 : decode cX5_advise 82 = .ok (.aload_n 0, 1) := by decide +kernel
theorem dX5_advise_83 : decode cX5_advise 83 = .ok (.getfield 34, 3) := by decide +kernel
theorem dX5_advise_86 : decode cX5_advise 86 = .ok (.iload_n 2, 1) := by decide +kernel
theorem dX5_advise_87 : decode cX5_advise 87 = .ok (.invokevirtual 135, 3) := by decide +kernel
theorem dX5_advise_90 : decode cX5_advise 90 = .ok (.aload_n 0, 1) := by decide +kernel
theorem dX5_advise_91 : decode cX5_advise 91 = .ok (.getfield 34, 3) := by decide +kernel
theorem dX5_advise_94 : decode cX5_advise 94 = .ok (.getfield 105, 3) := by decide +kernel
theorem dX5_advise_97 : decode cX5_advise 97 = .ok (.iload_n 1, 1) := by decide +kernel
theorem dX5_advise_98 : decode cX5_advise 98 = .ok (.iaload, 1) := by decide +kernel
theorem dX5_advise_99 : decode cX5_advise 99 = .ok (.iload 4, 2) := by decide +kernel
theorem dX5_advise_101 : decode cX5_advise 101 = .ok (.if_icmp .gt 6, 3) := by decide +kernel
theorem dX5_advise_104 : decode cX5_advise 104 = .ok (.goto 17, 3) := by decide +kernel
theorem dX5_advise_107 : decode cX5_advise 107 = .ok (.iload 5, 2) := by decide +kernel
theorem dX5_advise_109 : decode cX5_advise 109 = .ok (.istore_n 3, 1) := by decide +kernel
theorem dX5_advise_110 : decode cX5_advise 110 = .ok (.aload_n 0, 1) := by decide +kernel
theorem dX5_advise_111 : decode cX5_advise 111 = .ok (.getfield 34, 3) := by decide +kernel
theorem dX5_advise_114 : decode cX5_advise 114 = .ok (.getfield 105, 3) := by decide +kernel
theorem dX5_advise_117 : decode cX5_advise 117 = .ok (.iload_n 1, 1) := by decide +kernel
theorem dX5_advise_118 : decode cX5_advise 118 = .ok (.iaload, 1) := by decide +kernel
theorem dX5_advise_119 : decode cX5_advise 119 = .ok (.istore 4, 2) := by decide +kernel
theorem dX5_advise_121 : decode cX5_advise 121 = .ok (.iinc 5 1, 3) := by decide +kernel
theorem dX5_advise_124 : decode cX5_advise 124 = .ok (.goto (-81), 3) := by decide +kernel
theorem dX5_advise_127 : decode cX5_advise 127 = .ok (.iload_n 3, 1) := by decide +kernel
theorem dX5_advise_128 : decode cX5_advise 128 = .ok (.ireturn, 1) := by decide +kernel
set_option maxRecDepth 20000 in
theorem ggX5_mean_X4_allPoints : GoodIn wsX5_mean wsX4_allPoints := goodIn_r _ [8, 9, 10, 21, 22, 23, 24, 25, 26, 27, 28, 29, 30, 31, 32, 33, 34, 11, 12, 13, 14, 15, 16, 17, 18, 19, 20] (by decide +kernel) (by decide +kernel)
set_option maxRecDepth 20000 in
theorem gX5_mean_X4_allPoints : GoodIn wsX5_mean (wsV RX5 145 RX4 yX4_allPoints wsX4_allPoints) := goodIn_app (goodIn_of _ (by decide +kernel)) ggX5_mean_X4_allPoints
theorem dX5_mean_0 : decode cX5_mean 0 = .ok (.aload_n 0, 1) := by decide +kernel
theorem dX5_mean_1 : decode cX5_mean 1 = .ok (.iconst 0, 1) := by decide +kernel
theorem dX5_mean_2 : decode cX5_mean 2 = .ok (.putfield 37, 3) := by decide +kernel
theorem dX5_mean_5 : decode cX5_mean 5 = .ok (.aload_n 0, 1) := by decide +kernel
theorem dX5_mean_6 : decode cX5_mean 6 = .ok (.getfield 48, 3) := by decide +kernel
theorem dX5_mean_9 : decode cX5_mean 9 = .ok (.ifCond .ne 7, 3) := by decide +kernel
theorem dX5_mean_12 : decode cX5_mean 12 = .ok (.dconst 0, 1) := by decide +kernel
theorem dX5_mean_13 : decode cX5_mean 13 = .ok (.goto 17, 3) := by decide +kernel
theorem dX5_mean_16 : decode cX5_mean 16 = .ok (.aload_n 0, 1) := by decide +kernel
theorem dX5_mean_17 : decode cX5_mean 17 = .ok (.getfield 30, 3) := by decide +kernel
theorem dX5_mean_20 : decode cX5_mean 20 = .ok (.invokevirtual 145, 3) := by decide +kernel
theorem dX5_mean_23 : decode cX5_mean 23 = .ok (.i2d, 1) := by decide +kernel
theorem dX5_mean_24 : decode cX5_mean 24 = .ok (.aload_n 0, 1) := by decide +kernel
theorem dX5_mean_25 : decode cX5_mean 25 = .ok (.getfield 48, 3) := by decide +kernel
theorem dX5_mean_28 : decode cX5_mean 28 = .ok (.i2d, 1) := by decide +kernel
theorem dX5_mean_29 : decode cX5_mean 29 = .ok (.ddiv, 1) := by decide +kernel
theorem dX5_mean_30 : decode cX5_mean 30 = .ok (.dreturn, 1) := by decide +kernel
set_option maxRecDepth 20000 in
theorem ggX5_digest_X4_counted : GoodIn wsX5_digest wsX4_counted := goodIn_r _ [12, 13, 14, 15, 16, 17, 18, 19, 11, 20, 21, 22, 23, 24, 25, 26, 27, 28, 29, 30, 31, 32, 33, 34, 35, 36, 37, 38, 39, 73, 74, 75, 76, 77, 78, 79, 80, 81, 82, 83, 84, 85, 86, 63, 64, 65, 66, 67, 68, 69, 70, 71, 72] (by decide +kernel) (by decide +kernel)
set_option maxRecDepth 20000 in
theorem gX5_digest_X4_counted : GoodIn wsX5_digest (wsV RX5 129 RX4 yX4_counted wsX4_counted) := goodIn_app (goodIn_of _ (by decide +kernel)) ggX5_digest_X4_counted
set_option maxRecDepth 20000 in
theorem ggX5_digest_X5_runTold : GoodIn wsX5_digest wsX5_runTold := goodIn_r _ [44, 45, 46, 4, 47, 26, 27, 11, 28, 29, 15, 63, 64, 65, 66, 67, 68, 69, 70, 71, 72, 73, 74, 75, 76, 77, 78, 79, 80, 81, 82, 83, 84, 85, 86] (by decide +kernel) (by decide +kernel)
set_option maxRecDepth 20000 in
theorem gX5_digest_X5_runTold : GoodIn wsX5_digest (wsV RX5 102 RX5 yX5_runTold wsX5_runTold) := goodIn_app (goodIn_of _ (by decide +kernel)) ggX5_digest_X5_runTold
set_option maxRecDepth 20000 in
theorem ggX5_digest_X5_skierTold : GoodIn wsX5_digest wsX5_skierTold := goodIn_r _ [51, 52, 4, 53, 54, 55, 11, 56, 34, 57, 63, 64, 65, 66, 67, 68, 69, 70, 71, 72, 73, 74, 75, 76, 77, 78, 79, 80, 81, 82, 83, 84, 85, 86] (by decide +kernel) (by decide +kernel)
set_option maxRecDepth 20000 in
theorem gX5_digest_X5_skierTold : GoodIn wsX5_digest (wsV RX5 114 RX5 yX5_skierTold wsX5_skierTold) := goodIn_app (goodIn_of _ (by decide +kernel)) ggX5_digest_X5_skierTold
set_option maxRecDepth 20000 in
theorem ggX5_digest_X5_towTold : GoodIn wsX5_digest wsX5_towTold := goodIn_r _ [61, 62, 4, 63, 64, 65, 66, 67, 68, 69, 70, 71, 72, 73, 74, 75, 76, 77, 78, 79, 80, 81, 82, 83, 84, 85, 86] (by decide +kernel) (by decide +kernel)
set_option maxRecDepth 20000 in
theorem gX5_digest_X5_towTold : GoodIn wsX5_digest (wsV RX5 120 RX5 yX5_towTold wsX5_towTold) := goodIn_app (goodIn_of _ (by decide +kernel)) ggX5_digest_X5_towTold
theorem dX5_digest_0 : decode cX5_digest 0 = .ok (.aload_n 0, 1) := by decide +kernel
theorem dX5_digest_1 : decode cX5_digest 1 = .ok (.iconst 0, 1) := by decide +kernel
theorem dX5_digest_2 : decode cX5_digest 2 = .ok (.putfield 37, 3) := by decide +kernel
theorem dX5_digest_5 : decode cX5_digest 5 = .ok (.ldc2_w 149, 3) := by decide +kernel
theorem dX5_digest_8 : decode cX5_digest 8 = .ok (.lstore_n 1, 1) := by decide +kernel
theorem dX5_digest_9 : decode cX5_digest 9 = .ok (.iconst 0, 1) := by decide +kernel
theorem dX5_digest_10 : decode cX5_digest 10 = .ok (.istore_n 3, 1) := by decide +kernel
theorem dX5_digest_11 : decode cX5_digest 11 = .ok (.iload_n 3, 1) := by decide +kernel
theorem dX5_digest_12 : decode cX5_digest 12 = .ok (.bipush 9, 2) := by decide +kernel
theorem dX5_digest_14 : decode cX5_digest 14 = .ok (.if_icmp .ge 25, 3) := by decide +kernel
theorem dX5_digest_17 : decode cX5_digest 17 = .ok (.lload_n 1, 1) := by decide +kernel
theorem dX5_digest_18 : decode cX5_digest 18 = .ok (.ldc2_w 151, 3) := by decide +kernel
theorem dX5_digest_21 : decode cX5_digest 21 = .ok (.lmul, 1) := by decide +kernel
theorem dX5_digest_22 : decode cX5_digest 22 = .ok (.aload_n 0, 1) := by decide +kernel
theorem dX5_digest_23 : decode cX5_digest 23 = .ok (.getfield 30, 3) := by decide +kernel
theorem dX5_digest_26 : decode cX5_digest 26 = .ok (.iload_n 3, 1) := by decide +kernel
theorem dX5_digest_27 : decode cX5_digest 27 = .ok (.invokevirtual 129, 3) := by decide +kernel
theorem dX5_digest_30 : decode cX5_digest 30 = .ok (.i2l, 1) := by decide +kernel
theorem dX5_digest_31 : decode cX5_digest 31 = .ok (.ladd, 1) := by decide +kernel
theorem dX5_digest_32 : decode cX5_digest 32 = .ok (.lstore_n 1, 1) := by decide +kernel
theorem dX5_digest_33 : decode cX5_digest 33 = .ok (.iinc 3 1, 3) := by decide +kernel
theorem dX5_digest_36 : decode cX5_digest 36 = .ok (.goto (-25), 3) := by decide +kernel
theorem dX5_digest_39 : decode cX5_digest 39 = .ok (.aload_n 0, 1) := by decide +kernel
theorem dX5_digest_40 : decode cX5_digest 40 = .ok (.getfield 7, 3) := by decide +kernel
theorem dX5_digest_43 : decode cX5_digest 43 = .ok (.astore_n 3, 1) := by decide +kernel
theorem dX5_digest_44 : decode cX5_digest 44 = .ok (.aload_n 3, 1) := by decide +kernel
theorem dX5_digest_45 : decode cX5_digest 45 = .ok (.arraylength, 1) := by decide +kernel
theorem dX5_digest_46 : decode cX5_digest 46 = .ok (.istore 4, 2) := by decide +kernel
theorem dX5_digest_48 : decode cX5_digest 48 = .ok (.iconst 0, 1) := by decide +kernel
theorem dX5_digest_49 : decode cX5_digest 49 = .ok (.istore 5, 2) := by decide +kernel
theorem dX5_digest_51 : decode cX5_digest 51 = .ok (.iload 5, 2) := by decide +kernel
theorem dX5_digest_53 : decode cX5_digest 53 = .ok (.iload 4, 2) := by decide +kernel
theorem dX5_digest_55 : decode cX5_digest 55 = .ok (.if_icmp .ge 25, 3) := by decide +kernel
theorem dX5_digest_58 : decode cX5_digest 58 = .ok (.aload_n 3, 1) := by decide +kernel
theorem dX5_digest_59 : decode cX5_digest 59 = .ok (.iload 5, 2) := by decide +kernel
theorem dX5_digest_61 : decode cX5_digest 61 = .ok (.iaload, 1) := by decide +kernel
theorem dX5_digest_62 : decode cX5_digest 62 = .ok (.istore 6, 2) := by decide +kernel
theorem dX5_digest_64 : decode cX5_digest 64 = .ok (.lload_n 1, 1) := by decide +kernel
theorem dX5_digest_65 : decode cX5_digest 65 = .ok (.ldc2_w 151, 3) := by decide +kernel
theorem dX5_digest_68 : decode cX5_digest 68 = .ok (.lmul, 1) := by decide +kernel
theorem dX5_digest_69 : decode cX5_digest 69 = .ok (.iload 6, 2) := by decide +kernel
theorem dX5_digest_71 : decode cX5_digest 71 = .ok (.i2l, 1) := by decide +kernel
theorem dX5_digest_72 : decode cX5_digest 72 = .ok (.ladd, 1) := by decide +kernel
theorem dX5_digest_73 : decode cX5_digest 73 = .ok (.lstore_n 1, 1) := by decide +kernel
theorem dX5_digest_74 : decode cX5_digest 74 = .ok (.iinc 5 1, 3) := by decide +kernel
theorem dX5_digest_77 : decode cX5_digest 77 = .ok (.goto (-26), 3) := by decide +kernel
theorem dX5_digest_80 : decode cX5_digest 80 = .ok (.iconst 0, 1) := by decide +kernel
theorem dX5_digest_81 : decode cX5_digest 81 = .ok (.istore_n 3, 1) := by decide +kernel
theorem dX5_digest_82 : decode cX5_digest 82 = .ok (.iload_n 3, 1) := by decide +kernel
theorem dX5_digest_83 : decode cX5_digest 83 = .ok (.iconst 5, 1) := by decide +kernel
theorem dX5_digest_84 : decode cX5_digest 84 = .ok (.aload_n 0, 1) := by decide +kernel
theorem dX5_digest_85 : decode cX5_digest 85 = .ok (.getfield 45, 3) := by decide +kernel
theorem dX5_digest_88 : decode cX5_digest 88 = .ok (.imul, 1) := by decide +kernel
theorem dX5_digest_89 : decode cX5_digest 89 = .ok (.if_icmp .ge 27, 3) := by decide +kernel
theorem dX5_digest_92 : decode cX5_digest 92 = .ok (.lload_n 1, 1) := by decide +kernel
theorem dX5_digest_93 : decode cX5_digest 93 = .ok (.ldc2_w 151, 3) := by decide +kernel
theorem dX5_digest_96 : decode cX5_digest 96 = .ok (.lmul, 1) := by decide +kernel
theorem dX5_digest_97 : decode cX5_digest 97 = .ok (.aload_n 0, 1) := by decide +kernel
theorem dX5_digest_98 : decode cX5_digest 98 = .ok (.iload_n 3, 1) := by decide +kernel
theorem dX5_digest_99 : decode cX5_digest 99 = .ok (.iconst 5, 1) := by decide +kernel
theorem dX5_digest_100 : decode cX5_digest 100 = .ok (.idiv, 1) := by decide +kernel
theorem dX5_digest_101 : decode cX5_digest 101 = .ok (.iload_n 3, 1) := by decide +kernel
theorem dX5_digest_102 : decode cX5_digest 102 = .ok (.iconst 5, 1) := by decide +kernel
theorem dX5_digest_103 : decode cX5_digest 103 = .ok (.irem, 1) := by decide +kernel
theorem dX5_digest_104 : decode cX5_digest 104 = .ok (.invokevirtual 102, 3) := by decide +kernel
theorem dX5_digest_107 : decode cX5_digest 107 = .ok (.i2l, 1) := by decide +kernel
theorem dX5_digest_108 : decode cX5_digest 108 = .ok (.ladd, 1) := by decide +kernel
theorem dX5_digest_109 : decode cX5_digest 109 = .ok (.lstore_n 1, 1) := by decide +kernel
theorem dX5_digest_110 : decode cX5_digest 110 = .ok (.iinc 3 1, 3) := by decide +kernel
theorem dX5_digest_113 : decode cX5_digest 113 = .ok (.goto (-31), 3) := by decide +kernel
theorem dX5_digest_116 : decode cX5_digest 116 = .ok (.iconst 0, 1) := by decide +kernel
theorem dX5_digest_117 : decode cX5_digest 117 = .ok (.istore_n 3, 1) := by decide +kernel
theorem dX5_digest_118 : decode cX5_digest 118 = .ok (.iload_n 3, 1) := by decide +kernel
theorem dX5_digest_119 : decode cX5_digest 119 = .ok (.bipush 7, 2) := by decide +kernel
theorem dX5_digest_121 : decode cX5_digest 121 = .ok (.aload_n 0, 1) := by decide +kernel
theorem dX5_digest_122 : decode cX5_digest 122 = .ok (.getfield 48, 3) := by decide +kernel
theorem dX5_digest_125 : decode cX5_digest 125 = .ok (.imul, 1) := by decide +kernel
theorem dX5_digest_126 : decode cX5_digest 126 = .ok (.if_icmp .ge 29, 3) := by decide +kernel
theorem dX5_digest_129 : decode cX5_digest 129 = .ok (.lload_n 1, 1) := by decide +kernel
theorem dX5_digest_130 : decode cX5_digest 130 = .ok (.ldc2_w 151, 3) := by decide +kernel
theorem dX5_digest_133 : decode cX5_digest 133 = .ok (.lmul, 1) := by decide +kernel
theorem dX5_digest_134 : decode cX5_digest 134 = .ok (.aload_n 0, 1) := by decide +kernel
theorem dX5_digest_135 : decode cX5_digest 135 = .ok (.iload_n 3, 1) := by decide +kernel
theorem dX5_digest_136 : decode cX5_digest 136 = .ok (.bipush 7, 2) := by decide +kernel
theorem dX5_digest_138 : decode cX5_digest 138 = .ok (.idiv, 1) := by decide +kernel
theorem dX5_digest_139 : decode cX5_digest 139 = .ok (.iload_n 3, 1) := by decide +kernel
theorem dX5_digest_140 : decode cX5_digest 140 = .ok (.bipush 7, 2) := by decide +kernel
theorem dX5_digest_142 : decode cX5_digest 142 = .ok (.irem, 1) := by decide +kernel
theorem dX5_digest_143 : decode cX5_digest 143 = .ok (.invokevirtual 114, 3) := by decide +kernel
theorem dX5_digest_146 : decode cX5_digest 146 = .ok (.i2l, 1) := by decide +kernel
theorem dX5_digest_147 : decode cX5_digest 147 = .ok (.ladd, 1) := by decide +kernel
theorem dX5_digest_148 : decode cX5_digest 148 = .ok (.lstore_n 1, 1) := by decide +kernel
theorem dX5_digest_149 : decode cX5_digest 149 = .ok (.iinc 3 1, 3) := by decide +kernel
theorem dX5_digest_152 : decode cX5_digest 152 = .ok (.goto (-34), 3) := by decide +kernel
theorem dX5_digest_155 : decode cX5_digest 155 = .ok (.iconst 0, 1) := by decide +kernel
theorem dX5_digest_156 : decode cX5_digest 156 = .ok (.istore_n 3, 1) := by decide +kernel
theorem dX5_digest_157 : decode cX5_digest 157 = .ok (.iload_n 3, 1) := by decide +kernel
theorem dX5_digest_158 : decode cX5_digest 158 = .ok (.iconst 3, 1) := by decide +kernel
theorem dX5_digest_159 : decode cX5_digest 159 = .ok (.if_icmp .ge 85, 3) := by decide +kernel
theorem dX5_digest_162 : decode cX5_digest 162 = .ok (.iconst 0, 1) := by decide +kernel
theorem dX5_digest_163 : decode cX5_digest 163 = .ok (.istore 4, 2) := by decide +kernel
theorem dX5_digest_165 : decode cX5_digest 165 = .ok (.iload 4, 2) := by decide +kernel
theorem dX5_digest_167 : decode cX5_digest 167 = .ok (.iconst 3, 1) := by decide +kernel
theorem dX5_digest_168 : decode cX5_digest 168 = .ok (.if_icmp .ge 24, 3) := by decide +kernel
theorem dX5_digest_171 : decode cX5_digest 171 = .ok (.lload_n 1, 1) := by decide +kernel
theorem dX5_digest_172 : decode cX5_digest 172 = .ok (.ldc2_w 151, 3) := by decide +kernel
theorem dX5_digest_175 : decode cX5_digest 175 = .ok (.lmul, 1) := by decide +kernel
theorem dX5_digest_176 : decode cX5_digest 176 = .ok (.aload_n 0, 1) := by decide +kernel
theorem dX5_digest_177 : decode cX5_digest 177 = .ok (.iload_n 3, 1) := by decide +kernel
theorem dX5_digest_178 : decode cX5_digest 178 = .ok (.iload 4, 2) := by decide +kernel
theorem dX5_digest_180 : decode cX5_digest 180 = .ok (.invokevirtual 120, 3) := by decide +kernel
theorem dX5_digest_183 : decode cX5_digest 183 = .ok (.i2l, 1) := by decide +kernel
theorem dX5_digest_184 : decode cX5_digest 184 = .ok (.ladd, 1) := by decide +kernel
theorem dX5_digest_185 : decode cX5_digest 185 = .ok (.lstore_n 1, 1) := by decide +kernel
theorem dX5_digest_186 : decode cX5_digest 186 = .ok (.iinc 4 1, 3) := by decide +kernel
theorem dX5_digest_189 : decode cX5_digest 189 = .ok (.goto (-24), 3) := by decide +kernel
theorem dX5_digest_192 : decode cX5_digest 192 = .ok (.iconst 0, 1) := by decide +kernel
theorem dX5_digest_193 : decode cX5_digest 193 = .ok (.istore 4, 2) := by decide +kernel
theorem dX5_digest_195 : decode cX5_digest 195 = .ok (.iload 4, 2) := by decide +kernel
theorem dX5_digest_197 : decode cX5_digest 197 = .ok (.aload_n 0, 1) := by decide +kernel
theorem dX5_digest_198 : decode cX5_digest 198 = .ok (.getfield 30, 3) := by decide +kernel
theorem dX5_digest_201 : decode cX5_digest 201 = .ok (.getfield 93, 3) := by decide +kernel
theorem dX5_digest_204 : decode cX5_digest 204 = .ok (.iload_n 3, 1) := by decide +kernel
theorem dX5_digest_205 : decode cX5_digest 205 = .ok (.iaload, 1) := by decide +kernel
theorem dX5_digest_206 : decode cX5_digest 206 = .ok (.if_icmp .ge 32, 3) := by decide +kernel
theorem dX5_digest_209 : decode cX5_digest 209 = .ok (.lload_n 1, 1) := by decide +kernel
theorem dX5_digest_210 : decode cX5_digest 210 = .ok (.ldc2_w 151, 3) := by decide +kernel
theorem dX5_digest_213 : decode cX5_digest 213 = .ok (.lmul, 1) := by decide +kernel
theorem dX5_digest_214 : decode cX5_digest 214 = .ok (.aload_n 0, 1) := by decide +kernel
theorem dX5_digest_215 : decode cX5_digest 215 = .ok (.getfield 30, 3) := by decide +kernel
theorem dX5_digest_218 : decode cX5_digest 218 = .ok (.getfield 123, 3) := by decide +kernel
theorem dX5_digest_221 : decode cX5_digest 221 = .ok (.bipush 8, 2) := by decide +kernel
theorem dX5_digest_223 : decode cX5_digest 223 = .ok (.iload_n 3, 1) := by decide +kernel
theorem dX5_digest_224 : decode cX5_digest 224 = .ok (.imul, 1) := by decide +kernel
theorem dX5_digest_225 : decode cX5_digest 225 = .ok (.iload 4, 2) := by decide +kernel
theorem dX5_digest_227 : decode cX5_digest 227 = .ok (.iadd, 1) := by decide +kernel
theorem dX5_digest_228 : decode cX5_digest 228 = .ok (.iaload, 1) := by decide +kernel
theorem dX5_digest_229 : decode cX5_digest 229 = .ok (.i2l, 1) := by decide +kernel
theorem dX5_digest_230 : decode cX5_digest 230 = .ok (.ladd, 1) := by decide +kernel
theorem dX5_digest_231 : decode cX5_digest 231 = .ok (.lstore_n 1, 1) := by decide +kernel
theorem dX5_digest_232 : decode cX5_digest 232 = .ok (.iinc 4 1, 3) := by decide +kernel
theorem dX5_digest_235 : decode cX5_digest 235 = .ok (.goto (-40), 3) := by decide +kernel
theorem dX5_digest_238 : decode cX5_digest 238 = .ok (.iinc 3 1, 3) := by decide +kernel
theorem dX5_digest_241 : decode cX5_digest 241 = .ok (.goto (-84), 3) := by decide +kernel
theorem dX5_digest_244 : decode cX5_digest 244 = .ok (.lload_n 1, 1) := by decide +kernel
theorem dX5_digest_245 : decode cX5_digest 245 = .ok (.lreturn, 1) := by decide +kernel
theorem dJ9_floorMod_7cf53_0 : decode cJ9_floorMod_7cf53 0 = .ok (.iload_n 0, 1) := by decide +kernel
theorem dJ9_floorMod_7cf53_1 : decode cJ9_floorMod_7cf53 1 = .ok (.iload_n 1, 1) := by decide +kernel
theorem dJ9_floorMod_7cf53_2 : decode cJ9_floorMod_7cf53 2 = .ok (.irem, 1) := by decide +kernel
theorem dJ9_floorMod_7cf53_3 : decode cJ9_floorMod_7cf53 3 = .ok (.istore_n 2, 1) := by decide +kernel
theorem dJ9_floorMod_7cf53_4 : decode cJ9_floorMod_7cf53 4 = .ok (.iload_n 0, 1) := by decide +kernel
theorem dJ9_floorMod_7cf53_5 : decode cJ9_floorMod_7cf53 5 = .ok (.iload_n 1, 1) := by decide +kernel
theorem dJ9_floorMod_7cf53_6 : decode cJ9_floorMod_7cf53 6 = .ok (.ixor, 1) := by decide +kernel
theorem dJ9_floorMod_7cf53_7 : decode cJ9_floorMod_7cf53 7 = .ok (.ifCond .ge 11, 3) := by decide +kernel
theorem dJ9_floorMod_7cf53_10 : decode cJ9_floorMod_7cf53 10 = .ok (.iload_n 2, 1) := by decide +kernel
theorem dJ9_floorMod_7cf53_11 : decode cJ9_floorMod_7cf53 11 = .ok (.ifCond .eq 7, 3) := by decide +kernel
theorem dJ9_floorMod_7cf53_14 : decode cJ9_floorMod_7cf53 14 = .ok (.iload_n 2, 1) := by decide +kernel
theorem dJ9_floorMod_7cf53_15 : decode cJ9_floorMod_7cf53 15 = .ok (.iload_n 1, 1) := by decide +kernel
theorem dJ9_floorMod_7cf53_16 : decode cJ9_floorMod_7cf53 16 = .ok (.iadd, 1) := by decide +kernel
theorem dJ9_floorMod_7cf53_17 : decode cJ9_floorMod_7cf53 17 = .ok (.ireturn, 1) := by decide +kernel
theorem dJ9_floorMod_7cf53_18 : decode cJ9_floorMod_7cf53 18 = .ok (.iload_n 2, 1) := by decide +kernel
theorem dJ9_floorMod_7cf53_19 : decode cJ9_floorMod_7cf53 19 = .ok (.ireturn, 1) := by decide +kernel
theorem dJ9_abs_0f7a4_0 : decode cJ9_abs_0f7a4 0 = .ok (.iload_n 0, 1) := by decide +kernel
theorem dJ9_abs_0f7a4_1 : decode cJ9_abs_0f7a4 1 = .ok (.ifCond .ge 8, 3) := by decide +kernel
theorem dJ9_abs_0f7a4_4 : decode cJ9_abs_0f7a4 4 = .ok (.iload_n 0, 1) := by decide +kernel
theorem dJ9_abs_0f7a4_5 : decode cJ9_abs_0f7a4 5 = .ok (.ineg, 1) := by decide +kernel
theorem dJ9_abs_0f7a4_6 : decode cJ9_abs_0f7a4 6 = .ok (.goto 4, 3) := by decide +kernel
theorem dJ9_abs_0f7a4_9 : decode cJ9_abs_0f7a4 9 = .ok (.iload_n 0, 1) := by decide +kernel
theorem dJ9_abs_0f7a4_10 : decode cJ9_abs_0f7a4 10 = .ok (.ireturn, 1) := by decide +kernel
theorem dJ9_max_7cf53_0 : decode cJ9_max_7cf53 0 = .ok (.iload_n 0, 1) := by decide +kernel
theorem dJ9_max_7cf53_1 : decode cJ9_max_7cf53 1 = .ok (.iload_n 1, 1) := by decide +kernel
theorem dJ9_max_7cf53_2 : decode cJ9_max_7cf53 2 = .ok (.if_icmp .lt 7, 3) := by decide +kernel
theorem dJ9_max_7cf53_5 : decode cJ9_max_7cf53 5 = .ok (.iload_n 0, 1) := by decide +kernel
theorem dJ9_max_7cf53_6 : decode cJ9_max_7cf53 6 = .ok (.goto 4, 3) := by decide +kernel
theorem dJ9_max_7cf53_9 : decode cJ9_max_7cf53 9 = .ok (.iload_n 1, 1) := by decide +kernel
theorem dJ9_max_7cf53_10 : decode cJ9_max_7cf53 10 = .ok (.ireturn, 1) := by decide +kernel
theorem dJ9_min_7cf53_0 : decode cJ9_min_7cf53 0 = .ok (.iload_n 0, 1) := by decide +kernel
theorem dJ9_min_7cf53_1 : decode cJ9_min_7cf53 1 = .ok (.iload_n 1, 1) := by decide +kernel
theorem dJ9_min_7cf53_2 : decode cJ9_min_7cf53 2 = .ok (.if_icmp .gt 7, 3) := by decide +kernel
theorem dJ9_min_7cf53_5 : decode cJ9_min_7cf53 5 = .ok (.iload_n 0, 1) := by decide +kernel
theorem dJ9_min_7cf53_6 : decode cJ9_min_7cf53 6 = .ok (.goto 4, 3) := by decide +kernel
theorem dJ9_min_7cf53_9 : decode cJ9_min_7cf53 9 = .ok (.iload_n 1, 1) := by decide +kernel
theorem dJ9_min_7cf53_10 : decode cJ9_min_7cf53 10 = .ok (.ireturn, 1) := by decide +kernel
set_option maxRecDepth 20000 in
theorem ggL_run_X3_run : GoodIn wsL_run wsX3_run := goodIn_ca (goodIn_ca (goodIn_ca (goodIn_r _ [8, 9, 10, 11, 12, 13, 14, 15, 16, 17, 18, 7, 19, 20, 21, 22, 23, 24, 25, 26, 27, 28, 29, 30, 31, 32, 33, 34, 35, 36, 37, 38, 39, 40, 41, 42, 43, 44, 45, 46] (by decide +kernel) (by decide +kernel)) (goodIn_sub (fun _ h => List.mem_cons_of_mem _ (List.mem_append_left _ (List.mem_append_left _ (List.mem_append_right _ h)))) (by decide +kernel))) (goodIn_sub (fun _ h => List.mem_cons_of_mem _ (List.mem_append_left _ (List.mem_append_right _ h))) (by decide +kernel))) (goodIn_sub (fun _ h => List.mem_cons_of_mem _ (List.mem_append_right _ h)) (by decide +kernel))
set_option maxRecDepth 20000 in
theorem gL_run_X3_run : GoodIn wsL_run (wsV RL 7 RX3 yX3_run wsX3_run) := goodIn_app (goodIn_of _ (by decide +kernel)) ggL_run_X3_run
theorem dL_run_0 : decode cL_run 0 = .ok (.aload_n 3, 1) := by decide +kernel
theorem dL_run_1 : decode cL_run 1 = .ok (.iconst 0, 1) := by decide +kernel
theorem dL_run_2 : decode cL_run 2 = .ok (.aload_n 0, 1) := by decide +kernel
theorem dL_run_3 : decode cL_run 3 = .ok (.iload_n 1, 1) := by decide +kernel
theorem dL_run_4 : decode cL_run 4 = .ok (.iload_n 2, 1) := by decide +kernel
theorem dL_run_5 : decode cL_run 5 = .ok (.invokevirtual 7, 3) := by decide +kernel
theorem dL_run_8 : decode cL_run 8 = .ok (.i2l, 1) := by decide +kernel
theorem dL_run_9 : decode cL_run 9 = .ok (.lastore, 1) := by decide +kernel
theorem dL_run_10 : decode cL_run 10 = .ok (.goto 15, 3) := by decide +kernel
theorem dL_run_13 : decode cL_run 13 = .ok (.astore 4, 2) := by decide +kernel
theorem dL_run_15 : decode cL_run 15 = .ok (.iconst 1, 1) := by decide +kernel
theorem dL_run_16 : decode cL_run 16 = .ok (.ireturn, 1) := by decide +kernel
theorem dL_run_17 : decode cL_run 17 = .ok (.astore 4, 2) := by decide +kernel
theorem dL_run_19 : decode cL_run 19 = .ok (.iconst 2, 1) := by decide +kernel
theorem dL_run_20 : decode cL_run 20 = .ok (.ireturn, 1) := by decide +kernel
theorem dL_run_21 : decode cL_run 21 = .ok (.astore 4, 2) := by decide +kernel
theorem dL_run_23 : decode cL_run 23 = .ok (.iconst 3, 1) := by decide +kernel
theorem dL_run_24 : decode cL_run 24 = .ok (.ireturn, 1) := by decide +kernel
theorem dL_run_25 : decode cL_run 25 = .ok (.iconst 0, 1) := by decide +kernel
theorem dL_run_26 : decode cL_run 26 = .ok (.ireturn, 1) := by decide +kernel
set_option maxRecDepth 20000 in
theorem ggL_setPommels_X3_setPommels : GoodIn wsL_setPommels wsX3_setPommels := goodIn_ca (goodIn_ca (goodIn_r _ [7, 8, 9, 10, 11, 12, 13, 14, 15, 6, 16, 17, 18, 19, 20, 21, 22, 23, 24, 25] (by decide +kernel) (by decide +kernel)) (goodIn_sub (fun _ h => List.mem_cons_of_mem _ (List.mem_append_left _ (List.mem_append_right _ h))) (by decide +kernel))) (goodIn_sub (fun _ h => List.mem_cons_of_mem _ (List.mem_append_right _ h)) (by decide +kernel))
set_option maxRecDepth 20000 in
theorem gL_setPommels_X3_setPommels : GoodIn wsL_setPommels (wsV RL 19 RX3 yX3_setPommels wsX3_setPommels) := goodIn_app (goodIn_of _ (by decide +kernel)) ggL_setPommels_X3_setPommels
theorem dL_setPommels_0 : decode cL_setPommels 0 = .ok (.aload_n 3, 1) := by decide +kernel
theorem dL_setPommels_1 : decode cL_setPommels 1 = .ok (.iconst 0, 1) := by decide +kernel
theorem dL_setPommels_2 : decode cL_setPommels 2 = .ok (.aload_n 0, 1) := by decide +kernel
theorem dL_setPommels_3 : decode cL_setPommels 3 = .ok (.iload_n 1, 1) := by decide +kernel
theorem dL_setPommels_4 : decode cL_setPommels 4 = .ok (.iload_n 2, 1) := by decide +kernel
theorem dL_setPommels_5 : decode cL_setPommels 5 = .ok (.invokevirtual 19, 3) := by decide +kernel
theorem dL_setPommels_8 : decode cL_setPommels 8 = .ok (.i2l, 1) := by decide +kernel
theorem dL_setPommels_9 : decode cL_setPommels 9 = .ok (.lastore, 1) := by decide +kernel
theorem dL_setPommels_10 : decode cL_setPommels 10 = .ok (.goto 11, 3) := by decide +kernel
theorem dL_setPommels_13 : decode cL_setPommels 13 = .ok (.astore 4, 2) := by decide +kernel
theorem dL_setPommels_15 : decode cL_setPommels 15 = .ok (.iconst 1, 1) := by decide +kernel
theorem dL_setPommels_16 : decode cL_setPommels 16 = .ok (.ireturn, 1) := by decide +kernel
theorem dL_setPommels_17 : decode cL_setPommels 17 = .ok (.astore 4, 2) := by decide +kernel
theorem dL_setPommels_19 : decode cL_setPommels 19 = .ok (.iconst 2, 1) := by decide +kernel
theorem dL_setPommels_20 : decode cL_setPommels 20 = .ok (.ireturn, 1) := by decide +kernel
theorem dL_setPommels_21 : decode cL_setPommels 21 = .ok (.iconst 0, 1) := by decide +kernel
theorem dL_setPommels_22 : decode cL_setPommels 22 = .ok (.ireturn, 1) := by decide +kernel
set_option maxRecDepth 20000 in
theorem ggL_setFlake_X3_setFlake : GoodIn wsL_setFlake wsX3_setFlake := goodIn_ca (goodIn_ca (goodIn_r _ [7, 8, 9, 10, 11, 12, 13, 14, 15, 6, 16, 17, 18, 19, 20, 21, 22, 23, 24, 25] (by decide +kernel) (by decide +kernel)) (goodIn_sub (fun _ h => List.mem_cons_of_mem _ (List.mem_append_left _ (List.mem_append_right _ h))) (by decide +kernel))) (goodIn_sub (fun _ h => List.mem_cons_of_mem _ (List.mem_append_right _ h)) (by decide +kernel))
set_option maxRecDepth 20000 in
theorem gL_setFlake_X3_setFlake : GoodIn wsL_setFlake (wsV RL 22 RX3 yX3_setFlake wsX3_setFlake) := goodIn_app (goodIn_of _ (by decide +kernel)) ggL_setFlake_X3_setFlake
theorem dL_setFlake_0 : decode cL_setFlake 0 = .ok (.aload_n 3, 1) := by decide +kernel
theorem dL_setFlake_1 : decode cL_setFlake 1 = .ok (.iconst 0, 1) := by decide +kernel
theorem dL_setFlake_2 : decode cL_setFlake 2 = .ok (.aload_n 0, 1) := by decide +kernel
theorem dL_setFlake_3 : decode cL_setFlake 3 = .ok (.iload_n 1, 1) := by decide +kernel
theorem dL_setFlake_4 : decode cL_setFlake 4 = .ok (.iload_n 2, 1) := by decide +kernel
theorem dL_setFlake_5 : decode cL_setFlake 5 = .ok (.invokevirtual 22, 3) := by decide +kernel
theorem dL_setFlake_8 : decode cL_setFlake 8 = .ok (.i2l, 1) := by decide +kernel
theorem dL_setFlake_9 : decode cL_setFlake 9 = .ok (.lastore, 1) := by decide +kernel
theorem dL_setFlake_10 : decode cL_setFlake 10 = .ok (.goto 11, 3) := by decide +kernel
theorem dL_setFlake_13 : decode cL_setFlake 13 = .ok (.astore 4, 2) := by decide +kernel
theorem dL_setFlake_15 : decode cL_setFlake 15 = .ok (.iconst 1, 1) := by decide +kernel
theorem dL_setFlake_16 : decode cL_setFlake 16 = .ok (.ireturn, 1) := by decide +kernel
theorem dL_setFlake_17 : decode cL_setFlake 17 = .ok (.astore 4, 2) := by decide +kernel
theorem dL_setFlake_19 : decode cL_setFlake 19 = .ok (.iconst 2, 1) := by decide +kernel
theorem dL_setFlake_20 : decode cL_setFlake 20 = .ok (.ireturn, 1) := by decide +kernel
theorem dL_setFlake_21 : decode cL_setFlake 21 = .ok (.iconst 0, 1) := by decide +kernel
theorem dL_setFlake_22 : decode cL_setFlake 22 = .ok (.ireturn, 1) := by decide +kernel
set_option maxRecDepth 20000 in
theorem ggL_cannon_X3_cannon : GoodIn wsL_cannon wsX3_cannon := goodIn_ca (goodIn_ca (goodIn_r _ [7, 8, 9, 10, 11, 12, 13, 14, 15, 16, 17, 18, 19, 20, 21, 22, 23, 24, 25, 26, 27, 6, 28, 29, 30, 31, 32, 33, 34, 35, 36, 37, 38, 39, 40, 41, 42, 43, 44, 45, 46, 47, 48, 49] (by decide +kernel) (by decide +kernel)) (goodIn_sub (fun _ h => List.mem_cons_of_mem _ (List.mem_append_left _ (List.mem_append_right _ h))) (by decide +kernel))) (goodIn_sub (fun _ h => List.mem_cons_of_mem _ (List.mem_append_right _ h)) (by decide +kernel))
set_option maxRecDepth 20000 in
theorem gL_cannon_X3_cannon : GoodIn wsL_cannon (wsV RL 25 RX3 yX3_cannon wsX3_cannon) := goodIn_app (goodIn_of _ (by decide +kernel)) ggL_cannon_X3_cannon
theorem dL_cannon_0 : decode cL_cannon 0 = .ok (.aload_n 2, 1) := by decide +kernel
theorem dL_cannon_1 : decode cL_cannon 1 = .ok (.iconst 0, 1) := by decide +kernel
theorem dL_cannon_2 : decode cL_cannon 2 = .ok (.aload_n 0, 1) := by decide +kernel
theorem dL_cannon_3 : decode cL_cannon 3 = .ok (.iload_n 1, 1) := by decide +kernel
theorem dL_cannon_4 : decode cL_cannon 4 = .ok (.invokevirtual 25, 3) := by decide +kernel
theorem dL_cannon_7 : decode cL_cannon 7 = .ok (.i2l, 1) := by decide +kernel
theorem dL_cannon_8 : decode cL_cannon 8 = .ok (.lastore, 1) := by decide +kernel
theorem dL_cannon_9 : decode cL_cannon 9 = .ok (.goto 9, 3) := by decide +kernel
theorem dL_cannon_12 : decode cL_cannon 12 = .ok (.astore_n 3, 1) := by decide +kernel
theorem dL_cannon_13 : decode cL_cannon 13 = .ok (.iconst 1, 1) := by decide +kernel
theorem dL_cannon_14 : decode cL_cannon 14 = .ok (.ireturn, 1) := by decide +kernel
theorem dL_cannon_15 : decode cL_cannon 15 = .ok (.astore_n 3, 1) := by decide +kernel
theorem dL_cannon_16 : decode cL_cannon 16 = .ok (.iconst 2, 1) := by decide +kernel
theorem dL_cannon_17 : decode cL_cannon 17 = .ok (.ireturn, 1) := by decide +kernel
theorem dL_cannon_18 : decode cL_cannon 18 = .ok (.iconst 0, 1) := by decide +kernel
theorem dL_cannon_19 : decode cL_cannon 19 = .ok (.ireturn, 1) := by decide +kernel
set_option maxRecDepth 20000 in
theorem ggL_blast_X3_blast : GoodIn wsL_blast wsX3_blast := goodIn_ca (goodIn_ca (goodIn_r _ [7, 8, 9, 10, 11, 12, 13, 14, 15, 16, 17, 18, 19, 20, 21, 22, 23, 24, 25, 26, 27, 28, 29, 30, 31, 32, 33, 34, 35] (by decide +kernel) (by decide +kernel)) (goodIn_sub (fun _ h => List.mem_cons_of_mem _ (List.mem_append_left _ (List.mem_append_right _ h))) (by decide +kernel))) (goodIn_sub (fun _ h => List.mem_cons_of_mem _ (List.mem_append_right _ h)) (by decide +kernel))
set_option maxRecDepth 20000 in
theorem gL_blast_X3_blast : GoodIn wsL_blast (wsV RL 29 RX3 yX3_blast wsX3_blast) := goodIn_app (goodIn_of _ (by decide +kernel)) ggL_blast_X3_blast
theorem dL_blast_0 : decode cL_blast 0 = .ok (.aload_n 2, 1) := by decide +kernel
theorem dL_blast_1 : decode cL_blast 1 = .ok (.iconst 0, 1) := by decide +kernel
theorem dL_blast_2 : decode cL_blast 2 = .ok (.aload_n 0, 1) := by decide +kernel
theorem dL_blast_3 : decode cL_blast 3 = .ok (.iload_n 1, 1) := by decide +kernel
theorem dL_blast_4 : decode cL_blast 4 = .ok (.invokevirtual 29, 3) := by decide +kernel
theorem dL_blast_7 : decode cL_blast 7 = .ok (.i2l, 1) := by decide +kernel
theorem dL_blast_8 : decode cL_blast 8 = .ok (.lastore, 1) := by decide +kernel
theorem dL_blast_9 : decode cL_blast 9 = .ok (.goto 9, 3) := by decide +kernel
theorem dL_blast_12 : decode cL_blast 12 = .ok (.astore_n 3, 1) := by decide +kernel
theorem dL_blast_13 : decode cL_blast 13 = .ok (.iconst 1, 1) := by decide +kernel
theorem dL_blast_14 : decode cL_blast 14 = .ok (.ireturn, 1) := by decide +kernel
theorem dL_blast_15 : decode cL_blast 15 = .ok (.astore_n 3, 1) := by decide +kernel
theorem dL_blast_16 : decode cL_blast 16 = .ok (.iconst 2, 1) := by decide +kernel
theorem dL_blast_17 : decode cL_blast 17 = .ok (.ireturn, 1) := by decide +kernel
theorem dL_blast_18 : decode cL_blast 18 = .ok (.iconst 0, 1) := by decide +kernel
theorem dL_blast_19 : decode cL_blast 19 = .ok (.ireturn, 1) := by decide +kernel
set_option maxRecDepth 20000 in
theorem ggL_skier_X3_skier : GoodIn wsL_skier wsX3_skier := goodIn_ca (goodIn_ca (goodIn_r _ [7, 8, 9, 10, 11, 12, 13, 14, 15, 6, 16, 17, 18, 19, 20, 21, 22, 23, 24, 25, 26, 27, 28, 29, 30, 31, 32, 33, 34, 35, 36, 37, 38, 39, 40, 41, 42, 43, 44, 45, 46, 47] (by decide +kernel) (by decide +kernel)) (goodIn_sub (fun _ h => List.mem_cons_of_mem _ (List.mem_append_left _ (List.mem_append_right _ h))) (by decide +kernel))) (goodIn_sub (fun _ h => List.mem_cons_of_mem _ (List.mem_append_right _ h)) (by decide +kernel))
set_option maxRecDepth 20000 in
theorem gL_skier_X3_skier : GoodIn wsL_skier (wsV RL 32 RX3 yX3_skier wsX3_skier) := goodIn_app (goodIn_of _ (by decide +kernel)) ggL_skier_X3_skier
theorem dL_skier_0 : decode cL_skier 0 = .ok (.aload_n 3, 1) := by decide +kernel
theorem dL_skier_1 : decode cL_skier 1 = .ok (.iconst 0, 1) := by decide +kernel
theorem dL_skier_2 : decode cL_skier 2 = .ok (.aload_n 0, 1) := by decide +kernel
theorem dL_skier_3 : decode cL_skier 3 = .ok (.iload_n 1, 1) := by decide +kernel
theorem dL_skier_4 : decode cL_skier 4 = .ok (.iload_n 2, 1) := by decide +kernel
theorem dL_skier_5 : decode cL_skier 5 = .ok (.invokevirtual 32, 3) := by decide +kernel
theorem dL_skier_8 : decode cL_skier 8 = .ok (.i2l, 1) := by decide +kernel
theorem dL_skier_9 : decode cL_skier 9 = .ok (.lastore, 1) := by decide +kernel
theorem dL_skier_10 : decode cL_skier 10 = .ok (.goto 11, 3) := by decide +kernel
theorem dL_skier_13 : decode cL_skier 13 = .ok (.astore 4, 2) := by decide +kernel
theorem dL_skier_15 : decode cL_skier 15 = .ok (.iconst 1, 1) := by decide +kernel
theorem dL_skier_16 : decode cL_skier 16 = .ok (.ireturn, 1) := by decide +kernel
theorem dL_skier_17 : decode cL_skier 17 = .ok (.astore 4, 2) := by decide +kernel
theorem dL_skier_19 : decode cL_skier 19 = .ok (.iconst 2, 1) := by decide +kernel
theorem dL_skier_20 : decode cL_skier 20 = .ok (.ireturn, 1) := by decide +kernel
theorem dL_skier_21 : decode cL_skier 21 = .ok (.iconst 0, 1) := by decide +kernel
theorem dL_skier_22 : decode cL_skier 22 = .ok (.ireturn, 1) := by decide +kernel
set_option maxRecDepth 20000 in
theorem ggL_wax_X3_wax : GoodIn wsL_wax wsX3_wax := goodIn_ca (goodIn_ca (goodIn_ca (goodIn_r _ [8, 9, 10, 11, 12, 13, 14, 15, 16, 17, 18, 19, 20, 21, 22, 23, 24, 25, 26, 7, 27, 28, 29, 30, 31, 32, 33, 34, 35, 36, 37, 38, 39, 40, 41, 42, 43, 44, 45, 46, 47, 48, 49, 50, 51] (by decide +kernel) (by decide +kernel)) (goodIn_sub (fun _ h => List.mem_cons_of_mem _ (List.mem_append_left _ (List.mem_append_left _ (List.mem_append_right _ h)))) (by decide +kernel))) (goodIn_sub (fun _ h => List.mem_cons_of_mem _ (List.mem_append_left _ (List.mem_append_right _ h))) (by decide +kernel))) (goodIn_sub (fun _ h => List.mem_cons_of_mem _ (List.mem_append_right _ h)) (by decide +kernel))
set_option maxRecDepth 20000 in
theorem gL_wax_X3_wax : GoodIn wsL_wax (wsV RL 35 RX3 yX3_wax wsX3_wax) := goodIn_app (goodIn_of _ (by decide +kernel)) ggL_wax_X3_wax
theorem dL_wax_0 : decode cL_wax 0 = .ok (.aload_n 3, 1) := by decide +kernel
theorem dL_wax_1 : decode cL_wax 1 = .ok (.iconst 0, 1) := by decide +kernel
theorem dL_wax_2 : decode cL_wax 2 = .ok (.aload_n 0, 1) := by decide +kernel
theorem dL_wax_3 : decode cL_wax 3 = .ok (.iload_n 1, 1) := by decide +kernel
theorem dL_wax_4 : decode cL_wax 4 = .ok (.iload_n 2, 1) := by decide +kernel
theorem dL_wax_5 : decode cL_wax 5 = .ok (.invokevirtual 35, 3) := by decide +kernel
theorem dL_wax_8 : decode cL_wax 8 = .ok (.i2l, 1) := by decide +kernel
theorem dL_wax_9 : decode cL_wax 9 = .ok (.lastore, 1) := by decide +kernel
theorem dL_wax_10 : decode cL_wax 10 = .ok (.goto 15, 3) := by decide +kernel
theorem dL_wax_13 : decode cL_wax 13 = .ok (.astore 4, 2) := by decide +kernel
theorem dL_wax_15 : decode cL_wax 15 = .ok (.iconst 1, 1) := by decide +kernel
theorem dL_wax_16 : decode cL_wax 16 = .ok (.ireturn, 1) := by decide +kernel
theorem dL_wax_17 : decode cL_wax 17 = .ok (.astore 4, 2) := by decide +kernel
theorem dL_wax_19 : decode cL_wax 19 = .ok (.iconst 2, 1) := by decide +kernel
theorem dL_wax_20 : decode cL_wax 20 = .ok (.ireturn, 1) := by decide +kernel
theorem dL_wax_21 : decode cL_wax 21 = .ok (.astore 4, 2) := by decide +kernel
theorem dL_wax_23 : decode cL_wax 23 = .ok (.iconst 3, 1) := by decide +kernel
theorem dL_wax_24 : decode cL_wax 24 = .ok (.ireturn, 1) := by decide +kernel
theorem dL_wax_25 : decode cL_wax 25 = .ok (.iconst 0, 1) := by decide +kernel
theorem dL_wax_26 : decode cL_wax 26 = .ok (.ireturn, 1) := by decide +kernel
set_option maxRecDepth 20000 in
theorem ggL_join_X3_join : GoodIn wsL_join wsX3_join := goodIn_ca (goodIn_r _ [6, 7, 8, 9, 10, 11, 12, 13, 14, 15, 16, 17, 18, 19, 5, 20, 21, 22, 23, 24, 25, 26, 27, 28, 29, 30, 31, 32, 33, 34, 35, 36, 37, 38, 39, 40, 41, 42, 43, 44, 45, 46, 47, 48, 49, 50, 51, 52] (by decide +kernel) (by decide +kernel)) (goodIn_sub (fun _ h => List.mem_cons_of_mem _ (List.mem_append_right _ h)) (by decide +kernel))
set_option maxRecDepth 20000 in
theorem gL_join_X3_join : GoodIn wsL_join (wsV RL 38 RX3 yX3_join wsX3_join) := goodIn_app (goodIn_of _ (by decide +kernel)) ggL_join_X3_join
theorem dL_join_0 : decode cL_join 0 = .ok (.aload_n 3, 1) := by decide +kernel
theorem dL_join_1 : decode cL_join 1 = .ok (.iconst 0, 1) := by decide +kernel
theorem dL_join_2 : decode cL_join 2 = .ok (.aload_n 0, 1) := by decide +kernel
theorem dL_join_3 : decode cL_join 3 = .ok (.iload_n 1, 1) := by decide +kernel
theorem dL_join_4 : decode cL_join 4 = .ok (.iload_n 2, 1) := by decide +kernel
theorem dL_join_5 : decode cL_join 5 = .ok (.invokevirtual 38, 3) := by decide +kernel
theorem dL_join_8 : decode cL_join 8 = .ok (.i2l, 1) := by decide +kernel
theorem dL_join_9 : decode cL_join 9 = .ok (.lastore, 1) := by decide +kernel
theorem dL_join_10 : decode cL_join 10 = .ok (.goto 7, 3) := by decide +kernel
theorem dL_join_13 : decode cL_join 13 = .ok (.astore 4, 2) := by decide +kernel
theorem dL_join_15 : decode cL_join 15 = .ok (.iconst 1, 1) := by decide +kernel
theorem dL_join_16 : decode cL_join 16 = .ok (.ireturn, 1) := by decide +kernel
theorem dL_join_17 : decode cL_join 17 = .ok (.iconst 0, 1) := by decide +kernel
theorem dL_join_18 : decode cL_join 18 = .ok (.ireturn, 1) := by decide +kernel
set_option maxRecDepth 20000 in
theorem ggL_leave_X3_leave : GoodIn wsL_leave wsX3_leave := goodIn_ca (goodIn_r _ [6, 7, 8, 9, 10, 11, 12, 13, 14, 15, 16, 17, 18, 19, 20, 21, 22, 23, 24, 25, 26, 27, 28, 29, 30, 31, 32, 33, 34, 35, 36, 37, 38, 39, 40, 41] (by decide +kernel) (by decide +kernel)) (goodIn_sub (fun _ h => List.mem_cons_of_mem _ (List.mem_append_right _ h)) (by decide +kernel))
set_option maxRecDepth 20000 in
theorem gL_leave_X3_leave : GoodIn wsL_leave (wsV RL 41 RX3 yX3_leave wsX3_leave) := goodIn_app (goodIn_of _ (by decide +kernel)) ggL_leave_X3_leave
theorem dL_leave_0 : decode cL_leave 0 = .ok (.aload_n 2, 1) := by decide +kernel
theorem dL_leave_1 : decode cL_leave 1 = .ok (.iconst 0, 1) := by decide +kernel
theorem dL_leave_2 : decode cL_leave 2 = .ok (.aload_n 0, 1) := by decide +kernel
theorem dL_leave_3 : decode cL_leave 3 = .ok (.iload_n 1, 1) := by decide +kernel
theorem dL_leave_4 : decode cL_leave 4 = .ok (.invokevirtual 41, 3) := by decide +kernel
theorem dL_leave_7 : decode cL_leave 7 = .ok (.ifCond .eq 7, 3) := by decide +kernel
theorem dL_leave_10 : decode cL_leave 10 = .ok (.lconst 1, 1) := by decide +kernel
theorem dL_leave_11 : decode cL_leave 11 = .ok (.goto 4, 3) := by decide +kernel
theorem dL_leave_14 : decode cL_leave 14 = .ok (.lconst 0, 1) := by decide +kernel
theorem dL_leave_15 : decode cL_leave 15 = .ok (.lastore, 1) := by decide +kernel
theorem dL_leave_16 : decode cL_leave 16 = .ok (.goto 6, 3) := by decide +kernel
theorem dL_leave_19 : decode cL_leave 19 = .ok (.astore_n 3, 1) := by decide +kernel
theorem dL_leave_20 : decode cL_leave 20 = .ok (.iconst 1, 1) := by decide +kernel
theorem dL_leave_21 : decode cL_leave 21 = .ok (.ireturn, 1) := by decide +kernel
theorem dL_leave_22 : decode cL_leave 22 = .ok (.iconst 0, 1) := by decide +kernel
theorem dL_leave_23 : decode cL_leave 23 = .ok (.ireturn, 1) := by decide +kernel
set_option maxRecDepth 20000 in
theorem ggL_about_X3_about : GoodIn wsL_about wsX3_about := goodIn_ca (goodIn_r _ [6, 7, 8, 9, 10, 11, 12, 13, 14, 15, 16, 17, 18, 5, 19, 20, 21, 22, 23, 24, 25, 26, 27, 28, 29, 30, 31, 32, 33, 34, 35, 36, 37, 38, 39, 40, 41, 42, 43, 44, 45] (by decide +kernel) (by decide +kernel)) (goodIn_sub (fun _ h => List.mem_cons_of_mem _ (List.mem_append_right _ h)) (by decide +kernel))
set_option maxRecDepth 20000 in
theorem gL_about_X3_about : GoodIn wsL_about (wsV RL 45 RX3 yX3_about wsX3_about) := goodIn_app (goodIn_of _ (by decide +kernel)) ggL_about_X3_about
theorem dL_about_0 : decode cL_about 0 = .ok (.aload_n 3, 1) := by decide +kernel
theorem dL_about_1 : decode cL_about 1 = .ok (.iconst 0, 1) := by decide +kernel
theorem dL_about_2 : decode cL_about 2 = .ok (.aload_n 0, 1) := by decide +kernel
theorem dL_about_3 : decode cL_about 3 = .ok (.iload_n 1, 1) := by decide +kernel
theorem dL_about_4 : decode cL_about 4 = .ok (.iload_n 2, 1) := by decide +kernel
theorem dL_about_5 : decode cL_about 5 = .ok (.invokevirtual 45, 3) := by decide +kernel
theorem dL_about_8 : decode cL_about 8 = .ok (.i2l, 1) := by decide +kernel
theorem dL_about_9 : decode cL_about 9 = .ok (.lastore, 1) := by decide +kernel
theorem dL_about_10 : decode cL_about 10 = .ok (.goto 7, 3) := by decide +kernel
theorem dL_about_13 : decode cL_about 13 = .ok (.astore 4, 2) := by decide +kernel
theorem dL_about_15 : decode cL_about 15 = .ok (.iconst 1, 1) := by decide +kernel
theorem dL_about_16 : decode cL_about 16 = .ok (.ireturn, 1) := by decide +kernel
theorem dL_about_17 : decode cL_about 17 = .ok (.iconst 0, 1) := by decide +kernel
theorem dL_about_18 : decode cL_about 18 = .ok (.ireturn, 1) := by decide +kernel
set_option maxRecDepth 20000 in
theorem ggL_told_X3_told : GoodIn wsL_told wsX3_told := goodIn_ca (goodIn_r _ [6, 7, 8, 9, 10, 11, 12, 13, 14, 15, 16, 17, 18, 5, 19, 20, 21, 22, 23, 24, 25, 26, 27, 28, 29, 30, 31, 32, 33, 34, 35, 36, 37, 38, 39, 40, 41, 42, 43, 44, 45, 46, 47, 48] (by decide +kernel) (by decide +kernel)) (goodIn_sub (fun _ h => List.mem_cons_of_mem _ (List.mem_append_right _ h)) (by decide +kernel))
set_option maxRecDepth 20000 in
theorem gL_told_X3_told : GoodIn wsL_told (wsV RL 48 RX3 yX3_told wsX3_told) := goodIn_app (goodIn_of _ (by decide +kernel)) ggL_told_X3_told
theorem dL_told_0 : decode cL_told 0 = .ok (.aload_n 3, 1) := by decide +kernel
theorem dL_told_1 : decode cL_told 1 = .ok (.iconst 0, 1) := by decide +kernel
theorem dL_told_2 : decode cL_told 2 = .ok (.aload_n 0, 1) := by decide +kernel
theorem dL_told_3 : decode cL_told 3 = .ok (.iload_n 1, 1) := by decide +kernel
theorem dL_told_4 : decode cL_told 4 = .ok (.iload_n 2, 1) := by decide +kernel
theorem dL_told_5 : decode cL_told 5 = .ok (.invokevirtual 48, 3) := by decide +kernel
theorem dL_told_8 : decode cL_told 8 = .ok (.i2l, 1) := by decide +kernel
theorem dL_told_9 : decode cL_told 9 = .ok (.lastore, 1) := by decide +kernel
theorem dL_told_10 : decode cL_told 10 = .ok (.goto 7, 3) := by decide +kernel
theorem dL_told_13 : decode cL_told 13 = .ok (.astore 4, 2) := by decide +kernel
theorem dL_told_15 : decode cL_told 15 = .ok (.iconst 1, 1) := by decide +kernel
theorem dL_told_16 : decode cL_told 16 = .ok (.ireturn, 1) := by decide +kernel
theorem dL_told_17 : decode cL_told 17 = .ok (.iconst 0, 1) := by decide +kernel
theorem dL_told_18 : decode cL_told 18 = .ok (.ireturn, 1) := by decide +kernel
set_option maxRecDepth 20000 in
theorem ggL_tow_X3_tow : GoodIn wsL_tow wsX3_tow := goodIn_ca (goodIn_r _ [6, 7, 8, 9, 10, 11, 5, 12, 13, 14, 15, 16, 17, 18, 19, 20, 21, 22, 23, 24, 25, 26, 27, 28, 29, 30, 31, 32, 33, 34, 35, 36, 37, 38, 39, 40, 41, 42, 43, 44, 45] (by decide +kernel) (by decide +kernel)) (goodIn_sub (fun _ h => List.mem_cons_of_mem _ (List.mem_append_right _ h)) (by decide +kernel))
set_option maxRecDepth 20000 in
theorem gL_tow_X3_tow : GoodIn wsL_tow (wsV RL 51 RX3 yX3_tow wsX3_tow) := goodIn_app (goodIn_of _ (by decide +kernel)) ggL_tow_X3_tow
theorem dL_tow_0 : decode cL_tow 0 = .ok (.aload_n 3, 1) := by decide +kernel
theorem dL_tow_1 : decode cL_tow 1 = .ok (.iconst 0, 1) := by decide +kernel
theorem dL_tow_2 : decode cL_tow 2 = .ok (.aload_n 0, 1) := by decide +kernel
theorem dL_tow_3 : decode cL_tow 3 = .ok (.iload_n 1, 1) := by decide +kernel
theorem dL_tow_4 : decode cL_tow 4 = .ok (.iload_n 2, 1) := by decide +kernel
theorem dL_tow_5 : decode cL_tow 5 = .ok (.invokevirtual 51, 3) := by decide +kernel
theorem dL_tow_8 : decode cL_tow 8 = .ok (.i2l, 1) := by decide +kernel
theorem dL_tow_9 : decode cL_tow 9 = .ok (.lastore, 1) := by decide +kernel
theorem dL_tow_10 : decode cL_tow 10 = .ok (.goto 7, 3) := by decide +kernel
theorem dL_tow_13 : decode cL_tow 13 = .ok (.astore 4, 2) := by decide +kernel
theorem dL_tow_15 : decode cL_tow 15 = .ok (.iconst 1, 1) := by decide +kernel
theorem dL_tow_16 : decode cL_tow 16 = .ok (.ireturn, 1) := by decide +kernel
theorem dL_tow_17 : decode cL_tow 17 = .ok (.iconst 0, 1) := by decide +kernel
theorem dL_tow_18 : decode cL_tow 18 = .ok (.ireturn, 1) := by decide +kernel
set_option maxRecDepth 20000 in
theorem ggL_stands_X3_stands : GoodIn wsL_stands wsX3_stands := goodIn_ca (goodIn_r _ [6, 7, 8, 9, 10, 11, 12, 5, 13, 14, 15, 16, 17, 18, 19, 20, 21, 22, 23, 24, 25, 26, 27, 28, 29, 30, 31, 32, 33, 34, 35, 36, 37, 38, 39] (by decide +kernel) (by decide +kernel)) (goodIn_sub (fun _ h => List.mem_cons_of_mem _ (List.mem_append_right _ h)) (by decide +kernel))
set_option maxRecDepth 20000 in
theorem gL_stands_X3_stands : GoodIn wsL_stands (wsV RL 54 RX3 yX3_stands wsX3_stands) := goodIn_app (goodIn_of _ (by decide +kernel)) ggL_stands_X3_stands
theorem dL_stands_0 : decode cL_stands 0 = .ok (.aload_n 3, 1) := by decide +kernel
theorem dL_stands_1 : decode cL_stands 1 = .ok (.iconst 0, 1) := by decide +kernel
theorem dL_stands_2 : decode cL_stands 2 = .ok (.aload_n 0, 1) := by decide +kernel
theorem dL_stands_3 : decode cL_stands 3 = .ok (.iload_n 1, 1) := by decide +kernel
theorem dL_stands_4 : decode cL_stands 4 = .ok (.iload_n 2, 1) := by decide +kernel
theorem dL_stands_5 : decode cL_stands 5 = .ok (.invokevirtual 54, 3) := by decide +kernel
theorem dL_stands_8 : decode cL_stands 8 = .ok (.i2l, 1) := by decide +kernel
theorem dL_stands_9 : decode cL_stands 9 = .ok (.lastore, 1) := by decide +kernel
theorem dL_stands_10 : decode cL_stands 10 = .ok (.goto 7, 3) := by decide +kernel
theorem dL_stands_13 : decode cL_stands 13 = .ok (.astore 4, 2) := by decide +kernel
theorem dL_stands_15 : decode cL_stands 15 = .ok (.iconst 1, 1) := by decide +kernel
theorem dL_stands_16 : decode cL_stands 16 = .ok (.ireturn, 1) := by decide +kernel
theorem dL_stands_17 : decode cL_stands 17 = .ok (.iconst 0, 1) := by decide +kernel
theorem dL_stands_18 : decode cL_stands 18 = .ok (.ireturn, 1) := by decide +kernel
set_option maxRecDepth 20000 in
theorem ggL_choice_X3_choice : GoodIn wsL_choice wsX3_choice := goodIn_ca (goodIn_r _ [6, 7, 8, 9, 10, 11, 12, 13, 14, 15, 16, 17, 18, 5, 19, 20, 21, 22, 23, 24, 25, 26, 27, 28, 29, 30, 31, 32, 33, 34, 35, 36, 37, 38, 39, 40, 41, 42, 43, 44, 45, 46, 47, 48, 49, 50, 51, 52, 53, 54, 55, 56, 57, 58, 59, 60, 61, 62, 63] (by decide +kernel) (by decide +kernel)) (goodIn_sub (fun _ h => List.mem_cons_of_mem _ (List.mem_append_right _ h)) (by decide +kernel))
set_option maxRecDepth 20000 in
theorem gL_choice_X3_choice : GoodIn wsL_choice (wsV RL 57 RX3 yX3_choice wsX3_choice) := goodIn_app (goodIn_of _ (by decide +kernel)) ggL_choice_X3_choice
theorem dL_choice_0 : decode cL_choice 0 = .ok (.aload_n 3, 1) := by decide +kernel
theorem dL_choice_1 : decode cL_choice 1 = .ok (.iconst 0, 1) := by decide +kernel
theorem dL_choice_2 : decode cL_choice 2 = .ok (.aload_n 0, 1) := by decide +kernel
theorem dL_choice_3 : decode cL_choice 3 = .ok (.iload_n 1, 1) := by decide +kernel
theorem dL_choice_4 : decode cL_choice 4 = .ok (.iload_n 2, 1) := by decide +kernel
theorem dL_choice_5 : decode cL_choice 5 = .ok (.invokevirtual 57, 3) := by decide +kernel
theorem dL_choice_8 : decode cL_choice 8 = .ok (.i2l, 1) := by decide +kernel
theorem dL_choice_9 : decode cL_choice 9 = .ok (.lastore, 1) := by decide +kernel
theorem dL_choice_10 : decode cL_choice 10 = .ok (.goto 7, 3) := by decide +kernel
theorem dL_choice_13 : decode cL_choice 13 = .ok (.astore 4, 2) := by decide +kernel
theorem dL_choice_15 : decode cL_choice 15 = .ok (.iconst 1, 1) := by decide +kernel
theorem dL_choice_16 : decode cL_choice 16 = .ok (.ireturn, 1) := by decide +kernel
theorem dL_choice_17 : decode cL_choice 17 = .ok (.iconst 0, 1) := by decide +kernel
theorem dL_choice_18 : decode cL_choice 18 = .ok (.ireturn, 1) := by decide +kernel
set_option maxRecDepth 20000 in
theorem ggL_count_X3_count : GoodIn wsL_count wsX3_count := goodIn_ca (goodIn_r _ [6, 7, 8, 9, 10, 11, 5, 12, 13, 14, 15, 16, 17, 18, 19, 20, 21, 22, 23, 24, 25, 26, 27, 28, 29, 30, 31, 32, 33, 34, 35, 36, 37, 38, 39, 40, 41, 42, 43, 44, 45, 46, 47, 48, 49, 50, 51, 52, 53, 54, 55, 56, 57, 58, 59, 60, 61, 62, 63, 64, 65, 66, 67, 68, 69, 70, 71, 72, 73, 74, 75, 76, 77, 78, 79, 80, 81, 82, 83, 84] (by decide +kernel) (by decide +kernel)) (goodIn_sub (fun _ h => List.mem_cons_of_mem _ (List.mem_append_right _ h)) (by decide +kernel))
set_option maxRecDepth 20000 in
theorem gL_count_X3_count : GoodIn wsL_count (wsV RL 60 RX3 yX3_count wsX3_count) := goodIn_app (goodIn_of _ (by decide +kernel)) ggL_count_X3_count
theorem dL_count_0 : decode cL_count 0 = .ok (.aload_n 2, 1) := by decide +kernel
theorem dL_count_1 : decode cL_count 1 = .ok (.iconst 0, 1) := by decide +kernel
theorem dL_count_2 : decode cL_count 2 = .ok (.aload_n 0, 1) := by decide +kernel
theorem dL_count_3 : decode cL_count 3 = .ok (.iload_n 1, 1) := by decide +kernel
theorem dL_count_4 : decode cL_count 4 = .ok (.invokevirtual 60, 3) := by decide +kernel
theorem dL_count_7 : decode cL_count 7 = .ok (.i2l, 1) := by decide +kernel
theorem dL_count_8 : decode cL_count 8 = .ok (.lastore, 1) := by decide +kernel
theorem dL_count_9 : decode cL_count 9 = .ok (.goto 6, 3) := by decide +kernel
theorem dL_count_12 : decode cL_count 12 = .ok (.astore_n 3, 1) := by decide +kernel
theorem dL_count_13 : decode cL_count 13 = .ok (.iconst 1, 1) := by decide +kernel
theorem dL_count_14 : decode cL_count 14 = .ok (.ireturn, 1) := by decide +kernel
theorem dL_count_15 : decode cL_count 15 = .ok (.iconst 0, 1) := by decide +kernel
theorem dL_count_16 : decode cL_count 16 = .ok (.ireturn, 1) := by decide +kernel
set_option maxRecDepth 20000 in
theorem ggL_pass_X3_pass : GoodIn wsL_pass wsX3_pass := goodIn_ca (goodIn_r _ [6, 7, 8, 9, 10, 11, 5, 12, 13, 14, 15, 16, 17, 18, 19, 20, 21, 22, 23, 24, 25, 26, 27, 28, 29, 30, 31, 32, 33, 34, 35, 36, 37, 38, 39, 40, 41, 42, 43, 44, 45, 46, 47, 48, 49, 50, 51, 52, 53, 54, 55, 56, 57, 58, 59, 60, 61, 62, 63, 64, 65, 66, 67, 68, 69, 70, 71, 72, 73, 74, 75, 76, 77, 78, 79, 80, 81, 82, 83, 84, 85, 86, 87, 88, 89, 90, 91, 92, 93, 94, 95, 96, 97, 98, 99, 100, 101, 102, 103, 104, 105, 106, 107, 108, 109, 110, 111, 112, 113, 114, 115, 116, 117, 118, 119, 120, 121, 122, 123, 124, 125, 126, 127, 128, 129, 130, 131, 132, 133, 134, 135, 136, 137, 138, 139, 140, 141, 142, 143, 144, 145, 146, 147, 148] (by decide +kernel) (by decide +kernel)) (goodIn_sub (fun _ h => List.mem_cons_of_mem _ (List.mem_append_right _ h)) (by decide +kernel))
set_option maxRecDepth 20000 in
theorem gL_pass_X3_pass : GoodIn wsL_pass (wsV RL 63 RX3 yX3_pass wsX3_pass) := goodIn_app (goodIn_of _ (by decide +kernel)) ggL_pass_X3_pass
theorem dL_pass_0 : decode cL_pass 0 = .ok (.aload_n 2, 1) := by decide +kernel
theorem dL_pass_1 : decode cL_pass 1 = .ok (.iconst 0, 1) := by decide +kernel
theorem dL_pass_2 : decode cL_pass 2 = .ok (.aload_n 0, 1) := by decide +kernel
theorem dL_pass_3 : decode cL_pass 3 = .ok (.iload_n 1, 1) := by decide +kernel
theorem dL_pass_4 : decode cL_pass 4 = .ok (.invokevirtual 63, 3) := by decide +kernel
theorem dL_pass_7 : decode cL_pass 7 = .ok (.i2l, 1) := by decide +kernel
theorem dL_pass_8 : decode cL_pass 8 = .ok (.lastore, 1) := by decide +kernel
theorem dL_pass_9 : decode cL_pass 9 = .ok (.goto 6, 3) := by decide +kernel
theorem dL_pass_12 : decode cL_pass 12 = .ok (.astore_n 3, 1) := by decide +kernel
theorem dL_pass_13 : decode cL_pass 13 = .ok (.iconst 1, 1) := by decide +kernel
theorem dL_pass_14 : decode cL_pass 14 = .ok (.ireturn, 1) := by decide +kernel
theorem dL_pass_15 : decode cL_pass 15 = .ok (.iconst 0, 1) := by decide +kernel
theorem dL_pass_16 : decode cL_pass 16 = .ok (.ireturn, 1) := by decide +kernel
set_option maxRecDepth 20000 in
theorem ggL_until_X3_until : GoodIn wsL_until wsX3_until := goodIn_ca (goodIn_r _ [6, 7, 8, 9, 10, 11, 12, 13, 14, 15, 16, 17, 18, 19, 20, 21, 22, 23, 24, 25, 26, 27, 28, 29, 30, 31, 5, 32, 33, 34, 35, 36, 37, 38, 39, 40, 41, 42, 43, 44, 45, 46, 47, 48, 49, 50, 51, 52, 53, 54, 55, 56, 57, 58, 59, 60, 61, 62, 63, 64, 65, 66, 67, 68, 69, 70, 71, 72, 73, 74, 75, 76, 77, 78, 79, 80, 81, 82, 83, 84, 85, 86, 87, 88, 89, 90, 91, 92, 93, 94, 95, 96, 97, 98, 99, 100, 101, 102, 103, 104, 105, 106, 107, 108, 109, 110, 111, 112, 113, 114, 115, 116, 117, 118, 119, 120, 121, 122, 123, 124, 125, 126, 127, 128, 129, 130, 131, 132, 133, 134, 135, 136, 137, 138, 139, 140, 141, 142, 143, 144, 145, 146, 147, 148, 149, 150, 151, 152, 153, 154, 155, 156, 157, 158, 159, 160, 161, 162, 163, 164, 165, 166, 167, 168, 169, 170, 171] (by decide +kernel) (by decide +kernel)) (goodIn_sub (fun _ h => List.mem_cons_of_mem _ (List.mem_append_right _ h)) (by decide +kernel))
set_option maxRecDepth 20000 in
theorem gL_until_X3_until : GoodIn wsL_until (wsV RL 66 RX3 yX3_until wsX3_until) := goodIn_app (goodIn_of _ (by decide +kernel)) ggL_until_X3_until
theorem dL_until_0 : decode cL_until 0 = .ok (.aload_n 2, 1) := by decide +kernel
theorem dL_until_1 : decode cL_until 1 = .ok (.iconst 0, 1) := by decide +kernel
theorem dL_until_2 : decode cL_until 2 = .ok (.aload_n 0, 1) := by decide +kernel
theorem dL_until_3 : decode cL_until 3 = .ok (.iload_n 1, 1) := by decide +kernel
theorem dL_until_4 : decode cL_until 4 = .ok (.invokevirtual 66, 3) := by decide +kernel
theorem dL_until_7 : decode cL_until 7 = .ok (.i2l, 1) := by decide +kernel
theorem dL_until_8 : decode cL_until 8 = .ok (.lastore, 1) := by decide +kernel
theorem dL_until_9 : decode cL_until 9 = .ok (.goto 6, 3) := by decide +kernel
theorem dL_until_12 : decode cL_until 12 = .ok (.astore_n 3, 1) := by decide +kernel
theorem dL_until_13 : decode cL_until 13 = .ok (.iconst 1, 1) := by decide +kernel
theorem dL_until_14 : decode cL_until 14 = .ok (.ireturn, 1) := by decide +kernel
theorem dL_until_15 : decode cL_until 15 = .ok (.iconst 0, 1) := by decide +kernel
theorem dL_until_16 : decode cL_until 16 = .ok (.ireturn, 1) := by decide +kernel
set_option maxRecDepth 20000 in
theorem ggL_foresee_X3_foresee : GoodIn wsL_foresee wsX3_foresee := goodIn_ca (goodIn_ca (goodIn_r _ [7, 8, 9, 10, 11, 12, 13, 14, 15, 6, 16, 17, 18, 19, 20, 21, 22, 23, 24, 25, 26, 27, 28, 29, 30, 31, 32, 33, 34, 35, 36, 37, 38, 39, 40, 41, 42, 43, 44, 45, 46, 47, 48, 49, 50, 51, 52, 53, 54, 55, 56, 57, 58, 59, 60, 61, 62, 63, 64, 65, 66, 67, 68, 69, 70, 71, 72, 73, 74, 75, 76, 77, 78, 79, 80, 81, 82, 83, 84, 85, 86, 87, 88, 89, 90, 91, 92, 93, 94, 95, 96, 97, 98, 99, 100, 101, 102, 103, 104, 105, 106, 107, 108, 109, 110, 111, 112, 113, 114, 115, 116, 117, 118, 119, 120, 121, 122, 123, 124, 125, 126, 127, 128, 129, 130, 131, 132, 133, 134, 135, 136, 137, 138, 139, 140, 141, 142, 143, 144, 145, 146, 147, 148, 149, 150, 151, 152, 153, 154, 155, 156, 157, 158, 159, 160, 161, 162, 163, 164, 165, 166, 167, 168, 169, 170, 171, 172, 173, 174, 175, 176, 177, 178, 179, 180, 181, 182, 183, 184, 185, 186, 187, 188, 189, 190, 191, 192, 193, 194, 195, 196] (by decide +kernel) (by decide +kernel)) (goodIn_sub (fun _ h => List.mem_cons_of_mem _ (List.mem_append_left _ (List.mem_append_right _ h))) (by decide +kernel))) (goodIn_sub (fun _ h => List.mem_cons_of_mem _ (List.mem_append_right _ h)) (by decide +kernel))
set_option maxRecDepth 20000 in
theorem gL_foresee_X3_foresee : GoodIn wsL_foresee (wsV RL 69 RX3 yX3_foresee wsX3_foresee) := goodIn_app (goodIn_of _ (by decide +kernel)) ggL_foresee_X3_foresee
theorem dL_foresee_0 : decode cL_foresee 0 = .ok (.aload_n 3, 1) := by decide +kernel
theorem dL_foresee_1 : decode cL_foresee 1 = .ok (.iconst 0, 1) := by decide +kernel
theorem dL_foresee_2 : decode cL_foresee 2 = .ok (.aload_n 0, 1) := by decide +kernel
theorem dL_foresee_3 : decode cL_foresee 3 = .ok (.iload_n 1, 1) := by decide +kernel
theorem dL_foresee_4 : decode cL_foresee 4 = .ok (.iload_n 2, 1) := by decide +kernel
theorem dL_foresee_5 : decode cL_foresee 5 = .ok (.invokevirtual 69, 3) := by decide +kernel
theorem dL_foresee_8 : decode cL_foresee 8 = .ok (.i2l, 1) := by decide +kernel
theorem dL_foresee_9 : decode cL_foresee 9 = .ok (.lastore, 1) := by decide +kernel
theorem dL_foresee_10 : decode cL_foresee 10 = .ok (.goto 11, 3) := by decide +kernel
theorem dL_foresee_13 : decode cL_foresee 13 = .ok (.astore 4, 2) := by decide +kernel
theorem dL_foresee_15 : decode cL_foresee 15 = .ok (.iconst 1, 1) := by decide +kernel
theorem dL_foresee_16 : decode cL_foresee 16 = .ok (.ireturn, 1) := by decide +kernel
theorem dL_foresee_17 : decode cL_foresee 17 = .ok (.astore 4, 2) := by decide +kernel
theorem dL_foresee_19 : decode cL_foresee 19 = .ok (.iconst 2, 1) := by decide +kernel
theorem dL_foresee_20 : decode cL_foresee 20 = .ok (.ireturn, 1) := by decide +kernel
theorem dL_foresee_21 : decode cL_foresee 21 = .ok (.iconst 0, 1) := by decide +kernel
theorem dL_foresee_22 : decode cL_foresee 22 = .ok (.ireturn, 1) := by decide +kernel
set_option maxRecDepth 20000 in
theorem ggL_advise_X3_advise : GoodIn wsL_advise wsX3_advise := goodIn_ca (goodIn_ca (goodIn_r _ [7, 8, 9, 10, 11, 12, 13, 14, 15, 16, 17, 18, 19, 20, 21, 22, 23, 6, 24, 25, 26, 27, 28, 29, 30, 31, 32, 33, 34, 35, 36, 37, 38, 39, 40, 41, 42, 43, 44, 45, 46, 47, 48, 49, 50, 51, 52, 53, 54, 55, 56, 57, 58, 59, 60, 61, 62, 63, 64, 65, 66, 67, 68, 69, 70, 71, 72, 73, 74, 75, 76, 77, 78, 79, 80, 81, 82, 83, 84, 85, 86, 87, 88, 89, 90, 91, 92, 93, 94, 95, 96, 97, 98, 99, 100, 101, 102, 103, 104, 105, 106, 107, 108, 109, 110, 111, 112, 113, 114, 115, 116, 117, 118, 119, 120, 121, 122, 123, 124, 125, 126, 127, 128, 129, 130, 131, 132, 133, 134, 135, 136, 137, 138, 139, 140, 141, 142, 143, 144, 145, 146, 147, 148, 149, 150, 151, 152, 153, 154, 155, 156, 157, 158, 159, 160, 161, 162, 163, 164, 165, 166, 167, 168, 169, 170, 171, 172, 173, 174, 175, 176, 177, 178, 179, 180, 181] (by decide +kernel) (by decide +kernel)) (goodIn_sub (fun _ h => List.mem_cons_of_mem _ (List.mem_append_left _ (List.mem_append_right _ h))) (by decide +kernel))) (goodIn_sub (fun _ h => List.mem_cons_of_mem _ (List.mem_append_right _ h)) (by decide +kernel))
set_option maxRecDepth 20000 in
theorem gL_advise_X3_advise : GoodIn wsL_advise (wsV RL 72 RX3 yX3_advise wsX3_advise) := goodIn_app (goodIn_of _ (by decide +kernel)) ggL_advise_X3_advise
theorem dL_advise_0 : decode cL_advise 0 = .ok (.aload_n 3, 1) := by decide +kernel
theorem dL_advise_1 : decode cL_advise 1 = .ok (.iconst 0, 1) := by decide +kernel
theorem dL_advise_2 : decode cL_advise 2 = .ok (.aload_n 0, 1) := by decide +kernel
theorem dL_advise_3 : decode cL_advise 3 = .ok (.iload_n 1, 1) := by decide +kernel
theorem dL_advise_4 : decode cL_advise 4 = .ok (.iload_n 2, 1) := by decide +kernel
theorem dL_advise_5 : decode cL_advise 5 = .ok (.invokevirtual 72, 3) := by decide +kernel
