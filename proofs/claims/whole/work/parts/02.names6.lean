theorem dX4_pass_100 : decode cX4_pass 100 = .ok (.getfield 46, 3) := by decide +kernel
theorem dX4_pass_103 : decode cX4_pass 103 = .ok (.iconst 1, 1) := by decide +kernel
theorem dX4_pass_104 : decode cX4_pass 104 = .ok (.iadd, 1) := by decide +kernel
theorem dX4_pass_105 : decode cX4_pass 105 = .ok (.putfield 46, 3) := by decide +kernel
theorem dX4_pass_108 : decode cX4_pass 108 = .ok (.return_, 1) := by decide +kernel
set_option maxRecDepth 20000 in
theorem ggX4_pass__X4_pass : GoodIn wsX4_pass_ wsX4_pass := goodIn_r _ [5, 6, 7, 8, 9, 10, 11, 12, 13, 14, 15, 16, 17, 18, 4, 19, 20, 21, 22, 23, 24, 25, 26, 27, 28, 29, 30, 31, 32, 33, 34, 35, 36, 37, 38, 39, 40, 41, 42, 43, 44, 45, 46, 47, 48, 49, 50, 51, 52, 53, 54, 55, 56, 57, 58, 59, 60, 61, 62, 63, 64, 65, 66, 67, 68, 69, 70, 71, 72, 73, 74, 75, 76, 77, 78, 79, 80, 81, 82, 83, 84, 85] (by decide +kernel) (by decide +kernel)
set_option maxRecDepth 20000 in
theorem gX4_pass__X4_pass : GoodIn wsX4_pass_ (wsV RX4 124 RX4 yX4_pass wsX4_pass) := goodIn_app (goodIn_of _ (by decide +kernel)) ggX4_pass__X4_pass
theorem dX4_pass__0 : decode cX4_pass_ 0 = .ok (.iconst 0, 1) := by decide +kernel
theorem dX4_pass__1 : decode cX4_pass_ 1 = .ok (.istore_n 2, 1) := by decide +kernel
theorem dX4_pass__2 : decode cX4_pass_ 2 = .ok (.iload_n 2, 1) := by decide +kernel
theorem dX4_pass__3 : decode cX4_pass_ 3 = .ok (.iload_n 1, 1) := by decide +kernel
theorem dX4_pass__4 : decode cX4_pass_ 4 = .ok (.if_icmp .ge 13, 3) := by decide +kernel
theorem dX4_pass__7 : decode cX4_pass_ 7 = .ok (.aload_n 0, 1) := by decide +kernel
theorem dX4_pass__8 : decode cX4_pass_ 8 = .ok (.invokevirtual 124, 3) := by decide +kernel
theorem dX4_pass__11 : decode cX4_pass_ 11 = .ok (.iinc 2 1, 3) := by decide +kernel
theorem dX4_pass__14 : decode cX4_pass_ 14 = .ok (.goto (-12), 3) := by decide +kernel
theorem dX4_pass__17 : decode cX4_pass_ 17 = .ok (.return_, 1) := by decide +kernel
set_option maxRecDepth 20000 in
theorem ggX4_flagged_X4_isFlagged : GoodIn wsX4_flagged wsX4_isFlagged := goodIn_r _ [6, 7, 1, 8, 9, 10, 11, 12, 13, 14, 15, 16, 17, 18, 19, 20, 21, 22, 23, 24, 25, 26, 27, 28, 29, 30, 31] (by decide +kernel) (by decide +kernel)
set_option maxRecDepth 20000 in
theorem gX4_flagged_X4_isFlagged : GoodIn wsX4_flagged (wsV RX4 74 RX4 yX4_isFlagged wsX4_isFlagged) := goodIn_app (goodIn_of _ (by decide +kernel)) ggX4_flagged_X4_isFlagged
theorem dX4_flagged_0 : decode cX4_flagged 0 = .ok (.iconst 0, 1) := by decide +kernel
theorem dX4_flagged_1 : decode cX4_flagged 1 = .ok (.istore_n 1, 1) := by decide +kernel
theorem dX4_flagged_2 : decode cX4_flagged 2 = .ok (.iconst 0, 1) := by decide +kernel
theorem dX4_flagged_3 : decode cX4_flagged 3 = .ok (.istore_n 2, 1) := by decide +kernel
theorem dX4_flagged_4 : decode cX4_flagged 4 = .ok (.iload_n 2, 1) := by decide +kernel
theorem dX4_flagged_5 : decode cX4_flagged 5 = .ok (.aload_n 0, 1) := by decide +kernel
theorem dX4_flagged_6 : decode cX4_flagged 6 = .ok (.getfield 3, 3) := by decide +kernel
theorem dX4_flagged_9 : decode cX4_flagged 9 = .ok (.getfield 68, 3) := by decide +kernel
theorem dX4_flagged_12 : decode cX4_flagged 12 = .ok (.if_icmp .ge 25, 3) := by decide +kernel
theorem dX4_flagged_15 : decode cX4_flagged 15 = .ok (.iload_n 1, 1) := by decide +kernel
theorem dX4_flagged_16 : decode cX4_flagged 16 = .ok (.aload_n 0, 1) := by decide +kernel
theorem dX4_flagged_17 : decode cX4_flagged 17 = .ok (.iload_n 2, 1) := by decide +kernel
theorem dX4_flagged_18 : decode cX4_flagged 18 = .ok (.invokevirtual 74, 3) := by decide +kernel
theorem dX4_flagged_21 : decode cX4_flagged 21 = .ok (.ifCond .eq 7, 3) := by decide +kernel
theorem dX4_flagged_24 : decode cX4_flagged 24 = .ok (.iconst 1, 1) := by decide +kernel
theorem dX4_flagged_25 : decode cX4_flagged 25 = .ok (.goto 4, 3) := by decide +kernel
theorem dX4_flagged_28 : decode cX4_flagged 28 = .ok (.iconst 0, 1) := by decide +kernel
theorem dX4_flagged_29 : decode cX4_flagged 29 = .ok (.iadd, 1) := by decide +kernel
theorem dX4_flagged_30 : decode cX4_flagged 30 = .ok (.istore_n 1, 1) := by decide +kernel
theorem dX4_flagged_31 : decode cX4_flagged 31 = .ok (.iinc 2 1, 3) := by decide +kernel
theorem dX4_flagged_34 : decode cX4_flagged 34 = .ok (.goto (-30), 3) := by decide +kernel
theorem dX4_flagged_37 : decode cX4_flagged 37 = .ok (.iload_n 1, 1) := by decide +kernel
theorem dX4_flagged_38 : decode cX4_flagged 38 = .ok (.ireturn, 1) := by decide +kernel
theorem dX4_standing_0 : decode cX4_standing 0 = .ok (.aload_n 0, 1) := by decide +kernel
theorem dX4_standing_1 : decode cX4_standing 1 = .ok (.getfield 40, 3) := by decide +kernel
theorem dX4_standing_4 : decode cX4_standing 4 = .ok (.iconst 0, 1) := by decide +kernel
theorem dX4_standing_5 : decode cX4_standing 5 = .ok (.iaload, 1) := by decide +kernel
theorem dX4_standing_6 : decode cX4_standing 6 = .ok (.aload_n 0, 1) := by decide +kernel
theorem dX4_standing_7 : decode cX4_standing 7 = .ok (.getfield 40, 3) := by decide +kernel
theorem dX4_standing_10 : decode cX4_standing 10 = .ok (.iconst 1, 1) := by decide +kernel
theorem dX4_standing_11 : decode cX4_standing 11 = .ok (.iaload, 1) := by decide +kernel
theorem dX4_standing_12 : decode cX4_standing 12 = .ok (.iadd, 1) := by decide +kernel
theorem dX4_standing_13 : decode cX4_standing 13 = .ok (.aload_n 0, 1) := by decide +kernel
theorem dX4_standing_14 : decode cX4_standing 14 = .ok (.getfield 40, 3) := by decide +kernel
theorem dX4_standing_17 : decode cX4_standing 17 = .ok (.iconst 2, 1) := by decide +kernel
theorem dX4_standing_18 : decode cX4_standing 18 = .ok (.iaload, 1) := by decide +kernel
theorem dX4_standing_19 : decode cX4_standing 19 = .ok (.iadd, 1) := by decide +kernel
theorem dX4_standing_20 : decode cX4_standing 20 = .ok (.ireturn, 1) := by decide +kernel
theorem dX4_allPoints_0 : decode cX4_allPoints 0 = .ok (.iconst 0, 1) := by decide +kernel
theorem dX4_allPoints_1 : decode cX4_allPoints 1 = .ok (.istore_n 1, 1) := by decide +kernel
theorem dX4_allPoints_2 : decode cX4_allPoints 2 = .ok (.iconst 0, 1) := by decide +kernel
theorem dX4_allPoints_3 : decode cX4_allPoints 3 = .ok (.istore_n 2, 1) := by decide +kernel
theorem dX4_allPoints_4 : decode cX4_allPoints 4 = .ok (.iload_n 2, 1) := by decide +kernel
theorem dX4_allPoints_5 : decode cX4_allPoints 5 = .ok (.aload_n 0, 1) := by decide +kernel
theorem dX4_allPoints_6 : decode cX4_allPoints 6 = .ok (.getfield 3, 3) := by decide +kernel
theorem dX4_allPoints_9 : decode cX4_allPoints 9 = .ok (.getfield 127, 3) := by decide +kernel
theorem dX4_allPoints_12 : decode cX4_allPoints 12 = .ok (.if_icmp .ge 18, 3) := by decide +kernel
theorem dX4_allPoints_15 : decode cX4_allPoints 15 = .ok (.iload_n 1, 1) := by decide +kernel
theorem dX4_allPoints_16 : decode cX4_allPoints 16 = .ok (.aload_n 0, 1) := by decide +kernel
theorem dX4_allPoints_17 : decode cX4_allPoints 17 = .ok (.getfield 31, 3) := by decide +kernel
theorem dX4_allPoints_20 : decode cX4_allPoints 20 = .ok (.iload_n 2, 1) := by decide +kernel
theorem dX4_allPoints_21 : decode cX4_allPoints 21 = .ok (.iaload, 1) := by decide +kernel
theorem dX4_allPoints_22 : decode cX4_allPoints 22 = .ok (.iadd, 1) := by decide +kernel
theorem dX4_allPoints_23 : decode cX4_allPoints 23 = .ok (.istore_n 1, 1) := by decide +kernel
theorem dX4_allPoints_24 : decode cX4_allPoints 24 = .ok (.iinc 2 1, 3) := by decide +kernel
theorem dX4_allPoints_27 : decode cX4_allPoints 27 = .ok (.goto (-23), 3) := by decide +kernel
theorem dX4_allPoints_30 : decode cX4_allPoints 30 = .ok (.iload_n 1, 1) := by decide +kernel
theorem dX4_allPoints_31 : decode cX4_allPoints 31 = .ok (.ireturn, 1) := by decide +kernel
set_option maxRecDepth 20000 in
theorem ggX4_counted_X4_flake : GoodIn wsX4_counted wsX4_flake := goodIn_r _ [9, 3, 1, 29, 30, 31, 32, 33, 34, 35, 36, 37, 38, 39, 40, 41, 42, 43, 44, 45, 46, 47, 48, 49, 50, 51, 52] (by decide +kernel) (by decide +kernel)
set_option maxRecDepth 20000 in
theorem gX4_counted_X4_flake : GoodIn wsX4_counted (wsV RX4 89 RX4 yX4_flake wsX4_flake) := goodIn_app (goodIn_of _ (by decide +kernel)) ggX4_counted_X4_flake
set_option maxRecDepth 20000 in
theorem ggX4_counted_X4_flagged : GoodIn wsX4_counted wsX4_flagged := goodIn_r _ [13, 3, 14, 15, 16, 8, 17, 18, 29, 30, 31, 32, 33, 34, 35, 36, 37, 38, 39, 40, 41, 42, 43, 44, 45, 46, 47, 48, 49, 50, 51, 52] (by decide +kernel) (by decide +kernel)
set_option maxRecDepth 20000 in
theorem gX4_counted_X4_flagged : GoodIn wsX4_counted (wsV RX4 130 RX4 yX4_flagged wsX4_flagged) := goodIn_app (goodIn_of _ (by decide +kernel)) ggX4_counted_X4_flagged
set_option maxRecDepth 20000 in
theorem ggX4_counted_X4_standing : GoodIn wsX4_counted wsX4_standing := goodIn_r _ [22, 23, 29, 30, 31, 32, 33, 34, 35, 36, 37, 38, 39, 40, 41, 42] (by decide +kernel) (by decide +kernel)
set_option maxRecDepth 20000 in
theorem gX4_counted_X4_standing : GoodIn wsX4_counted (wsV RX4 133 RX4 yX4_standing wsX4_standing) := goodIn_app (goodIn_of _ (by decide +kernel)) ggX4_counted_X4_standing
set_option maxRecDepth 20000 in
theorem ggX4_counted_X4_allPoints : GoodIn wsX4_counted wsX4_allPoints := goodIn_r _ [27, 3, 28, 29, 30, 31, 32, 33, 34, 35, 36, 37, 38, 39, 40, 41, 42, 43, 44, 45, 46, 47, 48, 49, 50, 51, 52] (by decide +kernel) (by decide +kernel)
set_option maxRecDepth 20000 in
theorem gX4_counted_X4_allPoints : GoodIn wsX4_counted (wsV RX4 136 RX4 yX4_allPoints wsX4_allPoints) := goodIn_app (goodIn_of _ (by decide +kernel)) ggX4_counted_X4_allPoints
theorem dX4_counted_0 : decode cX4_counted 0 = .ok (.iload_n 1, 1) := by decide +kernel
theorem dX4_counted_1 : decode cX4_counted 1 = .ok (.tableswitch 93 0 7 #[47, 52, 57, 62, 70, 78, 83, 88], 47) := by decide +kernel
theorem dX4_counted_48 : decode cX4_counted 48 = .ok (.aload_n 0, 1) := by decide +kernel
theorem dX4_counted_49 : decode cX4_counted 49 = .ok (.getfield 46, 3) := by decide +kernel
theorem dX4_counted_52 : decode cX4_counted 52 = .ok (.ireturn, 1) := by decide +kernel
theorem dX4_counted_53 : decode cX4_counted 53 = .ok (.aload_n 0, 1) := by decide +kernel
theorem dX4_counted_54 : decode cX4_counted 54 = .ok (.invokevirtual 89, 3) := by decide +kernel
theorem dX4_counted_57 : decode cX4_counted 57 = .ok (.ireturn, 1) := by decide +kernel
theorem dX4_counted_58 : decode cX4_counted 58 = .ok (.aload_n 0, 1) := by decide +kernel
theorem dX4_counted_59 : decode cX4_counted 59 = .ok (.getfield 50, 3) := by decide +kernel
theorem dX4_counted_62 : decode cX4_counted 62 = .ok (.ireturn, 1) := by decide +kernel
theorem dX4_counted_63 : decode cX4_counted 63 = .ok (.aload_n 0, 1) := by decide +kernel
theorem dX4_counted_64 : decode cX4_counted 64 = .ok (.getfield 3, 3) := by decide +kernel
theorem dX4_counted_67 : decode cX4_counted 67 = .ok (.getfield 68, 3) := by decide +kernel
theorem dX4_counted_70 : decode cX4_counted 70 = .ok (.ireturn, 1) := by decide +kernel
theorem dX4_counted_71 : decode cX4_counted 71 = .ok (.aload_n 0, 1) := by decide +kernel
theorem dX4_counted_72 : decode cX4_counted 72 = .ok (.getfield 3, 3) := by decide +kernel
theorem dX4_counted_75 : decode cX4_counted 75 = .ok (.getfield 127, 3) := by decide +kernel
theorem dX4_counted_78 : decode cX4_counted 78 = .ok (.ireturn, 1) := by decide +kernel
theorem dX4_counted_79 : decode cX4_counted 79 = .ok (.aload_n 0, 1) := by decide +kernel
theorem dX4_counted_80 : decode cX4_counted 80 = .ok (.invokevirtual 130, 3) := by decide +kernel
theorem dX4_counted_83 : decode cX4_counted 83 = .ok (.ireturn, 1) := by decide +kernel
theorem dX4_counted_84 : decode cX4_counted 84 = .ok (.aload_n 0, 1) := by decide +kernel
theorem dX4_counted_85 : decode cX4_counted 85 = .ok (.getfield 53, 3) := by decide +kernel
theorem dX4_counted_88 : decode cX4_counted 88 = .ok (.ireturn, 1) := by decide +kernel
theorem dX4_counted_89 : decode cX4_counted 89 = .ok (.aload_n 0, 1) := by decide +kernel
theorem dX4_counted_90 : decode cX4_counted 90 = .ok (.invokevirtual 133, 3) := by decide +kernel
theorem dX4_counted_93 : decode cX4_counted 93 = .ok (.ireturn, 1) := by decide +kernel
theorem dX4_counted_94 : decode cX4_counted 94 = .ok (.aload_n 0, 1) := by decide +kernel
theorem dX4_counted_95 : decode cX4_counted 95 = .ok (.invokevirtual 136, 3) := by decide +kernel
theorem dX4_counted_98 : decode cX4_counted 98 = .ok (.ireturn, 1) := by decide +kernel
set_option maxRecDepth 20000 in
theorem ggX5_init_X4_init : GoodIn wsX5_init wsX4_init := goodIn_r _ [16, 17, 18, 2, 3, 4, 19, 20, 21, 22, 23, 24, 25, 26, 27, 28, 39, 40, 41, 42, 43, 44, 45, 46, 47, 48, 49, 50, 51, 52] (by decide +kernel) (by decide +kernel)
set_option maxRecDepth 20000 in
theorem gX5_init_X4_init_n27 : GoodIn wsX5_init (wsX4_init) := ggX5_init_X4_init
theorem dX5_init_0 : decode cX5_init 0 = .ok (.aload_n 0, 1) := by decide +kernel
theorem dX5_init_1 : decode cX5_init 1 = .ok (.invokespecial 1, 3) := by decide +kernel
theorem dX5_init_4 : decode cX5_init 4 = .ok (.aload_n 0, 1) := by decide +kernel
theorem dX5_init_5 : decode cX5_init 5 = .ok (.bipush 6, 2) := by decide +kernel
theorem dX5_init_7 : decode cX5_init 7 = .ok (.newarray .int, 2) := by decide +kernel
theorem dX5_init_9 : decode cX5_init 9 = .ok (.dup, 1) := by decide +kernel
theorem dX5_init_10 : decode cX5_init 10 = .ok (.iconst 0, 1) := by decide +kernel
theorem dX5_init_11 : decode cX5_init 11 = .ok (.iconst 1, 1) := by decide +kernel
theorem dX5_init_12 : decode cX5_init 12 = .ok (.iastore, 1) := by decide +kernel
theorem dX5_init_13 : decode cX5_init 13 = .ok (.dup, 1) := by decide +kernel
theorem dX5_init_14 : decode cX5_init 14 = .ok (.iconst 1, 1) := by decide +kernel
theorem dX5_init_15 : decode cX5_init 15 = .ok (.iconst 1, 1) := by decide +kernel
theorem dX5_init_16 : decode cX5_init 16 = .ok (.iastore, 1) := by decide +kernel
theorem dX5_init_17 : decode cX5_init 17 = .ok (.dup, 1) := by decide +kernel
theorem dX5_init_18 : decode cX5_init 18 = .ok (.iconst 2, 1) := by decide +kernel
theorem dX5_init_19 : decode cX5_init 19 = .ok (.iconst 1, 1) := by decide +kernel
theorem dX5_init_20 : decode cX5_init 20 = .ok (.iastore, 1) := by decide +kernel
theorem dX5_init_21 : decode cX5_init 21 = .ok (.dup, 1) := by decide +kernel
theorem dX5_init_22 : decode cX5_init 22 = .ok (.iconst 3, 1) := by decide +kernel
theorem dX5_init_23 : decode cX5_init 23 = .ok (.iconst 1, 1) := by decide +kernel
theorem dX5_init_24 : decode cX5_init 24 = .ok (.iastore, 1) := by decide +kernel
theorem dX5_init_25 : decode cX5_init 25 = .ok (.dup, 1) := by decide +kernel
theorem dX5_init_26 : decode cX5_init 26 = .ok (.iconst 4, 1) := by decide +kernel
theorem dX5_init_27 : decode cX5_init 27 = .ok (.iconst 1, 1) := by decide +kernel
theorem dX5_init_28 : decode cX5_init 28 = .ok (.iastore, 1) := by decide +kernel
theorem dX5_init_29 : decode cX5_init 29 = .ok (.dup, 1) := by decide +kernel
theorem dX5_init_30 : decode cX5_init 30 = .ok (.iconst 5, 1) := by decide +kernel
theorem dX5_init_31 : decode cX5_init 31 = .ok (.iconst 1, 1) := by decide +kernel
theorem dX5_init_32 : decode cX5_init 32 = .ok (.iastore, 1) := by decide +kernel
theorem dX5_init_33 : decode cX5_init 33 = .ok (.putfield 7, 3) := by decide +kernel
theorem dX5_init_36 : decode cX5_init 36 = .ok (.aload_n 0, 1) := by decide +kernel
theorem dX5_init_37 : decode cX5_init 37 = .ok (.iconst 3, 1) := by decide +kernel
theorem dX5_init_38 : decode cX5_init 38 = .ok (.newarray .int, 2) := by decide +kernel
theorem dX5_init_40 : decode cX5_init 40 = .ok (.dup, 1) := by decide +kernel
theorem dX5_init_41 : decode cX5_init 41 = .ok (.iconst 0, 1) := by decide +kernel
theorem dX5_init_42 : decode cX5_init 42 = .ok (.iconst 2, 1) := by decide +kernel
theorem dX5_init_43 : decode cX5_init 43 = .ok (.iastore, 1) := by decide +kernel
theorem dX5_init_44 : decode cX5_init 44 = .ok (.dup, 1) := by decide +kernel
theorem dX5_init_45 : decode cX5_init 45 = .ok (.iconst 1, 1) := by decide +kernel
theorem dX5_init_46 : decode cX5_init 46 = .ok (.iconst 2, 1) := by decide +kernel
theorem dX5_init_47 : decode cX5_init 47 = .ok (.iastore, 1) := by decide +kernel
theorem dX5_init_48 : decode cX5_init 48 = .ok (.dup, 1) := by decide +kernel
theorem dX5_init_49 : decode cX5_init 49 = .ok (.iconst 2, 1) := by decide +kernel
theorem dX5_init_50 : decode cX5_init 50 = .ok (.iconst 2, 1) := by decide +kernel
theorem dX5_init_51 : decode cX5_init 51 = .ok (.iastore, 1) := by decide +kernel
theorem dX5_init_52 : decode cX5_init 52 = .ok (.putfield 13, 3) := by decide +kernel
theorem dX5_init_55 : decode cX5_init 55 = .ok (.aload_n 0, 1) := by decide +kernel
theorem dX5_init_56 : decode cX5_init 56 = .ok (.bipush 6, 2) := by decide +kernel
theorem dX5_init_58 : decode cX5_init 58 = .ok (.newarray .int, 2) := by decide +kernel
theorem dX5_init_60 : decode cX5_init 60 = .ok (.putfield 16, 3) := by decide +kernel
theorem dX5_init_63 : decode cX5_init 63 = .ok (.aload_n 0, 1) := by decide +kernel
theorem dX5_init_64 : decode cX5_init 64 = .ok (.bipush 6, 2) := by decide +kernel
theorem dX5_init_66 : decode cX5_init 66 = .ok (.newarray .int, 2) := by decide +kernel
theorem dX5_init_68 : decode cX5_init 68 = .ok (.putfield 19, 3) := by decide +kernel
theorem dX5_init_71 : decode cX5_init 71 = .ok (.aload_n 0, 1) := by decide +kernel
theorem dX5_init_72 : decode cX5_init 72 = .ok (.bipush 8, 2) := by decide +kernel
theorem dX5_init_74 : decode cX5_init 74 = .ok (.newarray .int, 2) := by decide +kernel
theorem dX5_init_76 : decode cX5_init 76 = .ok (.putfield 22, 3) := by decide +kernel
theorem dX5_init_79 : decode cX5_init 79 = .ok (.aload_n 0, 1) := by decide +kernel
theorem dX5_init_80 : decode cX5_init 80 = .ok (.new 25, 3) := by decide +kernel
theorem dX5_init_83 : decode cX5_init 83 = .ok (.dup, 1) := by decide +kernel
theorem dX5_init_84 : decode cX5_init 84 = .ok (.aload_n 0, 1) := by decide +kernel
theorem dX5_init_85 : decode cX5_init 85 = .ok (.invokespecial 27, 3) := by decide +kernel
theorem dX5_init_88 : decode cX5_init 88 = .ok (.putfield 30, 3) := by decide +kernel
theorem dX5_init_91 : decode cX5_init 91 = .ok (.aload_n 0, 1) := by decide +kernel
theorem dX5_init_92 : decode cX5_init 92 = .ok (.new 25, 3) := by decide +kernel
theorem dX5_init_95 : decode cX5_init 95 = .ok (.dup, 1) := by decide +kernel
theorem dX5_init_96 : decode cX5_init 96 = .ok (.aload_n 0, 1) := by decide +kernel
theorem dX5_init_97 : decode cX5_init 97 = .ok (.invokespecial 27, 3) := by decide +kernel
theorem dX5_init_100 : decode cX5_init 100 = .ok (.putfield 34, 3) := by decide +kernel
theorem dX5_init_103 : decode cX5_init 103 = .ok (.return_, 1) := by decide +kernel
theorem dX5_thrown_0 : decode cX5_thrown 0 = .ok (.aload_n 0, 1) := by decide +kernel
theorem dX5_thrown_1 : decode cX5_thrown 1 = .ok (.getfield 37, 3) := by decide +kernel
theorem dX5_thrown_4 : decode cX5_thrown 4 = .ok (.ireturn, 1) := by decide +kernel
theorem dX5_no_0 : decode cX5_no 0 = .ok (.aload_n 0, 1) := by decide +kernel
theorem dX5_no_1 : decode cX5_no 1 = .ok (.iload_n 1, 1) := by decide +kernel
theorem dX5_no_2 : decode cX5_no 2 = .ok (.putfield 37, 3) := by decide +kernel
theorem dX5_no_5 : decode cX5_no 5 = .ok (.iconst 0, 1) := by decide +kernel
theorem dX5_no_6 : decode cX5_no 6 = .ok (.ireturn, 1) := by decide +kernel
theorem dX5_isIn_0 : decode cX5_isIn 0 = .ok (.iload_n 0, 1) := by decide +kernel
theorem dX5_isIn_1 : decode cX5_isIn 1 = .ok (.iload_n 1, 1) := by decide +kernel
theorem dX5_isIn_2 : decode cX5_isIn 2 = .ok (.if_icmp .lt 12, 3) := by decide +kernel
theorem dX5_isIn_5 : decode cX5_isIn 5 = .ok (.iload_n 0, 1) := by decide +kernel
theorem dX5_isIn_6 : decode cX5_isIn 6 = .ok (.iload_n 2, 1) := by decide +kernel
theorem dX5_isIn_7 : decode cX5_isIn 7 = .ok (.if_icmp .gt 7, 3) := by decide +kernel
theorem dX5_isIn_10 : decode cX5_isIn 10 = .ok (.iconst 1, 1) := by decide +kernel
theorem dX5_isIn_11 : decode cX5_isIn 11 = .ok (.goto 4, 3) := by decide +kernel
theorem dX5_isIn_14 : decode cX5_isIn 14 = .ok (.iconst 0, 1) := by decide +kernel
theorem dX5_isIn_15 : decode cX5_isIn 15 = .ok (.ireturn, 1) := by decide +kernel
set_option maxRecDepth 20000 in
theorem ggX5_isTow_X5_isIn : GoodIn wsX5_isTow wsX5_isIn := goodIn_r _ [4] (by decide +kernel) (by decide +kernel)
set_option maxRecDepth 20000 in
theorem gX5_isTow_X5_isIn : GoodIn wsX5_isTow (va_wsS RX5 41 yX5_isIn wsX5_isIn) := goodIn_app (goodIn_of _ (by decide +kernel)) ggX5_isTow_X5_isIn
theorem dX5_isTow_0 : decode cX5_isTow 0 = .ok (.iload_n 1, 1) := by decide +kernel
theorem dX5_isTow_1 : decode cX5_isTow 1 = .ok (.iconst 0, 1) := by decide +kernel
theorem dX5_isTow_2 : decode cX5_isTow 2 = .ok (.iconst 2, 1) := by decide +kernel
theorem dX5_isTow_3 : decode cX5_isTow 3 = .ok (.invokestatic 41, 3) := by decide +kernel
theorem dX5_isTow_6 : decode cX5_isTow 6 = .ok (.ireturn, 1) := by decide +kernel
set_option maxRecDepth 20000 in
theorem ggX5_isRun_X5_isIn : GoodIn wsX5_isRun wsX5_isIn := goodIn_r _ [5] (by decide +kernel) (by decide +kernel)
set_option maxRecDepth 20000 in
theorem gX5_isRun_X5_isIn : GoodIn wsX5_isRun (va_wsS RX5 41 yX5_isIn wsX5_isIn) := goodIn_app (goodIn_of _ (by decide +kernel)) ggX5_isRun_X5_isIn
theorem dX5_isRun_0 : decode cX5_isRun 0 = .ok (.iload_n 1, 1) := by decide +kernel
theorem dX5_isRun_1 : decode cX5_isRun 1 = .ok (.iconst 0, 1) := by decide +kernel
theorem dX5_isRun_2 : decode cX5_isRun 2 = .ok (.aload_n 0, 1) := by decide +kernel
theorem dX5_isRun_3 : decode cX5_isRun 3 = .ok (.getfield 45, 3) := by decide +kernel
theorem dX5_isRun_6 : decode cX5_isRun 6 = .ok (.iconst 1, 1) := by decide +kernel
theorem dX5_isRun_7 : decode cX5_isRun 7 = .ok (.isub, 1) := by decide +kernel
theorem dX5_isRun_8 : decode cX5_isRun 8 = .ok (.invokestatic 41, 3) := by decide +kernel
theorem dX5_isRun_11 : decode cX5_isRun 11 = .ok (.ireturn, 1) := by decide +kernel
set_option maxRecDepth 20000 in
theorem ggX5_isSkier_X5_isIn : GoodIn wsX5_isSkier wsX5_isIn := goodIn_r _ [5] (by decide +kernel) (by decide +kernel)
set_option maxRecDepth 20000 in
theorem gX5_isSkier_X5_isIn : GoodIn wsX5_isSkier (va_wsS RX5 41 yX5_isIn wsX5_isIn) := goodIn_app (goodIn_of _ (by decide +kernel)) ggX5_isSkier_X5_isIn
theorem dX5_isSkier_0 : decode cX5_isSkier 0 = .ok (.iload_n 1, 1) := by decide +kernel
theorem dX5_isSkier_1 : decode cX5_isSkier 1 = .ok (.iconst 0, 1) := by decide +kernel
theorem dX5_isSkier_2 : decode cX5_isSkier 2 = .ok (.aload_n 0, 1) := by decide +kernel
theorem dX5_isSkier_3 : decode cX5_isSkier 3 = .ok (.getfield 48, 3) := by decide +kernel
theorem dX5_isSkier_6 : decode cX5_isSkier 6 = .ok (.iconst 1, 1) := by decide +kernel
theorem dX5_isSkier_7 : decode cX5_isSkier 7 = .ok (.isub, 1) := by decide +kernel
theorem dX5_isSkier_8 : decode cX5_isSkier 8 = .ok (.invokestatic 41, 3) := by decide +kernel
theorem dX5_isSkier_11 : decode cX5_isSkier 11 = .ok (.ireturn, 1) := by decide +kernel
set_option maxRecDepth 20000 in
theorem ggX5_run_X5_isTow : GoodIn wsX5_run wsX5_isTow := goodIn_r _ [10, 11, 12, 9, 13] (by decide +kernel) (by decide +kernel)
set_option maxRecDepth 20000 in
theorem gX5_run_X5_isTow : GoodIn wsX5_run (wsV RX5 51 RX5 yX5_isTow wsX5_isTow) := goodIn_app (goodIn_of _ (by decide +kernel)) ggX5_run_X5_isTow
set_option maxRecDepth 20000 in
theorem ggX5_run_X5_no : GoodIn wsX5_run wsX5_no := goodIn_r _ [17, 1, 18, 19, 20, 21, 22, 23, 24, 25, 26, 27] (by decide +kernel) (by decide +kernel)
set_option maxRecDepth 20000 in
theorem gX5_run_X5_no : GoodIn wsX5_run (wsV RX5 55 RX5 yX5_no wsX5_no) := goodIn_app (goodIn_of _ (by decide +kernel)) ggX5_run_X5_no
set_option maxRecDepth 20000 in
theorem ggX5_run_X5_isIn : GoodIn wsX5_run wsX5_isIn := goodIn_r _ [13] (by decide +kernel) (by decide +kernel)
set_option maxRecDepth 20000 in
theorem gX5_run_X5_isIn : GoodIn wsX5_run (va_wsS RX5 41 yX5_isIn wsX5_isIn) := goodIn_app (goodIn_of _ (by decide +kernel)) ggX5_run_X5_isIn
theorem dX5_run_0 : decode cX5_run 0 = .ok (.aload_n 0, 1) := by decide +kernel
theorem dX5_run_1 : decode cX5_run 1 = .ok (.iconst 0, 1) := by decide +kernel
theorem dX5_run_2 : decode cX5_run 2 = .ok (.putfield 37, 3) := by decide +kernel
theorem dX5_run_5 : decode cX5_run 5 = .ok (.aload_n 0, 1) := by decide +kernel
theorem dX5_run_6 : decode cX5_run 6 = .ok (.iload_n 1, 1) := by decide +kernel
theorem dX5_run_7 : decode cX5_run 7 = .ok (.invokevirtual 51, 3) := by decide +kernel
theorem dX5_run_10 : decode cX5_run 10 = .ok (.ifCond .ne 9, 3) := by decide +kernel
theorem dX5_run_13 : decode cX5_run 13 = .ok (.aload_n 0, 1) := by decide +kernel
theorem dX5_run_14 : decode cX5_run 14 = .ok (.iconst 1, 1) := by decide +kernel
theorem dX5_run_15 : decode cX5_run 15 = .ok (.invokevirtual 55, 3) := by decide +kernel
theorem dX5_run_18 : decode cX5_run 18 = .ok (.ireturn, 1) := by decide +kernel
theorem dX5_run_19 : decode cX5_run 19 = .ok (.iload_n 2, 1) := by decide +kernel
theorem dX5_run_20 : decode cX5_run 20 = .ok (.iconst 1, 1) := by decide +kernel
theorem dX5_run_21 : decode cX5_run 21 = .ok (.bipush 9, 2) := by decide +kernel
theorem dX5_run_23 : decode cX5_run 23 = .ok (.invokestatic 41, 3) := by decide +kernel
theorem dX5_run_26 : decode cX5_run 26 = .ok (.ifCond .ne 9, 3) := by decide +kernel
theorem dX5_run_29 : decode cX5_run 29 = .ok (.aload_n 0, 1) := by decide +kernel
theorem dX5_run_30 : decode cX5_run 30 = .ok (.iconst 2, 1) := by decide +kernel
theorem dX5_run_31 : decode cX5_run 31 = .ok (.invokevirtual 55, 3) := by decide +kernel
theorem dX5_run_34 : decode cX5_run 34 = .ok (.ireturn, 1) := by decide +kernel
theorem dX5_run_35 : decode cX5_run 35 = .ok (.aload_n 0, 1) := by decide +kernel
theorem dX5_run_36 : decode cX5_run 36 = .ok (.getfield 45, 3) := by decide +kernel
theorem dX5_run_39 : decode cX5_run 39 = .ok (.bipush 6, 2) := by decide +kernel
theorem dX5_run_41 : decode cX5_run 41 = .ok (.if_icmp .ne 9, 3) := by decide +kernel
theorem dX5_run_44 : decode cX5_run 44 = .ok (.aload_n 0, 1) := by decide +kernel
theorem dX5_run_45 : decode cX5_run 45 = .ok (.iconst 3, 1) := by decide +kernel
theorem dX5_run_46 : decode cX5_run 46 = .ok (.invokevirtual 55, 3) := by decide +kernel
theorem dX5_run_49 : decode cX5_run 49 = .ok (.ireturn, 1) := by decide +kernel
theorem dX5_run_50 : decode cX5_run 50 = .ok (.aload_n 0, 1) := by decide +kernel
theorem dX5_run_51 : decode cX5_run 51 = .ok (.getfield 16, 3) := by decide +kernel
theorem dX5_run_54 : decode cX5_run 54 = .ok (.aload_n 0, 1) := by decide +kernel
theorem dX5_run_55 : decode cX5_run 55 = .ok (.getfield 45, 3) := by decide +kernel
theorem dX5_run_58 : decode cX5_run 58 = .ok (.iload_n 1, 1) := by decide +kernel
theorem dX5_run_59 : decode cX5_run 59 = .ok (.iastore, 1) := by decide +kernel
theorem dX5_run_60 : decode cX5_run 60 = .ok (.aload_n 0, 1) := by decide +kernel
theorem dX5_run_61 : decode cX5_run 61 = .ok (.getfield 19, 3) := by decide +kernel
theorem dX5_run_64 : decode cX5_run 64 = .ok (.aload_n 0, 1) := by decide +kernel
theorem dX5_run_65 : decode cX5_run 65 = .ok (.getfield 45, 3) := by decide +kernel
theorem dX5_run_68 : decode cX5_run 68 = .ok (.iload_n 2, 1) := by decide +kernel
theorem dX5_run_69 : decode cX5_run 69 = .ok (.iastore, 1) := by decide +kernel
theorem dX5_run_70 : decode cX5_run 70 = .ok (.aload_n 0, 1) := by decide +kernel
theorem dX5_run_71 : decode cX5_run 71 = .ok (.getfield 30, 3) := by decide +kernel
theorem dX5_run_74 : decode cX5_run 74 = .ok (.getfield 59, 3) := by decide +kernel
theorem dX5_run_77 : decode cX5_run 77 = .ok (.aload_n 0, 1) := by decide +kernel
theorem dX5_run_78 : decode cX5_run 78 = .ok (.getfield 45, 3) := by decide +kernel
theorem dX5_run_81 : decode cX5_run 81 = .ok (.bipush 30, 2) := by decide +kernel
theorem dX5_run_83 : decode cX5_run 83 = .ok (.iastore, 1) := by decide +kernel
theorem dX5_run_84 : decode cX5_run 84 = .ok (.aload_n 0, 1) := by decide +kernel
theorem dX5_run_85 : decode cX5_run 85 = .ok (.dup, 1) := by decide +kernel
theorem dX5_run_86 : decode cX5_run 86 = .ok (.getfield 45, 3) := by decide +kernel
theorem dX5_run_89 : decode cX5_run 89 = .ok (.iconst 1, 1) := by decide +kernel
theorem dX5_run_90 : decode cX5_run 90 = .ok (.iadd, 1) := by decide +kernel
theorem dX5_run_91 : decode cX5_run 91 = .ok (.putfield 45, 3) := by decide +kernel
theorem dX5_run_94 : decode cX5_run 94 = .ok (.aload_n 0, 1) := by decide +kernel
theorem dX5_run_95 : decode cX5_run 95 = .ok (.getfield 45, 3) := by decide +kernel
theorem dX5_run_98 : decode cX5_run 98 = .ok (.iconst 1, 1) := by decide +kernel
theorem dX5_run_99 : decode cX5_run 99 = .ok (.isub, 1) := by decide +kernel
theorem dX5_run_100 : decode cX5_run 100 = .ok (.ireturn, 1) := by decide +kernel
set_option maxRecDepth 20000 in
theorem ggX5_setPommels_X5_isTow : GoodIn wsX5_setPommels wsX5_isTow := goodIn_r _ [7, 8, 9, 6, 10] (by decide +kernel) (by decide +kernel)
set_option maxRecDepth 20000 in
theorem gX5_setPommels_X5_isTow : GoodIn wsX5_setPommels (wsV RX5 51 RX5 yX5_isTow wsX5_isTow) := goodIn_app (goodIn_of _ (by decide +kernel)) ggX5_setPommels_X5_isTow
set_option maxRecDepth 20000 in
theorem ggX5_setPommels_X5_no : GoodIn wsX5_setPommels wsX5_no := goodIn_r _ [14, 1, 15, 16, 17, 18, 19, 20, 21, 22, 23, 24] (by decide +kernel) (by decide +kernel)
set_option maxRecDepth 20000 in
theorem gX5_setPommels_X5_no : GoodIn wsX5_setPommels (wsV RX5 55 RX5 yX5_no wsX5_no) := goodIn_app (goodIn_of _ (by decide +kernel)) ggX5_setPommels_X5_no
set_option maxRecDepth 20000 in
theorem ggX5_setPommels_X5_isIn : GoodIn wsX5_setPommels wsX5_isIn := goodIn_r _ [10] (by decide +kernel) (by decide +kernel)
set_option maxRecDepth 20000 in
theorem gX5_setPommels_X5_isIn : GoodIn wsX5_setPommels (va_wsS RX5 41 yX5_isIn wsX5_isIn) := goodIn_app (goodIn_of _ (by decide +kernel)) ggX5_setPommels_X5_isIn
theorem dX5_setPommels_0 : decode cX5_setPommels 0 = .ok (.aload_n 0, 1) := by decide +kernel
theorem dX5_setPommels_1 : decode cX5_setPommels 1 = .ok (.iconst 0, 1) := by decide +kernel
theorem dX5_setPommels_2 : decode cX5_setPommels 2 = .ok (.putfield 37, 3) := by decide +kernel
theorem dX5_setPommels_5 : decode cX5_setPommels 5 = .ok (.aload_n 0, 1) := by decide +kernel
theorem dX5_setPommels_6 : decode cX5_setPommels 6 = .ok (.iload_n 1, 1) := by decide +kernel
theorem dX5_setPommels_7 : decode cX5_setPommels 7 = .ok (.invokevirtual 51, 3) := by decide +kernel
theorem dX5_setPommels_10 : decode cX5_setPommels 10 = .ok (.ifCond .ne 9, 3) := by decide +kernel
theorem dX5_setPommels_13 : decode cX5_setPommels 13 = .ok (.aload_n 0, 1) := by decide +kernel
theorem dX5_setPommels_14 : decode cX5_setPommels 14 = .ok (.iconst 1, 1) := by decide +kernel
theorem dX5_setPommels_15 : decode cX5_setPommels 15 = .ok (.invokevirtual 55, 3) := by decide +kernel
theorem dX5_setPommels_18 : decode cX5_setPommels 18 = .ok (.ireturn, 1) := by decide +kernel
theorem dX5_setPommels_19 : decode cX5_setPommels 19 = .ok (.iload_n 2, 1) := by decide +kernel
theorem dX5_setPommels_20 : decode cX5_setPommels 20 = .ok (.iconst 1, 1) := by decide +kernel
theorem dX5_setPommels_21 : decode cX5_setPommels 21 = .ok (.iconst 4, 1) := by decide +kernel
theorem dX5_setPommels_22 : decode cX5_setPommels 22 = .ok (.invokestatic 41, 3) := by decide +kernel
theorem dX5_setPommels_25 : decode cX5_setPommels 25 = .ok (.ifCond .ne 9, 3) := by decide +kernel
theorem dX5_setPommels_28 : decode cX5_setPommels 28 = .ok (.aload_n 0, 1) := by decide +kernel
theorem dX5_setPommels_29 : decode cX5_setPommels 29 = .ok (.iconst 2, 1) := by decide +kernel
theorem dX5_setPommels_30 : decode cX5_setPommels 30 = .ok (.invokevirtual 55, 3) := by decide +kernel
theorem dX5_setPommels_33 : decode cX5_setPommels 33 = .ok (.ireturn, 1) := by decide +kernel
theorem dX5_setPommels_34 : decode cX5_setPommels 34 = .ok (.aload_n 0, 1) := by decide +kernel
theorem dX5_setPommels_35 : decode cX5_setPommels 35 = .ok (.getfield 13, 3) := by decide +kernel
theorem dX5_setPommels_38 : decode cX5_setPommels 38 = .ok (.iload_n 1, 1) := by decide +kernel
theorem dX5_setPommels_39 : decode cX5_setPommels 39 = .ok (.iaload, 1) := by decide +kernel
theorem dX5_setPommels_40 : decode cX5_setPommels 40 = .ok (.istore_n 3, 1) := by decide +kernel
theorem dX5_setPommels_41 : decode cX5_setPommels 41 = .ok (.aload_n 0, 1) := by decide +kernel
theorem dX5_setPommels_42 : decode cX5_setPommels 42 = .ok (.getfield 13, 3) := by decide +kernel
theorem dX5_setPommels_45 : decode cX5_setPommels 45 = .ok (.iload_n 1, 1) := by decide +kernel
theorem dX5_setPommels_46 : decode cX5_setPommels 46 = .ok (.iload_n 2, 1) := by decide +kernel
theorem dX5_setPommels_47 : decode cX5_setPommels 47 = .ok (.iastore, 1) := by decide +kernel
theorem dX5_setPommels_48 : decode cX5_setPommels 48 = .ok (.iload_n 3, 1) := by decide +kernel
theorem dX5_setPommels_49 : decode cX5_setPommels 49 = .ok (.ireturn, 1) := by decide +kernel
set_option maxRecDepth 20000 in
theorem ggX5_setFlake_X5_isIn : GoodIn wsX5_setFlake wsX5_isIn := goodIn_r _ [6] (by decide +kernel) (by decide +kernel)
set_option maxRecDepth 20000 in
theorem gX5_setFlake_X5_isIn : GoodIn wsX5_setFlake (va_wsS RX5 41 yX5_isIn wsX5_isIn) := goodIn_app (goodIn_of _ (by decide +kernel)) ggX5_setFlake_X5_isIn
set_option maxRecDepth 20000 in
theorem ggX5_setFlake_X5_no : GoodIn wsX5_setFlake wsX5_no := goodIn_r _ [10, 1, 11, 12, 13, 14, 15, 16, 17, 18, 19, 20] (by decide +kernel) (by decide +kernel)
set_option maxRecDepth 20000 in
theorem gX5_setFlake_X5_no : GoodIn wsX5_setFlake (wsV RX5 55 RX5 yX5_no wsX5_no) := goodIn_app (goodIn_of _ (by decide +kernel)) ggX5_setFlake_X5_no
theorem dX5_setFlake_0 : decode cX5_setFlake 0 = .ok (.aload_n 0, 1) := by decide +kernel
theorem dX5_setFlake_1 : decode cX5_setFlake 1 = .ok (.iconst 0, 1) := by decide +kernel
theorem dX5_setFlake_2 : decode cX5_setFlake 2 = .ok (.putfield 37, 3) := by decide +kernel
theorem dX5_setFlake_5 : decode cX5_setFlake 5 = .ok (.iload_n 1, 1) := by decide +kernel
theorem dX5_setFlake_6 : decode cX5_setFlake 6 = .ok (.iconst 0, 1) := by decide +kernel
theorem dX5_setFlake_7 : decode cX5_setFlake 7 = .ok (.iconst 5, 1) := by decide +kernel
theorem dX5_setFlake_8 : decode cX5_setFlake 8 = .ok (.invokestatic 41, 3) := by decide +kernel
theorem dX5_setFlake_11 : decode cX5_setFlake 11 = .ok (.ifCond .ne 9, 3) := by decide +kernel
theorem dX5_setFlake_14 : decode cX5_setFlake 14 = .ok (.aload_n 0, 1) := by decide +kernel
theorem dX5_setFlake_15 : decode cX5_setFlake 15 = .ok (.iconst 1, 1) := by decide +kernel
theorem dX5_setFlake_16 : decode cX5_setFlake 16 = .ok (.invokevirtual 55, 3) := by decide +kernel
theorem dX5_setFlake_19 : decode cX5_setFlake 19 = .ok (.ireturn, 1) := by decide +kernel
theorem dX5_setFlake_20 : decode cX5_setFlake 20 = .ok (.iload_n 2, 1) := by decide +kernel
theorem dX5_setFlake_21 : decode cX5_setFlake 21 = .ok (.iconst 0, 1) := by decide +kernel
theorem dX5_setFlake_22 : decode cX5_setFlake 22 = .ok (.iconst 3, 1) := by decide +kernel
theorem dX5_setFlake_23 : decode cX5_setFlake 23 = .ok (.invokestatic 41, 3) := by decide +kernel
theorem dX5_setFlake_26 : decode cX5_setFlake 26 = .ok (.ifCond .ne 9, 3) := by decide +kernel
theorem dX5_setFlake_29 : decode cX5_setFlake 29 = .ok (.aload_n 0, 1) := by decide +kernel
theorem dX5_setFlake_30 : decode cX5_setFlake 30 = .ok (.iconst 2, 1) := by decide +kernel
theorem dX5_setFlake_31 : decode cX5_setFlake 31 = .ok (.invokevirtual 55, 3) := by decide +kernel
theorem dX5_setFlake_34 : decode cX5_setFlake 34 = .ok (.ireturn, 1) := by decide +kernel
theorem dX5_setFlake_35 : decode cX5_setFlake 35 = .ok (.aload_n 0, 1) := by decide +kernel
theorem dX5_setFlake_36 : decode cX5_setFlake 36 = .ok (.getfield 7, 3) := by decide +kernel
theorem dX5_setFlake_39 : decode cX5_setFlake 39 = .ok (.iload_n 1, 1) := by decide +kernel
theorem dX5_setFlake_40 : decode cX5_setFlake 40 = .ok (.iaload, 1) := by decide +kernel
theorem dX5_setFlake_41 : decode cX5_setFlake 41 = .ok (.istore_n 3, 1) := by decide +kernel
theorem dX5_setFlake_42 : decode cX5_setFlake 42 = .ok (.aload_n 0, 1) := by decide +kernel
theorem dX5_setFlake_43 : decode cX5_setFlake 43 = .ok (.getfield 7, 3) := by decide +kernel
theorem dX5_setFlake_46 : decode cX5_setFlake 46 = .ok (.iload_n 1, 1) := by decide +kernel
theorem dX5_setFlake_47 : decode cX5_setFlake 47 = .ok (.iload_n 2, 1) := by decide +kernel
theorem dX5_setFlake_48 : decode cX5_setFlake 48 = .ok (.iastore, 1) := by decide +kernel
theorem dX5_setFlake_49 : decode cX5_setFlake 49 = .ok (.iload_n 3, 1) := by decide +kernel
theorem dX5_setFlake_50 : decode cX5_setFlake 50 = .ok (.ireturn, 1) := by decide +kernel
set_option maxRecDepth 20000 in
theorem ggX5_cannon_X5_isRun : GoodIn wsX5_cannon wsX5_isRun := goodIn_r _ [11, 12, 13, 14, 10, 15, 20, 21, 22, 23, 24, 25, 26, 27, 28, 29] (by decide +kernel) (by decide +kernel)
set_option maxRecDepth 20000 in
theorem gX5_cannon_X5_isRun : GoodIn wsX5_cannon (wsV RX5 62 RX5 yX5_isRun wsX5_isRun) := goodIn_app (goodIn_of _ (by decide +kernel)) ggX5_cannon_X5_isRun
set_option maxRecDepth 20000 in
theorem ggX5_cannon_X5_no : GoodIn wsX5_cannon wsX5_no := goodIn_r _ [19, 1, 20, 21, 22, 23, 24, 25, 26, 27, 28, 29] (by decide +kernel) (by decide +kernel)
set_option maxRecDepth 20000 in
theorem gX5_cannon_X5_no : GoodIn wsX5_cannon (wsV RX5 55 RX5 yX5_no wsX5_no) := goodIn_app (goodIn_of _ (by decide +kernel)) ggX5_cannon_X5_no
theorem dX5_cannon_0 : decode cX5_cannon 0 = .ok (.aload_n 0, 1) := by decide +kernel
theorem dX5_cannon_1 : decode cX5_cannon 1 = .ok (.iconst 0, 1) := by decide +kernel
theorem dX5_cannon_2 : decode cX5_cannon 2 = .ok (.putfield 37, 3) := by decide +kernel
theorem dX5_cannon_5 : decode cX5_cannon 5 = .ok (.aload_n 0, 1) := by decide +kernel
theorem dX5_cannon_6 : decode cX5_cannon 6 = .ok (.iload_n 1, 1) := by decide +kernel
theorem dX5_cannon_7 : decode cX5_cannon 7 = .ok (.invokevirtual 62, 3) := by decide +kernel
theorem dX5_cannon_10 : decode cX5_cannon 10 = .ok (.ifCond .ne 9, 3) := by decide +kernel
theorem dX5_cannon_13 : decode cX5_cannon 13 = .ok (.aload_n 0, 1) := by decide +kernel
theorem dX5_cannon_14 : decode cX5_cannon 14 = .ok (.iconst 1, 1) := by decide +kernel
theorem dX5_cannon_15 : decode cX5_cannon 15 = .ok (.invokevirtual 55, 3) := by decide +kernel
theorem dX5_cannon_18 : decode cX5_cannon 18 = .ok (.ireturn, 1) := by decide +kernel
theorem dX5_cannon_19 : decode cX5_cannon 19 = .ok (.aload_n 0, 1) := by decide +kernel
theorem dX5_cannon_20 : decode cX5_cannon 20 = .ok (.getfield 30, 3) := by decide +kernel
theorem dX5_cannon_23 : decode cX5_cannon 23 = .ok (.getfield 65, 3) := by decide +kernel
theorem dX5_cannon_26 : decode cX5_cannon 26 = .ok (.iconst 3, 1) := by decide +kernel
theorem dX5_cannon_27 : decode cX5_cannon 27 = .ok (.if_icmp .lt 17, 3) := by decide +kernel
theorem dX5_cannon_30 : decode cX5_cannon 30 = .ok (.aload_n 0, 1) := by decide +kernel
theorem dX5_cannon_31 : decode cX5_cannon 31 = .ok (.getfield 30, 3) := by decide +kernel
theorem dX5_cannon_34 : decode cX5_cannon 34 = .ok (.getfield 59, 3) := by decide +kernel
theorem dX5_cannon_37 : decode cX5_cannon 37 = .ok (.iload_n 1, 1) := by decide +kernel
theorem dX5_cannon_38 : decode cX5_cannon 38 = .ok (.iaload, 1) := by decide +kernel
theorem dX5_cannon_39 : decode cX5_cannon 39 = .ok (.bipush 90, 2) := by decide +kernel
theorem dX5_cannon_41 : decode cX5_cannon 41 = .ok (.if_icmp .ne 9, 3) := by decide +kernel
theorem dX5_cannon_44 : decode cX5_cannon 44 = .ok (.aload_n 0, 1) := by decide +kernel
theorem dX5_cannon_45 : decode cX5_cannon 45 = .ok (.iconst 2, 1) := by decide +kernel
theorem dX5_cannon_46 : decode cX5_cannon 46 = .ok (.invokevirtual 55, 3) := by decide +kernel
theorem dX5_cannon_49 : decode cX5_cannon 49 = .ok (.ireturn, 1) := by decide +kernel
theorem dX5_cannon_50 : decode cX5_cannon 50 = .ok (.aload_n 0, 1) := by decide +kernel
theorem dX5_cannon_51 : decode cX5_cannon 51 = .ok (.getfield 30, 3) := by decide +kernel
theorem dX5_cannon_54 : decode cX5_cannon 54 = .ok (.dup, 1) := by decide +kernel
theorem dX5_cannon_55 : decode cX5_cannon 55 = .ok (.getfield 65, 3) := by decide +kernel
theorem dX5_cannon_58 : decode cX5_cannon 58 = .ok (.iconst 3, 1) := by decide +kernel
theorem dX5_cannon_59 : decode cX5_cannon 59 = .ok (.isub, 1) := by decide +kernel
theorem dX5_cannon_60 : decode cX5_cannon 60 = .ok (.putfield 65, 3) := by decide +kernel
theorem dX5_cannon_63 : decode cX5_cannon 63 = .ok (.aload_n 0, 1) := by decide +kernel
theorem dX5_cannon_64 : decode cX5_cannon 64 = .ok (.getfield 30, 3) := by decide +kernel
theorem dX5_cannon_67 : decode cX5_cannon 67 = .ok (.getfield 59, 3) := by decide +kernel
theorem dX5_cannon_70 : decode cX5_cannon 70 = .ok (.iload_n 1, 1) := by decide +kernel
theorem dX5_cannon_71 : decode cX5_cannon 71 = .ok (.bipush 90, 2) := by decide +kernel
theorem dX5_cannon_73 : decode cX5_cannon 73 = .ok (.aload_n 0, 1) := by decide +kernel
theorem dX5_cannon_74 : decode cX5_cannon 74 = .ok (.getfield 30, 3) := by decide +kernel
theorem dX5_cannon_77 : decode cX5_cannon 77 = .ok (.getfield 59, 3) := by decide +kernel
theorem dX5_cannon_80 : decode cX5_cannon 80 = .ok (.iload_n 1, 1) := by decide +kernel
theorem dX5_cannon_81 : decode cX5_cannon 81 = .ok (.iaload, 1) := by decide +kernel
theorem dX5_cannon_82 : decode cX5_cannon 82 = .ok (.bipush 12, 2) := by decide +kernel
theorem dX5_cannon_84 : decode cX5_cannon 84 = .ok (.iadd, 1) := by decide +kernel
theorem dX5_cannon_85 : decode cX5_cannon 85 = .ok (.invokestatic 68, 3) := by decide +kernel
theorem dX5_cannon_88 : decode cX5_cannon 88 = .ok (.iastore, 1) := by decide +kernel
theorem dX5_cannon_89 : decode cX5_cannon 89 = .ok (.aload_n 0, 1) := by decide +kernel
theorem dX5_cannon_90 : decode cX5_cannon 90 = .ok (.getfield 30, 3) := by decide +kernel
theorem dX5_cannon_93 : decode cX5_cannon 93 = .ok (.getfield 59, 3) := by decide +kernel
theorem dX5_cannon_96 : decode cX5_cannon 96 = .ok (.iload_n 1, 1) := by decide +kernel
theorem dX5_cannon_97 : decode cX5_cannon 97 = .ok (.iaload, 1) := by decide +kernel
theorem dX5_cannon_98 : decode cX5_cannon 98 = .ok (.ireturn, 1) := by decide +kernel
set_option maxRecDepth 20000 in
theorem ggX5_blast_X5_isRun : GoodIn wsX5_blast wsX5_isRun := goodIn_r _ [8, 9, 10, 11, 7, 12, 17, 18, 19, 20, 21, 22, 23, 24, 25, 26] (by decide +kernel) (by decide +kernel)
set_option maxRecDepth 20000 in
theorem gX5_blast_X5_isRun : GoodIn wsX5_blast (wsV RX5 62 RX5 yX5_isRun wsX5_isRun) := goodIn_app (goodIn_of _ (by decide +kernel)) ggX5_blast_X5_isRun
set_option maxRecDepth 20000 in
theorem ggX5_blast_X5_no : GoodIn wsX5_blast wsX5_no := goodIn_r _ [16, 1, 17, 18, 19, 20, 21, 22, 23, 24, 25, 26] (by decide +kernel) (by decide +kernel)
set_option maxRecDepth 20000 in
theorem gX5_blast_X5_no : GoodIn wsX5_blast (wsV RX5 55 RX5 yX5_no wsX5_no) := goodIn_app (goodIn_of _ (by decide +kernel)) ggX5_blast_X5_no
theorem dX5_blast_0 : decode cX5_blast 0 = .ok (.aload_n 0, 1) := by decide +kernel
theorem dX5_blast_1 : decode cX5_blast 1 = .ok (.iconst 0, 1) := by decide +kernel
theorem dX5_blast_2 : decode cX5_blast 2 = .ok (.putfield 37, 3) := by decide +kernel
theorem dX5_blast_5 : decode cX5_blast 5 = .ok (.aload_n 0, 1) := by decide +kernel
theorem dX5_blast_6 : decode cX5_blast 6 = .ok (.iload_n 1, 1) := by decide +kernel
theorem dX5_blast_7 : decode cX5_blast 7 = .ok (.invokevirtual 62, 3) := by decide +kernel
theorem dX5_blast_10 : decode cX5_blast 10 = .ok (.ifCond .ne 9, 3) := by decide +kernel
theorem dX5_blast_13 : decode cX5_blast 13 = .ok (.aload_n 0, 1) := by decide +kernel
theorem dX5_blast_14 : decode cX5_blast 14 = .ok (.iconst 1, 1) := by decide +kernel
theorem dX5_blast_15 : decode cX5_blast 15 = .ok (.invokevirtual 55, 3) := by decide +kernel
theorem dX5_blast_18 : decode cX5_blast 18 = .ok (.ireturn, 1) := by decide +kernel
theorem dX5_blast_19 : decode cX5_blast 19 = .ok (.aload_n 0, 1) := by decide +kernel
theorem dX5_blast_20 : decode cX5_blast 20 = .ok (.getfield 30, 3) := by decide +kernel
theorem dX5_blast_23 : decode cX5_blast 23 = .ok (.getfield 59, 3) := by decide +kernel
theorem dX5_blast_26 : decode cX5_blast 26 = .ok (.iload_n 1, 1) := by decide +kernel
theorem dX5_blast_27 : decode cX5_blast 27 = .ok (.iaload, 1) := by decide +kernel
theorem dX5_blast_28 : decode cX5_blast 28 = .ok (.aload_n 0, 1) := by decide +kernel
theorem dX5_blast_29 : decode cX5_blast 29 = .ok (.getfield 19, 3) := by decide +kernel
theorem dX5_blast_32 : decode cX5_blast 32 = .ok (.iload_n 1, 1) := by decide +kernel
theorem dX5_blast_33 : decode cX5_blast 33 = .ok (.iaload, 1) := by decide +kernel
theorem dX5_blast_34 : decode cX5_blast 34 = .ok (.imul, 1) := by decide +kernel
theorem dX5_blast_35 : decode cX5_blast 35 = .ok (.sipush 300, 3) := by decide +kernel
theorem dX5_blast_38 : decode cX5_blast 38 = .ok (.if_icmp .ge 9, 3) := by decide +kernel
theorem dX5_blast_41 : decode cX5_blast 41 = .ok (.aload_n 0, 1) := by decide +kernel
theorem dX5_blast_42 : decode cX5_blast 42 = .ok (.iconst 2, 1) := by decide +kernel
theorem dX5_blast_43 : decode cX5_blast 43 = .ok (.invokevirtual 55, 3) := by decide +kernel
theorem dX5_blast_46 : decode cX5_blast 46 = .ok (.ireturn, 1) := by decide +kernel
theorem dX5_blast_47 : decode cX5_blast 47 = .ok (.aload_n 0, 1) := by decide +kernel
theorem dX5_blast_48 : decode cX5_blast 48 = .ok (.getfield 30, 3) := by decide +kernel
theorem dX5_blast_51 : decode cX5_blast 51 = .ok (.getfield 59, 3) := by decide +kernel
theorem dX5_blast_54 : decode cX5_blast 54 = .ok (.iload_n 1, 1) := by decide +kernel
theorem dX5_blast_55 : decode cX5_blast 55 = .ok (.iaload, 1) := by decide +kernel
theorem dX5_blast_56 : decode cX5_blast 56 = .ok (.istore_n 2, 1) := by decide +kernel
theorem dX5_blast_57 : decode cX5_blast 57 = .ok (.aload_n 0, 1) := by decide +kernel
theorem dX5_blast_58 : decode cX5_blast 58 = .ok (.getfield 30, 3) := by decide +kernel
theorem dX5_blast_61 : decode cX5_blast 61 = .ok (.getfield 59, 3) := by decide +kernel
theorem dX5_blast_64 : decode cX5_blast 64 = .ok (.iload_n 1, 1) := by decide +kernel
theorem dX5_blast_65 : decode cX5_blast 65 = .ok (.iload_n 2, 1) := by decide +kernel
theorem dX5_blast_66 : decode cX5_blast 66 = .ok (.iconst 2, 1) := by decide +kernel
theorem dX5_blast_67 : decode cX5_blast 67 = .ok (.idiv, 1) := by decide +kernel
theorem dX5_blast_68 : decode cX5_blast 68 = .ok (.iastore, 1) := by decide +kernel
theorem dX5_blast_69 : decode cX5_blast 69 = .ok (.iload_n 2, 1) := by decide +kernel
theorem dX5_blast_70 : decode cX5_blast 70 = .ok (.iload_n 2, 1) := by decide +kernel
theorem dX5_blast_71 : decode cX5_blast 71 = .ok (.iconst 2, 1) := by decide +kernel
theorem dX5_blast_72 : decode cX5_blast 72 = .ok (.idiv, 1) := by decide +kernel
theorem dX5_blast_73 : decode cX5_blast 73 = .ok (.isub, 1) := by decide +kernel
theorem dX5_blast_74 : decode cX5_blast 74 = .ok (.ireturn, 1) := by decide +kernel
set_option maxRecDepth 20000 in
theorem ggX5_skier_X5_isIn : GoodIn wsX5_skier wsX5_isIn := goodIn_r _ [8] (by decide +kernel) (by decide +kernel)
set_option maxRecDepth 20000 in
theorem gX5_skier_X5_isIn : GoodIn wsX5_skier (va_wsS RX5 41 yX5_isIn wsX5_isIn) := goodIn_app (goodIn_of _ (by decide +kernel)) ggX5_skier_X5_isIn
set_option maxRecDepth 20000 in
theorem ggX5_skier_X5_no : GoodIn wsX5_skier wsX5_no := goodIn_r _ [12, 1, 13, 14, 15, 16, 17, 18, 19, 20, 21, 22] (by decide +kernel) (by decide +kernel)
set_option maxRecDepth 20000 in
theorem gX5_skier_X5_no : GoodIn wsX5_skier (wsV RX5 55 RX5 yX5_no wsX5_no) := goodIn_app (goodIn_of _ (by decide +kernel)) ggX5_skier_X5_no
theorem dX5_skier_0 : decode cX5_skier 0 = .ok (.aload_n 0, 1) := by decide +kernel
theorem dX5_skier_1 : decode cX5_skier 1 = .ok (.iconst 0, 1) := by decide +kernel
theorem dX5_skier_2 : decode cX5_skier 2 = .ok (.putfield 37, 3) := by decide +kernel
theorem dX5_skier_5 : decode cX5_skier 5 = .ok (.iload_n 1, 1) := by decide +kernel
theorem dX5_skier_6 : decode cX5_skier 6 = .ok (.iconst 1, 1) := by decide +kernel
theorem dX5_skier_7 : decode cX5_skier 7 = .ok (.bipush 9, 2) := by decide +kernel
theorem dX5_skier_9 : decode cX5_skier 9 = .ok (.invokestatic 41, 3) := by decide +kernel
theorem dX5_skier_12 : decode cX5_skier 12 = .ok (.ifCond .eq 13, 3) := by decide +kernel
theorem dX5_skier_15 : decode cX5_skier 15 = .ok (.iload_n 2, 1) := by decide +kernel
theorem dX5_skier_16 : decode cX5_skier 16 = .ok (.iconst 0, 1) := by decide +kernel
theorem dX5_skier_17 : decode cX5_skier 17 = .ok (.bipush 60, 2) := by decide +kernel
theorem dX5_skier_19 : decode cX5_skier 19 = .ok (.invokestatic 41, 3) := by decide +kernel
theorem dX5_skier_22 : decode cX5_skier 22 = .ok (.ifCond .ne 9, 3) := by decide +kernel
theorem dX5_skier_25 : decode cX5_skier 25 = .ok (.aload_n 0, 1) := by decide +kernel
theorem dX5_skier_26 : decode cX5_skier 26 = .ok (.iconst 1, 1) := by decide +kernel
theorem dX5_skier_27 : decode cX5_skier 27 = .ok (.invokevirtual 55, 3) := by decide +kernel
theorem dX5_skier_30 : decode cX5_skier 30 = .ok (.ireturn, 1) := by decide +kernel
theorem dX5_skier_31 : decode cX5_skier 31 = .ok (.aload_n 0, 1) := by decide +kernel
theorem dX5_skier_32 : decode cX5_skier 32 = .ok (.getfield 48, 3) := by decide +kernel
theorem dX5_skier_35 : decode cX5_skier 35 = .ok (.bipush 8, 2) := by decide +kernel
theorem dX5_skier_37 : decode cX5_skier 37 = .ok (.if_icmp .ne 9, 3) := by decide +kernel
theorem dX5_skier_40 : decode cX5_skier 40 = .ok (.aload_n 0, 1) := by decide +kernel
theorem dX5_skier_41 : decode cX5_skier 41 = .ok (.iconst 2, 1) := by decide +kernel
theorem dX5_skier_42 : decode cX5_skier 42 = .ok (.invokevirtual 55, 3) := by decide +kernel
theorem dX5_skier_45 : decode cX5_skier 45 = .ok (.ireturn, 1) := by decide +kernel
theorem dX5_skier_46 : decode cX5_skier 46 = .ok (.aload_n 0, 1) := by decide +kernel
theorem dX5_skier_47 : decode cX5_skier 47 = .ok (.getfield 22, 3) := by decide +kernel
theorem dX5_skier_50 : decode cX5_skier 50 = .ok (.aload_n 0, 1) := by decide +kernel
theorem dX5_skier_51 : decode cX5_skier 51 = .ok (.getfield 48, 3) := by decide +kernel
theorem dX5_skier_54 : decode cX5_skier 54 = .ok (.iload_n 1, 1) := by decide +kernel
theorem dX5_skier_55 : decode cX5_skier 55 = .ok (.iastore, 1) := by decide +kernel
theorem dX5_skier_56 : decode cX5_skier 56 = .ok (.aload_n 0, 1) := by decide +kernel
theorem dX5_skier_57 : decode cX5_skier 57 = .ok (.getfield 30, 3) := by decide +kernel
theorem dX5_skier_60 : decode cX5_skier 60 = .ok (.getfield 74, 3) := by decide +kernel
theorem dX5_skier_63 : decode cX5_skier 63 = .ok (.aload_n 0, 1) := by decide +kernel
theorem dX5_skier_64 : decode cX5_skier 64 = .ok (.getfield 48, 3) := by decide +kernel
theorem dX5_skier_67 : decode cX5_skier 67 = .ok (.iload_n 2, 1) := by decide +kernel
theorem dX5_skier_68 : decode cX5_skier 68 = .ok (.iastore, 1) := by decide +kernel
theorem dX5_skier_69 : decode cX5_skier 69 = .ok (.aload_n 0, 1) := by decide +kernel
theorem dX5_skier_70 : decode cX5_skier 70 = .ok (.dup, 1) := by decide +kernel
theorem dX5_skier_71 : decode cX5_skier 71 = .ok (.getfield 48, 3) := by decide +kernel
theorem dX5_skier_74 : decode cX5_skier 74 = .ok (.iconst 1, 1) := by decide +kernel
theorem dX5_skier_75 : decode cX5_skier 75 = .ok (.iadd, 1) := by decide +kernel
theorem dX5_skier_76 : decode cX5_skier 76 = .ok (.putfield 48, 3) := by decide +kernel
theorem dX5_skier_79 : decode cX5_skier 79 = .ok (.aload_n 0, 1) := by decide +kernel
theorem dX5_skier_80 : decode cX5_skier 80 = .ok (.getfield 48, 3) := by decide +kernel
theorem dX5_skier_83 : decode cX5_skier 83 = .ok (.iconst 1, 1) := by decide +kernel
theorem dX5_skier_84 : decode cX5_skier 84 = .ok (.isub, 1) := by decide +kernel
theorem dX5_skier_85 : decode cX5_skier 85 = .ok (.ireturn, 1) := by decide +kernel
set_option maxRecDepth 20000 in
theorem ggX5_wax_X5_isSkier : GoodIn wsX5_wax wsX5_isSkier := goodIn_r _ [7, 8, 9, 10, 6, 11, 16, 17, 18, 19, 20, 21, 22, 23, 24, 25] (by decide +kernel) (by decide +kernel)
set_option maxRecDepth 20000 in
theorem gX5_wax_X5_isSkier : GoodIn wsX5_wax (wsV RX5 77 RX5 yX5_isSkier wsX5_isSkier) := goodIn_app (goodIn_of _ (by decide +kernel)) ggX5_wax_X5_isSkier
set_option maxRecDepth 20000 in
theorem ggX5_wax_X5_no : GoodIn wsX5_wax wsX5_no := goodIn_r _ [15, 1, 16, 17, 18, 19, 20, 21, 22, 23, 24, 25] (by decide +kernel) (by decide +kernel)
set_option maxRecDepth 20000 in
theorem gX5_wax_X5_no : GoodIn wsX5_wax (wsV RX5 55 RX5 yX5_no wsX5_no) := goodIn_app (goodIn_of _ (by decide +kernel)) ggX5_wax_X5_no
set_option maxRecDepth 20000 in
theorem ggX5_wax_X5_isIn : GoodIn wsX5_wax wsX5_isIn := goodIn_r _ [11] (by decide +kernel) (by decide +kernel)
set_option maxRecDepth 20000 in
theorem gX5_wax_X5_isIn : GoodIn wsX5_wax (va_wsS RX5 41 yX5_isIn wsX5_isIn) := goodIn_app (goodIn_of _ (by decide +kernel)) ggX5_wax_X5_isIn
theorem dX5_wax_0 : decode cX5_wax 0 = .ok (.aload_n 0, 1) := by decide +kernel
theorem dX5_wax_1 : decode cX5_wax 1 = .ok (.iconst 0, 1) := by decide +kernel
theorem dX5_wax_2 : decode cX5_wax 2 = .ok (.putfield 37, 3) := by decide +kernel
theorem dX5_wax_5 : decode cX5_wax 5 = .ok (.aload_n 0, 1) := by decide +kernel
theorem dX5_wax_6 : decode cX5_wax 6 = .ok (.iload_n 1, 1) := by decide +kernel
theorem dX5_wax_7 : decode cX5_wax 7 = .ok (.invokevirtual 77, 3) := by decide +kernel
theorem dX5_wax_10 : decode cX5_wax 10 = .ok (.ifCond .ne 9, 3) := by decide +kernel
theorem dX5_wax_13 : decode cX5_wax 13 = .ok (.aload_n 0, 1) := by decide +kernel
theorem dX5_wax_14 : decode cX5_wax 14 = .ok (.iconst 1, 1) := by decide +kernel
theorem dX5_wax_15 : decode cX5_wax 15 = .ok (.invokevirtual 55, 3) := by decide +kernel
theorem dX5_wax_18 : decode cX5_wax 18 = .ok (.ireturn, 1) := by decide +kernel
theorem dX5_wax_19 : decode cX5_wax 19 = .ok (.iload_n 2, 1) := by decide +kernel
theorem dX5_wax_20 : decode cX5_wax 20 = .ok (.iconst 0, 1) := by decide +kernel
theorem dX5_wax_21 : decode cX5_wax 21 = .ok (.iconst 3, 1) := by decide +kernel
theorem dX5_wax_22 : decode cX5_wax 22 = .ok (.invokestatic 41, 3) := by decide +kernel
theorem dX5_wax_25 : decode cX5_wax 25 = .ok (.ifCond .ne 9, 3) := by decide +kernel
theorem dX5_wax_28 : decode cX5_wax 28 = .ok (.aload_n 0, 1) := by decide +kernel
theorem dX5_wax_29 : decode cX5_wax 29 = .ok (.iconst 2, 1) := by decide +kernel
theorem dX5_wax_30 : decode cX5_wax 30 = .ok (.invokevirtual 55, 3) := by decide +kernel
theorem dX5_wax_33 : decode cX5_wax 33 = .ok (.ireturn, 1) := by decide +kernel
theorem dX5_wax_34 : decode cX5_wax 34 = .ok (.aload_n 0, 1) := by decide +kernel
theorem dX5_wax_35 : decode cX5_wax 35 = .ok (.getfield 30, 3) := by decide +kernel
theorem dX5_wax_38 : decode cX5_wax 38 = .ok (.getfield 74, 3) := by decide +kernel
theorem dX5_wax_41 : decode cX5_wax 41 = .ok (.iload_n 1, 1) := by decide +kernel
theorem dX5_wax_42 : decode cX5_wax 42 = .ok (.iaload, 1) := by decide +kernel
theorem dX5_wax_43 : decode cX5_wax 43 = .ok (.iconst 2, 1) := by decide +kernel
theorem dX5_wax_44 : decode cX5_wax 44 = .ok (.if_icmp .ge 9, 3) := by decide +kernel
theorem dX5_wax_47 : decode cX5_wax 47 = .ok (.aload_n 0, 1) := by decide +kernel
theorem dX5_wax_48 : decode cX5_wax 48 = .ok (.iconst 3, 1) := by decide +kernel
theorem dX5_wax_49 : decode cX5_wax 49 = .ok (.invokevirtual 55, 3) := by decide +kernel
theorem dX5_wax_52 : decode cX5_wax 52 = .ok (.ireturn, 1) := by decide +kernel
theorem dX5_wax_53 : decode cX5_wax 53 = .ok (.aload_n 0, 1) := by decide +kernel
theorem dX5_wax_54 : decode cX5_wax 54 = .ok (.getfield 30, 3) := by decide +kernel
theorem dX5_wax_57 : decode cX5_wax 57 = .ok (.getfield 74, 3) := by decide +kernel
theorem dX5_wax_60 : decode cX5_wax 60 = .ok (.iload_n 1, 1) := by decide +kernel
theorem dX5_wax_61 : decode cX5_wax 61 = .ok (.dup2, 1) := by decide +kernel
theorem dX5_wax_62 : decode cX5_wax 62 = .ok (.iaload, 1) := by decide +kernel
theorem dX5_wax_63 : decode cX5_wax 63 = .ok (.iconst 2, 1) := by decide +kernel
theorem dX5_wax_64 : decode cX5_wax 64 = .ok (.isub, 1) := by decide +kernel
theorem dX5_wax_65 : decode cX5_wax 65 = .ok (.iastore, 1) := by decide +kernel
theorem dX5_wax_66 : decode cX5_wax 66 = .ok (.aload_n 0, 1) := by decide +kernel
theorem dX5_wax_67 : decode cX5_wax 67 = .ok (.getfield 30, 3) := by decide +kernel
theorem dX5_wax_70 : decode cX5_wax 70 = .ok (.dup, 1) := by decide +kernel
theorem dX5_wax_71 : decode cX5_wax 71 = .ok (.getfield 65, 3) := by decide +kernel
theorem dX5_wax_74 : decode cX5_wax 74 = .ok (.iconst 2, 1) := by decide +kernel
theorem dX5_wax_75 : decode cX5_wax 75 = .ok (.iadd, 1) := by decide +kernel
theorem dX5_wax_76 : decode cX5_wax 76 = .ok (.putfield 65, 3) := by decide +kernel
theorem dX5_wax_79 : decode cX5_wax 79 = .ok (.aload_n 0, 1) := by decide +kernel
theorem dX5_wax_80 : decode cX5_wax 80 = .ok (.getfield 30, 3) := by decide +kernel
theorem dX5_wax_83 : decode cX5_wax 83 = .ok (.getfield 80, 3) := by decide +kernel
theorem dX5_wax_86 : decode cX5_wax 86 = .ok (.iload_n 1, 1) := by decide +kernel
theorem dX5_wax_87 : decode cX5_wax 87 = .ok (.iload_n 2, 1) := by decide +kernel
theorem dX5_wax_88 : decode cX5_wax 88 = .ok (.iastore, 1) := by decide +kernel
theorem dX5_wax_89 : decode cX5_wax 89 = .ok (.aload_n 0, 1) := by decide +kernel
theorem dX5_wax_90 : decode cX5_wax 90 = .ok (.getfield 30, 3) := by decide +kernel
theorem dX5_wax_93 : decode cX5_wax 93 = .ok (.getfield 83, 3) := by decide +kernel
theorem dX5_wax_96 : decode cX5_wax 96 = .ok (.iload_n 1, 1) := by decide +kernel
theorem dX5_wax_97 : decode cX5_wax 97 = .ok (.bipush 10, 2) := by decide +kernel
theorem dX5_wax_99 : decode cX5_wax 99 = .ok (.iastore, 1) := by decide +kernel
theorem dX5_wax_100 : decode cX5_wax 100 = .ok (.aload_n 0, 1) := by decide +kernel
theorem dX5_wax_101 : decode cX5_wax 101 = .ok (.getfield 30, 3) := by decide +kernel
theorem dX5_wax_104 : decode cX5_wax 104 = .ok (.getfield 74, 3) := by decide +kernel
theorem dX5_wax_107 : decode cX5_wax 107 = .ok (.iload_n 1, 1) := by decide +kernel
theorem dX5_wax_108 : decode cX5_wax 108 = .ok (.iaload, 1) := by decide +kernel
theorem dX5_wax_109 : decode cX5_wax 109 = .ok (.ireturn, 1) := by decide +kernel
set_option maxRecDepth 20000 in
theorem ggX5_join_X5_isSkier : GoodIn wsX5_join wsX5_isSkier := goodIn_r _ [7, 8, 9, 10, 6, 11, 39, 40, 41, 42, 43, 44, 45, 46, 47, 48] (by decide +kernel) (by decide +kernel)
set_option maxRecDepth 20000 in
theorem gX5_join_X5_isSkier : GoodIn wsX5_join (wsV RX5 77 RX5 yX5_isSkier wsX5_isSkier) := goodIn_app (goodIn_of _ (by decide +kernel)) ggX5_join_X5_isSkier
set_option maxRecDepth 20000 in
theorem ggX5_join_X5_isTow : GoodIn wsX5_join wsX5_isTow := goodIn_r _ [15, 9, 10, 6, 11] (by decide +kernel) (by decide +kernel)
set_option maxRecDepth 20000 in
theorem gX5_join_X5_isTow : GoodIn wsX5_join (wsV RX5 51 RX5 yX5_isTow wsX5_isTow) := goodIn_app (goodIn_of _ (by decide +kernel)) ggX5_join_X5_isTow
set_option maxRecDepth 20000 in
theorem ggX5_join_X5_no : GoodIn wsX5_join wsX5_no := goodIn_r _ [19, 1, 39, 40, 41, 42, 43, 44, 45, 46, 47, 48] (by decide +kernel) (by decide +kernel)
set_option maxRecDepth 20000 in
theorem gX5_join_X5_no : GoodIn wsX5_join (wsV RX5 55 RX5 yX5_no wsX5_no) := goodIn_app (goodIn_of _ (by decide +kernel)) ggX5_join_X5_no
set_option maxRecDepth 20000 in
theorem ggX5_join_X4_leave : GoodIn wsX5_join wsX4_leave := goodIn_r _ [24, 25, 26, 27, 28, 23, 29, 30, 31, 32, 33, 34, 49, 50, 51, 52, 53, 54, 55, 56, 57, 58, 59, 60, 61, 62] (by decide +kernel) (by decide +kernel)
set_option maxRecDepth 20000 in
theorem gX5_join_X4_leave : GoodIn wsX5_join (wsV RX5 86 RX4 yX4_leave wsX4_leave) := goodIn_app (goodIn_of _ (by decide +kernel)) ggX5_join_X4_leave
set_option maxRecDepth 20000 in
theorem ggX5_join_X4_in : GoodIn wsX5_join wsX4_in := goodIn_r _ [38, 25, 30, 49, 50, 51, 52, 53, 54, 55, 56, 57, 58, 59, 60, 61, 62] (by decide +kernel) (by decide +kernel)
set_option maxRecDepth 20000 in
theorem gX5_join_X4_in : GoodIn wsX5_join (wsV RX5 89 RX4 yX4_in wsX4_in) := goodIn_app (goodIn_of _ (by decide +kernel)) ggX5_join_X4_in
theorem dX5_join_0 : decode cX5_join 0 = .ok (.aload_n 0, 1) := by decide +kernel
theorem dX5_join_1 : decode cX5_join 1 = .ok (.iconst 0, 1) := by decide +kernel
theorem dX5_join_2 : decode cX5_join 2 = .ok (.putfield 37, 3) := by decide +kernel
theorem dX5_join_5 : decode cX5_join 5 = .ok (.aload_n 0, 1) := by decide +kernel
theorem dX5_join_6 : decode cX5_join 6 = .ok (.iload_n 1, 1) := by decide +kernel
theorem dX5_join_7 : decode cX5_join 7 = .ok (.invokevirtual 77, 3) := by decide +kernel
theorem dX5_join_10 : decode cX5_join 10 = .ok (.ifCond .eq 11, 3) := by decide +kernel
theorem dX5_join_13 : decode cX5_join 13 = .ok (.aload_n 0, 1) := by decide +kernel
theorem dX5_join_14 : decode cX5_join 14 = .ok (.iload_n 2, 1) := by decide +kernel
theorem dX5_join_15 : decode cX5_join 15 = .ok (.invokevirtual 51, 3) := by decide +kernel
theorem dX5_join_18 : decode cX5_join 18 = .ok (.ifCond .ne 9, 3) := by decide +kernel
theorem dX5_join_21 : decode cX5_join 21 = .ok (.aload_n 0, 1) := by decide +kernel
theorem dX5_join_22 : decode cX5_join 22 = .ok (.iconst 1, 1) := by decide +kernel
theorem dX5_join_23 : decode cX5_join 23 = .ok (.invokevirtual 55, 3) := by decide +kernel
theorem dX5_join_26 : decode cX5_join 26 = .ok (.ireturn, 1) := by decide +kernel
theorem dX5_join_27 : decode cX5_join 27 = .ok (.aload_n 0, 1) := by decide +kernel
theorem dX5_join_28 : decode cX5_join 28 = .ok (.getfield 30, 3) := by decide +kernel
theorem dX5_join_31 : decode cX5_join 31 = .ok (.iload_n 1, 1) := by decide +kernel
theorem dX5_join_32 : decode cX5_join 32 = .ok (.invokevirtual 86, 3) := by decide +kernel
theorem dX5_join_35 : decode cX5_join 35 = .ok (.pop, 1) := by decide +kernel
theorem dX5_join_36 : decode cX5_join 36 = .ok (.aload_n 0, 1) := by decide +kernel
theorem dX5_join_37 : decode cX5_join 37 = .ok (.getfield 30, 3) := by decide +kernel
theorem dX5_join_40 : decode cX5_join 40 = .ok (.iload_n 2, 1) := by decide +kernel
theorem dX5_join_41 : decode cX5_join 41 = .ok (.iload_n 1, 1) := by decide +kernel
theorem dX5_join_42 : decode cX5_join 42 = .ok (.invokevirtual 89, 3) := by decide +kernel
theorem dX5_join_45 : decode cX5_join 45 = .ok (.aload_n 0, 1) := by decide +kernel
theorem dX5_join_46 : decode cX5_join 46 = .ok (.getfield 30, 3) := by decide +kernel
theorem dX5_join_49 : decode cX5_join 49 = .ok (.getfield 93, 3) := by decide +kernel
theorem dX5_join_52 : decode cX5_join 52 = .ok (.iload_n 2, 1) := by decide +kernel
theorem dX5_join_53 : decode cX5_join 53 = .ok (.iaload, 1) := by decide +kernel
theorem dX5_join_54 : decode cX5_join 54 = .ok (.iconst 1, 1) := by decide +kernel
theorem dX5_join_55 : decode cX5_join 55 = .ok (.isub, 1) := by decide +kernel
theorem dX5_join_56 : decode cX5_join 56 = .ok (.ireturn, 1) := by decide +kernel
set_option maxRecDepth 20000 in
theorem ggX5_leave_X5_isSkier : GoodIn wsX5_leave wsX5_isSkier := goodIn_r _ [7, 8, 9, 10, 6, 11, 31, 32, 33, 34, 35, 36, 37, 38, 39, 40] (by decide +kernel) (by decide +kernel)
set_option maxRecDepth 20000 in
theorem gX5_leave_X5_isSkier : GoodIn wsX5_leave (wsV RX5 77 RX5 yX5_isSkier wsX5_isSkier) := goodIn_app (goodIn_of _ (by decide +kernel)) ggX5_leave_X5_isSkier
set_option maxRecDepth 20000 in
theorem ggX5_leave_X4_leave : GoodIn wsX5_leave wsX4_leave := goodIn_r _ [16, 17, 18, 19, 20, 15, 21, 22, 23, 24, 25, 26, 41, 42, 43, 44, 45, 46, 47, 48, 49, 50, 51, 52, 53, 54] (by decide +kernel) (by decide +kernel)
set_option maxRecDepth 20000 in
theorem gX5_leave_X4_leave : GoodIn wsX5_leave (wsV RX5 86 RX4 yX4_leave wsX4_leave) := goodIn_app (goodIn_of _ (by decide +kernel)) ggX5_leave_X4_leave
set_option maxRecDepth 20000 in
theorem ggX5_leave_X5_no : GoodIn wsX5_leave wsX5_no := goodIn_r _ [30, 1, 31, 32, 33, 34, 35, 36, 37, 38, 39, 40] (by decide +kernel) (by decide +kernel)
set_option maxRecDepth 20000 in
theorem gX5_leave_X5_no : GoodIn wsX5_leave (wsV RX5 55 RX5 yX5_no wsX5_no) := goodIn_app (goodIn_of _ (by decide +kernel)) ggX5_leave_X5_no
theorem dX5_leave_0 : decode cX5_leave 0 = .ok (.aload_n 0, 1) := by decide +kernel
theorem dX5_leave_1 : decode cX5_leave 1 = .ok (.iconst 0, 1) := by decide +kernel
theorem dX5_leave_2 : decode cX5_leave 2 = .ok (.putfield 37, 3) := by decide +kernel
theorem dX5_leave_5 : decode cX5_leave 5 = .ok (.aload_n 0, 1) := by decide +kernel
theorem dX5_leave_6 : decode cX5_leave 6 = .ok (.iload_n 1, 1) := by decide +kernel
theorem dX5_leave_7 : decode cX5_leave 7 = .ok (.invokevirtual 77, 3) := by decide +kernel
theorem dX5_leave_10 : decode cX5_leave 10 = .ok (.ifCond .eq 14, 3) := by decide +kernel
theorem dX5_leave_13 : decode cX5_leave 13 = .ok (.aload_n 0, 1) := by decide +kernel
theorem dX5_leave_14 : decode cX5_leave 14 = .ok (.getfield 30, 3) := by decide +kernel
theorem dX5_leave_17 : decode cX5_leave 17 = .ok (.iload_n 1, 1) := by decide +kernel
theorem dX5_leave_18 : decode cX5_leave 18 = .ok (.invokevirtual 86, 3) := by decide +kernel
theorem dX5_leave_21 : decode cX5_leave 21 = .ok (.goto 16, 3) := by decide +kernel
theorem dX5_leave_24 : decode cX5_leave 24 = .ok (.aload_n 0, 1) := by decide +kernel
theorem dX5_leave_25 : decode cX5_leave 25 = .ok (.iconst 1, 1) := by decide +kernel
theorem dX5_leave_26 : decode cX5_leave 26 = .ok (.invokevirtual 55, 3) := by decide +kernel
theorem dX5_leave_29 : decode cX5_leave 29 = .ok (.ifCond .le 7, 3) := by decide +kernel
theorem dX5_leave_32 : decode cX5_leave 32 = .ok (.iconst 1, 1) := by decide +kernel
theorem dX5_leave_33 : decode cX5_leave 33 = .ok (.goto 4, 3) := by decide +kernel
theorem dX5_leave_36 : decode cX5_leave 36 = .ok (.iconst 0, 1) := by decide +kernel
theorem dX5_leave_37 : decode cX5_leave 37 = .ok (.ireturn, 1) := by decide +kernel
set_option maxRecDepth 20000 in
theorem ggX5_runTold_X4_isFlagged : GoodIn wsX5_runTold wsX4_isFlagged := goodIn_r _ [8, 9, 10, 21, 22, 23, 24, 25, 26, 27, 28, 29, 30, 31, 32, 33, 34, 11, 12, 13, 14, 15, 16, 17, 18, 19, 20] (by decide +kernel) (by decide +kernel)
set_option maxRecDepth 20000 in
theorem gX5_runTold_X4_isFlagged : GoodIn wsX5_runTold (wsV RX5 96 RX4 yX4_isFlagged wsX4_isFlagged) := goodIn_app (goodIn_of _ (by decide +kernel)) ggX5_runTold_X4_isFlagged
theorem dX5_runTold_0 : decode cX5_runTold 0 = .ok (.iload_n 2, 1) := by decide +kernel
theorem dX5_runTold_1 : decode cX5_runTold 1 = .ok (.tableswitch 72 0 3 #[31, 38, 45, 55], 31) := by decide +kernel
theorem dX5_runTold_32 : decode cX5_runTold 32 = .ok (.aload_n 0, 1) := by decide +kernel
theorem dX5_runTold_33 : decode cX5_runTold 33 = .ok (.getfield 16, 3) := by decide +kernel
theorem dX5_runTold_36 : decode cX5_runTold 36 = .ok (.iload_n 1, 1) := by decide +kernel
theorem dX5_runTold_37 : decode cX5_runTold 37 = .ok (.iaload, 1) := by decide +kernel
theorem dX5_runTold_38 : decode cX5_runTold 38 = .ok (.ireturn, 1) := by decide +kernel
theorem dX5_runTold_39 : decode cX5_runTold 39 = .ok (.aload_n 0, 1) := by decide +kernel
theorem dX5_runTold_40 : decode cX5_runTold 40 = .ok (.getfield 19, 3) := by decide +kernel
theorem dX5_runTold_43 : decode cX5_runTold 43 = .ok (.iload_n 1, 1) := by decide +kernel
theorem dX5_runTold_44 : decode cX5_runTold 44 = .ok (.iaload, 1) := by decide +kernel
theorem dX5_runTold_45 : decode cX5_runTold 45 = .ok (.ireturn, 1) := by decide +kernel
theorem dX5_runTold_46 : decode cX5_runTold 46 = .ok (.aload_n 0, 1) := by decide +kernel
theorem dX5_runTold_47 : decode cX5_runTold 47 = .ok (.getfield 30, 3) := by decide +kernel
theorem dX5_runTold_50 : decode cX5_runTold 50 = .ok (.getfield 59, 3) := by decide +kernel
theorem dX5_runTold_53 : decode cX5_runTold 53 = .ok (.iload_n 1, 1) := by decide +kernel
theorem dX5_runTold_54 : decode cX5_runTold 54 = .ok (.iaload, 1) := by decide +kernel
theorem dX5_runTold_55 : decode cX5_runTold 55 = .ok (.ireturn, 1) := by decide +kernel
theorem dX5_runTold_56 : decode cX5_runTold 56 = .ok (.aload_n 0, 1) := by decide +kernel
theorem dX5_runTold_57 : decode cX5_runTold 57 = .ok (.getfield 30, 3) := by decide +kernel
theorem dX5_runTold_60 : decode cX5_runTold 60 = .ok (.iload_n 1, 1) := by decide +kernel
theorem dX5_runTold_61 : decode cX5_runTold 61 = .ok (.invokevirtual 96, 3) := by decide +kernel
theorem dX5_runTold_64 : decode cX5_runTold 64 = .ok (.ifCond .eq 7, 3) := by decide +kernel
theorem dX5_runTold_67 : decode cX5_runTold 67 = .ok (.iconst 1, 1) := by decide +kernel
theorem dX5_runTold_68 : decode cX5_runTold 68 = .ok (.goto 4, 3) := by decide +kernel
theorem dX5_runTold_71 : decode cX5_runTold 71 = .ok (.iconst 0, 1) := by decide +kernel
theorem dX5_runTold_72 : decode cX5_runTold 72 = .ok (.ireturn, 1) := by decide +kernel
theorem dX5_runTold_73 : decode cX5_runTold 73 = .ok (.aload_n 0, 1) := by decide +kernel
theorem dX5_runTold_74 : decode cX5_runTold 74 = .ok (.getfield 30, 3) := by decide +kernel
theorem dX5_runTold_77 : decode cX5_runTold 77 = .ok (.getfield 99, 3) := by decide +kernel
theorem dX5_runTold_80 : decode cX5_runTold 80 = .ok (.iload_n 1, 1) := by decide +kernel
theorem dX5_runTold_81 : decode cX5_runTold 81 = .ok (.iaload, 1) := by decide +kernel
theorem dX5_runTold_82 : decode cX5_runTold 82 = .ok (.ireturn, 1) := by decide +kernel
set_option maxRecDepth 20000 in
theorem ggX5_about_X5_isRun : GoodIn wsX5_about wsX5_isRun := goodIn_r _ [6, 7, 8, 9, 5, 10, 29, 30, 31, 32, 33, 34, 35, 36, 37, 38] (by decide +kernel) (by decide +kernel)
set_option maxRecDepth 20000 in
theorem gX5_about_X5_isRun : GoodIn wsX5_about (wsV RX5 62 RX5 yX5_isRun wsX5_isRun) := goodIn_app (goodIn_of _ (by decide +kernel)) ggX5_about_X5_isRun
set_option maxRecDepth 20000 in
theorem ggX5_about_X5_isIn : GoodIn wsX5_about wsX5_isIn := goodIn_r _ [10] (by decide +kernel) (by decide +kernel)
set_option maxRecDepth 20000 in
theorem gX5_about_X5_isIn : GoodIn wsX5_about (va_wsS RX5 41 yX5_isIn wsX5_isIn) := goodIn_app (goodIn_of _ (by decide +kernel)) ggX5_about_X5_isIn
set_option maxRecDepth 20000 in
theorem ggX5_about_X5_runTold : GoodIn wsX5_about wsX5_runTold := goodIn_r _ [14, 15, 16, 17, 18, 19, 20, 21, 22, 23, 24, 29, 30, 31, 32, 33, 34, 35, 36, 37, 38, 39, 40, 41, 42, 43, 44, 45, 46, 47, 48, 49, 50, 51, 52] (by decide +kernel) (by decide +kernel)
set_option maxRecDepth 20000 in
theorem gX5_about_X5_runTold : GoodIn wsX5_about (wsV RX5 102 RX5 yX5_runTold wsX5_runTold) := goodIn_app (goodIn_of _ (by decide +kernel)) ggX5_about_X5_runTold
set_option maxRecDepth 20000 in
theorem ggX5_about_X5_no : GoodIn wsX5_about wsX5_no := goodIn_r _ [28, 1, 29, 30, 31, 32, 33, 34, 35, 36, 37, 38] (by decide +kernel) (by decide +kernel)
set_option maxRecDepth 20000 in
theorem gX5_about_X5_no : GoodIn wsX5_about (wsV RX5 55 RX5 yX5_no wsX5_no) := goodIn_app (goodIn_of _ (by decide +kernel)) ggX5_about_X5_no
theorem dX5_about_0 : decode cX5_about 0 = .ok (.aload_n 0, 1) := by decide +kernel
theorem dX5_about_1 : decode cX5_about 1 = .ok (.iconst 0, 1) := by decide +kernel
theorem dX5_about_2 : decode cX5_about 2 = .ok (.putfield 37, 3) := by decide +kernel
theorem dX5_about_5 : decode cX5_about 5 = .ok (.aload_n 0, 1) := by decide +kernel
theorem dX5_about_6 : decode cX5_about 6 = .ok (.iload_n 1, 1) := by decide +kernel
theorem dX5_about_7 : decode cX5_about 7 = .ok (.invokevirtual 62, 3) := by decide +kernel
theorem dX5_about_10 : decode cX5_about 10 = .ok (.ifCond .eq 21, 3) := by decide +kernel
theorem dX5_about_13 : decode cX5_about 13 = .ok (.iload_n 2, 1) := by decide +kernel
theorem dX5_about_14 : decode cX5_about 14 = .ok (.iconst 0, 1) := by decide +kernel
theorem dX5_about_15 : decode cX5_about 15 = .ok (.iconst 4, 1) := by decide +kernel
theorem dX5_about_16 : decode cX5_about 16 = .ok (.invokestatic 41, 3) := by decide +kernel
theorem dX5_about_19 : decode cX5_about 19 = .ok (.ifCond .eq 12, 3) := by decide +kernel
theorem dX5_about_22 : decode cX5_about 22 = .ok (.aload_n 0, 1) := by decide +kernel
theorem dX5_about_23 : decode cX5_about 23 = .ok (.iload_n 1, 1) := by decide +kernel
theorem dX5_about_24 : decode cX5_about 24 = .ok (.iload_n 2, 1) := by decide +kernel
theorem dX5_about_25 : decode cX5_about 25 = .ok (.invokevirtual 102, 3) := by decide +kernel
theorem dX5_about_28 : decode cX5_about 28 = .ok (.goto 8, 3) := by decide +kernel
theorem dX5_about_31 : decode cX5_about 31 = .ok (.aload_n 0, 1) := by decide +kernel
theorem dX5_about_32 : decode cX5_about 32 = .ok (.iconst 1, 1) := by decide +kernel
theorem dX5_about_33 : decode cX5_about 33 = .ok (.invokevirtual 55, 3) := by decide +kernel
theorem dX5_about_36 : decode cX5_about 36 = .ok (.ireturn, 1) := by decide +kernel
set_option maxRecDepth 20000 in
theorem ggX5_skierTold_X4_towAt : GoodIn wsX5_skierTold wsX4_towAt := goodIn_r _ [7, 8, 9, 20, 21, 22, 23, 24, 25, 26, 27, 28, 29, 30, 31, 32, 33] (by decide +kernel) (by decide +kernel)
set_option maxRecDepth 20000 in
theorem gX5_skierTold_X4_towAt : GoodIn wsX5_skierTold (wsV RX5 111 RX4 yX4_towAt wsX4_towAt) := goodIn_app (goodIn_of _ (by decide +kernel)) ggX5_skierTold_X4_towAt
theorem dX5_skierTold_0 : decode cX5_skierTold 0 = .ok (.iload_n 2, 1) := by decide +kernel
theorem dX5_skierTold_1 : decode cX5_skierTold 1 = .ok (.tableswitch 112 0 5 #[39, 46, 56, 82, 92, 102], 39) := by decide +kernel
theorem dX5_skierTold_40 : decode cX5_skierTold 40 = .ok (.aload_n 0, 1) := by decide +kernel
theorem dX5_skierTold_41 : decode cX5_skierTold 41 = .ok (.getfield 22, 3) := by decide +kernel
theorem dX5_skierTold_44 : decode cX5_skierTold 44 = .ok (.iload_n 1, 1) := by decide +kernel
theorem dX5_skierTold_45 : decode cX5_skierTold 45 = .ok (.iaload, 1) := by decide +kernel
theorem dX5_skierTold_46 : decode cX5_skierTold 46 = .ok (.ireturn, 1) := by decide +kernel
theorem dX5_skierTold_47 : decode cX5_skierTold 47 = .ok (.aload_n 0, 1) := by decide +kernel
theorem dX5_skierTold_48 : decode cX5_skierTold 48 = .ok (.getfield 30, 3) := by decide +kernel
theorem dX5_skierTold_51 : decode cX5_skierTold 51 = .ok (.getfield 74, 3) := by decide +kernel
theorem dX5_skierTold_54 : decode cX5_skierTold 54 = .ok (.iload_n 1, 1) := by decide +kernel
theorem dX5_skierTold_55 : decode cX5_skierTold 55 = .ok (.iaload, 1) := by decide +kernel
theorem dX5_skierTold_56 : decode cX5_skierTold 56 = .ok (.ireturn, 1) := by decide +kernel
theorem dX5_skierTold_57 : decode cX5_skierTold 57 = .ok (.aload_n 0, 1) := by decide +kernel
theorem dX5_skierTold_58 : decode cX5_skierTold 58 = .ok (.getfield 30, 3) := by decide +kernel
theorem dX5_skierTold_61 : decode cX5_skierTold 61 = .ok (.getfield 83, 3) := by decide +kernel
theorem dX5_skierTold_64 : decode cX5_skierTold 64 = .ok (.iload_n 1, 1) := by decide +kernel
theorem dX5_skierTold_65 : decode cX5_skierTold 65 = .ok (.iaload, 1) := by decide +kernel
theorem dX5_skierTold_66 : decode cX5_skierTold 66 = .ok (.ifCond .ne 7, 3) := by decide +kernel
theorem dX5_skierTold_69 : decode cX5_skierTold 69 = .ok (.iconst (-1), 1) := by decide +kernel
theorem dX5_skierTold_70 : decode cX5_skierTold 70 = .ok (.goto 12, 3) := by decide +kernel
theorem dX5_skierTold_73 : decode cX5_skierTold 73 = .ok (.aload_n 0, 1) := by decide +kernel
theorem dX5_skierTold_74 : decode cX5_skierTold 74 = .ok (.getfield 30, 3) := by decide +kernel
theorem dX5_skierTold_77 : decode cX5_skierTold 77 = .ok (.getfield 80, 3) := by decide +kernel
theorem dX5_skierTold_80 : decode cX5_skierTold 80 = .ok (.iload_n 1, 1) := by decide +kernel
theorem dX5_skierTold_81 : decode cX5_skierTold 81 = .ok (.iaload, 1) := by decide +kernel
theorem dX5_skierTold_82 : decode cX5_skierTold 82 = .ok (.ireturn, 1) := by decide +kernel
theorem dX5_skierTold_83 : decode cX5_skierTold 83 = .ok (.aload_n 0, 1) := by decide +kernel
theorem dX5_skierTold_84 : decode cX5_skierTold 84 = .ok (.getfield 30, 3) := by decide +kernel
theorem dX5_skierTold_87 : decode cX5_skierTold 87 = .ok (.getfield 83, 3) := by decide +kernel
theorem dX5_skierTold_90 : decode cX5_skierTold 90 = .ok (.iload_n 1, 1) := by decide +kernel
theorem dX5_skierTold_91 : decode cX5_skierTold 91 = .ok (.iaload, 1) := by decide +kernel
theorem dX5_skierTold_92 : decode cX5_skierTold 92 = .ok (.ireturn, 1) := by decide +kernel
theorem dX5_skierTold_93 : decode cX5_skierTold 93 = .ok (.aload_n 0, 1) := by decide +kernel
theorem dX5_skierTold_94 : decode cX5_skierTold 94 = .ok (.getfield 30, 3) := by decide +kernel
theorem dX5_skierTold_97 : decode cX5_skierTold 97 = .ok (.getfield 105, 3) := by decide +kernel
theorem dX5_skierTold_100 : decode cX5_skierTold 100 = .ok (.iload_n 1, 1) := by decide +kernel
theorem dX5_skierTold_101 : decode cX5_skierTold 101 = .ok (.iaload, 1) := by decide +kernel
theorem dX5_skierTold_102 : decode cX5_skierTold 102 = .ok (.ireturn, 1) := by decide +kernel
theorem dX5_skierTold_103 : decode cX5_skierTold 103 = .ok (.aload_n 0, 1) := by decide +kernel
theorem dX5_skierTold_104 : decode cX5_skierTold 104 = .ok (.getfield 30, 3) := by decide +kernel
theorem dX5_skierTold_107 : decode cX5_skierTold 107 = .ok (.getfield 108, 3) := by decide +kernel
theorem dX5_skierTold_110 : decode cX5_skierTold 110 = .ok (.iload_n 1, 1) := by decide +kernel
theorem dX5_skierTold_111 : decode cX5_skierTold 111 = .ok (.iaload, 1) := by decide +kernel
theorem dX5_skierTold_112 : decode cX5_skierTold 112 = .ok (.ireturn, 1) := by decide +kernel
theorem dX5_skierTold_113 : decode cX5_skierTold 113 = .ok (.aload_n 0, 1) := by decide +kernel
theorem dX5_skierTold_114 : decode cX5_skierTold 114 = .ok (.getfield 30, 3) := by decide +kernel
theorem dX5_skierTold_117 : decode cX5_skierTold 117 = .ok (.iload_n 1, 1) := by decide +kernel
theorem dX5_skierTold_118 : decode cX5_skierTold 118 = .ok (.invokevirtual 111, 3) := by decide +kernel
theorem dX5_skierTold_121 : decode cX5_skierTold 121 = .ok (.ireturn, 1) := by decide +kernel
set_option maxRecDepth 20000 in
theorem ggX5_told_X5_isSkier : GoodIn wsX5_told wsX5_isSkier := goodIn_r _ [6, 7, 8, 9, 5, 10, 28, 29, 30, 31, 32, 33, 34, 35, 36, 37] (by decide +kernel) (by decide +kernel)
set_option maxRecDepth 20000 in
theorem gX5_told_X5_isSkier : GoodIn wsX5_told (wsV RX5 77 RX5 yX5_isSkier wsX5_isSkier) := goodIn_app (goodIn_of _ (by decide +kernel)) ggX5_told_X5_isSkier
set_option maxRecDepth 20000 in
theorem ggX5_told_X5_isIn : GoodIn wsX5_told wsX5_isIn := goodIn_r _ [10] (by decide +kernel) (by decide +kernel)
set_option maxRecDepth 20000 in
theorem gX5_told_X5_isIn : GoodIn wsX5_told (va_wsS RX5 41 yX5_isIn wsX5_isIn) := goodIn_app (goodIn_of _ (by decide +kernel)) ggX5_told_X5_isIn
set_option maxRecDepth 20000 in
theorem ggX5_told_X5_skierTold : GoodIn wsX5_told wsX5_skierTold := goodIn_r _ [14, 15, 16, 17, 18, 19, 20, 21, 22, 23, 28, 29, 30, 31, 32, 33, 34, 35, 36, 37, 38, 39, 40, 41, 42, 43, 44, 45, 46, 47, 48, 49, 50, 51] (by decide +kernel) (by decide +kernel)
set_option maxRecDepth 20000 in
theorem gX5_told_X5_skierTold : GoodIn wsX5_told (wsV RX5 114 RX5 yX5_skierTold wsX5_skierTold) := goodIn_app (goodIn_of _ (by decide +kernel)) ggX5_told_X5_skierTold
set_option maxRecDepth 20000 in
theorem ggX5_told_X5_no : GoodIn wsX5_told wsX5_no := goodIn_r _ [27, 1, 28, 29, 30, 31, 32, 33, 34, 35, 36, 37] (by decide +kernel) (by decide +kernel)
set_option maxRecDepth 20000 in
theorem gX5_told_X5_no : GoodIn wsX5_told (wsV RX5 55 RX5 yX5_no wsX5_no) := goodIn_app (goodIn_of _ (by decide +kernel)) ggX5_told_X5_no
theorem dX5_told_0 : decode cX5_told 0 = .ok (.aload_n 0, 1) := by decide +kernel
theorem dX5_told_1 : decode cX5_told 1 = .ok (.iconst 0, 1) := by decide +kernel
theorem dX5_told_2 : decode cX5_told 2 = .ok (.putfield 37, 3) := by decide +kernel
theorem dX5_told_5 : decode cX5_told 5 = .ok (.aload_n 0, 1) := by decide +kernel
theorem dX5_told_6 : decode cX5_told 6 = .ok (.iload_n 1, 1) := by decide +kernel
theorem dX5_told_7 : decode cX5_told 7 = .ok (.invokevirtual 77, 3) := by decide +kernel
theorem dX5_told_10 : decode cX5_told 10 = .ok (.ifCond .eq 22, 3) := by decide +kernel
theorem dX5_told_13 : decode cX5_told 13 = .ok (.iload_n 2, 1) := by decide +kernel
theorem dX5_told_14 : decode cX5_told 14 = .ok (.iconst 0, 1) := by decide +kernel
theorem dX5_told_15 : decode cX5_told 15 = .ok (.bipush 6, 2) := by decide +kernel
theorem dX5_told_17 : decode cX5_told 17 = .ok (.invokestatic 41, 3) := by decide +kernel
theorem dX5_told_20 : decode cX5_told 20 = .ok (.ifCond .eq 12, 3) := by decide +kernel
theorem dX5_told_23 : decode cX5_told 23 = .ok (.aload_n 0, 1) := by decide +kernel
theorem dX5_told_24 : decode cX5_told 24 = .ok (.iload_n 1, 1) := by decide +kernel
theorem dX5_told_25 : decode cX5_told 25 = .ok (.iload_n 2, 1) := by decide +kernel
theorem dX5_told_26 : decode cX5_told 26 = .ok (.invokevirtual 114, 3) := by decide +kernel
theorem dX5_told_29 : decode cX5_told 29 = .ok (.goto 8, 3) := by decide +kernel
theorem dX5_told_32 : decode cX5_told 32 = .ok (.aload_n 0, 1) := by decide +kernel
theorem dX5_told_33 : decode cX5_told 33 = .ok (.iconst 1, 1) := by decide +kernel
theorem dX5_told_34 : decode cX5_told 34 = .ok (.invokevirtual 55, 3) := by decide +kernel
theorem dX5_told_37 : decode cX5_told 37 = .ok (.ireturn, 1) := by decide +kernel
theorem dX5_towTold_0 : decode cX5_towTold 0 = .ok (.iload_n 2, 1) := by decide +kernel
theorem dX5_towTold_1 : decode cX5_towTold 1 = .ok (.ifCond .ne 12, 3) := by decide +kernel
theorem dX5_towTold_4 : decode cX5_towTold 4 = .ok (.aload_n 0, 1) := by decide +kernel
theorem dX5_towTold_5 : decode cX5_towTold 5 = .ok (.getfield 13, 3) := by decide +kernel
theorem dX5_towTold_8 : decode cX5_towTold 8 = .ok (.iload_n 1, 1) := by decide +kernel
theorem dX5_towTold_9 : decode cX5_towTold 9 = .ok (.iaload, 1) := by decide +kernel
theorem dX5_towTold_10 : decode cX5_towTold 10 = .ok (.goto 29, 3) := by decide +kernel
theorem dX5_towTold_13 : decode cX5_towTold 13 = .ok (.iload_n 2, 1) := by decide +kernel
theorem dX5_towTold_14 : decode cX5_towTold 14 = .ok (.iconst 1, 1) := by decide +kernel
theorem dX5_towTold_15 : decode cX5_towTold 15 = .ok (.if_icmp .ne 15, 3) := by decide +kernel
theorem dX5_towTold_18 : decode cX5_towTold 18 = .ok (.aload_n 0, 1) := by decide +kernel
theorem dX5_towTold_19 : decode cX5_towTold 19 = .ok (.getfield 30, 3) := by decide +kernel
theorem dX5_towTold_22 : decode cX5_towTold 22 = .ok (.getfield 93, 3) := by decide +kernel
theorem dX5_towTold_25 : decode cX5_towTold 25 = .ok (.iload_n 1, 1) := by decide +kernel
theorem dX5_towTold_26 : decode cX5_towTold 26 = .ok (.iaload, 1) := by decide +kernel
theorem dX5_towTold_27 : decode cX5_towTold 27 = .ok (.goto 12, 3) := by decide +kernel
theorem dX5_towTold_30 : decode cX5_towTold 30 = .ok (.aload_n 0, 1) := by decide +kernel
theorem dX5_towTold_31 : decode cX5_towTold 31 = .ok (.getfield 30, 3) := by decide +kernel
theorem dX5_towTold_34 : decode cX5_towTold 34 = .ok (.getfield 117, 3) := by decide +kernel
theorem dX5_towTold_37 : decode cX5_towTold 37 = .ok (.iload_n 1, 1) := by decide +kernel
theorem dX5_towTold_38 : decode cX5_towTold 38 = .ok (.iaload, 1) := by decide +kernel
theorem dX5_towTold_39 : decode cX5_towTold 39 = .ok (.ireturn, 1) := by decide +kernel
set_option maxRecDepth 20000 in
theorem ggX5_tow_X5_isTow : GoodIn wsX5_tow wsX5_isTow := goodIn_r _ [6, 7, 8, 5, 9] (by decide +kernel) (by decide +kernel)
set_option maxRecDepth 20000 in
theorem gX5_tow_X5_isTow : GoodIn wsX5_tow (wsV RX5 51 RX5 yX5_isTow wsX5_isTow) := goodIn_app (goodIn_of _ (by decide +kernel)) ggX5_tow_X5_isTow
set_option maxRecDepth 20000 in
theorem ggX5_tow_X5_isIn : GoodIn wsX5_tow wsX5_isIn := goodIn_r _ [9] (by decide +kernel) (by decide +kernel)
set_option maxRecDepth 20000 in
theorem gX5_tow_X5_isIn : GoodIn wsX5_tow (va_wsS RX5 41 yX5_isIn wsX5_isIn) := goodIn_app (goodIn_of _ (by decide +kernel)) ggX5_tow_X5_isIn
set_option maxRecDepth 20000 in
theorem ggX5_tow_X5_towTold : GoodIn wsX5_tow wsX5_towTold := goodIn_r _ [13, 14, 15, 20, 21, 22, 23, 24, 25, 26, 27, 28, 29, 30, 31, 32, 33, 34, 35, 36, 37, 38, 39, 40, 41, 42, 43] (by decide +kernel) (by decide +kernel)
set_option maxRecDepth 20000 in
theorem gX5_tow_X5_towTold : GoodIn wsX5_tow (wsV RX5 120 RX5 yX5_towTold wsX5_towTold) := goodIn_app (goodIn_of _ (by decide +kernel)) ggX5_tow_X5_towTold
set_option maxRecDepth 20000 in
theorem ggX5_tow_X5_no : GoodIn wsX5_tow wsX5_no := goodIn_r _ [19, 1, 20, 21, 22, 23, 24, 25, 26, 27, 28, 29] (by decide +kernel) (by decide +kernel)
set_option maxRecDepth 20000 in
theorem gX5_tow_X5_no : GoodIn wsX5_tow (wsV RX5 55 RX5 yX5_no wsX5_no) := goodIn_app (goodIn_of _ (by decide +kernel)) ggX5_tow_X5_no
theorem dX5_tow_0 : decode cX5_tow 0 = .ok (.aload_n 0, 1) := by decide +kernel
theorem dX5_tow_1 : decode cX5_tow 1 = .ok (.iconst 0, 1) := by decide +kernel
