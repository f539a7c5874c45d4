theorem dX0_init_0 : decode cX0_init 0 = .ok (.aload_n 0, 1) := by decide +kernel
theorem dX0_init_1 : decode cX0_init 1 = .ok (.invokespecial 3, 3) := by decide +kernel
theorem dX0_init_4 : decode cX0_init 4 = .ok (.aload_n 0, 1) := by decide +kernel
theorem dX0_init_5 : decode cX0_init 5 = .ok (.iconst 0, 1) := by decide +kernel
theorem dX0_init_6 : decode cX0_init 6 = .ok (.putfield 9, 3) := by decide +kernel
theorem dX0_init_9 : decode cX0_init 9 = .ok (.aload_n 0, 1) := by decide +kernel
theorem dX0_init_10 : decode cX0_init 10 = .ok (.bipush 6, 2) := by decide +kernel
theorem dX0_init_12 : decode cX0_init 12 = .ok (.newarray .int, 2) := by decide +kernel
theorem dX0_init_14 : decode cX0_init 14 = .ok (.putfield 15, 3) := by decide +kernel
theorem dX0_init_17 : decode cX0_init 17 = .ok (.aload_n 0, 1) := by decide +kernel
theorem dX0_init_18 : decode cX0_init 18 = .ok (.bipush 6, 2) := by decide +kernel
theorem dX0_init_20 : decode cX0_init 20 = .ok (.newarray .int, 2) := by decide +kernel
theorem dX0_init_22 : decode cX0_init 22 = .ok (.putfield 19, 3) := by decide +kernel
theorem dX0_init_25 : decode cX0_init 25 = .ok (.aload_n 0, 1) := by decide +kernel
theorem dX0_init_26 : decode cX0_init 26 = .ok (.bipush 6, 2) := by decide +kernel
theorem dX0_init_28 : decode cX0_init 28 = .ok (.newarray .int, 2) := by decide +kernel
theorem dX0_init_30 : decode cX0_init 30 = .ok (.putfield 22, 3) := by decide +kernel
theorem dX0_init_33 : decode cX0_init 33 = .ok (.aload_n 0, 1) := by decide +kernel
theorem dX0_init_34 : decode cX0_init 34 = .ok (.bipush 6, 2) := by decide +kernel
theorem dX0_init_36 : decode cX0_init 36 = .ok (.newarray .int, 2) := by decide +kernel
theorem dX0_init_38 : decode cX0_init 38 = .ok (.putfield 25, 3) := by decide +kernel
theorem dX0_init_41 : decode cX0_init 41 = .ok (.return_, 1) := by decide +kernel
theorem dX0_has_0 : decode cX0_has 0 = .ok (.iload_n 1, 1) := by decide +kernel
theorem dX0_has_1 : decode cX0_has 1 = .ok (.ifCond .lt 15, 3) := by decide +kernel
theorem dX0_has_4 : decode cX0_has 4 = .ok (.iload_n 1, 1) := by decide +kernel
theorem dX0_has_5 : decode cX0_has 5 = .ok (.aload_n 0, 1) := by decide +kernel
theorem dX0_has_6 : decode cX0_has 6 = .ok (.getfield 9, 3) := by decide +kernel
theorem dX0_has_9 : decode cX0_has 9 = .ok (.if_icmp .ge 7, 3) := by decide +kernel
theorem dX0_has_12 : decode cX0_has 12 = .ok (.iconst 1, 1) := by decide +kernel
theorem dX0_has_13 : decode cX0_has 13 = .ok (.goto 4, 3) := by decide +kernel
theorem dX0_has_16 : decode cX0_has 16 = .ok (.iconst 0, 1) := by decide +kernel
theorem dX0_has_17 : decode cX0_has 17 = .ok (.ireturn, 1) := by decide +kernel
theorem dX0_isFull_0 : decode cX0_isFull 0 = .ok (.aload_n 0, 1) := by decide +kernel
theorem dX0_isFull_1 : decode cX0_isFull 1 = .ok (.getfield 9, 3) := by decide +kernel
theorem dX0_isFull_4 : decode cX0_isFull 4 = .ok (.bipush 6, 2) := by decide +kernel
theorem dX0_isFull_6 : decode cX0_isFull 6 = .ok (.if_icmp .lt 7, 3) := by decide +kernel
theorem dX0_isFull_9 : decode cX0_isFull 9 = .ok (.iconst 1, 1) := by decide +kernel
theorem dX0_isFull_10 : decode cX0_isFull 10 = .ok (.goto 4, 3) := by decide +kernel
theorem dX0_isFull_13 : decode cX0_isFull 13 = .ok (.iconst 0, 1) := by decide +kernel
theorem dX0_isFull_14 : decode cX0_isFull 14 = .ok (.ireturn, 1) := by decide +kernel
theorem dX0_add_0 : decode cX0_add 0 = .ok (.aload_n 0, 1) := by decide +kernel
theorem dX0_add_1 : decode cX0_add 1 = .ok (.getfield 9, 3) := by decide +kernel
theorem dX0_add_4 : decode cX0_add 4 = .ok (.istore_n 3, 1) := by decide +kernel
theorem dX0_add_5 : decode cX0_add 5 = .ok (.aload_n 0, 1) := by decide +kernel
theorem dX0_add_6 : decode cX0_add 6 = .ok (.getfield 15, 3) := by decide +kernel
theorem dX0_add_9 : decode cX0_add 9 = .ok (.iload_n 3, 1) := by decide +kernel
theorem dX0_add_10 : decode cX0_add 10 = .ok (.iload_n 1, 1) := by decide +kernel
theorem dX0_add_11 : decode cX0_add 11 = .ok (.iastore, 1) := by decide +kernel
theorem dX0_add_12 : decode cX0_add 12 = .ok (.aload_n 0, 1) := by decide +kernel
theorem dX0_add_13 : decode cX0_add 13 = .ok (.getfield 19, 3) := by decide +kernel
theorem dX0_add_16 : decode cX0_add 16 = .ok (.iload_n 3, 1) := by decide +kernel
theorem dX0_add_17 : decode cX0_add 17 = .ok (.iload_n 2, 1) := by decide +kernel
theorem dX0_add_18 : decode cX0_add 18 = .ok (.iastore, 1) := by decide +kernel
theorem dX0_add_19 : decode cX0_add 19 = .ok (.aload_n 0, 1) := by decide +kernel
theorem dX0_add_20 : decode cX0_add 20 = .ok (.getfield 22, 3) := by decide +kernel
theorem dX0_add_23 : decode cX0_add 23 = .ok (.iload_n 3, 1) := by decide +kernel
theorem dX0_add_24 : decode cX0_add 24 = .ok (.bipush 30, 2) := by decide +kernel
theorem dX0_add_26 : decode cX0_add 26 = .ok (.iastore, 1) := by decide +kernel
theorem dX0_add_27 : decode cX0_add 27 = .ok (.aload_n 0, 1) := by decide +kernel
theorem dX0_add_28 : decode cX0_add 28 = .ok (.dup, 1) := by decide +kernel
theorem dX0_add_29 : decode cX0_add 29 = .ok (.getfield 9, 3) := by decide +kernel
theorem dX0_add_32 : decode cX0_add 32 = .ok (.iconst 1, 1) := by decide +kernel
theorem dX0_add_33 : decode cX0_add 33 = .ok (.iadd, 1) := by decide +kernel
theorem dX0_add_34 : decode cX0_add 34 = .ok (.putfield 9, 3) := by decide +kernel
theorem dX0_add_37 : decode cX0_add 37 = .ok (.iload_n 3, 1) := by decide +kernel
theorem dX0_add_38 : decode cX0_add 38 = .ok (.ireturn, 1) := by decide +kernel
set_option maxRecDepth 20000 in
theorem ggX0_deepen_X3_held : GoodIn wsX0_deepen wsX3_held := goodIn_r _ [4, 5, 6, 7, 8, 9, 10, 11] (by decide +kernel) (by decide +kernel)
set_option maxRecDepth 20000 in
theorem gX0_deepen_X3_held_n28 : GoodIn wsX0_deepen (wsX3_held) := ggX0_deepen_X3_held
theorem dX0_deepen_0 : decode cX0_deepen 0 = .ok (.aload_n 0, 1) := by decide +kernel
theorem dX0_deepen_1 : decode cX0_deepen 1 = .ok (.getfield 22, 3) := by decide +kernel
theorem dX0_deepen_4 : decode cX0_deepen 4 = .ok (.iload_n 1, 1) := by decide +kernel
theorem dX0_deepen_5 : decode cX0_deepen 5 = .ok (.aload_n 0, 1) := by decide +kernel
theorem dX0_deepen_6 : decode cX0_deepen 6 = .ok (.getfield 22, 3) := by decide +kernel
theorem dX0_deepen_9 : decode cX0_deepen 9 = .ok (.iload_n 1, 1) := by decide +kernel
theorem dX0_deepen_10 : decode cX0_deepen 10 = .ok (.iaload, 1) := by decide +kernel
theorem dX0_deepen_11 : decode cX0_deepen 11 = .ok (.iload_n 2, 1) := by decide +kernel
theorem dX0_deepen_12 : decode cX0_deepen 12 = .ok (.iadd, 1) := by decide +kernel
theorem dX0_deepen_13 : decode cX0_deepen 13 = .ok (.iconst 0, 1) := by decide +kernel
theorem dX0_deepen_14 : decode cX0_deepen 14 = .ok (.bipush 90, 2) := by decide +kernel
theorem dX0_deepen_16 : decode cX0_deepen 16 = .ok (.invokestatic 28, 3) := by decide +kernel
theorem dX0_deepen_19 : decode cX0_deepen 19 = .ok (.iastore, 1) := by decide +kernel
theorem dX0_deepen_20 : decode cX0_deepen 20 = .ok (.return_, 1) := by decide +kernel
set_option maxRecDepth 20000 in
theorem ggX0_deepenAll_X0_deepen : GoodIn wsX0_deepenAll wsX0_deepen := goodIn_r _ [6, 7, 8, 9, 10, 11, 12, 13, 14, 15, 16, 17, 18, 19, 20, 21, 22] (by decide +kernel) (by decide +kernel)
set_option maxRecDepth 20000 in
theorem gX0_deepenAll_X0_deepen : GoodIn wsX0_deepenAll (wsV RX0 32 RX0 yX0_deepen wsX0_deepen) := goodIn_app (goodIn_of _ (by decide +kernel)) ggX0_deepenAll_X0_deepen
theorem dX0_deepenAll_0 : decode cX0_deepenAll 0 = .ok (.iconst 0, 1) := by decide +kernel
theorem dX0_deepenAll_1 : decode cX0_deepenAll 1 = .ok (.istore_n 2, 1) := by decide +kernel
theorem dX0_deepenAll_2 : decode cX0_deepenAll 2 = .ok (.iload_n 2, 1) := by decide +kernel
theorem dX0_deepenAll_3 : decode cX0_deepenAll 3 = .ok (.aload_n 0, 1) := by decide +kernel
theorem dX0_deepenAll_4 : decode cX0_deepenAll 4 = .ok (.getfield 9, 3) := by decide +kernel
theorem dX0_deepenAll_7 : decode cX0_deepenAll 7 = .ok (.if_icmp .ge 15, 3) := by decide +kernel
theorem dX0_deepenAll_10 : decode cX0_deepenAll 10 = .ok (.aload_n 0, 1) := by decide +kernel
theorem dX0_deepenAll_11 : decode cX0_deepenAll 11 = .ok (.iload_n 2, 1) := by decide +kernel
theorem dX0_deepenAll_12 : decode cX0_deepenAll 12 = .ok (.iload_n 1, 1) := by decide +kernel
theorem dX0_deepenAll_13 : decode cX0_deepenAll 13 = .ok (.invokevirtual 32, 3) := by decide +kernel
theorem dX0_deepenAll_16 : decode cX0_deepenAll 16 = .ok (.iinc 2 1, 3) := by decide +kernel
theorem dX0_deepenAll_19 : decode cX0_deepenAll 19 = .ok (.goto (-17), 3) := by decide +kernel
theorem dX0_deepenAll_22 : decode cX0_deepenAll 22 = .ok (.return_, 1) := by decide +kernel
theorem dX0_isOpen_0 : decode cX0_isOpen 0 = .ok (.aload_n 0, 1) := by decide +kernel
theorem dX0_isOpen_1 : decode cX0_isOpen 1 = .ok (.getfield 22, 3) := by decide +kernel
theorem dX0_isOpen_4 : decode cX0_isOpen 4 = .ok (.iload_n 1, 1) := by decide +kernel
theorem dX0_isOpen_5 : decode cX0_isOpen 5 = .ok (.iaload, 1) := by decide +kernel
theorem dX0_isOpen_6 : decode cX0_isOpen 6 = .ok (.iconst 5, 1) := by decide +kernel
theorem dX0_isOpen_7 : decode cX0_isOpen 7 = .ok (.if_icmp .lt 26, 3) := by decide +kernel
theorem dX0_isOpen_10 : decode cX0_isOpen 10 = .ok (.aload_n 0, 1) := by decide +kernel
theorem dX0_isOpen_11 : decode cX0_isOpen 11 = .ok (.getfield 22, 3) := by decide +kernel
theorem dX0_isOpen_14 : decode cX0_isOpen 14 = .ok (.iload_n 1, 1) := by decide +kernel
theorem dX0_isOpen_15 : decode cX0_isOpen 15 = .ok (.iaload, 1) := by decide +kernel
theorem dX0_isOpen_16 : decode cX0_isOpen 16 = .ok (.aload_n 0, 1) := by decide +kernel
theorem dX0_isOpen_17 : decode cX0_isOpen 17 = .ok (.getfield 19, 3) := by decide +kernel
theorem dX0_isOpen_20 : decode cX0_isOpen 20 = .ok (.iload_n 1, 1) := by decide +kernel
theorem dX0_isOpen_21 : decode cX0_isOpen 21 = .ok (.iaload, 1) := by decide +kernel
theorem dX0_isOpen_22 : decode cX0_isOpen 22 = .ok (.imul, 1) := by decide +kernel
theorem dX0_isOpen_23 : decode cX0_isOpen 23 = .ok (.sipush 300, 3) := by decide +kernel
theorem dX0_isOpen_26 : decode cX0_isOpen 26 = .ok (.if_icmp .ge 7, 3) := by decide +kernel
theorem dX0_isOpen_29 : decode cX0_isOpen 29 = .ok (.iconst 1, 1) := by decide +kernel
theorem dX0_isOpen_30 : decode cX0_isOpen 30 = .ok (.goto 4, 3) := by decide +kernel
theorem dX0_isOpen_33 : decode cX0_isOpen 33 = .ok (.iconst 0, 1) := by decide +kernel
theorem dX0_isOpen_34 : decode cX0_isOpen 34 = .ok (.ireturn, 1) := by decide +kernel
set_option maxRecDepth 20000 in
theorem ggX0_steepestOpen_X0_isOpen : GoodIn wsX0_steepestOpen wsX0_isOpen := goodIn_r _ [8, 9, 3, 10, 11, 12, 13, 14] (by decide +kernel) (by decide +kernel)
set_option maxRecDepth 20000 in
theorem gX0_steepestOpen_X0_isOpen : GoodIn wsX0_steepestOpen (wsV RX0 36 RX0 yX0_isOpen wsX0_isOpen) := goodIn_app (goodIn_of _ (by decide +kernel)) ggX0_steepestOpen_X0_isOpen
theorem dX0_steepestOpen_0 : decode cX0_steepestOpen 0 = .ok (.iconst (-1), 1) := by decide +kernel
theorem dX0_steepestOpen_1 : decode cX0_steepestOpen 1 = .ok (.istore_n 3, 1) := by decide +kernel
theorem dX0_steepestOpen_2 : decode cX0_steepestOpen 2 = .ok (.iconst 0, 1) := by decide +kernel
theorem dX0_steepestOpen_3 : decode cX0_steepestOpen 3 = .ok (.istore 4, 2) := by decide +kernel
theorem dX0_steepestOpen_5 : decode cX0_steepestOpen 5 = .ok (.iconst 0, 1) := by decide +kernel
theorem dX0_steepestOpen_6 : decode cX0_steepestOpen 6 = .ok (.istore 5, 2) := by decide +kernel
theorem dX0_steepestOpen_8 : decode cX0_steepestOpen 8 = .ok (.iload 5, 2) := by decide +kernel
theorem dX0_steepestOpen_10 : decode cX0_steepestOpen 10 = .ok (.aload_n 0, 1) := by decide +kernel
theorem dX0_steepestOpen_11 : decode cX0_steepestOpen 11 = .ok (.getfield 9, 3) := by decide +kernel
theorem dX0_steepestOpen_14 : decode cX0_steepestOpen 14 = .ok (.if_icmp .ge 76, 3) := by decide +kernel
theorem dX0_steepestOpen_17 : decode cX0_steepestOpen 17 = .ok (.aload_n 0, 1) := by decide +kernel
theorem dX0_steepestOpen_18 : decode cX0_steepestOpen 18 = .ok (.getfield 15, 3) := by decide +kernel
theorem dX0_steepestOpen_21 : decode cX0_steepestOpen 21 = .ok (.iload 5, 2) := by decide +kernel
theorem dX0_steepestOpen_23 : decode cX0_steepestOpen 23 = .ok (.iaload, 1) := by decide +kernel
theorem dX0_steepestOpen_24 : decode cX0_steepestOpen 24 = .ok (.iload_n 1, 1) := by decide +kernel
theorem dX0_steepestOpen_25 : decode cX0_steepestOpen 25 = .ok (.if_icmp .ne 27, 3) := by decide +kernel
theorem dX0_steepestOpen_28 : decode cX0_steepestOpen 28 = .ok (.aload_n 0, 1) := by decide +kernel
theorem dX0_steepestOpen_29 : decode cX0_steepestOpen 29 = .ok (.getfield 19, 3) := by decide +kernel
theorem dX0_steepestOpen_32 : decode cX0_steepestOpen 32 = .ok (.iload 5, 2) := by decide +kernel
theorem dX0_steepestOpen_34 : decode cX0_steepestOpen 34 = .ok (.iaload, 1) := by decide +kernel
theorem dX0_steepestOpen_35 : decode cX0_steepestOpen 35 = .ok (.iload_n 2, 1) := by decide +kernel
theorem dX0_steepestOpen_36 : decode cX0_steepestOpen 36 = .ok (.if_icmp .gt 16, 3) := by decide +kernel
theorem dX0_steepestOpen_39 : decode cX0_steepestOpen 39 = .ok (.aload_n 0, 1) := by decide +kernel
theorem dX0_steepestOpen_40 : decode cX0_steepestOpen 40 = .ok (.iload 5, 2) := by decide +kernel
theorem dX0_steepestOpen_42 : decode cX0_steepestOpen 42 = .ok (.invokevirtual 36, 3) := by decide +kernel
theorem dX0_steepestOpen_45 : decode cX0_steepestOpen 45 = .ok (.ifCond .eq 7, 3) := by decide +kernel
theorem dX0_steepestOpen_48 : decode cX0_steepestOpen 48 = .ok (.iconst 1, 1) := by decide +kernel
theorem dX0_steepestOpen_49 : decode cX0_steepestOpen 49 = .ok (.goto 4, 3) := by decide +kernel
theorem dX0_steepestOpen_52 : decode cX0_steepestOpen 52 = .ok (.iconst 0, 1) := by decide +kernel
theorem dX0_steepestOpen_53 : decode cX0_steepestOpen 53 = .ok (.istore 6, 2) := by decide +kernel
theorem dX0_steepestOpen_55 : decode cX0_steepestOpen 55 = .ok (.iload 6, 2) := by decide +kernel
theorem dX0_steepestOpen_57 : decode cX0_steepestOpen 57 = .ok (.ifCond .eq 27, 3) := by decide +kernel
theorem dX0_steepestOpen_60 : decode cX0_steepestOpen 60 = .ok (.aload_n 0, 1) := by decide +kernel
theorem dX0_steepestOpen_61 : decode cX0_steepestOpen 61 = .ok (.getfield 19, 3) := by decide +kernel
theorem dX0_steepestOpen_64 : decode cX0_steepestOpen 64 = .ok (.iload 5, 2) := by decide +kernel
theorem dX0_steepestOpen_66 : decode cX0_steepestOpen 66 = .ok (.iaload, 1) := by decide +kernel
theorem dX0_steepestOpen_67 : decode cX0_steepestOpen 67 = .ok (.iload 4, 2) := by decide +kernel
theorem dX0_steepestOpen_69 : decode cX0_steepestOpen 69 = .ok (.if_icmp .le 15, 3) := by decide +kernel
theorem dX0_steepestOpen_72 : decode cX0_steepestOpen 72 = .ok (.iload 5, 2) := by decide +kernel
theorem dX0_steepestOpen_74 : decode cX0_steepestOpen 74 = .ok (.istore_n 3, 1) := by decide +kernel
theorem dX0_steepestOpen_75 : decode cX0_steepestOpen 75 = .ok (.aload_n 0, 1) := by decide +kernel
theorem dX0_steepestOpen_76 : decode cX0_steepestOpen 76 = .ok (.getfield 19, 3) := by decide +kernel
theorem dX0_steepestOpen_79 : decode cX0_steepestOpen 79 = .ok (.iload 5, 2) := by decide +kernel
theorem dX0_steepestOpen_81 : decode cX0_steepestOpen 81 = .ok (.iaload, 1) := by decide +kernel
theorem dX0_steepestOpen_82 : decode cX0_steepestOpen 82 = .ok (.istore 4, 2) := by decide +kernel
theorem dX0_steepestOpen_84 : decode cX0_steepestOpen 84 = .ok (.iinc 5 1, 3) := by decide +kernel
theorem dX0_steepestOpen_87 : decode cX0_steepestOpen 87 = .ok (.goto (-79), 3) := by decide +kernel
theorem dX0_steepestOpen_90 : decode cX0_steepestOpen 90 = .ok (.iload_n 3, 1) := by decide +kernel
theorem dX0_steepestOpen_91 : decode cX0_steepestOpen 91 = .ok (.ireturn, 1) := by decide +kernel
set_option maxRecDepth 20000 in
theorem ggX0_flagged_X0_isOpen : GoodIn wsX0_flagged wsX0_isOpen := goodIn_r _ [6, 7, 8, 9, 10, 11, 12, 13] (by decide +kernel) (by decide +kernel)
set_option maxRecDepth 20000 in
theorem gX0_flagged_X0_isOpen : GoodIn wsX0_flagged (wsV RX0 36 RX0 yX0_isOpen wsX0_isOpen) := goodIn_app (goodIn_of _ (by decide +kernel)) ggX0_flagged_X0_isOpen
theorem dX0_flagged_0 : decode cX0_flagged 0 = .ok (.iconst 0, 1) := by decide +kernel
theorem dX0_flagged_1 : decode cX0_flagged 1 = .ok (.istore_n 1, 1) := by decide +kernel
theorem dX0_flagged_2 : decode cX0_flagged 2 = .ok (.iconst 0, 1) := by decide +kernel
theorem dX0_flagged_3 : decode cX0_flagged 3 = .ok (.istore_n 2, 1) := by decide +kernel
theorem dX0_flagged_4 : decode cX0_flagged 4 = .ok (.iload_n 2, 1) := by decide +kernel
theorem dX0_flagged_5 : decode cX0_flagged 5 = .ok (.aload_n 0, 1) := by decide +kernel
theorem dX0_flagged_6 : decode cX0_flagged 6 = .ok (.getfield 9, 3) := by decide +kernel
theorem dX0_flagged_9 : decode cX0_flagged 9 = .ok (.if_icmp .ge 20, 3) := by decide +kernel
theorem dX0_flagged_12 : decode cX0_flagged 12 = .ok (.aload_n 0, 1) := by decide +kernel
theorem dX0_flagged_13 : decode cX0_flagged 13 = .ok (.iload_n 2, 1) := by decide +kernel
theorem dX0_flagged_14 : decode cX0_flagged 14 = .ok (.invokevirtual 36, 3) := by decide +kernel
theorem dX0_flagged_17 : decode cX0_flagged 17 = .ok (.ifCond .ne 6, 3) := by decide +kernel
theorem dX0_flagged_20 : decode cX0_flagged 20 = .ok (.iinc 1 1, 3) := by decide +kernel
theorem dX0_flagged_23 : decode cX0_flagged 23 = .ok (.iinc 2 1, 3) := by decide +kernel
theorem dX0_flagged_26 : decode cX0_flagged 26 = .ok (.goto (-22), 3) := by decide +kernel
theorem dX0_flagged_29 : decode cX0_flagged 29 = .ok (.iload_n 1, 1) := by decide +kernel
theorem dX0_flagged_30 : decode cX0_flagged 30 = .ok (.ireturn, 1) := by decide +kernel
set_option maxRecDepth 20000 in
theorem ggX0_figure_X0_isOpen : GoodIn wsX0_figure wsX0_isOpen := goodIn_r _ [9, 3, 2, 10, 11, 12, 13, 14] (by decide +kernel) (by decide +kernel)
set_option maxRecDepth 20000 in
theorem gX0_figure_X0_isOpen : GoodIn wsX0_figure (wsV RX0 36 RX0 yX0_isOpen wsX0_isOpen) := goodIn_app (goodIn_of _ (by decide +kernel)) ggX0_figure_X0_isOpen
theorem dX0_figure_0 : decode cX0_figure 0 = .ok (.iload_n 2, 1) := by decide +kernel
theorem dX0_figure_1 : decode cX0_figure 1 = .ok (.tableswitch 66 0 3 #[31, 38, 45, 52], 31) := by decide +kernel
theorem dX0_figure_32 : decode cX0_figure 32 = .ok (.aload_n 0, 1) := by decide +kernel
theorem dX0_figure_33 : decode cX0_figure 33 = .ok (.getfield 15, 3) := by decide +kernel
theorem dX0_figure_36 : decode cX0_figure 36 = .ok (.iload_n 1, 1) := by decide +kernel
theorem dX0_figure_37 : decode cX0_figure 37 = .ok (.iaload, 1) := by decide +kernel
theorem dX0_figure_38 : decode cX0_figure 38 = .ok (.ireturn, 1) := by decide +kernel
theorem dX0_figure_39 : decode cX0_figure 39 = .ok (.aload_n 0, 1) := by decide +kernel
theorem dX0_figure_40 : decode cX0_figure 40 = .ok (.getfield 19, 3) := by decide +kernel
theorem dX0_figure_43 : decode cX0_figure 43 = .ok (.iload_n 1, 1) := by decide +kernel
theorem dX0_figure_44 : decode cX0_figure 44 = .ok (.iaload, 1) := by decide +kernel
theorem dX0_figure_45 : decode cX0_figure 45 = .ok (.ireturn, 1) := by decide +kernel
theorem dX0_figure_46 : decode cX0_figure 46 = .ok (.aload_n 0, 1) := by decide +kernel
theorem dX0_figure_47 : decode cX0_figure 47 = .ok (.getfield 22, 3) := by decide +kernel
theorem dX0_figure_50 : decode cX0_figure 50 = .ok (.iload_n 1, 1) := by decide +kernel
theorem dX0_figure_51 : decode cX0_figure 51 = .ok (.iaload, 1) := by decide +kernel
theorem dX0_figure_52 : decode cX0_figure 52 = .ok (.ireturn, 1) := by decide +kernel
theorem dX0_figure_53 : decode cX0_figure 53 = .ok (.aload_n 0, 1) := by decide +kernel
theorem dX0_figure_54 : decode cX0_figure 54 = .ok (.iload_n 1, 1) := by decide +kernel
theorem dX0_figure_55 : decode cX0_figure 55 = .ok (.invokevirtual 36, 3) := by decide +kernel
theorem dX0_figure_58 : decode cX0_figure 58 = .ok (.ifCond .eq 7, 3) := by decide +kernel
theorem dX0_figure_61 : decode cX0_figure 61 = .ok (.iconst 0, 1) := by decide +kernel
theorem dX0_figure_62 : decode cX0_figure 62 = .ok (.goto 4, 3) := by decide +kernel
theorem dX0_figure_65 : decode cX0_figure 65 = .ok (.iconst 1, 1) := by decide +kernel
theorem dX0_figure_66 : decode cX0_figure 66 = .ok (.ireturn, 1) := by decide +kernel
theorem dX0_figure_67 : decode cX0_figure 67 = .ok (.aload_n 0, 1) := by decide +kernel
theorem dX0_figure_68 : decode cX0_figure 68 = .ok (.getfield 25, 3) := by decide +kernel
theorem dX0_figure_71 : decode cX0_figure 71 = .ok (.iload_n 1, 1) := by decide +kernel
theorem dX0_figure_72 : decode cX0_figure 72 = .ok (.iaload, 1) := by decide +kernel
theorem dX0_figure_73 : decode cX0_figure 73 = .ok (.ireturn, 1) := by decide +kernel
set_option maxRecDepth 20000 in
theorem ggX0_copyFrom_X3_copyRow : GoodIn wsX0_copyFrom wsX3_copyRow := goodIn_r _ [8, 9, 10, 11, 12, 13, 14, 15, 16] (by decide +kernel) (by decide +kernel)
set_option maxRecDepth 20000 in
theorem gX0_copyFrom_X3_copyRow_n40 : GoodIn wsX0_copyFrom (wsX3_copyRow) := ggX0_copyFrom_X3_copyRow
theorem dX0_copyFrom_0 : decode cX0_copyFrom 0 = .ok (.aload_n 0, 1) := by decide +kernel
theorem dX0_copyFrom_1 : decode cX0_copyFrom 1 = .ok (.aload_n 1, 1) := by decide +kernel
theorem dX0_copyFrom_2 : decode cX0_copyFrom 2 = .ok (.getfield 9, 3) := by decide +kernel
theorem dX0_copyFrom_5 : decode cX0_copyFrom 5 = .ok (.putfield 9, 3) := by decide +kernel
theorem dX0_copyFrom_8 : decode cX0_copyFrom 8 = .ok (.aload_n 1, 1) := by decide +kernel
theorem dX0_copyFrom_9 : decode cX0_copyFrom 9 = .ok (.getfield 15, 3) := by decide +kernel
theorem dX0_copyFrom_12 : decode cX0_copyFrom 12 = .ok (.aload_n 0, 1) := by decide +kernel
theorem dX0_copyFrom_13 : decode cX0_copyFrom 13 = .ok (.getfield 15, 3) := by decide +kernel
theorem dX0_copyFrom_16 : decode cX0_copyFrom 16 = .ok (.invokestatic 40, 3) := by decide +kernel
theorem dX0_copyFrom_19 : decode cX0_copyFrom 19 = .ok (.aload_n 1, 1) := by decide +kernel
theorem dX0_copyFrom_20 : decode cX0_copyFrom 20 = .ok (.getfield 19, 3) := by decide +kernel
theorem dX0_copyFrom_23 : decode cX0_copyFrom 23 = .ok (.aload_n 0, 1) := by decide +kernel
theorem dX0_copyFrom_24 : decode cX0_copyFrom 24 = .ok (.getfield 19, 3) := by decide +kernel
theorem dX0_copyFrom_27 : decode cX0_copyFrom 27 = .ok (.invokestatic 40, 3) := by decide +kernel
theorem dX0_copyFrom_30 : decode cX0_copyFrom 30 = .ok (.aload_n 1, 1) := by decide +kernel
theorem dX0_copyFrom_31 : decode cX0_copyFrom 31 = .ok (.getfield 22, 3) := by decide +kernel
theorem dX0_copyFrom_34 : decode cX0_copyFrom 34 = .ok (.aload_n 0, 1) := by decide +kernel
theorem dX0_copyFrom_35 : decode cX0_copyFrom 35 = .ok (.getfield 22, 3) := by decide +kernel
theorem dX0_copyFrom_38 : decode cX0_copyFrom 38 = .ok (.invokestatic 40, 3) := by decide +kernel
theorem dX0_copyFrom_41 : decode cX0_copyFrom 41 = .ok (.aload_n 1, 1) := by decide +kernel
theorem dX0_copyFrom_42 : decode cX0_copyFrom 42 = .ok (.getfield 25, 3) := by decide +kernel
theorem dX0_copyFrom_45 : decode cX0_copyFrom 45 = .ok (.aload_n 0, 1) := by decide +kernel
theorem dX0_copyFrom_46 : decode cX0_copyFrom 46 = .ok (.getfield 25, 3) := by decide +kernel
theorem dX0_copyFrom_49 : decode cX0_copyFrom 49 = .ok (.invokestatic 40, 3) := by decide +kernel
theorem dX0_copyFrom_52 : decode cX0_copyFrom 52 = .ok (.return_, 1) := by decide +kernel
theorem dX1_init_0 : decode cX1_init 0 = .ok (.aload_n 0, 1) := by decide +kernel
theorem dX1_init_1 : decode cX1_init 1 = .ok (.invokespecial 3, 3) := by decide +kernel
theorem dX1_init_4 : decode cX1_init 4 = .ok (.aload_n 0, 1) := by decide +kernel
theorem dX1_init_5 : decode cX1_init 5 = .ok (.iconst 0, 1) := by decide +kernel
theorem dX1_init_6 : decode cX1_init 6 = .ok (.putfield 9, 3) := by decide +kernel
theorem dX1_init_9 : decode cX1_init 9 = .ok (.aload_n 0, 1) := by decide +kernel
theorem dX1_init_10 : decode cX1_init 10 = .ok (.bipush 8, 2) := by decide +kernel
theorem dX1_init_12 : decode cX1_init 12 = .ok (.newarray .int, 2) := by decide +kernel
theorem dX1_init_14 : decode cX1_init 14 = .ok (.putfield 15, 3) := by decide +kernel
theorem dX1_init_17 : decode cX1_init 17 = .ok (.aload_n 0, 1) := by decide +kernel
theorem dX1_init_18 : decode cX1_init 18 = .ok (.bipush 8, 2) := by decide +kernel
theorem dX1_init_20 : decode cX1_init 20 = .ok (.newarray .int, 2) := by decide +kernel
theorem dX1_init_22 : decode cX1_init 22 = .ok (.putfield 19, 3) := by decide +kernel
theorem dX1_init_25 : decode cX1_init 25 = .ok (.aload_n 0, 1) := by decide +kernel
theorem dX1_init_26 : decode cX1_init 26 = .ok (.bipush 8, 2) := by decide +kernel
theorem dX1_init_28 : decode cX1_init 28 = .ok (.newarray .int, 2) := by decide +kernel
theorem dX1_init_30 : decode cX1_init 30 = .ok (.putfield 22, 3) := by decide +kernel
theorem dX1_init_33 : decode cX1_init 33 = .ok (.aload_n 0, 1) := by decide +kernel
theorem dX1_init_34 : decode cX1_init 34 = .ok (.bipush 8, 2) := by decide +kernel
theorem dX1_init_36 : decode cX1_init 36 = .ok (.newarray .int, 2) := by decide +kernel
theorem dX1_init_38 : decode cX1_init 38 = .ok (.putfield 25, 3) := by decide +kernel
theorem dX1_init_41 : decode cX1_init 41 = .ok (.aload_n 0, 1) := by decide +kernel
theorem dX1_init_42 : decode cX1_init 42 = .ok (.bipush 8, 2) := by decide +kernel
theorem dX1_init_44 : decode cX1_init 44 = .ok (.newarray .int, 2) := by decide +kernel
theorem dX1_init_46 : decode cX1_init 46 = .ok (.putfield 28, 3) := by decide +kernel
theorem dX1_init_49 : decode cX1_init 49 = .ok (.aload_n 0, 1) := by decide +kernel
theorem dX1_init_50 : decode cX1_init 50 = .ok (.bipush 8, 2) := by decide +kernel
theorem dX1_init_52 : decode cX1_init 52 = .ok (.newarray .int, 2) := by decide +kernel
theorem dX1_init_54 : decode cX1_init 54 = .ok (.putfield 31, 3) := by decide +kernel
theorem dX1_init_57 : decode cX1_init 57 = .ok (.aload_n 0, 1) := by decide +kernel
theorem dX1_init_58 : decode cX1_init 58 = .ok (.bipush 8, 2) := by decide +kernel
theorem dX1_init_60 : decode cX1_init 60 = .ok (.newarray .int, 2) := by decide +kernel
theorem dX1_init_62 : decode cX1_init 62 = .ok (.putfield 34, 3) := by decide +kernel
theorem dX1_init_65 : decode cX1_init 65 = .ok (.aload_n 0, 1) := by decide +kernel
theorem dX1_init_66 : decode cX1_init 66 = .ok (.bipush 8, 2) := by decide +kernel
theorem dX1_init_68 : decode cX1_init 68 = .ok (.newarray .int, 2) := by decide +kernel
theorem dX1_init_70 : decode cX1_init 70 = .ok (.putfield 37, 3) := by decide +kernel
theorem dX1_init_73 : decode cX1_init 73 = .ok (.return_, 1) := by decide +kernel
theorem dX1_has_0 : decode cX1_has 0 = .ok (.iload_n 1, 1) := by decide +kernel
theorem dX1_has_1 : decode cX1_has 1 = .ok (.ifCond .lt 15, 3) := by decide +kernel
theorem dX1_has_4 : decode cX1_has 4 = .ok (.iload_n 1, 1) := by decide +kernel
theorem dX1_has_5 : decode cX1_has 5 = .ok (.aload_n 0, 1) := by decide +kernel
theorem dX1_has_6 : decode cX1_has 6 = .ok (.getfield 9, 3) := by decide +kernel
theorem dX1_has_9 : decode cX1_has 9 = .ok (.if_icmp .ge 7, 3) := by decide +kernel
theorem dX1_has_12 : decode cX1_has 12 = .ok (.iconst 1, 1) := by decide +kernel
theorem dX1_has_13 : decode cX1_has 13 = .ok (.goto 4, 3) := by decide +kernel
theorem dX1_has_16 : decode cX1_has 16 = .ok (.iconst 0, 1) := by decide +kernel
theorem dX1_has_17 : decode cX1_has 17 = .ok (.ireturn, 1) := by decide +kernel
theorem dX1_isFull_0 : decode cX1_isFull 0 = .ok (.aload_n 0, 1) := by decide +kernel
theorem dX1_isFull_1 : decode cX1_isFull 1 = .ok (.getfield 9, 3) := by decide +kernel
theorem dX1_isFull_4 : decode cX1_isFull 4 = .ok (.bipush 8, 2) := by decide +kernel
theorem dX1_isFull_6 : decode cX1_isFull 6 = .ok (.if_icmp .lt 7, 3) := by decide +kernel
theorem dX1_isFull_9 : decode cX1_isFull 9 = .ok (.iconst 1, 1) := by decide +kernel
theorem dX1_isFull_10 : decode cX1_isFull 10 = .ok (.goto 4, 3) := by decide +kernel
theorem dX1_isFull_13 : decode cX1_isFull 13 = .ok (.iconst 0, 1) := by decide +kernel
theorem dX1_isFull_14 : decode cX1_isFull 14 = .ok (.ireturn, 1) := by decide +kernel
theorem dX1_add_0 : decode cX1_add 0 = .ok (.aload_n 0, 1) := by decide +kernel
theorem dX1_add_1 : decode cX1_add 1 = .ok (.getfield 9, 3) := by decide +kernel
theorem dX1_add_4 : decode cX1_add 4 = .ok (.istore_n 3, 1) := by decide +kernel
theorem dX1_add_5 : decode cX1_add 5 = .ok (.aload_n 0, 1) := by decide +kernel
theorem dX1_add_6 : decode cX1_add 6 = .ok (.getfield 15, 3) := by decide +kernel
theorem dX1_add_9 : decode cX1_add 9 = .ok (.iload_n 3, 1) := by decide +kernel
theorem dX1_add_10 : decode cX1_add 10 = .ok (.iload_n 1, 1) := by decide +kernel
theorem dX1_add_11 : decode cX1_add 11 = .ok (.iastore, 1) := by decide +kernel
theorem dX1_add_12 : decode cX1_add 12 = .ok (.aload_n 0, 1) := by decide +kernel
theorem dX1_add_13 : decode cX1_add 13 = .ok (.getfield 19, 3) := by decide +kernel
theorem dX1_add_16 : decode cX1_add 16 = .ok (.iload_n 3, 1) := by decide +kernel
theorem dX1_add_17 : decode cX1_add 17 = .ok (.iload_n 2, 1) := by decide +kernel
theorem dX1_add_18 : decode cX1_add 18 = .ok (.iastore, 1) := by decide +kernel
theorem dX1_add_19 : decode cX1_add 19 = .ok (.aload_n 0, 1) := by decide +kernel
theorem dX1_add_20 : decode cX1_add 20 = .ok (.getfield 34, 3) := by decide +kernel
theorem dX1_add_23 : decode cX1_add 23 = .ok (.iload_n 3, 1) := by decide +kernel
theorem dX1_add_24 : decode cX1_add 24 = .ok (.iconst (-1), 1) := by decide +kernel
theorem dX1_add_25 : decode cX1_add 25 = .ok (.iastore, 1) := by decide +kernel
theorem dX1_add_26 : decode cX1_add 26 = .ok (.aload_n 0, 1) := by decide +kernel
theorem dX1_add_27 : decode cX1_add 27 = .ok (.dup, 1) := by decide +kernel
theorem dX1_add_28 : decode cX1_add 28 = .ok (.getfield 9, 3) := by decide +kernel
theorem dX1_add_31 : decode cX1_add 31 = .ok (.iconst 1, 1) := by decide +kernel
theorem dX1_add_32 : decode cX1_add 32 = .ok (.iadd, 1) := by decide +kernel
theorem dX1_add_33 : decode cX1_add 33 = .ok (.putfield 9, 3) := by decide +kernel
theorem dX1_add_36 : decode cX1_add 36 = .ok (.iload_n 3, 1) := by decide +kernel
theorem dX1_add_37 : decode cX1_add 37 = .ok (.ireturn, 1) := by decide +kernel
theorem dX1_putWaxOn_0 : decode cX1_putWaxOn 0 = .ok (.aload_n 0, 1) := by decide +kernel
theorem dX1_putWaxOn_1 : decode cX1_putWaxOn 1 = .ok (.getfield 22, 3) := by decide +kernel
theorem dX1_putWaxOn_4 : decode cX1_putWaxOn 4 = .ok (.iload_n 1, 1) := by decide +kernel
theorem dX1_putWaxOn_5 : decode cX1_putWaxOn 5 = .ok (.iload_n 2, 1) := by decide +kernel
theorem dX1_putWaxOn_6 : decode cX1_putWaxOn 6 = .ok (.iastore, 1) := by decide +kernel
theorem dX1_putWaxOn_7 : decode cX1_putWaxOn 7 = .ok (.aload_n 0, 1) := by decide +kernel
theorem dX1_putWaxOn_8 : decode cX1_putWaxOn 8 = .ok (.getfield 25, 3) := by decide +kernel
theorem dX1_putWaxOn_11 : decode cX1_putWaxOn 11 = .ok (.iload_n 1, 1) := by decide +kernel
theorem dX1_putWaxOn_12 : decode cX1_putWaxOn 12 = .ok (.bipush 10, 2) := by decide +kernel
theorem dX1_putWaxOn_14 : decode cX1_putWaxOn 14 = .ok (.iastore, 1) := by decide +kernel
theorem dX1_putWaxOn_15 : decode cX1_putWaxOn 15 = .ok (.return_, 1) := by decide +kernel
theorem dX1_waitingAt_0 : decode cX1_waitingAt 0 = .ok (.iconst 0, 1) := by decide +kernel
theorem dX1_waitingAt_1 : decode cX1_waitingAt 1 = .ok (.istore_n 2, 1) := by decide +kernel
theorem dX1_waitingAt_2 : decode cX1_waitingAt 2 = .ok (.iconst 0, 1) := by decide +kernel
theorem dX1_waitingAt_3 : decode cX1_waitingAt 3 = .ok (.istore_n 3, 1) := by decide +kernel
theorem dX1_waitingAt_4 : decode cX1_waitingAt 4 = .ok (.iload_n 3, 1) := by decide +kernel
theorem dX1_waitingAt_5 : decode cX1_waitingAt 5 = .ok (.aload_n 0, 1) := by decide +kernel
theorem dX1_waitingAt_6 : decode cX1_waitingAt 6 = .ok (.getfield 9, 3) := by decide +kernel
theorem dX1_waitingAt_9 : decode cX1_waitingAt 9 = .ok (.if_icmp .ge 22, 3) := by decide +kernel
theorem dX1_waitingAt_12 : decode cX1_waitingAt 12 = .ok (.aload_n 0, 1) := by decide +kernel
theorem dX1_waitingAt_13 : decode cX1_waitingAt 13 = .ok (.getfield 34, 3) := by decide +kernel
theorem dX1_waitingAt_16 : decode cX1_waitingAt 16 = .ok (.iload_n 3, 1) := by decide +kernel
theorem dX1_waitingAt_17 : decode cX1_waitingAt 17 = .ok (.iaload, 1) := by decide +kernel
theorem dX1_waitingAt_18 : decode cX1_waitingAt 18 = .ok (.iload_n 1, 1) := by decide +kernel
theorem dX1_waitingAt_19 : decode cX1_waitingAt 19 = .ok (.if_icmp .ne 6, 3) := by decide +kernel
theorem dX1_waitingAt_22 : decode cX1_waitingAt 22 = .ok (.iinc 2 1, 3) := by decide +kernel
theorem dX1_waitingAt_25 : decode cX1_waitingAt 25 = .ok (.iinc 3 1, 3) := by decide +kernel
theorem dX1_waitingAt_28 : decode cX1_waitingAt 28 = .ok (.goto (-24), 3) := by decide +kernel
theorem dX1_waitingAt_31 : decode cX1_waitingAt 31 = .ok (.iload_n 2, 1) := by decide +kernel
theorem dX1_waitingAt_32 : decode cX1_waitingAt 32 = .ok (.ireturn, 1) := by decide +kernel
theorem dX1_waitingAnywhere_0 : decode cX1_waitingAnywhere 0 = .ok (.iconst 0, 1) := by decide +kernel
theorem dX1_waitingAnywhere_1 : decode cX1_waitingAnywhere 1 = .ok (.istore_n 1, 1) := by decide +kernel
theorem dX1_waitingAnywhere_2 : decode cX1_waitingAnywhere 2 = .ok (.iconst 0, 1) := by decide +kernel
theorem dX1_waitingAnywhere_3 : decode cX1_waitingAnywhere 3 = .ok (.istore_n 2, 1) := by decide +kernel
theorem dX1_waitingAnywhere_4 : decode cX1_waitingAnywhere 4 = .ok (.iload_n 2, 1) := by decide +kernel
theorem dX1_waitingAnywhere_5 : decode cX1_waitingAnywhere 5 = .ok (.aload_n 0, 1) := by decide +kernel
theorem dX1_waitingAnywhere_6 : decode cX1_waitingAnywhere 6 = .ok (.getfield 9, 3) := by decide +kernel
theorem dX1_waitingAnywhere_9 : decode cX1_waitingAnywhere 9 = .ok (.if_icmp .ge 22, 3) := by decide +kernel
theorem dX1_waitingAnywhere_12 : decode cX1_waitingAnywhere 12 = .ok (.aload_n 0, 1) := by decide +kernel
theorem dX1_waitingAnywhere_13 : decode cX1_waitingAnywhere 13 = .ok (.getfield 34, 3) := by decide +kernel
theorem dX1_waitingAnywhere_16 : decode cX1_waitingAnywhere 16 = .ok (.iload_n 2, 1) := by decide +kernel
theorem dX1_waitingAnywhere_17 : decode cX1_waitingAnywhere 17 = .ok (.iaload, 1) := by decide +kernel
theorem dX1_waitingAnywhere_18 : decode cX1_waitingAnywhere 18 = .ok (.iconst (-1), 1) := by decide +kernel
theorem dX1_waitingAnywhere_19 : decode cX1_waitingAnywhere 19 = .ok (.if_icmp .eq 6, 3) := by decide +kernel
theorem dX1_waitingAnywhere_22 : decode cX1_waitingAnywhere 22 = .ok (.iinc 1 1, 3) := by decide +kernel
theorem dX1_waitingAnywhere_25 : decode cX1_waitingAnywhere 25 = .ok (.iinc 2 1, 3) := by decide +kernel
theorem dX1_waitingAnywhere_28 : decode cX1_waitingAnywhere 28 = .ok (.goto (-24), 3) := by decide +kernel
theorem dX1_waitingAnywhere_31 : decode cX1_waitingAnywhere 31 = .ok (.iload_n 1, 1) := by decide +kernel
theorem dX1_waitingAnywhere_32 : decode cX1_waitingAnywhere 32 = .ok (.ireturn, 1) := by decide +kernel
theorem dX1_at_0 : decode cX1_at 0 = .ok (.iconst 0, 1) := by decide +kernel
theorem dX1_at_1 : decode cX1_at 1 = .ok (.istore_n 3, 1) := by decide +kernel
theorem dX1_at_2 : decode cX1_at 2 = .ok (.iload_n 3, 1) := by decide +kernel
theorem dX1_at_3 : decode cX1_at 3 = .ok (.aload_n 0, 1) := by decide +kernel
theorem dX1_at_4 : decode cX1_at 4 = .ok (.getfield 9, 3) := by decide +kernel
theorem dX1_at_7 : decode cX1_at 7 = .ok (.if_icmp .ge 31, 3) := by decide +kernel
theorem dX1_at_10 : decode cX1_at 10 = .ok (.aload_n 0, 1) := by decide +kernel
theorem dX1_at_11 : decode cX1_at 11 = .ok (.getfield 34, 3) := by decide +kernel
theorem dX1_at_14 : decode cX1_at 14 = .ok (.iload_n 3, 1) := by decide +kernel
theorem dX1_at_15 : decode cX1_at 15 = .ok (.iaload, 1) := by decide +kernel
theorem dX1_at_16 : decode cX1_at 16 = .ok (.iload_n 1, 1) := by decide +kernel
theorem dX1_at_17 : decode cX1_at 17 = .ok (.if_icmp .ne 15, 3) := by decide +kernel
theorem dX1_at_20 : decode cX1_at 20 = .ok (.aload_n 0, 1) := by decide +kernel
theorem dX1_at_21 : decode cX1_at 21 = .ok (.getfield 37, 3) := by decide +kernel
theorem dX1_at_24 : decode cX1_at 24 = .ok (.iload_n 3, 1) := by decide +kernel
theorem dX1_at_25 : decode cX1_at 25 = .ok (.iaload, 1) := by decide +kernel
theorem dX1_at_26 : decode cX1_at 26 = .ok (.iload_n 2, 1) := by decide +kernel
theorem dX1_at_27 : decode cX1_at 27 = .ok (.if_icmp .ne 5, 3) := by decide +kernel
theorem dX1_at_30 : decode cX1_at 30 = .ok (.iload_n 3, 1) := by decide +kernel
theorem dX1_at_31 : decode cX1_at 31 = .ok (.ireturn, 1) := by decide +kernel
theorem dX1_at_32 : decode cX1_at 32 = .ok (.iinc 3 1, 3) := by decide +kernel
theorem dX1_at_35 : decode cX1_at 35 = .ok (.goto (-33), 3) := by decide +kernel
theorem dX1_at_38 : decode cX1_at 38 = .ok (.iconst (-1), 1) := by decide +kernel
theorem dX1_at_39 : decode cX1_at 39 = .ok (.ireturn, 1) := by decide +kernel
theorem dX1_takeOutOfQueue_0 : decode cX1_takeOutOfQueue 0 = .ok (.aload_n 0, 1) := by decide +kernel
theorem dX1_takeOutOfQueue_1 : decode cX1_takeOutOfQueue 1 = .ok (.getfield 34, 3) := by decide +kernel
theorem dX1_takeOutOfQueue_4 : decode cX1_takeOutOfQueue 4 = .ok (.iload_n 1, 1) := by decide +kernel
theorem dX1_takeOutOfQueue_5 : decode cX1_takeOutOfQueue 5 = .ok (.iaload, 1) := by decide +kernel
theorem dX1_takeOutOfQueue_6 : decode cX1_takeOutOfQueue 6 = .ok (.istore_n 2, 1) := by decide +kernel
theorem dX1_takeOutOfQueue_7 : decode cX1_takeOutOfQueue 7 = .ok (.aload_n 0, 1) := by decide +kernel
theorem dX1_takeOutOfQueue_8 : decode cX1_takeOutOfQueue 8 = .ok (.getfield 37, 3) := by decide +kernel
theorem dX1_takeOutOfQueue_11 : decode cX1_takeOutOfQueue 11 = .ok (.iload_n 1, 1) := by decide +kernel
theorem dX1_takeOutOfQueue_12 : decode cX1_takeOutOfQueue 12 = .ok (.iaload, 1) := by decide +kernel
theorem dX1_takeOutOfQueue_13 : decode cX1_takeOutOfQueue 13 = .ok (.istore_n 3, 1) := by decide +kernel
theorem dX1_takeOutOfQueue_14 : decode cX1_takeOutOfQueue 14 = .ok (.iload_n 2, 1) := by decide +kernel
theorem dX1_takeOutOfQueue_15 : decode cX1_takeOutOfQueue 15 = .ok (.iconst (-1), 1) := by decide +kernel
theorem dX1_takeOutOfQueue_16 : decode cX1_takeOutOfQueue 16 = .ok (.if_icmp .ne 4, 3) := by decide +kernel
theorem dX1_takeOutOfQueue_19 : decode cX1_takeOutOfQueue 19 = .ok (.return_, 1) := by decide +kernel
theorem dX1_takeOutOfQueue_20 : decode cX1_takeOutOfQueue 20 = .ok (.aload_n 0, 1) := by decide +kernel
theorem dX1_takeOutOfQueue_21 : decode cX1_takeOutOfQueue 21 = .ok (.getfield 34, 3) := by decide +kernel
theorem dX1_takeOutOfQueue_24 : decode cX1_takeOutOfQueue 24 = .ok (.iload_n 1, 1) := by decide +kernel
theorem dX1_takeOutOfQueue_25 : decode cX1_takeOutOfQueue 25 = .ok (.iconst (-1), 1) := by decide +kernel
theorem dX1_takeOutOfQueue_26 : decode cX1_takeOutOfQueue 26 = .ok (.iastore, 1) := by decide +kernel
theorem dX1_takeOutOfQueue_27 : decode cX1_takeOutOfQueue 27 = .ok (.iconst 0, 1) := by decide +kernel
theorem dX1_takeOutOfQueue_28 : decode cX1_takeOutOfQueue 28 = .ok (.istore 4, 2) := by decide +kernel
theorem dX1_takeOutOfQueue_30 : decode cX1_takeOutOfQueue 30 = .ok (.iload 4, 2) := by decide +kernel
theorem dX1_takeOutOfQueue_32 : decode cX1_takeOutOfQueue 32 = .ok (.aload_n 0, 1) := by decide +kernel
theorem dX1_takeOutOfQueue_33 : decode cX1_takeOutOfQueue 33 = .ok (.getfield 9, 3) := by decide +kernel
theorem dX1_takeOutOfQueue_36 : decode cX1_takeOutOfQueue 36 = .ok (.if_icmp .ge 42, 3) := by decide +kernel
theorem dX1_takeOutOfQueue_39 : decode cX1_takeOutOfQueue 39 = .ok (.aload_n 0, 1) := by decide +kernel
theorem dX1_takeOutOfQueue_40 : decode cX1_takeOutOfQueue 40 = .ok (.getfield 34, 3) := by decide +kernel
theorem dX1_takeOutOfQueue_43 : decode cX1_takeOutOfQueue 43 = .ok (.iload 4, 2) := by decide +kernel
theorem dX1_takeOutOfQueue_45 : decode cX1_takeOutOfQueue 45 = .ok (.iaload, 1) := by decide +kernel
theorem dX1_takeOutOfQueue_46 : decode cX1_takeOutOfQueue 46 = .ok (.iload_n 2, 1) := by decide +kernel
theorem dX1_takeOutOfQueue_47 : decode cX1_takeOutOfQueue 47 = .ok (.if_icmp .ne 25, 3) := by decide +kernel
theorem dX1_takeOutOfQueue_50 : decode cX1_takeOutOfQueue 50 = .ok (.aload_n 0, 1) := by decide +kernel
theorem dX1_takeOutOfQueue_51 : decode cX1_takeOutOfQueue 51 = .ok (.getfield 37, 3) := by decide +kernel
theorem dX1_takeOutOfQueue_54 : decode cX1_takeOutOfQueue 54 = .ok (.iload 4, 2) := by decide +kernel
theorem dX1_takeOutOfQueue_56 : decode cX1_takeOutOfQueue 56 = .ok (.iaload, 1) := by decide +kernel
theorem dX1_takeOutOfQueue_57 : decode cX1_takeOutOfQueue 57 = .ok (.iload_n 3, 1) := by decide +kernel
theorem dX1_takeOutOfQueue_58 : decode cX1_takeOutOfQueue 58 = .ok (.if_icmp .le 14, 3) := by decide +kernel
theorem dX1_takeOutOfQueue_61 : decode cX1_takeOutOfQueue 61 = .ok (.aload_n 0, 1) := by decide +kernel
theorem dX1_takeOutOfQueue_62 : decode cX1_takeOutOfQueue 62 = .ok (.getfield 37, 3) := by decide +kernel
theorem dX1_takeOutOfQueue_65 : decode cX1_takeOutOfQueue 65 = .ok (.iload 4, 2) := by decide +kernel
theorem dX1_takeOutOfQueue_67 : decode cX1_takeOutOfQueue 67 = .ok (.dup2, 1) := by decide +kernel
theorem dX1_takeOutOfQueue_68 : decode cX1_takeOutOfQueue 68 = .ok (.iaload, 1) := by decide +kernel
theorem dX1_takeOutOfQueue_69 : decode cX1_takeOutOfQueue 69 = .ok (.iconst 1, 1) := by decide +kernel
theorem dX1_takeOutOfQueue_70 : decode cX1_takeOutOfQueue 70 = .ok (.isub, 1) := by decide +kernel
theorem dX1_takeOutOfQueue_71 : decode cX1_takeOutOfQueue 71 = .ok (.iastore, 1) := by decide +kernel
theorem dX1_takeOutOfQueue_72 : decode cX1_takeOutOfQueue 72 = .ok (.iinc 4 1, 3) := by decide +kernel
theorem dX1_takeOutOfQueue_75 : decode cX1_takeOutOfQueue 75 = .ok (.goto (-45), 3) := by decide +kernel
theorem dX1_takeOutOfQueue_78 : decode cX1_takeOutOfQueue 78 = .ok (.return_, 1) := by decide +kernel
set_option maxRecDepth 20000 in
theorem ggX1_putAtEnd_X1_waitingAt : GoodIn wsX1_putAtEnd wsX1_waitingAt := goodIn_r _ [7, 8, 1, 9, 10, 11, 12, 13, 14, 15, 16, 17] (by decide +kernel) (by decide +kernel)
set_option maxRecDepth 20000 in
theorem gX1_putAtEnd_X1_waitingAt : GoodIn wsX1_putAtEnd (wsV RX1 40 RX1 yX1_waitingAt wsX1_waitingAt) := goodIn_app (goodIn_of _ (by decide +kernel)) ggX1_putAtEnd_X1_waitingAt
theorem dX1_putAtEnd_0 : decode cX1_putAtEnd 0 = .ok (.aload_n 0, 1) := by decide +kernel
theorem dX1_putAtEnd_1 : decode cX1_putAtEnd 1 = .ok (.iload_n 2, 1) := by decide +kernel
theorem dX1_putAtEnd_2 : decode cX1_putAtEnd 2 = .ok (.invokevirtual 40, 3) := by decide +kernel
theorem dX1_putAtEnd_5 : decode cX1_putAtEnd 5 = .ok (.istore_n 3, 1) := by decide +kernel
theorem dX1_putAtEnd_6 : decode cX1_putAtEnd 6 = .ok (.aload_n 0, 1) := by decide +kernel
theorem dX1_putAtEnd_7 : decode cX1_putAtEnd 7 = .ok (.getfield 34, 3) := by decide +kernel
theorem dX1_putAtEnd_10 : decode cX1_putAtEnd 10 = .ok (.iload_n 1, 1) := by decide +kernel
theorem dX1_putAtEnd_11 : decode cX1_putAtEnd 11 = .ok (.iload_n 2, 1) := by decide +kernel
theorem dX1_putAtEnd_12 : decode cX1_putAtEnd 12 = .ok (.iastore, 1) := by decide +kernel
theorem dX1_putAtEnd_13 : decode cX1_putAtEnd 13 = .ok (.aload_n 0, 1) := by decide +kernel
theorem dX1_putAtEnd_14 : decode cX1_putAtEnd 14 = .ok (.getfield 37, 3) := by decide +kernel
theorem dX1_putAtEnd_17 : decode cX1_putAtEnd 17 = .ok (.iload_n 1, 1) := by decide +kernel
theorem dX1_putAtEnd_18 : decode cX1_putAtEnd 18 = .ok (.iload_n 3, 1) := by decide +kernel
theorem dX1_putAtEnd_19 : decode cX1_putAtEnd 19 = .ok (.iastore, 1) := by decide +kernel
theorem dX1_putAtEnd_20 : decode cX1_putAtEnd 20 = .ok (.return_, 1) := by decide +kernel
theorem dX1_glide_0 : decode cX1_glide 0 = .ok (.aload_n 0, 1) := by decide +kernel
theorem dX1_glide_1 : decode cX1_glide 1 = .ok (.getfield 25, 3) := by decide +kernel
theorem dX1_glide_4 : decode cX1_glide 4 = .ok (.iload_n 1, 1) := by decide +kernel
theorem dX1_glide_5 : decode cX1_glide 5 = .ok (.iaload, 1) := by decide +kernel
theorem dX1_glide_6 : decode cX1_glide 6 = .ok (.ifCond .gt 6, 3) := by decide +kernel
theorem dX1_glide_9 : decode cX1_glide 9 = .ok (.bipush (-4), 2) := by decide +kernel
theorem dX1_glide_11 : decode cX1_glide 11 = .ok (.ireturn, 1) := by decide +kernel
theorem dX1_glide_12 : decode cX1_glide 12 = .ok (.aload_n 0, 1) := by decide +kernel
theorem dX1_glide_13 : decode cX1_glide 13 = .ok (.getfield 25, 3) := by decide +kernel
theorem dX1_glide_16 : decode cX1_glide 16 = .ok (.iload_n 1, 1) := by decide +kernel
theorem dX1_glide_17 : decode cX1_glide 17 = .ok (.dup2, 1) := by decide +kernel
theorem dX1_glide_18 : decode cX1_glide 18 = .ok (.iaload, 1) := by decide +kernel
theorem dX1_glide_19 : decode cX1_glide 19 = .ok (.iconst 1, 1) := by decide +kernel
theorem dX1_glide_20 : decode cX1_glide 20 = .ok (.isub, 1) := by decide +kernel
theorem dX1_glide_21 : decode cX1_glide 21 = .ok (.iastore, 1) := by decide +kernel
theorem dX1_glide_22 : decode cX1_glide 22 = .ok (.iconst 4, 1) := by decide +kernel
theorem dX1_glide_23 : decode cX1_glide 23 = .ok (.iconst 2, 1) := by decide +kernel
theorem dX1_glide_24 : decode cX1_glide 24 = .ok (.aload_n 0, 1) := by decide +kernel
theorem dX1_glide_25 : decode cX1_glide 25 = .ok (.getfield 22, 3) := by decide +kernel
theorem dX1_glide_28 : decode cX1_glide 28 = .ok (.iload_n 1, 1) := by decide +kernel
theorem dX1_glide_29 : decode cX1_glide 29 = .ok (.iaload, 1) := by decide +kernel
theorem dX1_glide_30 : decode cX1_glide 30 = .ok (.iload_n 2, 1) := by decide +kernel
theorem dX1_glide_31 : decode cX1_glide 31 = .ok (.isub, 1) := by decide +kernel
theorem dX1_glide_32 : decode cX1_glide 32 = .ok (.invokestatic 44, 3) := by decide +kernel
theorem dX1_glide_35 : decode cX1_glide 35 = .ok (.imul, 1) := by decide +kernel
theorem dX1_glide_36 : decode cX1_glide 36 = .ok (.isub, 1) := by decide +kernel
theorem dX1_glide_37 : decode cX1_glide 37 = .ok (.ireturn, 1) := by decide +kernel
set_option maxRecDepth 20000 in
theorem ggX1_addPoints_X3_held : GoodIn wsX1_addPoints wsX3_held := goodIn_r _ [4, 5, 6, 7, 8, 9, 10, 11] (by decide +kernel) (by decide +kernel)
set_option maxRecDepth 20000 in
theorem gX1_addPoints_X3_held_n49 : GoodIn wsX1_addPoints (wsX3_held) := ggX1_addPoints_X3_held
theorem dX1_addPoints_0 : decode cX1_addPoints 0 = .ok (.aload_n 0, 1) := by decide +kernel
theorem dX1_addPoints_1 : decode cX1_addPoints 1 = .ok (.getfield 28, 3) := by decide +kernel
theorem dX1_addPoints_4 : decode cX1_addPoints 4 = .ok (.iload_n 1, 1) := by decide +kernel
theorem dX1_addPoints_5 : decode cX1_addPoints 5 = .ok (.aload_n 0, 1) := by decide +kernel
theorem dX1_addPoints_6 : decode cX1_addPoints 6 = .ok (.getfield 28, 3) := by decide +kernel
theorem dX1_addPoints_9 : decode cX1_addPoints 9 = .ok (.iload_n 1, 1) := by decide +kernel
theorem dX1_addPoints_10 : decode cX1_addPoints 10 = .ok (.iaload, 1) := by decide +kernel
theorem dX1_addPoints_11 : decode cX1_addPoints 11 = .ok (.iload_n 2, 1) := by decide +kernel
theorem dX1_addPoints_12 : decode cX1_addPoints 12 = .ok (.iadd, 1) := by decide +kernel
theorem dX1_addPoints_13 : decode cX1_addPoints 13 = .ok (.iconst 0, 1) := by decide +kernel
theorem dX1_addPoints_14 : decode cX1_addPoints 14 = .ok (.sipush 999, 3) := by decide +kernel
theorem dX1_addPoints_17 : decode cX1_addPoints 17 = .ok (.invokestatic 49, 3) := by decide +kernel
theorem dX1_addPoints_20 : decode cX1_addPoints 20 = .ok (.iastore, 1) := by decide +kernel
theorem dX1_addPoints_21 : decode cX1_addPoints 21 = .ok (.return_, 1) := by decide +kernel
theorem dX1_allPoints_0 : decode cX1_allPoints 0 = .ok (.iconst 0, 1) := by decide +kernel
theorem dX1_allPoints_1 : decode cX1_allPoints 1 = .ok (.istore_n 1, 1) := by decide +kernel
theorem dX1_allPoints_2 : decode cX1_allPoints 2 = .ok (.iconst 0, 1) := by decide +kernel
theorem dX1_allPoints_3 : decode cX1_allPoints 3 = .ok (.istore_n 2, 1) := by decide +kernel
theorem dX1_allPoints_4 : decode cX1_allPoints 4 = .ok (.iload_n 2, 1) := by decide +kernel
theorem dX1_allPoints_5 : decode cX1_allPoints 5 = .ok (.aload_n 0, 1) := by decide +kernel
theorem dX1_allPoints_6 : decode cX1_allPoints 6 = .ok (.getfield 9, 3) := by decide +kernel
theorem dX1_allPoints_9 : decode cX1_allPoints 9 = .ok (.if_icmp .ge 18, 3) := by decide +kernel
theorem dX1_allPoints_12 : decode cX1_allPoints 12 = .ok (.iload_n 1, 1) := by decide +kernel
theorem dX1_allPoints_13 : decode cX1_allPoints 13 = .ok (.aload_n 0, 1) := by decide +kernel
theorem dX1_allPoints_14 : decode cX1_allPoints 14 = .ok (.getfield 28, 3) := by decide +kernel
theorem dX1_allPoints_17 : decode cX1_allPoints 17 = .ok (.iload_n 2, 1) := by decide +kernel
theorem dX1_allPoints_18 : decode cX1_allPoints 18 = .ok (.iaload, 1) := by decide +kernel
theorem dX1_allPoints_19 : decode cX1_allPoints 19 = .ok (.iadd, 1) := by decide +kernel
theorem dX1_allPoints_20 : decode cX1_allPoints 20 = .ok (.istore_n 1, 1) := by decide +kernel
theorem dX1_allPoints_21 : decode cX1_allPoints 21 = .ok (.iinc 2 1, 3) := by decide +kernel
theorem dX1_allPoints_24 : decode cX1_allPoints 24 = .ok (.goto (-20), 3) := by decide +kernel
theorem dX1_allPoints_27 : decode cX1_allPoints 27 = .ok (.iload_n 1, 1) := by decide +kernel
theorem dX1_allPoints_28 : decode cX1_allPoints 28 = .ok (.ireturn, 1) := by decide +kernel
theorem dX1_figure_0 : decode cX1_figure 0 = .ok (.iload_n 2, 1) := by decide +kernel
theorem dX1_figure_1 : decode cX1_figure 1 = .ok (.tableswitch 94 0 5 #[39, 46, 53, 73, 80, 87], 39) := by decide +kernel
theorem dX1_figure_40 : decode cX1_figure 40 = .ok (.aload_n 0, 1) := by decide +kernel
theorem dX1_figure_41 : decode cX1_figure 41 = .ok (.getfield 15, 3) := by decide +kernel
theorem dX1_figure_44 : decode cX1_figure 44 = .ok (.iload_n 1, 1) := by decide +kernel
theorem dX1_figure_45 : decode cX1_figure 45 = .ok (.iaload, 1) := by decide +kernel
theorem dX1_figure_46 : decode cX1_figure 46 = .ok (.ireturn, 1) := by decide +kernel
theorem dX1_figure_47 : decode cX1_figure 47 = .ok (.aload_n 0, 1) := by decide +kernel
theorem dX1_figure_48 : decode cX1_figure 48 = .ok (.getfield 19, 3) := by decide +kernel
theorem dX1_figure_51 : decode cX1_figure 51 = .ok (.iload_n 1, 1) := by decide +kernel
theorem dX1_figure_52 : decode cX1_figure 52 = .ok (.iaload, 1) := by decide +kernel
theorem dX1_figure_53 : decode cX1_figure 53 = .ok (.ireturn, 1) := by decide +kernel
theorem dX1_figure_54 : decode cX1_figure 54 = .ok (.aload_n 0, 1) := by decide +kernel
theorem dX1_figure_55 : decode cX1_figure 55 = .ok (.getfield 25, 3) := by decide +kernel
theorem dX1_figure_58 : decode cX1_figure 58 = .ok (.iload_n 1, 1) := by decide +kernel
theorem dX1_figure_59 : decode cX1_figure 59 = .ok (.iaload, 1) := by decide +kernel
theorem dX1_figure_60 : decode cX1_figure 60 = .ok (.ifCond .gt 7, 3) := by decide +kernel
theorem dX1_figure_63 : decode cX1_figure 63 = .ok (.iconst (-1), 1) := by decide +kernel
theorem dX1_figure_64 : decode cX1_figure 64 = .ok (.goto 9, 3) := by decide +kernel
theorem dX1_figure_67 : decode cX1_figure 67 = .ok (.aload_n 0, 1) := by decide +kernel
theorem dX1_figure_68 : decode cX1_figure 68 = .ok (.getfield 22, 3) := by decide +kernel
theorem dX1_figure_71 : decode cX1_figure 71 = .ok (.iload_n 1, 1) := by decide +kernel
theorem dX1_figure_72 : decode cX1_figure 72 = .ok (.iaload, 1) := by decide +kernel
theorem dX1_figure_73 : decode cX1_figure 73 = .ok (.ireturn, 1) := by decide +kernel
theorem dX1_figure_74 : decode cX1_figure 74 = .ok (.aload_n 0, 1) := by decide +kernel
theorem dX1_figure_75 : decode cX1_figure 75 = .ok (.getfield 25, 3) := by decide +kernel
theorem dX1_figure_78 : decode cX1_figure 78 = .ok (.iload_n 1, 1) := by decide +kernel
theorem dX1_figure_79 : decode cX1_figure 79 = .ok (.iaload, 1) := by decide +kernel
theorem dX1_figure_80 : decode cX1_figure 80 = .ok (.ireturn, 1) := by decide +kernel
theorem dX1_figure_81 : decode cX1_figure 81 = .ok (.aload_n 0, 1) := by decide +kernel
theorem dX1_figure_82 : decode cX1_figure 82 = .ok (.getfield 28, 3) := by decide +kernel
theorem dX1_figure_85 : decode cX1_figure 85 = .ok (.iload_n 1, 1) := by decide +kernel
theorem dX1_figure_86 : decode cX1_figure 86 = .ok (.iaload, 1) := by decide +kernel
theorem dX1_figure_87 : decode cX1_figure 87 = .ok (.ireturn, 1) := by decide +kernel
theorem dX1_figure_88 : decode cX1_figure 88 = .ok (.aload_n 0, 1) := by decide +kernel
theorem dX1_figure_89 : decode cX1_figure 89 = .ok (.getfield 31, 3) := by decide +kernel
theorem dX1_figure_92 : decode cX1_figure 92 = .ok (.iload_n 1, 1) := by decide +kernel
theorem dX1_figure_93 : decode cX1_figure 93 = .ok (.iaload, 1) := by decide +kernel
theorem dX1_figure_94 : decode cX1_figure 94 = .ok (.ireturn, 1) := by decide +kernel
theorem dX1_figure_95 : decode cX1_figure 95 = .ok (.aload_n 0, 1) := by decide +kernel
theorem dX1_figure_96 : decode cX1_figure 96 = .ok (.getfield 34, 3) := by decide +kernel
theorem dX1_figure_99 : decode cX1_figure 99 = .ok (.iload_n 1, 1) := by decide +kernel
theorem dX1_figure_100 : decode cX1_figure 100 = .ok (.iaload, 1) := by decide +kernel
theorem dX1_figure_101 : decode cX1_figure 101 = .ok (.ireturn, 1) := by decide +kernel
set_option maxRecDepth 20000 in
theorem ggX1_copyFrom_X3_copyRow : GoodIn wsX1_copyFrom wsX3_copyRow := goodIn_r _ [12, 13, 14, 15, 16, 17, 18, 19, 20] (by decide +kernel) (by decide +kernel)
set_option maxRecDepth 20000 in
theorem gX1_copyFrom_X3_copyRow_n53 : GoodIn wsX1_copyFrom (wsX3_copyRow) := ggX1_copyFrom_X3_copyRow
theorem dX1_copyFrom_0 : decode cX1_copyFrom 0 = .ok (.aload_n 0, 1) := by decide +kernel
theorem dX1_copyFrom_1 : decode cX1_copyFrom 1 = .ok (.aload_n 1, 1) := by decide +kernel
theorem dX1_copyFrom_2 : decode cX1_copyFrom 2 = .ok (.getfield 9, 3) := by decide +kernel
theorem dX1_copyFrom_5 : decode cX1_copyFrom 5 = .ok (.putfield 9, 3) := by decide +kernel
theorem dX1_copyFrom_8 : decode cX1_copyFrom 8 = .ok (.aload_n 1, 1) := by decide +kernel
theorem dX1_copyFrom_9 : decode cX1_copyFrom 9 = .ok (.getfield 15, 3) := by decide +kernel
theorem dX1_copyFrom_12 : decode cX1_copyFrom 12 = .ok (.aload_n 0, 1) := by decide +kernel
theorem dX1_copyFrom_13 : decode cX1_copyFrom 13 = .ok (.getfield 15, 3) := by decide +kernel
theorem dX1_copyFrom_16 : decode cX1_copyFrom 16 = .ok (.invokestatic 53, 3) := by decide +kernel
theorem dX1_copyFrom_19 : decode cX1_copyFrom 19 = .ok (.aload_n 1, 1) := by decide +kernel
theorem dX1_copyFrom_20 : decode cX1_copyFrom 20 = .ok (.getfield 19, 3) := by decide +kernel
theorem dX1_copyFrom_23 : decode cX1_copyFrom 23 = .ok (.aload_n 0, 1) := by decide +kernel
theorem dX1_copyFrom_24 : decode cX1_copyFrom 24 = .ok (.getfield 19, 3) := by decide +kernel
theorem dX1_copyFrom_27 : decode cX1_copyFrom 27 = .ok (.invokestatic 53, 3) := by decide +kernel
theorem dX1_copyFrom_30 : decode cX1_copyFrom 30 = .ok (.aload_n 1, 1) := by decide +kernel
theorem dX1_copyFrom_31 : decode cX1_copyFrom 31 = .ok (.getfield 22, 3) := by decide +kernel
theorem dX1_copyFrom_34 : decode cX1_copyFrom 34 = .ok (.aload_n 0, 1) := by decide +kernel
theorem dX1_copyFrom_35 : decode cX1_copyFrom 35 = .ok (.getfield 22, 3) := by decide +kernel
theorem dX1_copyFrom_38 : decode cX1_copyFrom 38 = .ok (.invokestatic 53, 3) := by decide +kernel
theorem dX1_copyFrom_41 : decode cX1_copyFrom 41 = .ok (.aload_n 1, 1) := by decide +kernel
theorem dX1_copyFrom_42 : decode cX1_copyFrom 42 = .ok (.getfield 25, 3) := by decide +kernel
theorem dX1_copyFrom_45 : decode cX1_copyFrom 45 = .ok (.aload_n 0, 1) := by decide +kernel
theorem dX1_copyFrom_46 : decode cX1_copyFrom 46 = .ok (.getfield 25, 3) := by decide +kernel
theorem dX1_copyFrom_49 : decode cX1_copyFrom 49 = .ok (.invokestatic 53, 3) := by decide +kernel
theorem dX1_copyFrom_52 : decode cX1_copyFrom 52 = .ok (.aload_n 1, 1) := by decide +kernel
theorem dX1_copyFrom_53 : decode cX1_copyFrom 53 = .ok (.getfield 28, 3) := by decide +kernel
theorem dX1_copyFrom_56 : decode cX1_copyFrom 56 = .ok (.aload_n 0, 1) := by decide +kernel
theorem dX1_copyFrom_57 : decode cX1_copyFrom 57 = .ok (.getfield 28, 3) := by decide +kernel
theorem dX1_copyFrom_60 : decode cX1_copyFrom 60 = .ok (.invokestatic 53, 3) := by decide +kernel
theorem dX1_copyFrom_63 : decode cX1_copyFrom 63 = .ok (.aload_n 1, 1) := by decide +kernel
theorem dX1_copyFrom_64 : decode cX1_copyFrom 64 = .ok (.getfield 31, 3) := by decide +kernel
theorem dX1_copyFrom_67 : decode cX1_copyFrom 67 = .ok (.aload_n 0, 1) := by decide +kernel
theorem dX1_copyFrom_68 : decode cX1_copyFrom 68 = .ok (.getfield 31, 3) := by decide +kernel
theorem dX1_copyFrom_71 : decode cX1_copyFrom 71 = .ok (.invokestatic 53, 3) := by decide +kernel
theorem dX1_copyFrom_74 : decode cX1_copyFrom 74 = .ok (.aload_n 1, 1) := by decide +kernel
theorem dX1_copyFrom_75 : decode cX1_copyFrom 75 = .ok (.getfield 34, 3) := by decide +kernel
theorem dX1_copyFrom_78 : decode cX1_copyFrom 78 = .ok (.aload_n 0, 1) := by decide +kernel
theorem dX1_copyFrom_79 : decode cX1_copyFrom 79 = .ok (.getfield 34, 3) := by decide +kernel
theorem dX1_copyFrom_82 : decode cX1_copyFrom 82 = .ok (.invokestatic 53, 3) := by decide +kernel
theorem dX1_copyFrom_85 : decode cX1_copyFrom 85 = .ok (.aload_n 1, 1) := by decide +kernel
theorem dX1_copyFrom_86 : decode cX1_copyFrom 86 = .ok (.getfield 37, 3) := by decide +kernel
theorem dX1_copyFrom_89 : decode cX1_copyFrom 89 = .ok (.aload_n 0, 1) := by decide +kernel
theorem dX1_copyFrom_90 : decode cX1_copyFrom 90 = .ok (.getfield 37, 3) := by decide +kernel
theorem dX1_copyFrom_93 : decode cX1_copyFrom 93 = .ok (.invokestatic 53, 3) := by decide +kernel
theorem dX1_copyFrom_96 : decode cX1_copyFrom 96 = .ok (.return_, 1) := by decide +kernel
set_option maxRecDepth 20000 in
theorem ggX2_init_X0_init : GoodIn wsX2_init wsX0_init := goodIn_r _ [19, 20, 2, 3, 21, 6, 22, 23, 24, 25, 45, 46, 47, 48, 49] (by decide +kernel) (by decide +kernel)
set_option maxRecDepth 20000 in
theorem gX2_init_X0_init_n30 : GoodIn wsX2_init (wsX0_init) := ggX2_init_X0_init
set_option maxRecDepth 20000 in
theorem ggX2_init_X1_init : GoodIn wsX2_init wsX1_init := goodIn_r _ [27, 28, 2, 3, 29, 6, 30, 31, 32, 33, 34, 35, 36, 37, 50, 51, 52, 53, 54, 55, 56, 57, 58] (by decide +kernel) (by decide +kernel)
set_option maxRecDepth 20000 in
theorem gX2_init_X1_init_n37 : GoodIn wsX2_init (wsX1_init) := ggX2_init_X1_init
theorem dX2_init_0 : decode cX2_init 0 = .ok (.aload_n 0, 1) := by decide +kernel
theorem dX2_init_1 : decode cX2_init 1 = .ok (.invokespecial 3, 3) := by decide +kernel
theorem dX2_init_4 : decode cX2_init 4 = .ok (.aload_n 0, 1) := by decide +kernel
theorem dX2_init_5 : decode cX2_init 5 = .ok (.iconst 0, 1) := by decide +kernel
theorem dX2_init_6 : decode cX2_init 6 = .ok (.putfield 9, 3) := by decide +kernel
theorem dX2_init_9 : decode cX2_init 9 = .ok (.aload_n 0, 1) := by decide +kernel
theorem dX2_init_10 : decode cX2_init 10 = .ok (.iconst 0, 1) := by decide +kernel
theorem dX2_init_11 : decode cX2_init 11 = .ok (.putfield 15, 3) := by decide +kernel
theorem dX2_init_14 : decode cX2_init 14 = .ok (.aload_n 0, 1) := by decide +kernel
theorem dX2_init_15 : decode cX2_init 15 = .ok (.bipush 6, 2) := by decide +kernel
theorem dX2_init_17 : decode cX2_init 17 = .ok (.newarray .int, 2) := by decide +kernel
theorem dX2_init_19 : decode cX2_init 19 = .ok (.putfield 18, 3) := by decide +kernel
theorem dX2_init_22 : decode cX2_init 22 = .ok (.aload_n 0, 1) := by decide +kernel
theorem dX2_init_23 : decode cX2_init 23 = .ok (.iconst 3, 1) := by decide +kernel
theorem dX2_init_24 : decode cX2_init 24 = .ok (.newarray .int, 2) := by decide +kernel
theorem dX2_init_26 : decode cX2_init 26 = .ok (.putfield 22, 3) := by decide +kernel
theorem dX2_init_29 : decode cX2_init 29 = .ok (.aload_n 0, 1) := by decide +kernel
theorem dX2_init_30 : decode cX2_init 30 = .ok (.iconst 3, 1) := by decide +kernel
theorem dX2_init_31 : decode cX2_init 31 = .ok (.newarray .int, 2) := by decide +kernel
theorem dX2_init_33 : decode cX2_init 33 = .ok (.putfield 25, 3) := by decide +kernel
theorem dX2_init_36 : decode cX2_init 36 = .ok (.aload_n 0, 1) := by decide +kernel
theorem dX2_init_37 : decode cX2_init 37 = .ok (.new 28, 3) := by decide +kernel
theorem dX2_init_40 : decode cX2_init 40 = .ok (.dup, 1) := by decide +kernel
theorem dX2_init_41 : decode cX2_init 41 = .ok (.invokespecial 30, 3) := by decide +kernel
theorem dX2_init_44 : decode cX2_init 44 = .ok (.putfield 31, 3) := by decide +kernel
theorem dX2_init_47 : decode cX2_init 47 = .ok (.aload_n 0, 1) := by decide +kernel
theorem dX2_init_48 : decode cX2_init 48 = .ok (.new 35, 3) := by decide +kernel
theorem dX2_init_51 : decode cX2_init 51 = .ok (.dup, 1) := by decide +kernel
theorem dX2_init_52 : decode cX2_init 52 = .ok (.invokespecial 37, 3) := by decide +kernel
theorem dX2_init_55 : decode cX2_init 55 = .ok (.putfield 38, 3) := by decide +kernel
theorem dX2_init_58 : decode cX2_init 58 = .ok (.iconst 0, 1) := by decide +kernel
theorem dX2_init_59 : decode cX2_init 59 = .ok (.istore_n 1, 1) := by decide +kernel
theorem dX2_init_60 : decode cX2_init 60 = .ok (.iload_n 1, 1) := by decide +kernel
theorem dX2_init_61 : decode cX2_init 61 = .ok (.bipush 6, 2) := by decide +kernel
theorem dX2_init_63 : decode cX2_init 63 = .ok (.if_icmp .ge 16, 3) := by decide +kernel
theorem dX2_init_66 : decode cX2_init 66 = .ok (.aload_n 0, 1) := by decide +kernel
theorem dX2_init_67 : decode cX2_init 67 = .ok (.getfield 18, 3) := by decide +kernel
theorem dX2_init_70 : decode cX2_init 70 = .ok (.iload_n 1, 1) := by decide +kernel
theorem dX2_init_71 : decode cX2_init 71 = .ok (.iconst 1, 1) := by decide +kernel
theorem dX2_init_72 : decode cX2_init 72 = .ok (.iastore, 1) := by decide +kernel
theorem dX2_init_73 : decode cX2_init 73 = .ok (.iinc 1 1, 3) := by decide +kernel
theorem dX2_init_76 : decode cX2_init 76 = .ok (.goto (-16), 3) := by decide +kernel
theorem dX2_init_79 : decode cX2_init 79 = .ok (.iconst 0, 1) := by decide +kernel
theorem dX2_init_80 : decode cX2_init 80 = .ok (.istore_n 1, 1) := by decide +kernel
theorem dX2_init_81 : decode cX2_init 81 = .ok (.iload_n 1, 1) := by decide +kernel
theorem dX2_init_82 : decode cX2_init 82 = .ok (.iconst 3, 1) := by decide +kernel
theorem dX2_init_83 : decode cX2_init 83 = .ok (.if_icmp .ge 16, 3) := by decide +kernel
theorem dX2_init_86 : decode cX2_init 86 = .ok (.aload_n 0, 1) := by decide +kernel
theorem dX2_init_87 : decode cX2_init 87 = .ok (.getfield 22, 3) := by decide +kernel
theorem dX2_init_90 : decode cX2_init 90 = .ok (.iload_n 1, 1) := by decide +kernel
theorem dX2_init_91 : decode cX2_init 91 = .ok (.iconst 2, 1) := by decide +kernel
theorem dX2_init_92 : decode cX2_init 92 = .ok (.iastore, 1) := by decide +kernel
theorem dX2_init_93 : decode cX2_init 93 = .ok (.iinc 1 1, 3) := by decide +kernel
theorem dX2_init_96 : decode cX2_init 96 = .ok (.goto (-15), 3) := by decide +kernel
theorem dX2_init_99 : decode cX2_init 99 = .ok (.return_, 1) := by decide +kernel
set_option maxRecDepth 20000 in
theorem ggX2_copyFrom_X3_copyRow : GoodIn wsX2_copyFrom wsX3_copyRow := goodIn_r _ [10, 11, 12, 13, 14, 15, 16, 17, 18] (by decide +kernel) (by decide +kernel)
set_option maxRecDepth 20000 in
theorem gX2_copyFrom_X3_copyRow_n42 : GoodIn wsX2_copyFrom (wsX3_copyRow) := ggX2_copyFrom_X3_copyRow
set_option maxRecDepth 20000 in
theorem ggX2_copyFrom_X0_copyFrom : GoodIn wsX2_copyFrom wsX0_copyFrom := goodIn_r _ [23, 24, 25, 26, 27, 28, 8, 9, 10, 11, 12, 13, 14, 15, 16, 17, 18, 50, 51, 52, 53, 54] (by decide +kernel) (by decide +kernel)
set_option maxRecDepth 20000 in
theorem gX2_copyFrom_X0_copyFrom : GoodIn wsX2_copyFrom (wsV RX2 46 RX0 yX0_copyFrom wsX0_copyFrom) := goodIn_app (goodIn_of _ (by decide +kernel)) ggX2_copyFrom_X0_copyFrom
set_option maxRecDepth 20000 in
theorem ggX2_copyFrom_X1_copyFrom : GoodIn wsX2_copyFrom wsX1_copyFrom := goodIn_r _ [33, 34, 35, 36, 37, 38, 39, 40, 41, 42, 8, 9, 10, 11, 12, 13, 14, 15, 16, 17, 18, 55, 56, 57, 58, 59, 60, 61, 62, 63] (by decide +kernel) (by decide +kernel)
set_option maxRecDepth 20000 in
theorem gX2_copyFrom_X1_copyFrom : GoodIn wsX2_copyFrom (wsV RX2 50 RX1 yX1_copyFrom wsX1_copyFrom) := goodIn_app (goodIn_of _ (by decide +kernel)) ggX2_copyFrom_X1_copyFrom
theorem dX2_copyFrom_0 : decode cX2_copyFrom 0 = .ok (.aload_n 0, 1) := by decide +kernel
theorem dX2_copyFrom_1 : decode cX2_copyFrom 1 = .ok (.aload_n 1, 1) := by decide +kernel
theorem dX2_copyFrom_2 : decode cX2_copyFrom 2 = .ok (.getfield 9, 3) := by decide +kernel
theorem dX2_copyFrom_5 : decode cX2_copyFrom 5 = .ok (.putfield 9, 3) := by decide +kernel
theorem dX2_copyFrom_8 : decode cX2_copyFrom 8 = .ok (.aload_n 0, 1) := by decide +kernel
theorem dX2_copyFrom_9 : decode cX2_copyFrom 9 = .ok (.aload_n 1, 1) := by decide +kernel
theorem dX2_copyFrom_10 : decode cX2_copyFrom 10 = .ok (.getfield 15, 3) := by decide +kernel
theorem dX2_copyFrom_13 : decode cX2_copyFrom 13 = .ok (.putfield 15, 3) := by decide +kernel
theorem dX2_copyFrom_16 : decode cX2_copyFrom 16 = .ok (.aload_n 1, 1) := by decide +kernel
theorem dX2_copyFrom_17 : decode cX2_copyFrom 17 = .ok (.getfield 18, 3) := by decide +kernel
theorem dX2_copyFrom_20 : decode cX2_copyFrom 20 = .ok (.aload_n 0, 1) := by decide +kernel
theorem dX2_copyFrom_21 : decode cX2_copyFrom 21 = .ok (.getfield 18, 3) := by decide +kernel
theorem dX2_copyFrom_24 : decode cX2_copyFrom 24 = .ok (.invokestatic 42, 3) := by decide +kernel
theorem dX2_copyFrom_27 : decode cX2_copyFrom 27 = .ok (.aload_n 1, 1) := by decide +kernel
theorem dX2_copyFrom_28 : decode cX2_copyFrom 28 = .ok (.getfield 22, 3) := by decide +kernel
theorem dX2_copyFrom_31 : decode cX2_copyFrom 31 = .ok (.aload_n 0, 1) := by decide +kernel
theorem dX2_copyFrom_32 : decode cX2_copyFrom 32 = .ok (.getfield 22, 3) := by decide +kernel
theorem dX2_copyFrom_35 : decode cX2_copyFrom 35 = .ok (.invokestatic 42, 3) := by decide +kernel
theorem dX2_copyFrom_38 : decode cX2_copyFrom 38 = .ok (.aload_n 1, 1) := by decide +kernel
theorem dX2_copyFrom_39 : decode cX2_copyFrom 39 = .ok (.getfield 25, 3) := by decide +kernel
theorem dX2_copyFrom_42 : decode cX2_copyFrom 42 = .ok (.aload_n 0, 1) := by decide +kernel
theorem dX2_copyFrom_43 : decode cX2_copyFrom 43 = .ok (.getfield 25, 3) := by decide +kernel
theorem dX2_copyFrom_46 : decode cX2_copyFrom 46 = .ok (.invokestatic 42, 3) := by decide +kernel
theorem dX2_copyFrom_49 : decode cX2_copyFrom 49 = .ok (.aload_n 0, 1) := by decide +kernel
theorem dX2_copyFrom_50 : decode cX2_copyFrom 50 = .ok (.getfield 31, 3) := by decide +kernel
theorem dX2_copyFrom_53 : decode cX2_copyFrom 53 = .ok (.aload_n 1, 1) := by decide +kernel
theorem dX2_copyFrom_54 : decode cX2_copyFrom 54 = .ok (.getfield 31, 3) := by decide +kernel
theorem dX2_copyFrom_57 : decode cX2_copyFrom 57 = .ok (.invokevirtual 46, 3) := by decide +kernel
theorem dX2_copyFrom_60 : decode cX2_copyFrom 60 = .ok (.aload_n 0, 1) := by decide +kernel
theorem dX2_copyFrom_61 : decode cX2_copyFrom 61 = .ok (.getfield 38, 3) := by decide +kernel
theorem dX2_copyFrom_64 : decode cX2_copyFrom 64 = .ok (.aload_n 1, 1) := by decide +kernel
theorem dX2_copyFrom_65 : decode cX2_copyFrom 65 = .ok (.getfield 38, 3) := by decide +kernel
theorem dX2_copyFrom_68 : decode cX2_copyFrom 68 = .ok (.invokevirtual 50, 3) := by decide +kernel
theorem dX2_copyFrom_71 : decode cX2_copyFrom 71 = .ok (.return_, 1) := by decide +kernel
set_option maxRecDepth 20000 in
theorem ggX2_flakeOfHour_J9_floorMod_7cf53 : GoodIn wsX2_flakeOfHour wsJ9_floorMod_7cf53 := goodIn_r _ [6] (by decide +kernel) (by decide +kernel)
set_option maxRecDepth 20000 in
theorem gX2_flakeOfHour_J9_floorMod_7cf53 : GoodIn wsX2_flakeOfHour (va_wsS RX2 53 yJ9_floorMod_7cf53 wsJ9_floorMod_7cf53) := goodIn_app (goodIn_of _ (by decide +kernel)) ggX2_flakeOfHour_J9_floorMod_7cf53
theorem dX2_flakeOfHour_0 : decode cX2_flakeOfHour 0 = .ok (.aload_n 0, 1) := by decide +kernel
theorem dX2_flakeOfHour_1 : decode cX2_flakeOfHour 1 = .ok (.getfield 18, 3) := by decide +kernel
theorem dX2_flakeOfHour_4 : decode cX2_flakeOfHour 4 = .ok (.aload_n 0, 1) := by decide +kernel
theorem dX2_flakeOfHour_5 : decode cX2_flakeOfHour 5 = .ok (.getfield 9, 3) := by decide +kernel
theorem dX2_flakeOfHour_8 : decode cX2_flakeOfHour 8 = .ok (.bipush 6, 2) := by decide +kernel
theorem dX2_flakeOfHour_10 : decode cX2_flakeOfHour 10 = .ok (.invokestatic 53, 3) := by decide +kernel
theorem dX2_flakeOfHour_13 : decode cX2_flakeOfHour 13 = .ok (.iaload, 1) := by decide +kernel
theorem dX2_flakeOfHour_14 : decode cX2_flakeOfHour 14 = .ok (.ireturn, 1) := by decide +kernel
set_option maxRecDepth 20000 in
theorem ggX2_chosenRun_X0_steepestOpen : GoodIn wsX2_chosenRun wsX0_steepestOpen := goodIn_r _ [8, 9, 10, 11, 12, 13, 14, 7, 15, 16, 33, 34, 35, 36, 37] (by decide +kernel) (by decide +kernel)
set_option maxRecDepth 20000 in
theorem gX2_chosenRun_X0_steepestOpen : GoodIn wsX2_chosenRun (wsV RX2 62 RX0 yX0_steepestOpen wsX0_steepestOpen) := goodIn_app (goodIn_of _ (by decide +kernel)) ggX2_chosenRun_X0_steepestOpen
theorem dX2_chosenRun_0 : decode cX2_chosenRun 0 = .ok (.aload_n 0, 1) := by decide +kernel
theorem dX2_chosenRun_1 : decode cX2_chosenRun 1 = .ok (.getfield 31, 3) := by decide +kernel
theorem dX2_chosenRun_4 : decode cX2_chosenRun 4 = .ok (.iload_n 2, 1) := by decide +kernel
theorem dX2_chosenRun_5 : decode cX2_chosenRun 5 = .ok (.aload_n 0, 1) := by decide +kernel
theorem dX2_chosenRun_6 : decode cX2_chosenRun 6 = .ok (.getfield 38, 3) := by decide +kernel
theorem dX2_chosenRun_9 : decode cX2_chosenRun 9 = .ok (.getfield 59, 3) := by decide +kernel
theorem dX2_chosenRun_12 : decode cX2_chosenRun 12 = .ok (.iload_n 1, 1) := by decide +kernel
theorem dX2_chosenRun_13 : decode cX2_chosenRun 13 = .ok (.iaload, 1) := by decide +kernel
theorem dX2_chosenRun_14 : decode cX2_chosenRun 14 = .ok (.iconst 1, 1) := by decide +kernel
theorem dX2_chosenRun_15 : decode cX2_chosenRun 15 = .ok (.iadd, 1) := by decide +kernel
theorem dX2_chosenRun_16 : decode cX2_chosenRun 16 = .ok (.invokevirtual 62, 3) := by decide +kernel
theorem dX2_chosenRun_19 : decode cX2_chosenRun 19 = .ok (.ireturn, 1) := by decide +kernel
set_option maxRecDepth 20000 in
theorem ggX2_letHoursGo_X2_flakeOfHour : GoodIn wsX2_letHoursGo wsX2_flakeOfHour := goodIn_r _ [7, 8, 2, 9, 10, 11, 12, 111, 112, 113, 114, 115, 116, 117] (by decide +kernel) (by decide +kernel)
set_option maxRecDepth 20000 in
theorem gX2_letHoursGo_X2_flakeOfHour : GoodIn wsX2_letHoursGo (wsV RX2 65 RX2 yX2_flakeOfHour wsX2_flakeOfHour) := goodIn_app (goodIn_of _ (by decide +kernel)) ggX2_letHoursGo_X2_flakeOfHour
set_option maxRecDepth 20000 in
theorem ggX2_letHoursGo_X3_snowOf : GoodIn wsX2_letHoursGo wsX3_snowOf := goodIn_r _ [15] (by decide +kernel) (by decide +kernel)
set_option maxRecDepth 20000 in
theorem gX2_letHoursGo_X3_snowOf_n69 : GoodIn wsX2_letHoursGo (wsX3_snowOf) := ggX2_letHoursGo_X3_snowOf
set_option maxRecDepth 20000 in
theorem ggX2_letHoursGo_X0_deepenAll : GoodIn wsX2_letHoursGo wsX0_deepenAll := goodIn_r _ [20, 21, 22, 23, 24, 19, 25, 26, 27, 14, 28, 29, 30, 31, 32, 33, 34, 35, 118, 119, 120, 121, 122] (by decide +kernel) (by decide +kernel)
set_option maxRecDepth 20000 in
theorem gX2_letHoursGo_X0_deepenAll : GoodIn wsX2_letHoursGo (wsV RX2 73 RX0 yX0_deepenAll wsX0_deepenAll) := goodIn_app (goodIn_of _ (by decide +kernel)) ggX2_letHoursGo_X0_deepenAll
set_option maxRecDepth 20000 in
theorem ggX2_letHoursGo_X2_pullAt : GoodIn wsX2_letHoursGo wsX2_pullAt := goodIn_r _ [39, 40, 41, 42, 43, 44, 45, 46, 47, 48, 49, 50, 51, 52, 53, 54, 55, 56, 57, 58, 59, 60, 61, 62, 63, 64, 65, 66, 67, 68, 6, 69, 1, 70, 71, 72, 73, 74, 75, 76, 77, 78, 79, 19, 80, 21, 81, 82, 83, 84, 85, 86, 26, 87, 88, 89, 90, 3, 4, 5, 7, 8, 2, 9, 10, 11, 12, 91, 92, 93, 94, 95, 96, 97, 98, 31, 99, 100, 101, 102, 103, 104, 27, 14, 28, 29, 30, 32, 33, 34, 35, 105, 23, 24, 25, 106, 107, 108, 109, 110, 111, 112, 113, 114, 115, 116, 117, 123, 124, 125, 126, 127, 128, 129, 130, 131, 118, 119, 120, 121, 122] (by decide +kernel) (by decide +kernel)
set_option maxRecDepth 20000 in
theorem gX2_letHoursGo_X2_pullAt : GoodIn wsX2_letHoursGo (wsV RX2 77 RX2 yX2_pullAt wsX2_pullAt) := goodIn_app (goodIn_of _ (by decide +kernel)) ggX2_letHoursGo_X2_pullAt
theorem dX2_letHoursGo_0 : decode cX2_letHoursGo 0 = .ok (.iconst 0, 1) := by decide +kernel
theorem dX2_letHoursGo_1 : decode cX2_letHoursGo 1 = .ok (.istore_n 2, 1) := by decide +kernel
theorem dX2_letHoursGo_2 : decode cX2_letHoursGo 2 = .ok (.iconst 0, 1) := by decide +kernel
theorem dX2_letHoursGo_3 : decode cX2_letHoursGo 3 = .ok (.istore_n 3, 1) := by decide +kernel
theorem dX2_letHoursGo_4 : decode cX2_letHoursGo 4 = .ok (.iload_n 3, 1) := by decide +kernel
theorem dX2_letHoursGo_5 : decode cX2_letHoursGo 5 = .ok (.iload_n 1, 1) := by decide +kernel
theorem dX2_letHoursGo_6 : decode cX2_letHoursGo 6 = .ok (.if_icmp .ge 57, 3) := by decide +kernel
theorem dX2_letHoursGo_9 : decode cX2_letHoursGo 9 = .ok (.aload_n 0, 1) := by decide +kernel
theorem dX2_letHoursGo_10 : decode cX2_letHoursGo 10 = .ok (.getfield 31, 3) := by decide +kernel
theorem dX2_letHoursGo_13 : decode cX2_letHoursGo 13 = .ok (.aload_n 0, 1) := by decide +kernel
theorem dX2_letHoursGo_14 : decode cX2_letHoursGo 14 = .ok (.invokevirtual 65, 3) := by decide +kernel
theorem dX2_letHoursGo_17 : decode cX2_letHoursGo 17 = .ok (.invokestatic 69, 3) := by decide +kernel
theorem dX2_letHoursGo_20 : decode cX2_letHoursGo 20 = .ok (.invokevirtual 73, 3) := by decide +kernel
theorem dX2_letHoursGo_23 : decode cX2_letHoursGo 23 = .ok (.iconst 0, 1) := by decide +kernel
theorem dX2_letHoursGo_24 : decode cX2_letHoursGo 24 = .ok (.istore 4, 2) := by decide +kernel
theorem dX2_letHoursGo_26 : decode cX2_letHoursGo 26 = .ok (.iload 4, 2) := by decide +kernel
theorem dX2_letHoursGo_28 : decode cX2_letHoursGo 28 = .ok (.iconst 3, 1) := by decide +kernel
theorem dX2_letHoursGo_29 : decode cX2_letHoursGo 29 = .ok (.if_icmp .ge 18, 3) := by decide +kernel
theorem dX2_letHoursGo_32 : decode cX2_letHoursGo 32 = .ok (.iload_n 2, 1) := by decide +kernel
theorem dX2_letHoursGo_33 : decode cX2_letHoursGo 33 = .ok (.aload_n 0, 1) := by decide +kernel
theorem dX2_letHoursGo_34 : decode cX2_letHoursGo 34 = .ok (.iload 4, 2) := by decide +kernel
theorem dX2_letHoursGo_36 : decode cX2_letHoursGo 36 = .ok (.invokevirtual 77, 3) := by decide +kernel
theorem dX2_letHoursGo_39 : decode cX2_letHoursGo 39 = .ok (.iadd, 1) := by decide +kernel
theorem dX2_letHoursGo_40 : decode cX2_letHoursGo 40 = .ok (.istore_n 2, 1) := by decide +kernel
theorem dX2_letHoursGo_41 : decode cX2_letHoursGo 41 = .ok (.iinc 4 1, 3) := by decide +kernel
theorem dX2_letHoursGo_44 : decode cX2_letHoursGo 44 = .ok (.goto (-18), 3) := by decide +kernel
theorem dX2_letHoursGo_47 : decode cX2_letHoursGo 47 = .ok (.aload_n 0, 1) := by decide +kernel
theorem dX2_letHoursGo_48 : decode cX2_letHoursGo 48 = .ok (.dup, 1) := by decide +kernel
theorem dX2_letHoursGo_49 : decode cX2_letHoursGo 49 = .ok (.getfield 9, 3) := by decide +kernel
theorem dX2_letHoursGo_52 : decode cX2_letHoursGo 52 = .ok (.iconst 1, 1) := by decide +kernel
theorem dX2_letHoursGo_53 : decode cX2_letHoursGo 53 = .ok (.iadd, 1) := by decide +kernel
theorem dX2_letHoursGo_54 : decode cX2_letHoursGo 54 = .ok (.putfield 9, 3) := by decide +kernel
theorem dX2_letHoursGo_57 : decode cX2_letHoursGo 57 = .ok (.iinc 3 1, 3) := by decide +kernel
theorem dX2_letHoursGo_60 : decode cX2_letHoursGo 60 = .ok (.goto (-56), 3) := by decide +kernel
theorem dX2_letHoursGo_63 : decode cX2_letHoursGo 63 = .ok (.iload_n 2, 1) := by decide +kernel
theorem dX2_letHoursGo_64 : decode cX2_letHoursGo 64 = .ok (.ireturn, 1) := by decide +kernel
set_option maxRecDepth 20000 in
theorem ggX2_pullAt_X1_waitingAt : GoodIn wsX2_pullAt wsX1_waitingAt := goodIn_r _ [11, 12, 13, 107, 108, 109, 110, 111, 112, 113, 114, 115] (by decide +kernel) (by decide +kernel)
set_option maxRecDepth 20000 in
theorem gX2_pullAt_X1_waitingAt : GoodIn wsX2_pullAt (wsV RX2 80 RX1 yX1_waitingAt wsX1_waitingAt) := goodIn_app (goodIn_of _ (by decide +kernel)) ggX2_pullAt_X1_waitingAt
set_option maxRecDepth 20000 in
theorem ggX2_pullAt_X1_at : GoodIn wsX2_pullAt wsX1_at := goodIn_r _ [17, 12, 13, 18, 107, 108, 109, 110, 111, 112, 113, 114, 115] (by decide +kernel) (by decide +kernel)
set_option maxRecDepth 20000 in
theorem gX2_pullAt_X1_at : GoodIn wsX2_pullAt (wsV RX2 83 RX1 yX1_at wsX1_at) := goodIn_app (goodIn_of _ (by decide +kernel)) ggX2_pullAt_X1_at
set_option maxRecDepth 20000 in
theorem ggX2_pullAt_X1_has : GoodIn wsX2_pullAt wsX1_has := goodIn_r _ [22, 12, 107, 108, 109, 110, 111, 112, 113, 114, 115] (by decide +kernel) (by decide +kernel)
set_option maxRecDepth 20000 in
theorem gX2_pullAt_X1_has : GoodIn wsX2_pullAt (wsV RX2 86 RX1 yX1_has wsX1_has) := goodIn_app (goodIn_of _ (by decide +kernel)) ggX2_pullAt_X1_has
set_option maxRecDepth 20000 in
theorem ggX2_pullAt_X1_takeOutOfQueue : GoodIn wsX2_pullAt wsX1_takeOutOfQueue := goodIn_r _ [26, 13, 18, 12, 107, 108, 109, 110, 111, 112, 113, 114, 115] (by decide +kernel) (by decide +kernel)
set_option maxRecDepth 20000 in
theorem gX2_pullAt_X1_takeOutOfQueue : GoodIn wsX2_pullAt (wsV RX2 90 RX1 yX1_takeOutOfQueue wsX1_takeOutOfQueue) := goodIn_app (goodIn_of _ (by decide +kernel)) ggX2_pullAt_X1_takeOutOfQueue
set_option maxRecDepth 20000 in
theorem ggX2_pullAt_X2_skiDown : GoodIn wsX2_pullAt wsX2_skiDown := goodIn_r _ [31, 32, 1, 33, 34, 35, 36, 37, 38, 30, 39, 40, 41, 42, 43, 44, 45, 46, 47, 48, 49, 50, 51, 52, 53, 54, 55, 56, 57, 58, 59, 60, 61, 62, 63, 64, 65, 66, 67, 68, 69, 10, 70, 71, 72, 73, 74, 75, 76, 77, 78, 79, 80, 81, 82, 83, 84, 85, 86, 87, 88, 89, 90, 91, 92, 93, 94, 100, 101, 102, 103, 104, 105, 106, 116, 117, 118, 119, 120, 107, 108, 109, 110, 111, 112, 113, 114, 115] (by decide +kernel) (by decide +kernel)
set_option maxRecDepth 20000 in
theorem gX2_pullAt_X2_skiDown : GoodIn wsX2_pullAt (wsV RX2 98 RX2 yX2_skiDown wsX2_skiDown) := goodIn_app (goodIn_of _ (by decide +kernel)) ggX2_pullAt_X2_skiDown
set_option maxRecDepth 20000 in
theorem ggX2_pullAt_X1_putAtEnd : GoodIn wsX2_pullAt wsX1_putAtEnd := goodIn_r _ [98, 13, 18, 99, 8, 9, 10, 11, 12, 107, 108, 109, 110, 111, 112, 113, 114, 115] (by decide +kernel) (by decide +kernel)
set_option maxRecDepth 20000 in
theorem gX2_pullAt_X1_putAtEnd : GoodIn wsX2_pullAt (wsV RX2 102 RX1 yX1_putAtEnd wsX1_putAtEnd) := goodIn_app (goodIn_of _ (by decide +kernel)) ggX2_pullAt_X1_putAtEnd
theorem dX2_pullAt_0 : decode cX2_pullAt 0 = .ok (.iconst 0, 1) := by decide +kernel
theorem dX2_pullAt_1 : decode cX2_pullAt 1 = .ok (.istore_n 2, 1) := by decide +kernel
theorem dX2_pullAt_2 : decode cX2_pullAt 2 = .ok (.aload_n 0, 1) := by decide +kernel
theorem dX2_pullAt_3 : decode cX2_pullAt 3 = .ok (.getfield 38, 3) := by decide +kernel
theorem dX2_pullAt_6 : decode cX2_pullAt 6 = .ok (.iload_n 1, 1) := by decide +kernel
theorem dX2_pullAt_7 : decode cX2_pullAt 7 = .ok (.invokevirtual 80, 3) := by decide +kernel
theorem dX2_pullAt_10 : decode cX2_pullAt 10 = .ok (.istore_n 3, 1) := by decide +kernel
theorem dX2_pullAt_11 : decode cX2_pullAt 11 = .ok (.iconst 0, 1) := by decide +kernel
theorem dX2_pullAt_12 : decode cX2_pullAt 12 = .ok (.istore 4, 2) := by decide +kernel
theorem dX2_pullAt_14 : decode cX2_pullAt 14 = .ok (.iload 4, 2) := by decide +kernel
theorem dX2_pullAt_16 : decode cX2_pullAt 16 = .ok (.iload_n 3, 1) := by decide +kernel
theorem dX2_pullAt_17 : decode cX2_pullAt 17 = .ok (.if_icmp .ge 126, 3) := by decide +kernel
theorem dX2_pullAt_20 : decode cX2_pullAt 20 = .ok (.iload_n 2, 1) := by decide +kernel
theorem dX2_pullAt_21 : decode cX2_pullAt 21 = .ok (.aload_n 0, 1) := by decide +kernel
theorem dX2_pullAt_22 : decode cX2_pullAt 22 = .ok (.getfield 22, 3) := by decide +kernel
theorem dX2_pullAt_25 : decode cX2_pullAt 25 = .ok (.iload_n 1, 1) := by decide +kernel
theorem dX2_pullAt_26 : decode cX2_pullAt 26 = .ok (.iaload, 1) := by decide +kernel
theorem dX2_pullAt_27 : decode cX2_pullAt 27 = .ok (.if_icmp .ge 116, 3) := by decide +kernel
theorem dX2_pullAt_30 : decode cX2_pullAt 30 = .ok (.aload_n 0, 1) := by decide +kernel
theorem dX2_pullAt_31 : decode cX2_pullAt 31 = .ok (.getfield 38, 3) := by decide +kernel
theorem dX2_pullAt_34 : decode cX2_pullAt 34 = .ok (.iload_n 1, 1) := by decide +kernel
theorem dX2_pullAt_35 : decode cX2_pullAt 35 = .ok (.iconst 0, 1) := by decide +kernel
theorem dX2_pullAt_36 : decode cX2_pullAt 36 = .ok (.invokevirtual 83, 3) := by decide +kernel
theorem dX2_pullAt_39 : decode cX2_pullAt 39 = .ok (.istore 5, 2) := by decide +kernel
theorem dX2_pullAt_41 : decode cX2_pullAt 41 = .ok (.aload_n 0, 1) := by decide +kernel
theorem dX2_pullAt_42 : decode cX2_pullAt 42 = .ok (.getfield 38, 3) := by decide +kernel
theorem dX2_pullAt_45 : decode cX2_pullAt 45 = .ok (.iload 5, 2) := by decide +kernel
theorem dX2_pullAt_47 : decode cX2_pullAt 47 = .ok (.invokevirtual 86, 3) := by decide +kernel
theorem dX2_pullAt_50 : decode cX2_pullAt 50 = .ok (.ifCond .ne 6, 3) := by decide +kernel
theorem dX2_pullAt_53 : decode cX2_pullAt 53 = .ok (.goto 90, 3) := by decide +kernel
theorem dX2_pullAt_56 : decode cX2_pullAt 56 = .ok (.aload_n 0, 1) := by decide +kernel
theorem dX2_pullAt_57 : decode cX2_pullAt 57 = .ok (.getfield 38, 3) := by decide +kernel
theorem dX2_pullAt_60 : decode cX2_pullAt 60 = .ok (.iload 5, 2) := by decide +kernel
theorem dX2_pullAt_62 : decode cX2_pullAt 62 = .ok (.invokevirtual 90, 3) := by decide +kernel
theorem dX2_pullAt_65 : decode cX2_pullAt 65 = .ok (.aload_n 0, 1) := by decide +kernel
theorem dX2_pullAt_66 : decode cX2_pullAt 66 = .ok (.getfield 38, 3) := by decide +kernel
theorem dX2_pullAt_69 : decode cX2_pullAt 69 = .ok (.getfield 93, 3) := by decide +kernel
theorem dX2_pullAt_72 : decode cX2_pullAt 72 = .ok (.iload 5, 2) := by decide +kernel
theorem dX2_pullAt_74 : decode cX2_pullAt 74 = .ok (.iaload, 1) := by decide +kernel
theorem dX2_pullAt_75 : decode cX2_pullAt 75 = .ok (.iconst 1, 1) := by decide +kernel
theorem dX2_pullAt_76 : decode cX2_pullAt 76 = .ok (.if_icmp .lt 61, 3) := by decide +kernel
theorem dX2_pullAt_79 : decode cX2_pullAt 79 = .ok (.aload_n 0, 1) := by decide +kernel
theorem dX2_pullAt_80 : decode cX2_pullAt 80 = .ok (.getfield 38, 3) := by decide +kernel
theorem dX2_pullAt_83 : decode cX2_pullAt 83 = .ok (.getfield 93, 3) := by decide +kernel
theorem dX2_pullAt_86 : decode cX2_pullAt 86 = .ok (.iload 5, 2) := by decide +kernel
theorem dX2_pullAt_88 : decode cX2_pullAt 88 = .ok (.dup2, 1) := by decide +kernel
theorem dX2_pullAt_89 : decode cX2_pullAt 89 = .ok (.iaload, 1) := by decide +kernel
theorem dX2_pullAt_90 : decode cX2_pullAt 90 = .ok (.iconst 1, 1) := by decide +kernel
theorem dX2_pullAt_91 : decode cX2_pullAt 91 = .ok (.isub, 1) := by decide +kernel
theorem dX2_pullAt_92 : decode cX2_pullAt 92 = .ok (.iastore, 1) := by decide +kernel
theorem dX2_pullAt_93 : decode cX2_pullAt 93 = .ok (.aload_n 0, 1) := by decide +kernel
theorem dX2_pullAt_94 : decode cX2_pullAt 94 = .ok (.dup, 1) := by decide +kernel
theorem dX2_pullAt_95 : decode cX2_pullAt 95 = .ok (.getfield 15, 3) := by decide +kernel
theorem dX2_pullAt_98 : decode cX2_pullAt 98 = .ok (.iconst 1, 1) := by decide +kernel
theorem dX2_pullAt_99 : decode cX2_pullAt 99 = .ok (.iadd, 1) := by decide +kernel
theorem dX2_pullAt_100 : decode cX2_pullAt 100 = .ok (.putfield 15, 3) := by decide +kernel
theorem dX2_pullAt_103 : decode cX2_pullAt 103 = .ok (.aload_n 0, 1) := by decide +kernel
theorem dX2_pullAt_104 : decode cX2_pullAt 104 = .ok (.getfield 38, 3) := by decide +kernel
theorem dX2_pullAt_107 : decode cX2_pullAt 107 = .ok (.getfield 95, 3) := by decide +kernel
theorem dX2_pullAt_110 : decode cX2_pullAt 110 = .ok (.iload 5, 2) := by decide +kernel
theorem dX2_pullAt_112 : decode cX2_pullAt 112 = .ok (.dup2, 1) := by decide +kernel
theorem dX2_pullAt_113 : decode cX2_pullAt 113 = .ok (.iaload, 1) := by decide +kernel
theorem dX2_pullAt_114 : decode cX2_pullAt 114 = .ok (.iconst 1, 1) := by decide +kernel
theorem dX2_pullAt_115 : decode cX2_pullAt 115 = .ok (.iadd, 1) := by decide +kernel
theorem dX2_pullAt_116 : decode cX2_pullAt 116 = .ok (.iastore, 1) := by decide +kernel
theorem dX2_pullAt_117 : decode cX2_pullAt 117 = .ok (.iinc 2 1, 3) := by decide +kernel
theorem dX2_pullAt_120 : decode cX2_pullAt 120 = .ok (.aload_n 0, 1) := by decide +kernel
theorem dX2_pullAt_121 : decode cX2_pullAt 121 = .ok (.iload 5, 2) := by decide +kernel
theorem dX2_pullAt_123 : decode cX2_pullAt 123 = .ok (.iload_n 1, 1) := by decide +kernel
theorem dX2_pullAt_124 : decode cX2_pullAt 124 = .ok (.invokevirtual 98, 3) := by decide +kernel
theorem dX2_pullAt_127 : decode cX2_pullAt 127 = .ok (.aload_n 0, 1) := by decide +kernel
theorem dX2_pullAt_128 : decode cX2_pullAt 128 = .ok (.getfield 38, 3) := by decide +kernel
theorem dX2_pullAt_131 : decode cX2_pullAt 131 = .ok (.iload 5, 2) := by decide +kernel
theorem dX2_pullAt_133 : decode cX2_pullAt 133 = .ok (.iload_n 1, 1) := by decide +kernel
theorem dX2_pullAt_134 : decode cX2_pullAt 134 = .ok (.invokevirtual 102, 3) := by decide +kernel
theorem dX2_pullAt_137 : decode cX2_pullAt 137 = .ok (.iinc 4 1, 3) := by decide +kernel
theorem dX2_pullAt_140 : decode cX2_pullAt 140 = .ok (.goto (-126), 3) := by decide +kernel
theorem dX2_pullAt_143 : decode cX2_pullAt 143 = .ok (.aload_n 0, 1) := by decide +kernel
theorem dX2_pullAt_144 : decode cX2_pullAt 144 = .ok (.getfield 25, 3) := by decide +kernel
theorem dX2_pullAt_147 : decode cX2_pullAt 147 = .ok (.iload_n 1, 1) := by decide +kernel
theorem dX2_pullAt_148 : decode cX2_pullAt 148 = .ok (.dup2, 1) := by decide +kernel
theorem dX2_pullAt_149 : decode cX2_pullAt 149 = .ok (.iaload, 1) := by decide +kernel
theorem dX2_pullAt_150 : decode cX2_pullAt 150 = .ok (.iload_n 2, 1) := by decide +kernel
theorem dX2_pullAt_151 : decode cX2_pullAt 151 = .ok (.iadd, 1) := by decide +kernel
theorem dX2_pullAt_152 : decode cX2_pullAt 152 = .ok (.iastore, 1) := by decide +kernel
theorem dX2_pullAt_153 : decode cX2_pullAt 153 = .ok (.iload_n 2, 1) := by decide +kernel
theorem dX2_pullAt_154 : decode cX2_pullAt 154 = .ok (.ireturn, 1) := by decide +kernel
set_option maxRecDepth 20000 in
theorem ggX2_skiDown_X2_chosenRun : GoodIn wsX2_skiDown wsX2_chosenRun := goodIn_r _ [10, 1, 2, 4, 11, 12, 13, 14, 15, 16, 17, 18, 19, 20, 21, 22, 23, 67, 68, 69, 70, 71, 72, 73, 79, 80, 81, 82, 83, 84, 85, 86, 87, 74, 75, 76, 77, 78] (by decide +kernel) (by decide +kernel)
set_option maxRecDepth 20000 in
theorem gX2_skiDown_X2_chosenRun : GoodIn wsX2_skiDown (wsV RX2 105 RX2 yX2_chosenRun wsX2_chosenRun) := goodIn_app (goodIn_of _ (by decide +kernel)) ggX2_skiDown_X2_chosenRun
set_option maxRecDepth 20000 in
theorem ggX2_skiDown_X0_has : GoodIn wsX2_skiDown wsX0_has := goodIn_r _ [27, 16, 74, 75, 76, 77, 78] (by decide +kernel) (by decide +kernel)
set_option maxRecDepth 20000 in
theorem gX2_skiDown_X0_has : GoodIn wsX2_skiDown (wsV RX2 108 RX0 yX0_has wsX0_has) := goodIn_app (goodIn_of _ (by decide +kernel)) ggX2_skiDown_X0_has
set_option maxRecDepth 20000 in
theorem ggX2_skiDown_X2_flakeOfHour : GoodIn wsX2_skiDown wsX2_flakeOfHour := goodIn_r _ [31, 32, 33, 34, 35, 36, 37, 67, 68, 69, 70, 71, 72, 73] (by decide +kernel) (by decide +kernel)
set_option maxRecDepth 20000 in
theorem gX2_skiDown_X2_flakeOfHour : GoodIn wsX2_skiDown (wsV RX2 65 RX2 yX2_flakeOfHour wsX2_flakeOfHour) := goodIn_app (goodIn_of _ (by decide +kernel)) ggX2_skiDown_X2_flakeOfHour
