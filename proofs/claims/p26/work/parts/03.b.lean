set_option maxRecDepth 20000 in
theorem ggX0_init_X1_init : GoodIn wsX0_init wsX1_init := goodIn_r _ [15, 16, 2, 3, 11, 17, 18] (by decide +kernel) (by decide +kernel)
set_option maxRecDepth 20000 in
theorem gX0_init_X1_init : GoodIn wsX0_init (wsX1_init) := ggX0_init_X1_init
theorem dX0_init_0 : decode cX0_init 0 = .ok (.aload_n 0, 1) := by decide +kernel
theorem dX0_init_1 : decode cX0_init 1 = .ok (.invokespecial 3, 3) := by decide +kernel
theorem dX0_init_4 : decode cX0_init 4 = .ok (.aload_n 0, 1) := by decide +kernel
theorem dX0_init_5 : decode cX0_init 5 = .ok (.new 9, 3) := by decide +kernel
theorem dX0_init_8 : decode cX0_init 8 = .ok (.dup, 1) := by decide +kernel
theorem dX0_init_9 : decode cX0_init 9 = .ok (.invokespecial 11, 3) := by decide +kernel
theorem dX0_init_12 : decode cX0_init 12 = .ok (.putfield 12, 3) := by decide +kernel
theorem dX0_init_15 : decode cX0_init 15 = .ok (.aload_n 0, 1) := by decide +kernel
theorem dX0_init_16 : decode cX0_init 16 = .ok (.new 9, 3) := by decide +kernel
theorem dX0_init_19 : decode cX0_init 19 = .ok (.dup, 1) := by decide +kernel
theorem dX0_init_20 : decode cX0_init 20 = .ok (.invokespecial 11, 3) := by decide +kernel
theorem dX0_init_23 : decode cX0_init 23 = .ok (.putfield 18, 3) := by decide +kernel
theorem dX0_init_26 : decode cX0_init 26 = .ok (.aload_n 0, 1) := by decide +kernel
theorem dX0_init_27 : decode cX0_init 27 = .ok (.new 9, 3) := by decide +kernel
theorem dX0_init_30 : decode cX0_init 30 = .ok (.dup, 1) := by decide +kernel
theorem dX0_init_31 : decode cX0_init 31 = .ok (.invokespecial 11, 3) := by decide +kernel
theorem dX0_init_34 : decode cX0_init 34 = .ok (.putfield 21, 3) := by decide +kernel
theorem dX0_init_37 : decode cX0_init 37 = .ok (.aload_n 0, 1) := by decide +kernel
theorem dX0_init_38 : decode cX0_init 38 = .ok (.new 9, 3) := by decide +kernel
theorem dX0_init_41 : decode cX0_init 41 = .ok (.dup, 1) := by decide +kernel
theorem dX0_init_42 : decode cX0_init 42 = .ok (.invokespecial 11, 3) := by decide +kernel
theorem dX0_init_45 : decode cX0_init 45 = .ok (.putfield 24, 3) := by decide +kernel
theorem dX0_init_48 : decode cX0_init 48 = .ok (.aload_n 0, 1) := by decide +kernel
theorem dX0_init_49 : decode cX0_init 49 = .ok (.sipush 192, 3) := by decide +kernel
theorem dX0_init_52 : decode cX0_init 52 = .ok (.newarray .int, 2) := by decide +kernel
theorem dX0_init_54 : decode cX0_init 54 = .ok (.putfield 27, 3) := by decide +kernel
theorem dX0_init_57 : decode cX0_init 57 = .ok (.return_, 1) := by decide +kernel
set_option maxRecDepth 20000 in
theorem ggX0_becomeLike_X1_becomeLike : GoodIn wsX0_becomeLike wsX1_becomeLike := goodIn_r _ [14, 15, 16, 7, 8, 9, 22] (by decide +kernel) (by decide +kernel)
set_option maxRecDepth 20000 in
theorem gX0_becomeLike_X1_becomeLike : GoodIn wsX0_becomeLike (wsV RX0 31 RX1 yX1_becomeLike wsX1_becomeLike) := goodIn_app (goodIn_of _ (by decide +kernel)) ggX0_becomeLike_X1_becomeLike
theorem dX0_becomeLike_0 : decode cX0_becomeLike 0 = .ok (.aload_n 0, 1) := by decide +kernel
theorem dX0_becomeLike_1 : decode cX0_becomeLike 1 = .ok (.getfield 12, 3) := by decide +kernel
theorem dX0_becomeLike_4 : decode cX0_becomeLike 4 = .ok (.aload_n 1, 1) := by decide +kernel
theorem dX0_becomeLike_5 : decode cX0_becomeLike 5 = .ok (.getfield 12, 3) := by decide +kernel
theorem dX0_becomeLike_8 : decode cX0_becomeLike 8 = .ok (.invokevirtual 31, 3) := by decide +kernel
theorem dX0_becomeLike_11 : decode cX0_becomeLike 11 = .ok (.aload_n 0, 1) := by decide +kernel
theorem dX0_becomeLike_12 : decode cX0_becomeLike 12 = .ok (.getfield 18, 3) := by decide +kernel
theorem dX0_becomeLike_15 : decode cX0_becomeLike 15 = .ok (.aload_n 1, 1) := by decide +kernel
theorem dX0_becomeLike_16 : decode cX0_becomeLike 16 = .ok (.getfield 18, 3) := by decide +kernel
theorem dX0_becomeLike_19 : decode cX0_becomeLike 19 = .ok (.invokevirtual 31, 3) := by decide +kernel
theorem dX0_becomeLike_22 : decode cX0_becomeLike 22 = .ok (.aload_n 0, 1) := by decide +kernel
theorem dX0_becomeLike_23 : decode cX0_becomeLike 23 = .ok (.getfield 21, 3) := by decide +kernel
theorem dX0_becomeLike_26 : decode cX0_becomeLike 26 = .ok (.aload_n 1, 1) := by decide +kernel
theorem dX0_becomeLike_27 : decode cX0_becomeLike 27 = .ok (.getfield 21, 3) := by decide +kernel
theorem dX0_becomeLike_30 : decode cX0_becomeLike 30 = .ok (.invokevirtual 31, 3) := by decide +kernel
theorem dX0_becomeLike_33 : decode cX0_becomeLike 33 = .ok (.aload_n 0, 1) := by decide +kernel
theorem dX0_becomeLike_34 : decode cX0_becomeLike 34 = .ok (.getfield 24, 3) := by decide +kernel
theorem dX0_becomeLike_37 : decode cX0_becomeLike 37 = .ok (.aload_n 1, 1) := by decide +kernel
theorem dX0_becomeLike_38 : decode cX0_becomeLike 38 = .ok (.getfield 24, 3) := by decide +kernel
theorem dX0_becomeLike_41 : decode cX0_becomeLike 41 = .ok (.invokevirtual 31, 3) := by decide +kernel
theorem dX0_becomeLike_44 : decode cX0_becomeLike 44 = .ok (.aload_n 1, 1) := by decide +kernel
theorem dX0_becomeLike_45 : decode cX0_becomeLike 45 = .ok (.getfield 27, 3) := by decide +kernel
theorem dX0_becomeLike_48 : decode cX0_becomeLike 48 = .ok (.iconst 0, 1) := by decide +kernel
theorem dX0_becomeLike_49 : decode cX0_becomeLike 49 = .ok (.aload_n 0, 1) := by decide +kernel
theorem dX0_becomeLike_50 : decode cX0_becomeLike 50 = .ok (.getfield 27, 3) := by decide +kernel
theorem dX0_becomeLike_53 : decode cX0_becomeLike 53 = .ok (.iconst 0, 1) := by decide +kernel
theorem dX0_becomeLike_54 : decode cX0_becomeLike 54 = .ok (.sipush 192, 3) := by decide +kernel
theorem dX0_becomeLike_57 : decode cX0_becomeLike 57 = .ok (.invokestatic 35, 3) := by decide +kernel
theorem dX0_becomeLike_60 : decode cX0_becomeLike 60 = .ok (.return_, 1) := by decide +kernel
set_option maxRecDepth 20000 in
theorem ggX0_kindAt_X1_has : GoodIn wsX0_kindAt wsX1_has := goodIn_r _ [7, 8, 9, 10, 11, 17] (by decide +kernel) (by decide +kernel)
set_option maxRecDepth 20000 in
theorem gX0_kindAt_X1_has : GoodIn wsX0_kindAt (wsV RX0 41 RX1 yX1_has wsX1_has) := goodIn_app (goodIn_of _ (by decide +kernel)) ggX0_kindAt_X1_has
theorem dX0_kindAt_0 : decode cX0_kindAt 0 = .ok (.aload_n 0, 1) := by decide +kernel
theorem dX0_kindAt_1 : decode cX0_kindAt 1 = .ok (.getfield 18, 3) := by decide +kernel
theorem dX0_kindAt_4 : decode cX0_kindAt 4 = .ok (.iload_n 1, 1) := by decide +kernel
theorem dX0_kindAt_5 : decode cX0_kindAt 5 = .ok (.iload_n 2, 1) := by decide +kernel
theorem dX0_kindAt_6 : decode cX0_kindAt 6 = .ok (.invokevirtual 41, 3) := by decide +kernel
theorem dX0_kindAt_9 : decode cX0_kindAt 9 = .ok (.ifCond .eq 5, 3) := by decide +kernel
theorem dX0_kindAt_12 : decode cX0_kindAt 12 = .ok (.iconst 2, 1) := by decide +kernel
theorem dX0_kindAt_13 : decode cX0_kindAt 13 = .ok (.ireturn, 1) := by decide +kernel
theorem dX0_kindAt_14 : decode cX0_kindAt 14 = .ok (.aload_n 0, 1) := by decide +kernel
theorem dX0_kindAt_15 : decode cX0_kindAt 15 = .ok (.getfield 12, 3) := by decide +kernel
theorem dX0_kindAt_18 : decode cX0_kindAt 18 = .ok (.iload_n 1, 1) := by decide +kernel
theorem dX0_kindAt_19 : decode cX0_kindAt 19 = .ok (.iload_n 2, 1) := by decide +kernel
theorem dX0_kindAt_20 : decode cX0_kindAt 20 = .ok (.invokevirtual 41, 3) := by decide +kernel
theorem dX0_kindAt_23 : decode cX0_kindAt 23 = .ok (.ifCond .eq 7, 3) := by decide +kernel
theorem dX0_kindAt_26 : decode cX0_kindAt 26 = .ok (.iconst 1, 1) := by decide +kernel
theorem dX0_kindAt_27 : decode cX0_kindAt 27 = .ok (.goto 4, 3) := by decide +kernel
theorem dX0_kindAt_30 : decode cX0_kindAt 30 = .ok (.iconst 0, 1) := by decide +kernel
theorem dX0_kindAt_31 : decode cX0_kindAt 31 = .ok (.ireturn, 1) := by decide +kernel
set_option maxRecDepth 20000 in
theorem ggX0_paintedCells_X1_size : GoodIn wsX0_paintedCells wsX1_size := goodIn_r _ [7, 8, 9, 10, 11, 12, 13, 14, 15, 21] (by decide +kernel) (by decide +kernel)
set_option maxRecDepth 20000 in
theorem gX0_paintedCells_X1_size : GoodIn wsX0_paintedCells (wsV RX0 45 RX1 yX1_size wsX1_size) := goodIn_app (goodIn_of _ (by decide +kernel)) ggX0_paintedCells_X1_size
theorem dX0_paintedCells_0 : decode cX0_paintedCells 0 = .ok (.aload_n 0, 1) := by decide +kernel
theorem dX0_paintedCells_1 : decode cX0_paintedCells 1 = .ok (.getfield 12, 3) := by decide +kernel
theorem dX0_paintedCells_4 : decode cX0_paintedCells 4 = .ok (.invokevirtual 45, 3) := by decide +kernel
theorem dX0_paintedCells_7 : decode cX0_paintedCells 7 = .ok (.aload_n 0, 1) := by decide +kernel
theorem dX0_paintedCells_8 : decode cX0_paintedCells 8 = .ok (.getfield 18, 3) := by decide +kernel
theorem dX0_paintedCells_11 : decode cX0_paintedCells 11 = .ok (.invokevirtual 45, 3) := by decide +kernel
theorem dX0_paintedCells_14 : decode cX0_paintedCells 14 = .ok (.iadd, 1) := by decide +kernel
theorem dX0_paintedCells_15 : decode cX0_paintedCells 15 = .ok (.ireturn, 1) := by decide +kernel
set_option maxRecDepth 20000 in
theorem ggX0_fillArea_X0_kindAt : GoodIn wsX0_fillArea wsX0_kindAt := goodIn_r _ [7, 2, 1, 8, 9, 10, 11, 12, 13, 14, 15, 16, 23, 24, 25, 26, 27, 28] (by decide +kernel) (by decide +kernel)
set_option maxRecDepth 20000 in
theorem gX0_fillArea_X0_kindAt : GoodIn wsX0_fillArea (wsV RX0 49 RX0 yX0_kindAt wsX0_kindAt) := goodIn_app (goodIn_of _ (by decide +kernel)) ggX0_fillArea_X0_kindAt
set_option maxRecDepth 20000 in
theorem ggX0_fillArea_X6_oneIf : GoodIn wsX0_fillArea wsX6_oneIf := goodIn_r _ [18] (by decide +kernel) (by decide +kernel)
set_option maxRecDepth 20000 in
theorem gX0_fillArea_X6_oneIf_n53 : GoodIn wsX0_fillArea (wsX6_oneIf) := ggX0_fillArea_X6_oneIf
set_option maxRecDepth 20000 in
theorem ggX0_fillArea_X1_put : GoodIn wsX0_fillArea wsX1_put := goodIn_r _ [22, 13, 14, 15, 16, 28] (by decide +kernel) (by decide +kernel)
set_option maxRecDepth 20000 in
theorem gX0_fillArea_X1_put : GoodIn wsX0_fillArea (wsV RX0 57 RX1 yX1_put wsX1_put) := goodIn_app (goodIn_of _ (by decide +kernel)) ggX0_fillArea_X1_put
theorem dX0_fillArea_0 : decode cX0_fillArea 0 = .ok (.iconst 0, 1) := by decide +kernel
theorem dX0_fillArea_1 : decode cX0_fillArea 1 = .ok (.istore 6, 2) := by decide +kernel
theorem dX0_fillArea_3 : decode cX0_fillArea 3 = .ok (.iload_n 2, 1) := by decide +kernel
theorem dX0_fillArea_4 : decode cX0_fillArea 4 = .ok (.istore 7, 2) := by decide +kernel
theorem dX0_fillArea_6 : decode cX0_fillArea 6 = .ok (.iload 7, 2) := by decide +kernel
theorem dX0_fillArea_8 : decode cX0_fillArea 8 = .ok (.iload_n 2, 1) := by decide +kernel
theorem dX0_fillArea_9 : decode cX0_fillArea 9 = .ok (.iload 4, 2) := by decide +kernel
theorem dX0_fillArea_11 : decode cX0_fillArea 11 = .ok (.iadd, 1) := by decide +kernel
theorem dX0_fillArea_12 : decode cX0_fillArea 12 = .ok (.if_icmp .ge 96, 3) := by decide +kernel
theorem dX0_fillArea_15 : decode cX0_fillArea 15 = .ok (.iload_n 1, 1) := by decide +kernel
theorem dX0_fillArea_16 : decode cX0_fillArea 16 = .ok (.istore 8, 2) := by decide +kernel
theorem dX0_fillArea_18 : decode cX0_fillArea 18 = .ok (.iload 8, 2) := by decide +kernel
theorem dX0_fillArea_20 : decode cX0_fillArea 20 = .ok (.iload_n 1, 1) := by decide +kernel
theorem dX0_fillArea_21 : decode cX0_fillArea 21 = .ok (.iload_n 3, 1) := by decide +kernel
theorem dX0_fillArea_22 : decode cX0_fillArea 22 = .ok (.iadd, 1) := by decide +kernel
theorem dX0_fillArea_23 : decode cX0_fillArea 23 = .ok (.if_icmp .ge 79, 3) := by decide +kernel
theorem dX0_fillArea_26 : decode cX0_fillArea 26 = .ok (.iload 6, 2) := by decide +kernel
theorem dX0_fillArea_28 : decode cX0_fillArea 28 = .ok (.aload_n 0, 1) := by decide +kernel
theorem dX0_fillArea_29 : decode cX0_fillArea 29 = .ok (.iload 8, 2) := by decide +kernel
theorem dX0_fillArea_31 : decode cX0_fillArea 31 = .ok (.iload 7, 2) := by decide +kernel
theorem dX0_fillArea_33 : decode cX0_fillArea 33 = .ok (.invokevirtual 49, 3) := by decide +kernel
theorem dX0_fillArea_36 : decode cX0_fillArea 36 = .ok (.iload 5, 2) := by decide +kernel
theorem dX0_fillArea_38 : decode cX0_fillArea 38 = .ok (.if_icmp .eq 7, 3) := by decide +kernel
theorem dX0_fillArea_41 : decode cX0_fillArea 41 = .ok (.iconst 1, 1) := by decide +kernel
theorem dX0_fillArea_42 : decode cX0_fillArea 42 = .ok (.goto 4, 3) := by decide +kernel
theorem dX0_fillArea_45 : decode cX0_fillArea 45 = .ok (.iconst 0, 1) := by decide +kernel
theorem dX0_fillArea_46 : decode cX0_fillArea 46 = .ok (.invokestatic 53, 3) := by decide +kernel
theorem dX0_fillArea_49 : decode cX0_fillArea 49 = .ok (.iadd, 1) := by decide +kernel
theorem dX0_fillArea_50 : decode cX0_fillArea 50 = .ok (.istore 6, 2) := by decide +kernel
theorem dX0_fillArea_52 : decode cX0_fillArea 52 = .ok (.aload_n 0, 1) := by decide +kernel
theorem dX0_fillArea_53 : decode cX0_fillArea 53 = .ok (.getfield 12, 3) := by decide +kernel
theorem dX0_fillArea_56 : decode cX0_fillArea 56 = .ok (.iload 8, 2) := by decide +kernel
theorem dX0_fillArea_58 : decode cX0_fillArea 58 = .ok (.iload 7, 2) := by decide +kernel
theorem dX0_fillArea_60 : decode cX0_fillArea 60 = .ok (.iload 5, 2) := by decide +kernel
theorem dX0_fillArea_62 : decode cX0_fillArea 62 = .ok (.iconst 1, 1) := by decide +kernel
theorem dX0_fillArea_63 : decode cX0_fillArea 63 = .ok (.if_icmp .ne 7, 3) := by decide +kernel
theorem dX0_fillArea_66 : decode cX0_fillArea 66 = .ok (.iconst 1, 1) := by decide +kernel
theorem dX0_fillArea_67 : decode cX0_fillArea 67 = .ok (.goto 4, 3) := by decide +kernel
theorem dX0_fillArea_70 : decode cX0_fillArea 70 = .ok (.iconst 0, 1) := by decide +kernel
theorem dX0_fillArea_71 : decode cX0_fillArea 71 = .ok (.invokevirtual 57, 3) := by decide +kernel
theorem dX0_fillArea_74 : decode cX0_fillArea 74 = .ok (.aload_n 0, 1) := by decide +kernel
theorem dX0_fillArea_75 : decode cX0_fillArea 75 = .ok (.getfield 18, 3) := by decide +kernel
theorem dX0_fillArea_78 : decode cX0_fillArea 78 = .ok (.iload 8, 2) := by decide +kernel
theorem dX0_fillArea_80 : decode cX0_fillArea 80 = .ok (.iload 7, 2) := by decide +kernel
theorem dX0_fillArea_82 : decode cX0_fillArea 82 = .ok (.iload 5, 2) := by decide +kernel
theorem dX0_fillArea_84 : decode cX0_fillArea 84 = .ok (.iconst 2, 1) := by decide +kernel
theorem dX0_fillArea_85 : decode cX0_fillArea 85 = .ok (.if_icmp .ne 7, 3) := by decide +kernel
theorem dX0_fillArea_88 : decode cX0_fillArea 88 = .ok (.iconst 1, 1) := by decide +kernel
theorem dX0_fillArea_89 : decode cX0_fillArea 89 = .ok (.goto 4, 3) := by decide +kernel
theorem dX0_fillArea_92 : decode cX0_fillArea 92 = .ok (.iconst 0, 1) := by decide +kernel
theorem dX0_fillArea_93 : decode cX0_fillArea 93 = .ok (.invokevirtual 57, 3) := by decide +kernel
theorem dX0_fillArea_96 : decode cX0_fillArea 96 = .ok (.iinc 8 1, 3) := by decide +kernel
theorem dX0_fillArea_99 : decode cX0_fillArea 99 = .ok (.goto (-81), 3) := by decide +kernel
theorem dX0_fillArea_102 : decode cX0_fillArea 102 = .ok (.iinc 7 1, 3) := by decide +kernel
theorem dX0_fillArea_105 : decode cX0_fillArea 105 = .ok (.goto (-99), 3) := by decide +kernel
theorem dX0_fillArea_108 : decode cX0_fillArea 108 = .ok (.iload 6, 2) := by decide +kernel
theorem dX0_fillArea_110 : decode cX0_fillArea 110 = .ok (.ireturn, 1) := by decide +kernel
set_option maxRecDepth 20000 in
theorem ggX0_cutAnew_X1_becomeLike : GoodIn wsX0_cutAnew wsX1_becomeLike := goodIn_r _ [9, 10, 11, 12, 13, 14, 38] (by decide +kernel) (by decide +kernel)
set_option maxRecDepth 20000 in
theorem gX0_cutAnew_X1_becomeLike : GoodIn wsX0_cutAnew (wsV RX0 31 RX1 yX1_becomeLike wsX1_becomeLike) := goodIn_app (goodIn_of _ (by decide +kernel)) ggX0_cutAnew_X1_becomeLike
set_option maxRecDepth 20000 in
theorem ggX0_cutAnew_J7_fill_53178 : GoodIn wsX0_cutAnew wsJ7_fill_53178 := goodIn_r _ [18] (by decide +kernel) (by decide +kernel)
set_option maxRecDepth 20000 in
theorem gX0_cutAnew_J7_fill_53178 : GoodIn wsX0_cutAnew (va_wsS RX0 61 yJ7_fill_53178 wsJ7_fill_53178) := goodIn_app (goodIn_of _ (by decide +kernel)) ggX0_cutAnew_J7_fill_53178
set_option maxRecDepth 20000 in
theorem ggX0_cutAnew_X0_cutColour : GoodIn wsX0_cutAnew wsX0_cutColour := goodIn_r _ [23, 24, 2, 5, 6, 7, 8, 9, 10, 11, 12, 13, 14, 25, 26, 27, 28, 29, 30, 31, 32, 33, 34, 35, 36, 37, 38] (by decide +kernel) (by decide +kernel)
set_option maxRecDepth 20000 in
theorem gX0_cutAnew_X0_cutColour : GoodIn wsX0_cutAnew (wsV RX0 67 RX0 yX0_cutColour wsX0_cutColour) := goodIn_app (goodIn_of _ (by decide +kernel)) ggX0_cutAnew_X0_cutColour
theorem dX0_cutAnew_0 : decode cX0_cutAnew 0 = .ok (.aload_n 0, 1) := by decide +kernel
theorem dX0_cutAnew_1 : decode cX0_cutAnew 1 = .ok (.getfield 21, 3) := by decide +kernel
theorem dX0_cutAnew_4 : decode cX0_cutAnew 4 = .ok (.aload_n 0, 1) := by decide +kernel
theorem dX0_cutAnew_5 : decode cX0_cutAnew 5 = .ok (.getfield 18, 3) := by decide +kernel
theorem dX0_cutAnew_8 : decode cX0_cutAnew 8 = .ok (.invokevirtual 31, 3) := by decide +kernel
theorem dX0_cutAnew_11 : decode cX0_cutAnew 11 = .ok (.aload_n 0, 1) := by decide +kernel
theorem dX0_cutAnew_12 : decode cX0_cutAnew 12 = .ok (.getfield 27, 3) := by decide +kernel
theorem dX0_cutAnew_15 : decode cX0_cutAnew 15 = .ok (.iconst 0, 1) := by decide +kernel
theorem dX0_cutAnew_16 : decode cX0_cutAnew 16 = .ok (.invokestatic 61, 3) := by decide +kernel
theorem dX0_cutAnew_19 : decode cX0_cutAnew 19 = .ok (.aload_n 0, 1) := by decide +kernel
theorem dX0_cutAnew_20 : decode cX0_cutAnew 20 = .ok (.aload_n 0, 1) := by decide +kernel
theorem dX0_cutAnew_21 : decode cX0_cutAnew 21 = .ok (.getfield 24, 3) := by decide +kernel
theorem dX0_cutAnew_24 : decode cX0_cutAnew 24 = .ok (.iload_n 1, 1) := by decide +kernel
theorem dX0_cutAnew_25 : decode cX0_cutAnew 25 = .ok (.invokevirtual 67, 3) := by decide +kernel
theorem dX0_cutAnew_28 : decode cX0_cutAnew 28 = .ok (.return_, 1) := by decide +kernel
set_option maxRecDepth 20000 in
theorem ggX0_cutColour_X1_becomeLike : GoodIn wsX0_cutColour wsX1_becomeLike := goodIn_r _ [7, 8, 9, 10, 11, 12, 26] (by decide +kernel) (by decide +kernel)
set_option maxRecDepth 20000 in
theorem gX0_cutColour_X1_becomeLike : GoodIn wsX0_cutColour (wsV RX0 31 RX1 yX1_becomeLike wsX1_becomeLike) := goodIn_app (goodIn_of _ (by decide +kernel)) ggX0_cutColour_X1_becomeLike
set_option maxRecDepth 20000 in
theorem ggX0_cutColour_X1_growInto : GoodIn wsX0_cutColour wsX1_growInto := goodIn_r _ [16, 8, 17, 18, 19, 6, 20, 26] (by decide +kernel) (by decide +kernel)
set_option maxRecDepth 20000 in
theorem gX0_cutColour_X1_growInto : GoodIn wsX0_cutColour (wsV RX0 71 RX1 yX1_growInto wsX1_growInto) := goodIn_app (goodIn_of _ (by decide +kernel)) ggX0_cutColour_X1_growInto
theorem dX0_cutColour_0 : decode cX0_cutColour 0 = .ok (.aload_n 1, 1) := by decide +kernel
theorem dX0_cutColour_1 : decode cX0_cutColour 1 = .ok (.aload_n 0, 1) := by decide +kernel
theorem dX0_cutColour_2 : decode cX0_cutColour 2 = .ok (.getfield 12, 3) := by decide +kernel
theorem dX0_cutColour_5 : decode cX0_cutColour 5 = .ok (.invokevirtual 31, 3) := by decide +kernel
theorem dX0_cutColour_8 : decode cX0_cutColour 8 = .ok (.iconst 0, 1) := by decide +kernel
theorem dX0_cutColour_9 : decode cX0_cutColour 9 = .ok (.istore_n 3, 1) := by decide +kernel
theorem dX0_cutColour_10 : decode cX0_cutColour 10 = .ok (.iload_n 3, 1) := by decide +kernel
theorem dX0_cutColour_11 : decode cX0_cutColour 11 = .ok (.iload_n 2, 1) := by decide +kernel
theorem dX0_cutColour_12 : decode cX0_cutColour 12 = .ok (.if_icmp .ge 17, 3) := by decide +kernel
theorem dX0_cutColour_15 : decode cX0_cutColour 15 = .ok (.aload_n 1, 1) := by decide +kernel
theorem dX0_cutColour_16 : decode cX0_cutColour 16 = .ok (.aload_n 0, 1) := by decide +kernel
theorem dX0_cutColour_17 : decode cX0_cutColour 17 = .ok (.getfield 18, 3) := by decide +kernel
theorem dX0_cutColour_20 : decode cX0_cutColour 20 = .ok (.invokevirtual 71, 3) := by decide +kernel
theorem dX0_cutColour_23 : decode cX0_cutColour 23 = .ok (.iinc 3 1, 3) := by decide +kernel
theorem dX0_cutColour_26 : decode cX0_cutColour 26 = .ok (.goto (-16), 3) := by decide +kernel
theorem dX0_cutColour_29 : decode cX0_cutColour 29 = .ok (.return_, 1) := by decide +kernel
set_option maxRecDepth 20000 in
theorem ggX0_wearAt_X6_isPlace : GoodIn wsX0_wearAt wsX6_isPlace := goodIn_r _ [4] (by decide +kernel) (by decide +kernel)
set_option maxRecDepth 20000 in
theorem gX0_wearAt_X6_isPlace_n74 : GoodIn wsX0_wearAt (wsX6_isPlace) := ggX0_wearAt_X6_isPlace
theorem dX0_wearAt_0 : decode cX0_wearAt 0 = .ok (.iload_n 1, 1) := by decide +kernel
theorem dX0_wearAt_1 : decode cX0_wearAt 1 = .ok (.iload_n 2, 1) := by decide +kernel
theorem dX0_wearAt_2 : decode cX0_wearAt 2 = .ok (.invokestatic 74, 3) := by decide +kernel
theorem dX0_wearAt_5 : decode cX0_wearAt 5 = .ok (.ifCond .eq 17, 3) := by decide +kernel
theorem dX0_wearAt_8 : decode cX0_wearAt 8 = .ok (.aload_n 0, 1) := by decide +kernel
theorem dX0_wearAt_9 : decode cX0_wearAt 9 = .ok (.getfield 27, 3) := by decide +kernel
theorem dX0_wearAt_12 : decode cX0_wearAt 12 = .ok (.iload_n 2, 1) := by decide +kernel
theorem dX0_wearAt_13 : decode cX0_wearAt 13 = .ok (.bipush 16, 2) := by decide +kernel
theorem dX0_wearAt_15 : decode cX0_wearAt 15 = .ok (.imul, 1) := by decide +kernel
theorem dX0_wearAt_16 : decode cX0_wearAt 16 = .ok (.iload_n 1, 1) := by decide +kernel
theorem dX0_wearAt_17 : decode cX0_wearAt 17 = .ok (.iadd, 1) := by decide +kernel
theorem dX0_wearAt_18 : decode cX0_wearAt 18 = .ok (.iaload, 1) := by decide +kernel
theorem dX0_wearAt_19 : decode cX0_wearAt 19 = .ok (.goto 4, 3) := by decide +kernel
theorem dX0_wearAt_22 : decode cX0_wearAt 22 = .ok (.iconst 0, 1) := by decide +kernel
theorem dX0_wearAt_23 : decode cX0_wearAt 23 = .ok (.ireturn, 1) := by decide +kernel
set_option maxRecDepth 20000 in
theorem ggX0_clearWear_X6_isPlace : GoodIn wsX0_clearWear wsX6_isPlace := goodIn_r _ [4] (by decide +kernel) (by decide +kernel)
set_option maxRecDepth 20000 in
theorem gX0_clearWear_X6_isPlace_n74 : GoodIn wsX0_clearWear (wsX6_isPlace) := ggX0_clearWear_X6_isPlace
theorem dX0_clearWear_0 : decode cX0_clearWear 0 = .ok (.iload_n 1, 1) := by decide +kernel
theorem dX0_clearWear_1 : decode cX0_clearWear 1 = .ok (.iload_n 2, 1) := by decide +kernel
theorem dX0_clearWear_2 : decode cX0_clearWear 2 = .ok (.invokestatic 74, 3) := by decide +kernel
theorem dX0_clearWear_5 : decode cX0_clearWear 5 = .ok (.ifCond .eq 15, 3) := by decide +kernel
theorem dX0_clearWear_8 : decode cX0_clearWear 8 = .ok (.aload_n 0, 1) := by decide +kernel
theorem dX0_clearWear_9 : decode cX0_clearWear 9 = .ok (.getfield 27, 3) := by decide +kernel
theorem dX0_clearWear_12 : decode cX0_clearWear 12 = .ok (.iload_n 2, 1) := by decide +kernel
theorem dX0_clearWear_13 : decode cX0_clearWear 13 = .ok (.bipush 16, 2) := by decide +kernel
theorem dX0_clearWear_15 : decode cX0_clearWear 15 = .ok (.imul, 1) := by decide +kernel
theorem dX0_clearWear_16 : decode cX0_clearWear 16 = .ok (.iload_n 1, 1) := by decide +kernel
theorem dX0_clearWear_17 : decode cX0_clearWear 17 = .ok (.iadd, 1) := by decide +kernel
theorem dX0_clearWear_18 : decode cX0_clearWear 18 = .ok (.iconst 0, 1) := by decide +kernel
theorem dX0_clearWear_19 : decode cX0_clearWear 19 = .ok (.iastore, 1) := by decide +kernel
theorem dX0_clearWear_20 : decode cX0_clearWear 20 = .ok (.return_, 1) := by decide +kernel
set_option maxRecDepth 20000 in
theorem ggX0_isWorn_X1_has : GoodIn wsX0_isWorn wsX1_has := goodIn_r _ [6, 7, 8, 9, 10, 22] (by decide +kernel) (by decide +kernel)
set_option maxRecDepth 20000 in
theorem gX0_isWorn_X1_has : GoodIn wsX0_isWorn (wsV RX0 41 RX1 yX1_has wsX1_has) := goodIn_app (goodIn_of _ (by decide +kernel)) ggX0_isWorn_X1_has
set_option maxRecDepth 20000 in
theorem ggX0_isWorn_X0_wearAt : GoodIn wsX0_isWorn wsX0_wearAt := goodIn_r _ [15, 16, 8, 9, 10, 17, 18, 19, 20, 21] (by decide +kernel) (by decide +kernel)
set_option maxRecDepth 20000 in
theorem gX0_isWorn_X0_wearAt : GoodIn wsX0_isWorn (wsV RX0 77 RX0 yX0_wearAt wsX0_wearAt) := goodIn_app (goodIn_of _ (by decide +kernel)) ggX0_isWorn_X0_wearAt
theorem dX0_isWorn_0 : decode cX0_isWorn 0 = .ok (.aload_n 0, 1) := by decide +kernel
theorem dX0_isWorn_1 : decode cX0_isWorn 1 = .ok (.getfield 21, 3) := by decide +kernel
theorem dX0_isWorn_4 : decode cX0_isWorn 4 = .ok (.iload_n 1, 1) := by decide +kernel
theorem dX0_isWorn_5 : decode cX0_isWorn 5 = .ok (.iload_n 2, 1) := by decide +kernel
theorem dX0_isWorn_6 : decode cX0_isWorn 6 = .ok (.invokevirtual 41, 3) := by decide +kernel
theorem dX0_isWorn_9 : decode cX0_isWorn 9 = .ok (.ifCond .eq 17, 3) := by decide +kernel
theorem dX0_isWorn_12 : decode cX0_isWorn 12 = .ok (.aload_n 0, 1) := by decide +kernel
theorem dX0_isWorn_13 : decode cX0_isWorn 13 = .ok (.iload_n 1, 1) := by decide +kernel
theorem dX0_isWorn_14 : decode cX0_isWorn 14 = .ok (.iload_n 2, 1) := by decide +kernel
theorem dX0_isWorn_15 : decode cX0_isWorn 15 = .ok (.invokevirtual 77, 3) := by decide +kernel
theorem dX0_isWorn_18 : decode cX0_isWorn 18 = .ok (.iload_n 3, 1) := by decide +kernel
theorem dX0_isWorn_19 : decode cX0_isWorn 19 = .ok (.if_icmp .le 7, 3) := by decide +kernel
theorem dX0_isWorn_22 : decode cX0_isWorn 22 = .ok (.iconst 1, 1) := by decide +kernel
theorem dX0_isWorn_23 : decode cX0_isWorn 23 = .ok (.goto 4, 3) := by decide +kernel
theorem dX0_isWorn_26 : decode cX0_isWorn 26 = .ok (.iconst 0, 1) := by decide +kernel
theorem dX0_isWorn_27 : decode cX0_isWorn 27 = .ok (.ireturn, 1) := by decide +kernel
set_option maxRecDepth 20000 in
theorem ggX0_findInk_X6_oneIf : GoodIn wsX0_findInk wsX6_oneIf := goodIn_r _ [5] (by decide +kernel) (by decide +kernel)
set_option maxRecDepth 20000 in
theorem gX0_findInk_X6_oneIf_n53 : GoodIn wsX0_findInk (wsX6_oneIf) := ggX0_findInk_X6_oneIf
set_option maxRecDepth 20000 in
theorem ggX0_findInk_X1_row : GoodIn wsX0_findInk wsX1_row := goodIn_r _ [10, 11, 22] (by decide +kernel) (by decide +kernel)
set_option maxRecDepth 20000 in
theorem gX0_findInk_X1_row : GoodIn wsX0_findInk (wsV RX0 80 RX1 yX1_row wsX1_row) := goodIn_app (goodIn_of _ (by decide +kernel)) ggX0_findInk_X1_row
set_option maxRecDepth 20000 in
theorem ggX0_findInk_X1_putRow : GoodIn wsX0_findInk wsX1_putRow := goodIn_r _ [15, 11, 16, 22] (by decide +kernel) (by decide +kernel)
set_option maxRecDepth 20000 in
theorem gX0_findInk_X1_putRow : GoodIn wsX0_findInk (wsV RX0 84 RX1 yX1_putRow wsX1_putRow) := goodIn_app (goodIn_of _ (by decide +kernel)) ggX0_findInk_X1_putRow
theorem dX0_findInk_0 : decode cX0_findInk 0 = .ok (.iconst 0, 1) := by decide +kernel
theorem dX0_findInk_1 : decode cX0_findInk 1 = .ok (.istore_n 3, 1) := by decide +kernel
theorem dX0_findInk_2 : decode cX0_findInk 2 = .ok (.iload_n 3, 1) := by decide +kernel
theorem dX0_findInk_3 : decode cX0_findInk 3 = .ok (.bipush 12, 2) := by decide +kernel
theorem dX0_findInk_5 : decode cX0_findInk 5 = .ok (.if_icmp .ge 78, 3) := by decide +kernel
theorem dX0_findInk_8 : decode cX0_findInk 8 = .ok (.iconst 0, 1) := by decide +kernel
theorem dX0_findInk_9 : decode cX0_findInk 9 = .ok (.istore 4, 2) := by decide +kernel
theorem dX0_findInk_11 : decode cX0_findInk 11 = .ok (.iconst 0, 1) := by decide +kernel
theorem dX0_findInk_12 : decode cX0_findInk 12 = .ok (.istore 5, 2) := by decide +kernel
theorem dX0_findInk_14 : decode cX0_findInk 14 = .ok (.iload 5, 2) := by decide +kernel
theorem dX0_findInk_16 : decode cX0_findInk 16 = .ok (.bipush 16, 2) := by decide +kernel
theorem dX0_findInk_18 : decode cX0_findInk 18 = .ok (.if_icmp .ge 41, 3) := by decide +kernel
theorem dX0_findInk_21 : decode cX0_findInk 21 = .ok (.iload 4, 2) := by decide +kernel
theorem dX0_findInk_23 : decode cX0_findInk 23 = .ok (.aload_n 0, 1) := by decide +kernel
theorem dX0_findInk_24 : decode cX0_findInk 24 = .ok (.getfield 27, 3) := by decide +kernel
theorem dX0_findInk_27 : decode cX0_findInk 27 = .ok (.iload_n 3, 1) := by decide +kernel
theorem dX0_findInk_28 : decode cX0_findInk 28 = .ok (.bipush 16, 2) := by decide +kernel
theorem dX0_findInk_30 : decode cX0_findInk 30 = .ok (.imul, 1) := by decide +kernel
theorem dX0_findInk_31 : decode cX0_findInk 31 = .ok (.iload 5, 2) := by decide +kernel
theorem dX0_findInk_33 : decode cX0_findInk 33 = .ok (.iadd, 1) := by decide +kernel
theorem dX0_findInk_34 : decode cX0_findInk 34 = .ok (.iaload, 1) := by decide +kernel
theorem dX0_findInk_35 : decode cX0_findInk 35 = .ok (.iload_n 2, 1) := by decide +kernel
theorem dX0_findInk_36 : decode cX0_findInk 36 = .ok (.if_icmp .le 7, 3) := by decide +kernel
theorem dX0_findInk_39 : decode cX0_findInk 39 = .ok (.iconst 1, 1) := by decide +kernel
theorem dX0_findInk_40 : decode cX0_findInk 40 = .ok (.goto 4, 3) := by decide +kernel
theorem dX0_findInk_43 : decode cX0_findInk 43 = .ok (.iconst 0, 1) := by decide +kernel
theorem dX0_findInk_44 : decode cX0_findInk 44 = .ok (.invokestatic 53, 3) := by decide +kernel
theorem dX0_findInk_47 : decode cX0_findInk 47 = .ok (.iload 5, 2) := by decide +kernel
theorem dX0_findInk_49 : decode cX0_findInk 49 = .ok (.ishl, 1) := by decide +kernel
theorem dX0_findInk_50 : decode cX0_findInk 50 = .ok (.ior, 1) := by decide +kernel
theorem dX0_findInk_51 : decode cX0_findInk 51 = .ok (.istore 4, 2) := by decide +kernel
theorem dX0_findInk_53 : decode cX0_findInk 53 = .ok (.iinc 5 1, 3) := by decide +kernel
theorem dX0_findInk_56 : decode cX0_findInk 56 = .ok (.goto (-42), 3) := by decide +kernel
theorem dX0_findInk_59 : decode cX0_findInk 59 = .ok (.aload_n 1, 1) := by decide +kernel
theorem dX0_findInk_60 : decode cX0_findInk 60 = .ok (.iload_n 3, 1) := by decide +kernel
theorem dX0_findInk_61 : decode cX0_findInk 61 = .ok (.aload_n 0, 1) := by decide +kernel
theorem dX0_findInk_62 : decode cX0_findInk 62 = .ok (.getfield 21, 3) := by decide +kernel
theorem dX0_findInk_65 : decode cX0_findInk 65 = .ok (.iload_n 3, 1) := by decide +kernel
theorem dX0_findInk_66 : decode cX0_findInk 66 = .ok (.invokevirtual 80, 3) := by decide +kernel
theorem dX0_findInk_69 : decode cX0_findInk 69 = .ok (.iload 4, 2) := by decide +kernel
theorem dX0_findInk_71 : decode cX0_findInk 71 = .ok (.iconst (-1), 1) := by decide +kernel
theorem dX0_findInk_72 : decode cX0_findInk 72 = .ok (.ixor, 1) := by decide +kernel
theorem dX0_findInk_73 : decode cX0_findInk 73 = .ok (.iand, 1) := by decide +kernel
theorem dX0_findInk_74 : decode cX0_findInk 74 = .ok (.invokevirtual 84, 3) := by decide +kernel
theorem dX0_findInk_77 : decode cX0_findInk 77 = .ok (.iinc 3 1, 3) := by decide +kernel
theorem dX0_findInk_80 : decode cX0_findInk 80 = .ok (.goto (-78), 3) := by decide +kernel
theorem dX0_findInk_83 : decode cX0_findInk 83 = .ok (.return_, 1) := by decide +kernel
set_option maxRecDepth 20000 in
theorem ggX0_gaps_X1_row : GoodIn wsX0_gaps wsX1_row := goodIn_r _ [7, 8, 27] (by decide +kernel) (by decide +kernel)
set_option maxRecDepth 20000 in
theorem gX0_gaps_X1_row : GoodIn wsX0_gaps (wsV RX0 80 RX1 yX1_row wsX1_row) := goodIn_app (goodIn_of _ (by decide +kernel)) ggX0_gaps_X1_row
set_option maxRecDepth 20000 in
theorem ggX0_gaps_X1_shiftedRow : GoodIn wsX0_gaps wsX1_shiftedRow := goodIn_r _ [12, 13, 14, 4, 5, 6, 7, 8, 27] (by decide +kernel) (by decide +kernel)
set_option maxRecDepth 20000 in
theorem gX0_gaps_X1_shiftedRow : GoodIn wsX0_gaps (wsV RX0 88 RX1 yX1_shiftedRow wsX1_shiftedRow) := goodIn_app (goodIn_of _ (by decide +kernel)) ggX0_gaps_X1_shiftedRow
set_option maxRecDepth 20000 in
theorem ggX0_gaps_J6_bitCount_0f7a4 : GoodIn wsX0_gaps wsJ6_bitCount_0f7a4 := goodIn_r _ [18, 19, 20, 21] (by decide +kernel) (by decide +kernel)
set_option maxRecDepth 20000 in
theorem gX0_gaps_J6_bitCount_0f7a4 : GoodIn wsX0_gaps (va_wsS RX0 92 yJ6_bitCount_0f7a4 wsJ6_bitCount_0f7a4) := goodIn_app (goodIn_of _ (by decide +kernel)) ggX0_gaps_J6_bitCount_0f7a4
theorem dX0_gaps_0 : decode cX0_gaps 0 = .ok (.iconst 0, 1) := by decide +kernel
theorem dX0_gaps_1 : decode cX0_gaps 1 = .ok (.istore 5, 2) := by decide +kernel
theorem dX0_gaps_3 : decode cX0_gaps 3 = .ok (.iconst 0, 1) := by decide +kernel
theorem dX0_gaps_4 : decode cX0_gaps 4 = .ok (.istore 6, 2) := by decide +kernel
theorem dX0_gaps_6 : decode cX0_gaps 6 = .ok (.iload 6, 2) := by decide +kernel
theorem dX0_gaps_8 : decode cX0_gaps 8 = .ok (.bipush 12, 2) := by decide +kernel
theorem dX0_gaps_10 : decode cX0_gaps 10 = .ok (.if_icmp .ge 59, 3) := by decide +kernel
theorem dX0_gaps_13 : decode cX0_gaps 13 = .ok (.aload_n 1, 1) := by decide +kernel
theorem dX0_gaps_14 : decode cX0_gaps 14 = .ok (.iload 6, 2) := by decide +kernel
theorem dX0_gaps_16 : decode cX0_gaps 16 = .ok (.invokevirtual 80, 3) := by decide +kernel
theorem dX0_gaps_19 : decode cX0_gaps 19 = .ok (.aload_n 2, 1) := by decide +kernel
theorem dX0_gaps_20 : decode cX0_gaps 20 = .ok (.iload 6, 2) := by decide +kernel
theorem dX0_gaps_22 : decode cX0_gaps 22 = .ok (.iload_n 3, 1) := by decide +kernel
theorem dX0_gaps_23 : decode cX0_gaps 23 = .ok (.iload 4, 2) := by decide +kernel
theorem dX0_gaps_25 : decode cX0_gaps 25 = .ok (.invokevirtual 88, 3) := by decide +kernel
theorem dX0_gaps_28 : decode cX0_gaps 28 = .ok (.ior, 1) := by decide +kernel
theorem dX0_gaps_29 : decode cX0_gaps 29 = .ok (.istore 7, 2) := by decide +kernel
theorem dX0_gaps_31 : decode cX0_gaps 31 = .ok (.iload 5, 2) := by decide +kernel
theorem dX0_gaps_33 : decode cX0_gaps 33 = .ok (.aload_n 0, 1) := by decide +kernel
theorem dX0_gaps_34 : decode cX0_gaps 34 = .ok (.getfield 12, 3) := by decide +kernel
theorem dX0_gaps_37 : decode cX0_gaps 37 = .ok (.iload 6, 2) := by decide +kernel
theorem dX0_gaps_39 : decode cX0_gaps 39 = .ok (.invokevirtual 80, 3) := by decide +kernel
theorem dX0_gaps_42 : decode cX0_gaps 42 = .ok (.aload_n 0, 1) := by decide +kernel
theorem dX0_gaps_43 : decode cX0_gaps 43 = .ok (.getfield 18, 3) := by decide +kernel
theorem dX0_gaps_46 : decode cX0_gaps 46 = .ok (.iload 6, 2) := by decide +kernel
theorem dX0_gaps_48 : decode cX0_gaps 48 = .ok (.invokevirtual 80, 3) := by decide +kernel
theorem dX0_gaps_51 : decode cX0_gaps 51 = .ok (.ior, 1) := by decide +kernel
theorem dX0_gaps_52 : decode cX0_gaps 52 = .ok (.iload 7, 2) := by decide +kernel
theorem dX0_gaps_54 : decode cX0_gaps 54 = .ok (.iconst (-1), 1) := by decide +kernel
theorem dX0_gaps_55 : decode cX0_gaps 55 = .ok (.ixor, 1) := by decide +kernel
theorem dX0_gaps_56 : decode cX0_gaps 56 = .ok (.iand, 1) := by decide +kernel
theorem dX0_gaps_57 : decode cX0_gaps 57 = .ok (.invokestatic 92, 3) := by decide +kernel
theorem dX0_gaps_60 : decode cX0_gaps 60 = .ok (.iadd, 1) := by decide +kernel
theorem dX0_gaps_61 : decode cX0_gaps 61 = .ok (.istore 5, 2) := by decide +kernel
theorem dX0_gaps_63 : decode cX0_gaps 63 = .ok (.iinc 6 1, 3) := by decide +kernel
theorem dX0_gaps_66 : decode cX0_gaps 66 = .ok (.goto (-60), 3) := by decide +kernel
theorem dX0_gaps_69 : decode cX0_gaps 69 = .ok (.iload 5, 2) := by decide +kernel
theorem dX0_gaps_71 : decode cX0_gaps 71 = .ok (.ireturn, 1) := by decide +kernel
set_option maxRecDepth 20000 in
theorem ggX0_spills_X1_row : GoodIn wsX0_spills wsX1_row := goodIn_r _ [7, 8, 27] (by decide +kernel) (by decide +kernel)
set_option maxRecDepth 20000 in
theorem gX0_spills_X1_row : GoodIn wsX0_spills (wsV RX0 80 RX1 yX1_row wsX1_row) := goodIn_app (goodIn_of _ (by decide +kernel)) ggX0_spills_X1_row
set_option maxRecDepth 20000 in
theorem ggX0_spills_X1_shiftedRow : GoodIn wsX0_spills wsX1_shiftedRow := goodIn_r _ [12, 13, 14, 4, 5, 6, 7, 8, 27] (by decide +kernel) (by decide +kernel)
set_option maxRecDepth 20000 in
theorem gX0_spills_X1_shiftedRow : GoodIn wsX0_spills (wsV RX0 88 RX1 yX1_shiftedRow wsX1_shiftedRow) := goodIn_app (goodIn_of _ (by decide +kernel)) ggX0_spills_X1_shiftedRow
set_option maxRecDepth 20000 in
theorem ggX0_spills_J6_bitCount_0f7a4 : GoodIn wsX0_spills wsJ6_bitCount_0f7a4 := goodIn_r _ [18, 19, 20, 21] (by decide +kernel) (by decide +kernel)
set_option maxRecDepth 20000 in
theorem gX0_spills_J6_bitCount_0f7a4 : GoodIn wsX0_spills (va_wsS RX0 92 yJ6_bitCount_0f7a4 wsJ6_bitCount_0f7a4) := goodIn_app (goodIn_of _ (by decide +kernel)) ggX0_spills_J6_bitCount_0f7a4
theorem dX0_spills_0 : decode cX0_spills 0 = .ok (.iconst 0, 1) := by decide +kernel
theorem dX0_spills_1 : decode cX0_spills 1 = .ok (.istore 4, 2) := by decide +kernel
theorem dX0_spills_3 : decode cX0_spills 3 = .ok (.iconst 0, 1) := by decide +kernel
theorem dX0_spills_4 : decode cX0_spills 4 = .ok (.istore 5, 2) := by decide +kernel
theorem dX0_spills_6 : decode cX0_spills 6 = .ok (.iload 5, 2) := by decide +kernel
theorem dX0_spills_8 : decode cX0_spills 8 = .ok (.bipush 12, 2) := by decide +kernel
theorem dX0_spills_10 : decode cX0_spills 10 = .ok (.if_icmp .ge 51, 3) := by decide +kernel
theorem dX0_spills_13 : decode cX0_spills 13 = .ok (.aload_n 0, 1) := by decide +kernel
theorem dX0_spills_14 : decode cX0_spills 14 = .ok (.getfield 12, 3) := by decide +kernel
theorem dX0_spills_17 : decode cX0_spills 17 = .ok (.iload 5, 2) := by decide +kernel
theorem dX0_spills_19 : decode cX0_spills 19 = .ok (.invokevirtual 80, 3) := by decide +kernel
theorem dX0_spills_22 : decode cX0_spills 22 = .ok (.aload_n 0, 1) := by decide +kernel
theorem dX0_spills_23 : decode cX0_spills 23 = .ok (.getfield 18, 3) := by decide +kernel
theorem dX0_spills_26 : decode cX0_spills 26 = .ok (.iload 5, 2) := by decide +kernel
theorem dX0_spills_28 : decode cX0_spills 28 = .ok (.invokevirtual 80, 3) := by decide +kernel
theorem dX0_spills_31 : decode cX0_spills 31 = .ok (.ior, 1) := by decide +kernel
theorem dX0_spills_32 : decode cX0_spills 32 = .ok (.istore 6, 2) := by decide +kernel
theorem dX0_spills_34 : decode cX0_spills 34 = .ok (.iload 4, 2) := by decide +kernel
theorem dX0_spills_36 : decode cX0_spills 36 = .ok (.aload_n 1, 1) := by decide +kernel
theorem dX0_spills_37 : decode cX0_spills 37 = .ok (.iload 5, 2) := by decide +kernel
theorem dX0_spills_39 : decode cX0_spills 39 = .ok (.iload_n 2, 1) := by decide +kernel
theorem dX0_spills_40 : decode cX0_spills 40 = .ok (.iload_n 3, 1) := by decide +kernel
theorem dX0_spills_41 : decode cX0_spills 41 = .ok (.invokevirtual 88, 3) := by decide +kernel
theorem dX0_spills_44 : decode cX0_spills 44 = .ok (.iload 6, 2) := by decide +kernel
theorem dX0_spills_46 : decode cX0_spills 46 = .ok (.iconst (-1), 1) := by decide +kernel
theorem dX0_spills_47 : decode cX0_spills 47 = .ok (.ixor, 1) := by decide +kernel
theorem dX0_spills_48 : decode cX0_spills 48 = .ok (.iand, 1) := by decide +kernel
theorem dX0_spills_49 : decode cX0_spills 49 = .ok (.invokestatic 92, 3) := by decide +kernel
theorem dX0_spills_52 : decode cX0_spills 52 = .ok (.iadd, 1) := by decide +kernel
theorem dX0_spills_53 : decode cX0_spills 53 = .ok (.istore 4, 2) := by decide +kernel
theorem dX0_spills_55 : decode cX0_spills 55 = .ok (.iinc 5 1, 3) := by decide +kernel
theorem dX0_spills_58 : decode cX0_spills 58 = .ok (.goto (-52), 3) := by decide +kernel
theorem dX0_spills_61 : decode cX0_spills 61 = .ok (.iload 4, 2) := by decide +kernel
theorem dX0_spills_63 : decode cX0_spills 63 = .ok (.ireturn, 1) := by decide +kernel
set_option maxRecDepth 20000 in
theorem ggX0_lostLines_X1_row : GoodIn wsX0_lostLines wsX1_row := goodIn_r _ [6, 7, 20] (by decide +kernel) (by decide +kernel)
set_option maxRecDepth 20000 in
theorem gX0_lostLines_X1_row : GoodIn wsX0_lostLines (wsV RX0 80 RX1 yX1_row wsX1_row) := goodIn_app (goodIn_of _ (by decide +kernel)) ggX0_lostLines_X1_row
set_option maxRecDepth 20000 in
theorem ggX0_lostLines_J6_bitCount_0f7a4 : GoodIn wsX0_lostLines wsJ6_bitCount_0f7a4 := goodIn_r _ [11, 12, 13, 14] (by decide +kernel) (by decide +kernel)
set_option maxRecDepth 20000 in
theorem gX0_lostLines_J6_bitCount_0f7a4 : GoodIn wsX0_lostLines (va_wsS RX0 92 yJ6_bitCount_0f7a4 wsJ6_bitCount_0f7a4) := goodIn_app (goodIn_of _ (by decide +kernel)) ggX0_lostLines_J6_bitCount_0f7a4
theorem dX0_lostLines_0 : decode cX0_lostLines 0 = .ok (.iconst 0, 1) := by decide +kernel
theorem dX0_lostLines_1 : decode cX0_lostLines 1 = .ok (.istore_n 2, 1) := by decide +kernel
theorem dX0_lostLines_2 : decode cX0_lostLines 2 = .ok (.iconst 0, 1) := by decide +kernel
theorem dX0_lostLines_3 : decode cX0_lostLines 3 = .ok (.istore_n 3, 1) := by decide +kernel
theorem dX0_lostLines_4 : decode cX0_lostLines 4 = .ok (.iload_n 3, 1) := by decide +kernel
theorem dX0_lostLines_5 : decode cX0_lostLines 5 = .ok (.bipush 12, 2) := by decide +kernel
theorem dX0_lostLines_7 : decode cX0_lostLines 7 = .ok (.if_icmp .ge 31, 3) := by decide +kernel
theorem dX0_lostLines_10 : decode cX0_lostLines 10 = .ok (.iload_n 2, 1) := by decide +kernel
theorem dX0_lostLines_11 : decode cX0_lostLines 11 = .ok (.aload_n 0, 1) := by decide +kernel
theorem dX0_lostLines_12 : decode cX0_lostLines 12 = .ok (.getfield 18, 3) := by decide +kernel
theorem dX0_lostLines_15 : decode cX0_lostLines 15 = .ok (.iload_n 3, 1) := by decide +kernel
theorem dX0_lostLines_16 : decode cX0_lostLines 16 = .ok (.invokevirtual 80, 3) := by decide +kernel
theorem dX0_lostLines_19 : decode cX0_lostLines 19 = .ok (.aload_n 1, 1) := by decide +kernel
theorem dX0_lostLines_20 : decode cX0_lostLines 20 = .ok (.iload_n 3, 1) := by decide +kernel
theorem dX0_lostLines_21 : decode cX0_lostLines 21 = .ok (.invokevirtual 80, 3) := by decide +kernel
theorem dX0_lostLines_24 : decode cX0_lostLines 24 = .ok (.iconst (-1), 1) := by decide +kernel
theorem dX0_lostLines_25 : decode cX0_lostLines 25 = .ok (.ixor, 1) := by decide +kernel
theorem dX0_lostLines_26 : decode cX0_lostLines 26 = .ok (.iand, 1) := by decide +kernel
theorem dX0_lostLines_27 : decode cX0_lostLines 27 = .ok (.invokestatic 92, 3) := by decide +kernel
theorem dX0_lostLines_30 : decode cX0_lostLines 30 = .ok (.iadd, 1) := by decide +kernel
theorem dX0_lostLines_31 : decode cX0_lostLines 31 = .ok (.istore_n 2, 1) := by decide +kernel
theorem dX0_lostLines_32 : decode cX0_lostLines 32 = .ok (.iinc 3 1, 3) := by decide +kernel
theorem dX0_lostLines_35 : decode cX0_lostLines 35 = .ok (.goto (-31), 3) := by decide +kernel
theorem dX0_lostLines_38 : decode cX0_lostLines 38 = .ok (.iload_n 2, 1) := by decide +kernel
theorem dX0_lostLines_39 : decode cX0_lostLines 39 = .ok (.ireturn, 1) := by decide +kernel
set_option maxRecDepth 20000 in
theorem ggX0_wearDown_X1_has : GoodIn wsX0_wearDown wsX1_has := goodIn_r _ [6, 7, 8, 9, 10, 27] (by decide +kernel) (by decide +kernel)
set_option maxRecDepth 20000 in
theorem gX0_wearDown_X1_has : GoodIn wsX0_wearDown (wsV RX0 41 RX1 yX1_has wsX1_has) := goodIn_app (goodIn_of _ (by decide +kernel)) ggX0_wearDown_X1_has
set_option maxRecDepth 20000 in
theorem ggX0_wearDown_X0_wearOfPrint : GoodIn wsX0_wearDown wsX0_wearOfPrint := goodIn_r _ [14, 15, 16, 17, 5, 18, 19, 3, 4, 6, 7, 8, 9, 10, 20, 21, 27] (by decide +kernel) (by decide +kernel)
set_option maxRecDepth 20000 in
theorem gX0_wearDown_X0_wearOfPrint : GoodIn wsX0_wearDown (va_wsS RX0 97 yX0_wearOfPrint wsX0_wearOfPrint) := goodIn_app (goodIn_of _ (by decide +kernel)) ggX0_wearDown_X0_wearOfPrint
theorem dX0_wearDown_0 : decode cX0_wearDown 0 = .ok (.iconst 0, 1) := by decide +kernel
theorem dX0_wearDown_1 : decode cX0_wearDown 1 = .ok (.istore_n 2, 1) := by decide +kernel
theorem dX0_wearDown_2 : decode cX0_wearDown 2 = .ok (.iload_n 2, 1) := by decide +kernel
theorem dX0_wearDown_3 : decode cX0_wearDown 3 = .ok (.bipush 12, 2) := by decide +kernel
theorem dX0_wearDown_5 : decode cX0_wearDown 5 = .ok (.if_icmp .ge 52, 3) := by decide +kernel
theorem dX0_wearDown_8 : decode cX0_wearDown 8 = .ok (.iconst 0, 1) := by decide +kernel
theorem dX0_wearDown_9 : decode cX0_wearDown 9 = .ok (.istore_n 3, 1) := by decide +kernel
theorem dX0_wearDown_10 : decode cX0_wearDown 10 = .ok (.iload_n 3, 1) := by decide +kernel
theorem dX0_wearDown_11 : decode cX0_wearDown 11 = .ok (.bipush 16, 2) := by decide +kernel
theorem dX0_wearDown_13 : decode cX0_wearDown 13 = .ok (.if_icmp .ge 38, 3) := by decide +kernel
theorem dX0_wearDown_16 : decode cX0_wearDown 16 = .ok (.aload_n 1, 1) := by decide +kernel
theorem dX0_wearDown_17 : decode cX0_wearDown 17 = .ok (.iload_n 3, 1) := by decide +kernel
theorem dX0_wearDown_18 : decode cX0_wearDown 18 = .ok (.iload_n 2, 1) := by decide +kernel
theorem dX0_wearDown_19 : decode cX0_wearDown 19 = .ok (.invokevirtual 41, 3) := by decide +kernel
theorem dX0_wearDown_22 : decode cX0_wearDown 22 = .ok (.ifCond .eq 23, 3) := by decide +kernel
theorem dX0_wearDown_25 : decode cX0_wearDown 25 = .ok (.aload_n 0, 1) := by decide +kernel
theorem dX0_wearDown_26 : decode cX0_wearDown 26 = .ok (.getfield 27, 3) := by decide +kernel
theorem dX0_wearDown_29 : decode cX0_wearDown 29 = .ok (.iload_n 2, 1) := by decide +kernel
theorem dX0_wearDown_30 : decode cX0_wearDown 30 = .ok (.bipush 16, 2) := by decide +kernel
theorem dX0_wearDown_32 : decode cX0_wearDown 32 = .ok (.imul, 1) := by decide +kernel
theorem dX0_wearDown_33 : decode cX0_wearDown 33 = .ok (.iload_n 3, 1) := by decide +kernel
theorem dX0_wearDown_34 : decode cX0_wearDown 34 = .ok (.iadd, 1) := by decide +kernel
theorem dX0_wearDown_35 : decode cX0_wearDown 35 = .ok (.dup2, 1) := by decide +kernel
theorem dX0_wearDown_36 : decode cX0_wearDown 36 = .ok (.iaload, 1) := by decide +kernel
theorem dX0_wearDown_37 : decode cX0_wearDown 37 = .ok (.aload_n 1, 1) := by decide +kernel
theorem dX0_wearDown_38 : decode cX0_wearDown 38 = .ok (.iload_n 3, 1) := by decide +kernel
theorem dX0_wearDown_39 : decode cX0_wearDown 39 = .ok (.iload_n 2, 1) := by decide +kernel
theorem dX0_wearDown_40 : decode cX0_wearDown 40 = .ok (.invokestatic 97, 3) := by decide +kernel
theorem dX0_wearDown_43 : decode cX0_wearDown 43 = .ok (.iadd, 1) := by decide +kernel
theorem dX0_wearDown_44 : decode cX0_wearDown 44 = .ok (.iastore, 1) := by decide +kernel
theorem dX0_wearDown_45 : decode cX0_wearDown 45 = .ok (.iinc 3 1, 3) := by decide +kernel
theorem dX0_wearDown_48 : decode cX0_wearDown 48 = .ok (.goto (-38), 3) := by decide +kernel
theorem dX0_wearDown_51 : decode cX0_wearDown 51 = .ok (.iinc 2 1, 3) := by decide +kernel
theorem dX0_wearDown_54 : decode cX0_wearDown 54 = .ok (.goto (-52), 3) := by decide +kernel
theorem dX0_wearDown_57 : decode cX0_wearDown 57 = .ok (.return_, 1) := by decide +kernel
set_option maxRecDepth 20000 in
theorem ggX0_printsUntilWorn_X0_wearOfPrint : GoodIn wsX0_printsUntilWorn wsX0_wearOfPrint := goodIn_r _ [9, 10, 11, 12, 13, 14, 15, 16, 17, 18, 19, 20, 21, 22, 23, 24, 31] (by decide +kernel) (by decide +kernel)
set_option maxRecDepth 20000 in
theorem gX0_printsUntilWorn_X0_wearOfPrint : GoodIn wsX0_printsUntilWorn (va_wsS RX0 97 yX0_wearOfPrint wsX0_wearOfPrint) := goodIn_app (goodIn_of _ (by decide +kernel)) ggX0_printsUntilWorn_X0_wearOfPrint
set_option maxRecDepth 20000 in
theorem ggX0_printsUntilWorn_X1_has : GoodIn wsX0_printsUntilWorn wsX1_has := goodIn_r _ [18, 19, 20, 21, 22, 31] (by decide +kernel) (by decide +kernel)
set_option maxRecDepth 20000 in
theorem gX0_printsUntilWorn_X1_has : GoodIn wsX0_printsUntilWorn (wsV RX0 41 RX1 yX1_has wsX1_has) := goodIn_app (goodIn_of _ (by decide +kernel)) ggX0_printsUntilWorn_X1_has
theorem dX0_printsUntilWorn_0 : decode cX0_printsUntilWorn 0 = .ok (.sipush 501, 3) := by decide +kernel
theorem dX0_printsUntilWorn_3 : decode cX0_printsUntilWorn 3 = .ok (.istore_n 3, 1) := by decide +kernel
theorem dX0_printsUntilWorn_4 : decode cX0_printsUntilWorn 4 = .ok (.iconst 0, 1) := by decide +kernel
theorem dX0_printsUntilWorn_5 : decode cX0_printsUntilWorn 5 = .ok (.istore 4, 2) := by decide +kernel
theorem dX0_printsUntilWorn_7 : decode cX0_printsUntilWorn 7 = .ok (.iload 4, 2) := by decide +kernel
theorem dX0_printsUntilWorn_9 : decode cX0_printsUntilWorn 9 = .ok (.bipush 12, 2) := by decide +kernel
theorem dX0_printsUntilWorn_11 : decode cX0_printsUntilWorn 11 = .ok (.if_icmp .ge 76, 3) := by decide +kernel
theorem dX0_printsUntilWorn_14 : decode cX0_printsUntilWorn 14 = .ok (.iconst 0, 1) := by decide +kernel
theorem dX0_printsUntilWorn_15 : decode cX0_printsUntilWorn 15 = .ok (.istore 5, 2) := by decide +kernel
theorem dX0_printsUntilWorn_17 : decode cX0_printsUntilWorn 17 = .ok (.iload 5, 2) := by decide +kernel
theorem dX0_printsUntilWorn_19 : decode cX0_printsUntilWorn 19 = .ok (.bipush 16, 2) := by decide +kernel
theorem dX0_printsUntilWorn_21 : decode cX0_printsUntilWorn 21 = .ok (.if_icmp .ge 60, 3) := by decide +kernel
theorem dX0_printsUntilWorn_24 : decode cX0_printsUntilWorn 24 = .ok (.aload_n 1, 1) := by decide +kernel
theorem dX0_printsUntilWorn_25 : decode cX0_printsUntilWorn 25 = .ok (.iload 5, 2) := by decide +kernel
theorem dX0_printsUntilWorn_27 : decode cX0_printsUntilWorn 27 = .ok (.iload 4, 2) := by decide +kernel
theorem dX0_printsUntilWorn_29 : decode cX0_printsUntilWorn 29 = .ok (.invokestatic 97, 3) := by decide +kernel
theorem dX0_printsUntilWorn_32 : decode cX0_printsUntilWorn 32 = .ok (.istore 6, 2) := by decide +kernel
theorem dX0_printsUntilWorn_34 : decode cX0_printsUntilWorn 34 = .ok (.aload_n 1, 1) := by decide +kernel
theorem dX0_printsUntilWorn_35 : decode cX0_printsUntilWorn 35 = .ok (.iload 5, 2) := by decide +kernel
theorem dX0_printsUntilWorn_37 : decode cX0_printsUntilWorn 37 = .ok (.iload 4, 2) := by decide +kernel
theorem dX0_printsUntilWorn_39 : decode cX0_printsUntilWorn 39 = .ok (.invokevirtual 41, 3) := by decide +kernel
theorem dX0_printsUntilWorn_42 : decode cX0_printsUntilWorn 42 = .ok (.ifCond .eq 33, 3) := by decide +kernel
theorem dX0_printsUntilWorn_45 : decode cX0_printsUntilWorn 45 = .ok (.iload 6, 2) := by decide +kernel
theorem dX0_printsUntilWorn_47 : decode cX0_printsUntilWorn 47 = .ok (.ifCond .le 28, 3) := by decide +kernel
theorem dX0_printsUntilWorn_50 : decode cX0_printsUntilWorn 50 = .ok (.iload_n 3, 1) := by decide +kernel
theorem dX0_printsUntilWorn_51 : decode cX0_printsUntilWorn 51 = .ok (.iload_n 2, 1) := by decide +kernel
theorem dX0_printsUntilWorn_52 : decode cX0_printsUntilWorn 52 = .ok (.aload_n 0, 1) := by decide +kernel
theorem dX0_printsUntilWorn_53 : decode cX0_printsUntilWorn 53 = .ok (.getfield 27, 3) := by decide +kernel
theorem dX0_printsUntilWorn_56 : decode cX0_printsUntilWorn 56 = .ok (.iload 4, 2) := by decide +kernel
theorem dX0_printsUntilWorn_58 : decode cX0_printsUntilWorn 58 = .ok (.bipush 16, 2) := by decide +kernel
theorem dX0_printsUntilWorn_60 : decode cX0_printsUntilWorn 60 = .ok (.imul, 1) := by decide +kernel
theorem dX0_printsUntilWorn_61 : decode cX0_printsUntilWorn 61 = .ok (.iload 5, 2) := by decide +kernel
theorem dX0_printsUntilWorn_63 : decode cX0_printsUntilWorn 63 = .ok (.iadd, 1) := by decide +kernel
theorem dX0_printsUntilWorn_64 : decode cX0_printsUntilWorn 64 = .ok (.iaload, 1) := by decide +kernel
theorem dX0_printsUntilWorn_65 : decode cX0_printsUntilWorn 65 = .ok (.isub, 1) := by decide +kernel
theorem dX0_printsUntilWorn_66 : decode cX0_printsUntilWorn 66 = .ok (.iload 6, 2) := by decide +kernel
theorem dX0_printsUntilWorn_68 : decode cX0_printsUntilWorn 68 = .ok (.idiv, 1) := by decide +kernel
theorem dX0_printsUntilWorn_69 : decode cX0_printsUntilWorn 69 = .ok (.iconst 1, 1) := by decide +kernel
theorem dX0_printsUntilWorn_70 : decode cX0_printsUntilWorn 70 = .ok (.iadd, 1) := by decide +kernel
theorem dX0_printsUntilWorn_71 : decode cX0_printsUntilWorn 71 = .ok (.invokestatic 101, 3) := by decide +kernel
theorem dX0_printsUntilWorn_74 : decode cX0_printsUntilWorn 74 = .ok (.istore_n 3, 1) := by decide +kernel
theorem dX0_printsUntilWorn_75 : decode cX0_printsUntilWorn 75 = .ok (.iinc 5 1, 3) := by decide +kernel
theorem dX0_printsUntilWorn_78 : decode cX0_printsUntilWorn 78 = .ok (.goto (-61), 3) := by decide +kernel
theorem dX0_printsUntilWorn_81 : decode cX0_printsUntilWorn 81 = .ok (.iinc 4 1, 3) := by decide +kernel
theorem dX0_printsUntilWorn_84 : decode cX0_printsUntilWorn 84 = .ok (.goto (-77), 3) := by decide +kernel
theorem dX0_printsUntilWorn_87 : decode cX0_printsUntilWorn 87 = .ok (.iload_n 3, 1) := by decide +kernel
theorem dX0_printsUntilWorn_88 : decode cX0_printsUntilWorn 88 = .ok (.ireturn, 1) := by decide +kernel
set_option maxRecDepth 20000 in
theorem ggX0_wearOfPrint_X1_neighbors : GoodIn wsX0_wearOfPrint wsX1_neighbors := goodIn_r _ [5, 6, 7, 8, 4, 9, 10, 11, 12, 13, 14, 15, 16] (by decide +kernel) (by decide +kernel)
set_option maxRecDepth 20000 in
theorem gX0_wearOfPrint_X1_neighbors : GoodIn wsX0_wearOfPrint (wsV RX0 106 RX1 yX1_neighbors wsX1_neighbors) := goodIn_app (goodIn_of _ (by decide +kernel)) ggX0_wearOfPrint_X1_neighbors
theorem dX0_wearOfPrint_0 : decode cX0_wearOfPrint 0 = .ok (.iconst 5, 1) := by decide +kernel
theorem dX0_wearOfPrint_1 : decode cX0_wearOfPrint 1 = .ok (.aload_n 0, 1) := by decide +kernel
theorem dX0_wearOfPrint_2 : decode cX0_wearOfPrint 2 = .ok (.iload_n 1, 1) := by decide +kernel
theorem dX0_wearOfPrint_3 : decode cX0_wearOfPrint 3 = .ok (.iload_n 2, 1) := by decide +kernel
theorem dX0_wearOfPrint_4 : decode cX0_wearOfPrint 4 = .ok (.invokevirtual 106, 3) := by decide +kernel
theorem dX0_wearOfPrint_7 : decode cX0_wearOfPrint 7 = .ok (.isub, 1) := by decide +kernel
theorem dX0_wearOfPrint_8 : decode cX0_wearOfPrint 8 = .ok (.ireturn, 1) := by decide +kernel
theorem dX1_init_0 : decode cX1_init 0 = .ok (.aload_n 0, 1) := by decide +kernel
theorem dX1_init_1 : decode cX1_init 1 = .ok (.invokespecial 3, 3) := by decide +kernel
theorem dX1_init_4 : decode cX1_init 4 = .ok (.aload_n 0, 1) := by decide +kernel
theorem dX1_init_5 : decode cX1_init 5 = .ok (.bipush 12, 2) := by decide +kernel
theorem dX1_init_7 : decode cX1_init 7 = .ok (.newarray .int, 2) := by decide +kernel
theorem dX1_init_9 : decode cX1_init 9 = .ok (.putfield 9, 3) := by decide +kernel
theorem dX1_init_12 : decode cX1_init 12 = .ok (.return_, 1) := by decide +kernel
theorem dX1_becomeLike_0 : decode cX1_becomeLike 0 = .ok (.aload_n 1, 1) := by decide +kernel
theorem dX1_becomeLike_1 : decode cX1_becomeLike 1 = .ok (.getfield 9, 3) := by decide +kernel
theorem dX1_becomeLike_4 : decode cX1_becomeLike 4 = .ok (.iconst 0, 1) := by decide +kernel
theorem dX1_becomeLike_5 : decode cX1_becomeLike 5 = .ok (.aload_n 0, 1) := by decide +kernel
theorem dX1_becomeLike_6 : decode cX1_becomeLike 6 = .ok (.getfield 9, 3) := by decide +kernel
theorem dX1_becomeLike_9 : decode cX1_becomeLike 9 = .ok (.iconst 0, 1) := by decide +kernel
theorem dX1_becomeLike_10 : decode cX1_becomeLike 10 = .ok (.bipush 12, 2) := by decide +kernel
theorem dX1_becomeLike_12 : decode cX1_becomeLike 12 = .ok (.invokestatic 15, 3) := by decide +kernel
theorem dX1_becomeLike_15 : decode cX1_becomeLike 15 = .ok (.return_, 1) := by decide +kernel
theorem dX1_row_0 : decode cX1_row 0 = .ok (.iload_n 1, 1) := by decide +kernel
theorem dX1_row_1 : decode cX1_row 1 = .ok (.ifCond .lt 18, 3) := by decide +kernel
theorem dX1_row_4 : decode cX1_row 4 = .ok (.iload_n 1, 1) := by decide +kernel
theorem dX1_row_5 : decode cX1_row 5 = .ok (.bipush 12, 2) := by decide +kernel
theorem dX1_row_7 : decode cX1_row 7 = .ok (.if_icmp .ge 12, 3) := by decide +kernel
theorem dX1_row_10 : decode cX1_row 10 = .ok (.aload_n 0, 1) := by decide +kernel
theorem dX1_row_11 : decode cX1_row 11 = .ok (.getfield 9, 3) := by decide +kernel
theorem dX1_row_14 : decode cX1_row 14 = .ok (.iload_n 1, 1) := by decide +kernel
theorem dX1_row_15 : decode cX1_row 15 = .ok (.iaload, 1) := by decide +kernel
theorem dX1_row_16 : decode cX1_row 16 = .ok (.goto 4, 3) := by decide +kernel
theorem dX1_row_19 : decode cX1_row 19 = .ok (.iconst 0, 1) := by decide +kernel
theorem dX1_row_20 : decode cX1_row 20 = .ok (.ireturn, 1) := by decide +kernel
theorem dX1_putRow_0 : decode cX1_putRow 0 = .ok (.iload_n 1, 1) := by decide +kernel
theorem dX1_putRow_1 : decode cX1_putRow 1 = .ok (.ifCond .lt 19, 3) := by decide +kernel
theorem dX1_putRow_4 : decode cX1_putRow 4 = .ok (.iload_n 1, 1) := by decide +kernel
theorem dX1_putRow_5 : decode cX1_putRow 5 = .ok (.bipush 12, 2) := by decide +kernel
theorem dX1_putRow_7 : decode cX1_putRow 7 = .ok (.if_icmp .ge 13, 3) := by decide +kernel
theorem dX1_putRow_10 : decode cX1_putRow 10 = .ok (.aload_n 0, 1) := by decide +kernel
theorem dX1_putRow_11 : decode cX1_putRow 11 = .ok (.getfield 9, 3) := by decide +kernel
theorem dX1_putRow_14 : decode cX1_putRow 14 = .ok (.iload_n 1, 1) := by decide +kernel
theorem dX1_putRow_15 : decode cX1_putRow 15 = .ok (.iload_n 2, 1) := by decide +kernel
theorem dX1_putRow_16 : decode cX1_putRow 16 = .ok (.ldc 21, 2) := by decide +kernel
theorem dX1_putRow_18 : decode cX1_putRow 18 = .ok (.iand, 1) := by decide +kernel
theorem dX1_putRow_19 : decode cX1_putRow 19 = .ok (.iastore, 1) := by decide +kernel
theorem dX1_putRow_20 : decode cX1_putRow 20 = .ok (.return_, 1) := by decide +kernel
set_option maxRecDepth 20000 in
theorem ggX1_has_X6_isPlace : GoodIn wsX1_has wsX6_isPlace := goodIn_r _ [4] (by decide +kernel) (by decide +kernel)
set_option maxRecDepth 20000 in
theorem gX1_has_X6_isPlace_n22 : GoodIn wsX1_has (wsX6_isPlace) := ggX1_has_X6_isPlace
theorem dX1_has_0 : decode cX1_has 0 = .ok (.iload_n 1, 1) := by decide +kernel
theorem dX1_has_1 : decode cX1_has 1 = .ok (.iload_n 2, 1) := by decide +kernel
theorem dX1_has_2 : decode cX1_has 2 = .ok (.invokestatic 22, 3) := by decide +kernel
theorem dX1_has_5 : decode cX1_has 5 = .ok (.ifCond .eq 21, 3) := by decide +kernel
theorem dX1_has_8 : decode cX1_has 8 = .ok (.aload_n 0, 1) := by decide +kernel
theorem dX1_has_9 : decode cX1_has 9 = .ok (.getfield 9, 3) := by decide +kernel
theorem dX1_has_12 : decode cX1_has 12 = .ok (.iload_n 2, 1) := by decide +kernel
theorem dX1_has_13 : decode cX1_has 13 = .ok (.iaload, 1) := by decide +kernel
theorem dX1_has_14 : decode cX1_has 14 = .ok (.iload_n 1, 1) := by decide +kernel
theorem dX1_has_15 : decode cX1_has 15 = .ok (.ishr, 1) := by decide +kernel
theorem dX1_has_16 : decode cX1_has 16 = .ok (.iconst 1, 1) := by decide +kernel
theorem dX1_has_17 : decode cX1_has 17 = .ok (.iand, 1) := by decide +kernel
theorem dX1_has_18 : decode cX1_has 18 = .ok (.iconst 1, 1) := by decide +kernel
theorem dX1_has_19 : decode cX1_has 19 = .ok (.if_icmp .ne 7, 3) := by decide +kernel
theorem dX1_has_22 : decode cX1_has 22 = .ok (.iconst 1, 1) := by decide +kernel
theorem dX1_has_23 : decode cX1_has 23 = .ok (.goto 4, 3) := by decide +kernel
theorem dX1_has_26 : decode cX1_has 26 = .ok (.iconst 0, 1) := by decide +kernel
theorem dX1_has_27 : decode cX1_has 27 = .ok (.ireturn, 1) := by decide +kernel
set_option maxRecDepth 20000 in
theorem ggX1_put_X6_isPlace : GoodIn wsX1_put wsX6_isPlace := goodIn_r _ [4] (by decide +kernel) (by decide +kernel)
set_option maxRecDepth 20000 in
theorem gX1_put_X6_isPlace_n22 : GoodIn wsX1_put (wsX6_isPlace) := ggX1_put_X6_isPlace
theorem dX1_put_0 : decode cX1_put 0 = .ok (.iload_n 1, 1) := by decide +kernel
theorem dX1_put_1 : decode cX1_put 1 = .ok (.iload_n 2, 1) := by decide +kernel
theorem dX1_put_2 : decode cX1_put 2 = .ok (.invokestatic 22, 3) := by decide +kernel
theorem dX1_put_5 : decode cX1_put 5 = .ok (.ifCond .eq 38, 3) := by decide +kernel
theorem dX1_put_8 : decode cX1_put 8 = .ok (.aload_n 0, 1) := by decide +kernel
theorem dX1_put_9 : decode cX1_put 9 = .ok (.getfield 9, 3) := by decide +kernel
theorem dX1_put_12 : decode cX1_put 12 = .ok (.iload_n 2, 1) := by decide +kernel
theorem dX1_put_13 : decode cX1_put 13 = .ok (.iload_n 3, 1) := by decide +kernel
theorem dX1_put_14 : decode cX1_put 14 = .ok (.ifCond .eq 16, 3) := by decide +kernel
theorem dX1_put_17 : decode cX1_put 17 = .ok (.aload_n 0, 1) := by decide +kernel
theorem dX1_put_18 : decode cX1_put 18 = .ok (.getfield 9, 3) := by decide +kernel
theorem dX1_put_21 : decode cX1_put 21 = .ok (.iload_n 2, 1) := by decide +kernel
theorem dX1_put_22 : decode cX1_put 22 = .ok (.iaload, 1) := by decide +kernel
theorem dX1_put_23 : decode cX1_put 23 = .ok (.iconst 1, 1) := by decide +kernel
theorem dX1_put_24 : decode cX1_put 24 = .ok (.iload_n 1, 1) := by decide +kernel
theorem dX1_put_25 : decode cX1_put 25 = .ok (.ishl, 1) := by decide +kernel
theorem dX1_put_26 : decode cX1_put 26 = .ok (.ior, 1) := by decide +kernel
theorem dX1_put_27 : decode cX1_put 27 = .ok (.goto 15, 3) := by decide +kernel
theorem dX1_put_30 : decode cX1_put 30 = .ok (.aload_n 0, 1) := by decide +kernel
theorem dX1_put_31 : decode cX1_put 31 = .ok (.getfield 9, 3) := by decide +kernel
theorem dX1_put_34 : decode cX1_put 34 = .ok (.iload_n 2, 1) := by decide +kernel
theorem dX1_put_35 : decode cX1_put 35 = .ok (.iaload, 1) := by decide +kernel
theorem dX1_put_36 : decode cX1_put 36 = .ok (.iconst 1, 1) := by decide +kernel
theorem dX1_put_37 : decode cX1_put 37 = .ok (.iload_n 1, 1) := by decide +kernel
theorem dX1_put_38 : decode cX1_put 38 = .ok (.ishl, 1) := by decide +kernel
theorem dX1_put_39 : decode cX1_put 39 = .ok (.iconst (-1), 1) := by decide +kernel
theorem dX1_put_40 : decode cX1_put 40 = .ok (.ixor, 1) := by decide +kernel
theorem dX1_put_41 : decode cX1_put 41 = .ok (.iand, 1) := by decide +kernel
theorem dX1_put_42 : decode cX1_put 42 = .ok (.iastore, 1) := by decide +kernel
theorem dX1_put_43 : decode cX1_put 43 = .ok (.return_, 1) := by decide +kernel
set_option maxRecDepth 20000 in
theorem ggX1_size_J6_bitCount_0f7a4 : GoodIn wsX1_size wsJ6_bitCount_0f7a4 := goodIn_r _ [5, 6, 7, 8] (by decide +kernel) (by decide +kernel)
set_option maxRecDepth 20000 in
theorem gX1_size_J6_bitCount_0f7a4 : GoodIn wsX1_size (va_wsS RX1 26 yJ6_bitCount_0f7a4 wsJ6_bitCount_0f7a4) := goodIn_app (goodIn_of _ (by decide +kernel)) ggX1_size_J6_bitCount_0f7a4
theorem dX1_size_0 : decode cX1_size 0 = .ok (.iconst 0, 1) := by decide +kernel
theorem dX1_size_1 : decode cX1_size 1 = .ok (.istore_n 1, 1) := by decide +kernel
theorem dX1_size_2 : decode cX1_size 2 = .ok (.iconst 0, 1) := by decide +kernel
theorem dX1_size_3 : decode cX1_size 3 = .ok (.istore_n 2, 1) := by decide +kernel
theorem dX1_size_4 : decode cX1_size 4 = .ok (.iload_n 2, 1) := by decide +kernel
theorem dX1_size_5 : decode cX1_size 5 = .ok (.bipush 12, 2) := by decide +kernel
theorem dX1_size_7 : decode cX1_size 7 = .ok (.if_icmp .ge 21, 3) := by decide +kernel
theorem dX1_size_10 : decode cX1_size 10 = .ok (.iload_n 1, 1) := by decide +kernel
theorem dX1_size_11 : decode cX1_size 11 = .ok (.aload_n 0, 1) := by decide +kernel
theorem dX1_size_12 : decode cX1_size 12 = .ok (.getfield 9, 3) := by decide +kernel
theorem dX1_size_15 : decode cX1_size 15 = .ok (.iload_n 2, 1) := by decide +kernel
theorem dX1_size_16 : decode cX1_size 16 = .ok (.iaload, 1) := by decide +kernel
theorem dX1_size_17 : decode cX1_size 17 = .ok (.invokestatic 26, 3) := by decide +kernel
theorem dX1_size_20 : decode cX1_size 20 = .ok (.iadd, 1) := by decide +kernel
theorem dX1_size_21 : decode cX1_size 21 = .ok (.istore_n 1, 1) := by decide +kernel
theorem dX1_size_22 : decode cX1_size 22 = .ok (.iinc 2 1, 3) := by decide +kernel
theorem dX1_size_25 : decode cX1_size 25 = .ok (.goto (-21), 3) := by decide +kernel
theorem dX1_size_28 : decode cX1_size 28 = .ok (.iload_n 1, 1) := by decide +kernel
theorem dX1_size_29 : decode cX1_size 29 = .ok (.ireturn, 1) := by decide +kernel
set_option maxRecDepth 20000 in
theorem ggX1_shiftedRow_X1_row : GoodIn wsX1_shiftedRow wsX1_row := goodIn_r _ [6, 7, 8] (by decide +kernel) (by decide +kernel)
set_option maxRecDepth 20000 in
theorem gX1_shiftedRow_X1_row : GoodIn wsX1_shiftedRow (wsV RX1 32 RX1 yX1_row wsX1_row) := goodIn_app (goodIn_of _ (by decide +kernel)) ggX1_shiftedRow_X1_row
theorem dX1_shiftedRow_0 : decode cX1_shiftedRow 0 = .ok (.aload_n 0, 1) := by decide +kernel
theorem dX1_shiftedRow_1 : decode cX1_shiftedRow 1 = .ok (.iload_n 1, 1) := by decide +kernel
theorem dX1_shiftedRow_2 : decode cX1_shiftedRow 2 = .ok (.iload_n 3, 1) := by decide +kernel
theorem dX1_shiftedRow_3 : decode cX1_shiftedRow 3 = .ok (.isub, 1) := by decide +kernel
theorem dX1_shiftedRow_4 : decode cX1_shiftedRow 4 = .ok (.invokevirtual 32, 3) := by decide +kernel
theorem dX1_shiftedRow_7 : decode cX1_shiftedRow 7 = .ok (.istore 4, 2) := by decide +kernel
theorem dX1_shiftedRow_9 : decode cX1_shiftedRow 9 = .ok (.iload_n 2, 1) := by decide +kernel
theorem dX1_shiftedRow_10 : decode cX1_shiftedRow 10 = .ok (.ifCond .lt 13, 3) := by decide +kernel
theorem dX1_shiftedRow_13 : decode cX1_shiftedRow 13 = .ok (.iload 4, 2) := by decide +kernel
theorem dX1_shiftedRow_15 : decode cX1_shiftedRow 15 = .ok (.iload_n 2, 1) := by decide +kernel
theorem dX1_shiftedRow_16 : decode cX1_shiftedRow 16 = .ok (.ishl, 1) := by decide +kernel
theorem dX1_shiftedRow_17 : decode cX1_shiftedRow 17 = .ok (.ldc 21, 2) := by decide +kernel
theorem dX1_shiftedRow_19 : decode cX1_shiftedRow 19 = .ok (.iand, 1) := by decide +kernel
theorem dX1_shiftedRow_20 : decode cX1_shiftedRow 20 = .ok (.goto 8, 3) := by decide +kernel
theorem dX1_shiftedRow_23 : decode cX1_shiftedRow 23 = .ok (.iload 4, 2) := by decide +kernel
theorem dX1_shiftedRow_25 : decode cX1_shiftedRow 25 = .ok (.iload_n 2, 1) := by decide +kernel
theorem dX1_shiftedRow_26 : decode cX1_shiftedRow 26 = .ok (.ineg, 1) := by decide +kernel
theorem dX1_shiftedRow_27 : decode cX1_shiftedRow 27 = .ok (.ishr, 1) := by decide +kernel
theorem dX1_shiftedRow_28 : decode cX1_shiftedRow 28 = .ok (.ireturn, 1) := by decide +kernel
set_option maxRecDepth 20000 in
theorem ggX1_growInto_X1_row : GoodIn wsX1_growInto wsX1_row := goodIn_r _ [6, 1, 7] (by decide +kernel) (by decide +kernel)
set_option maxRecDepth 20000 in
theorem gX1_growInto_X1_row : GoodIn wsX1_growInto (wsV RX1 32 RX1 yX1_row wsX1_row) := goodIn_app (goodIn_of _ (by decide +kernel)) ggX1_growInto_X1_row
theorem dX1_growInto_0 : decode cX1_growInto 0 = .ok (.iconst 0, 1) := by decide +kernel
theorem dX1_growInto_1 : decode cX1_growInto 1 = .ok (.istore_n 2, 1) := by decide +kernel
theorem dX1_growInto_2 : decode cX1_growInto 2 = .ok (.iconst 0, 1) := by decide +kernel
theorem dX1_growInto_3 : decode cX1_growInto 3 = .ok (.istore_n 3, 1) := by decide +kernel
theorem dX1_growInto_4 : decode cX1_growInto 4 = .ok (.iload_n 3, 1) := by decide +kernel
theorem dX1_growInto_5 : decode cX1_growInto 5 = .ok (.bipush 12, 2) := by decide +kernel
theorem dX1_growInto_7 : decode cX1_growInto 7 = .ok (.if_icmp .ge 58, 3) := by decide +kernel
theorem dX1_growInto_10 : decode cX1_growInto 10 = .ok (.aload_n 0, 1) := by decide +kernel
theorem dX1_growInto_11 : decode cX1_growInto 11 = .ok (.getfield 9, 3) := by decide +kernel
theorem dX1_growInto_14 : decode cX1_growInto 14 = .ok (.iload_n 3, 1) := by decide +kernel
theorem dX1_growInto_15 : decode cX1_growInto 15 = .ok (.iaload, 1) := by decide +kernel
theorem dX1_growInto_16 : decode cX1_growInto 16 = .ok (.istore 4, 2) := by decide +kernel
theorem dX1_growInto_18 : decode cX1_growInto 18 = .ok (.iload_n 2, 1) := by decide +kernel
theorem dX1_growInto_19 : decode cX1_growInto 19 = .ok (.aload_n 0, 1) := by decide +kernel
theorem dX1_growInto_20 : decode cX1_growInto 20 = .ok (.iload_n 3, 1) := by decide +kernel
theorem dX1_growInto_21 : decode cX1_growInto 21 = .ok (.iconst 1, 1) := by decide +kernel
theorem dX1_growInto_22 : decode cX1_growInto 22 = .ok (.iadd, 1) := by decide +kernel
theorem dX1_growInto_23 : decode cX1_growInto 23 = .ok (.invokevirtual 32, 3) := by decide +kernel
theorem dX1_growInto_26 : decode cX1_growInto 26 = .ok (.ior, 1) := by decide +kernel
theorem dX1_growInto_27 : decode cX1_growInto 27 = .ok (.iload 4, 2) := by decide +kernel
theorem dX1_growInto_29 : decode cX1_growInto 29 = .ok (.iconst 1, 1) := by decide +kernel
theorem dX1_growInto_30 : decode cX1_growInto 30 = .ok (.ishl, 1) := by decide +kernel
theorem dX1_growInto_31 : decode cX1_growInto 31 = .ok (.ior, 1) := by decide +kernel
theorem dX1_growInto_32 : decode cX1_growInto 32 = .ok (.iload 4, 2) := by decide +kernel
theorem dX1_growInto_34 : decode cX1_growInto 34 = .ok (.iconst 1, 1) := by decide +kernel
theorem dX1_growInto_35 : decode cX1_growInto 35 = .ok (.ishr, 1) := by decide +kernel
theorem dX1_growInto_36 : decode cX1_growInto 36 = .ok (.ior, 1) := by decide +kernel
theorem dX1_growInto_37 : decode cX1_growInto 37 = .ok (.istore 5, 2) := by decide +kernel
theorem dX1_growInto_39 : decode cX1_growInto 39 = .ok (.aload_n 0, 1) := by decide +kernel
theorem dX1_growInto_40 : decode cX1_growInto 40 = .ok (.getfield 9, 3) := by decide +kernel
theorem dX1_growInto_43 : decode cX1_growInto 43 = .ok (.iload_n 3, 1) := by decide +kernel
theorem dX1_growInto_44 : decode cX1_growInto 44 = .ok (.iload 4, 2) := by decide +kernel
theorem dX1_growInto_46 : decode cX1_growInto 46 = .ok (.iload 5, 2) := by decide +kernel
theorem dX1_growInto_48 : decode cX1_growInto 48 = .ok (.aload_n 1, 1) := by decide +kernel
theorem dX1_growInto_49 : decode cX1_growInto 49 = .ok (.iload_n 3, 1) := by decide +kernel
theorem dX1_growInto_50 : decode cX1_growInto 50 = .ok (.invokevirtual 32, 3) := by decide +kernel
theorem dX1_growInto_53 : decode cX1_growInto 53 = .ok (.iand, 1) := by decide +kernel
theorem dX1_growInto_54 : decode cX1_growInto 54 = .ok (.ior, 1) := by decide +kernel
theorem dX1_growInto_55 : decode cX1_growInto 55 = .ok (.iastore, 1) := by decide +kernel
theorem dX1_growInto_56 : decode cX1_growInto 56 = .ok (.iload 4, 2) := by decide +kernel
theorem dX1_growInto_58 : decode cX1_growInto 58 = .ok (.istore_n 2, 1) := by decide +kernel
theorem dX1_growInto_59 : decode cX1_growInto 59 = .ok (.iinc 3 1, 3) := by decide +kernel
theorem dX1_growInto_62 : decode cX1_growInto 62 = .ok (.goto (-58), 3) := by decide +kernel
theorem dX1_growInto_65 : decode cX1_growInto 65 = .ok (.return_, 1) := by decide +kernel
set_option maxRecDepth 20000 in
theorem ggX1_neighbors_X1_has : GoodIn wsX1_neighbors wsX1_has := goodIn_r _ [5, 6, 7, 8, 9, 12] (by decide +kernel) (by decide +kernel)
set_option maxRecDepth 20000 in
theorem gX1_neighbors_X1_has : GoodIn wsX1_neighbors (wsV RX1 35 RX1 yX1_has wsX1_has) := goodIn_app (goodIn_of _ (by decide +kernel)) ggX1_neighbors_X1_has
set_option maxRecDepth 20000 in
theorem ggX1_neighbors_X6_oneIf : GoodIn wsX1_neighbors wsX6_oneIf := goodIn_r _ [11] (by decide +kernel) (by decide +kernel)
set_option maxRecDepth 20000 in
theorem gX1_neighbors_X6_oneIf_n38 : GoodIn wsX1_neighbors (wsX6_oneIf) := ggX1_neighbors_X6_oneIf
theorem dX1_neighbors_0 : decode cX1_neighbors 0 = .ok (.aload_n 0, 1) := by decide +kernel
theorem dX1_neighbors_1 : decode cX1_neighbors 1 = .ok (.iload_n 1, 1) := by decide +kernel
theorem dX1_neighbors_2 : decode cX1_neighbors 2 = .ok (.iconst 1, 1) := by decide +kernel
theorem dX1_neighbors_3 : decode cX1_neighbors 3 = .ok (.isub, 1) := by decide +kernel
theorem dX1_neighbors_4 : decode cX1_neighbors 4 = .ok (.iload_n 2, 1) := by decide +kernel
theorem dX1_neighbors_5 : decode cX1_neighbors 5 = .ok (.invokevirtual 35, 3) := by decide +kernel
theorem dX1_neighbors_8 : decode cX1_neighbors 8 = .ok (.invokestatic 38, 3) := by decide +kernel
theorem dX1_neighbors_11 : decode cX1_neighbors 11 = .ok (.aload_n 0, 1) := by decide +kernel
theorem dX1_neighbors_12 : decode cX1_neighbors 12 = .ok (.iload_n 1, 1) := by decide +kernel
theorem dX1_neighbors_13 : decode cX1_neighbors 13 = .ok (.iconst 1, 1) := by decide +kernel
theorem dX1_neighbors_14 : decode cX1_neighbors 14 = .ok (.iadd, 1) := by decide +kernel
theorem dX1_neighbors_15 : decode cX1_neighbors 15 = .ok (.iload_n 2, 1) := by decide +kernel
theorem dX1_neighbors_16 : decode cX1_neighbors 16 = .ok (.invokevirtual 35, 3) := by decide +kernel
theorem dX1_neighbors_19 : decode cX1_neighbors 19 = .ok (.invokestatic 38, 3) := by decide +kernel
theorem dX1_neighbors_22 : decode cX1_neighbors 22 = .ok (.iadd, 1) := by decide +kernel
theorem dX1_neighbors_23 : decode cX1_neighbors 23 = .ok (.aload_n 0, 1) := by decide +kernel
theorem dX1_neighbors_24 : decode cX1_neighbors 24 = .ok (.iload_n 1, 1) := by decide +kernel
theorem dX1_neighbors_25 : decode cX1_neighbors 25 = .ok (.iload_n 2, 1) := by decide +kernel
theorem dX1_neighbors_26 : decode cX1_neighbors 26 = .ok (.iconst 1, 1) := by decide +kernel
theorem dX1_neighbors_27 : decode cX1_neighbors 27 = .ok (.isub, 1) := by decide +kernel
theorem dX1_neighbors_28 : decode cX1_neighbors 28 = .ok (.invokevirtual 35, 3) := by decide +kernel
theorem dX1_neighbors_31 : decode cX1_neighbors 31 = .ok (.invokestatic 38, 3) := by decide +kernel
theorem dX1_neighbors_34 : decode cX1_neighbors 34 = .ok (.iadd, 1) := by decide +kernel
theorem dX1_neighbors_35 : decode cX1_neighbors 35 = .ok (.aload_n 0, 1) := by decide +kernel
theorem dX1_neighbors_36 : decode cX1_neighbors 36 = .ok (.iload_n 1, 1) := by decide +kernel
theorem dX1_neighbors_37 : decode cX1_neighbors 37 = .ok (.iload_n 2, 1) := by decide +kernel
theorem dX1_neighbors_38 : decode cX1_neighbors 38 = .ok (.iconst 1, 1) := by decide +kernel
theorem dX1_neighbors_39 : decode cX1_neighbors 39 = .ok (.iadd, 1) := by decide +kernel
theorem dX1_neighbors_40 : decode cX1_neighbors 40 = .ok (.invokevirtual 35, 3) := by decide +kernel
theorem dX1_neighbors_43 : decode cX1_neighbors 43 = .ok (.invokestatic 38, 3) := by decide +kernel
theorem dX1_neighbors_46 : decode cX1_neighbors 46 = .ok (.iadd, 1) := by decide +kernel
theorem dX1_neighbors_47 : decode cX1_neighbors 47 = .ok (.ireturn, 1) := by decide +kernel
set_option maxRecDepth 20000 in
theorem ggX2_init_X5_init : GoodIn wsX2_init wsX5_init := goodIn_r _ [12, 13, 2, 3, 14, 15, 16, 17, 18, 19, 20, 21, 22, 23, 24, 25, 26, 27, 28, 29, 30, 31, 32, 33, 34, 35, 36, 37, 38, 39, 40, 41, 42, 43, 44, 45, 46, 47, 48, 49, 50, 51, 52, 53, 54, 55, 56, 57, 58, 72, 73, 74, 75, 76, 62, 63, 64, 65, 66, 67, 68, 69, 70, 71, 77, 78, 79, 80] (by decide +kernel) (by decide +kernel)
set_option maxRecDepth 20000 in
theorem gX2_init_X5_init : GoodIn wsX2_init (wsX5_init) := ggX2_init_X5_init
theorem dX2_init_0 : decode cX2_init 0 = .ok (.aload_n 0, 1) := by decide +kernel
theorem dX2_init_1 : decode cX2_init 1 = .ok (.invokespecial 3, 3) := by decide +kernel
theorem dX2_init_4 : decode cX2_init 4 = .ok (.aload_n 0, 1) := by decide +kernel
theorem dX2_init_5 : decode cX2_init 5 = .ok (.iconst 5, 1) := by decide +kernel
theorem dX2_init_6 : decode cX2_init 6 = .ok (.anewarray 9, 3) := by decide +kernel
theorem dX2_init_9 : decode cX2_init 9 = .ok (.putfield 11, 3) := by decide +kernel
theorem dX2_init_12 : decode cX2_init 12 = .ok (.iconst 0, 1) := by decide +kernel
theorem dX2_init_13 : decode cX2_init 13 = .ok (.istore_n 1, 1) := by decide +kernel
theorem dX2_init_14 : decode cX2_init 14 = .ok (.iload_n 1, 1) := by decide +kernel
theorem dX2_init_15 : decode cX2_init 15 = .ok (.iconst 5, 1) := by decide +kernel
theorem dX2_init_16 : decode cX2_init 16 = .ok (.if_icmp .ge 22, 3) := by decide +kernel
theorem dX2_init_19 : decode cX2_init 19 = .ok (.aload_n 0, 1) := by decide +kernel
theorem dX2_init_20 : decode cX2_init 20 = .ok (.getfield 11, 3) := by decide +kernel
theorem dX2_init_23 : decode cX2_init 23 = .ok (.iload_n 1, 1) := by decide +kernel
theorem dX2_init_24 : decode cX2_init 24 = .ok (.new 9, 3) := by decide +kernel
theorem dX2_init_27 : decode cX2_init 27 = .ok (.dup, 1) := by decide +kernel
theorem dX2_init_28 : decode cX2_init 28 = .ok (.invokespecial 17, 3) := by decide +kernel
theorem dX2_init_31 : decode cX2_init 31 = .ok (.aastore, 1) := by decide +kernel
theorem dX2_init_32 : decode cX2_init 32 = .ok (.iinc 1 1, 3) := by decide +kernel
theorem dX2_init_35 : decode cX2_init 35 = .ok (.goto (-21), 3) := by decide +kernel
theorem dX2_init_38 : decode cX2_init 38 = .ok (.aload_n 0, 1) := by decide +kernel
theorem dX2_init_39 : decode cX2_init 39 = .ok (.iconst 0, 1) := by decide +kernel
theorem dX2_init_40 : decode cX2_init 40 = .ok (.putfield 18, 3) := by decide +kernel
theorem dX2_init_43 : decode cX2_init 43 = .ok (.aload_n 0, 1) := by decide +kernel
theorem dX2_init_44 : decode cX2_init 44 = .ok (.iconst 0, 1) := by decide +kernel
theorem dX2_init_45 : decode cX2_init 45 = .ok (.putfield 22, 3) := by decide +kernel
theorem dX2_init_48 : decode cX2_init 48 = .ok (.return_, 1) := by decide +kernel
theorem dX2_size_0 : decode cX2_size 0 = .ok (.aload_n 0, 1) := by decide +kernel
theorem dX2_size_1 : decode cX2_size 1 = .ok (.getfield 18, 3) := by decide +kernel
theorem dX2_size_4 : decode cX2_size 4 = .ok (.ireturn, 1) := by decide +kernel
set_option maxRecDepth 20000 in
theorem ggX2_keep_X5_becomeLike : GoodIn wsX2_keep wsX5_becomeLike := goodIn_r _ [12, 13, 14, 15, 16, 17, 18, 19, 20, 21, 22, 23, 24, 25, 26, 27, 28, 29, 30, 31, 32, 33, 34, 35, 36, 37, 38, 39, 40, 41, 42, 43, 44, 45, 46, 47, 48, 49, 50, 51, 52, 53, 57, 58, 59, 60, 61, 62, 63, 64, 65, 66, 67, 68, 69, 70, 71, 72, 73, 74, 75] (by decide +kernel) (by decide +kernel)
set_option maxRecDepth 20000 in
theorem gX2_keep_X5_becomeLike : GoodIn wsX2_keep (wsV RX2 25 RX5 yX5_becomeLike wsX5_becomeLike) := goodIn_app (goodIn_of _ (by decide +kernel)) ggX2_keep_X5_becomeLike
theorem dX2_keep_0 : decode cX2_keep 0 = .ok (.aload_n 0, 1) := by decide +kernel
theorem dX2_keep_1 : decode cX2_keep 1 = .ok (.getfield 11, 3) := by decide +kernel
theorem dX2_keep_4 : decode cX2_keep 4 = .ok (.aload_n 0, 1) := by decide +kernel
theorem dX2_keep_5 : decode cX2_keep 5 = .ok (.getfield 22, 3) := by decide +kernel
theorem dX2_keep_8 : decode cX2_keep 8 = .ok (.aaload, 1) := by decide +kernel
theorem dX2_keep_9 : decode cX2_keep 9 = .ok (.astore_n 2, 1) := by decide +kernel
theorem dX2_keep_10 : decode cX2_keep 10 = .ok (.aload_n 2, 1) := by decide +kernel
theorem dX2_keep_11 : decode cX2_keep 11 = .ok (.ifnull 8, 3) := by decide +kernel
theorem dX2_keep_14 : decode cX2_keep 14 = .ok (.aload_n 2, 1) := by decide +kernel
theorem dX2_keep_15 : decode cX2_keep 15 = .ok (.aload_n 1, 1) := by decide +kernel
theorem dX2_keep_16 : decode cX2_keep 16 = .ok (.invokevirtual 25, 3) := by decide +kernel
theorem dX2_keep_19 : decode cX2_keep 19 = .ok (.aload_n 0, 1) := by decide +kernel
theorem dX2_keep_20 : decode cX2_keep 20 = .ok (.aload_n 0, 1) := by decide +kernel
theorem dX2_keep_21 : decode cX2_keep 21 = .ok (.getfield 22, 3) := by decide +kernel
theorem dX2_keep_24 : decode cX2_keep 24 = .ok (.iconst 1, 1) := by decide +kernel
theorem dX2_keep_25 : decode cX2_keep 25 = .ok (.iadd, 1) := by decide +kernel
theorem dX2_keep_26 : decode cX2_keep 26 = .ok (.iconst 5, 1) := by decide +kernel
theorem dX2_keep_27 : decode cX2_keep 27 = .ok (.irem, 1) := by decide +kernel
theorem dX2_keep_28 : decode cX2_keep 28 = .ok (.putfield 22, 3) := by decide +kernel
theorem dX2_keep_31 : decode cX2_keep 31 = .ok (.aload_n 0, 1) := by decide +kernel
theorem dX2_keep_32 : decode cX2_keep 32 = .ok (.aload_n 0, 1) := by decide +kernel
theorem dX2_keep_33 : decode cX2_keep 33 = .ok (.getfield 18, 3) := by decide +kernel
theorem dX2_keep_36 : decode cX2_keep 36 = .ok (.iconst 1, 1) := by decide +kernel
theorem dX2_keep_37 : decode cX2_keep 37 = .ok (.iadd, 1) := by decide +kernel
theorem dX2_keep_38 : decode cX2_keep 38 = .ok (.iconst 5, 1) := by decide +kernel
theorem dX2_keep_39 : decode cX2_keep 39 = .ok (.invokestatic 29, 3) := by decide +kernel
theorem dX2_keep_42 : decode cX2_keep 42 = .ok (.putfield 18, 3) := by decide +kernel
theorem dX2_keep_45 : decode cX2_keep 45 = .ok (.return_, 1) := by decide +kernel
