set_option maxRecDepth 20000 in
theorem ggX6_init_X5_init : GoodIn wsX6_init wsX5_init := goodIn_r _ [23, 24, 2, 3, 25, 26, 27, 28, 29, 30, 31, 32, 33, 34, 35, 36, 37, 38, 39, 40, 41, 42, 43, 44, 45, 46, 47, 48, 49, 50, 17, 18, 51, 52, 53, 54, 55, 56, 57, 58, 59, 60, 61, 62, 63, 64, 65, 66, 67, 115, 116, 117, 118, 119, 90, 91, 92, 93, 94, 95, 96, 97, 98, 99, 120, 121, 122, 114] (by decide +kernel) (by decide +kernel)
set_option maxRecDepth 20000 in
theorem gX6_init_X5_init : GoodIn wsX6_init (wsX5_init) := ggX6_init_X5_init
set_option maxRecDepth 20000 in
theorem ggX6_init_X2_init : GoodIn wsX6_init wsX2_init := goodIn_r _ [70, 71, 2, 3, 72, 73, 5, 6, 74, 75, 76, 22, 23, 24, 25, 26, 27, 28, 29, 30, 31, 32, 33, 34, 35, 36, 37, 38, 39, 40, 41, 42, 43, 44, 45, 46, 47, 48, 49, 50, 17, 18, 51, 52, 53, 54, 55, 56, 57, 58, 59, 60, 61, 62, 63, 64, 65, 66, 67, 105, 106, 107, 90, 91, 92, 93, 94, 95, 96, 97, 98, 99, 115, 116, 117, 118, 119, 120, 121, 122, 114] (by decide +kernel) (by decide +kernel)
set_option maxRecDepth 20000 in
theorem gX6_init_X2_init : GoodIn wsX6_init (wsX2_init) := ggX6_init_X2_init
set_option maxRecDepth 20000 in
theorem ggX6_init_X4_init : GoodIn wsX6_init wsX4_init := goodIn_r _ [79, 80, 2, 3, 29, 81, 82, 83, 84, 85, 17, 18, 86, 87, 88, 57, 58, 59, 60, 108, 109, 110, 111, 112, 113, 114] (by decide +kernel) (by decide +kernel)
set_option maxRecDepth 20000 in
theorem gX6_init_X4_init : GoodIn wsX6_init (wsX4_init) := ggX6_init_X4_init
set_option maxRecDepth 20000 in
theorem ggX6_init_X1_init : GoodIn wsX6_init wsX1_init := goodIn_r _ [58, 59, 2, 3, 29, 60, 114] (by decide +kernel) (by decide +kernel)
set_option maxRecDepth 20000 in
theorem gX6_init_X1_init : GoodIn wsX6_init (wsX1_init) := ggX6_init_X1_init
theorem dX6_init_0 : decode cX6_init 0 = .ok (.aload_n 0, 1) := by decide +kernel
theorem dX6_init_1 : decode cX6_init 1 = .ok (.invokespecial 1, 3) := by decide +kernel
theorem dX6_init_4 : decode cX6_init 4 = .ok (.aload_n 0, 1) := by decide +kernel
theorem dX6_init_5 : decode cX6_init 5 = .ok (.new 7, 3) := by decide +kernel
theorem dX6_init_8 : decode cX6_init 8 = .ok (.dup, 1) := by decide +kernel
theorem dX6_init_9 : decode cX6_init 9 = .ok (.invokespecial 9, 3) := by decide +kernel
theorem dX6_init_12 : decode cX6_init 12 = .ok (.putfield 10, 3) := by decide +kernel
theorem dX6_init_15 : decode cX6_init 15 = .ok (.aload_n 0, 1) := by decide +kernel
theorem dX6_init_16 : decode cX6_init 16 = .ok (.new 16, 3) := by decide +kernel
theorem dX6_init_19 : decode cX6_init 19 = .ok (.dup, 1) := by decide +kernel
theorem dX6_init_20 : decode cX6_init 20 = .ok (.invokespecial 18, 3) := by decide +kernel
theorem dX6_init_23 : decode cX6_init 23 = .ok (.putfield 19, 3) := by decide +kernel
theorem dX6_init_26 : decode cX6_init 26 = .ok (.aload_n 0, 1) := by decide +kernel
theorem dX6_init_27 : decode cX6_init 27 = .ok (.new 23, 3) := by decide +kernel
theorem dX6_init_30 : decode cX6_init 30 = .ok (.dup, 1) := by decide +kernel
theorem dX6_init_31 : decode cX6_init 31 = .ok (.invokespecial 25, 3) := by decide +kernel
theorem dX6_init_34 : decode cX6_init 34 = .ok (.putfield 26, 3) := by decide +kernel
theorem dX6_init_37 : decode cX6_init 37 = .ok (.aload_n 0, 1) := by decide +kernel
theorem dX6_init_38 : decode cX6_init 38 = .ok (.new 30, 3) := by decide +kernel
theorem dX6_init_41 : decode cX6_init 41 = .ok (.dup, 1) := by decide +kernel
theorem dX6_init_42 : decode cX6_init 42 = .ok (.invokespecial 32, 3) := by decide +kernel
theorem dX6_init_45 : decode cX6_init 45 = .ok (.putfield 33, 3) := by decide +kernel
theorem dX6_init_48 : decode cX6_init 48 = .ok (.aload_n 0, 1) := by decide +kernel
theorem dX6_init_49 : decode cX6_init 49 = .ok (.new 30, 3) := by decide +kernel
theorem dX6_init_52 : decode cX6_init 52 = .ok (.dup, 1) := by decide +kernel
theorem dX6_init_53 : decode cX6_init 53 = .ok (.invokespecial 32, 3) := by decide +kernel
theorem dX6_init_56 : decode cX6_init 56 = .ok (.putfield 37, 3) := by decide +kernel
theorem dX6_init_59 : decode cX6_init 59 = .ok (.return_, 1) := by decide +kernel
set_option maxRecDepth 20000 in
theorem ggX6_paint_X6_isPlace : GoodIn wsX6_paint wsX6_isPlace := goodIn_r _ [7] (by decide +kernel) (by decide +kernel)
set_option maxRecDepth 20000 in
theorem gX6_paint_X6_isPlace : GoodIn wsX6_paint (va_wsS RX6 40 yX6_isPlace wsX6_isPlace) := goodIn_app (goodIn_of _ (by decide +kernel)) ggX6_paint_X6_isPlace
set_option maxRecDepth 20000 in
theorem ggX6_paint_X6_isWithin : GoodIn wsX6_paint wsX6_isWithin := goodIn_r _ [10] (by decide +kernel) (by decide +kernel)
set_option maxRecDepth 20000 in
theorem gX6_paint_X6_isWithin : GoodIn wsX6_paint (va_wsS RX6 44 yX6_isWithin wsX6_isWithin) := goodIn_app (goodIn_of _ (by decide +kernel)) ggX6_paint_X6_isWithin
set_option maxRecDepth 20000 in
theorem ggX6_paint_X2_keep : GoodIn wsX6_paint wsX2_keep := goodIn_r _ [15, 16, 17, 18, 19, 20, 21, 22, 23, 24, 25, 26, 27, 28, 29, 30, 31, 32, 33, 34, 35, 36, 37, 38, 39, 40, 41, 42, 43, 44, 45, 46, 47, 48, 49, 50, 51, 52, 53, 54, 55, 56, 57, 58, 59, 60, 61, 62, 63, 64, 65, 66, 67, 68, 102, 103, 104, 92, 93, 94, 95, 96, 97, 98, 99, 100, 101, 105, 106, 107, 108, 109, 110, 111, 112, 113] (by decide +kernel) (by decide +kernel)
set_option maxRecDepth 20000 in
theorem gX6_paint_X2_keep : GoodIn wsX6_paint (wsV RX6 48 RX2 yX2_keep wsX2_keep) := goodIn_app (goodIn_of _ (by decide +kernel)) ggX6_paint_X2_keep
set_option maxRecDepth 20000 in
theorem ggX6_paint_X0_fillArea : GoodIn wsX6_paint wsX0_fillArea := goodIn_r _ [72, 47, 48, 73, 74, 75, 45, 76, 77, 78, 79, 56, 80, 58, 5, 6, 7, 81, 82, 83, 84, 85, 86, 105, 106, 107, 108, 109, 110] (by decide +kernel) (by decide +kernel)
set_option maxRecDepth 20000 in
theorem gX6_paint_X0_fillArea : GoodIn wsX6_paint (wsV RX6 56 RX0 yX0_fillArea wsX0_fillArea) := goodIn_app (goodIn_of _ (by decide +kernel)) ggX6_paint_X0_fillArea
theorem dX6_paint_0 : decode cX6_paint 0 = .ok (.iload_n 1, 1) := by decide +kernel
theorem dX6_paint_1 : decode cX6_paint 1 = .ok (.iload_n 2, 1) := by decide +kernel
theorem dX6_paint_2 : decode cX6_paint 2 = .ok (.invokestatic 40, 3) := by decide +kernel
theorem dX6_paint_5 : decode cX6_paint 5 = .ok (.ifCond .eq 38, 3) := by decide +kernel
theorem dX6_paint_8 : decode cX6_paint 8 = .ok (.iload_n 3, 1) := by decide +kernel
theorem dX6_paint_9 : decode cX6_paint 9 = .ok (.iconst 1, 1) := by decide +kernel
theorem dX6_paint_10 : decode cX6_paint 10 = .ok (.bipush 16, 2) := by decide +kernel
theorem dX6_paint_12 : decode cX6_paint 12 = .ok (.iload_n 1, 1) := by decide +kernel
theorem dX6_paint_13 : decode cX6_paint 13 = .ok (.isub, 1) := by decide +kernel
theorem dX6_paint_14 : decode cX6_paint 14 = .ok (.invokestatic 44, 3) := by decide +kernel
theorem dX6_paint_17 : decode cX6_paint 17 = .ok (.ifCond .eq 26, 3) := by decide +kernel
theorem dX6_paint_20 : decode cX6_paint 20 = .ok (.iload 4, 2) := by decide +kernel
theorem dX6_paint_22 : decode cX6_paint 22 = .ok (.iconst 1, 1) := by decide +kernel
theorem dX6_paint_23 : decode cX6_paint 23 = .ok (.bipush 12, 2) := by decide +kernel
theorem dX6_paint_25 : decode cX6_paint 25 = .ok (.iload_n 2, 1) := by decide +kernel
theorem dX6_paint_26 : decode cX6_paint 26 = .ok (.isub, 1) := by decide +kernel
theorem dX6_paint_27 : decode cX6_paint 27 = .ok (.invokestatic 44, 3) := by decide +kernel
theorem dX6_paint_30 : decode cX6_paint 30 = .ok (.ifCond .eq 13, 3) := by decide +kernel
theorem dX6_paint_33 : decode cX6_paint 33 = .ok (.iload 5, 2) := by decide +kernel
theorem dX6_paint_35 : decode cX6_paint 35 = .ok (.iconst 0, 1) := by decide +kernel
theorem dX6_paint_36 : decode cX6_paint 36 = .ok (.iconst 2, 1) := by decide +kernel
theorem dX6_paint_37 : decode cX6_paint 37 = .ok (.invokestatic 44, 3) := by decide +kernel
theorem dX6_paint_40 : decode cX6_paint 40 = .ok (.ifCond .ne 7, 3) := by decide +kernel
theorem dX6_paint_43 : decode cX6_paint 43 = .ok (.sipush (-1001), 3) := by decide +kernel
theorem dX6_paint_46 : decode cX6_paint 46 = .ok (.ireturn, 1) := by decide +kernel
theorem dX6_paint_47 : decode cX6_paint 47 = .ok (.aload_n 0, 1) := by decide +kernel
theorem dX6_paint_48 : decode cX6_paint 48 = .ok (.getfield 19, 3) := by decide +kernel
theorem dX6_paint_51 : decode cX6_paint 51 = .ok (.aload_n 0, 1) := by decide +kernel
theorem dX6_paint_52 : decode cX6_paint 52 = .ok (.getfield 10, 3) := by decide +kernel
theorem dX6_paint_55 : decode cX6_paint 55 = .ok (.invokevirtual 48, 3) := by decide +kernel
theorem dX6_paint_58 : decode cX6_paint 58 = .ok (.aload_n 0, 1) := by decide +kernel
theorem dX6_paint_59 : decode cX6_paint 59 = .ok (.getfield 10, 3) := by decide +kernel
theorem dX6_paint_62 : decode cX6_paint 62 = .ok (.getfield 52, 3) := by decide +kernel
theorem dX6_paint_65 : decode cX6_paint 65 = .ok (.iload_n 1, 1) := by decide +kernel
theorem dX6_paint_66 : decode cX6_paint 66 = .ok (.iload_n 2, 1) := by decide +kernel
theorem dX6_paint_67 : decode cX6_paint 67 = .ok (.iload_n 3, 1) := by decide +kernel
theorem dX6_paint_68 : decode cX6_paint 68 = .ok (.iload 4, 2) := by decide +kernel
theorem dX6_paint_70 : decode cX6_paint 70 = .ok (.iload 5, 2) := by decide +kernel
theorem dX6_paint_72 : decode cX6_paint 72 = .ok (.invokevirtual 56, 3) := by decide +kernel
theorem dX6_paint_75 : decode cX6_paint 75 = .ok (.ireturn, 1) := by decide +kernel
set_option maxRecDepth 20000 in
theorem ggX6_cut_X6_isWithin : GoodIn wsX6_cut wsX6_isWithin := goodIn_r _ [8] (by decide +kernel) (by decide +kernel)
set_option maxRecDepth 20000 in
theorem gX6_cut_X6_isWithin : GoodIn wsX6_cut (va_wsS RX6 44 yX6_isWithin wsX6_isWithin) := goodIn_app (goodIn_of _ (by decide +kernel)) ggX6_cut_X6_isWithin
set_option maxRecDepth 20000 in
theorem ggX6_cut_X2_keep : GoodIn wsX6_cut wsX2_keep := goodIn_r _ [13, 14, 15, 16, 17, 18, 19, 20, 21, 22, 23, 24, 25, 26, 27, 28, 29, 30, 31, 32, 33, 34, 35, 36, 37, 38, 39, 40, 41, 42, 43, 44, 45, 46, 47, 48, 49, 50, 51, 52, 53, 54, 55, 56, 57, 58, 59, 60, 61, 62, 63, 64, 65, 66, 118, 119, 120, 103, 104, 105, 106, 107, 108, 109, 110, 111, 112, 113, 114, 115, 116, 117, 121, 122, 123, 124] (by decide +kernel) (by decide +kernel)
set_option maxRecDepth 20000 in
theorem gX6_cut_X2_keep : GoodIn wsX6_cut (wsV RX6 48 RX2 yX2_keep wsX2_keep) := goodIn_app (goodIn_of _ (by decide +kernel)) ggX6_cut_X2_keep
set_option maxRecDepth 20000 in
theorem ggX6_cut_X0_cutAnew : GoodIn wsX6_cut wsX0_cutAnew := goodIn_r _ [70, 47, 46, 49, 48, 51, 52, 53, 54, 55, 56, 57, 29, 30, 31, 71, 72, 73, 74, 75, 76, 77, 43, 78, 45, 79, 80, 81, 82, 83, 84, 85, 86, 113, 114, 115, 116, 117, 121] (by decide +kernel) (by decide +kernel)
set_option maxRecDepth 20000 in
theorem gX6_cut_X0_cutAnew : GoodIn wsX6_cut (wsV RX6 62 RX0 yX0_cutAnew wsX0_cutAnew) := goodIn_app (goodIn_of _ (by decide +kernel)) ggX6_cut_X0_cutAnew
set_option maxRecDepth 20000 in
theorem ggX6_cut_X1_size : GoodIn wsX6_cut wsX1_size := goodIn_r _ [90, 56, 91, 92, 93, 94, 95, 96, 97, 121] (by decide +kernel) (by decide +kernel)
set_option maxRecDepth 20000 in
theorem gX6_cut_X1_size : GoodIn wsX6_cut (wsV RX6 69 RX1 yX1_size wsX1_size) := goodIn_app (goodIn_of _ (by decide +kernel)) ggX6_cut_X1_size
theorem dX6_cut_0 : decode cX6_cut 0 = .ok (.iload_n 1, 1) := by decide +kernel
theorem dX6_cut_1 : decode cX6_cut 1 = .ok (.iconst 0, 1) := by decide +kernel
theorem dX6_cut_2 : decode cX6_cut 2 = .ok (.iconst 4, 1) := by decide +kernel
theorem dX6_cut_3 : decode cX6_cut 3 = .ok (.invokestatic 44, 3) := by decide +kernel
theorem dX6_cut_6 : decode cX6_cut 6 = .ok (.ifCond .ne 7, 3) := by decide +kernel
theorem dX6_cut_9 : decode cX6_cut 9 = .ok (.sipush (-1001), 3) := by decide +kernel
theorem dX6_cut_12 : decode cX6_cut 12 = .ok (.ireturn, 1) := by decide +kernel
theorem dX6_cut_13 : decode cX6_cut 13 = .ok (.aload_n 0, 1) := by decide +kernel
theorem dX6_cut_14 : decode cX6_cut 14 = .ok (.getfield 19, 3) := by decide +kernel
theorem dX6_cut_17 : decode cX6_cut 17 = .ok (.aload_n 0, 1) := by decide +kernel
theorem dX6_cut_18 : decode cX6_cut 18 = .ok (.getfield 10, 3) := by decide +kernel
theorem dX6_cut_21 : decode cX6_cut 21 = .ok (.invokevirtual 48, 3) := by decide +kernel
theorem dX6_cut_24 : decode cX6_cut 24 = .ok (.aload_n 0, 1) := by decide +kernel
theorem dX6_cut_25 : decode cX6_cut 25 = .ok (.getfield 10, 3) := by decide +kernel
theorem dX6_cut_28 : decode cX6_cut 28 = .ok (.getfield 52, 3) := by decide +kernel
theorem dX6_cut_31 : decode cX6_cut 31 = .ok (.iload_n 1, 1) := by decide +kernel
theorem dX6_cut_32 : decode cX6_cut 32 = .ok (.invokevirtual 62, 3) := by decide +kernel
theorem dX6_cut_35 : decode cX6_cut 35 = .ok (.aload_n 0, 1) := by decide +kernel
theorem dX6_cut_36 : decode cX6_cut 36 = .ok (.getfield 10, 3) := by decide +kernel
theorem dX6_cut_39 : decode cX6_cut 39 = .ok (.getfield 52, 3) := by decide +kernel
theorem dX6_cut_42 : decode cX6_cut 42 = .ok (.getfield 66, 3) := by decide +kernel
theorem dX6_cut_45 : decode cX6_cut 45 = .ok (.invokevirtual 69, 3) := by decide +kernel
theorem dX6_cut_48 : decode cX6_cut 48 = .ok (.ireturn, 1) := by decide +kernel
set_option maxRecDepth 20000 in
theorem ggX6_carve_X6_isWithin : GoodIn wsX6_carve wsX6_isWithin := goodIn_r _ [9] (by decide +kernel) (by decide +kernel)
set_option maxRecDepth 20000 in
theorem gX6_carve_X6_isWithin : GoodIn wsX6_carve (va_wsS RX6 44 yX6_isWithin wsX6_isWithin) := goodIn_app (goodIn_of _ (by decide +kernel)) ggX6_carve_X6_isWithin
set_option maxRecDepth 20000 in
theorem ggX6_carve_X6_isPlace : GoodIn wsX6_carve wsX6_isPlace := goodIn_r _ [12] (by decide +kernel) (by decide +kernel)
set_option maxRecDepth 20000 in
theorem gX6_carve_X6_isPlace : GoodIn wsX6_carve (va_wsS RX6 40 yX6_isPlace wsX6_isPlace) := goodIn_app (goodIn_of _ (by decide +kernel)) ggX6_carve_X6_isPlace
set_option maxRecDepth 20000 in
theorem ggX6_carve_X2_keep : GoodIn wsX6_carve wsX2_keep := goodIn_r _ [17, 18, 19, 20, 21, 22, 23, 24, 25, 26, 27, 28, 29, 30, 31, 32, 33, 34, 35, 36, 37, 38, 39, 40, 41, 42, 43, 44, 45, 46, 47, 48, 49, 50, 51, 52, 53, 54, 55, 56, 57, 58, 59, 60, 61, 62, 63, 64, 65, 66, 67, 68, 69, 70, 106, 107, 108, 91, 92, 93, 94, 95, 96, 97, 98, 99, 100, 101, 102, 103, 104, 105, 109, 110, 111, 112] (by decide +kernel) (by decide +kernel)
set_option maxRecDepth 20000 in
theorem gX6_carve_X2_keep : GoodIn wsX6_carve (wsV RX6 48 RX2 yX2_keep wsX2_keep) := goodIn_app (goodIn_of _ (by decide +kernel)) ggX6_carve_X2_keep
set_option maxRecDepth 20000 in
theorem ggX6_carve_X1_has : GoodIn wsX6_carve wsX1_has := goodIn_r _ [74, 60, 11, 8, 12, 109] (by decide +kernel) (by decide +kernel)
set_option maxRecDepth 20000 in
theorem gX6_carve_X1_has : GoodIn wsX6_carve (wsV RX6 76 RX1 yX1_has wsX1_has) := goodIn_app (goodIn_of _ (by decide +kernel)) ggX6_carve_X1_has
set_option maxRecDepth 20000 in
theorem ggX6_carve_X6_oneIf : GoodIn wsX6_carve wsX6_oneIf := goodIn_r _ [77] (by decide +kernel) (by decide +kernel)
set_option maxRecDepth 20000 in
theorem gX6_carve_X6_oneIf : GoodIn wsX6_carve (va_wsS RX6 79 yX6_oneIf wsX6_oneIf) := goodIn_app (goodIn_of _ (by decide +kernel)) ggX6_carve_X6_oneIf
set_option maxRecDepth 20000 in
theorem ggX6_carve_X1_put : GoodIn wsX6_carve wsX1_put := goodIn_r _ [81, 60, 11, 8, 12, 109] (by decide +kernel) (by decide +kernel)
set_option maxRecDepth 20000 in
theorem gX6_carve_X1_put : GoodIn wsX6_carve (wsV RX6 83 RX1 yX1_put wsX1_put) := goodIn_app (goodIn_of _ (by decide +kernel)) ggX6_carve_X1_put
set_option maxRecDepth 20000 in
theorem ggX6_carve_X0_clearWear : GoodIn wsX6_carve wsX0_clearWear := goodIn_r _ [85, 53, 11, 8, 12, 101, 102, 103, 104, 105] (by decide +kernel) (by decide +kernel)
set_option maxRecDepth 20000 in
theorem gX6_carve_X0_clearWear : GoodIn wsX6_carve (wsV RX6 87 RX0 yX0_clearWear wsX0_clearWear) := goodIn_app (goodIn_of _ (by decide +kernel)) ggX6_carve_X0_clearWear
theorem dX6_carve_0 : decode cX6_carve 0 = .ok (.iload_n 1, 1) := by decide +kernel
theorem dX6_carve_1 : decode cX6_carve 1 = .ok (.iconst 0, 1) := by decide +kernel
theorem dX6_carve_2 : decode cX6_carve 2 = .ok (.iconst 1, 1) := by decide +kernel
theorem dX6_carve_3 : decode cX6_carve 3 = .ok (.invokestatic 44, 3) := by decide +kernel
theorem dX6_carve_6 : decode cX6_carve 6 = .ok (.ifCond .eq 21, 3) := by decide +kernel
theorem dX6_carve_9 : decode cX6_carve 9 = .ok (.iload_n 2, 1) := by decide +kernel
theorem dX6_carve_10 : decode cX6_carve 10 = .ok (.iload_n 3, 1) := by decide +kernel
theorem dX6_carve_11 : decode cX6_carve 11 = .ok (.invokestatic 40, 3) := by decide +kernel
theorem dX6_carve_14 : decode cX6_carve 14 = .ok (.ifCond .eq 13, 3) := by decide +kernel
theorem dX6_carve_17 : decode cX6_carve 17 = .ok (.iload 4, 2) := by decide +kernel
theorem dX6_carve_19 : decode cX6_carve 19 = .ok (.iconst 0, 1) := by decide +kernel
theorem dX6_carve_20 : decode cX6_carve 20 = .ok (.iconst 1, 1) := by decide +kernel
theorem dX6_carve_21 : decode cX6_carve 21 = .ok (.invokestatic 44, 3) := by decide +kernel
theorem dX6_carve_24 : decode cX6_carve 24 = .ok (.ifCond .ne 7, 3) := by decide +kernel
theorem dX6_carve_27 : decode cX6_carve 27 = .ok (.sipush (-1001), 3) := by decide +kernel
theorem dX6_carve_30 : decode cX6_carve 30 = .ok (.ireturn, 1) := by decide +kernel
theorem dX6_carve_31 : decode cX6_carve 31 = .ok (.aload_n 0, 1) := by decide +kernel
theorem dX6_carve_32 : decode cX6_carve 32 = .ok (.getfield 19, 3) := by decide +kernel
theorem dX6_carve_35 : decode cX6_carve 35 = .ok (.aload_n 0, 1) := by decide +kernel
theorem dX6_carve_36 : decode cX6_carve 36 = .ok (.getfield 10, 3) := by decide +kernel
theorem dX6_carve_39 : decode cX6_carve 39 = .ok (.invokevirtual 48, 3) := by decide +kernel
theorem dX6_carve_42 : decode cX6_carve 42 = .ok (.iload_n 1, 1) := by decide +kernel
theorem dX6_carve_43 : decode cX6_carve 43 = .ok (.ifCond .ne 16, 3) := by decide +kernel
theorem dX6_carve_46 : decode cX6_carve 46 = .ok (.aload_n 0, 1) := by decide +kernel
theorem dX6_carve_47 : decode cX6_carve 47 = .ok (.getfield 10, 3) := by decide +kernel
theorem dX6_carve_50 : decode cX6_carve 50 = .ok (.getfield 52, 3) := by decide +kernel
theorem dX6_carve_53 : decode cX6_carve 53 = .ok (.getfield 73, 3) := by decide +kernel
theorem dX6_carve_56 : decode cX6_carve 56 = .ok (.goto 13, 3) := by decide +kernel
theorem dX6_carve_59 : decode cX6_carve 59 = .ok (.aload_n 0, 1) := by decide +kernel
theorem dX6_carve_60 : decode cX6_carve 60 = .ok (.getfield 10, 3) := by decide +kernel
theorem dX6_carve_63 : decode cX6_carve 63 = .ok (.getfield 52, 3) := by decide +kernel
theorem dX6_carve_66 : decode cX6_carve 66 = .ok (.getfield 66, 3) := by decide +kernel
theorem dX6_carve_69 : decode cX6_carve 69 = .ok (.astore 5, 2) := by decide +kernel
theorem dX6_carve_71 : decode cX6_carve 71 = .ok (.aload 5, 2) := by decide +kernel
theorem dX6_carve_73 : decode cX6_carve 73 = .ok (.iload_n 2, 1) := by decide +kernel
theorem dX6_carve_74 : decode cX6_carve 74 = .ok (.iload_n 3, 1) := by decide +kernel
theorem dX6_carve_75 : decode cX6_carve 75 = .ok (.invokevirtual 76, 3) := by decide +kernel
theorem dX6_carve_78 : decode cX6_carve 78 = .ok (.invokestatic 79, 3) := by decide +kernel
theorem dX6_carve_81 : decode cX6_carve 81 = .ok (.istore 6, 2) := by decide +kernel
theorem dX6_carve_83 : decode cX6_carve 83 = .ok (.aload 5, 2) := by decide +kernel
theorem dX6_carve_85 : decode cX6_carve 85 = .ok (.iload_n 2, 1) := by decide +kernel
theorem dX6_carve_86 : decode cX6_carve 86 = .ok (.iload_n 3, 1) := by decide +kernel
theorem dX6_carve_87 : decode cX6_carve 87 = .ok (.iload 4, 2) := by decide +kernel
theorem dX6_carve_89 : decode cX6_carve 89 = .ok (.iconst 1, 1) := by decide +kernel
theorem dX6_carve_90 : decode cX6_carve 90 = .ok (.if_icmp .ne 7, 3) := by decide +kernel
theorem dX6_carve_93 : decode cX6_carve 93 = .ok (.iconst 1, 1) := by decide +kernel
theorem dX6_carve_94 : decode cX6_carve 94 = .ok (.goto 4, 3) := by decide +kernel
theorem dX6_carve_97 : decode cX6_carve 97 = .ok (.iconst 0, 1) := by decide +kernel
theorem dX6_carve_98 : decode cX6_carve 98 = .ok (.invokevirtual 83, 3) := by decide +kernel
theorem dX6_carve_101 : decode cX6_carve 101 = .ok (.iload_n 1, 1) := by decide +kernel
theorem dX6_carve_102 : decode cX6_carve 102 = .ok (.ifCond .ne 15, 3) := by decide +kernel
theorem dX6_carve_105 : decode cX6_carve 105 = .ok (.aload_n 0, 1) := by decide +kernel
theorem dX6_carve_106 : decode cX6_carve 106 = .ok (.getfield 10, 3) := by decide +kernel
theorem dX6_carve_109 : decode cX6_carve 109 = .ok (.getfield 52, 3) := by decide +kernel
theorem dX6_carve_112 : decode cX6_carve 112 = .ok (.iload_n 2, 1) := by decide +kernel
theorem dX6_carve_113 : decode cX6_carve 113 = .ok (.iload_n 3, 1) := by decide +kernel
theorem dX6_carve_114 : decode cX6_carve 114 = .ok (.invokevirtual 87, 3) := by decide +kernel
theorem dX6_carve_117 : decode cX6_carve 117 = .ok (.iload 6, 2) := by decide +kernel
theorem dX6_carve_119 : decode cX6_carve 119 = .ok (.ireturn, 1) := by decide +kernel
set_option maxRecDepth 20000 in
theorem ggX6_plug_X6_isPlace : GoodIn wsX6_plug wsX6_isPlace := goodIn_r _ [7] (by decide +kernel) (by decide +kernel)
set_option maxRecDepth 20000 in
theorem gX6_plug_X6_isPlace : GoodIn wsX6_plug (va_wsS RX6 40 yX6_isPlace wsX6_isPlace) := goodIn_app (goodIn_of _ (by decide +kernel)) ggX6_plug_X6_isPlace
set_option maxRecDepth 20000 in
theorem ggX6_plug_X5_hardness : GoodIn wsX6_plug wsX5_hardness := goodIn_r _ [12, 13, 127, 128, 129, 130, 131, 132, 133, 134, 135, 136] (by decide +kernel) (by decide +kernel)
set_option maxRecDepth 20000 in
theorem gX6_plug_X5_hardness : GoodIn wsX6_plug (wsV RX6 91 RX5 yX5_hardness wsX5_hardness) := goodIn_app (goodIn_of _ (by decide +kernel)) ggX6_plug_X5_hardness
set_option maxRecDepth 20000 in
theorem ggX6_plug_X0_isWorn : GoodIn wsX6_plug wsX0_isWorn := goodIn_r _ [18, 19, 20, 21, 22, 23, 24, 25, 5, 6, 7, 26, 27, 28, 17, 29, 30, 137, 138, 139, 140, 141, 142] (by decide +kernel) (by decide +kernel)
set_option maxRecDepth 20000 in
theorem gX6_plug_X0_isWorn : GoodIn wsX6_plug (wsV RX6 94 RX0 yX0_isWorn wsX0_isWorn) := goodIn_app (goodIn_of _ (by decide +kernel)) ggX6_plug_X0_isWorn
set_option maxRecDepth 20000 in
theorem ggX6_plug_X2_keep : GoodIn wsX6_plug wsX2_keep := goodIn_r _ [35, 36, 37, 38, 39, 40, 41, 42, 43, 44, 45, 11, 46, 47, 13, 48, 49, 50, 51, 52, 53, 54, 55, 56, 57, 58, 59, 60, 61, 62, 17, 63, 64, 65, 19, 66, 30, 67, 68, 69, 70, 23, 71, 25, 72, 73, 74, 75, 76, 77, 78, 79, 80, 81, 143, 144, 145, 127, 128, 129, 130, 131, 132, 133, 134, 135, 136, 137, 138, 139, 140, 141, 142, 146, 147, 148] (by decide +kernel) (by decide +kernel)
set_option maxRecDepth 20000 in
theorem gX6_plug_X2_keep : GoodIn wsX6_plug (wsV RX6 48 RX2 yX2_keep wsX2_keep) := goodIn_app (goodIn_of _ (by decide +kernel)) ggX6_plug_X2_keep
set_option maxRecDepth 20000 in
theorem ggX6_plug_X0_clearWear : GoodIn wsX6_plug wsX0_clearWear := goodIn_r _ [85, 30, 5, 6, 7, 137, 138, 139, 140, 141] (by decide +kernel) (by decide +kernel)
set_option maxRecDepth 20000 in
theorem gX6_plug_X0_clearWear : GoodIn wsX6_plug (wsV RX6 87 RX0 yX0_clearWear wsX0_clearWear) := goodIn_app (goodIn_of _ (by decide +kernel)) ggX6_plug_X0_clearWear
set_option maxRecDepth 20000 in
theorem ggX6_plug_X6_wornCells : GoodIn wsX6_plug wsX6_wornCells := goodIn_r _ [89, 1, 2, 90, 91, 92, 93, 94, 6, 95, 8, 9, 10, 11, 12, 13, 96, 97, 98, 17, 99, 30, 19, 100, 101, 102, 103, 104, 23, 105, 25, 106, 107, 108, 109, 110, 111, 112, 113, 114, 115, 116, 117, 118, 119, 120, 121, 122, 123, 124, 125, 126, 127, 128, 129, 130, 131, 132, 133, 134, 135, 136, 137, 138, 139, 140, 141, 142] (by decide +kernel) (by decide +kernel)
set_option maxRecDepth 20000 in
theorem gX6_plug_X6_wornCells : GoodIn wsX6_plug (wsV RX6 97 RX6 yX6_wornCells wsX6_wornCells) := goodIn_app (goodIn_of _ (by decide +kernel)) ggX6_plug_X6_wornCells
theorem dX6_plug_0 : decode cX6_plug 0 = .ok (.iload_n 1, 1) := by decide +kernel
theorem dX6_plug_1 : decode cX6_plug 1 = .ok (.iload_n 2, 1) := by decide +kernel
theorem dX6_plug_2 : decode cX6_plug 2 = .ok (.invokestatic 40, 3) := by decide +kernel
theorem dX6_plug_5 : decode cX6_plug 5 = .ok (.ifCond .ne 7, 3) := by decide +kernel
theorem dX6_plug_8 : decode cX6_plug 8 = .ok (.sipush (-1001), 3) := by decide +kernel
theorem dX6_plug_11 : decode cX6_plug 11 = .ok (.ireturn, 1) := by decide +kernel
theorem dX6_plug_12 : decode cX6_plug 12 = .ok (.aload_n 0, 1) := by decide +kernel
theorem dX6_plug_13 : decode cX6_plug 13 = .ok (.getfield 10, 3) := by decide +kernel
theorem dX6_plug_16 : decode cX6_plug 16 = .ok (.getfield 52, 3) := by decide +kernel
theorem dX6_plug_19 : decode cX6_plug 19 = .ok (.iload_n 1, 1) := by decide +kernel
theorem dX6_plug_20 : decode cX6_plug 20 = .ok (.iload_n 2, 1) := by decide +kernel
theorem dX6_plug_21 : decode cX6_plug 21 = .ok (.aload_n 0, 1) := by decide +kernel
theorem dX6_plug_22 : decode cX6_plug 22 = .ok (.getfield 10, 3) := by decide +kernel
theorem dX6_plug_25 : decode cX6_plug 25 = .ok (.invokevirtual 91, 3) := by decide +kernel
theorem dX6_plug_28 : decode cX6_plug 28 = .ok (.invokevirtual 94, 3) := by decide +kernel
theorem dX6_plug_31 : decode cX6_plug 31 = .ok (.ifCond .ne 7, 3) := by decide +kernel
theorem dX6_plug_34 : decode cX6_plug 34 = .ok (.sipush (-1002), 3) := by decide +kernel
theorem dX6_plug_37 : decode cX6_plug 37 = .ok (.ireturn, 1) := by decide +kernel
theorem dX6_plug_38 : decode cX6_plug 38 = .ok (.aload_n 0, 1) := by decide +kernel
theorem dX6_plug_39 : decode cX6_plug 39 = .ok (.getfield 19, 3) := by decide +kernel
theorem dX6_plug_42 : decode cX6_plug 42 = .ok (.aload_n 0, 1) := by decide +kernel
theorem dX6_plug_43 : decode cX6_plug 43 = .ok (.getfield 10, 3) := by decide +kernel
theorem dX6_plug_46 : decode cX6_plug 46 = .ok (.invokevirtual 48, 3) := by decide +kernel
theorem dX6_plug_49 : decode cX6_plug 49 = .ok (.aload_n 0, 1) := by decide +kernel
theorem dX6_plug_50 : decode cX6_plug 50 = .ok (.getfield 10, 3) := by decide +kernel
theorem dX6_plug_53 : decode cX6_plug 53 = .ok (.getfield 52, 3) := by decide +kernel
theorem dX6_plug_56 : decode cX6_plug 56 = .ok (.iload_n 1, 1) := by decide +kernel
theorem dX6_plug_57 : decode cX6_plug 57 = .ok (.iload_n 2, 1) := by decide +kernel
theorem dX6_plug_58 : decode cX6_plug 58 = .ok (.invokevirtual 87, 3) := by decide +kernel
theorem dX6_plug_61 : decode cX6_plug 61 = .ok (.aload_n 0, 1) := by decide +kernel
theorem dX6_plug_62 : decode cX6_plug 62 = .ok (.invokevirtual 97, 3) := by decide +kernel
theorem dX6_plug_65 : decode cX6_plug 65 = .ok (.ireturn, 1) := by decide +kernel
set_option maxRecDepth 20000 in
theorem ggX6_setPins_X6_isWithin : GoodIn wsX6_setPins wsX6_isWithin := goodIn_r _ [8] (by decide +kernel) (by decide +kernel)
set_option maxRecDepth 20000 in
theorem gX6_setPins_X6_isWithin : GoodIn wsX6_setPins (va_wsS RX6 44 yX6_isWithin wsX6_isWithin) := goodIn_app (goodIn_of _ (by decide +kernel)) ggX6_setPins_X6_isWithin
set_option maxRecDepth 20000 in
theorem ggX6_setPins_X2_keep : GoodIn wsX6_setPins wsX2_keep := goodIn_r _ [13, 14, 15, 16, 17, 18, 19, 20, 21, 22, 23, 24, 25, 26, 27, 28, 29, 30, 31, 32, 33, 34, 35, 36, 37, 38, 39, 40, 41, 42, 43, 44, 45, 46, 47, 48, 49, 50, 51, 52, 53, 54, 55, 56, 57, 58, 59, 60, 61, 62, 63, 64, 65, 66, 144, 145, 146, 134, 135, 136, 137, 138, 139, 140, 141, 142, 143, 147, 148, 149, 150, 151, 152, 153, 154, 155] (by decide +kernel) (by decide +kernel)
set_option maxRecDepth 20000 in
theorem gX6_setPins_X2_keep : GoodIn wsX6_setPins (wsV RX6 48 RX2 yX2_keep wsX2_keep) := goodIn_app (goodIn_of _ (by decide +kernel)) ggX6_setPins_X2_keep
set_option maxRecDepth 20000 in
theorem ggX6_setPins_X6_findInk : GoodIn wsX6_setPins wsX6_findInk := goodIn_r _ [70, 2, 71, 72, 73, 74, 75, 24, 76, 27, 77, 78, 79, 43, 80, 49, 47, 81, 7, 82, 83, 84, 85, 54, 86, 56, 87, 88, 89, 90, 91, 129, 130, 131, 132, 133, 134, 135, 136, 137, 138, 139, 140, 141, 142, 143, 147, 148, 149, 150, 151, 152] (by decide +kernel) (by decide +kernel)
set_option maxRecDepth 20000 in
theorem gX6_setPins_X6_findInk : GoodIn wsX6_setPins (wsV RX6 107 RX6 yX6_findInk wsX6_findInk) := goodIn_app (goodIn_of _ (by decide +kernel)) ggX6_setPins_X6_findInk
set_option maxRecDepth 20000 in
theorem ggX6_setPins_X5_shiftX : GoodIn wsX6_setPins wsX5_shiftX := goodIn_r _ [95, 33, 96, 97, 98, 24, 99, 27, 134, 135, 136, 137, 138, 139, 140, 141, 142, 143] (by decide +kernel) (by decide +kernel)
set_option maxRecDepth 20000 in
theorem gX6_setPins_X5_shiftX : GoodIn wsX6_setPins (wsV RX6 110 RX5 yX5_shiftX wsX5_shiftX) := goodIn_app (goodIn_of _ (by decide +kernel)) ggX6_setPins_X5_shiftX
set_option maxRecDepth 20000 in
theorem ggX6_setPins_X5_shiftY : GoodIn wsX6_setPins wsX5_shiftY := goodIn_r _ [103, 34, 104, 105, 106, 24, 107, 27, 134, 135, 136, 137, 138, 139, 140, 141, 142, 143] (by decide +kernel) (by decide +kernel)
set_option maxRecDepth 20000 in
theorem gX6_setPins_X5_shiftY : GoodIn wsX6_setPins (wsV RX6 113 RX5 yX5_shiftY wsX5_shiftY) := goodIn_app (goodIn_of _ (by decide +kernel)) ggX6_setPins_X5_shiftY
set_option maxRecDepth 20000 in
theorem ggX6_setPins_X6_gapsWith : GoodIn wsX6_setPins wsX6_gapsWith := goodIn_r _ [111, 2, 71, 72, 112, 113, 114, 115, 43, 116, 45, 46, 83, 84, 85, 54, 86, 56, 117, 118, 119, 120, 91, 121, 122, 123, 124, 125, 126, 127, 128, 129, 130, 131, 132, 133, 134, 135, 136, 137, 138, 139, 140, 141, 142, 143, 147, 148, 149, 150, 151, 152] (by decide +kernel) (by decide +kernel)
set_option maxRecDepth 20000 in
theorem gX6_setPins_X6_gapsWith : GoodIn wsX6_setPins (wsV RX6 116 RX6 yX6_gapsWith wsX6_gapsWith) := goodIn_app (goodIn_of _ (by decide +kernel)) ggX6_setPins_X6_gapsWith
theorem dX6_setPins_0 : decode cX6_setPins 0 = .ok (.iload_n 1, 1) := by decide +kernel
theorem dX6_setPins_1 : decode cX6_setPins 1 = .ok (.bipush (-4), 2) := by decide +kernel
theorem dX6_setPins_3 : decode cX6_setPins 3 = .ok (.iconst 4, 1) := by decide +kernel
theorem dX6_setPins_4 : decode cX6_setPins 4 = .ok (.invokestatic 44, 3) := by decide +kernel
theorem dX6_setPins_7 : decode cX6_setPins 7 = .ok (.ifCond .eq 13, 3) := by decide +kernel
theorem dX6_setPins_10 : decode cX6_setPins 10 = .ok (.iload_n 2, 1) := by decide +kernel
theorem dX6_setPins_11 : decode cX6_setPins 11 = .ok (.bipush (-4), 2) := by decide +kernel
theorem dX6_setPins_13 : decode cX6_setPins 13 = .ok (.iconst 4, 1) := by decide +kernel
theorem dX6_setPins_14 : decode cX6_setPins 14 = .ok (.invokestatic 44, 3) := by decide +kernel
theorem dX6_setPins_17 : decode cX6_setPins 17 = .ok (.ifCond .ne 7, 3) := by decide +kernel
theorem dX6_setPins_20 : decode cX6_setPins 20 = .ok (.sipush (-1001), 3) := by decide +kernel
theorem dX6_setPins_23 : decode cX6_setPins 23 = .ok (.ireturn, 1) := by decide +kernel
theorem dX6_setPins_24 : decode cX6_setPins 24 = .ok (.aload_n 0, 1) := by decide +kernel
theorem dX6_setPins_25 : decode cX6_setPins 25 = .ok (.getfield 19, 3) := by decide +kernel
theorem dX6_setPins_28 : decode cX6_setPins 28 = .ok (.aload_n 0, 1) := by decide +kernel
theorem dX6_setPins_29 : decode cX6_setPins 29 = .ok (.getfield 10, 3) := by decide +kernel
theorem dX6_setPins_32 : decode cX6_setPins 32 = .ok (.invokevirtual 48, 3) := by decide +kernel
theorem dX6_setPins_35 : decode cX6_setPins 35 = .ok (.aload_n 0, 1) := by decide +kernel
theorem dX6_setPins_36 : decode cX6_setPins 36 = .ok (.getfield 10, 3) := by decide +kernel
theorem dX6_setPins_39 : decode cX6_setPins 39 = .ok (.iload_n 1, 1) := by decide +kernel
theorem dX6_setPins_40 : decode cX6_setPins 40 = .ok (.putfield 100, 3) := by decide +kernel
theorem dX6_setPins_43 : decode cX6_setPins 43 = .ok (.aload_n 0, 1) := by decide +kernel
theorem dX6_setPins_44 : decode cX6_setPins 44 = .ok (.getfield 10, 3) := by decide +kernel
theorem dX6_setPins_47 : decode cX6_setPins 47 = .ok (.iload_n 2, 1) := by decide +kernel
theorem dX6_setPins_48 : decode cX6_setPins 48 = .ok (.putfield 104, 3) := by decide +kernel
theorem dX6_setPins_51 : decode cX6_setPins 51 = .ok (.aload_n 0, 1) := by decide +kernel
theorem dX6_setPins_52 : decode cX6_setPins 52 = .ok (.invokevirtual 107, 3) := by decide +kernel
theorem dX6_setPins_55 : decode cX6_setPins 55 = .ok (.aload_n 0, 1) := by decide +kernel
theorem dX6_setPins_56 : decode cX6_setPins 56 = .ok (.aload_n 0, 1) := by decide +kernel
theorem dX6_setPins_57 : decode cX6_setPins 57 = .ok (.getfield 10, 3) := by decide +kernel
theorem dX6_setPins_60 : decode cX6_setPins 60 = .ok (.invokevirtual 110, 3) := by decide +kernel
theorem dX6_setPins_63 : decode cX6_setPins 63 = .ok (.aload_n 0, 1) := by decide +kernel
theorem dX6_setPins_64 : decode cX6_setPins 64 = .ok (.getfield 10, 3) := by decide +kernel
theorem dX6_setPins_67 : decode cX6_setPins 67 = .ok (.invokevirtual 113, 3) := by decide +kernel
theorem dX6_setPins_70 : decode cX6_setPins 70 = .ok (.invokevirtual 116, 3) := by decide +kernel
theorem dX6_setPins_73 : decode cX6_setPins 73 = .ok (.ireturn, 1) := by decide +kernel
set_option maxRecDepth 20000 in
theorem ggX6_set_X6_isWithin : GoodIn wsX6_set wsX6_isWithin := goodIn_r _ [9] (by decide +kernel) (by decide +kernel)
set_option maxRecDepth 20000 in
theorem gX6_set_X6_isWithin : GoodIn wsX6_set (va_wsS RX6 44 yX6_isWithin wsX6_isWithin) := goodIn_app (goodIn_of _ (by decide +kernel)) ggX6_set_X6_isWithin
set_option maxRecDepth 20000 in
theorem ggX6_set_X2_keep : GoodIn wsX6_set wsX2_keep := goodIn_r _ [14, 15, 16, 17, 18, 19, 20, 21, 22, 23, 24, 25, 26, 27, 28, 29, 30, 31, 32, 33, 34, 35, 36, 37, 38, 39, 40, 41, 42, 43, 44, 45, 46, 47, 48, 49, 50, 51, 52, 53, 54, 55, 56, 57, 58, 59, 60, 61, 62, 63, 64, 65, 66, 67, 83, 84, 85, 73, 74, 75, 76, 77, 78, 79, 80, 81, 82, 86, 87, 88, 89, 90, 91, 92, 93, 94] (by decide +kernel) (by decide +kernel)
set_option maxRecDepth 20000 in
theorem gX6_set_X2_keep : GoodIn wsX6_set (wsV RX6 48 RX2 yX2_keep wsX2_keep) := goodIn_app (goodIn_of _ (by decide +kernel)) ggX6_set_X2_keep
theorem dX6_set_0 : decode cX6_set 0 = .ok (.iload_n 1, 1) := by decide +kernel
theorem dX6_set_1 : decode cX6_set 1 = .ok (.iconst 0, 1) := by decide +kernel
theorem dX6_set_2 : decode cX6_set 2 = .ok (.iconst 4, 1) := by decide +kernel
theorem dX6_set_3 : decode cX6_set 3 = .ok (.invokestatic 44, 3) := by decide +kernel
theorem dX6_set_6 : decode cX6_set 6 = .ok (.ifCond .eq 20, 3) := by decide +kernel
theorem dX6_set_9 : decode cX6_set 9 = .ok (.iload_n 2, 1) := by decide +kernel
theorem dX6_set_10 : decode cX6_set 10 = .ok (.getstatic 120, 3) := by decide +kernel
theorem dX6_set_13 : decode cX6_set 13 = .ok (.iload_n 1, 1) := by decide +kernel
theorem dX6_set_14 : decode cX6_set 14 = .ok (.iaload, 1) := by decide +kernel
theorem dX6_set_15 : decode cX6_set 15 = .ok (.getstatic 124, 3) := by decide +kernel
theorem dX6_set_18 : decode cX6_set 18 = .ok (.iload_n 1, 1) := by decide +kernel
theorem dX6_set_19 : decode cX6_set 19 = .ok (.iaload, 1) := by decide +kernel
theorem dX6_set_20 : decode cX6_set 20 = .ok (.invokestatic 44, 3) := by decide +kernel
theorem dX6_set_23 : decode cX6_set 23 = .ok (.ifCond .ne 7, 3) := by decide +kernel
theorem dX6_set_26 : decode cX6_set 26 = .ok (.sipush (-1001), 3) := by decide +kernel
theorem dX6_set_29 : decode cX6_set 29 = .ok (.ireturn, 1) := by decide +kernel
theorem dX6_set_30 : decode cX6_set 30 = .ok (.aload_n 0, 1) := by decide +kernel
theorem dX6_set_31 : decode cX6_set 31 = .ok (.getfield 19, 3) := by decide +kernel
theorem dX6_set_34 : decode cX6_set 34 = .ok (.aload_n 0, 1) := by decide +kernel
theorem dX6_set_35 : decode cX6_set 35 = .ok (.getfield 10, 3) := by decide +kernel
theorem dX6_set_38 : decode cX6_set 38 = .ok (.invokevirtual 48, 3) := by decide +kernel
theorem dX6_set_41 : decode cX6_set 41 = .ok (.aload_n 0, 1) := by decide +kernel
theorem dX6_set_42 : decode cX6_set 42 = .ok (.getfield 10, 3) := by decide +kernel
theorem dX6_set_45 : decode cX6_set 45 = .ok (.getfield 127, 3) := by decide +kernel
theorem dX6_set_48 : decode cX6_set 48 = .ok (.iload_n 1, 1) := by decide +kernel
theorem dX6_set_49 : decode cX6_set 49 = .ok (.iaload, 1) := by decide +kernel
theorem dX6_set_50 : decode cX6_set 50 = .ok (.istore_n 3, 1) := by decide +kernel
theorem dX6_set_51 : decode cX6_set 51 = .ok (.aload_n 0, 1) := by decide +kernel
theorem dX6_set_52 : decode cX6_set 52 = .ok (.getfield 10, 3) := by decide +kernel
theorem dX6_set_55 : decode cX6_set 55 = .ok (.getfield 127, 3) := by decide +kernel
theorem dX6_set_58 : decode cX6_set 58 = .ok (.iload_n 1, 1) := by decide +kernel
theorem dX6_set_59 : decode cX6_set 59 = .ok (.iload_n 2, 1) := by decide +kernel
theorem dX6_set_60 : decode cX6_set 60 = .ok (.iastore, 1) := by decide +kernel
theorem dX6_set_61 : decode cX6_set 61 = .ok (.iload_n 3, 1) := by decide +kernel
theorem dX6_set_62 : decode cX6_set 62 = .ok (.ireturn, 1) := by decide +kernel
set_option maxRecDepth 20000 in
theorem ggX6_print_X6_isWithin : GoodIn wsX6_print wsX6_isWithin := goodIn_r _ [7] (by decide +kernel) (by decide +kernel)
set_option maxRecDepth 20000 in
theorem gX6_print_X6_isWithin : GoodIn wsX6_print (va_wsS RX6 44 yX6_isWithin wsX6_isWithin) := goodIn_app (goodIn_of _ (by decide +kernel)) ggX6_print_X6_isWithin
set_option maxRecDepth 20000 in
theorem ggX6_print_X2_keep : GoodIn wsX6_print wsX2_keep := goodIn_r _ [12, 13, 14, 15, 16, 17, 18, 19, 20, 21, 22, 23, 24, 25, 26, 27, 28, 29, 30, 31, 32, 33, 34, 35, 36, 37, 38, 39, 40, 41, 42, 43, 44, 45, 46, 47, 48, 49, 50, 51, 52, 53, 54, 55, 56, 57, 58, 59, 60, 61, 62, 63, 64, 65, 194, 195, 196, 184, 185, 186, 187, 188, 189, 190, 191, 192, 193, 197, 198, 199, 200, 201, 202, 203, 204, 205] (by decide +kernel) (by decide +kernel)
set_option maxRecDepth 20000 in
theorem gX6_print_X2_keep : GoodIn wsX6_print (wsV RX6 48 RX2 yX2_keep wsX2_keep) := goodIn_app (goodIn_of _ (by decide +kernel)) ggX6_print_X2_keep
set_option maxRecDepth 20000 in
theorem ggX6_print_X6_makeOnePrint : GoodIn wsX6_print wsX6_makeOnePrint := goodIn_r _ [69, 1, 2, 70, 71, 72, 73, 74, 75, 6, 76, 77, 78, 79, 23, 80, 26, 81, 82, 83, 42, 84, 48, 46, 85, 86, 87, 88, 89, 53, 90, 55, 91, 92, 93, 94, 95, 96, 97, 98, 99, 32, 100, 101, 102, 103, 104, 105, 106, 107, 33, 108, 109, 110, 111, 112, 113, 114, 115, 116, 117, 118, 119, 120, 44, 45, 121, 122, 123, 124, 125, 126, 127, 128, 129, 130, 131, 132, 133, 134, 135, 60, 136, 65, 64, 137, 17, 18, 19, 62, 138, 139, 140, 141, 142, 143, 144, 145, 146, 147, 148, 149, 150, 151, 152, 153, 154, 155, 156, 157, 158, 159, 160, 161, 162, 163, 164, 165, 166, 167, 168, 169, 170, 171, 172, 173, 174, 175, 176, 177, 178, 179, 180, 181, 182, 183, 184, 185, 186, 187, 188, 189, 190, 191, 192, 193, 197, 198, 199, 200, 201, 202, 203, 204, 205] (by decide +kernel) (by decide +kernel)
set_option maxRecDepth 20000 in
theorem gX6_print_X6_makeOnePrint : GoodIn wsX6_print (wsV RX6 133 RX6 yX6_makeOnePrint wsX6_makeOnePrint) := goodIn_app (goodIn_of _ (by decide +kernel)) ggX6_print_X6_makeOnePrint
theorem dX6_print_0 : decode cX6_print 0 = .ok (.iload_n 1, 1) := by decide +kernel
theorem dX6_print_1 : decode cX6_print 1 = .ok (.iconst 1, 1) := by decide +kernel
theorem dX6_print_2 : decode cX6_print 2 = .ok (.bipush 100, 2) := by decide +kernel
theorem dX6_print_4 : decode cX6_print 4 = .ok (.invokestatic 44, 3) := by decide +kernel
theorem dX6_print_7 : decode cX6_print 7 = .ok (.ifCond .ne 7, 3) := by decide +kernel
theorem dX6_print_10 : decode cX6_print 10 = .ok (.sipush (-1001), 3) := by decide +kernel
theorem dX6_print_13 : decode cX6_print 13 = .ok (.ireturn, 1) := by decide +kernel
theorem dX6_print_14 : decode cX6_print 14 = .ok (.aload_n 0, 1) := by decide +kernel
theorem dX6_print_15 : decode cX6_print 15 = .ok (.getfield 10, 3) := by decide +kernel
theorem dX6_print_18 : decode cX6_print 18 = .ok (.getfield 130, 3) := by decide +kernel
theorem dX6_print_21 : decode cX6_print 21 = .ok (.iload_n 1, 1) := by decide +kernel
theorem dX6_print_22 : decode cX6_print 22 = .ok (.iadd, 1) := by decide +kernel
theorem dX6_print_23 : decode cX6_print 23 = .ok (.sipush 5000, 3) := by decide +kernel
theorem dX6_print_26 : decode cX6_print 26 = .ok (.if_icmp .le 7, 3) := by decide +kernel
theorem dX6_print_29 : decode cX6_print 29 = .ok (.sipush (-1003), 3) := by decide +kernel
theorem dX6_print_32 : decode cX6_print 32 = .ok (.ireturn, 1) := by decide +kernel
theorem dX6_print_33 : decode cX6_print 33 = .ok (.aload_n 0, 1) := by decide +kernel
theorem dX6_print_34 : decode cX6_print 34 = .ok (.getfield 19, 3) := by decide +kernel
theorem dX6_print_37 : decode cX6_print 37 = .ok (.aload_n 0, 1) := by decide +kernel
theorem dX6_print_38 : decode cX6_print 38 = .ok (.getfield 10, 3) := by decide +kernel
theorem dX6_print_41 : decode cX6_print 41 = .ok (.invokevirtual 48, 3) := by decide +kernel
theorem dX6_print_44 : decode cX6_print 44 = .ok (.iconst 0, 1) := by decide +kernel
theorem dX6_print_45 : decode cX6_print 45 = .ok (.istore_n 2, 1) := by decide +kernel
theorem dX6_print_46 : decode cX6_print 46 = .ok (.iconst 0, 1) := by decide +kernel
theorem dX6_print_47 : decode cX6_print 47 = .ok (.istore_n 3, 1) := by decide +kernel
theorem dX6_print_48 : decode cX6_print 48 = .ok (.iload_n 3, 1) := by decide +kernel
theorem dX6_print_49 : decode cX6_print 49 = .ok (.iload_n 1, 1) := by decide +kernel
theorem dX6_print_50 : decode cX6_print 50 = .ok (.if_icmp .ge 16, 3) := by decide +kernel
theorem dX6_print_53 : decode cX6_print 53 = .ok (.iload_n 2, 1) := by decide +kernel
theorem dX6_print_54 : decode cX6_print 54 = .ok (.aload_n 0, 1) := by decide +kernel
theorem dX6_print_55 : decode cX6_print 55 = .ok (.invokevirtual 133, 3) := by decide +kernel
theorem dX6_print_58 : decode cX6_print 58 = .ok (.iadd, 1) := by decide +kernel
theorem dX6_print_59 : decode cX6_print 59 = .ok (.istore_n 2, 1) := by decide +kernel
theorem dX6_print_60 : decode cX6_print 60 = .ok (.iinc 3 1, 3) := by decide +kernel
theorem dX6_print_63 : decode cX6_print 63 = .ok (.goto (-15), 3) := by decide +kernel
theorem dX6_print_66 : decode cX6_print 66 = .ok (.iload_n 2, 1) := by decide +kernel
theorem dX6_print_67 : decode cX6_print 67 = .ok (.ireturn, 1) := by decide +kernel
set_option maxRecDepth 20000 in
theorem ggX6_take_X6_isWithin : GoodIn wsX6_take wsX6_isWithin := goodIn_r _ [7] (by decide +kernel) (by decide +kernel)
set_option maxRecDepth 20000 in
theorem gX6_take_X6_isWithin : GoodIn wsX6_take (va_wsS RX6 44 yX6_isWithin wsX6_isWithin) := goodIn_app (goodIn_of _ (by decide +kernel)) ggX6_take_X6_isWithin
set_option maxRecDepth 20000 in
theorem ggX6_take_X2_keep : GoodIn wsX6_take wsX2_keep := goodIn_r _ [12, 13, 14, 15, 16, 17, 18, 19, 20, 21, 22, 23, 24, 25, 26, 27, 28, 29, 30, 31, 32, 33, 34, 35, 36, 37, 38, 39, 40, 41, 42, 43, 44, 45, 46, 47, 48, 49, 50, 51, 52, 53, 54, 55, 56, 57, 58, 59, 60, 61, 62, 63, 64, 65, 104, 105, 106, 94, 95, 96, 97, 98, 99, 100, 101, 102, 103, 107, 108, 109, 110, 111, 112, 113, 114, 115] (by decide +kernel) (by decide +kernel)
set_option maxRecDepth 20000 in
theorem gX6_take_X2_keep : GoodIn wsX6_take (wsV RX6 48 RX2 yX2_keep wsX2_keep) := goodIn_app (goodIn_of _ (by decide +kernel)) ggX6_take_X2_keep
set_option maxRecDepth 20000 in
theorem ggX6_take_X5_takeSnapshot : GoodIn wsX6_take wsX5_takeSnapshot := goodIn_r _ [69, 25, 37, 38, 70, 71, 72, 23, 73, 35, 36, 39, 40, 41, 42, 43, 44, 45, 46, 47, 48, 49, 28, 29, 30, 50, 51, 52, 53, 54, 55, 56, 94, 95, 96, 97, 98, 99, 100, 101, 102, 103, 107, 108, 109, 110, 111, 112] (by decide +kernel) (by decide +kernel)
set_option maxRecDepth 20000 in
theorem gX6_take_X5_takeSnapshot : GoodIn wsX6_take (wsV RX6 136 RX5 yX5_takeSnapshot wsX5_takeSnapshot) := goodIn_app (goodIn_of _ (by decide +kernel)) ggX6_take_X5_takeSnapshot
set_option maxRecDepth 20000 in
theorem ggX6_take_X0_paintedCells : GoodIn wsX6_take wsX0_paintedCells := goodIn_r _ [77, 44, 45, 78, 79, 80, 53, 81, 55, 82, 83, 84, 85, 86, 87, 88, 107, 108, 109, 110, 111, 112] (by decide +kernel) (by decide +kernel)
set_option maxRecDepth 20000 in
theorem gX6_take_X0_paintedCells : GoodIn wsX6_take (wsV RX6 139 RX0 yX0_paintedCells wsX0_paintedCells) := goodIn_app (goodIn_of _ (by decide +kernel)) ggX6_take_X0_paintedCells
theorem dX6_take_0 : decode cX6_take 0 = .ok (.iload_n 1, 1) := by decide +kernel
theorem dX6_take_1 : decode cX6_take 1 = .ok (.iconst 0, 1) := by decide +kernel
theorem dX6_take_2 : decode cX6_take 2 = .ok (.iconst 1, 1) := by decide +kernel
theorem dX6_take_3 : decode cX6_take 3 = .ok (.invokestatic 44, 3) := by decide +kernel
theorem dX6_take_6 : decode cX6_take 6 = .ok (.ifCond .ne 7, 3) := by decide +kernel
theorem dX6_take_9 : decode cX6_take 9 = .ok (.sipush (-1001), 3) := by decide +kernel
theorem dX6_take_12 : decode cX6_take 12 = .ok (.ireturn, 1) := by decide +kernel
theorem dX6_take_13 : decode cX6_take 13 = .ok (.aload_n 0, 1) := by decide +kernel
theorem dX6_take_14 : decode cX6_take 14 = .ok (.getfield 19, 3) := by decide +kernel
theorem dX6_take_17 : decode cX6_take 17 = .ok (.aload_n 0, 1) := by decide +kernel
theorem dX6_take_18 : decode cX6_take 18 = .ok (.getfield 10, 3) := by decide +kernel
theorem dX6_take_21 : decode cX6_take 21 = .ok (.invokevirtual 48, 3) := by decide +kernel
theorem dX6_take_24 : decode cX6_take 24 = .ok (.aload_n 0, 1) := by decide +kernel
theorem dX6_take_25 : decode cX6_take 25 = .ok (.getfield 10, 3) := by decide +kernel
theorem dX6_take_28 : decode cX6_take 28 = .ok (.iload_n 1, 1) := by decide +kernel
theorem dX6_take_29 : decode cX6_take 29 = .ok (.invokevirtual 136, 3) := by decide +kernel
theorem dX6_take_32 : decode cX6_take 32 = .ok (.aload_n 0, 1) := by decide +kernel
theorem dX6_take_33 : decode cX6_take 33 = .ok (.getfield 10, 3) := by decide +kernel
theorem dX6_take_36 : decode cX6_take 36 = .ok (.getfield 52, 3) := by decide +kernel
theorem dX6_take_39 : decode cX6_take 39 = .ok (.invokevirtual 139, 3) := by decide +kernel
theorem dX6_take_42 : decode cX6_take 42 = .ok (.ireturn, 1) := by decide +kernel
set_option maxRecDepth 20000 in
theorem ggX6_restore_X6_isWithin : GoodIn wsX6_restore wsX6_isWithin := goodIn_r _ [7] (by decide +kernel) (by decide +kernel)
set_option maxRecDepth 20000 in
theorem gX6_restore_X6_isWithin : GoodIn wsX6_restore (va_wsS RX6 44 yX6_isWithin wsX6_isWithin) := goodIn_app (goodIn_of _ (by decide +kernel)) ggX6_restore_X6_isWithin
set_option maxRecDepth 20000 in
theorem ggX6_restore_X5_isTaken : GoodIn wsX6_restore wsX5_isTaken := goodIn_r _ [12, 13, 14, 98, 99, 100, 101, 102, 103, 104, 105, 106, 107] (by decide +kernel) (by decide +kernel)
set_option maxRecDepth 20000 in
theorem gX6_restore_X5_isTaken : GoodIn wsX6_restore (wsV RX6 142 RX5 yX5_isTaken wsX5_isTaken) := goodIn_app (goodIn_of _ (by decide +kernel)) ggX6_restore_X5_isTaken
set_option maxRecDepth 20000 in
theorem ggX6_restore_X2_keep : GoodIn wsX6_restore wsX2_keep := goodIn_r _ [19, 20, 21, 22, 23, 24, 25, 26, 27, 28, 29, 11, 30, 31, 32, 33, 34, 35, 36, 37, 38, 39, 40, 41, 42, 13, 14, 43, 44, 45, 46, 47, 48, 49, 50, 51, 52, 53, 54, 55, 56, 57, 58, 59, 60, 61, 62, 63, 64, 65, 66, 67, 68, 69, 108, 109, 110, 98, 99, 100, 101, 102, 103, 104, 105, 106, 107, 111, 112, 113, 114, 115, 116, 117, 118, 119] (by decide +kernel) (by decide +kernel)
set_option maxRecDepth 20000 in
theorem gX6_restore_X2_keep : GoodIn wsX6_restore (wsV RX6 48 RX2 yX2_keep wsX2_keep) := goodIn_app (goodIn_of _ (by decide +kernel)) ggX6_restore_X2_keep
set_option maxRecDepth 20000 in
theorem ggX6_restore_X5_restoreSnapshot : GoodIn wsX6_restore wsX5_restoreSnapshot := goodIn_r _ [73, 31, 74, 75, 76, 11, 77, 41, 42, 43, 44, 45, 46, 47, 48, 49, 50, 51, 52, 53, 34, 35, 36, 54, 55, 56, 57, 58, 59, 60, 98, 99, 100, 101, 102, 103, 104, 105, 106, 107, 111, 112, 113, 114, 115, 116] (by decide +kernel) (by decide +kernel)
set_option maxRecDepth 20000 in
theorem gX6_restore_X5_restoreSnapshot : GoodIn wsX6_restore (wsV RX6 146 RX5 yX5_restoreSnapshot wsX5_restoreSnapshot) := goodIn_app (goodIn_of _ (by decide +kernel)) ggX6_restore_X5_restoreSnapshot
set_option maxRecDepth 20000 in
theorem ggX6_restore_X0_paintedCells : GoodIn wsX6_restore wsX0_paintedCells := goodIn_r _ [81, 48, 49, 82, 83, 84, 57, 85, 59, 86, 87, 88, 89, 90, 91, 92, 111, 112, 113, 114, 115, 116] (by decide +kernel) (by decide +kernel)
set_option maxRecDepth 20000 in
theorem gX6_restore_X0_paintedCells : GoodIn wsX6_restore (wsV RX6 139 RX0 yX0_paintedCells wsX0_paintedCells) := goodIn_app (goodIn_of _ (by decide +kernel)) ggX6_restore_X0_paintedCells
theorem dX6_restore_0 : decode cX6_restore 0 = .ok (.iload_n 1, 1) := by decide +kernel
theorem dX6_restore_1 : decode cX6_restore 1 = .ok (.iconst 0, 1) := by decide +kernel
theorem dX6_restore_2 : decode cX6_restore 2 = .ok (.iconst 1, 1) := by decide +kernel
theorem dX6_restore_3 : decode cX6_restore 3 = .ok (.invokestatic 44, 3) := by decide +kernel
theorem dX6_restore_6 : decode cX6_restore 6 = .ok (.ifCond .ne 7, 3) := by decide +kernel
theorem dX6_restore_9 : decode cX6_restore 9 = .ok (.sipush (-1001), 3) := by decide +kernel
theorem dX6_restore_12 : decode cX6_restore 12 = .ok (.ireturn, 1) := by decide +kernel
theorem dX6_restore_13 : decode cX6_restore 13 = .ok (.aload_n 0, 1) := by decide +kernel
theorem dX6_restore_14 : decode cX6_restore 14 = .ok (.getfield 10, 3) := by decide +kernel
theorem dX6_restore_17 : decode cX6_restore 17 = .ok (.iload_n 1, 1) := by decide +kernel
theorem dX6_restore_18 : decode cX6_restore 18 = .ok (.invokevirtual 142, 3) := by decide +kernel
theorem dX6_restore_21 : decode cX6_restore 21 = .ok (.ifCond .ne 7, 3) := by decide +kernel
theorem dX6_restore_24 : decode cX6_restore 24 = .ok (.sipush (-1002), 3) := by decide +kernel
theorem dX6_restore_27 : decode cX6_restore 27 = .ok (.ireturn, 1) := by decide +kernel
theorem dX6_restore_28 : decode cX6_restore 28 = .ok (.aload_n 0, 1) := by decide +kernel
theorem dX6_restore_29 : decode cX6_restore 29 = .ok (.getfield 19, 3) := by decide +kernel
theorem dX6_restore_32 : decode cX6_restore 32 = .ok (.aload_n 0, 1) := by decide +kernel
theorem dX6_restore_33 : decode cX6_restore 33 = .ok (.getfield 10, 3) := by decide +kernel
theorem dX6_restore_36 : decode cX6_restore 36 = .ok (.invokevirtual 48, 3) := by decide +kernel
theorem dX6_restore_39 : decode cX6_restore 39 = .ok (.aload_n 0, 1) := by decide +kernel
theorem dX6_restore_40 : decode cX6_restore 40 = .ok (.getfield 10, 3) := by decide +kernel
theorem dX6_restore_43 : decode cX6_restore 43 = .ok (.iload_n 1, 1) := by decide +kernel
theorem dX6_restore_44 : decode cX6_restore 44 = .ok (.invokevirtual 146, 3) := by decide +kernel
theorem dX6_restore_47 : decode cX6_restore 47 = .ok (.aload_n 0, 1) := by decide +kernel
theorem dX6_restore_48 : decode cX6_restore 48 = .ok (.getfield 10, 3) := by decide +kernel
theorem dX6_restore_51 : decode cX6_restore 51 = .ok (.getfield 52, 3) := by decide +kernel
theorem dX6_restore_54 : decode cX6_restore 54 = .ok (.invokevirtual 139, 3) := by decide +kernel
theorem dX6_restore_57 : decode cX6_restore 57 = .ok (.ireturn, 1) := by decide +kernel
set_option maxRecDepth 20000 in
theorem ggX6_undo_X2_size : GoodIn wsX6_undo wsX2_size := goodIn_r _ [7, 8, 70, 71, 72] (by decide +kernel) (by decide +kernel)
set_option maxRecDepth 20000 in
theorem gX6_undo_X2_size : GoodIn wsX6_undo (wsV RX6 149 RX2 yX2_size wsX2_size) := goodIn_app (goodIn_of _ (by decide +kernel)) ggX6_undo_X2_size
set_option maxRecDepth 20000 in
theorem ggX6_undo_X2_giveBack : GoodIn wsX6_undo wsX2_giveBack := goodIn_r _ [12, 13, 8, 14, 15, 16, 17, 18, 19, 20, 21, 22, 23, 24, 25, 26, 27, 28, 29, 30, 31, 32, 33, 34, 35, 36, 37, 38, 39, 40, 41, 42, 43, 44, 45, 46, 47, 48, 49, 50, 51, 52, 53, 54, 55, 56, 57, 58, 59, 60, 61, 62, 63, 64, 70, 71, 72, 73, 74, 75, 76, 77, 78, 79, 80, 81, 82, 83, 84, 85, 86, 87, 88, 89, 90, 91] (by decide +kernel) (by decide +kernel)
set_option maxRecDepth 20000 in
theorem gX6_undo_X2_giveBack : GoodIn wsX6_undo (wsV RX6 150 RX2 yX2_giveBack wsX2_giveBack) := goodIn_app (goodIn_of _ (by decide +kernel)) ggX6_undo_X2_giveBack
theorem dX6_undo_0 : decode cX6_undo 0 = .ok (.aload_n 0, 1) := by decide +kernel
theorem dX6_undo_1 : decode cX6_undo 1 = .ok (.getfield 19, 3) := by decide +kernel
theorem dX6_undo_4 : decode cX6_undo 4 = .ok (.invokevirtual 149, 3) := by decide +kernel
theorem dX6_undo_7 : decode cX6_undo 7 = .ok (.ifCond .ne 7, 3) := by decide +kernel
theorem dX6_undo_10 : decode cX6_undo 10 = .ok (.sipush (-1002), 3) := by decide +kernel
theorem dX6_undo_13 : decode cX6_undo 13 = .ok (.ireturn, 1) := by decide +kernel
theorem dX6_undo_14 : decode cX6_undo 14 = .ok (.aload_n 0, 1) := by decide +kernel
theorem dX6_undo_15 : decode cX6_undo 15 = .ok (.getfield 19, 3) := by decide +kernel
theorem dX6_undo_18 : decode cX6_undo 18 = .ok (.aload_n 0, 1) := by decide +kernel
theorem dX6_undo_19 : decode cX6_undo 19 = .ok (.getfield 10, 3) := by decide +kernel
theorem dX6_undo_22 : decode cX6_undo 22 = .ok (.invokevirtual 150, 3) := by decide +kernel
theorem dX6_undo_25 : decode cX6_undo 25 = .ok (.aload_n 0, 1) := by decide +kernel
theorem dX6_undo_26 : decode cX6_undo 26 = .ok (.getfield 19, 3) := by decide +kernel
theorem dX6_undo_29 : decode cX6_undo 29 = .ok (.invokevirtual 149, 3) := by decide +kernel
theorem dX6_undo_32 : decode cX6_undo 32 = .ok (.ireturn, 1) := by decide +kernel
set_option maxRecDepth 20000 in
theorem ggX6_append_X6_isWithin : GoodIn wsX6_append wsX6_isWithin := goodIn_r _ [5] (by decide +kernel) (by decide +kernel)
set_option maxRecDepth 20000 in
theorem gX6_append_X6_isWithin : GoodIn wsX6_append (va_wsS RX6 44 yX6_isWithin wsX6_isWithin) := goodIn_app (goodIn_of _ (by decide +kernel)) ggX6_append_X6_isWithin
set_option maxRecDepth 20000 in
theorem ggX6_append_X4_length : GoodIn wsX6_append wsX4_length := goodIn_r _ [10, 11, 22, 23, 24, 25, 26, 27] (by decide +kernel) (by decide +kernel)
set_option maxRecDepth 20000 in
theorem gX6_append_X4_length : GoodIn wsX6_append (wsV RX6 153 RX4 yX4_length wsX4_length) := goodIn_app (goodIn_of _ (by decide +kernel)) ggX6_append_X4_length
set_option maxRecDepth 20000 in
theorem ggX6_append_X4_addCharacter : GoodIn wsX6_append wsX4_addCharacter := goodIn_r _ [15, 11, 16, 22, 23, 24, 25, 26, 27] (by decide +kernel) (by decide +kernel)
set_option maxRecDepth 20000 in
theorem gX6_append_X4_addCharacter : GoodIn wsX6_append (wsV RX6 156 RX4 yX4_addCharacter wsX4_addCharacter) := goodIn_app (goodIn_of _ (by decide +kernel)) ggX6_append_X4_addCharacter
theorem dX6_append_0 : decode cX6_append 0 = .ok (.iload_n 1, 1) := by decide +kernel
theorem dX6_append_1 : decode cX6_append 1 = .ok (.iconst 1, 1) := by decide +kernel
theorem dX6_append_2 : decode cX6_append 2 = .ok (.sipush 255, 3) := by decide +kernel
theorem dX6_append_5 : decode cX6_append 5 = .ok (.invokestatic 44, 3) := by decide +kernel
theorem dX6_append_8 : decode cX6_append 8 = .ok (.ifCond .ne 7, 3) := by decide +kernel
theorem dX6_append_11 : decode cX6_append 11 = .ok (.sipush (-1001), 3) := by decide +kernel
theorem dX6_append_14 : decode cX6_append 14 = .ok (.ireturn, 1) := by decide +kernel
theorem dX6_append_15 : decode cX6_append 15 = .ok (.aload_n 0, 1) := by decide +kernel
theorem dX6_append_16 : decode cX6_append 16 = .ok (.getfield 26, 3) := by decide +kernel
theorem dX6_append_19 : decode cX6_append 19 = .ok (.invokevirtual 153, 3) := by decide +kernel
theorem dX6_append_22 : decode cX6_append 22 = .ok (.sipush 140, 3) := by decide +kernel
theorem dX6_append_25 : decode cX6_append 25 = .ok (.if_icmp .lt 7, 3) := by decide +kernel
theorem dX6_append_28 : decode cX6_append 28 = .ok (.sipush (-1003), 3) := by decide +kernel
theorem dX6_append_31 : decode cX6_append 31 = .ok (.ireturn, 1) := by decide +kernel
theorem dX6_append_32 : decode cX6_append 32 = .ok (.aload_n 0, 1) := by decide +kernel
theorem dX6_append_33 : decode cX6_append 33 = .ok (.getfield 26, 3) := by decide +kernel
theorem dX6_append_36 : decode cX6_append 36 = .ok (.iload_n 1, 1) := by decide +kernel
theorem dX6_append_37 : decode cX6_append 37 = .ok (.invokevirtual 156, 3) := by decide +kernel
theorem dX6_append_40 : decode cX6_append 40 = .ok (.aload_n 0, 1) := by decide +kernel
theorem dX6_append_41 : decode cX6_append 41 = .ok (.getfield 26, 3) := by decide +kernel
theorem dX6_append_44 : decode cX6_append 44 = .ok (.invokevirtual 153, 3) := by decide +kernel
theorem dX6_append_47 : decode cX6_append 47 = .ok (.ireturn, 1) := by decide +kernel
set_option maxRecDepth 20000 in
theorem ggX6_clearText_X4_length : GoodIn wsX6_clearText wsX4_length := goodIn_r _ [6, 7, 17, 18, 19, 20, 21, 22] (by decide +kernel) (by decide +kernel)
set_option maxRecDepth 20000 in
theorem gX6_clearText_X4_length : GoodIn wsX6_clearText (wsV RX6 153 RX4 yX4_length wsX4_length) := goodIn_app (goodIn_of _ (by decide +kernel)) ggX6_clearText_X4_length
set_option maxRecDepth 20000 in
theorem ggX6_clearText_X4_forgetText : GoodIn wsX6_clearText wsX4_forgetText := goodIn_r _ [11, 7, 17, 18, 19, 20, 21, 22] (by decide +kernel) (by decide +kernel)
set_option maxRecDepth 20000 in
theorem gX6_clearText_X4_forgetText : GoodIn wsX6_clearText (wsV RX6 159 RX4 yX4_forgetText wsX4_forgetText) := goodIn_app (goodIn_of _ (by decide +kernel)) ggX6_clearText_X4_forgetText
theorem dX6_clearText_0 : decode cX6_clearText 0 = .ok (.aload_n 0, 1) := by decide +kernel
theorem dX6_clearText_1 : decode cX6_clearText 1 = .ok (.getfield 26, 3) := by decide +kernel
theorem dX6_clearText_4 : decode cX6_clearText 4 = .ok (.invokevirtual 153, 3) := by decide +kernel
theorem dX6_clearText_7 : decode cX6_clearText 7 = .ok (.istore_n 1, 1) := by decide +kernel
theorem dX6_clearText_8 : decode cX6_clearText 8 = .ok (.aload_n 0, 1) := by decide +kernel
theorem dX6_clearText_9 : decode cX6_clearText 9 = .ok (.getfield 26, 3) := by decide +kernel
theorem dX6_clearText_12 : decode cX6_clearText 12 = .ok (.invokevirtual 159, 3) := by decide +kernel
theorem dX6_clearText_15 : decode cX6_clearText 15 = .ok (.iload_n 1, 1) := by decide +kernel
theorem dX6_clearText_16 : decode cX6_clearText 16 = .ok (.ireturn, 1) := by decide +kernel
set_option maxRecDepth 20000 in
theorem ggX6_load_X4_readText : GoodIn wsX6_load wsX4_readText := goodIn_r _ [9, 10, 11, 12, 13, 14, 15, 16, 17, 18, 19, 20, 21, 22, 23, 24, 25, 26, 27, 28, 29, 8, 30, 31, 32, 33, 34, 35, 36, 37, 38, 39, 40, 41, 42, 43, 44, 45, 46, 47, 48, 49, 50, 51, 52, 53, 54, 55, 56, 57, 58, 59, 60, 61, 62, 63, 64, 65, 66, 67, 68, 69, 70, 140, 141, 142, 143, 144, 145, 146, 147, 148, 149, 150, 151] (by decide +kernel) (by decide +kernel)
set_option maxRecDepth 20000 in
theorem gX6_load_X4_readText : GoodIn wsX6_load (wsV RX6 162 RX4 yX4_readText wsX4_readText) := goodIn_app (goodIn_of _ (by decide +kernel)) ggX6_load_X4_readText
set_option maxRecDepth 20000 in
theorem ggX6_load_X2_keep : GoodIn wsX6_load wsX2_keep := goodIn_r _ [75, 76, 77, 78, 79, 45, 46, 47, 80, 81, 82, 83, 84, 85, 86, 87, 24, 25, 26, 88, 89, 90, 91, 92, 93, 94, 95, 96, 97, 98, 99, 100, 101, 102, 103, 104, 105, 106, 107, 18, 19, 20, 21, 22, 23, 108, 109, 110, 111, 112, 113, 114, 115, 116, 152, 153, 154, 130, 131, 132, 133, 134, 135, 136, 137, 138, 139, 146, 147, 148, 149, 150, 151, 155, 156, 157] (by decide +kernel) (by decide +kernel)
set_option maxRecDepth 20000 in
theorem gX6_load_X2_keep : GoodIn wsX6_load (wsV RX6 48 RX2 yX2_keep wsX2_keep) := goodIn_app (goodIn_of _ (by decide +kernel)) ggX6_load_X2_keep
set_option maxRecDepth 20000 in
theorem ggX6_load_X4_handPictureTo : GoodIn wsX6_load wsX4_handPictureTo := goodIn_r _ [120, 11, 10, 13, 12, 17, 18, 19, 20, 21, 22, 23, 24, 25, 26, 146, 147, 148, 149, 150, 140, 141, 142, 143, 144, 145, 151] (by decide +kernel) (by decide +kernel)
set_option maxRecDepth 20000 in
theorem gX6_load_X4_handPictureTo : GoodIn wsX6_load (wsV RX6 166 RX4 yX4_handPictureTo wsX4_handPictureTo) := goodIn_app (goodIn_of _ (by decide +kernel)) ggX6_load_X4_handPictureTo
set_option maxRecDepth 20000 in
theorem ggX6_load_X4_forgetText : GoodIn wsX6_load wsX4_forgetText := goodIn_r _ [124, 16, 140, 141, 142, 143, 144, 145] (by decide +kernel) (by decide +kernel)
set_option maxRecDepth 20000 in
theorem gX6_load_X4_forgetText : GoodIn wsX6_load (wsV RX6 159 RX4 yX4_forgetText wsX4_forgetText) := goodIn_app (goodIn_of _ (by decide +kernel)) ggX6_load_X4_forgetText
theorem dX6_load_0 : decode cX6_load 0 = .ok (.aload_n 0, 1) := by decide +kernel
theorem dX6_load_1 : decode cX6_load 1 = .ok (.getfield 26, 3) := by decide +kernel
theorem dX6_load_4 : decode cX6_load 4 = .ok (.aload_n 0, 1) := by decide +kernel
theorem dX6_load_5 : decode cX6_load 5 = .ok (.getfield 10, 3) := by decide +kernel
theorem dX6_load_8 : decode cX6_load 8 = .ok (.getfield 52, 3) := by decide +kernel
theorem dX6_load_11 : decode cX6_load 11 = .ok (.invokevirtual 162, 3) := by decide +kernel
theorem dX6_load_14 : decode cX6_load 14 = .ok (.istore_n 1, 1) := by decide +kernel
theorem dX6_load_15 : decode cX6_load 15 = .ok (.iload_n 1, 1) := by decide +kernel
theorem dX6_load_16 : decode cX6_load 16 = .ok (.ifCond .ge 5, 3) := by decide +kernel
theorem dX6_load_19 : decode cX6_load 19 = .ok (.iload_n 1, 1) := by decide +kernel
theorem dX6_load_20 : decode cX6_load 20 = .ok (.ireturn, 1) := by decide +kernel
theorem dX6_load_21 : decode cX6_load 21 = .ok (.aload_n 0, 1) := by decide +kernel
theorem dX6_load_22 : decode cX6_load 22 = .ok (.getfield 19, 3) := by decide +kernel
theorem dX6_load_25 : decode cX6_load 25 = .ok (.aload_n 0, 1) := by decide +kernel
theorem dX6_load_26 : decode cX6_load 26 = .ok (.getfield 10, 3) := by decide +kernel
theorem dX6_load_29 : decode cX6_load 29 = .ok (.invokevirtual 48, 3) := by decide +kernel
theorem dX6_load_32 : decode cX6_load 32 = .ok (.aload_n 0, 1) := by decide +kernel
theorem dX6_load_33 : decode cX6_load 33 = .ok (.getfield 26, 3) := by decide +kernel
theorem dX6_load_36 : decode cX6_load 36 = .ok (.aload_n 0, 1) := by decide +kernel
theorem dX6_load_37 : decode cX6_load 37 = .ok (.getfield 10, 3) := by decide +kernel
theorem dX6_load_40 : decode cX6_load 40 = .ok (.getfield 52, 3) := by decide +kernel
theorem dX6_load_43 : decode cX6_load 43 = .ok (.invokevirtual 166, 3) := by decide +kernel
theorem dX6_load_46 : decode cX6_load 46 = .ok (.aload_n 0, 1) := by decide +kernel
theorem dX6_load_47 : decode cX6_load 47 = .ok (.getfield 26, 3) := by decide +kernel
theorem dX6_load_50 : decode cX6_load 50 = .ok (.invokevirtual 159, 3) := by decide +kernel
theorem dX6_load_53 : decode cX6_load 53 = .ok (.iload_n 1, 1) := by decide +kernel
theorem dX6_load_54 : decode cX6_load 54 = .ok (.ireturn, 1) := by decide +kernel
set_option maxRecDepth 20000 in
theorem ggX6_count_X5_shiftX : GoodIn wsX6_count wsX5_shiftX := goodIn_r _ [18, 19, 20, 21, 22, 17, 23, 24, 115, 116, 117, 118, 119, 120, 121, 122, 123, 124] (by decide +kernel) (by decide +kernel)
set_option maxRecDepth 20000 in
theorem gX6_count_X5_shiftX : GoodIn wsX6_count (wsV RX6 110 RX5 yX5_shiftX wsX5_shiftX) := goodIn_app (goodIn_of _ (by decide +kernel)) ggX6_count_X5_shiftX
set_option maxRecDepth 20000 in
theorem ggX6_count_X5_shiftY : GoodIn wsX6_count wsX5_shiftY := goodIn_r _ [28, 29, 30, 31, 32, 17, 33, 24, 115, 116, 117, 118, 119, 120, 121, 122, 123, 124] (by decide +kernel) (by decide +kernel)
set_option maxRecDepth 20000 in
theorem gX6_count_X5_shiftY : GoodIn wsX6_count (wsV RX6 113 RX5 yX5_shiftY wsX5_shiftY) := goodIn_app (goodIn_of _ (by decide +kernel)) ggX6_count_X5_shiftY
set_option maxRecDepth 20000 in
theorem ggX6_count_X0_paintedCells : GoodIn wsX6_count wsX0_paintedCells := goodIn_r _ [38, 39, 40, 41, 42, 43, 44, 45, 46, 47, 48, 49, 50, 51, 52, 53, 125, 126, 127, 128, 129, 130] (by decide +kernel) (by decide +kernel)
set_option maxRecDepth 20000 in
theorem gX6_count_X0_paintedCells : GoodIn wsX6_count (wsV RX6 139 RX0 yX0_paintedCells wsX0_paintedCells) := goodIn_app (goodIn_of _ (by decide +kernel)) ggX6_count_X0_paintedCells
set_option maxRecDepth 20000 in
theorem ggX6_count_X1_size : GoodIn wsX6_count wsX1_size := goodIn_r _ [45, 46, 47, 48, 49, 50, 51, 52, 53, 130] (by decide +kernel) (by decide +kernel)
set_option maxRecDepth 20000 in
theorem gX6_count_X1_size : GoodIn wsX6_count (wsV RX6 69 RX1 yX1_size wsX1_size) := goodIn_app (goodIn_of _ (by decide +kernel)) ggX6_count_X1_size
set_option maxRecDepth 20000 in
theorem ggX6_count_X6_wornCells : GoodIn wsX6_count wsX6_wornCells := goodIn_r _ [59, 1, 6, 9, 60, 61, 62, 63, 58, 64, 65, 66, 67, 17, 68, 24, 69, 70, 71, 37, 72, 73, 74, 75, 76, 77, 78, 79, 44, 80, 46, 81, 82, 83, 84, 85, 54, 42, 43, 45, 47, 48, 49, 50, 51, 52, 53, 110, 111, 112, 113, 114, 115, 116, 117, 118, 119, 120, 121, 122, 123, 124, 125, 126, 127, 128, 129, 130] (by decide +kernel) (by decide +kernel)
set_option maxRecDepth 20000 in
theorem gX6_count_X6_wornCells : GoodIn wsX6_count (wsV RX6 97 RX6 yX6_wornCells wsX6_wornCells) := goodIn_app (goodIn_of _ (by decide +kernel)) ggX6_count_X6_wornCells
set_option maxRecDepth 20000 in
theorem ggX6_count_X3_size : GoodIn wsX6_count wsX3_size := goodIn_r _ [90, 91, 131, 132, 133] (by decide +kernel) (by decide +kernel)
set_option maxRecDepth 20000 in
theorem gX6_count_X3_size : GoodIn wsX6_count (wsV RX6 180 RX3 yX3_size wsX3_size) := goodIn_app (goodIn_of _ (by decide +kernel)) ggX6_count_X3_size
set_option maxRecDepth 20000 in
theorem ggX6_count_X5_snapshots : GoodIn wsX6_count wsX5_snapshots := goodIn_r _ [95, 96, 97, 75, 58, 76, 115, 116, 117, 118, 119, 120, 121, 122, 123, 124] (by decide +kernel) (by decide +kernel)
set_option maxRecDepth 20000 in
theorem gX6_count_X5_snapshots : GoodIn wsX6_count (wsV RX6 183 RX5 yX5_snapshots wsX5_snapshots) := goodIn_app (goodIn_of _ (by decide +kernel)) ggX6_count_X5_snapshots
set_option maxRecDepth 20000 in
theorem ggX6_count_X2_size : GoodIn wsX6_count wsX2_size := goodIn_r _ [102, 103, 134, 135, 136] (by decide +kernel) (by decide +kernel)
set_option maxRecDepth 20000 in
theorem gX6_count_X2_size : GoodIn wsX6_count (wsV RX6 149 RX2 yX2_size wsX2_size) := goodIn_app (goodIn_of _ (by decide +kernel)) ggX6_count_X2_size
set_option maxRecDepth 20000 in
theorem ggX6_count_X4_length : GoodIn wsX6_count wsX4_length := goodIn_r _ [108, 109, 137, 138, 139, 140, 141, 142] (by decide +kernel) (by decide +kernel)
set_option maxRecDepth 20000 in
theorem gX6_count_X4_length : GoodIn wsX6_count (wsV RX6 153 RX4 yX4_length wsX4_length) := goodIn_app (goodIn_of _ (by decide +kernel)) ggX6_count_X4_length
theorem dX6_count_0 : decode cX6_count 0 = .ok (.iload_n 1, 1) := by decide +kernel
theorem dX6_count_1 : decode cX6_count 1 = .ok (.tableswitch 258 0 19 #[95, 103, 103, 103, 103, 103, 115, 123, 131, 139, 147, 162, 176, 190, 204, 218, 223, 234, 242, 250], 95) := by decide +kernel
theorem dX6_count_96 : decode cX6_count 96 = .ok (.aload_n 0, 1) := by decide +kernel
theorem dX6_count_97 : decode cX6_count 97 = .ok (.getfield 10, 3) := by decide +kernel
theorem dX6_count_100 : decode cX6_count 100 = .ok (.getfield 130, 3) := by decide +kernel
theorem dX6_count_103 : decode cX6_count 103 = .ok (.ireturn, 1) := by decide +kernel
theorem dX6_count_104 : decode cX6_count 104 = .ok (.aload_n 0, 1) := by decide +kernel
theorem dX6_count_105 : decode cX6_count 105 = .ok (.getfield 10, 3) := by decide +kernel
theorem dX6_count_108 : decode cX6_count 108 = .ok (.getfield 127, 3) := by decide +kernel
theorem dX6_count_111 : decode cX6_count 111 = .ok (.iload_n 1, 1) := by decide +kernel
theorem dX6_count_112 : decode cX6_count 112 = .ok (.iconst 1, 1) := by decide +kernel
theorem dX6_count_113 : decode cX6_count 113 = .ok (.isub, 1) := by decide +kernel
theorem dX6_count_114 : decode cX6_count 114 = .ok (.iaload, 1) := by decide +kernel
theorem dX6_count_115 : decode cX6_count 115 = .ok (.ireturn, 1) := by decide +kernel
theorem dX6_count_116 : decode cX6_count 116 = .ok (.aload_n 0, 1) := by decide +kernel
theorem dX6_count_117 : decode cX6_count 117 = .ok (.getfield 10, 3) := by decide +kernel
theorem dX6_count_120 : decode cX6_count 120 = .ok (.getfield 100, 3) := by decide +kernel
theorem dX6_count_123 : decode cX6_count 123 = .ok (.ireturn, 1) := by decide +kernel
theorem dX6_count_124 : decode cX6_count 124 = .ok (.aload_n 0, 1) := by decide +kernel
theorem dX6_count_125 : decode cX6_count 125 = .ok (.getfield 10, 3) := by decide +kernel
theorem dX6_count_128 : decode cX6_count 128 = .ok (.getfield 104, 3) := by decide +kernel
theorem dX6_count_131 : decode cX6_count 131 = .ok (.ireturn, 1) := by decide +kernel
theorem dX6_count_132 : decode cX6_count 132 = .ok (.aload_n 0, 1) := by decide +kernel
theorem dX6_count_133 : decode cX6_count 133 = .ok (.getfield 10, 3) := by decide +kernel
theorem dX6_count_136 : decode cX6_count 136 = .ok (.invokevirtual 110, 3) := by decide +kernel
theorem dX6_count_139 : decode cX6_count 139 = .ok (.ireturn, 1) := by decide +kernel
theorem dX6_count_140 : decode cX6_count 140 = .ok (.aload_n 0, 1) := by decide +kernel
theorem dX6_count_141 : decode cX6_count 141 = .ok (.getfield 10, 3) := by decide +kernel
theorem dX6_count_144 : decode cX6_count 144 = .ok (.invokevirtual 113, 3) := by decide +kernel
theorem dX6_count_147 : decode cX6_count 147 = .ok (.ireturn, 1) := by decide +kernel
theorem dX6_count_148 : decode cX6_count 148 = .ok (.sipush 192, 3) := by decide +kernel
theorem dX6_count_151 : decode cX6_count 151 = .ok (.aload_n 0, 1) := by decide +kernel
theorem dX6_count_152 : decode cX6_count 152 = .ok (.getfield 10, 3) := by decide +kernel
theorem dX6_count_155 : decode cX6_count 155 = .ok (.getfield 52, 3) := by decide +kernel
theorem dX6_count_158 : decode cX6_count 158 = .ok (.invokevirtual 139, 3) := by decide +kernel
theorem dX6_count_161 : decode cX6_count 161 = .ok (.isub, 1) := by decide +kernel
theorem dX6_count_162 : decode cX6_count 162 = .ok (.ireturn, 1) := by decide +kernel
theorem dX6_count_163 : decode cX6_count 163 = .ok (.aload_n 0, 1) := by decide +kernel
theorem dX6_count_164 : decode cX6_count 164 = .ok (.getfield 10, 3) := by decide +kernel
theorem dX6_count_167 : decode cX6_count 167 = .ok (.getfield 52, 3) := by decide +kernel
theorem dX6_count_170 : decode cX6_count 170 = .ok (.getfield 170, 3) := by decide +kernel
theorem dX6_count_173 : decode cX6_count 173 = .ok (.invokevirtual 69, 3) := by decide +kernel
theorem dX6_count_176 : decode cX6_count 176 = .ok (.ireturn, 1) := by decide +kernel
theorem dX6_count_177 : decode cX6_count 177 = .ok (.aload_n 0, 1) := by decide +kernel
theorem dX6_count_178 : decode cX6_count 178 = .ok (.getfield 10, 3) := by decide +kernel
theorem dX6_count_181 : decode cX6_count 181 = .ok (.getfield 52, 3) := by decide +kernel
theorem dX6_count_184 : decode cX6_count 184 = .ok (.getfield 173, 3) := by decide +kernel
theorem dX6_count_187 : decode cX6_count 187 = .ok (.invokevirtual 69, 3) := by decide +kernel
theorem dX6_count_190 : decode cX6_count 190 = .ok (.ireturn, 1) := by decide +kernel
theorem dX6_count_191 : decode cX6_count 191 = .ok (.aload_n 0, 1) := by decide +kernel
theorem dX6_count_192 : decode cX6_count 192 = .ok (.getfield 10, 3) := by decide +kernel
theorem dX6_count_195 : decode cX6_count 195 = .ok (.getfield 52, 3) := by decide +kernel
theorem dX6_count_198 : decode cX6_count 198 = .ok (.getfield 73, 3) := by decide +kernel
theorem dX6_count_201 : decode cX6_count 201 = .ok (.invokevirtual 69, 3) := by decide +kernel
theorem dX6_count_204 : decode cX6_count 204 = .ok (.ireturn, 1) := by decide +kernel
theorem dX6_count_205 : decode cX6_count 205 = .ok (.aload_n 0, 1) := by decide +kernel
theorem dX6_count_206 : decode cX6_count 206 = .ok (.getfield 10, 3) := by decide +kernel
theorem dX6_count_209 : decode cX6_count 209 = .ok (.getfield 52, 3) := by decide +kernel
theorem dX6_count_212 : decode cX6_count 212 = .ok (.getfield 66, 3) := by decide +kernel
theorem dX6_count_215 : decode cX6_count 215 = .ok (.invokevirtual 69, 3) := by decide +kernel
theorem dX6_count_218 : decode cX6_count 218 = .ok (.ireturn, 1) := by decide +kernel
theorem dX6_count_219 : decode cX6_count 219 = .ok (.aload_n 0, 1) := by decide +kernel
theorem dX6_count_220 : decode cX6_count 220 = .ok (.invokevirtual 97, 3) := by decide +kernel
theorem dX6_count_223 : decode cX6_count 223 = .ok (.ireturn, 1) := by decide +kernel
theorem dX6_count_224 : decode cX6_count 224 = .ok (.aload_n 0, 1) := by decide +kernel
theorem dX6_count_225 : decode cX6_count 225 = .ok (.getfield 10, 3) := by decide +kernel
theorem dX6_count_228 : decode cX6_count 228 = .ok (.getfield 176, 3) := by decide +kernel
theorem dX6_count_231 : decode cX6_count 231 = .ok (.invokevirtual 180, 3) := by decide +kernel
theorem dX6_count_234 : decode cX6_count 234 = .ok (.ireturn, 1) := by decide +kernel
theorem dX6_count_235 : decode cX6_count 235 = .ok (.aload_n 0, 1) := by decide +kernel
theorem dX6_count_236 : decode cX6_count 236 = .ok (.getfield 10, 3) := by decide +kernel
theorem dX6_count_239 : decode cX6_count 239 = .ok (.invokevirtual 183, 3) := by decide +kernel
theorem dX6_count_242 : decode cX6_count 242 = .ok (.ireturn, 1) := by decide +kernel
theorem dX6_count_243 : decode cX6_count 243 = .ok (.aload_n 0, 1) := by decide +kernel
theorem dX6_count_244 : decode cX6_count 244 = .ok (.getfield 19, 3) := by decide +kernel
theorem dX6_count_247 : decode cX6_count 247 = .ok (.invokevirtual 149, 3) := by decide +kernel
theorem dX6_count_250 : decode cX6_count 250 = .ok (.ireturn, 1) := by decide +kernel
theorem dX6_count_251 : decode cX6_count 251 = .ok (.aload_n 0, 1) := by decide +kernel
theorem dX6_count_252 : decode cX6_count 252 = .ok (.getfield 26, 3) := by decide +kernel
theorem dX6_count_255 : decode cX6_count 255 = .ok (.invokevirtual 153, 3) := by decide +kernel
theorem dX6_count_258 : decode cX6_count 258 = .ok (.ireturn, 1) := by decide +kernel
theorem dX6_count_259 : decode cX6_count 259 = .ok (.sipush (-1001), 3) := by decide +kernel
theorem dX6_count_262 : decode cX6_count 262 = .ok (.ireturn, 1) := by decide +kernel
set_option maxRecDepth 20000 in
theorem ggX6_cell_X6_isPlace : GoodIn wsX6_cell wsX6_isPlace := goodIn_r _ [8] (by decide +kernel) (by decide +kernel)
set_option maxRecDepth 20000 in
theorem gX6_cell_X6_isPlace : GoodIn wsX6_cell (va_wsS RX6 40 yX6_isPlace wsX6_isPlace) := goodIn_app (goodIn_of _ (by decide +kernel)) ggX6_cell_X6_isPlace
set_option maxRecDepth 20000 in
theorem ggX6_cell_X0_kindAt : GoodIn wsX6_cell wsX0_kindAt := goodIn_r _ [13, 14, 15, 16, 17, 18, 19, 20, 21, 6, 7, 8, 58, 59, 60, 61, 62, 63] (by decide +kernel) (by decide +kernel)
set_option maxRecDepth 20000 in
theorem gX6_cell_X0_kindAt : GoodIn wsX6_cell (wsV RX6 186 RX0 yX0_kindAt wsX0_kindAt) := goodIn_app (goodIn_of _ (by decide +kernel)) ggX6_cell_X0_kindAt
set_option maxRecDepth 20000 in
theorem ggX6_cell_X1_has : GoodIn wsX6_cell wsX1_has := goodIn_r _ [20, 21, 6, 7, 8, 63] (by decide +kernel) (by decide +kernel)
set_option maxRecDepth 20000 in
theorem gX6_cell_X1_has : GoodIn wsX6_cell (wsV RX6 76 RX1 yX1_has wsX1_has) := goodIn_app (goodIn_of _ (by decide +kernel)) ggX6_cell_X1_has
set_option maxRecDepth 20000 in
theorem ggX6_cell_X6_oneIf : GoodIn wsX6_cell wsX6_oneIf := goodIn_r _ [25] (by decide +kernel) (by decide +kernel)
set_option maxRecDepth 20000 in
theorem gX6_cell_X6_oneIf : GoodIn wsX6_cell (va_wsS RX6 79 yX6_oneIf wsX6_oneIf) := goodIn_app (goodIn_of _ (by decide +kernel)) ggX6_cell_X6_oneIf
set_option maxRecDepth 20000 in
theorem ggX6_cell_X0_wearAt : GoodIn wsX6_cell wsX0_wearAt := goodIn_r _ [29, 30, 6, 7, 8, 58, 59, 60, 61, 62] (by decide +kernel) (by decide +kernel)
set_option maxRecDepth 20000 in
theorem gX6_cell_X0_wearAt : GoodIn wsX6_cell (wsV RX6 189 RX0 yX0_wearAt wsX0_wearAt) := goodIn_app (goodIn_of _ (by decide +kernel)) ggX6_cell_X0_wearAt
set_option maxRecDepth 20000 in
theorem ggX6_cell_X5_hardness : GoodIn wsX6_cell wsX5_hardness := goodIn_r _ [35, 36, 48, 49, 50, 51, 52, 53, 54, 55, 56, 57] (by decide +kernel) (by decide +kernel)
set_option maxRecDepth 20000 in
theorem gX6_cell_X5_hardness : GoodIn wsX6_cell (wsV RX6 91 RX5 yX5_hardness wsX5_hardness) := goodIn_app (goodIn_of _ (by decide +kernel)) ggX6_cell_X5_hardness
set_option maxRecDepth 20000 in
theorem ggX6_cell_X0_isWorn : GoodIn wsX6_cell wsX0_isWorn := goodIn_r _ [40, 41, 16, 17, 18, 19, 20, 21, 6, 7, 8, 42, 27, 28, 12, 29, 30, 58, 59, 60, 61, 62, 63] (by decide +kernel) (by decide +kernel)
set_option maxRecDepth 20000 in
theorem gX6_cell_X0_isWorn : GoodIn wsX6_cell (wsV RX6 94 RX0 yX0_isWorn wsX0_isWorn) := goodIn_app (goodIn_of _ (by decide +kernel)) ggX6_cell_X0_isWorn
theorem dX6_cell_0 : decode cX6_cell 0 = .ok (.iload_n 1, 1) := by decide +kernel
theorem dX6_cell_1 : decode cX6_cell 1 = .ok (.iload_n 2, 1) := by decide +kernel
theorem dX6_cell_2 : decode cX6_cell 2 = .ok (.invokestatic 40, 3) := by decide +kernel
theorem dX6_cell_5 : decode cX6_cell 5 = .ok (.ifCond .ne 7, 3) := by decide +kernel
theorem dX6_cell_8 : decode cX6_cell 8 = .ok (.sipush (-1001), 3) := by decide +kernel
theorem dX6_cell_11 : decode cX6_cell 11 = .ok (.ireturn, 1) := by decide +kernel
theorem dX6_cell_12 : decode cX6_cell 12 = .ok (.iload_n 3, 1) := by decide +kernel
theorem dX6_cell_13 : decode cX6_cell 13 = .ok (.tableswitch 122 0 4 #[35, 48, 67, 86, 99], 35) := by decide +kernel
theorem dX6_cell_48 : decode cX6_cell 48 = .ok (.aload_n 0, 1) := by decide +kernel
theorem dX6_cell_49 : decode cX6_cell 49 = .ok (.getfield 10, 3) := by decide +kernel
theorem dX6_cell_52 : decode cX6_cell 52 = .ok (.getfield 52, 3) := by decide +kernel
theorem dX6_cell_55 : decode cX6_cell 55 = .ok (.iload_n 1, 1) := by decide +kernel
theorem dX6_cell_56 : decode cX6_cell 56 = .ok (.iload_n 2, 1) := by decide +kernel
theorem dX6_cell_57 : decode cX6_cell 57 = .ok (.invokevirtual 186, 3) := by decide +kernel
theorem dX6_cell_60 : decode cX6_cell 60 = .ok (.ireturn, 1) := by decide +kernel
theorem dX6_cell_61 : decode cX6_cell 61 = .ok (.aload_n 0, 1) := by decide +kernel
theorem dX6_cell_62 : decode cX6_cell 62 = .ok (.getfield 10, 3) := by decide +kernel
theorem dX6_cell_65 : decode cX6_cell 65 = .ok (.getfield 52, 3) := by decide +kernel
theorem dX6_cell_68 : decode cX6_cell 68 = .ok (.getfield 73, 3) := by decide +kernel
theorem dX6_cell_71 : decode cX6_cell 71 = .ok (.iload_n 1, 1) := by decide +kernel
theorem dX6_cell_72 : decode cX6_cell 72 = .ok (.iload_n 2, 1) := by decide +kernel
theorem dX6_cell_73 : decode cX6_cell 73 = .ok (.invokevirtual 76, 3) := by decide +kernel
theorem dX6_cell_76 : decode cX6_cell 76 = .ok (.invokestatic 79, 3) := by decide +kernel
theorem dX6_cell_79 : decode cX6_cell 79 = .ok (.ireturn, 1) := by decide +kernel
theorem dX6_cell_80 : decode cX6_cell 80 = .ok (.aload_n 0, 1) := by decide +kernel
theorem dX6_cell_81 : decode cX6_cell 81 = .ok (.getfield 10, 3) := by decide +kernel
theorem dX6_cell_84 : decode cX6_cell 84 = .ok (.getfield 52, 3) := by decide +kernel
theorem dX6_cell_87 : decode cX6_cell 87 = .ok (.getfield 66, 3) := by decide +kernel
theorem dX6_cell_90 : decode cX6_cell 90 = .ok (.iload_n 1, 1) := by decide +kernel
theorem dX6_cell_91 : decode cX6_cell 91 = .ok (.iload_n 2, 1) := by decide +kernel
theorem dX6_cell_92 : decode cX6_cell 92 = .ok (.invokevirtual 76, 3) := by decide +kernel
theorem dX6_cell_95 : decode cX6_cell 95 = .ok (.invokestatic 79, 3) := by decide +kernel
theorem dX6_cell_98 : decode cX6_cell 98 = .ok (.ireturn, 1) := by decide +kernel
theorem dX6_cell_99 : decode cX6_cell 99 = .ok (.aload_n 0, 1) := by decide +kernel
theorem dX6_cell_100 : decode cX6_cell 100 = .ok (.getfield 10, 3) := by decide +kernel
theorem dX6_cell_103 : decode cX6_cell 103 = .ok (.getfield 52, 3) := by decide +kernel
theorem dX6_cell_106 : decode cX6_cell 106 = .ok (.iload_n 1, 1) := by decide +kernel
theorem dX6_cell_107 : decode cX6_cell 107 = .ok (.iload_n 2, 1) := by decide +kernel
theorem dX6_cell_108 : decode cX6_cell 108 = .ok (.invokevirtual 189, 3) := by decide +kernel
theorem dX6_cell_111 : decode cX6_cell 111 = .ok (.ireturn, 1) := by decide +kernel
theorem dX6_cell_112 : decode cX6_cell 112 = .ok (.aload_n 0, 1) := by decide +kernel
theorem dX6_cell_113 : decode cX6_cell 113 = .ok (.getfield 10, 3) := by decide +kernel
theorem dX6_cell_116 : decode cX6_cell 116 = .ok (.getfield 52, 3) := by decide +kernel
theorem dX6_cell_119 : decode cX6_cell 119 = .ok (.iload_n 1, 1) := by decide +kernel
theorem dX6_cell_120 : decode cX6_cell 120 = .ok (.iload_n 2, 1) := by decide +kernel
theorem dX6_cell_121 : decode cX6_cell 121 = .ok (.aload_n 0, 1) := by decide +kernel
theorem dX6_cell_122 : decode cX6_cell 122 = .ok (.getfield 10, 3) := by decide +kernel
theorem dX6_cell_125 : decode cX6_cell 125 = .ok (.invokevirtual 91, 3) := by decide +kernel
theorem dX6_cell_128 : decode cX6_cell 128 = .ok (.invokevirtual 94, 3) := by decide +kernel
theorem dX6_cell_131 : decode cX6_cell 131 = .ok (.invokestatic 79, 3) := by decide +kernel
theorem dX6_cell_134 : decode cX6_cell 134 = .ok (.ireturn, 1) := by decide +kernel
theorem dX6_cell_135 : decode cX6_cell 135 = .ok (.sipush (-1001), 3) := by decide +kernel
theorem dX6_cell_138 : decode cX6_cell 138 = .ok (.ireturn, 1) := by decide +kernel
set_option maxRecDepth 20000 in
theorem ggX6_printed_X6_isPlace : GoodIn wsX6_printed wsX6_isPlace := goodIn_r _ [5] (by decide +kernel) (by decide +kernel)
set_option maxRecDepth 20000 in
theorem gX6_printed_X6_isPlace : GoodIn wsX6_printed (va_wsS RX6 40 yX6_isPlace wsX6_isPlace) := goodIn_app (goodIn_of _ (by decide +kernel)) ggX6_printed_X6_isPlace
set_option maxRecDepth 20000 in
theorem ggX6_printed_X6_isShift : GoodIn wsX6_printed wsX6_isShift := goodIn_r _ [8, 9, 10, 4, 11] (by decide +kernel) (by decide +kernel)
set_option maxRecDepth 20000 in
theorem gX6_printed_X6_isShift : GoodIn wsX6_printed (va_wsS RX6 192 yX6_isShift wsX6_isShift) := goodIn_app (goodIn_of _ (by decide +kernel)) ggX6_printed_X6_isShift
set_option maxRecDepth 20000 in
theorem ggX6_printed_X6_findInk : GoodIn wsX6_printed wsX6_findInk := goodIn_r _ [15, 16, 17, 1, 18, 19, 20, 21, 22, 23, 24, 25, 26, 27, 28, 29, 30, 31, 4, 32, 33, 34, 35, 36, 37, 38, 39, 40, 41, 42, 43, 54, 55, 56, 57, 58, 59, 60, 61, 62, 63, 64, 65, 66, 67, 68, 69, 70, 71, 72, 73, 74] (by decide +kernel) (by decide +kernel)
set_option maxRecDepth 20000 in
theorem gX6_printed_X6_findInk : GoodIn wsX6_printed (wsV RX6 107 RX6 yX6_findInk wsX6_findInk) := goodIn_app (goodIn_of _ (by decide +kernel)) ggX6_printed_X6_findInk
set_option maxRecDepth 20000 in
theorem ggX6_printed_X6_printsColour : GoodIn wsX6_printed wsX6_printsColour := goodIn_r _ [47, 16, 17, 48, 49, 50, 51, 36, 52, 38, 3, 4, 5, 54, 55, 56, 57, 58, 59, 60, 61, 62, 63, 64, 65, 66, 67, 68, 69, 70, 71, 72, 73, 74] (by decide +kernel) (by decide +kernel)
set_option maxRecDepth 20000 in
theorem gX6_printed_X6_printsColour : GoodIn wsX6_printed (wsV RX6 195 RX6 yX6_printsColour wsX6_printsColour) := goodIn_app (goodIn_of _ (by decide +kernel)) ggX6_printed_X6_printsColour
set_option maxRecDepth 20000 in
theorem ggX6_printed_X6_oneIf : GoodIn wsX6_printed wsX6_oneIf := goodIn_r _ [32] (by decide +kernel) (by decide +kernel)
set_option maxRecDepth 20000 in
theorem gX6_printed_X6_oneIf : GoodIn wsX6_printed (va_wsS RX6 79 yX6_oneIf wsX6_oneIf) := goodIn_app (goodIn_of _ (by decide +kernel)) ggX6_printed_X6_oneIf
set_option maxRecDepth 20000 in
theorem ggX6_printed_X1_has : GoodIn wsX6_printed wsX1_has := goodIn_r _ [52, 38, 3, 4, 5, 74] (by decide +kernel) (by decide +kernel)
set_option maxRecDepth 20000 in
theorem gX6_printed_X1_has : GoodIn wsX6_printed (wsV RX6 76 RX1 yX1_has wsX1_has) := goodIn_app (goodIn_of _ (by decide +kernel)) ggX6_printed_X1_has
theorem dX6_printed_0 : decode cX6_printed 0 = .ok (.iload_n 1, 1) := by decide +kernel
theorem dX6_printed_1 : decode cX6_printed 1 = .ok (.iload_n 2, 1) := by decide +kernel
theorem dX6_printed_2 : decode cX6_printed 2 = .ok (.invokestatic 40, 3) := by decide +kernel
theorem dX6_printed_5 : decode cX6_printed 5 = .ok (.ifCond .eq 12, 3) := by decide +kernel
theorem dX6_printed_8 : decode cX6_printed 8 = .ok (.iload_n 3, 1) := by decide +kernel
theorem dX6_printed_9 : decode cX6_printed 9 = .ok (.iload 4, 2) := by decide +kernel
theorem dX6_printed_11 : decode cX6_printed 11 = .ok (.invokestatic 192, 3) := by decide +kernel
theorem dX6_printed_14 : decode cX6_printed 14 = .ok (.ifCond .ne 7, 3) := by decide +kernel
theorem dX6_printed_17 : decode cX6_printed 17 = .ok (.sipush (-1001), 3) := by decide +kernel
theorem dX6_printed_20 : decode cX6_printed 20 = .ok (.ireturn, 1) := by decide +kernel
theorem dX6_printed_21 : decode cX6_printed 21 = .ok (.aload_n 0, 1) := by decide +kernel
theorem dX6_printed_22 : decode cX6_printed 22 = .ok (.invokevirtual 107, 3) := by decide +kernel
theorem dX6_printed_25 : decode cX6_printed 25 = .ok (.aload_n 0, 1) := by decide +kernel
theorem dX6_printed_26 : decode cX6_printed 26 = .ok (.iload_n 1, 1) := by decide +kernel
theorem dX6_printed_27 : decode cX6_printed 27 = .ok (.iload_n 2, 1) := by decide +kernel
theorem dX6_printed_28 : decode cX6_printed 28 = .ok (.iload_n 3, 1) := by decide +kernel
theorem dX6_printed_29 : decode cX6_printed 29 = .ok (.iload 4, 2) := by decide +kernel
theorem dX6_printed_31 : decode cX6_printed 31 = .ok (.invokevirtual 195, 3) := by decide +kernel
theorem dX6_printed_34 : decode cX6_printed 34 = .ok (.invokestatic 79, 3) := by decide +kernel
theorem dX6_printed_37 : decode cX6_printed 37 = .ok (.iconst 2, 1) := by decide +kernel
theorem dX6_printed_38 : decode cX6_printed 38 = .ok (.aload_n 0, 1) := by decide +kernel
theorem dX6_printed_39 : decode cX6_printed 39 = .ok (.getfield 33, 3) := by decide +kernel
theorem dX6_printed_42 : decode cX6_printed 42 = .ok (.iload_n 1, 1) := by decide +kernel
theorem dX6_printed_43 : decode cX6_printed 43 = .ok (.iload_n 2, 1) := by decide +kernel
theorem dX6_printed_44 : decode cX6_printed 44 = .ok (.invokevirtual 76, 3) := by decide +kernel
theorem dX6_printed_47 : decode cX6_printed 47 = .ok (.invokestatic 79, 3) := by decide +kernel
theorem dX6_printed_50 : decode cX6_printed 50 = .ok (.imul, 1) := by decide +kernel
theorem dX6_printed_51 : decode cX6_printed 51 = .ok (.iadd, 1) := by decide +kernel
theorem dX6_printed_52 : decode cX6_printed 52 = .ok (.ireturn, 1) := by decide +kernel
set_option maxRecDepth 20000 in
theorem ggX6_proof_X6_isWithin : GoodIn wsX6_proof wsX6_isWithin := goodIn_r _ [6] (by decide +kernel) (by decide +kernel)
set_option maxRecDepth 20000 in
theorem gX6_proof_X6_isWithin : GoodIn wsX6_proof (va_wsS RX6 44 yX6_isWithin wsX6_isWithin) := goodIn_app (goodIn_of _ (by decide +kernel)) ggX6_proof_X6_isWithin
set_option maxRecDepth 20000 in
theorem ggX6_proof_X3_size : GoodIn wsX6_proof wsX3_size := goodIn_r _ [11, 12, 34, 35, 36] (by decide +kernel) (by decide +kernel)
set_option maxRecDepth 20000 in
theorem gX6_proof_X3_size : GoodIn wsX6_proof (wsV RX6 180 RX3 yX3_size wsX3_size) := goodIn_app (goodIn_of _ (by decide +kernel)) ggX6_proof_X3_size
set_option maxRecDepth 20000 in
theorem ggX6_proof_X3_partOf : GoodIn wsX6_proof wsX3_partOf := goodIn_r _ [16, 17, 18, 4, 5, 6, 34, 35, 36] (by decide +kernel) (by decide +kernel)
set_option maxRecDepth 20000 in
theorem gX6_proof_X3_partOf : GoodIn wsX6_proof (wsV RX6 199 RX3 yX3_partOf wsX3_partOf) := goodIn_app (goodIn_of _ (by decide +kernel)) ggX6_proof_X3_partOf
theorem dX6_proof_0 : decode cX6_proof 0 = .ok (.iload_n 1, 1) := by decide +kernel
theorem dX6_proof_1 : decode cX6_proof 1 = .ok (.ifCond .lt 12, 3) := by decide +kernel
theorem dX6_proof_4 : decode cX6_proof 4 = .ok (.iload_n 2, 1) := by decide +kernel
theorem dX6_proof_5 : decode cX6_proof 5 = .ok (.iconst 0, 1) := by decide +kernel
theorem dX6_proof_6 : decode cX6_proof 6 = .ok (.iconst 5, 1) := by decide +kernel
theorem dX6_proof_7 : decode cX6_proof 7 = .ok (.invokestatic 44, 3) := by decide +kernel
theorem dX6_proof_10 : decode cX6_proof 10 = .ok (.ifCond .ne 7, 3) := by decide +kernel
theorem dX6_proof_13 : decode cX6_proof 13 = .ok (.sipush (-1001), 3) := by decide +kernel
theorem dX6_proof_16 : decode cX6_proof 16 = .ok (.ireturn, 1) := by decide +kernel
theorem dX6_proof_17 : decode cX6_proof 17 = .ok (.iload_n 1, 1) := by decide +kernel
theorem dX6_proof_18 : decode cX6_proof 18 = .ok (.aload_n 0, 1) := by decide +kernel
theorem dX6_proof_19 : decode cX6_proof 19 = .ok (.getfield 10, 3) := by decide +kernel
theorem dX6_proof_22 : decode cX6_proof 22 = .ok (.getfield 176, 3) := by decide +kernel
theorem dX6_proof_25 : decode cX6_proof 25 = .ok (.invokevirtual 180, 3) := by decide +kernel
theorem dX6_proof_28 : decode cX6_proof 28 = .ok (.if_icmp .lt 7, 3) := by decide +kernel
theorem dX6_proof_31 : decode cX6_proof 31 = .ok (.sipush (-1009), 3) := by decide +kernel
theorem dX6_proof_34 : decode cX6_proof 34 = .ok (.ireturn, 1) := by decide +kernel
theorem dX6_proof_35 : decode cX6_proof 35 = .ok (.aload_n 0, 1) := by decide +kernel
theorem dX6_proof_36 : decode cX6_proof 36 = .ok (.getfield 10, 3) := by decide +kernel
theorem dX6_proof_39 : decode cX6_proof 39 = .ok (.getfield 176, 3) := by decide +kernel
theorem dX6_proof_42 : decode cX6_proof 42 = .ok (.iload_n 1, 1) := by decide +kernel
theorem dX6_proof_43 : decode cX6_proof 43 = .ok (.iload_n 2, 1) := by decide +kernel
theorem dX6_proof_44 : decode cX6_proof 44 = .ok (.invokevirtual 199, 3) := by decide +kernel
theorem dX6_proof_47 : decode cX6_proof 47 = .ok (.ireturn, 1) := by decide +kernel
set_option maxRecDepth 20000 in
theorem ggX6_faults_X6_isShift : GoodIn wsX6_faults wsX6_isShift := goodIn_r _ [7, 8, 9, 6, 10] (by decide +kernel) (by decide +kernel)
set_option maxRecDepth 20000 in
theorem gX6_faults_X6_isShift : GoodIn wsX6_faults (va_wsS RX6 192 yX6_isShift wsX6_isShift) := goodIn_app (goodIn_of _ (by decide +kernel)) ggX6_faults_X6_isShift
set_option maxRecDepth 20000 in
theorem ggX6_faults_X6_findInk : GoodIn wsX6_faults wsX6_findInk := goodIn_r _ [14, 1, 2, 3, 15, 16, 17, 18, 19, 20, 21, 22, 23, 24, 25, 26, 27, 28, 6, 29, 30, 31, 32, 33, 34, 35, 36, 37, 38, 39, 40, 76, 77, 78, 79, 80, 81, 82, 83, 84, 85, 86, 87, 88, 89, 90, 91, 92, 93, 94, 95, 96] (by decide +kernel) (by decide +kernel)
set_option maxRecDepth 20000 in
theorem gX6_faults_X6_findInk : GoodIn wsX6_faults (wsV RX6 107 RX6 yX6_findInk wsX6_findInk) := goodIn_app (goodIn_of _ (by decide +kernel)) ggX6_faults_X6_findInk
set_option maxRecDepth 20000 in
theorem ggX6_faults_X6_gapsWith : GoodIn wsX6_faults wsX6_gapsWith := goodIn_r _ [44, 1, 2, 3, 45, 46, 47, 48, 24, 49, 50, 51, 30, 31, 32, 33, 34, 35, 52, 53, 54, 55, 40, 56, 57, 58, 59, 60, 61, 62, 63, 76, 77, 78, 79, 80, 81, 82, 83, 84, 85, 86, 87, 88, 89, 90, 91, 92, 93, 94, 95, 96] (by decide +kernel) (by decide +kernel)
set_option maxRecDepth 20000 in
theorem gX6_faults_X6_gapsWith : GoodIn wsX6_faults (wsV RX6 116 RX6 yX6_gapsWith wsX6_gapsWith) := goodIn_app (goodIn_of _ (by decide +kernel)) ggX6_faults_X6_gapsWith
set_option maxRecDepth 20000 in
theorem ggX6_faults_X6_spillsWith : GoodIn wsX6_faults wsX6_spillsWith := goodIn_r _ [67, 1, 2, 45, 68, 69, 70, 24, 71, 50, 51, 30, 31, 32, 33, 34, 35, 52, 53, 54, 55, 40, 56, 57, 58, 59, 60, 61, 62, 63, 76, 77, 78, 79, 80, 81, 82, 83, 84, 85, 86, 87, 88, 89, 90, 91, 92, 93, 94, 95, 96] (by decide +kernel) (by decide +kernel)
set_option maxRecDepth 20000 in
theorem gX6_faults_X6_spillsWith : GoodIn wsX6_faults (wsV RX6 202 RX6 yX6_spillsWith wsX6_spillsWith) := goodIn_app (goodIn_of _ (by decide +kernel)) ggX6_faults_X6_spillsWith
set_option maxRecDepth 20000 in
theorem ggX6_faults_X0_lostLines : GoodIn wsX6_faults wsX0_lostLines := goodIn_r _ [75, 51, 30, 31, 32, 33, 34, 35, 57, 58, 59, 60, 61, 62, 63, 91, 92, 93, 94, 95, 96] (by decide +kernel) (by decide +kernel)
set_option maxRecDepth 20000 in
theorem gX6_faults_X0_lostLines : GoodIn wsX6_faults (wsV RX6 205 RX0 yX0_lostLines wsX0_lostLines) := goodIn_app (goodIn_of _ (by decide +kernel)) ggX6_faults_X0_lostLines
theorem dX6_faults_0 : decode cX6_faults 0 = .ok (.iload_n 1, 1) := by decide +kernel
theorem dX6_faults_1 : decode cX6_faults 1 = .ok (.iload_n 2, 1) := by decide +kernel
theorem dX6_faults_2 : decode cX6_faults 2 = .ok (.invokestatic 192, 3) := by decide +kernel
theorem dX6_faults_5 : decode cX6_faults 5 = .ok (.ifCond .ne 7, 3) := by decide +kernel
theorem dX6_faults_8 : decode cX6_faults 8 = .ok (.sipush (-1001), 3) := by decide +kernel
theorem dX6_faults_11 : decode cX6_faults 11 = .ok (.ireturn, 1) := by decide +kernel
theorem dX6_faults_12 : decode cX6_faults 12 = .ok (.aload_n 0, 1) := by decide +kernel
theorem dX6_faults_13 : decode cX6_faults 13 = .ok (.invokevirtual 107, 3) := by decide +kernel
theorem dX6_faults_16 : decode cX6_faults 16 = .ok (.iload_n 3, 1) := by decide +kernel
theorem dX6_faults_17 : decode cX6_faults 17 = .ok (.tableswitch 56 0 2 #[27, 34, 41], 27) := by decide +kernel
theorem dX6_faults_44 : decode cX6_faults 44 = .ok (.aload_n 0, 1) := by decide +kernel
theorem dX6_faults_45 : decode cX6_faults 45 = .ok (.iload_n 1, 1) := by decide +kernel
theorem dX6_faults_46 : decode cX6_faults 46 = .ok (.iload_n 2, 1) := by decide +kernel
theorem dX6_faults_47 : decode cX6_faults 47 = .ok (.invokevirtual 116, 3) := by decide +kernel
theorem dX6_faults_50 : decode cX6_faults 50 = .ok (.ireturn, 1) := by decide +kernel
theorem dX6_faults_51 : decode cX6_faults 51 = .ok (.aload_n 0, 1) := by decide +kernel
theorem dX6_faults_52 : decode cX6_faults 52 = .ok (.iload_n 1, 1) := by decide +kernel
theorem dX6_faults_53 : decode cX6_faults 53 = .ok (.iload_n 2, 1) := by decide +kernel
theorem dX6_faults_54 : decode cX6_faults 54 = .ok (.invokevirtual 202, 3) := by decide +kernel
theorem dX6_faults_57 : decode cX6_faults 57 = .ok (.ireturn, 1) := by decide +kernel
theorem dX6_faults_58 : decode cX6_faults 58 = .ok (.aload_n 0, 1) := by decide +kernel
theorem dX6_faults_59 : decode cX6_faults 59 = .ok (.getfield 10, 3) := by decide +kernel
theorem dX6_faults_62 : decode cX6_faults 62 = .ok (.getfield 52, 3) := by decide +kernel
theorem dX6_faults_65 : decode cX6_faults 65 = .ok (.aload_n 0, 1) := by decide +kernel
theorem dX6_faults_66 : decode cX6_faults 66 = .ok (.getfield 33, 3) := by decide +kernel
theorem dX6_faults_69 : decode cX6_faults 69 = .ok (.invokevirtual 205, 3) := by decide +kernel
theorem dX6_faults_72 : decode cX6_faults 72 = .ok (.ireturn, 1) := by decide +kernel
theorem dX6_faults_73 : decode cX6_faults 73 = .ok (.sipush (-1001), 3) := by decide +kernel
theorem dX6_faults_76 : decode cX6_faults 76 = .ok (.ireturn, 1) := by decide +kernel
set_option maxRecDepth 20000 in
theorem ggX6_why_X6_isPlace : GoodIn wsX6_why wsX6_isPlace := goodIn_r _ [7] (by decide +kernel) (by decide +kernel)
set_option maxRecDepth 20000 in
theorem gX6_why_X6_isPlace : GoodIn wsX6_why (va_wsS RX6 40 yX6_isPlace wsX6_isPlace) := goodIn_app (goodIn_of _ (by decide +kernel)) ggX6_why_X6_isPlace
set_option maxRecDepth 20000 in
theorem ggX6_why_X6_findInk : GoodIn wsX6_why wsX6_findInk := goodIn_r _ [11, 1, 2, 3, 12, 13, 14, 15, 16, 17, 18, 19, 20, 21, 22, 23, 24, 25, 6, 26, 27, 28, 29, 30, 31, 32, 33, 34, 35, 36, 37, 80, 81, 82, 83, 84, 85, 86, 87, 88, 89, 90, 91, 92, 93, 94, 95, 96, 97, 98, 99, 100] (by decide +kernel) (by decide +kernel)
set_option maxRecDepth 20000 in
theorem gX6_why_X6_findInk : GoodIn wsX6_why (wsV RX6 107 RX6 yX6_findInk wsX6_findInk) := goodIn_app (goodIn_of _ (by decide +kernel)) ggX6_why_X6_findInk
set_option maxRecDepth 20000 in
theorem ggX6_why_X0_kindAt : GoodIn wsX6_why wsX0_kindAt := goodIn_r _ [41, 42, 43, 44, 45, 46, 30, 47, 32, 5, 6, 7, 95, 96, 97, 98, 99, 100] (by decide +kernel) (by decide +kernel)
set_option maxRecDepth 20000 in
theorem gX6_why_X0_kindAt : GoodIn wsX6_why (wsV RX6 186 RX0 yX0_kindAt wsX0_kindAt) := goodIn_app (goodIn_of _ (by decide +kernel)) ggX6_why_X0_kindAt
set_option maxRecDepth 20000 in
theorem ggX6_why_X1_has : GoodIn wsX6_why wsX1_has := goodIn_r _ [47, 32, 5, 6, 7, 100] (by decide +kernel) (by decide +kernel)
set_option maxRecDepth 20000 in
theorem gX6_why_X1_has : GoodIn wsX6_why (wsV RX6 76 RX1 yX1_has wsX1_has) := goodIn_app (goodIn_of _ (by decide +kernel)) ggX6_why_X1_has
set_option maxRecDepth 20000 in
theorem ggX6_why_X5_shiftX : GoodIn wsX6_why wsX5_shiftX := goodIn_r _ [52, 53, 54, 55, 56, 15, 57, 17, 85, 86, 87, 88, 89, 90, 91, 92, 93, 94] (by decide +kernel) (by decide +kernel)
set_option maxRecDepth 20000 in
theorem gX6_why_X5_shiftX : GoodIn wsX6_why (wsV RX6 110 RX5 yX5_shiftX wsX5_shiftX) := goodIn_app (goodIn_of _ (by decide +kernel)) ggX6_why_X5_shiftX
set_option maxRecDepth 20000 in
theorem ggX6_why_X5_shiftY : GoodIn wsX6_why wsX5_shiftY := goodIn_r _ [61, 62, 63, 64, 65, 15, 66, 17, 85, 86, 87, 88, 89, 90, 91, 92, 93, 94] (by decide +kernel) (by decide +kernel)
set_option maxRecDepth 20000 in
theorem gX6_why_X5_shiftY : GoodIn wsX6_why (wsV RX6 113 RX5 yX5_shiftY wsX5_shiftY) := goodIn_app (goodIn_of _ (by decide +kernel)) ggX6_why_X5_shiftY
set_option maxRecDepth 20000 in
theorem ggX6_why_X6_printsColour : GoodIn wsX6_why wsX6_printsColour := goodIn_r _ [70, 1, 2, 71, 48, 45, 46, 30, 47, 32, 5, 6, 7, 80, 81, 82, 83, 84, 85, 86, 87, 88, 89, 90, 91, 92, 93, 94, 95, 96, 97, 98, 99, 100] (by decide +kernel) (by decide +kernel)
set_option maxRecDepth 20000 in
theorem gX6_why_X6_printsColour : GoodIn wsX6_why (wsV RX6 195 RX6 yX6_printsColour wsX6_printsColour) := goodIn_app (goodIn_of _ (by decide +kernel)) ggX6_why_X6_printsColour
set_option maxRecDepth 20000 in
theorem ggX6_why_X5_hardness : GoodIn wsX6_why wsX5_hardness := goodIn_r _ [16, 17, 85, 86, 87, 88, 89, 90, 91, 92, 93, 94] (by decide +kernel) (by decide +kernel)
set_option maxRecDepth 20000 in
theorem gX6_why_X5_hardness : GoodIn wsX6_why (wsV RX6 91 RX5 yX5_hardness wsX5_hardness) := goodIn_app (goodIn_of _ (by decide +kernel)) ggX6_why_X5_hardness
set_option maxRecDepth 20000 in
theorem ggX6_why_X0_isWorn : GoodIn wsX6_why wsX0_isWorn := goodIn_r _ [75, 24, 44, 45, 46, 30, 47, 32, 5, 6, 7, 76, 77, 78, 21, 79, 23, 95, 96, 97, 98, 99, 100] (by decide +kernel) (by decide +kernel)
set_option maxRecDepth 20000 in
theorem gX6_why_X0_isWorn : GoodIn wsX6_why (wsV RX6 94 RX0 yX0_isWorn wsX0_isWorn) := goodIn_app (goodIn_of _ (by decide +kernel)) ggX6_why_X0_isWorn
theorem dX6_why_0 : decode cX6_why 0 = .ok (.iload_n 1, 1) := by decide +kernel
theorem dX6_why_1 : decode cX6_why 1 = .ok (.iload_n 2, 1) := by decide +kernel
theorem dX6_why_2 : decode cX6_why 2 = .ok (.invokestatic 40, 3) := by decide +kernel
theorem dX6_why_5 : decode cX6_why 5 = .ok (.ifCond .ne 7, 3) := by decide +kernel
theorem dX6_why_8 : decode cX6_why 8 = .ok (.sipush (-1001), 3) := by decide +kernel
theorem dX6_why_11 : decode cX6_why 11 = .ok (.ireturn, 1) := by decide +kernel
theorem dX6_why_12 : decode cX6_why 12 = .ok (.aload_n 0, 1) := by decide +kernel
theorem dX6_why_13 : decode cX6_why 13 = .ok (.invokevirtual 107, 3) := by decide +kernel
theorem dX6_why_16 : decode cX6_why 16 = .ok (.aload_n 0, 1) := by decide +kernel
theorem dX6_why_17 : decode cX6_why 17 = .ok (.getfield 10, 3) := by decide +kernel
theorem dX6_why_20 : decode cX6_why 20 = .ok (.getfield 52, 3) := by decide +kernel
theorem dX6_why_23 : decode cX6_why 23 = .ok (.iload_n 1, 1) := by decide +kernel
theorem dX6_why_24 : decode cX6_why 24 = .ok (.iload_n 2, 1) := by decide +kernel
theorem dX6_why_25 : decode cX6_why 25 = .ok (.invokevirtual 186, 3) := by decide +kernel
theorem dX6_why_28 : decode cX6_why 28 = .ok (.istore_n 3, 1) := by decide +kernel
theorem dX6_why_29 : decode cX6_why 29 = .ok (.aload_n 0, 1) := by decide +kernel
theorem dX6_why_30 : decode cX6_why 30 = .ok (.getfield 33, 3) := by decide +kernel
theorem dX6_why_33 : decode cX6_why 33 = .ok (.iload_n 1, 1) := by decide +kernel
theorem dX6_why_34 : decode cX6_why 34 = .ok (.iload_n 2, 1) := by decide +kernel
theorem dX6_why_35 : decode cX6_why 35 = .ok (.invokevirtual 76, 3) := by decide +kernel
theorem dX6_why_38 : decode cX6_why 38 = .ok (.istore 4, 2) := by decide +kernel
theorem dX6_why_40 : decode cX6_why 40 = .ok (.aload_n 0, 1) := by decide +kernel
theorem dX6_why_41 : decode cX6_why 41 = .ok (.iload_n 1, 1) := by decide +kernel
theorem dX6_why_42 : decode cX6_why 42 = .ok (.iload_n 2, 1) := by decide +kernel
theorem dX6_why_43 : decode cX6_why 43 = .ok (.aload_n 0, 1) := by decide +kernel
theorem dX6_why_44 : decode cX6_why 44 = .ok (.getfield 10, 3) := by decide +kernel
theorem dX6_why_47 : decode cX6_why 47 = .ok (.invokevirtual 110, 3) := by decide +kernel
theorem dX6_why_50 : decode cX6_why 50 = .ok (.aload_n 0, 1) := by decide +kernel
theorem dX6_why_51 : decode cX6_why 51 = .ok (.getfield 10, 3) := by decide +kernel
theorem dX6_why_54 : decode cX6_why 54 = .ok (.invokevirtual 113, 3) := by decide +kernel
theorem dX6_why_57 : decode cX6_why 57 = .ok (.invokevirtual 195, 3) := by decide +kernel
theorem dX6_why_60 : decode cX6_why 60 = .ok (.istore 5, 2) := by decide +kernel
theorem dX6_why_62 : decode cX6_why 62 = .ok (.iload_n 3, 1) := by decide +kernel
theorem dX6_why_63 : decode cX6_why 63 = .ok (.ifCond .eq 41, 3) := by decide +kernel
theorem dX6_why_66 : decode cX6_why 66 = .ok (.iload 4, 2) := by decide +kernel
theorem dX6_why_68 : decode cX6_why 68 = .ok (.ifCond .ne 36, 3) := by decide +kernel
theorem dX6_why_71 : decode cX6_why 71 = .ok (.iload 5, 2) := by decide +kernel
theorem dX6_why_73 : decode cX6_why 73 = .ok (.ifCond .ne 31, 3) := by decide +kernel
theorem dX6_why_76 : decode cX6_why 76 = .ok (.aload_n 0, 1) := by decide +kernel
theorem dX6_why_77 : decode cX6_why 77 = .ok (.getfield 10, 3) := by decide +kernel
theorem dX6_why_80 : decode cX6_why 80 = .ok (.getfield 52, 3) := by decide +kernel
theorem dX6_why_83 : decode cX6_why 83 = .ok (.iload_n 1, 1) := by decide +kernel
theorem dX6_why_84 : decode cX6_why 84 = .ok (.iload_n 2, 1) := by decide +kernel
theorem dX6_why_85 : decode cX6_why 85 = .ok (.aload_n 0, 1) := by decide +kernel
theorem dX6_why_86 : decode cX6_why 86 = .ok (.getfield 10, 3) := by decide +kernel
theorem dX6_why_89 : decode cX6_why 89 = .ok (.invokevirtual 91, 3) := by decide +kernel
theorem dX6_why_92 : decode cX6_why 92 = .ok (.invokevirtual 94, 3) := by decide +kernel
theorem dX6_why_95 : decode cX6_why 95 = .ok (.ifCond .eq 7, 3) := by decide +kernel
theorem dX6_why_98 : decode cX6_why 98 = .ok (.iconst 1, 1) := by decide +kernel
theorem dX6_why_99 : decode cX6_why 99 = .ok (.goto 4, 3) := by decide +kernel
theorem dX6_why_102 : decode cX6_why 102 = .ok (.iconst 2, 1) := by decide +kernel
theorem dX6_why_103 : decode cX6_why 103 = .ok (.ireturn, 1) := by decide +kernel
theorem dX6_why_104 : decode cX6_why 104 = .ok (.iload_n 3, 1) := by decide +kernel
theorem dX6_why_105 : decode cX6_why 105 = .ok (.ifCond .ne 10, 3) := by decide +kernel
theorem dX6_why_108 : decode cX6_why 108 = .ok (.iload 5, 2) := by decide +kernel
theorem dX6_why_110 : decode cX6_why 110 = .ok (.ifCond .eq 5, 3) := by decide +kernel
theorem dX6_why_113 : decode cX6_why 113 = .ok (.iconst 3, 1) := by decide +kernel
theorem dX6_why_114 : decode cX6_why 114 = .ok (.ireturn, 1) := by decide +kernel
theorem dX6_why_115 : decode cX6_why 115 = .ok (.iload_n 3, 1) := by decide +kernel
theorem dX6_why_116 : decode cX6_why 116 = .ok (.iconst 2, 1) := by decide +kernel
theorem dX6_why_117 : decode cX6_why 117 = .ok (.if_icmp .eq 10, 3) := by decide +kernel
theorem dX6_why_120 : decode cX6_why 120 = .ok (.iload 4, 2) := by decide +kernel
theorem dX6_why_122 : decode cX6_why 122 = .ok (.ifCond .eq 5, 3) := by decide +kernel
theorem dX6_why_125 : decode cX6_why 125 = .ok (.iconst 4, 1) := by decide +kernel
theorem dX6_why_126 : decode cX6_why 126 = .ok (.ireturn, 1) := by decide +kernel
theorem dX6_why_127 : decode cX6_why 127 = .ok (.iload_n 3, 1) := by decide +kernel
theorem dX6_why_128 : decode cX6_why 128 = .ok (.iconst 2, 1) := by decide +kernel
theorem dX6_why_129 : decode cX6_why 129 = .ok (.if_icmp .ne 12, 3) := by decide +kernel
theorem dX6_why_132 : decode cX6_why 132 = .ok (.iload 4, 2) := by decide +kernel
theorem dX6_why_134 : decode cX6_why 134 = .ok (.ifCond .ne 7, 3) := by decide +kernel
theorem dX6_why_137 : decode cX6_why 137 = .ok (.iconst 5, 1) := by decide +kernel
theorem dX6_why_138 : decode cX6_why 138 = .ok (.goto 4, 3) := by decide +kernel
theorem dX6_why_141 : decode cX6_why 141 = .ok (.iconst 0, 1) := by decide +kernel
theorem dX6_why_142 : decode cX6_why 142 = .ok (.ireturn, 1) := by decide +kernel
set_option maxRecDepth 20000 in
theorem ggX6_tolerance_X6_findInk : GoodIn wsX6_tolerance wsX6_findInk := goodIn_r _ [9, 2, 3, 1, 10, 11, 12, 13, 14, 15, 16, 17, 18, 19, 20, 21, 22, 23, 8, 24, 25, 26, 27, 28, 29, 30, 31, 32, 33, 34, 35, 58, 59, 60, 61, 62, 63, 64, 65, 66, 67, 68, 69, 70, 71, 72, 73, 74, 75, 76, 77, 78] (by decide +kernel) (by decide +kernel)
set_option maxRecDepth 20000 in
theorem gX6_tolerance_X6_findInk : GoodIn wsX6_tolerance (wsV RX6 107 RX6 yX6_findInk wsX6_findInk) := goodIn_app (goodIn_of _ (by decide +kernel)) ggX6_tolerance_X6_findInk
set_option maxRecDepth 20000 in
theorem ggX6_tolerance_X6_hasGapsWithin : GoodIn wsX6_tolerance wsX6_hasGapsWithin := goodIn_r _ [39, 2, 3, 40, 41, 42, 19, 43, 44, 45, 25, 26, 27, 28, 29, 30, 46, 47, 48, 49, 35, 50, 51, 52, 53, 54, 55, 56, 57, 58, 59, 60, 61, 62, 63, 64, 65, 66, 67, 68, 69, 70, 71, 72, 73, 74, 75, 76, 77, 78] (by decide +kernel) (by decide +kernel)
set_option maxRecDepth 20000 in
theorem gX6_tolerance_X6_hasGapsWithin : GoodIn wsX6_tolerance (wsV RX6 209 RX6 yX6_hasGapsWithin wsX6_hasGapsWithin) := goodIn_app (goodIn_of _ (by decide +kernel)) ggX6_tolerance_X6_hasGapsWithin
theorem dX6_tolerance_0 : decode cX6_tolerance 0 = .ok (.aload_n 0, 1) := by decide +kernel
theorem dX6_tolerance_1 : decode cX6_tolerance 1 = .ok (.invokevirtual 107, 3) := by decide +kernel
theorem dX6_tolerance_4 : decode cX6_tolerance 4 = .ok (.iconst 0, 1) := by decide +kernel
theorem dX6_tolerance_5 : decode cX6_tolerance 5 = .ok (.istore_n 1, 1) := by decide +kernel
theorem dX6_tolerance_6 : decode cX6_tolerance 6 = .ok (.iload_n 1, 1) := by decide +kernel
theorem dX6_tolerance_7 : decode cX6_tolerance 7 = .ok (.iconst 4, 1) := by decide +kernel
theorem dX6_tolerance_8 : decode cX6_tolerance 8 = .ok (.if_icmp .gt 45, 3) := by decide +kernel
theorem dX6_tolerance_11 : decode cX6_tolerance 11 = .ok (.aload_n 0, 1) := by decide +kernel
theorem dX6_tolerance_12 : decode cX6_tolerance 12 = .ok (.iload_n 1, 1) := by decide +kernel
theorem dX6_tolerance_13 : decode cX6_tolerance 13 = .ok (.aload_n 0, 1) := by decide +kernel
theorem dX6_tolerance_14 : decode cX6_tolerance 14 = .ok (.getfield 33, 3) := by decide +kernel
theorem dX6_tolerance_17 : decode cX6_tolerance 17 = .ok (.aload_n 0, 1) := by decide +kernel
theorem dX6_tolerance_18 : decode cX6_tolerance 18 = .ok (.getfield 10, 3) := by decide +kernel
theorem dX6_tolerance_21 : decode cX6_tolerance 21 = .ok (.getfield 52, 3) := by decide +kernel
theorem dX6_tolerance_24 : decode cX6_tolerance 24 = .ok (.getfield 66, 3) := by decide +kernel
theorem dX6_tolerance_27 : decode cX6_tolerance 27 = .ok (.invokevirtual 209, 3) := by decide +kernel
theorem dX6_tolerance_30 : decode cX6_tolerance 30 = .ok (.ifCond .eq 17, 3) := by decide +kernel
theorem dX6_tolerance_33 : decode cX6_tolerance 33 = .ok (.iload_n 1, 1) := by decide +kernel
theorem dX6_tolerance_34 : decode cX6_tolerance 34 = .ok (.ifCond .ne 9, 3) := by decide +kernel
theorem dX6_tolerance_37 : decode cX6_tolerance 37 = .ok (.sipush (-1009), 3) := by decide +kernel
theorem dX6_tolerance_40 : decode cX6_tolerance 40 = .ok (.goto 6, 3) := by decide +kernel
theorem dX6_tolerance_43 : decode cX6_tolerance 43 = .ok (.iload_n 1, 1) := by decide +kernel
theorem dX6_tolerance_44 : decode cX6_tolerance 44 = .ok (.iconst 1, 1) := by decide +kernel
theorem dX6_tolerance_45 : decode cX6_tolerance 45 = .ok (.isub, 1) := by decide +kernel
theorem dX6_tolerance_46 : decode cX6_tolerance 46 = .ok (.ireturn, 1) := by decide +kernel
theorem dX6_tolerance_47 : decode cX6_tolerance 47 = .ok (.iinc 1 1, 3) := by decide +kernel
theorem dX6_tolerance_50 : decode cX6_tolerance 50 = .ok (.goto (-44), 3) := by decide +kernel
theorem dX6_tolerance_53 : decode cX6_tolerance 53 = .ok (.iconst 4, 1) := by decide +kernel
theorem dX6_tolerance_54 : decode cX6_tolerance 54 = .ok (.ireturn, 1) := by decide +kernel
set_option maxRecDepth 20000 in
theorem ggX6_trapFor_X6_isWithin : GoodIn wsX6_trapFor wsX6_isWithin := goodIn_r _ [8] (by decide +kernel) (by decide +kernel)
set_option maxRecDepth 20000 in
theorem gX6_trapFor_X6_isWithin : GoodIn wsX6_trapFor (va_wsS RX6 44 yX6_isWithin wsX6_isWithin) := goodIn_app (goodIn_of _ (by decide +kernel)) ggX6_trapFor_X6_isWithin
set_option maxRecDepth 20000 in
theorem ggX6_trapFor_X0_cutColour : GoodIn wsX6_trapFor wsX0_cutColour := goodIn_r _ [13, 14, 15, 16, 17, 18, 19, 20, 21, 22, 23, 24, 25, 26, 27, 28, 29, 30, 31, 32, 33, 70, 71, 72, 73, 74, 75] (by decide +kernel) (by decide +kernel)
set_option maxRecDepth 20000 in
theorem gX6_trapFor_X0_cutColour : GoodIn wsX6_trapFor (wsV RX6 213 RX0 yX0_cutColour wsX0_cutColour) := goodIn_app (goodIn_of _ (by decide +kernel)) ggX6_trapFor_X0_cutColour
set_option maxRecDepth 20000 in
theorem ggX6_trapFor_X6_hasGapsWithin : GoodIn wsX6_trapFor wsX6_hasGapsWithin := goodIn_r _ [37, 1, 2, 38, 39, 40, 12, 41, 14, 15, 42, 31, 32, 19, 33, 21, 43, 44, 45, 46, 47, 30, 48, 49, 50, 51, 52, 53, 54, 55, 56, 57, 58, 59, 60, 61, 62, 63, 64, 65, 66, 67, 68, 69, 70, 71, 72, 73, 74, 75] (by decide +kernel) (by decide +kernel)
set_option maxRecDepth 20000 in
theorem gX6_trapFor_X6_hasGapsWithin : GoodIn wsX6_trapFor (wsV RX6 209 RX6 yX6_hasGapsWithin wsX6_hasGapsWithin) := goodIn_app (goodIn_of _ (by decide +kernel)) ggX6_trapFor_X6_hasGapsWithin
theorem dX6_trapFor_0 : decode cX6_trapFor 0 = .ok (.iload_n 1, 1) := by decide +kernel
theorem dX6_trapFor_1 : decode cX6_trapFor 1 = .ok (.iconst 0, 1) := by decide +kernel
theorem dX6_trapFor_2 : decode cX6_trapFor 2 = .ok (.iconst 4, 1) := by decide +kernel
theorem dX6_trapFor_3 : decode cX6_trapFor 3 = .ok (.invokestatic 44, 3) := by decide +kernel
theorem dX6_trapFor_6 : decode cX6_trapFor 6 = .ok (.ifCond .ne 7, 3) := by decide +kernel
theorem dX6_trapFor_9 : decode cX6_trapFor 9 = .ok (.sipush (-1001), 3) := by decide +kernel
theorem dX6_trapFor_12 : decode cX6_trapFor 12 = .ok (.ireturn, 1) := by decide +kernel
theorem dX6_trapFor_13 : decode cX6_trapFor 13 = .ok (.aload_n 0, 1) := by decide +kernel
theorem dX6_trapFor_14 : decode cX6_trapFor 14 = .ok (.getfield 10, 3) := by decide +kernel
theorem dX6_trapFor_17 : decode cX6_trapFor 17 = .ok (.getfield 52, 3) := by decide +kernel
theorem dX6_trapFor_20 : decode cX6_trapFor 20 = .ok (.astore_n 2, 1) := by decide +kernel
theorem dX6_trapFor_21 : decode cX6_trapFor 21 = .ok (.iconst 0, 1) := by decide +kernel
theorem dX6_trapFor_22 : decode cX6_trapFor 22 = .ok (.istore_n 3, 1) := by decide +kernel
theorem dX6_trapFor_23 : decode cX6_trapFor 23 = .ok (.iload_n 3, 1) := by decide +kernel
theorem dX6_trapFor_24 : decode cX6_trapFor 24 = .ok (.iconst 4, 1) := by decide +kernel
theorem dX6_trapFor_25 : decode cX6_trapFor 25 = .ok (.if_icmp .gt 36, 3) := by decide +kernel
theorem dX6_trapFor_28 : decode cX6_trapFor 28 = .ok (.aload_n 2, 1) := by decide +kernel
theorem dX6_trapFor_29 : decode cX6_trapFor 29 = .ok (.aload_n 0, 1) := by decide +kernel
theorem dX6_trapFor_30 : decode cX6_trapFor 30 = .ok (.getfield 37, 3) := by decide +kernel
theorem dX6_trapFor_33 : decode cX6_trapFor 33 = .ok (.iload_n 3, 1) := by decide +kernel
theorem dX6_trapFor_34 : decode cX6_trapFor 34 = .ok (.invokevirtual 213, 3) := by decide +kernel
theorem dX6_trapFor_37 : decode cX6_trapFor 37 = .ok (.aload_n 0, 1) := by decide +kernel
theorem dX6_trapFor_38 : decode cX6_trapFor 38 = .ok (.iload_n 1, 1) := by decide +kernel
theorem dX6_trapFor_39 : decode cX6_trapFor 39 = .ok (.aload_n 2, 1) := by decide +kernel
theorem dX6_trapFor_40 : decode cX6_trapFor 40 = .ok (.getfield 173, 3) := by decide +kernel
theorem dX6_trapFor_43 : decode cX6_trapFor 43 = .ok (.aload_n 0, 1) := by decide +kernel
theorem dX6_trapFor_44 : decode cX6_trapFor 44 = .ok (.getfield 37, 3) := by decide +kernel
theorem dX6_trapFor_47 : decode cX6_trapFor 47 = .ok (.invokevirtual 209, 3) := by decide +kernel
theorem dX6_trapFor_50 : decode cX6_trapFor 50 = .ok (.ifCond .ne 5, 3) := by decide +kernel
theorem dX6_trapFor_53 : decode cX6_trapFor 53 = .ok (.iload_n 3, 1) := by decide +kernel
theorem dX6_trapFor_54 : decode cX6_trapFor 54 = .ok (.ireturn, 1) := by decide +kernel
theorem dX6_trapFor_55 : decode cX6_trapFor 55 = .ok (.iinc 3 1, 3) := by decide +kernel
theorem dX6_trapFor_58 : decode cX6_trapFor 58 = .ok (.goto (-35), 3) := by decide +kernel
theorem dX6_trapFor_61 : decode cX6_trapFor 61 = .ok (.sipush (-1009), 3) := by decide +kernel
theorem dX6_trapFor_64 : decode cX6_trapFor 64 = .ok (.ireturn, 1) := by decide +kernel
set_option maxRecDepth 20000 in
theorem ggX6_bestPins_X6_isWithin : GoodIn wsX6_bestPins wsX6_isWithin := goodIn_r _ [5] (by decide +kernel) (by decide +kernel)
set_option maxRecDepth 20000 in
theorem gX6_bestPins_X6_isWithin : GoodIn wsX6_bestPins (va_wsS RX6 44 yX6_isWithin wsX6_isWithin) := goodIn_app (goodIn_of _ (by decide +kernel)) ggX6_bestPins_X6_isWithin
set_option maxRecDepth 20000 in
theorem ggX6_bestPins_X6_findInk : GoodIn wsX6_bestPins wsX6_findInk := goodIn_r _ [9, 1, 10, 11, 12, 13, 14, 15, 16, 17, 18, 19, 20, 21, 22, 23, 24, 25, 4, 26, 27, 28, 29, 30, 31, 32, 33, 34, 35, 36, 37, 77, 78, 79, 80, 81, 82, 83, 84, 85, 86, 87, 88, 89, 90, 91, 92, 93, 94, 95, 96, 97] (by decide +kernel) (by decide +kernel)
set_option maxRecDepth 20000 in
theorem gX6_bestPins_X6_findInk : GoodIn wsX6_bestPins (wsV RX6 107 RX6 yX6_findInk wsX6_findInk) := goodIn_app (goodIn_of _ (by decide +kernel)) ggX6_bestPins_X6_findInk
set_option maxRecDepth 20000 in
theorem ggX6_bestPins_X5_driftX : GoodIn wsX6_bestPins wsX5_driftX := goodIn_r _ [41, 17, 82, 83, 84, 85, 86, 87, 88, 89, 90, 91] (by decide +kernel) (by decide +kernel)
set_option maxRecDepth 20000 in
theorem gX6_bestPins_X5_driftX : GoodIn wsX6_bestPins (wsV RX6 217 RX5 yX5_driftX wsX5_driftX) := goodIn_app (goodIn_of _ (by decide +kernel)) ggX6_bestPins_X5_driftX
set_option maxRecDepth 20000 in
theorem ggX6_bestPins_X5_driftY : GoodIn wsX6_bestPins wsX5_driftY := goodIn_r _ [45, 17, 82, 83, 84, 85, 86, 87, 88, 89, 90, 91] (by decide +kernel) (by decide +kernel)
set_option maxRecDepth 20000 in
theorem gX6_bestPins_X5_driftY : GoodIn wsX6_bestPins (wsV RX6 220 RX5 yX5_driftY wsX5_driftY) := goodIn_app (goodIn_of _ (by decide +kernel)) ggX6_bestPins_X5_driftY
set_option maxRecDepth 20000 in
theorem ggX6_bestPins_X6_gapsWith : GoodIn wsX6_bestPins wsX6_gapsWith := goodIn_r _ [49, 1, 10, 11, 50, 51, 52, 53, 21, 54, 55, 56, 27, 28, 29, 30, 31, 32, 57, 58, 59, 60, 37, 61, 62, 63, 64, 65, 66, 67, 68, 77, 78, 79, 80, 81, 82, 83, 84, 85, 86, 87, 88, 89, 90, 91, 92, 93, 94, 95, 96, 97] (by decide +kernel) (by decide +kernel)
set_option maxRecDepth 20000 in
theorem gX6_bestPins_X6_gapsWith : GoodIn wsX6_bestPins (wsV RX6 116 RX6 yX6_gapsWith wsX6_gapsWith) := goodIn_app (goodIn_of _ (by decide +kernel)) ggX6_bestPins_X6_gapsWith
set_option maxRecDepth 20000 in
theorem ggX6_bestPins_X6_spillsWith : GoodIn wsX6_bestPins wsX6_spillsWith := goodIn_r _ [72, 1, 10, 50, 73, 74, 75, 21, 76, 55, 56, 27, 28, 29, 30, 31, 32, 57, 58, 59, 60, 37, 61, 62, 63, 64, 65, 66, 67, 68, 77, 78, 79, 80, 81, 82, 83, 84, 85, 86, 87, 88, 89, 90, 91, 92, 93, 94, 95, 96, 97] (by decide +kernel) (by decide +kernel)
set_option maxRecDepth 20000 in
theorem gX6_bestPins_X6_spillsWith : GoodIn wsX6_bestPins (wsV RX6 202 RX6 yX6_spillsWith wsX6_spillsWith) := goodIn_app (goodIn_of _ (by decide +kernel)) ggX6_bestPins_X6_spillsWith
theorem dX6_bestPins_0 : decode cX6_bestPins 0 = .ok (.iload_n 1, 1) := by decide +kernel
theorem dX6_bestPins_1 : decode cX6_bestPins 1 = .ok (.iconst 0, 1) := by decide +kernel
theorem dX6_bestPins_2 : decode cX6_bestPins 2 = .ok (.iconst 2, 1) := by decide +kernel
theorem dX6_bestPins_3 : decode cX6_bestPins 3 = .ok (.invokestatic 44, 3) := by decide +kernel
theorem dX6_bestPins_6 : decode cX6_bestPins 6 = .ok (.ifCond .ne 7, 3) := by decide +kernel
theorem dX6_bestPins_9 : decode cX6_bestPins 9 = .ok (.sipush (-1001), 3) := by decide +kernel
theorem dX6_bestPins_12 : decode cX6_bestPins 12 = .ok (.ireturn, 1) := by decide +kernel
theorem dX6_bestPins_13 : decode cX6_bestPins 13 = .ok (.aload_n 0, 1) := by decide +kernel
theorem dX6_bestPins_14 : decode cX6_bestPins 14 = .ok (.invokevirtual 107, 3) := by decide +kernel
theorem dX6_bestPins_17 : decode cX6_bestPins 17 = .ok (.bipush (-4), 2) := by decide +kernel
theorem dX6_bestPins_19 : decode cX6_bestPins 19 = .ok (.istore_n 2, 1) := by decide +kernel
theorem dX6_bestPins_20 : decode cX6_bestPins 20 = .ok (.bipush (-4), 2) := by decide +kernel
theorem dX6_bestPins_22 : decode cX6_bestPins 22 = .ok (.istore_n 3, 1) := by decide +kernel
theorem dX6_bestPins_23 : decode cX6_bestPins 23 = .ok (.sipush 384, 3) := by decide +kernel
theorem dX6_bestPins_26 : decode cX6_bestPins 26 = .ok (.istore 4, 2) := by decide +kernel
theorem dX6_bestPins_28 : decode cX6_bestPins 28 = .ok (.bipush (-4), 2) := by decide +kernel
theorem dX6_bestPins_30 : decode cX6_bestPins 30 = .ok (.istore 5, 2) := by decide +kernel
theorem dX6_bestPins_32 : decode cX6_bestPins 32 = .ok (.iload 5, 2) := by decide +kernel
theorem dX6_bestPins_34 : decode cX6_bestPins 34 = .ok (.iconst 4, 1) := by decide +kernel
theorem dX6_bestPins_35 : decode cX6_bestPins 35 = .ok (.if_icmp .gt 85, 3) := by decide +kernel
theorem dX6_bestPins_38 : decode cX6_bestPins 38 = .ok (.bipush (-4), 2) := by decide +kernel
theorem dX6_bestPins_40 : decode cX6_bestPins 40 = .ok (.istore 6, 2) := by decide +kernel
theorem dX6_bestPins_42 : decode cX6_bestPins 42 = .ok (.iload 6, 2) := by decide +kernel
theorem dX6_bestPins_44 : decode cX6_bestPins 44 = .ok (.iconst 4, 1) := by decide +kernel
theorem dX6_bestPins_45 : decode cX6_bestPins 45 = .ok (.if_icmp .gt 69, 3) := by decide +kernel
theorem dX6_bestPins_48 : decode cX6_bestPins 48 = .ok (.iload 5, 2) := by decide +kernel
theorem dX6_bestPins_50 : decode cX6_bestPins 50 = .ok (.aload_n 0, 1) := by decide +kernel
theorem dX6_bestPins_51 : decode cX6_bestPins 51 = .ok (.getfield 10, 3) := by decide +kernel
theorem dX6_bestPins_54 : decode cX6_bestPins 54 = .ok (.invokevirtual 217, 3) := by decide +kernel
theorem dX6_bestPins_57 : decode cX6_bestPins 57 = .ok (.iadd, 1) := by decide +kernel
theorem dX6_bestPins_58 : decode cX6_bestPins 58 = .ok (.istore 7, 2) := by decide +kernel
theorem dX6_bestPins_60 : decode cX6_bestPins 60 = .ok (.iload 6, 2) := by decide +kernel
theorem dX6_bestPins_62 : decode cX6_bestPins 62 = .ok (.aload_n 0, 1) := by decide +kernel
theorem dX6_bestPins_63 : decode cX6_bestPins 63 = .ok (.getfield 10, 3) := by decide +kernel
theorem dX6_bestPins_66 : decode cX6_bestPins 66 = .ok (.invokevirtual 220, 3) := by decide +kernel
theorem dX6_bestPins_69 : decode cX6_bestPins 69 = .ok (.iadd, 1) := by decide +kernel
theorem dX6_bestPins_70 : decode cX6_bestPins 70 = .ok (.istore 8, 2) := by decide +kernel
theorem dX6_bestPins_72 : decode cX6_bestPins 72 = .ok (.aload_n 0, 1) := by decide +kernel
theorem dX6_bestPins_73 : decode cX6_bestPins 73 = .ok (.iload 7, 2) := by decide +kernel
theorem dX6_bestPins_75 : decode cX6_bestPins 75 = .ok (.iload 8, 2) := by decide +kernel
theorem dX6_bestPins_77 : decode cX6_bestPins 77 = .ok (.invokevirtual 116, 3) := by decide +kernel
theorem dX6_bestPins_80 : decode cX6_bestPins 80 = .ok (.aload_n 0, 1) := by decide +kernel
theorem dX6_bestPins_81 : decode cX6_bestPins 81 = .ok (.iload 7, 2) := by decide +kernel
theorem dX6_bestPins_83 : decode cX6_bestPins 83 = .ok (.iload 8, 2) := by decide +kernel
theorem dX6_bestPins_85 : decode cX6_bestPins 85 = .ok (.invokevirtual 202, 3) := by decide +kernel
theorem dX6_bestPins_88 : decode cX6_bestPins 88 = .ok (.iadd, 1) := by decide +kernel
theorem dX6_bestPins_89 : decode cX6_bestPins 89 = .ok (.istore 9, 2) := by decide +kernel
theorem dX6_bestPins_91 : decode cX6_bestPins 91 = .ok (.iload 9, 2) := by decide +kernel
theorem dX6_bestPins_93 : decode cX6_bestPins 93 = .ok (.iload 4, 2) := by decide +kernel
theorem dX6_bestPins_95 : decode cX6_bestPins 95 = .ok (.if_icmp .ge 13, 3) := by decide +kernel
theorem dX6_bestPins_98 : decode cX6_bestPins 98 = .ok (.iload 9, 2) := by decide +kernel
theorem dX6_bestPins_100 : decode cX6_bestPins 100 = .ok (.istore 4, 2) := by decide +kernel
theorem dX6_bestPins_102 : decode cX6_bestPins 102 = .ok (.iload 5, 2) := by decide +kernel
theorem dX6_bestPins_104 : decode cX6_bestPins 104 = .ok (.istore_n 2, 1) := by decide +kernel
theorem dX6_bestPins_105 : decode cX6_bestPins 105 = .ok (.iload 6, 2) := by decide +kernel
theorem dX6_bestPins_107 : decode cX6_bestPins 107 = .ok (.istore_n 3, 1) := by decide +kernel
theorem dX6_bestPins_108 : decode cX6_bestPins 108 = .ok (.iinc 6 1, 3) := by decide +kernel
theorem dX6_bestPins_111 : decode cX6_bestPins 111 = .ok (.goto (-69), 3) := by decide +kernel
theorem dX6_bestPins_114 : decode cX6_bestPins 114 = .ok (.iinc 5 1, 3) := by decide +kernel
theorem dX6_bestPins_117 : decode cX6_bestPins 117 = .ok (.goto (-85), 3) := by decide +kernel
theorem dX6_bestPins_120 : decode cX6_bestPins 120 = .ok (.iload_n 1, 1) := by decide +kernel
theorem dX6_bestPins_121 : decode cX6_bestPins 121 = .ok (.iconst 2, 1) := by decide +kernel
theorem dX6_bestPins_122 : decode cX6_bestPins 122 = .ok (.if_icmp .ne 6, 3) := by decide +kernel
theorem dX6_bestPins_125 : decode cX6_bestPins 125 = .ok (.iload 4, 2) := by decide +kernel
theorem dX6_bestPins_127 : decode cX6_bestPins 127 = .ok (.ireturn, 1) := by decide +kernel
theorem dX6_bestPins_128 : decode cX6_bestPins 128 = .ok (.iconst 4, 1) := by decide +kernel
theorem dX6_bestPins_129 : decode cX6_bestPins 129 = .ok (.iload_n 1, 1) := by decide +kernel
theorem dX6_bestPins_130 : decode cX6_bestPins 130 = .ok (.ifCond .ne 7, 3) := by decide +kernel
theorem dX6_bestPins_133 : decode cX6_bestPins 133 = .ok (.iload_n 2, 1) := by decide +kernel
theorem dX6_bestPins_134 : decode cX6_bestPins 134 = .ok (.goto 4, 3) := by decide +kernel
theorem dX6_bestPins_137 : decode cX6_bestPins 137 = .ok (.iload_n 3, 1) := by decide +kernel
theorem dX6_bestPins_138 : decode cX6_bestPins 138 = .ok (.iadd, 1) := by decide +kernel
theorem dX6_bestPins_139 : decode cX6_bestPins 139 = .ok (.ireturn, 1) := by decide +kernel
set_option maxRecDepth 20000 in
theorem ggX6_printsLeft_X6_findInk : GoodIn wsX6_printsLeft wsX6_findInk := goodIn_r _ [8, 1, 2, 3, 9, 10, 11, 12, 13, 14, 15, 16, 17, 18, 19, 20, 21, 22, 7, 23, 24, 25, 26, 27, 28, 29, 30, 31, 32, 33, 34, 57, 58, 59, 60, 61, 62, 63, 64, 65, 66, 67, 68, 69, 70, 71, 72, 73, 74, 75, 76, 77] (by decide +kernel) (by decide +kernel)
set_option maxRecDepth 20000 in
theorem gX6_printsLeft_X6_findInk : GoodIn wsX6_printsLeft (wsV RX6 107 RX6 yX6_findInk wsX6_findInk) := goodIn_app (goodIn_of _ (by decide +kernel)) ggX6_printsLeft_X6_findInk
set_option maxRecDepth 20000 in
theorem ggX6_printsLeft_X5_hardness : GoodIn wsX6_printsLeft wsX5_hardness := goodIn_r _ [13, 14, 62, 63, 64, 65, 66, 67, 68, 69, 70, 71] (by decide +kernel) (by decide +kernel)
set_option maxRecDepth 20000 in
theorem gX6_printsLeft_X5_hardness : GoodIn wsX6_printsLeft (wsV RX6 91 RX5 yX5_hardness wsX5_hardness) := goodIn_app (goodIn_of _ (by decide +kernel)) ggX6_printsLeft_X5_hardness
set_option maxRecDepth 20000 in
theorem ggX6_printsLeft_X0_printsUntilWorn : GoodIn wsX6_printsLeft wsX0_printsUntilWorn := goodIn_r _ [38, 20, 39, 40, 41, 42, 43, 44, 18, 45, 46, 47, 48, 27, 49, 50, 51, 52, 53, 29, 54, 7, 55, 22, 23, 56, 72, 73, 74, 75, 76, 77] (by decide +kernel) (by decide +kernel)
set_option maxRecDepth 20000 in
theorem gX6_printsLeft_X0_printsUntilWorn : GoodIn wsX6_printsLeft (wsV RX6 223 RX0 yX0_printsUntilWorn wsX0_printsUntilWorn) := goodIn_app (goodIn_of _ (by decide +kernel)) ggX6_printsLeft_X0_printsUntilWorn
theorem dX6_printsLeft_0 : decode cX6_printsLeft 0 = .ok (.aload_n 0, 1) := by decide +kernel
theorem dX6_printsLeft_1 : decode cX6_printsLeft 1 = .ok (.invokevirtual 107, 3) := by decide +kernel
theorem dX6_printsLeft_4 : decode cX6_printsLeft 4 = .ok (.aload_n 0, 1) := by decide +kernel
theorem dX6_printsLeft_5 : decode cX6_printsLeft 5 = .ok (.getfield 10, 3) := by decide +kernel
theorem dX6_printsLeft_8 : decode cX6_printsLeft 8 = .ok (.getfield 52, 3) := by decide +kernel
theorem dX6_printsLeft_11 : decode cX6_printsLeft 11 = .ok (.aload_n 0, 1) := by decide +kernel
theorem dX6_printsLeft_12 : decode cX6_printsLeft 12 = .ok (.getfield 33, 3) := by decide +kernel
theorem dX6_printsLeft_15 : decode cX6_printsLeft 15 = .ok (.aload_n 0, 1) := by decide +kernel
theorem dX6_printsLeft_16 : decode cX6_printsLeft 16 = .ok (.getfield 10, 3) := by decide +kernel
theorem dX6_printsLeft_19 : decode cX6_printsLeft 19 = .ok (.invokevirtual 91, 3) := by decide +kernel
theorem dX6_printsLeft_22 : decode cX6_printsLeft 22 = .ok (.invokevirtual 223, 3) := by decide +kernel
theorem dX6_printsLeft_25 : decode cX6_printsLeft 25 = .ok (.istore_n 1, 1) := by decide +kernel
theorem dX6_printsLeft_26 : decode cX6_printsLeft 26 = .ok (.iload_n 1, 1) := by decide +kernel
theorem dX6_printsLeft_27 : decode cX6_printsLeft 27 = .ok (.sipush 500, 3) := by decide +kernel
theorem dX6_printsLeft_30 : decode cX6_printsLeft 30 = .ok (.if_icmp .le 9, 3) := by decide +kernel
theorem dX6_printsLeft_33 : decode cX6_printsLeft 33 = .ok (.sipush (-1009), 3) := by decide +kernel
theorem dX6_printsLeft_36 : decode cX6_printsLeft 36 = .ok (.goto 4, 3) := by decide +kernel
theorem dX6_printsLeft_39 : decode cX6_printsLeft 39 = .ok (.iload_n 1, 1) := by decide +kernel
theorem dX6_printsLeft_40 : decode cX6_printsLeft 40 = .ok (.ireturn, 1) := by decide +kernel
theorem dX6_isWithin_0 : decode cX6_isWithin 0 = .ok (.iload_n 0, 1) := by decide +kernel
theorem dX6_isWithin_1 : decode cX6_isWithin 1 = .ok (.iload_n 1, 1) := by decide +kernel
theorem dX6_isWithin_2 : decode cX6_isWithin 2 = .ok (.if_icmp .lt 12, 3) := by decide +kernel
theorem dX6_isWithin_5 : decode cX6_isWithin 5 = .ok (.iload_n 0, 1) := by decide +kernel
theorem dX6_isWithin_6 : decode cX6_isWithin 6 = .ok (.iload_n 2, 1) := by decide +kernel
theorem dX6_isWithin_7 : decode cX6_isWithin 7 = .ok (.if_icmp .gt 7, 3) := by decide +kernel
theorem dX6_isWithin_10 : decode cX6_isWithin 10 = .ok (.iconst 1, 1) := by decide +kernel
theorem dX6_isWithin_11 : decode cX6_isWithin 11 = .ok (.goto 4, 3) := by decide +kernel
theorem dX6_isWithin_14 : decode cX6_isWithin 14 = .ok (.iconst 0, 1) := by decide +kernel
theorem dX6_isWithin_15 : decode cX6_isWithin 15 = .ok (.ireturn, 1) := by decide +kernel
theorem dX6_isPlace_0 : decode cX6_isPlace 0 = .ok (.iload_n 0, 1) := by decide +kernel
theorem dX6_isPlace_1 : decode cX6_isPlace 1 = .ok (.ifCond .lt 23, 3) := by decide +kernel
theorem dX6_isPlace_4 : decode cX6_isPlace 4 = .ok (.iload_n 0, 1) := by decide +kernel
theorem dX6_isPlace_5 : decode cX6_isPlace 5 = .ok (.bipush 16, 2) := by decide +kernel
theorem dX6_isPlace_7 : decode cX6_isPlace 7 = .ok (.if_icmp .ge 17, 3) := by decide +kernel
theorem dX6_isPlace_10 : decode cX6_isPlace 10 = .ok (.iload_n 1, 1) := by decide +kernel
theorem dX6_isPlace_11 : decode cX6_isPlace 11 = .ok (.ifCond .lt 13, 3) := by decide +kernel
theorem dX6_isPlace_14 : decode cX6_isPlace 14 = .ok (.iload_n 1, 1) := by decide +kernel
theorem dX6_isPlace_15 : decode cX6_isPlace 15 = .ok (.bipush 12, 2) := by decide +kernel
theorem dX6_isPlace_17 : decode cX6_isPlace 17 = .ok (.if_icmp .ge 7, 3) := by decide +kernel
theorem dX6_isPlace_20 : decode cX6_isPlace 20 = .ok (.iconst 1, 1) := by decide +kernel
theorem dX6_isPlace_21 : decode cX6_isPlace 21 = .ok (.goto 4, 3) := by decide +kernel
theorem dX6_isPlace_24 : decode cX6_isPlace 24 = .ok (.iconst 0, 1) := by decide +kernel
theorem dX6_isPlace_25 : decode cX6_isPlace 25 = .ok (.ireturn, 1) := by decide +kernel
set_option maxRecDepth 20000 in
theorem ggX6_isShift_X6_isWithin : GoodIn wsX6_isShift wsX6_isWithin := goodIn_r _ [4] (by decide +kernel) (by decide +kernel)
set_option maxRecDepth 20000 in
theorem gX6_isShift_X6_isWithin : GoodIn wsX6_isShift (va_wsS RX6 44 yX6_isWithin wsX6_isWithin) := goodIn_app (goodIn_of _ (by decide +kernel)) ggX6_isShift_X6_isWithin
theorem dX6_isShift_0 : decode cX6_isShift 0 = .ok (.iload_n 0, 1) := by decide +kernel
theorem dX6_isShift_1 : decode cX6_isShift 1 = .ok (.bipush (-8), 2) := by decide +kernel
theorem dX6_isShift_3 : decode cX6_isShift 3 = .ok (.bipush 8, 2) := by decide +kernel
theorem dX6_isShift_5 : decode cX6_isShift 5 = .ok (.invokestatic 44, 3) := by decide +kernel
theorem dX6_isShift_8 : decode cX6_isShift 8 = .ok (.ifCond .eq 18, 3) := by decide +kernel
theorem dX6_isShift_11 : decode cX6_isShift 11 = .ok (.iload_n 1, 1) := by decide +kernel
theorem dX6_isShift_12 : decode cX6_isShift 12 = .ok (.bipush (-8), 2) := by decide +kernel
theorem dX6_isShift_14 : decode cX6_isShift 14 = .ok (.bipush 8, 2) := by decide +kernel
theorem dX6_isShift_16 : decode cX6_isShift 16 = .ok (.invokestatic 44, 3) := by decide +kernel
theorem dX6_isShift_19 : decode cX6_isShift 19 = .ok (.ifCond .eq 7, 3) := by decide +kernel
theorem dX6_isShift_22 : decode cX6_isShift 22 = .ok (.iconst 1, 1) := by decide +kernel
theorem dX6_isShift_23 : decode cX6_isShift 23 = .ok (.goto 4, 3) := by decide +kernel
theorem dX6_isShift_26 : decode cX6_isShift 26 = .ok (.iconst 0, 1) := by decide +kernel
theorem dX6_isShift_27 : decode cX6_isShift 27 = .ok (.ireturn, 1) := by decide +kernel
theorem dX6_oneIf_0 : decode cX6_oneIf 0 = .ok (.iload_n 0, 1) := by decide +kernel
theorem dX6_oneIf_1 : decode cX6_oneIf 1 = .ok (.ifCond .eq 7, 3) := by decide +kernel
theorem dX6_oneIf_4 : decode cX6_oneIf 4 = .ok (.iconst 1, 1) := by decide +kernel
theorem dX6_oneIf_5 : decode cX6_oneIf 5 = .ok (.goto 4, 3) := by decide +kernel
theorem dX6_oneIf_8 : decode cX6_oneIf 8 = .ok (.iconst 0, 1) := by decide +kernel
theorem dX6_oneIf_9 : decode cX6_oneIf 9 = .ok (.ireturn, 1) := by decide +kernel
set_option maxRecDepth 20000 in
theorem ggX6_findInk_X5_hardness : GoodIn wsX6_findInk wsX5_hardness := goodIn_r _ [8, 9, 36, 37, 38, 39, 40, 41, 42, 43, 44, 45] (by decide +kernel) (by decide +kernel)
set_option maxRecDepth 20000 in
theorem gX6_findInk_X5_hardness : GoodIn wsX6_findInk (wsV RX6 91 RX5 yX5_hardness wsX5_hardness) := goodIn_app (goodIn_of _ (by decide +kernel)) ggX6_findInk_X5_hardness
set_option maxRecDepth 20000 in
theorem ggX6_findInk_X0_findInk : GoodIn wsX6_findInk wsX0_findInk := goodIn_r _ [14, 15, 16, 17, 18, 19, 20, 21, 22, 23, 24, 25, 26, 27, 28, 29, 30, 46, 47, 48, 49, 50, 51] (by decide +kernel) (by decide +kernel)
set_option maxRecDepth 20000 in
theorem gX6_findInk_X0_findInk : GoodIn wsX6_findInk (wsV RX6 227 RX0 yX0_findInk wsX0_findInk) := goodIn_app (goodIn_of _ (by decide +kernel)) ggX6_findInk_X0_findInk
theorem dX6_findInk_0 : decode cX6_findInk 0 = .ok (.aload_n 0, 1) := by decide +kernel
theorem dX6_findInk_1 : decode cX6_findInk 1 = .ok (.getfield 10, 3) := by decide +kernel
theorem dX6_findInk_4 : decode cX6_findInk 4 = .ok (.getfield 52, 3) := by decide +kernel
theorem dX6_findInk_7 : decode cX6_findInk 7 = .ok (.aload_n 0, 1) := by decide +kernel
theorem dX6_findInk_8 : decode cX6_findInk 8 = .ok (.getfield 33, 3) := by decide +kernel
theorem dX6_findInk_11 : decode cX6_findInk 11 = .ok (.aload_n 0, 1) := by decide +kernel
theorem dX6_findInk_12 : decode cX6_findInk 12 = .ok (.getfield 10, 3) := by decide +kernel
theorem dX6_findInk_15 : decode cX6_findInk 15 = .ok (.invokevirtual 91, 3) := by decide +kernel
theorem dX6_findInk_18 : decode cX6_findInk 18 = .ok (.invokevirtual 227, 3) := by decide +kernel
theorem dX6_findInk_21 : decode cX6_findInk 21 = .ok (.return_, 1) := by decide +kernel
set_option maxRecDepth 20000 in
theorem ggX6_wornCells_X6_findInk : GoodIn wsX6_wornCells wsX6_findInk := goodIn_r _ [9, 1, 2, 4, 10, 11, 12, 13, 14, 15, 16, 17, 18, 19, 20, 21, 22, 23, 8, 24, 25, 26, 27, 28, 29, 30, 31, 32, 33, 34, 35, 47, 48, 49, 50, 51, 52, 53, 54, 55, 56, 57, 58, 59, 60, 61, 62, 63, 64, 65, 66, 67] (by decide +kernel) (by decide +kernel)
set_option maxRecDepth 20000 in
theorem gX6_wornCells_X6_findInk : GoodIn wsX6_wornCells (wsV RX6 107 RX6 yX6_findInk wsX6_findInk) := goodIn_app (goodIn_of _ (by decide +kernel)) ggX6_wornCells_X6_findInk
set_option maxRecDepth 20000 in
theorem ggX6_wornCells_X1_size : GoodIn wsX6_wornCells wsX1_size := goodIn_r _ [39, 30, 40, 41, 42, 43, 44, 45, 46, 67] (by decide +kernel) (by decide +kernel)
set_option maxRecDepth 20000 in
theorem gX6_wornCells_X1_size : GoodIn wsX6_wornCells (wsV RX6 69 RX1 yX1_size wsX1_size) := goodIn_app (goodIn_of _ (by decide +kernel)) ggX6_wornCells_X1_size
theorem dX6_wornCells_0 : decode cX6_wornCells 0 = .ok (.aload_n 0, 1) := by decide +kernel
theorem dX6_wornCells_1 : decode cX6_wornCells 1 = .ok (.invokevirtual 107, 3) := by decide +kernel
theorem dX6_wornCells_4 : decode cX6_wornCells 4 = .ok (.aload_n 0, 1) := by decide +kernel
theorem dX6_wornCells_5 : decode cX6_wornCells 5 = .ok (.getfield 10, 3) := by decide +kernel
theorem dX6_wornCells_8 : decode cX6_wornCells 8 = .ok (.getfield 52, 3) := by decide +kernel
theorem dX6_wornCells_11 : decode cX6_wornCells 11 = .ok (.getfield 73, 3) := by decide +kernel
theorem dX6_wornCells_14 : decode cX6_wornCells 14 = .ok (.invokevirtual 69, 3) := by decide +kernel
theorem dX6_wornCells_17 : decode cX6_wornCells 17 = .ok (.aload_n 0, 1) := by decide +kernel
theorem dX6_wornCells_18 : decode cX6_wornCells 18 = .ok (.getfield 33, 3) := by decide +kernel
theorem dX6_wornCells_21 : decode cX6_wornCells 21 = .ok (.invokevirtual 69, 3) := by decide +kernel
theorem dX6_wornCells_24 : decode cX6_wornCells 24 = .ok (.isub, 1) := by decide +kernel
theorem dX6_wornCells_25 : decode cX6_wornCells 25 = .ok (.ireturn, 1) := by decide +kernel
set_option maxRecDepth 20000 in
theorem ggX6_printsColour_X1_has : GoodIn wsX6_printsColour wsX1_has := goodIn_r _ [8, 9, 10, 11, 12, 33] (by decide +kernel) (by decide +kernel)
set_option maxRecDepth 20000 in
theorem gX6_printsColour_X1_has : GoodIn wsX6_printsColour (wsV RX6 76 RX1 yX1_has wsX1_has) := goodIn_app (goodIn_of _ (by decide +kernel)) ggX6_printsColour_X1_has
theorem dX6_printsColour_0 : decode cX6_printsColour 0 = .ok (.aload_n 0, 1) := by decide +kernel
theorem dX6_printsColour_1 : decode cX6_printsColour 1 = .ok (.getfield 10, 3) := by decide +kernel
theorem dX6_printsColour_4 : decode cX6_printsColour 4 = .ok (.getfield 52, 3) := by decide +kernel
theorem dX6_printsColour_7 : decode cX6_printsColour 7 = .ok (.getfield 66, 3) := by decide +kernel
theorem dX6_printsColour_10 : decode cX6_printsColour 10 = .ok (.iload_n 1, 1) := by decide +kernel
theorem dX6_printsColour_11 : decode cX6_printsColour 11 = .ok (.iload_n 3, 1) := by decide +kernel
theorem dX6_printsColour_12 : decode cX6_printsColour 12 = .ok (.isub, 1) := by decide +kernel
theorem dX6_printsColour_13 : decode cX6_printsColour 13 = .ok (.iload_n 2, 1) := by decide +kernel
theorem dX6_printsColour_14 : decode cX6_printsColour 14 = .ok (.iload 4, 2) := by decide +kernel
theorem dX6_printsColour_16 : decode cX6_printsColour 16 = .ok (.isub, 1) := by decide +kernel
theorem dX6_printsColour_17 : decode cX6_printsColour 17 = .ok (.invokevirtual 76, 3) := by decide +kernel
theorem dX6_printsColour_20 : decode cX6_printsColour 20 = .ok (.ireturn, 1) := by decide +kernel
set_option maxRecDepth 20000 in
theorem ggX6_gapsWith_X0_gaps : GoodIn wsX6_gapsWith wsX0_gaps := goodIn_r _ [9, 10, 11, 12, 13, 14, 15, 16, 17, 18, 19, 20, 21, 22, 23, 24, 25, 26, 27, 28, 29, 30, 46, 47, 48, 49, 50, 51] (by decide +kernel) (by decide +kernel)
set_option maxRecDepth 20000 in
theorem gX6_gapsWith_X0_gaps : GoodIn wsX6_gapsWith (wsV RX6 229 RX0 yX0_gaps wsX0_gaps) := goodIn_app (goodIn_of _ (by decide +kernel)) ggX6_gapsWith_X0_gaps
theorem dX6_gapsWith_0 : decode cX6_gapsWith 0 = .ok (.aload_n 0, 1) := by decide +kernel
theorem dX6_gapsWith_1 : decode cX6_gapsWith 1 = .ok (.getfield 10, 3) := by decide +kernel
theorem dX6_gapsWith_4 : decode cX6_gapsWith 4 = .ok (.getfield 52, 3) := by decide +kernel
theorem dX6_gapsWith_7 : decode cX6_gapsWith 7 = .ok (.aload_n 0, 1) := by decide +kernel
theorem dX6_gapsWith_8 : decode cX6_gapsWith 8 = .ok (.getfield 33, 3) := by decide +kernel
theorem dX6_gapsWith_11 : decode cX6_gapsWith 11 = .ok (.aload_n 0, 1) := by decide +kernel
theorem dX6_gapsWith_12 : decode cX6_gapsWith 12 = .ok (.getfield 10, 3) := by decide +kernel
theorem dX6_gapsWith_15 : decode cX6_gapsWith 15 = .ok (.getfield 52, 3) := by decide +kernel
theorem dX6_gapsWith_18 : decode cX6_gapsWith 18 = .ok (.getfield 66, 3) := by decide +kernel
theorem dX6_gapsWith_21 : decode cX6_gapsWith 21 = .ok (.iload_n 1, 1) := by decide +kernel
theorem dX6_gapsWith_22 : decode cX6_gapsWith 22 = .ok (.iload_n 2, 1) := by decide +kernel
theorem dX6_gapsWith_23 : decode cX6_gapsWith 23 = .ok (.invokevirtual 229, 3) := by decide +kernel
theorem dX6_gapsWith_26 : decode cX6_gapsWith 26 = .ok (.ireturn, 1) := by decide +kernel
set_option maxRecDepth 20000 in
theorem ggX6_spillsWith_X0_spills : GoodIn wsX6_spillsWith wsX0_spills := goodIn_r _ [8, 9, 10, 11, 12, 13, 14, 15, 16, 17, 18, 19, 20, 21, 22, 23, 24, 25, 26, 27, 28, 29, 45, 46, 47, 48, 49, 50] (by decide +kernel) (by decide +kernel)
set_option maxRecDepth 20000 in
theorem gX6_spillsWith_X0_spills : GoodIn wsX6_spillsWith (wsV RX6 233 RX0 yX0_spills wsX0_spills) := goodIn_app (goodIn_of _ (by decide +kernel)) ggX6_spillsWith_X0_spills
theorem dX6_spillsWith_0 : decode cX6_spillsWith 0 = .ok (.aload_n 0, 1) := by decide +kernel
theorem dX6_spillsWith_1 : decode cX6_spillsWith 1 = .ok (.getfield 10, 3) := by decide +kernel
theorem dX6_spillsWith_4 : decode cX6_spillsWith 4 = .ok (.getfield 52, 3) := by decide +kernel
theorem dX6_spillsWith_7 : decode cX6_spillsWith 7 = .ok (.aload_n 0, 1) := by decide +kernel
theorem dX6_spillsWith_8 : decode cX6_spillsWith 8 = .ok (.getfield 10, 3) := by decide +kernel
theorem dX6_spillsWith_11 : decode cX6_spillsWith 11 = .ok (.getfield 52, 3) := by decide +kernel
theorem dX6_spillsWith_14 : decode cX6_spillsWith 14 = .ok (.getfield 66, 3) := by decide +kernel
theorem dX6_spillsWith_17 : decode cX6_spillsWith 17 = .ok (.iload_n 1, 1) := by decide +kernel
theorem dX6_spillsWith_18 : decode cX6_spillsWith 18 = .ok (.iload_n 2, 1) := by decide +kernel
theorem dX6_spillsWith_19 : decode cX6_spillsWith 19 = .ok (.invokevirtual 233, 3) := by decide +kernel
theorem dX6_spillsWith_22 : decode cX6_spillsWith 22 = .ok (.ireturn, 1) := by decide +kernel
set_option maxRecDepth 20000 in
theorem ggX6_hasGapsWithin_X0_gaps : GoodIn wsX6_hasGapsWithin wsX0_gaps := goodIn_r _ [7, 8, 9, 10, 11, 12, 13, 14, 15, 16, 17, 18, 19, 20, 21, 22, 23, 24, 25, 26, 27, 28, 44, 45, 46, 47, 48, 49] (by decide +kernel) (by decide +kernel)
set_option maxRecDepth 20000 in
theorem gX6_hasGapsWithin_X0_gaps : GoodIn wsX6_hasGapsWithin (wsV RX6 229 RX0 yX0_gaps wsX0_gaps) := goodIn_app (goodIn_of _ (by decide +kernel)) ggX6_hasGapsWithin_X0_gaps
theorem dX6_hasGapsWithin_0 : decode cX6_hasGapsWithin 0 = .ok (.iload_n 1, 1) := by decide +kernel
theorem dX6_hasGapsWithin_1 : decode cX6_hasGapsWithin 1 = .ok (.ineg, 1) := by decide +kernel
theorem dX6_hasGapsWithin_2 : decode cX6_hasGapsWithin 2 = .ok (.istore 4, 2) := by decide +kernel
theorem dX6_hasGapsWithin_4 : decode cX6_hasGapsWithin 4 = .ok (.iload 4, 2) := by decide +kernel
theorem dX6_hasGapsWithin_6 : decode cX6_hasGapsWithin 6 = .ok (.iload_n 1, 1) := by decide +kernel
theorem dX6_hasGapsWithin_7 : decode cX6_hasGapsWithin 7 = .ok (.if_icmp .gt 46, 3) := by decide +kernel
theorem dX6_hasGapsWithin_10 : decode cX6_hasGapsWithin 10 = .ok (.iload_n 1, 1) := by decide +kernel
theorem dX6_hasGapsWithin_11 : decode cX6_hasGapsWithin 11 = .ok (.ineg, 1) := by decide +kernel
theorem dX6_hasGapsWithin_12 : decode cX6_hasGapsWithin 12 = .ok (.istore 5, 2) := by decide +kernel
theorem dX6_hasGapsWithin_14 : decode cX6_hasGapsWithin 14 = .ok (.iload 5, 2) := by decide +kernel
theorem dX6_hasGapsWithin_16 : decode cX6_hasGapsWithin 16 = .ok (.iload_n 1, 1) := by decide +kernel
theorem dX6_hasGapsWithin_17 : decode cX6_hasGapsWithin 17 = .ok (.if_icmp .gt 30, 3) := by decide +kernel
theorem dX6_hasGapsWithin_20 : decode cX6_hasGapsWithin 20 = .ok (.aload_n 0, 1) := by decide +kernel
theorem dX6_hasGapsWithin_21 : decode cX6_hasGapsWithin 21 = .ok (.getfield 10, 3) := by decide +kernel
theorem dX6_hasGapsWithin_24 : decode cX6_hasGapsWithin 24 = .ok (.getfield 52, 3) := by decide +kernel
theorem dX6_hasGapsWithin_27 : decode cX6_hasGapsWithin 27 = .ok (.aload_n 2, 1) := by decide +kernel
theorem dX6_hasGapsWithin_28 : decode cX6_hasGapsWithin 28 = .ok (.aload_n 3, 1) := by decide +kernel
theorem dX6_hasGapsWithin_29 : decode cX6_hasGapsWithin 29 = .ok (.iload 4, 2) := by decide +kernel
theorem dX6_hasGapsWithin_31 : decode cX6_hasGapsWithin 31 = .ok (.iload 5, 2) := by decide +kernel
theorem dX6_hasGapsWithin_33 : decode cX6_hasGapsWithin 33 = .ok (.invokevirtual 229, 3) := by decide +kernel
theorem dX6_hasGapsWithin_36 : decode cX6_hasGapsWithin 36 = .ok (.ifCond .le 5, 3) := by decide +kernel
theorem dX6_hasGapsWithin_39 : decode cX6_hasGapsWithin 39 = .ok (.iconst 1, 1) := by decide +kernel
theorem dX6_hasGapsWithin_40 : decode cX6_hasGapsWithin 40 = .ok (.ireturn, 1) := by decide +kernel
theorem dX6_hasGapsWithin_41 : decode cX6_hasGapsWithin 41 = .ok (.iinc 5 1, 3) := by decide +kernel
theorem dX6_hasGapsWithin_44 : decode cX6_hasGapsWithin 44 = .ok (.goto (-30), 3) := by decide +kernel
theorem dX6_hasGapsWithin_47 : decode cX6_hasGapsWithin 47 = .ok (.iinc 4 1, 3) := by decide +kernel
theorem dX6_hasGapsWithin_50 : decode cX6_hasGapsWithin 50 = .ok (.goto (-46), 3) := by decide +kernel
theorem dX6_hasGapsWithin_53 : decode cX6_hasGapsWithin 53 = .ok (.iconst 0, 1) := by decide +kernel
theorem dX6_hasGapsWithin_54 : decode cX6_hasGapsWithin 54 = .ok (.ireturn, 1) := by decide +kernel
set_option maxRecDepth 20000 in
theorem ggX6_makeOnePrint_X6_findInk : GoodIn wsX6_makeOnePrint wsX6_findInk := goodIn_r _ [10, 1, 4, 5, 11, 12, 13, 14, 15, 16, 17, 18, 19, 20, 21, 22, 23, 24, 9, 25, 26, 27, 28, 29, 30, 31, 32, 33, 34, 35, 36, 131, 132, 133, 134, 135, 136, 137, 138, 139, 140, 141, 142, 143, 144, 145, 146, 147, 148, 149, 150, 151] (by decide +kernel) (by decide +kernel)
set_option maxRecDepth 20000 in
theorem gX6_makeOnePrint_X6_findInk : GoodIn wsX6_makeOnePrint (wsV RX6 107 RX6 yX6_findInk wsX6_findInk) := goodIn_app (goodIn_of _ (by decide +kernel)) ggX6_makeOnePrint_X6_findInk
set_option maxRecDepth 20000 in
theorem ggX6_makeOnePrint_X5_shiftX : GoodIn wsX6_makeOnePrint wsX5_shiftX := goodIn_r _ [40, 41, 42, 43, 44, 14, 45, 16, 136, 137, 138, 139, 140, 141, 142, 143, 144, 145] (by decide +kernel) (by decide +kernel)
set_option maxRecDepth 20000 in
theorem gX6_makeOnePrint_X5_shiftX : GoodIn wsX6_makeOnePrint (wsV RX6 110 RX5 yX5_shiftX wsX5_shiftX) := goodIn_app (goodIn_of _ (by decide +kernel)) ggX6_makeOnePrint_X5_shiftX
set_option maxRecDepth 20000 in
theorem ggX6_makeOnePrint_X5_shiftY : GoodIn wsX6_makeOnePrint wsX5_shiftY := goodIn_r _ [49, 50, 51, 52, 53, 14, 54, 16, 136, 137, 138, 139, 140, 141, 142, 143, 144, 145] (by decide +kernel) (by decide +kernel)
set_option maxRecDepth 20000 in
theorem gX6_makeOnePrint_X5_shiftY : GoodIn wsX6_makeOnePrint (wsV RX6 113 RX5 yX5_shiftY wsX5_shiftY) := goodIn_app (goodIn_of _ (by decide +kernel)) ggX6_makeOnePrint_X5_shiftY
set_option maxRecDepth 20000 in
theorem ggX6_makeOnePrint_X6_gapsWith : GoodIn wsX6_makeOnePrint wsX6_gapsWith := goodIn_r _ [58, 1, 4, 5, 59, 60, 61, 62, 20, 63, 64, 65, 26, 27, 28, 29, 30, 31, 66, 67, 68, 69, 36, 70, 71, 72, 73, 74, 75, 76, 77, 131, 132, 133, 134, 135, 136, 137, 138, 139, 140, 141, 142, 143, 144, 145, 146, 147, 148, 149, 150, 151] (by decide +kernel) (by decide +kernel)
set_option maxRecDepth 20000 in
theorem gX6_makeOnePrint_X6_gapsWith : GoodIn wsX6_makeOnePrint (wsV RX6 116 RX6 yX6_gapsWith wsX6_gapsWith) := goodIn_app (goodIn_of _ (by decide +kernel)) ggX6_makeOnePrint_X6_gapsWith
set_option maxRecDepth 20000 in
theorem ggX6_makeOnePrint_X3_addProof : GoodIn wsX6_makeOnePrint wsX3_addProof := goodIn_r _ [82, 83, 84, 85, 86, 87, 88, 89, 152, 153, 154] (by decide +kernel) (by decide +kernel)
set_option maxRecDepth 20000 in
theorem gX6_makeOnePrint_X3_addProof : GoodIn wsX6_makeOnePrint (wsV RX6 237 RX3 yX3_addProof wsX3_addProof) := goodIn_app (goodIn_of _ (by decide +kernel)) ggX6_makeOnePrint_X3_addProof
set_option maxRecDepth 20000 in
theorem ggX6_makeOnePrint_X6_spillsWith : GoodIn wsX6_makeOnePrint wsX6_spillsWith := goodIn_r _ [93, 1, 4, 59, 94, 95, 96, 20, 97, 64, 65, 26, 27, 28, 29, 30, 31, 66, 67, 68, 69, 36, 70, 71, 72, 73, 74, 75, 76, 77, 131, 132, 133, 134, 135, 136, 137, 138, 139, 140, 141, 142, 143, 144, 145, 146, 147, 148, 149, 150, 151] (by decide +kernel) (by decide +kernel)
set_option maxRecDepth 20000 in
theorem gX6_makeOnePrint_X6_spillsWith : GoodIn wsX6_makeOnePrint (wsV RX6 202 RX6 yX6_spillsWith wsX6_spillsWith) := goodIn_app (goodIn_of _ (by decide +kernel)) ggX6_makeOnePrint_X6_spillsWith
set_option maxRecDepth 20000 in
theorem ggX6_makeOnePrint_X0_lostLines : GoodIn wsX6_makeOnePrint wsX0_lostLines := goodIn_r _ [101, 65, 26, 27, 28, 29, 30, 31, 71, 72, 73, 74, 75, 76, 77, 146, 147, 148, 149, 150, 151] (by decide +kernel) (by decide +kernel)
set_option maxRecDepth 20000 in
theorem gX6_makeOnePrint_X0_lostLines : GoodIn wsX6_makeOnePrint (wsV RX6 205 RX0 yX0_lostLines wsX0_lostLines) := goodIn_app (goodIn_of _ (by decide +kernel)) ggX6_makeOnePrint_X0_lostLines
set_option maxRecDepth 20000 in
theorem ggX6_makeOnePrint_X3_addFaults : GoodIn wsX6_makeOnePrint wsX3_addFaults := goodIn_r _ [105, 89, 83, 152, 153, 154] (by decide +kernel) (by decide +kernel)
set_option maxRecDepth 20000 in
theorem gX6_makeOnePrint_X3_addFaults : GoodIn wsX6_makeOnePrint (wsV RX6 241 RX3 yX3_addFaults wsX3_addFaults) := goodIn_app (goodIn_of _ (by decide +kernel)) ggX6_makeOnePrint_X3_addFaults
set_option maxRecDepth 20000 in
theorem ggX6_makeOnePrint_X0_wearDown : GoodIn wsX6_makeOnePrint wsX0_wearDown := goodIn_r _ [109, 22, 110, 111, 112, 29, 113, 31, 114, 9, 115, 116, 117, 20, 118, 119, 120, 121, 122, 123, 24, 25, 146, 147, 148, 149, 150, 151] (by decide +kernel) (by decide +kernel)
set_option maxRecDepth 20000 in
theorem gX6_makeOnePrint_X0_wearDown : GoodIn wsX6_makeOnePrint (wsV RX6 244 RX0 yX0_wearDown wsX0_wearDown) := goodIn_app (goodIn_of _ (by decide +kernel)) ggX6_makeOnePrint_X0_wearDown
set_option maxRecDepth 20000 in
theorem ggX6_makeOnePrint_X5_dry : GoodIn wsX6_makeOnePrint wsX5_dry := goodIn_r _ [127, 16, 128, 129, 87, 130, 136, 137, 138, 139, 140, 141, 142, 143, 144, 145] (by decide +kernel) (by decide +kernel)
set_option maxRecDepth 20000 in
theorem gX6_makeOnePrint_X5_dry : GoodIn wsX6_makeOnePrint (wsV RX6 248 RX5 yX5_dry wsX5_dry) := goodIn_app (goodIn_of _ (by decide +kernel)) ggX6_makeOnePrint_X5_dry
theorem dX6_makeOnePrint_0 : decode cX6_makeOnePrint 0 = .ok (.aload_n 0, 1) := by decide +kernel
theorem dX6_makeOnePrint_1 : decode cX6_makeOnePrint 1 = .ok (.invokevirtual 107, 3) := by decide +kernel
theorem dX6_makeOnePrint_4 : decode cX6_makeOnePrint 4 = .ok (.aload_n 0, 1) := by decide +kernel
theorem dX6_makeOnePrint_5 : decode cX6_makeOnePrint 5 = .ok (.getfield 10, 3) := by decide +kernel
theorem dX6_makeOnePrint_8 : decode cX6_makeOnePrint 8 = .ok (.invokevirtual 110, 3) := by decide +kernel
theorem dX6_makeOnePrint_11 : decode cX6_makeOnePrint 11 = .ok (.istore_n 1, 1) := by decide +kernel
theorem dX6_makeOnePrint_12 : decode cX6_makeOnePrint 12 = .ok (.aload_n 0, 1) := by decide +kernel
theorem dX6_makeOnePrint_13 : decode cX6_makeOnePrint 13 = .ok (.getfield 10, 3) := by decide +kernel
theorem dX6_makeOnePrint_16 : decode cX6_makeOnePrint 16 = .ok (.invokevirtual 113, 3) := by decide +kernel
theorem dX6_makeOnePrint_19 : decode cX6_makeOnePrint 19 = .ok (.istore_n 2, 1) := by decide +kernel
theorem dX6_makeOnePrint_20 : decode cX6_makeOnePrint 20 = .ok (.aload_n 0, 1) := by decide +kernel
theorem dX6_makeOnePrint_21 : decode cX6_makeOnePrint 21 = .ok (.iload_n 1, 1) := by decide +kernel
theorem dX6_makeOnePrint_22 : decode cX6_makeOnePrint 22 = .ok (.iload_n 2, 1) := by decide +kernel
theorem dX6_makeOnePrint_23 : decode cX6_makeOnePrint 23 = .ok (.invokevirtual 116, 3) := by decide +kernel
theorem dX6_makeOnePrint_26 : decode cX6_makeOnePrint 26 = .ok (.istore_n 3, 1) := by decide +kernel
theorem dX6_makeOnePrint_27 : decode cX6_makeOnePrint 27 = .ok (.aload_n 0, 1) := by decide +kernel
theorem dX6_makeOnePrint_28 : decode cX6_makeOnePrint 28 = .ok (.getfield 10, 3) := by decide +kernel
theorem dX6_makeOnePrint_31 : decode cX6_makeOnePrint 31 = .ok (.dup, 1) := by decide +kernel
theorem dX6_makeOnePrint_32 : decode cX6_makeOnePrint 32 = .ok (.getfield 130, 3) := by decide +kernel
theorem dX6_makeOnePrint_35 : decode cX6_makeOnePrint 35 = .ok (.iconst 1, 1) := by decide +kernel
theorem dX6_makeOnePrint_36 : decode cX6_makeOnePrint 36 = .ok (.iadd, 1) := by decide +kernel
theorem dX6_makeOnePrint_37 : decode cX6_makeOnePrint 37 = .ok (.putfield 130, 3) := by decide +kernel
theorem dX6_makeOnePrint_40 : decode cX6_makeOnePrint 40 = .ok (.aload_n 0, 1) := by decide +kernel
theorem dX6_makeOnePrint_41 : decode cX6_makeOnePrint 41 = .ok (.getfield 10, 3) := by decide +kernel
theorem dX6_makeOnePrint_44 : decode cX6_makeOnePrint 44 = .ok (.getfield 176, 3) := by decide +kernel
theorem dX6_makeOnePrint_47 : decode cX6_makeOnePrint 47 = .ok (.aload_n 0, 1) := by decide +kernel
theorem dX6_makeOnePrint_48 : decode cX6_makeOnePrint 48 = .ok (.getfield 10, 3) := by decide +kernel
theorem dX6_makeOnePrint_51 : decode cX6_makeOnePrint 51 = .ok (.getfield 130, 3) := by decide +kernel
theorem dX6_makeOnePrint_54 : decode cX6_makeOnePrint 54 = .ok (.iload_n 1, 1) := by decide +kernel
theorem dX6_makeOnePrint_55 : decode cX6_makeOnePrint 55 = .ok (.iload_n 2, 1) := by decide +kernel
theorem dX6_makeOnePrint_56 : decode cX6_makeOnePrint 56 = .ok (.invokevirtual 237, 3) := by decide +kernel
theorem dX6_makeOnePrint_59 : decode cX6_makeOnePrint 59 = .ok (.aload_n 0, 1) := by decide +kernel
theorem dX6_makeOnePrint_60 : decode cX6_makeOnePrint 60 = .ok (.getfield 10, 3) := by decide +kernel
theorem dX6_makeOnePrint_63 : decode cX6_makeOnePrint 63 = .ok (.getfield 176, 3) := by decide +kernel
theorem dX6_makeOnePrint_66 : decode cX6_makeOnePrint 66 = .ok (.iload_n 3, 1) := by decide +kernel
theorem dX6_makeOnePrint_67 : decode cX6_makeOnePrint 67 = .ok (.aload_n 0, 1) := by decide +kernel
theorem dX6_makeOnePrint_68 : decode cX6_makeOnePrint 68 = .ok (.iload_n 1, 1) := by decide +kernel
theorem dX6_makeOnePrint_69 : decode cX6_makeOnePrint 69 = .ok (.iload_n 2, 1) := by decide +kernel
theorem dX6_makeOnePrint_70 : decode cX6_makeOnePrint 70 = .ok (.invokevirtual 202, 3) := by decide +kernel
theorem dX6_makeOnePrint_73 : decode cX6_makeOnePrint 73 = .ok (.aload_n 0, 1) := by decide +kernel
theorem dX6_makeOnePrint_74 : decode cX6_makeOnePrint 74 = .ok (.getfield 10, 3) := by decide +kernel
theorem dX6_makeOnePrint_77 : decode cX6_makeOnePrint 77 = .ok (.getfield 52, 3) := by decide +kernel
theorem dX6_makeOnePrint_80 : decode cX6_makeOnePrint 80 = .ok (.aload_n 0, 1) := by decide +kernel
theorem dX6_makeOnePrint_81 : decode cX6_makeOnePrint 81 = .ok (.getfield 33, 3) := by decide +kernel
theorem dX6_makeOnePrint_84 : decode cX6_makeOnePrint 84 = .ok (.invokevirtual 205, 3) := by decide +kernel
theorem dX6_makeOnePrint_87 : decode cX6_makeOnePrint 87 = .ok (.invokevirtual 241, 3) := by decide +kernel
theorem dX6_makeOnePrint_90 : decode cX6_makeOnePrint 90 = .ok (.aload_n 0, 1) := by decide +kernel
theorem dX6_makeOnePrint_91 : decode cX6_makeOnePrint 91 = .ok (.getfield 10, 3) := by decide +kernel
theorem dX6_makeOnePrint_94 : decode cX6_makeOnePrint 94 = .ok (.getfield 52, 3) := by decide +kernel
theorem dX6_makeOnePrint_97 : decode cX6_makeOnePrint 97 = .ok (.aload_n 0, 1) := by decide +kernel
theorem dX6_makeOnePrint_98 : decode cX6_makeOnePrint 98 = .ok (.getfield 33, 3) := by decide +kernel
theorem dX6_makeOnePrint_101 : decode cX6_makeOnePrint 101 = .ok (.invokevirtual 244, 3) := by decide +kernel
theorem dX6_makeOnePrint_104 : decode cX6_makeOnePrint 104 = .ok (.aload_n 0, 1) := by decide +kernel
theorem dX6_makeOnePrint_105 : decode cX6_makeOnePrint 105 = .ok (.getfield 10, 3) := by decide +kernel
theorem dX6_makeOnePrint_108 : decode cX6_makeOnePrint 108 = .ok (.invokevirtual 248, 3) := by decide +kernel
theorem dX6_makeOnePrint_111 : decode cX6_makeOnePrint 111 = .ok (.iload_n 3, 1) := by decide +kernel
theorem dX6_makeOnePrint_112 : decode cX6_makeOnePrint 112 = .ok (.ireturn, 1) := by decide +kernel
