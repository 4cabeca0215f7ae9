set_option maxRecDepth 20000 in
theorem ggX6_print_X6_isWithin : GoodIn wsX6_print wsX6_isWithin := goodIn_r _ [7] (by decide +kernel) (by decide +kernel)
set_option maxRecDepth 20000 in
theorem gX6_print_X6_isWithin : GoodIn wsX6_print (va_wsS RX6 44 yX6_isWithin wsX6_isWithin) := goodIn_app (goodIn_of _ (by decide +kernel)) ggX6_print_X6_isWithin
set_option maxRecDepth 20000 in
theorem ggX6_print_X2_keep : GoodIn wsX6_print wsX2_keep := goodIn_r _ [12, 13, 14, 15, 16, 17, 18, 19, 20, 21, 22, 23, 24, 25, 26, 27, 28, 29, 30, 31, 32, 33, 34, 35, 36, 37, 38, 39, 40, 41, 42, 43, 44, 45, 46, 47, 48, 49, 50, 51, 52, 53, 54, 55, 56, 57, 58, 59, 60, 61, 62, 63, 64, 65, 194, 195, 196, 184, 185, 186, 187, 188, 189, 190, 191, 192, 193, 197, 198, 199, 200, 201, 202, 203, 204, 205] (by decide +kernel) (by decide +kernel)
set_option maxRecDepth 20000 in
theorem gX6_print_X2_keep : GoodIn wsX6_print (wsV RX6 48 RX2 yX2_keep wsX2_keep) := goodIn_app (goodIn_of _ (by decide +kernel)) ggX6_print_X2_keep
set_option maxRecDepth 20000 in
theorem ggX6_print_X6_makeOnePrint : GoodIn wsX6_print wsX6_makeOnePrint := goodIn_r _ [69, 1, 2, 70, 71, 72, 73, 74, 75, 6, 76, 77, 78, 79, 23, 80, 26, 81, 82, 83, 42, 84, 48, 46, 85, 86, 87, 88, 89, 53, 90, 55, 91, 92, 93, 94, 95, 96, 97, 98, 99, 32, 100, 101, 102, 103, 104, 105, 106, 107, 33, 108, 109, 110, 111, 112, 113, 114, 115, 116, 117, 118, 119, 120, 44, 45, 121, 122, 123, 124, 125, 126, 127, 128, 129, 130, 131, 132, 133, 134, 135, 60, 136, 65, 64, 137, 17, 18, 19, 62, 138, 139, 140, 141, 142, 143, 144, 145, 146, 147, 148, 149, 150, 151, 152, 153, 154, 155, 156, 157, 158, 159, 160, 161, 162, 163, 164, 165, 166, 167, 168, 169, 170, 171, 172, 173, 174, 175, 176, 177, 178, 179, 180, 181, 182, 183, 184, 185, 186, 187, 188, 189, 190, 191, 192, 193, 197, 198, 199, 200, 201, 202, 203, 204, 205] (by decide +kernel) (by decide +kernel)
set_option maxRecDepth 20000 in
theorem gX6_print_X6_makeOnePrint : GoodIn wsX6_print (wsV RX6 133 RX6 yX6_makeOnePrint wsX6_makeOnePrint) := goodIn_app (goodIn_of _ (by decide +kernel)) ggX6_print_X6_makeOnePrint
theorem dX6_print_0 : decode cX6_print 0 = .ok (.iload_n 1, 1) := by decide +kernel
theorem dX6_print_1 : decode cX6_print 1 = .ok (.iconst 1, 1) := by decide +kernel
theorem dX6_print_2 : decode cX6_print 2 = .ok (.bipush 100, 2) := by decide +kernel
theorem dX6_print_4 : decode cX6_print 4 = .ok (.invokestatic 44, 3) := by decide +kernel
theorem dX6_print_7 : decode cX6_print 7 = .ok (.ifCond .ne 7, 3) := by decide +kernel
theorem dX6_print_10 : decode cX6_print 10 = .ok (.sipush (-1001), 3) := by decide +kernel
theorem dX6_print_13 : decode cX6_print 13 = .ok (.ireturn, 1) := by decide +kernel
theorem dX6_print_14 : decode cX6_print 14 = .ok (.aload_n 0, 1) := by decide +kernel
theorem dX6_print_15 : decode cX6_print 15 = .ok (.getfield 10, 3) := by decide +kernel
theorem dX6_print_18 : decode cX6_print 18 = .ok (.getfield 130, 3) := by decide +kernel
theorem dX6_print_21 : decode cX6_print 21 = .ok (.iload_n 1, 1) := by decide +kernel
theorem dX6_print_22 : decode cX6_print 22 = .ok (.iadd, 1) := by decide +kernel
theorem dX6_print_23 : decode cX6_print 23 = .ok (.sipush 5000, 3) := by decide +kernel
theorem dX6_print_26 : decode cX6_print 26 = .ok (.if_icmp .le 7, 3) := by decide +kernel
theorem dX6_print_29 : decode cX6_print 29 = .ok (.sipush (-1003), 3) := by decide +kernel
theorem dX6_print_32 : decode cX6_print 32 = .ok (.ireturn, 1) := by decide +kernel
theorem dX6_print_33 : decode cX6_print 33 = .ok (.aload_n 0, 1) := by decide +kernel
theorem dX6_print_34 : decode cX6_print 34 = .ok (.getfield 19, 3) := by decide +kernel
theorem dX6_print_37 : decode cX6_print 37 = .ok (.aload_n 0, 1) := by decide +kernel
theorem dX6_print_38 : decode cX6_print 38 = .ok (.getfield 10, 3) := by decide +kernel
theorem dX6_print_41 : decode cX6_print 41 = .ok (.invokevirtual 48, 3) := by decide +kernel
theorem dX6_print_44 : decode cX6_print 44 = .ok (.iconst 0, 1) := by decide +kernel
theorem dX6_print_45 : decode cX6_print 45 = .ok (.istore_n 2, 1) := by decide +kernel
theorem dX6_print_46 : decode cX6_print 46 = .ok (.iconst 0, 1) := by decide +kernel
theorem dX6_print_47 : decode cX6_print 47 = .ok (.istore_n 3, 1) := by decide +kernel
theorem dX6_print_48 : decode cX6_print 48 = .ok (.iload_n 3, 1) := by decide +kernel
theorem dX6_print_49 : decode cX6_print 49 = .ok (.iload_n 1, 1) := by decide +kernel
theorem dX6_print_50 : decode cX6_print 50 = .ok (.if_icmp .ge 16, 3) := by decide +kernel
theorem dX6_print_53 : decode cX6_print 53 = .ok (.iload_n 2, 1) := by decide +kernel
theorem dX6_print_54 : decode cX6_print 54 = .ok (.aload_n 0, 1) := by decide +kernel
theorem dX6_print_55 : decode cX6_print 55 = .ok (.invokevirtual 133, 3) := by decide +kernel
theorem dX6_print_58 : decode cX6_print 58 = .ok (.iadd, 1) := by decide +kernel
theorem dX6_print_59 : decode cX6_print 59 = .ok (.istore_n 2, 1) := by decide +kernel
theorem dX6_print_60 : decode cX6_print 60 = .ok (.iinc 3 1, 3) := by decide +kernel
theorem dX6_print_63 : decode cX6_print 63 = .ok (.goto (-15), 3) := by decide +kernel
theorem dX6_print_66 : decode cX6_print 66 = .ok (.iload_n 2, 1) := by decide +kernel
theorem dX6_print_67 : decode cX6_print 67 = .ok (.ireturn, 1) := by decide +kernel
set_option maxRecDepth 20000 in
theorem ggX6_take_X6_isWithin : GoodIn wsX6_take wsX6_isWithin := goodIn_r _ [7] (by decide +kernel) (by decide +kernel)
set_option maxRecDepth 20000 in
theorem gX6_take_X6_isWithin : GoodIn wsX6_take (va_wsS RX6 44 yX6_isWithin wsX6_isWithin) := goodIn_app (goodIn_of _ (by decide +kernel)) ggX6_take_X6_isWithin
set_option maxRecDepth 20000 in
theorem ggX6_take_X2_keep : GoodIn wsX6_take wsX2_keep := goodIn_r _ [12, 13, 14, 15, 16, 17, 18, 19, 20, 21, 22, 23, 24, 25, 26, 27, 28, 29, 30, 31, 32, 33, 34, 35, 36, 37, 38, 39, 40, 41, 42, 43, 44, 45, 46, 47, 48, 49, 50, 51, 52, 53, 54, 55, 56, 57, 58, 59, 60, 61, 62, 63, 64, 65, 104, 105, 106, 94, 95, 96, 97, 98, 99, 100, 101, 102, 103, 107, 108, 109, 110, 111, 112, 113, 114, 115] (by decide +kernel) (by decide +kernel)
set_option maxRecDepth 20000 in
theorem gX6_take_X2_keep : GoodIn wsX6_take (wsV RX6 48 RX2 yX2_keep wsX2_keep) := goodIn_app (goodIn_of _ (by decide +kernel)) ggX6_take_X2_keep
set_option maxRecDepth 20000 in
theorem ggX6_take_X5_takeSnapshot : GoodIn wsX6_take wsX5_takeSnapshot := goodIn_r _ [69, 25, 37, 38, 70, 71, 72, 23, 73, 35, 36, 39, 40, 41, 42, 43, 44, 45, 46, 47, 48, 49, 28, 29, 30, 50, 51, 52, 53, 54, 55, 56, 94, 95, 96, 97, 98, 99, 100, 101, 102, 103, 107, 108, 109, 110, 111, 112] (by decide +kernel) (by decide +kernel)
set_option maxRecDepth 20000 in
theorem gX6_take_X5_takeSnapshot : GoodIn wsX6_take (wsV RX6 136 RX5 yX5_takeSnapshot wsX5_takeSnapshot) := goodIn_app (goodIn_of _ (by decide +kernel)) ggX6_take_X5_takeSnapshot
set_option maxRecDepth 20000 in
theorem ggX6_take_X0_paintedCells : GoodIn wsX6_take wsX0_paintedCells := goodIn_r _ [77, 44, 45, 78, 79, 80, 53, 81, 55, 82, 83, 84, 85, 86, 87, 88, 107, 108, 109, 110, 111, 112] (by decide +kernel) (by decide +kernel)
set_option maxRecDepth 20000 in
theorem gX6_take_X0_paintedCells : GoodIn wsX6_take (wsV RX6 139 RX0 yX0_paintedCells wsX0_paintedCells) := goodIn_app (goodIn_of _ (by decide +kernel)) ggX6_take_X0_paintedCells
theorem dX6_take_0 : decode cX6_take 0 = .ok (.iload_n 1, 1) := by decide +kernel
theorem dX6_take_1 : decode cX6_take 1 = .ok (.iconst 0, 1) := by decide +kernel
theorem dX6_take_2 : decode cX6_take 2 = .ok (.iconst 1, 1) := by decide +kernel
theorem dX6_take_3 : decode cX6_take 3 = .ok (.invokestatic 44, 3) := by decide +kernel
theorem dX6_take_6 : decode cX6_take 6 = .ok (.ifCond .ne 7, 3) := by decide +kernel
theorem dX6_take_9 : decode cX6_take 9 = .ok (.sipush (-1001), 3) := by decide +kernel
theorem dX6_take_12 : decode cX6_take 12 = .ok (.ireturn, 1) := by decide +kernel
theorem dX6_take_13 : decode cX6_take 13 = .ok (.aload_n 0, 1) := by decide +kernel
theorem dX6_take_14 : decode cX6_take 14 = .ok (.getfield 19, 3) := by decide +kernel
theorem dX6_take_17 : decode cX6_take 17 = .ok (.aload_n 0, 1) := by decide +kernel
theorem dX6_take_18 : decode cX6_take 18 = .ok (.getfield 10, 3) := by decide +kernel
theorem dX6_take_21 : decode cX6_take 21 = .ok (.invokevirtual 48, 3) := by decide +kernel
theorem dX6_take_24 : decode cX6_take 24 = .ok (.aload_n 0, 1) := by decide +kernel
theorem dX6_take_25 : decode cX6_take 25 = .ok (.getfield 10, 3) := by decide +kernel
theorem dX6_take_28 : decode cX6_take 28 = .ok (.iload_n 1, 1) := by decide +kernel
theorem dX6_take_29 : decode cX6_take 29 = .ok (.invokevirtual 136, 3) := by decide +kernel
theorem dX6_take_32 : decode cX6_take 32 = .ok (.aload_n 0, 1) := by decide +kernel
theorem dX6_take_33 : decode cX6_take 33 = .ok (.getfield 10, 3) := by decide +kernel
theorem dX6_take_36 : decode cX6_take 36 = .ok (.getfield 52, 3) := by decide +kernel
theorem dX6_take_39 : decode cX6_take 39 = .ok (.invokevirtual 139, 3) := by decide +kernel
theorem dX6_take_42 : decode cX6_take 42 = .ok (.ireturn, 1) := by decide +kernel
set_option maxRecDepth 20000 in
theorem ggX6_restore_X6_isWithin : GoodIn wsX6_restore wsX6_isWithin := goodIn_r _ [7] (by decide +kernel) (by decide +kernel)
set_option maxRecDepth 20000 in
theorem gX6_restore_X6_isWithin : GoodIn wsX6_restore (va_wsS RX6 44 yX6_isWithin wsX6_isWithin) := goodIn_app (goodIn_of _ (by decide +kernel)) ggX6_restore_X6_isWithin
set_option maxRecDepth 20000 in
theorem ggX6_restore_X5_isTaken : GoodIn wsX6_restore wsX5_isTaken := goodIn_r _ [12, 13, 14, 98, 99, 100, 101, 102, 103, 104, 105, 106, 107] (by decide +kernel) (by decide +kernel)
set_option maxRecDepth 20000 in
theorem gX6_restore_X5_isTaken : GoodIn wsX6_restore (wsV RX6 142 RX5 yX5_isTaken wsX5_isTaken) := goodIn_app (goodIn_of _ (by decide +kernel)) ggX6_restore_X5_isTaken
set_option maxRecDepth 20000 in
theorem ggX6_restore_X2_keep : GoodIn wsX6_restore wsX2_keep := goodIn_r _ [19, 20, 21, 22, 23, 24, 25, 26, 27, 28, 29, 11, 30, 31, 32, 33, 34, 35, 36, 37, 38, 39, 40, 41, 42, 13, 14, 43, 44, 45, 46, 47, 48, 49, 50, 51, 52, 53, 54, 55, 56, 57, 58, 59, 60, 61, 62, 63, 64, 65, 66, 67, 68, 69, 108, 109, 110, 98, 99, 100, 101, 102, 103, 104, 105, 106, 107, 111, 112, 113, 114, 115, 116, 117, 118, 119] (by decide +kernel) (by decide +kernel)
set_option maxRecDepth 20000 in
theorem gX6_restore_X2_keep : GoodIn wsX6_restore (wsV RX6 48 RX2 yX2_keep wsX2_keep) := goodIn_app (goodIn_of _ (by decide +kernel)) ggX6_restore_X2_keep
set_option maxRecDepth 20000 in
theorem ggX6_restore_X5_restoreSnapshot : GoodIn wsX6_restore wsX5_restoreSnapshot := goodIn_r _ [73, 31, 74, 75, 76, 11, 77, 41, 42, 43, 44, 45, 46, 47, 48, 49, 50, 51, 52, 53, 34, 35, 36, 54, 55, 56, 57, 58, 59, 60, 98, 99, 100, 101, 102, 103, 104, 105, 106, 107, 111, 112, 113, 114, 115, 116] (by decide +kernel) (by decide +kernel)
set_option maxRecDepth 20000 in
theorem gX6_restore_X5_restoreSnapshot : GoodIn wsX6_restore (wsV RX6 146 RX5 yX5_restoreSnapshot wsX5_restoreSnapshot) := goodIn_app (goodIn_of _ (by decide +kernel)) ggX6_restore_X5_restoreSnapshot
set_option maxRecDepth 20000 in
theorem ggX6_restore_X0_paintedCells : GoodIn wsX6_restore wsX0_paintedCells := goodIn_r _ [81, 48, 49, 82, 83, 84, 57, 85, 59, 86, 87, 88, 89, 90, 91, 92, 111, 112, 113, 114, 115, 116] (by decide +kernel) (by decide +kernel)
set_option maxRecDepth 20000 in
theorem gX6_restore_X0_paintedCells : GoodIn wsX6_restore (wsV RX6 139 RX0 yX0_paintedCells wsX0_paintedCells) := goodIn_app (goodIn_of _ (by decide +kernel)) ggX6_restore_X0_paintedCells
theorem dX6_restore_0 : decode cX6_restore 0 = .ok (.iload_n 1, 1) := by decide +kernel
theorem dX6_restore_1 : decode cX6_restore 1 = .ok (.iconst 0, 1) := by decide +kernel
theorem dX6_restore_2 : decode cX6_restore 2 = .ok (.iconst 1, 1) := by decide +kernel
theorem dX6_restore_3 : decode cX6_restore 3 = .ok (.invokestatic 44, 3) := by decide +kernel
theorem dX6_restore_6 : decode cX6_restore 6 = .ok (.ifCond .ne 7, 3) := by decide +kernel
theorem dX6_restore_9 : decode cX6_restore 9 = .ok (.sipush (-1001), 3) := by decide +kernel
theorem dX6_restore_12 : decode cX6_restore 12 = .ok (.ireturn, 1) := by decide +kernel
theorem dX6_restore_13 : decode cX6_restore 13 = .ok (.aload_n 0, 1) := by decide +kernel
theorem dX6_restore_14 : decode cX6_restore 14 = .ok (.getfield 10, 3) := by decide +kernel
theorem dX6_restore_17 : decode cX6_restore 17 = .ok (.iload_n 1, 1) := by decide +kernel
theorem dX6_restore_18 : decode cX6_restore 18 = .ok (.invokevirtual 142, 3) := by decide +kernel
theorem dX6_restore_21 : decode cX6_restore 21 = .ok (.ifCond .ne 7, 3) := by decide +kernel
theorem dX6_restore_24 : decode cX6_restore 24 = .ok (.sipush (-1002), 3) := by decide +kernel
theorem dX6_restore_27 : decode cX6_restore 27 = .ok (.ireturn, 1) := by decide +kernel
theorem dX6_restore_28 : decode cX6_restore 28 = .ok (.aload_n 0, 1) := by decide +kernel
theorem dX6_restore_29 : decode cX6_restore 29 = .ok (.getfield 19, 3) := by decide +kernel
theorem dX6_restore_32 : decode cX6_restore 32 = .ok (.aload_n 0, 1) := by decide +kernel
theorem dX6_restore_33 : decode cX6_restore 33 = .ok (.getfield 10, 3) := by decide +kernel
theorem dX6_restore_36 : decode cX6_restore 36 = .ok (.invokevirtual 48, 3) := by decide +kernel
theorem dX6_restore_39 : decode cX6_restore 39 = .ok (.aload_n 0, 1) := by decide +kernel
theorem dX6_restore_40 : decode cX6_restore 40 = .ok (.getfield 10, 3) := by decide +kernel
theorem dX6_restore_43 : decode cX6_restore 43 = .ok (.iload_n 1, 1) := by decide +kernel
theorem dX6_restore_44 : decode cX6_restore 44 = .ok (.invokevirtual 146, 3) := by decide +kernel
theorem dX6_restore_47 : decode cX6_restore 47 = .ok (.aload_n 0, 1) := by decide +kernel
theorem dX6_restore_48 : decode cX6_restore 48 = .ok (.getfield 10, 3) := by decide +kernel
theorem dX6_restore_51 : decode cX6_restore 51 = .ok (.getfield 52, 3) := by decide +kernel
theorem dX6_restore_54 : decode cX6_restore 54 = .ok (.invokevirtual 139, 3) := by decide +kernel
theorem dX6_restore_57 : decode cX6_restore 57 = .ok (.ireturn, 1) := by decide +kernel
set_option maxRecDepth 20000 in
theorem ggX6_undo_X2_size : GoodIn wsX6_undo wsX2_size := goodIn_r _ [7, 8, 70, 71, 72] (by decide +kernel) (by decide +kernel)
set_option maxRecDepth 20000 in
theorem gX6_undo_X2_size : GoodIn wsX6_undo (wsV RX6 149 RX2 yX2_size wsX2_size) := goodIn_app (goodIn_of _ (by decide +kernel)) ggX6_undo_X2_size
set_option maxRecDepth 20000 in
theorem ggX6_undo_X2_giveBack : GoodIn wsX6_undo wsX2_giveBack := goodIn_r _ [12, 13, 8, 14, 15, 16, 17, 18, 19, 20, 21, 22, 23, 24, 25, 26, 27, 28, 29, 30, 31, 32, 33, 34, 35, 36, 37, 38, 39, 40, 41, 42, 43, 44, 45, 46, 47, 48, 49, 50, 51, 52, 53, 54, 55, 56, 57, 58, 59, 60, 61, 62, 63, 64, 70, 71, 72, 73, 74, 75, 76, 77, 78, 79, 80, 81, 82, 83, 84, 85, 86, 87, 88, 89, 90, 91] (by decide +kernel) (by decide +kernel)
set_option maxRecDepth 20000 in
theorem gX6_undo_X2_giveBack : GoodIn wsX6_undo (wsV RX6 150 RX2 yX2_giveBack wsX2_giveBack) := goodIn_app (goodIn_of _ (by decide +kernel)) ggX6_undo_X2_giveBack
theorem dX6_undo_0 : decode cX6_undo 0 = .ok (.aload_n 0, 1) := by decide +kernel
theorem dX6_undo_1 : decode cX6_undo 1 = .ok (.getfield 19, 3) := by decide +kernel
theorem dX6_undo_4 : decode cX6_undo 4 = .ok (.invokevirtual 149, 3) := by decide +kernel
theorem dX6_undo_7 : decode cX6_undo 7 = .ok (.ifCond .ne 7, 3) := by decide +kernel
theorem dX6_undo_10 : decode cX6_undo 10 = .ok (.sipush (-1002), 3) := by decide +kernel
theorem dX6_undo_13 : decode cX6_undo 13 = .ok (.ireturn, 1) := by decide +kernel
theorem dX6_undo_14 : decode cX6_undo 14 = .ok (.aload_n 0, 1) := by decide +kernel
theorem dX6_undo_15 : decode cX6_undo 15 = .ok (.getfield 19, 3) := by decide +kernel
theorem dX6_undo_18 : decode cX6_undo 18 = .ok (.aload_n 0, 1) := by decide +kernel
theorem dX6_undo_19 : decode cX6_undo 19 = .ok (.getfield 10, 3) := by decide +kernel
theorem dX6_undo_22 : decode cX6_undo 22 = .ok (.invokevirtual 150, 3) := by decide +kernel
theorem dX6_undo_25 : decode cX6_undo 25 = .ok (.aload_n 0, 1) := by decide +kernel
theorem dX6_undo_26 : decode cX6_undo 26 = .ok (.getfield 19, 3) := by decide +kernel
theorem dX6_undo_29 : decode cX6_undo 29 = .ok (.invokevirtual 149, 3) := by decide +kernel
theorem dX6_undo_32 : decode cX6_undo 32 = .ok (.ireturn, 1) := by decide +kernel
set_option maxRecDepth 20000 in
theorem ggX6_count_X5_shiftX : GoodIn wsX6_count wsX5_shiftX := goodIn_r _ [18, 19, 20, 21, 22, 17, 23, 24, 115, 116, 117, 118, 119, 120, 121, 122, 123, 124] (by decide +kernel) (by decide +kernel)
set_option maxRecDepth 20000 in
theorem gX6_count_X5_shiftX : GoodIn wsX6_count (wsV RX6 110 RX5 yX5_shiftX wsX5_shiftX) := goodIn_app (goodIn_of _ (by decide +kernel)) ggX6_count_X5_shiftX
set_option maxRecDepth 20000 in
theorem ggX6_count_X5_shiftY : GoodIn wsX6_count wsX5_shiftY := goodIn_r _ [28, 29, 30, 31, 32, 17, 33, 24, 115, 116, 117, 118, 119, 120, 121, 122, 123, 124] (by decide +kernel) (by decide +kernel)
set_option maxRecDepth 20000 in
theorem gX6_count_X5_shiftY : GoodIn wsX6_count (wsV RX6 113 RX5 yX5_shiftY wsX5_shiftY) := goodIn_app (goodIn_of _ (by decide +kernel)) ggX6_count_X5_shiftY
set_option maxRecDepth 20000 in
theorem ggX6_count_X0_paintedCells : GoodIn wsX6_count wsX0_paintedCells := goodIn_r _ [38, 39, 40, 41, 42, 43, 44, 45, 46, 47, 48, 49, 50, 51, 52, 53, 125, 126, 127, 128, 129, 130] (by decide +kernel) (by decide +kernel)
set_option maxRecDepth 20000 in
theorem gX6_count_X0_paintedCells : GoodIn wsX6_count (wsV RX6 139 RX0 yX0_paintedCells wsX0_paintedCells) := goodIn_app (goodIn_of _ (by decide +kernel)) ggX6_count_X0_paintedCells
set_option maxRecDepth 20000 in
theorem ggX6_count_X1_size : GoodIn wsX6_count wsX1_size := goodIn_r _ [45, 46, 47, 48, 49, 50, 51, 52, 53, 130] (by decide +kernel) (by decide +kernel)
set_option maxRecDepth 20000 in
theorem gX6_count_X1_size : GoodIn wsX6_count (wsV RX6 69 RX1 yX1_size wsX1_size) := goodIn_app (goodIn_of _ (by decide +kernel)) ggX6_count_X1_size
set_option maxRecDepth 20000 in
theorem ggX6_count_X6_wornCells : GoodIn wsX6_count wsX6_wornCells := goodIn_r _ [59, 1, 6, 9, 60, 61, 62, 63, 58, 64, 65, 66, 67, 17, 68, 24, 69, 70, 71, 37, 72, 73, 74, 75, 76, 77, 78, 79, 44, 80, 46, 81, 82, 83, 84, 85, 54, 42, 43, 45, 47, 48, 49, 50, 51, 52, 53, 110, 111, 112, 113, 114, 115, 116, 117, 118, 119, 120, 121, 122, 123, 124, 125, 126, 127, 128, 129, 130] (by decide +kernel) (by decide +kernel)
set_option maxRecDepth 20000 in
theorem gX6_count_X6_wornCells : GoodIn wsX6_count (wsV RX6 97 RX6 yX6_wornCells wsX6_wornCells) := goodIn_app (goodIn_of _ (by decide +kernel)) ggX6_count_X6_wornCells
set_option maxRecDepth 20000 in
theorem ggX6_count_X3_size : GoodIn wsX6_count wsX3_size := goodIn_r _ [90, 91, 131, 132, 133] (by decide +kernel) (by decide +kernel)
set_option maxRecDepth 20000 in
theorem gX6_count_X3_size : GoodIn wsX6_count (wsV RX6 180 RX3 yX3_size wsX3_size) := goodIn_app (goodIn_of _ (by decide +kernel)) ggX6_count_X3_size
set_option maxRecDepth 20000 in
theorem ggX6_count_X5_snapshots : GoodIn wsX6_count wsX5_snapshots := goodIn_r _ [95, 96, 97, 75, 58, 76, 115, 116, 117, 118, 119, 120, 121, 122, 123, 124] (by decide +kernel) (by decide +kernel)
set_option maxRecDepth 20000 in
theorem gX6_count_X5_snapshots : GoodIn wsX6_count (wsV RX6 183 RX5 yX5_snapshots wsX5_snapshots) := goodIn_app (goodIn_of _ (by decide +kernel)) ggX6_count_X5_snapshots
set_option maxRecDepth 20000 in
theorem ggX6_count_X2_size : GoodIn wsX6_count wsX2_size := goodIn_r _ [102, 103, 134, 135, 136] (by decide +kernel) (by decide +kernel)
set_option maxRecDepth 20000 in
theorem gX6_count_X2_size : GoodIn wsX6_count (wsV RX6 149 RX2 yX2_size wsX2_size) := goodIn_app (goodIn_of _ (by decide +kernel)) ggX6_count_X2_size
set_option maxRecDepth 20000 in
theorem ggX6_count_X4_length : GoodIn wsX6_count wsX4_length := goodIn_r _ [108, 109, 137, 138, 139, 140, 141, 142] (by decide +kernel) (by decide +kernel)
set_option maxRecDepth 20000 in
theorem gX6_count_X4_length : GoodIn wsX6_count (wsV RX6 153 RX4 yX4_length wsX4_length) := goodIn_app (goodIn_of _ (by decide +kernel)) ggX6_count_X4_length
theorem dX6_count_0 : decode cX6_count 0 = .ok (.iload_n 1, 1) := by decide +kernel
theorem dX6_count_1 : decode cX6_count 1 = .ok (.tableswitch 258 0 19 #[95, 103, 103, 103, 103, 103, 115, 123, 131, 139, 147, 162, 176, 190, 204, 218, 223, 234, 242, 250], 95) := by decide +kernel
theorem dX6_count_96 : decode cX6_count 96 = .ok (.aload_n 0, 1) := by decide +kernel
theorem dX6_count_97 : decode cX6_count 97 = .ok (.getfield 10, 3) := by decide +kernel
theorem dX6_count_100 : decode cX6_count 100 = .ok (.getfield 130, 3) := by decide +kernel
theorem dX6_count_103 : decode cX6_count 103 = .ok (.ireturn, 1) := by decide +kernel
theorem dX6_count_104 : decode cX6_count 104 = .ok (.aload_n 0, 1) := by decide +kernel
theorem dX6_count_105 : decode cX6_count 105 = .ok (.getfield 10, 3) := by decide +kernel
theorem dX6_count_108 : decode cX6_count 108 = .ok (.getfield 127, 3) := by decide +kernel
theorem dX6_count_111 : decode cX6_count 111 = .ok (.iload_n 1, 1) := by decide +kernel
theorem dX6_count_112 : decode cX6_count 112 = .ok (.iconst 1, 1) := by decide +kernel
theorem dX6_count_113 : decode cX6_count 113 = .ok (.isub, 1) := by decide +kernel
theorem dX6_count_114 : decode cX6_count 114 = .ok (.iaload, 1) := by decide +kernel
theorem dX6_count_115 : decode cX6_count 115 = .ok (.ireturn, 1) := by decide +kernel
theorem dX6_count_116 : decode cX6_count 116 = .ok (.aload_n 0, 1) := by decide +kernel
theorem dX6_count_117 : decode cX6_count 117 = .ok (.getfield 10, 3) := by decide +kernel
theorem dX6_count_120 : decode cX6_count 120 = .ok (.getfield 100, 3) := by decide +kernel
theorem dX6_count_123 : decode cX6_count 123 = .ok (.ireturn, 1) := by decide +kernel
theorem dX6_count_124 : decode cX6_count 124 = .ok (.aload_n 0, 1) := by decide +kernel
theorem dX6_count_125 : decode cX6_count 125 = .ok (.getfield 10, 3) := by decide +kernel
theorem dX6_count_128 : decode cX6_count 128 = .ok (.getfield 104, 3) := by decide +kernel
theorem dX6_count_131 : decode cX6_count 131 = .ok (.ireturn, 1) := by decide +kernel
theorem dX6_count_132 : decode cX6_count 132 = .ok (.aload_n 0, 1) := by decide +kernel
theorem dX6_count_133 : decode cX6_count 133 = .ok (.getfield 10, 3) := by decide +kernel
theorem dX6_count_136 : decode cX6_count 136 = .ok (.invokevirtual 110, 3) := by decide +kernel
theorem dX6_count_139 : decode cX6_count 139 = .ok (.ireturn, 1) := by decide +kernel
theorem dX6_count_140 : decode cX6_count 140 = .ok (.aload_n 0, 1) := by decide +kernel
theorem dX6_count_141 : decode cX6_count 141 = .ok (.getfield 10, 3) := by decide +kernel
theorem dX6_count_144 : decode cX6_count 144 = .ok (.invokevirtual 113, 3) := by decide +kernel
theorem dX6_count_147 : decode cX6_count 147 = .ok (.ireturn, 1) := by decide +kernel
theorem dX6_count_148 : decode cX6_count 148 = .ok (.sipush 192, 3) := by decide +kernel
theorem dX6_count_151 : decode cX6_count 151 = .ok (.aload_n 0, 1) := by decide +kernel
theorem dX6_count_152 : decode cX6_count 152 = .ok (.getfield 10, 3) := by decide +kernel
theorem dX6_count_155 : decode cX6_count 155 = .ok (.getfield 52, 3) := by decide +kernel
theorem dX6_count_158 : decode cX6_count 158 = .ok (.invokevirtual 139, 3) := by decide +kernel
theorem dX6_count_161 : decode cX6_count 161 = .ok (.isub, 1) := by decide +kernel
theorem dX6_count_162 : decode cX6_count 162 = .ok (.ireturn, 1) := by decide +kernel
theorem dX6_count_163 : decode cX6_count 163 = .ok (.aload_n 0, 1) := by decide +kernel
theorem dX6_count_164 : decode cX6_count 164 = .ok (.getfield 10, 3) := by decide +kernel
theorem dX6_count_167 : decode cX6_count 167 = .ok (.getfield 52, 3) := by decide +kernel
theorem dX6_count_170 : decode cX6_count 170 = .ok (.getfield 170, 3) := by decide +kernel
theorem dX6_count_173 : decode cX6_count 173 = .ok (.invokevirtual 69, 3) := by decide +kernel
theorem dX6_count_176 : decode cX6_count 176 = .ok (.ireturn, 1) := by decide +kernel
theorem dX6_count_177 : decode cX6_count 177 = .ok (.aload_n 0, 1) := by decide +kernel
theorem dX6_count_178 : decode cX6_count 178 = .ok (.getfield 10, 3) := by decide +kernel
theorem dX6_count_181 : decode cX6_count 181 = .ok (.getfield 52, 3) := by decide +kernel
theorem dX6_count_184 : decode cX6_count 184 = .ok (.getfield 173, 3) := by decide +kernel
theorem dX6_count_187 : decode cX6_count 187 = .ok (.invokevirtual 69, 3) := by decide +kernel
theorem dX6_count_190 : decode cX6_count 190 = .ok (.ireturn, 1) := by decide +kernel
theorem dX6_count_191 : decode cX6_count 191 = .ok (.aload_n 0, 1) := by decide +kernel
theorem dX6_count_192 : decode cX6_count 192 = .ok (.getfield 10, 3) := by decide +kernel
theorem dX6_count_195 : decode cX6_count 195 = .ok (.getfield 52, 3) := by decide +kernel
theorem dX6_count_198 : decode cX6_count 198 = .ok (.getfield 73, 3) := by decide +kernel
theorem dX6_count_201 : decode cX6_count 201 = .ok (.invokevirtual 69, 3) := by decide +kernel
theorem dX6_count_204 : decode cX6_count 204 = .ok (.ireturn, 1) := by decide +kernel
theorem dX6_count_205 : decode cX6_count 205 = .ok (.aload_n 0, 1) := by decide +kernel
theorem dX6_count_206 : decode cX6_count 206 = .ok (.getfield 10, 3) := by decide +kernel
theorem dX6_count_209 : decode cX6_count 209 = .ok (.getfield 52, 3) := by decide +kernel
theorem dX6_count_212 : decode cX6_count 212 = .ok (.getfield 66, 3) := by decide +kernel
theorem dX6_count_215 : decode cX6_count 215 = .ok (.invokevirtual 69, 3) := by decide +kernel
theorem dX6_count_218 : decode cX6_count 218 = .ok (.ireturn, 1) := by decide +kernel
theorem dX6_count_219 : decode cX6_count 219 = .ok (.aload_n 0, 1) := by decide +kernel
theorem dX6_count_220 : decode cX6_count 220 = .ok (.invokevirtual 97, 3) := by decide +kernel
theorem dX6_count_223 : decode cX6_count 223 = .ok (.ireturn, 1) := by decide +kernel
theorem dX6_count_224 : decode cX6_count 224 = .ok (.aload_n 0, 1) := by decide +kernel
theorem dX6_count_225 : decode cX6_count 225 = .ok (.getfield 10, 3) := by decide +kernel
theorem dX6_count_228 : decode cX6_count 228 = .ok (.getfield 176, 3) := by decide +kernel
theorem dX6_count_231 : decode cX6_count 231 = .ok (.invokevirtual 180, 3) := by decide +kernel
theorem dX6_count_234 : decode cX6_count 234 = .ok (.ireturn, 1) := by decide +kernel
theorem dX6_count_235 : decode cX6_count 235 = .ok (.aload_n 0, 1) := by decide +kernel
theorem dX6_count_236 : decode cX6_count 236 = .ok (.getfield 10, 3) := by decide +kernel
theorem dX6_count_239 : decode cX6_count 239 = .ok (.invokevirtual 183, 3) := by decide +kernel
theorem dX6_count_242 : decode cX6_count 242 = .ok (.ireturn, 1) := by decide +kernel
theorem dX6_count_243 : decode cX6_count 243 = .ok (.aload_n 0, 1) := by decide +kernel
theorem dX6_count_244 : decode cX6_count 244 = .ok (.getfield 19, 3) := by decide +kernel
theorem dX6_count_247 : decode cX6_count 247 = .ok (.invokevirtual 149, 3) := by decide +kernel
theorem dX6_count_250 : decode cX6_count 250 = .ok (.ireturn, 1) := by decide +kernel
theorem dX6_count_251 : decode cX6_count 251 = .ok (.aload_n 0, 1) := by decide +kernel
theorem dX6_count_252 : decode cX6_count 252 = .ok (.getfield 26, 3) := by decide +kernel
theorem dX6_count_255 : decode cX6_count 255 = .ok (.invokevirtual 153, 3) := by decide +kernel
theorem dX6_count_258 : decode cX6_count 258 = .ok (.ireturn, 1) := by decide +kernel
theorem dX6_count_259 : decode cX6_count 259 = .ok (.sipush (-1001), 3) := by decide +kernel
theorem dX6_count_262 : decode cX6_count 262 = .ok (.ireturn, 1) := by decide +kernel
set_option maxRecDepth 20000 in
theorem ggX6_cell_X6_isPlace : GoodIn wsX6_cell wsX6_isPlace := goodIn_r _ [8] (by decide +kernel) (by decide +kernel)
set_option maxRecDepth 20000 in
theorem gX6_cell_X6_isPlace : GoodIn wsX6_cell (va_wsS RX6 40 yX6_isPlace wsX6_isPlace) := goodIn_app (goodIn_of _ (by decide +kernel)) ggX6_cell_X6_isPlace
set_option maxRecDepth 20000 in
theorem ggX6_cell_X0_kindAt : GoodIn wsX6_cell wsX0_kindAt := goodIn_r _ [13, 14, 15, 16, 17, 18, 19, 20, 21, 6, 7, 8, 58, 59, 60, 61, 62, 63] (by decide +kernel) (by decide +kernel)
set_option maxRecDepth 20000 in
theorem gX6_cell_X0_kindAt : GoodIn wsX6_cell (wsV RX6 186 RX0 yX0_kindAt wsX0_kindAt) := goodIn_app (goodIn_of _ (by decide +kernel)) ggX6_cell_X0_kindAt
set_option maxRecDepth 20000 in
theorem ggX6_cell_X1_has : GoodIn wsX6_cell wsX1_has := goodIn_r _ [20, 21, 6, 7, 8, 63] (by decide +kernel) (by decide +kernel)
set_option maxRecDepth 20000 in
theorem gX6_cell_X1_has : GoodIn wsX6_cell (wsV RX6 76 RX1 yX1_has wsX1_has) := goodIn_app (goodIn_of _ (by decide +kernel)) ggX6_cell_X1_has
set_option maxRecDepth 20000 in
theorem ggX6_cell_X6_oneIf : GoodIn wsX6_cell wsX6_oneIf := goodIn_r _ [25] (by decide +kernel) (by decide +kernel)
set_option maxRecDepth 20000 in
theorem gX6_cell_X6_oneIf : GoodIn wsX6_cell (va_wsS RX6 79 yX6_oneIf wsX6_oneIf) := goodIn_app (goodIn_of _ (by decide +kernel)) ggX6_cell_X6_oneIf
set_option maxRecDepth 20000 in
theorem ggX6_cell_X0_wearAt : GoodIn wsX6_cell wsX0_wearAt := goodIn_r _ [29, 30, 6, 7, 8, 58, 59, 60, 61, 62] (by decide +kernel) (by decide +kernel)
set_option maxRecDepth 20000 in
theorem gX6_cell_X0_wearAt : GoodIn wsX6_cell (wsV RX6 189 RX0 yX0_wearAt wsX0_wearAt) := goodIn_app (goodIn_of _ (by decide +kernel)) ggX6_cell_X0_wearAt
set_option maxRecDepth 20000 in
theorem ggX6_cell_X5_hardness : GoodIn wsX6_cell wsX5_hardness := goodIn_r _ [35, 36, 48, 49, 50, 51, 52, 53, 54, 55, 56, 57] (by decide +kernel) (by decide +kernel)
set_option maxRecDepth 20000 in
theorem gX6_cell_X5_hardness : GoodIn wsX6_cell (wsV RX6 91 RX5 yX5_hardness wsX5_hardness) := goodIn_app (goodIn_of _ (by decide +kernel)) ggX6_cell_X5_hardness
set_option maxRecDepth 20000 in
theorem ggX6_cell_X0_isWorn : GoodIn wsX6_cell wsX0_isWorn := goodIn_r _ [40, 41, 16, 17, 18, 19, 20, 21, 6, 7, 8, 42, 27, 28, 12, 29, 30, 58, 59, 60, 61, 62, 63] (by decide +kernel) (by decide +kernel)
set_option maxRecDepth 20000 in
theorem gX6_cell_X0_isWorn : GoodIn wsX6_cell (wsV RX6 94 RX0 yX0_isWorn wsX0_isWorn) := goodIn_app (goodIn_of _ (by decide +kernel)) ggX6_cell_X0_isWorn
theorem dX6_cell_0 : decode cX6_cell 0 = .ok (.iload_n 1, 1) := by decide +kernel
theorem dX6_cell_1 : decode cX6_cell 1 = .ok (.iload_n 2, 1) := by decide +kernel
theorem dX6_cell_2 : decode cX6_cell 2 = .ok (.invokestatic 40, 3) := by decide +kernel
theorem dX6_cell_5 : decode cX6_cell 5 = .ok (.ifCond .ne 7, 3) := by decide +kernel
theorem dX6_cell_8 : decode cX6_cell 8 = .ok (.sipush (-1001), 3) := by decide +kernel
theorem dX6_cell_11 : decode cX6_cell 11 = .ok (.ireturn, 1) := by decide +kernel
theorem dX6_cell_12 : decode cX6_cell 12 = .ok (.iload_n 3, 1) := by decide +kernel
theorem dX6_cell_13 : decode cX6_cell 13 = .ok (.tableswitch 122 0 4 #[35, 48, 67, 86, 99], 35) := by decide +kernel
theorem dX6_cell_48 : decode cX6_cell 48 = .ok (.aload_n 0, 1) := by decide +kernel
theorem dX6_cell_49 : decode cX6_cell 49 = .ok (.getfield 10, 3) := by decide +kernel
theorem dX6_cell_52 : decode cX6_cell 52 = .ok (.getfield 52, 3) := by decide +kernel
theorem dX6_cell_55 : decode cX6_cell 55 = .ok (.iload_n 1, 1) := by decide +kernel
theorem dX6_cell_56 : decode cX6_cell 56 = .ok (.iload_n 2, 1) := by decide +kernel
theorem dX6_cell_57 : decode cX6_cell 57 = .ok (.invokevirtual 186, 3) := by decide +kernel
theorem dX6_cell_60 : decode cX6_cell 60 = .ok (.ireturn, 1) := by decide +kernel
theorem dX6_cell_61 : decode cX6_cell 61 = .ok (.aload_n 0, 1) := by decide +kernel
theorem dX6_cell_62 : decode cX6_cell 62 = .ok (.getfield 10, 3) := by decide +kernel
theorem dX6_cell_65 : decode cX6_cell 65 = .ok (.getfield 52, 3) := by decide +kernel
theorem dX6_cell_68 : decode cX6_cell 68 = .ok (.getfield 73, 3) := by decide +kernel
theorem dX6_cell_71 : decode cX6_cell 71 = .ok (.iload_n 1, 1) := by decide +kernel
theorem dX6_cell_72 : decode cX6_cell 72 = .ok (.iload_n 2, 1) := by decide +kernel
theorem dX6_cell_73 : decode cX6_cell 73 = .ok (.invokevirtual 76, 3) := by decide +kernel
theorem dX6_cell_76 : decode cX6_cell 76 = .ok (.invokestatic 79, 3) := by decide +kernel
theorem dX6_cell_79 : decode cX6_cell 79 = .ok (.ireturn, 1) := by decide +kernel
theorem dX6_cell_80 : decode cX6_cell 80 = .ok (.aload_n 0, 1) := by decide +kernel
theorem dX6_cell_81 : decode cX6_cell 81 = .ok (.getfield 10, 3) := by decide +kernel
theorem dX6_cell_84 : decode cX6_cell 84 = .ok (.getfield 52, 3) := by decide +kernel
theorem dX6_cell_87 : decode cX6_cell 87 = .ok (.getfield 66, 3) := by decide +kernel
theorem dX6_cell_90 : decode cX6_cell 90 = .ok (.iload_n 1, 1) := by decide +kernel
theorem dX6_cell_91 : decode cX6_cell 91 = .ok (.iload_n 2, 1) := by decide +kernel
theorem dX6_cell_92 : decode cX6_cell 92 = .ok (.invokevirtual 76, 3) := by decide +kernel
theorem dX6_cell_95 : decode cX6_cell 95 = .ok (.invokestatic 79, 3) := by decide +kernel
theorem dX6_cell_98 : decode cX6_cell 98 = .ok (.ireturn, 1) := by decide +kernel
theorem dX6_cell_99 : decode cX6_cell 99 = .ok (.aload_n 0, 1) := by decide +kernel
theorem dX6_cell_100 : decode cX6_cell 100 = .ok (.getfield 10, 3) := by decide +kernel
theorem dX6_cell_103 : decode cX6_cell 103 = .ok (.getfield 52, 3) := by decide +kernel
theorem dX6_cell_106 : decode cX6_cell 106 = .ok (.iload_n 1, 1) := by decide +kernel
theorem dX6_cell_107 : decode cX6_cell 107 = .ok (.iload_n 2, 1) := by decide +kernel
theorem dX6_cell_108 : decode cX6_cell 108 = .ok (.invokevirtual 189, 3) := by decide +kernel
theorem dX6_cell_111 : decode cX6_cell 111 = .ok (.ireturn, 1) := by decide +kernel
theorem dX6_cell_112 : decode cX6_cell 112 = .ok (.aload_n 0, 1) := by decide +kernel
theorem dX6_cell_113 : decode cX6_cell 113 = .ok (.getfield 10, 3) := by decide +kernel
theorem dX6_cell_116 : decode cX6_cell 116 = .ok (.getfield 52, 3) := by decide +kernel
theorem dX6_cell_119 : decode cX6_cell 119 = .ok (.iload_n 1, 1) := by decide +kernel
theorem dX6_cell_120 : decode cX6_cell 120 = .ok (.iload_n 2, 1) := by decide +kernel
theorem dX6_cell_121 : decode cX6_cell 121 = .ok (.aload_n 0, 1) := by decide +kernel
theorem dX6_cell_122 : decode cX6_cell 122 = .ok (.getfield 10, 3) := by decide +kernel
theorem dX6_cell_125 : decode cX6_cell 125 = .ok (.invokevirtual 91, 3) := by decide +kernel
theorem dX6_cell_128 : decode cX6_cell 128 = .ok (.invokevirtual 94, 3) := by decide +kernel
theorem dX6_cell_131 : decode cX6_cell 131 = .ok (.invokestatic 79, 3) := by decide +kernel
theorem dX6_cell_134 : decode cX6_cell 134 = .ok (.ireturn, 1) := by decide +kernel
theorem dX6_cell_135 : decode cX6_cell 135 = .ok (.sipush (-1001), 3) := by decide +kernel
theorem dX6_cell_138 : decode cX6_cell 138 = .ok (.ireturn, 1) := by decide +kernel
set_option maxRecDepth 20000 in
theorem ggX6_printed_X6_isPlace : GoodIn wsX6_printed wsX6_isPlace := goodIn_r _ [5] (by decide +kernel) (by decide +kernel)
set_option maxRecDepth 20000 in
theorem gX6_printed_X6_isPlace : GoodIn wsX6_printed (va_wsS RX6 40 yX6_isPlace wsX6_isPlace) := goodIn_app (goodIn_of _ (by decide +kernel)) ggX6_printed_X6_isPlace
set_option maxRecDepth 20000 in
theorem ggX6_printed_X6_isShift : GoodIn wsX6_printed wsX6_isShift := goodIn_r _ [8, 9, 10, 4, 11] (by decide +kernel) (by decide +kernel)
set_option maxRecDepth 20000 in
theorem gX6_printed_X6_isShift : GoodIn wsX6_printed (va_wsS RX6 192 yX6_isShift wsX6_isShift) := goodIn_app (goodIn_of _ (by decide +kernel)) ggX6_printed_X6_isShift
set_option maxRecDepth 20000 in
theorem ggX6_printed_X6_findInk : GoodIn wsX6_printed wsX6_findInk := goodIn_r _ [15, 16, 17, 1, 18, 19, 20, 21, 22, 23, 24, 25, 26, 27, 28, 29, 30, 31, 4, 32, 33, 34, 35, 36, 37, 38, 39, 40, 41, 42, 43, 54, 55, 56, 57, 58, 59, 60, 61, 62, 63, 64, 65, 66, 67, 68, 69, 70, 71, 72, 73, 74] (by decide +kernel) (by decide +kernel)
set_option maxRecDepth 20000 in
theorem gX6_printed_X6_findInk : GoodIn wsX6_printed (wsV RX6 107 RX6 yX6_findInk wsX6_findInk) := goodIn_app (goodIn_of _ (by decide +kernel)) ggX6_printed_X6_findInk
set_option maxRecDepth 20000 in
theorem ggX6_printed_X6_printsColour : GoodIn wsX6_printed wsX6_printsColour := goodIn_r _ [47, 16, 17, 48, 49, 50, 51, 36, 52, 38, 3, 4, 5, 54, 55, 56, 57, 58, 59, 60, 61, 62, 63, 64, 65, 66, 67, 68, 69, 70, 71, 72, 73, 74] (by decide +kernel) (by decide +kernel)
set_option maxRecDepth 20000 in
theorem gX6_printed_X6_printsColour : GoodIn wsX6_printed (wsV RX6 195 RX6 yX6_printsColour wsX6_printsColour) := goodIn_app (goodIn_of _ (by decide +kernel)) ggX6_printed_X6_printsColour
set_option maxRecDepth 20000 in
theorem ggX6_printed_X6_oneIf : GoodIn wsX6_printed wsX6_oneIf := goodIn_r _ [32] (by decide +kernel) (by decide +kernel)
set_option maxRecDepth 20000 in
theorem gX6_printed_X6_oneIf : GoodIn wsX6_printed (va_wsS RX6 79 yX6_oneIf wsX6_oneIf) := goodIn_app (goodIn_of _ (by decide +kernel)) ggX6_printed_X6_oneIf
set_option maxRecDepth 20000 in
theorem ggX6_printed_X1_has : GoodIn wsX6_printed wsX1_has := goodIn_r _ [52, 38, 3, 4, 5, 74] (by decide +kernel) (by decide +kernel)
set_option maxRecDepth 20000 in
theorem gX6_printed_X1_has : GoodIn wsX6_printed (wsV RX6 76 RX1 yX1_has wsX1_has) := goodIn_app (goodIn_of _ (by decide +kernel)) ggX6_printed_X1_has
theorem dX6_printed_0 : decode cX6_printed 0 = .ok (.iload_n 1, 1) := by decide +kernel
theorem dX6_printed_1 : decode cX6_printed 1 = .ok (.iload_n 2, 1) := by decide +kernel
theorem dX6_printed_2 : decode cX6_printed 2 = .ok (.invokestatic 40, 3) := by decide +kernel
theorem dX6_printed_5 : decode cX6_printed 5 = .ok (.ifCond .eq 12, 3) := by decide +kernel
theorem dX6_printed_8 : decode cX6_printed 8 = .ok (.iload_n 3, 1) := by decide +kernel
theorem dX6_printed_9 : decode cX6_printed 9 = .ok (.iload 4, 2) := by decide +kernel
theorem dX6_printed_11 : decode cX6_printed 11 = .ok (.invokestatic 192, 3) := by decide +kernel
theorem dX6_printed_14 : decode cX6_printed 14 = .ok (.ifCond .ne 7, 3) := by decide +kernel
theorem dX6_printed_17 : decode cX6_printed 17 = .ok (.sipush (-1001), 3) := by decide +kernel
theorem dX6_printed_20 : decode cX6_printed 20 = .ok (.ireturn, 1) := by decide +kernel
theorem dX6_printed_21 : decode cX6_printed 21 = .ok (.aload_n 0, 1) := by decide +kernel
theorem dX6_printed_22 : decode cX6_printed 22 = .ok (.invokevirtual 107, 3) := by decide +kernel
theorem dX6_printed_25 : decode cX6_printed 25 = .ok (.aload_n 0, 1) := by decide +kernel
theorem dX6_printed_26 : decode cX6_printed 26 = .ok (.iload_n 1, 1) := by decide +kernel
theorem dX6_printed_27 : decode cX6_printed 27 = .ok (.iload_n 2, 1) := by decide +kernel
theorem dX6_printed_28 : decode cX6_printed 28 = .ok (.iload_n 3, 1) := by decide +kernel
theorem dX6_printed_29 : decode cX6_printed 29 = .ok (.iload 4, 2) := by decide +kernel
theorem dX6_printed_31 : decode cX6_printed 31 = .ok (.invokevirtual 195, 3) := by decide +kernel
theorem dX6_printed_34 : decode cX6_printed 34 = .ok (.invokestatic 79, 3) := by decide +kernel
theorem dX6_printed_37 : decode cX6_printed 37 = .ok (.iconst 2, 1) := by decide +kernel
theorem dX6_printed_38 : decode cX6_printed 38 = .ok (.aload_n 0, 1) := by decide +kernel
theorem dX6_printed_39 : decode cX6_printed 39 = .ok (.getfield 33, 3) := by decide +kernel
theorem dX6_printed_42 : decode cX6_printed 42 = .ok (.iload_n 1, 1) := by decide +kernel
theorem dX6_printed_43 : decode cX6_printed 43 = .ok (.iload_n 2, 1) := by decide +kernel
theorem dX6_printed_44 : decode cX6_printed 44 = .ok (.invokevirtual 76, 3) := by decide +kernel
theorem dX6_printed_47 : decode cX6_printed 47 = .ok (.invokestatic 79, 3) := by decide +kernel
theorem dX6_printed_50 : decode cX6_printed 50 = .ok (.imul, 1) := by decide +kernel
theorem dX6_printed_51 : decode cX6_printed 51 = .ok (.iadd, 1) := by decide +kernel
theorem dX6_printed_52 : decode cX6_printed 52 = .ok (.ireturn, 1) := by decide +kernel
set_option maxRecDepth 20000 in
theorem ggX6_proof_X6_isWithin : GoodIn wsX6_proof wsX6_isWithin := goodIn_r _ [6] (by decide +kernel) (by decide +kernel)
set_option maxRecDepth 20000 in
theorem gX6_proof_X6_isWithin : GoodIn wsX6_proof (va_wsS RX6 44 yX6_isWithin wsX6_isWithin) := goodIn_app (goodIn_of _ (by decide +kernel)) ggX6_proof_X6_isWithin
set_option maxRecDepth 20000 in
theorem ggX6_proof_X3_size : GoodIn wsX6_proof wsX3_size := goodIn_r _ [11, 12, 34, 35, 36] (by decide +kernel) (by decide +kernel)
set_option maxRecDepth 20000 in
theorem gX6_proof_X3_size : GoodIn wsX6_proof (wsV RX6 180 RX3 yX3_size wsX3_size) := goodIn_app (goodIn_of _ (by decide +kernel)) ggX6_proof_X3_size
set_option maxRecDepth 20000 in
theorem ggX6_proof_X3_partOf : GoodIn wsX6_proof wsX3_partOf := goodIn_r _ [16, 17, 18, 4, 5, 6, 34, 35, 36] (by decide +kernel) (by decide +kernel)
set_option maxRecDepth 20000 in
theorem gX6_proof_X3_partOf : GoodIn wsX6_proof (wsV RX6 199 RX3 yX3_partOf wsX3_partOf) := goodIn_app (goodIn_of _ (by decide +kernel)) ggX6_proof_X3_partOf
theorem dX6_proof_0 : decode cX6_proof 0 = .ok (.iload_n 1, 1) := by decide +kernel
theorem dX6_proof_1 : decode cX6_proof 1 = .ok (.ifCond .lt 12, 3) := by decide +kernel
theorem dX6_proof_4 : decode cX6_proof 4 = .ok (.iload_n 2, 1) := by decide +kernel
theorem dX6_proof_5 : decode cX6_proof 5 = .ok (.iconst 0, 1) := by decide +kernel
theorem dX6_proof_6 : decode cX6_proof 6 = .ok (.iconst 5, 1) := by decide +kernel
theorem dX6_proof_7 : decode cX6_proof 7 = .ok (.invokestatic 44, 3) := by decide +kernel
theorem dX6_proof_10 : decode cX6_proof 10 = .ok (.ifCond .ne 7, 3) := by decide +kernel
theorem dX6_proof_13 : decode cX6_proof 13 = .ok (.sipush (-1001), 3) := by decide +kernel
theorem dX6_proof_16 : decode cX6_proof 16 = .ok (.ireturn, 1) := by decide +kernel
theorem dX6_proof_17 : decode cX6_proof 17 = .ok (.iload_n 1, 1) := by decide +kernel
theorem dX6_proof_18 : decode cX6_proof 18 = .ok (.aload_n 0, 1) := by decide +kernel
theorem dX6_proof_19 : decode cX6_proof 19 = .ok (.getfield 10, 3) := by decide +kernel
theorem dX6_proof_22 : decode cX6_proof 22 = .ok (.getfield 176, 3) := by decide +kernel
theorem dX6_proof_25 : decode cX6_proof 25 = .ok (.invokevirtual 180, 3) := by decide +kernel
theorem dX6_proof_28 : decode cX6_proof 28 = .ok (.if_icmp .lt 7, 3) := by decide +kernel
theorem dX6_proof_31 : decode cX6_proof 31 = .ok (.sipush (-1009), 3) := by decide +kernel
theorem dX6_proof_34 : decode cX6_proof 34 = .ok (.ireturn, 1) := by decide +kernel
theorem dX6_proof_35 : decode cX6_proof 35 = .ok (.aload_n 0, 1) := by decide +kernel
theorem dX6_proof_36 : decode cX6_proof 36 = .ok (.getfield 10, 3) := by decide +kernel
theorem dX6_proof_39 : decode cX6_proof 39 = .ok (.getfield 176, 3) := by decide +kernel
theorem dX6_proof_42 : decode cX6_proof 42 = .ok (.iload_n 1, 1) := by decide +kernel
theorem dX6_proof_43 : decode cX6_proof 43 = .ok (.iload_n 2, 1) := by decide +kernel
theorem dX6_proof_44 : decode cX6_proof 44 = .ok (.invokevirtual 199, 3) := by decide +kernel
theorem dX6_proof_47 : decode cX6_proof 47 = .ok (.ireturn, 1) := by decide +kernel
set_option maxRecDepth 20000 in
theorem ggX6_faults_X6_isShift : GoodIn wsX6_faults wsX6_isShift := goodIn_r _ [7, 8, 9, 6, 10] (by decide +kernel) (by decide +kernel)
set_option maxRecDepth 20000 in
theorem gX6_faults_X6_isShift : GoodIn wsX6_faults (va_wsS RX6 192 yX6_isShift wsX6_isShift) := goodIn_app (goodIn_of _ (by decide +kernel)) ggX6_faults_X6_isShift
set_option maxRecDepth 20000 in
theorem ggX6_faults_X6_findInk : GoodIn wsX6_faults wsX6_findInk := goodIn_r _ [14, 1, 2, 3, 15, 16, 17, 18, 19, 20, 21, 22, 23, 24, 25, 26, 27, 28, 6, 29, 30, 31, 32, 33, 34, 35, 36, 37, 38, 39, 40, 76, 77, 78, 79, 80, 81, 82, 83, 84, 85, 86, 87, 88, 89, 90, 91, 92, 93, 94, 95, 96] (by decide +kernel) (by decide +kernel)
set_option maxRecDepth 20000 in
theorem gX6_faults_X6_findInk : GoodIn wsX6_faults (wsV RX6 107 RX6 yX6_findInk wsX6_findInk) := goodIn_app (goodIn_of _ (by decide +kernel)) ggX6_faults_X6_findInk
set_option maxRecDepth 20000 in
theorem ggX6_faults_X6_gapsWith : GoodIn wsX6_faults wsX6_gapsWith := goodIn_r _ [44, 1, 2, 3, 45, 46, 47, 48, 24, 49, 50, 51, 30, 31, 32, 33, 34, 35, 52, 53, 54, 55, 40, 56, 57, 58, 59, 60, 61, 62, 63, 76, 77, 78, 79, 80, 81, 82, 83, 84, 85, 86, 87, 88, 89, 90, 91, 92, 93, 94, 95, 96] (by decide +kernel) (by decide +kernel)
set_option maxRecDepth 20000 in
theorem gX6_faults_X6_gapsWith : GoodIn wsX6_faults (wsV RX6 116 RX6 yX6_gapsWith wsX6_gapsWith) := goodIn_app (goodIn_of _ (by decide +kernel)) ggX6_faults_X6_gapsWith
set_option maxRecDepth 20000 in
theorem ggX6_faults_X6_spillsWith : GoodIn wsX6_faults wsX6_spillsWith := goodIn_r _ [67, 1, 2, 45, 68, 69, 70, 24, 71, 50, 51, 30, 31, 32, 33, 34, 35, 52, 53, 54, 55, 40, 56, 57, 58, 59, 60, 61, 62, 63, 76, 77, 78, 79, 80, 81, 82, 83, 84, 85, 86, 87, 88, 89, 90, 91, 92, 93, 94, 95, 96] (by decide +kernel) (by decide +kernel)
set_option maxRecDepth 20000 in
theorem gX6_faults_X6_spillsWith : GoodIn wsX6_faults (wsV RX6 202 RX6 yX6_spillsWith wsX6_spillsWith) := goodIn_app (goodIn_of _ (by decide +kernel)) ggX6_faults_X6_spillsWith
set_option maxRecDepth 20000 in
theorem ggX6_faults_X0_lostLines : GoodIn wsX6_faults wsX0_lostLines := goodIn_r _ [75, 51, 30, 31, 32, 33, 34, 35, 57, 58, 59, 60, 61, 62, 63, 91, 92, 93, 94, 95, 96] (by decide +kernel) (by decide +kernel)
set_option maxRecDepth 20000 in
theorem gX6_faults_X0_lostLines : GoodIn wsX6_faults (wsV RX6 205 RX0 yX0_lostLines wsX0_lostLines) := goodIn_app (goodIn_of _ (by decide +kernel)) ggX6_faults_X0_lostLines
theorem dX6_faults_0 : decode cX6_faults 0 = .ok (.iload_n 1, 1) := by decide +kernel
theorem dX6_faults_1 : decode cX6_faults 1 = .ok (.iload_n 2, 1) := by decide +kernel
theorem dX6_faults_2 : decode cX6_faults 2 = .ok (.invokestatic 192, 3) := by decide +kernel
theorem dX6_faults_5 : decode cX6_faults 5 = .ok (.ifCond .ne 7, 3) := by decide +kernel
theorem dX6_faults_8 : decode cX6_faults 8 = .ok (.sipush (-1001), 3) := by decide +kernel
theorem dX6_faults_11 : decode cX6_faults 11 = .ok (.ireturn, 1) := by decide +kernel
theorem dX6_faults_12 : decode cX6_faults 12 = .ok (.aload_n 0, 1) := by decide +kernel
theorem dX6_faults_13 : decode cX6_faults 13 = .ok (.invokevirtual 107, 3) := by decide +kernel
theorem dX6_faults_16 : decode cX6_faults 16 = .ok (.iload_n 3, 1) := by decide +kernel
theorem dX6_faults_17 : decode cX6_faults 17 = .ok (.tableswitch 56 0 2 #[27, 34, 41], 27) := by decide +kernel
theorem dX6_faults_44 : decode cX6_faults 44 = .ok (.aload_n 0, 1) := by decide +kernel
theorem dX6_faults_45 : decode cX6_faults 45 = .ok (.iload_n 1, 1) := by decide +kernel
theorem dX6_faults_46 : decode cX6_faults 46 = .ok (.iload_n 2, 1) := by decide +kernel
theorem dX6_faults_47 : decode cX6_faults 47 = .ok (.invokevirtual 116, 3) := by decide +kernel
theorem dX6_faults_50 : decode cX6_faults 50 = .ok (.ireturn, 1) := by decide +kernel
theorem dX6_faults_51 : decode cX6_faults 51 = .ok (.aload_n 0, 1) := by decide +kernel
theorem dX6_faults_52 : decode cX6_faults 52 = .ok (.iload_n 1, 1) := by decide +kernel
theorem dX6_faults_53 : decode cX6_faults 53 = .ok (.iload_n 2, 1) := by decide +kernel
theorem dX6_faults_54 : decode cX6_faults 54 = .ok (.invokevirtual 202, 3) := by decide +kernel
theorem dX6_faults_57 : decode cX6_faults 57 = .ok (.ireturn, 1) := by decide +kernel
theorem dX6_faults_58 : decode cX6_faults 58 = .ok (.aload_n 0, 1) := by decide +kernel
theorem dX6_faults_59 : decode cX6_faults 59 = .ok (.getfield 10, 3) := by decide +kernel
theorem dX6_faults_62 : decode cX6_faults 62 = .ok (.getfield 52, 3) := by decide +kernel
theorem dX6_faults_65 : decode cX6_faults 65 = .ok (.aload_n 0, 1) := by decide +kernel
theorem dX6_faults_66 : decode cX6_faults 66 = .ok (.getfield 33, 3) := by decide +kernel
theorem dX6_faults_69 : decode cX6_faults 69 = .ok (.invokevirtual 205, 3) := by decide +kernel
theorem dX6_faults_72 : decode cX6_faults 72 = .ok (.ireturn, 1) := by decide +kernel
theorem dX6_faults_73 : decode cX6_faults 73 = .ok (.sipush (-1001), 3) := by decide +kernel
theorem dX6_faults_76 : decode cX6_faults 76 = .ok (.ireturn, 1) := by decide +kernel
set_option maxRecDepth 20000 in
theorem ggX6_why_X6_isPlace : GoodIn wsX6_why wsX6_isPlace := goodIn_r _ [7] (by decide +kernel) (by decide +kernel)
set_option maxRecDepth 20000 in
theorem gX6_why_X6_isPlace : GoodIn wsX6_why (va_wsS RX6 40 yX6_isPlace wsX6_isPlace) := goodIn_app (goodIn_of _ (by decide +kernel)) ggX6_why_X6_isPlace
set_option maxRecDepth 20000 in
theorem ggX6_why_X6_findInk : GoodIn wsX6_why wsX6_findInk := goodIn_r _ [11, 1, 2, 3, 12, 13, 14, 15, 16, 17, 18, 19, 20, 21, 22, 23, 24, 25, 6, 26, 27, 28, 29, 30, 31, 32, 33, 34, 35, 36, 37, 80, 81, 82, 83, 84, 85, 86, 87, 88, 89, 90, 91, 92, 93, 94, 95, 96, 97, 98, 99, 100] (by decide +kernel) (by decide +kernel)
set_option maxRecDepth 20000 in
theorem gX6_why_X6_findInk : GoodIn wsX6_why (wsV RX6 107 RX6 yX6_findInk wsX6_findInk) := goodIn_app (goodIn_of _ (by decide +kernel)) ggX6_why_X6_findInk
set_option maxRecDepth 20000 in
theorem ggX6_why_X0_kindAt : GoodIn wsX6_why wsX0_kindAt := goodIn_r _ [41, 42, 43, 44, 45, 46, 30, 47, 32, 5, 6, 7, 95, 96, 97, 98, 99, 100] (by decide +kernel) (by decide +kernel)
set_option maxRecDepth 20000 in
theorem gX6_why_X0_kindAt : GoodIn wsX6_why (wsV RX6 186 RX0 yX0_kindAt wsX0_kindAt) := goodIn_app (goodIn_of _ (by decide +kernel)) ggX6_why_X0_kindAt
set_option maxRecDepth 20000 in
theorem ggX6_why_X1_has : GoodIn wsX6_why wsX1_has := goodIn_r _ [47, 32, 5, 6, 7, 100] (by decide +kernel) (by decide +kernel)
set_option maxRecDepth 20000 in
theorem gX6_why_X1_has : GoodIn wsX6_why (wsV RX6 76 RX1 yX1_has wsX1_has) := goodIn_app (goodIn_of _ (by decide +kernel)) ggX6_why_X1_has
set_option maxRecDepth 20000 in
theorem ggX6_why_X5_shiftX : GoodIn wsX6_why wsX5_shiftX := goodIn_r _ [52, 53, 54, 55, 56, 15, 57, 17, 85, 86, 87, 88, 89, 90, 91, 92, 93, 94] (by decide +kernel) (by decide +kernel)
set_option maxRecDepth 20000 in
theorem gX6_why_X5_shiftX : GoodIn wsX6_why (wsV RX6 110 RX5 yX5_shiftX wsX5_shiftX) := goodIn_app (goodIn_of _ (by decide +kernel)) ggX6_why_X5_shiftX
set_option maxRecDepth 20000 in
theorem ggX6_why_X5_shiftY : GoodIn wsX6_why wsX5_shiftY := goodIn_r _ [61, 62, 63, 64, 65, 15, 66, 17, 85, 86, 87, 88, 89, 90, 91, 92, 93, 94] (by decide +kernel) (by decide +kernel)
set_option maxRecDepth 20000 in
theorem gX6_why_X5_shiftY : GoodIn wsX6_why (wsV RX6 113 RX5 yX5_shiftY wsX5_shiftY) := goodIn_app (goodIn_of _ (by decide +kernel)) ggX6_why_X5_shiftY
set_option maxRecDepth 20000 in
theorem ggX6_why_X6_printsColour : GoodIn wsX6_why wsX6_printsColour := goodIn_r _ [70, 1, 2, 71, 48, 45, 46, 30, 47, 32, 5, 6, 7, 80, 81, 82, 83, 84, 85, 86, 87, 88, 89, 90, 91, 92, 93, 94, 95, 96, 97, 98, 99, 100] (by decide +kernel) (by decide +kernel)
set_option maxRecDepth 20000 in
theorem gX6_why_X6_printsColour : GoodIn wsX6_why (wsV RX6 195 RX6 yX6_printsColour wsX6_printsColour) := goodIn_app (goodIn_of _ (by decide +kernel)) ggX6_why_X6_printsColour
set_option maxRecDepth 20000 in
theorem ggX6_why_X5_hardness : GoodIn wsX6_why wsX5_hardness := goodIn_r _ [16, 17, 85, 86, 87, 88, 89, 90, 91, 92, 93, 94] (by decide +kernel) (by decide +kernel)
set_option maxRecDepth 20000 in
theorem gX6_why_X5_hardness : GoodIn wsX6_why (wsV RX6 91 RX5 yX5_hardness wsX5_hardness) := goodIn_app (goodIn_of _ (by decide +kernel)) ggX6_why_X5_hardness
set_option maxRecDepth 20000 in
theorem ggX6_why_X0_isWorn : GoodIn wsX6_why wsX0_isWorn := goodIn_r _ [75, 24, 44, 45, 46, 30, 47, 32, 5, 6, 7, 76, 77, 78, 21, 79, 23, 95, 96, 97, 98, 99, 100] (by decide +kernel) (by decide +kernel)
set_option maxRecDepth 20000 in
theorem gX6_why_X0_isWorn : GoodIn wsX6_why (wsV RX6 94 RX0 yX0_isWorn wsX0_isWorn) := goodIn_app (goodIn_of _ (by decide +kernel)) ggX6_why_X0_isWorn
theorem dX6_why_0 : decode cX6_why 0 = .ok (.iload_n 1, 1) := by decide +kernel
theorem dX6_why_1 : decode cX6_why 1 = .ok (.iload_n 2, 1) := by decide +kernel
theorem dX6_why_2 : decode cX6_why 2 = .ok (.invokestatic 40, 3) := by decide +kernel
theorem dX6_why_5 : decode cX6_why 5 = .ok (.ifCond .ne 7, 3) := by decide +kernel
theorem dX6_why_8 : decode cX6_why 8 = .ok (.sipush (-1001), 3) := by decide +kernel
theorem dX6_why_11 : decode cX6_why 11 = .ok (.ireturn, 1) := by decide +kernel
theorem dX6_why_12 : decode cX6_why 12 = .ok (.aload_n 0, 1) := by decide +kernel
theorem dX6_why_13 : decode cX6_why 13 = .ok (.invokevirtual 107, 3) := by decide +kernel
theorem dX6_why_16 : decode cX6_why 16 = .ok (.aload_n 0, 1) := by decide +kernel
theorem dX6_why_17 : decode cX6_why 17 = .ok (.getfield 10, 3) := by decide +kernel
theorem dX6_why_20 : decode cX6_why 20 = .ok (.getfield 52, 3) := by decide +kernel
theorem dX6_why_23 : decode cX6_why 23 = .ok (.iload_n 1, 1) := by decide +kernel
theorem dX6_why_24 : decode cX6_why 24 = .ok (.iload_n 2, 1) := by decide +kernel
theorem dX6_why_25 : decode cX6_why 25 = .ok (.invokevirtual 186, 3) := by decide +kernel
theorem dX6_why_28 : decode cX6_why 28 = .ok (.istore_n 3, 1) := by decide +kernel
theorem dX6_why_29 : decode cX6_why 29 = .ok (.aload_n 0, 1) := by decide +kernel
theorem dX6_why_30 : decode cX6_why 30 = .ok (.getfield 33, 3) := by decide +kernel
theorem dX6_why_33 : decode cX6_why 33 = .ok (.iload_n 1, 1) := by decide +kernel
theorem dX6_why_34 : decode cX6_why 34 = .ok (.iload_n 2, 1) := by decide +kernel
theorem dX6_why_35 : decode cX6_why 35 = .ok (.invokevirtual 76, 3) := by decide +kernel
theorem dX6_why_38 : decode cX6_why 38 = .ok (.istore 4, 2) := by decide +kernel
theorem dX6_why_40 : decode cX6_why 40 = .ok (.aload_n 0, 1) := by decide +kernel
theorem dX6_why_41 : decode cX6_why 41 = .ok (.iload_n 1, 1) := by decide +kernel
theorem dX6_why_42 : decode cX6_why 42 = .ok (.iload_n 2, 1) := by decide +kernel
theorem dX6_why_43 : decode cX6_why 43 = .ok (.aload_n 0, 1) := by decide +kernel
theorem dX6_why_44 : decode cX6_why 44 = .ok (.getfield 10, 3) := by decide +kernel
theorem dX6_why_47 : decode cX6_why 47 = .ok (.invokevirtual 110, 3) := by decide +kernel
theorem dX6_why_50 : decode cX6_why 50 = .ok (.aload_n 0, 1) := by decide +kernel
theorem dX6_why_51 : decode cX6_why 51 = .ok (.getfield 10, 3) := by decide +kernel
theorem dX6_why_54 : decode cX6_why 54 = .ok (.invokevirtual 113, 3) := by decide +kernel
theorem dX6_why_57 : decode cX6_why 57 = .ok (.invokevirtual 195, 3) := by decide +kernel
theorem dX6_why_60 : decode cX6_why 60 = .ok (.istore 5, 2) := by decide +kernel
theorem dX6_why_62 : decode cX6_why 62 = .ok (.iload_n 3, 1) := by decide +kernel
theorem dX6_why_63 : decode cX6_why 63 = .ok (.ifCond .eq 41, 3) := by decide +kernel
theorem dX6_why_66 : decode cX6_why 66 = .ok (.iload 4, 2) := by decide +kernel
theorem dX6_why_68 : decode cX6_why 68 = .ok (.ifCond .ne 36, 3) := by decide +kernel
theorem dX6_why_71 : decode cX6_why 71 = .ok (.iload 5, 2) := by decide +kernel
theorem dX6_why_73 : decode cX6_why 73 = .ok (.ifCond .ne 31, 3) := by decide +kernel
theorem dX6_why_76 : decode cX6_why 76 = .ok (.aload_n 0, 1) := by decide +kernel
theorem dX6_why_77 : decode cX6_why 77 = .ok (.getfield 10, 3) := by decide +kernel
theorem dX6_why_80 : decode cX6_why 80 = .ok (.getfield 52, 3) := by decide +kernel
theorem dX6_why_83 : decode cX6_why 83 = .ok (.iload_n 1, 1) := by decide +kernel
theorem dX6_why_84 : decode cX6_why 84 = .ok (.iload_n 2, 1) := by decide +kernel
theorem dX6_why_85 : decode cX6_why 85 = .ok (.aload_n 0, 1) := by decide +kernel
theorem dX6_why_86 : decode cX6_why 86 = .ok (.getfield 10, 3) := by decide +kernel
theorem dX6_why_89 : decode cX6_why 89 = .ok (.invokevirtual 91, 3) := by decide +kernel
theorem dX6_why_92 : decode cX6_why 92 = .ok (.invokevirtual 94, 3) := by decide +kernel
theorem dX6_why_95 : decode cX6_why 95 = .ok (.ifCond .eq 7, 3) := by decide +kernel
theorem dX6_why_98 : decode cX6_why 98 = .ok (.iconst 1, 1) := by decide +kernel
theorem dX6_why_99 : decode cX6_why 99 = .ok (.goto 4, 3) := by decide +kernel
theorem dX6_why_102 : decode cX6_why 102 = .ok (.iconst 2, 1) := by decide +kernel
theorem dX6_why_103 : decode cX6_why 103 = .ok (.ireturn, 1) := by decide +kernel
theorem dX6_why_104 : decode cX6_why 104 = .ok (.iload_n 3, 1) := by decide +kernel
theorem dX6_why_105 : decode cX6_why 105 = .ok (.ifCond .ne 10, 3) := by decide +kernel
theorem dX6_why_108 : decode cX6_why 108 = .ok (.iload 5, 2) := by decide +kernel
theorem dX6_why_110 : decode cX6_why 110 = .ok (.ifCond .eq 5, 3) := by decide +kernel
theorem dX6_why_113 : decode cX6_why 113 = .ok (.iconst 3, 1) := by decide +kernel
theorem dX6_why_114 : decode cX6_why 114 = .ok (.ireturn, 1) := by decide +kernel
theorem dX6_why_115 : decode cX6_why 115 = .ok (.iload_n 3, 1) := by decide +kernel
theorem dX6_why_116 : decode cX6_why 116 = .ok (.iconst 2, 1) := by decide +kernel
theorem dX6_why_117 : decode cX6_why 117 = .ok (.if_icmp .eq 10, 3) := by decide +kernel
theorem dX6_why_120 : decode cX6_why 120 = .ok (.iload 4, 2) := by decide +kernel
theorem dX6_why_122 : decode cX6_why 122 = .ok (.ifCond .eq 5, 3) := by decide +kernel
theorem dX6_why_125 : decode cX6_why 125 = .ok (.iconst 4, 1) := by decide +kernel
theorem dX6_why_126 : decode cX6_why 126 = .ok (.ireturn, 1) := by decide +kernel
theorem dX6_why_127 : decode cX6_why 127 = .ok (.iload_n 3, 1) := by decide +kernel
theorem dX6_why_128 : decode cX6_why 128 = .ok (.iconst 2, 1) := by decide +kernel
theorem dX6_why_129 : decode cX6_why 129 = .ok (.if_icmp .ne 12, 3) := by decide +kernel
theorem dX6_why_132 : decode cX6_why 132 = .ok (.iload 4, 2) := by decide +kernel
theorem dX6_why_134 : decode cX6_why 134 = .ok (.ifCond .ne 7, 3) := by decide +kernel
theorem dX6_why_137 : decode cX6_why 137 = .ok (.iconst 5, 1) := by decide +kernel
theorem dX6_why_138 : decode cX6_why 138 = .ok (.goto 4, 3) := by decide +kernel
theorem dX6_why_141 : decode cX6_why 141 = .ok (.iconst 0, 1) := by decide +kernel
theorem dX6_why_142 : decode cX6_why 142 = .ok (.ireturn, 1) := by decide +kernel
set_option maxRecDepth 20000 in
theorem ggX6_tolerance_X6_findInk : GoodIn wsX6_tolerance wsX6_findInk := goodIn_r _ [9, 2, 3, 1, 10, 11, 12, 13, 14, 15, 16, 17, 18, 19, 20, 21, 22, 23, 8, 24, 25, 26, 27, 28, 29, 30, 31, 32, 33, 34, 35, 58, 59, 60, 61, 62, 63, 64, 65, 66, 67, 68, 69, 70, 71, 72, 73, 74, 75, 76, 77, 78] (by decide +kernel) (by decide +kernel)
set_option maxRecDepth 20000 in
theorem gX6_tolerance_X6_findInk : GoodIn wsX6_tolerance (wsV RX6 107 RX6 yX6_findInk wsX6_findInk) := goodIn_app (goodIn_of _ (by decide +kernel)) ggX6_tolerance_X6_findInk
set_option maxRecDepth 20000 in
theorem ggX6_tolerance_X6_hasGapsWithin : GoodIn wsX6_tolerance wsX6_hasGapsWithin := goodIn_r _ [39, 2, 3, 40, 41, 42, 19, 43, 44, 45, 25, 26, 27, 28, 29, 30, 46, 47, 48, 49, 35, 50, 51, 52, 53, 54, 55, 56, 57, 58, 59, 60, 61, 62, 63, 64, 65, 66, 67, 68, 69, 70, 71, 72, 73, 74, 75, 76, 77, 78] (by decide +kernel) (by decide +kernel)
set_option maxRecDepth 20000 in
theorem gX6_tolerance_X6_hasGapsWithin : GoodIn wsX6_tolerance (wsV RX6 209 RX6 yX6_hasGapsWithin wsX6_hasGapsWithin) := goodIn_app (goodIn_of _ (by decide +kernel)) ggX6_tolerance_X6_hasGapsWithin
theorem dX6_tolerance_0 : decode cX6_tolerance 0 = .ok (.aload_n 0, 1) := by decide +kernel
theorem dX6_tolerance_1 : decode cX6_tolerance 1 = .ok (.invokevirtual 107, 3) := by decide +kernel
theorem dX6_tolerance_4 : decode cX6_tolerance 4 = .ok (.iconst 0, 1) := by decide +kernel
theorem dX6_tolerance_5 : decode cX6_tolerance 5 = .ok (.istore_n 1, 1) := by decide +kernel
theorem dX6_tolerance_6 : decode cX6_tolerance 6 = .ok (.iload_n 1, 1) := by decide +kernel
theorem dX6_tolerance_7 : decode cX6_tolerance 7 = .ok (.iconst 4, 1) := by decide +kernel
theorem dX6_tolerance_8 : decode cX6_tolerance 8 = .ok (.if_icmp .gt 45, 3) := by decide +kernel
theorem dX6_tolerance_11 : decode cX6_tolerance 11 = .ok (.aload_n 0, 1) := by decide +kernel
theorem dX6_tolerance_12 : decode cX6_tolerance 12 = .ok (.iload_n 1, 1) := by decide +kernel
theorem dX6_tolerance_13 : decode cX6_tolerance 13 = .ok (.aload_n 0, 1) := by decide +kernel
theorem dX6_tolerance_14 : decode cX6_tolerance 14 = .ok (.getfield 33, 3) := by decide +kernel
theorem dX6_tolerance_17 : decode cX6_tolerance 17 = .ok (.aload_n 0, 1) := by decide +kernel
theorem dX6_tolerance_18 : decode cX6_tolerance 18 = .ok (.getfield 10, 3) := by decide +kernel
theorem dX6_tolerance_21 : decode cX6_tolerance 21 = .ok (.getfield 52, 3) := by decide +kernel
theorem dX6_tolerance_24 : decode cX6_tolerance 24 = .ok (.getfield 66, 3) := by decide +kernel
theorem dX6_tolerance_27 : decode cX6_tolerance 27 = .ok (.invokevirtual 209, 3) := by decide +kernel
theorem dX6_tolerance_30 : decode cX6_tolerance 30 = .ok (.ifCond .eq 17, 3) := by decide +kernel
theorem dX6_tolerance_33 : decode cX6_tolerance 33 = .ok (.iload_n 1, 1) := by decide +kernel
theorem dX6_tolerance_34 : decode cX6_tolerance 34 = .ok (.ifCond .ne 9, 3) := by decide +kernel
theorem dX6_tolerance_37 : decode cX6_tolerance 37 = .ok (.sipush (-1009), 3) := by decide +kernel
theorem dX6_tolerance_40 : decode cX6_tolerance 40 = .ok (.goto 6, 3) := by decide +kernel
theorem dX6_tolerance_43 : decode cX6_tolerance 43 = .ok (.iload_n 1, 1) := by decide +kernel
theorem dX6_tolerance_44 : decode cX6_tolerance 44 = .ok (.iconst 1, 1) := by decide +kernel
theorem dX6_tolerance_45 : decode cX6_tolerance 45 = .ok (.isub, 1) := by decide +kernel
theorem dX6_tolerance_46 : decode cX6_tolerance 46 = .ok (.ireturn, 1) := by decide +kernel
theorem dX6_tolerance_47 : decode cX6_tolerance 47 = .ok (.iinc 1 1, 3) := by decide +kernel
theorem dX6_tolerance_50 : decode cX6_tolerance 50 = .ok (.goto (-44), 3) := by decide +kernel
theorem dX6_tolerance_53 : decode cX6_tolerance 53 = .ok (.iconst 4, 1) := by decide +kernel
theorem dX6_tolerance_54 : decode cX6_tolerance 54 = .ok (.ireturn, 1) := by decide +kernel
set_option maxRecDepth 20000 in
theorem ggX6_trapFor_X6_isWithin : GoodIn wsX6_trapFor wsX6_isWithin := goodIn_r _ [8] (by decide +kernel) (by decide +kernel)
set_option maxRecDepth 20000 in
theorem gX6_trapFor_X6_isWithin : GoodIn wsX6_trapFor (va_wsS RX6 44 yX6_isWithin wsX6_isWithin) := goodIn_app (goodIn_of _ (by decide +kernel)) ggX6_trapFor_X6_isWithin
set_option maxRecDepth 20000 in
theorem ggX6_trapFor_X0_cutColour : GoodIn wsX6_trapFor wsX0_cutColour := goodIn_r _ [13, 14, 15, 16, 17, 18, 19, 20, 21, 22, 23, 24, 25, 26, 27, 28, 29, 30, 31, 32, 33, 70, 71, 72, 73, 74, 75] (by decide +kernel) (by decide +kernel)
set_option maxRecDepth 20000 in
theorem gX6_trapFor_X0_cutColour : GoodIn wsX6_trapFor (wsV RX6 213 RX0 yX0_cutColour wsX0_cutColour) := goodIn_app (goodIn_of _ (by decide +kernel)) ggX6_trapFor_X0_cutColour
set_option maxRecDepth 20000 in
theorem ggX6_trapFor_X6_hasGapsWithin : GoodIn wsX6_trapFor wsX6_hasGapsWithin := goodIn_r _ [37, 1, 2, 38, 39, 40, 12, 41, 14, 15, 42, 31, 32, 19, 33, 21, 43, 44, 45, 46, 47, 30, 48, 49, 50, 51, 52, 53, 54, 55, 56, 57, 58, 59, 60, 61, 62, 63, 64, 65, 66, 67, 68, 69, 70, 71, 72, 73, 74, 75] (by decide +kernel) (by decide +kernel)
set_option maxRecDepth 20000 in
theorem gX6_trapFor_X6_hasGapsWithin : GoodIn wsX6_trapFor (wsV RX6 209 RX6 yX6_hasGapsWithin wsX6_hasGapsWithin) := goodIn_app (goodIn_of _ (by decide +kernel)) ggX6_trapFor_X6_hasGapsWithin
theorem dX6_trapFor_0 : decode cX6_trapFor 0 = .ok (.iload_n 1, 1) := by decide +kernel
theorem dX6_trapFor_1 : decode cX6_trapFor 1 = .ok (.iconst 0, 1) := by decide +kernel
theorem dX6_trapFor_2 : decode cX6_trapFor 2 = .ok (.iconst 4, 1) := by decide +kernel
theorem dX6_trapFor_3 : decode cX6_trapFor 3 = .ok (.invokestatic 44, 3) := by decide +kernel
theorem dX6_trapFor_6 : decode cX6_trapFor 6 = .ok (.ifCond .ne 7, 3) := by decide +kernel
theorem dX6_trapFor_9 : decode cX6_trapFor 9 = .ok (.sipush (-1001), 3) := by decide +kernel
theorem dX6_trapFor_12 : decode cX6_trapFor 12 = .ok (.ireturn, 1) := by decide +kernel
theorem dX6_trapFor_13 : decode cX6_trapFor 13 = .ok (.aload_n 0, 1) := by decide +kernel
theorem dX6_trapFor_14 : decode cX6_trapFor 14 = .ok (.getfield 10, 3) := by decide +kernel
theorem dX6_trapFor_17 : decode cX6_trapFor 17 = .ok (.getfield 52, 3) := by decide +kernel
theorem dX6_trapFor_20 : decode cX6_trapFor 20 = .ok (.astore_n 2, 1) := by decide +kernel
theorem dX6_trapFor_21 : decode cX6_trapFor 21 = .ok (.iconst 0, 1) := by decide +kernel
theorem dX6_trapFor_22 : decode cX6_trapFor 22 = .ok (.istore_n 3, 1) := by decide +kernel
theorem dX6_trapFor_23 : decode cX6_trapFor 23 = .ok (.iload_n 3, 1) := by decide +kernel
theorem dX6_trapFor_24 : decode cX6_trapFor 24 = .ok (.iconst 4, 1) := by decide +kernel
theorem dX6_trapFor_25 : decode cX6_trapFor 25 = .ok (.if_icmp .gt 36, 3) := by decide +kernel
theorem dX6_trapFor_28 : decode cX6_trapFor 28 = .ok (.aload_n 2, 1) := by decide +kernel
theorem dX6_trapFor_29 : decode cX6_trapFor 29 = .ok (.aload_n 0, 1) := by decide +kernel
theorem dX6_trapFor_30 : decode cX6_trapFor 30 = .ok (.getfield 37, 3) := by decide +kernel
theorem dX6_trapFor_33 : decode cX6_trapFor 33 = .ok (.iload_n 3, 1) := by decide +kernel
theorem dX6_trapFor_34 : decode cX6_trapFor 34 = .ok (.invokevirtual 213, 3) := by decide +kernel
theorem dX6_trapFor_37 : decode cX6_trapFor 37 = .ok (.aload_n 0, 1) := by decide +kernel
theorem dX6_trapFor_38 : decode cX6_trapFor 38 = .ok (.iload_n 1, 1) := by decide +kernel
theorem dX6_trapFor_39 : decode cX6_trapFor 39 = .ok (.aload_n 2, 1) := by decide +kernel
theorem dX6_trapFor_40 : decode cX6_trapFor 40 = .ok (.getfield 173, 3) := by decide +kernel
theorem dX6_trapFor_43 : decode cX6_trapFor 43 = .ok (.aload_n 0, 1) := by decide +kernel
theorem dX6_trapFor_44 : decode cX6_trapFor 44 = .ok (.getfield 37, 3) := by decide +kernel
theorem dX6_trapFor_47 : decode cX6_trapFor 47 = .ok (.invokevirtual 209, 3) := by decide +kernel
theorem dX6_trapFor_50 : decode cX6_trapFor 50 = .ok (.ifCond .ne 5, 3) := by decide +kernel
theorem dX6_trapFor_53 : decode cX6_trapFor 53 = .ok (.iload_n 3, 1) := by decide +kernel
theorem dX6_trapFor_54 : decode cX6_trapFor 54 = .ok (.ireturn, 1) := by decide +kernel
theorem dX6_trapFor_55 : decode cX6_trapFor 55 = .ok (.iinc 3 1, 3) := by decide +kernel
theorem dX6_trapFor_58 : decode cX6_trapFor 58 = .ok (.goto (-35), 3) := by decide +kernel
theorem dX6_trapFor_61 : decode cX6_trapFor 61 = .ok (.sipush (-1009), 3) := by decide +kernel
theorem dX6_trapFor_64 : decode cX6_trapFor 64 = .ok (.ireturn, 1) := by decide +kernel
set_option maxRecDepth 20000 in
theorem ggX6_bestPins_X6_isWithin : GoodIn wsX6_bestPins wsX6_isWithin := goodIn_r _ [5] (by decide +kernel) (by decide +kernel)
set_option maxRecDepth 20000 in
theorem gX6_bestPins_X6_isWithin : GoodIn wsX6_bestPins (va_wsS RX6 44 yX6_isWithin wsX6_isWithin) := goodIn_app (goodIn_of _ (by decide +kernel)) ggX6_bestPins_X6_isWithin
set_option maxRecDepth 20000 in
theorem ggX6_bestPins_X6_findInk : GoodIn wsX6_bestPins wsX6_findInk := goodIn_r _ [9, 1, 10, 11, 12, 13, 14, 15, 16, 17, 18, 19, 20, 21, 22, 23, 24, 25, 4, 26, 27, 28, 29, 30, 31, 32, 33, 34, 35, 36, 37, 77, 78, 79, 80, 81, 82, 83, 84, 85, 86, 87, 88, 89, 90, 91, 92, 93, 94, 95, 96, 97] (by decide +kernel) (by decide +kernel)
set_option maxRecDepth 20000 in
theorem gX6_bestPins_X6_findInk : GoodIn wsX6_bestPins (wsV RX6 107 RX6 yX6_findInk wsX6_findInk) := goodIn_app (goodIn_of _ (by decide +kernel)) ggX6_bestPins_X6_findInk
set_option maxRecDepth 20000 in
theorem ggX6_bestPins_X5_driftX : GoodIn wsX6_bestPins wsX5_driftX := goodIn_r _ [41, 17, 82, 83, 84, 85, 86, 87, 88, 89, 90, 91] (by decide +kernel) (by decide +kernel)
set_option maxRecDepth 20000 in
theorem gX6_bestPins_X5_driftX : GoodIn wsX6_bestPins (wsV RX6 217 RX5 yX5_driftX wsX5_driftX) := goodIn_app (goodIn_of _ (by decide +kernel)) ggX6_bestPins_X5_driftX
set_option maxRecDepth 20000 in
theorem ggX6_bestPins_X5_driftY : GoodIn wsX6_bestPins wsX5_driftY := goodIn_r _ [45, 17, 82, 83, 84, 85, 86, 87, 88, 89, 90, 91] (by decide +kernel) (by decide +kernel)
set_option maxRecDepth 20000 in
theorem gX6_bestPins_X5_driftY : GoodIn wsX6_bestPins (wsV RX6 220 RX5 yX5_driftY wsX5_driftY) := goodIn_app (goodIn_of _ (by decide +kernel)) ggX6_bestPins_X5_driftY
set_option maxRecDepth 20000 in
theorem ggX6_bestPins_X6_gapsWith : GoodIn wsX6_bestPins wsX6_gapsWith := goodIn_r _ [49, 1, 10, 11, 50, 51, 52, 53, 21, 54, 55, 56, 27, 28, 29, 30, 31, 32, 57, 58, 59, 60, 37, 61, 62, 63, 64, 65, 66, 67, 68, 77, 78, 79, 80, 81, 82, 83, 84, 85, 86, 87, 88, 89, 90, 91, 92, 93, 94, 95, 96, 97] (by decide +kernel) (by decide +kernel)
set_option maxRecDepth 20000 in
theorem gX6_bestPins_X6_gapsWith : GoodIn wsX6_bestPins (wsV RX6 116 RX6 yX6_gapsWith wsX6_gapsWith) := goodIn_app (goodIn_of _ (by decide +kernel)) ggX6_bestPins_X6_gapsWith
set_option maxRecDepth 20000 in
theorem ggX6_bestPins_X6_spillsWith : GoodIn wsX6_bestPins wsX6_spillsWith := goodIn_r _ [72, 1, 10, 50, 73, 74, 75, 21, 76, 55, 56, 27, 28, 29, 30, 31, 32, 57, 58, 59, 60, 37, 61, 62, 63, 64, 65, 66, 67, 68, 77, 78, 79, 80, 81, 82, 83, 84, 85, 86, 87, 88, 89, 90, 91, 92, 93, 94, 95, 96, 97] (by decide +kernel) (by decide +kernel)
set_option maxRecDepth 20000 in
theorem gX6_bestPins_X6_spillsWith : GoodIn wsX6_bestPins (wsV RX6 202 RX6 yX6_spillsWith wsX6_spillsWith) := goodIn_app (goodIn_of _ (by decide +kernel)) ggX6_bestPins_X6_spillsWith
theorem dX6_bestPins_0 : decode cX6_bestPins 0 = .ok (.iload_n 1, 1) := by decide +kernel
theorem dX6_bestPins_1 : decode cX6_bestPins 1 = .ok (.iconst 0, 1) := by decide +kernel
theorem dX6_bestPins_2 : decode cX6_bestPins 2 = .ok (.iconst 2, 1) := by decide +kernel
theorem dX6_bestPins_3 : decode cX6_bestPins 3 = .ok (.invokestatic 44, 3) := by decide +kernel
theorem dX6_bestPins_6 : decode cX6_bestPins 6 = .ok (.ifCond .ne 7, 3) := by decide +kernel
theorem dX6_bestPins_9 : decode cX6_bestPins 9 = .ok (.sipush (-1001), 3) := by decide +kernel
theorem dX6_bestPins_12 : decode cX6_bestPins 12 = .ok (.ireturn, 1) := by decide +kernel
theorem dX6_bestPins_13 : decode cX6_bestPins 13 = .ok (.aload_n 0, 1) := by decide +kernel
theorem dX6_bestPins_14 : decode cX6_bestPins 14 = .ok (.invokevirtual 107, 3) := by decide +kernel
theorem dX6_bestPins_17 : decode cX6_bestPins 17 = .ok (.bipush (-4), 2) := by decide +kernel
theorem dX6_bestPins_19 : decode cX6_bestPins 19 = .ok (.istore_n 2, 1) := by decide +kernel
theorem dX6_bestPins_20 : decode cX6_bestPins 20 = .ok (.bipush (-4), 2) := by decide +kernel
theorem dX6_bestPins_22 : decode cX6_bestPins 22 = .ok (.istore_n 3, 1) := by decide +kernel
theorem dX6_bestPins_23 : decode cX6_bestPins 23 = .ok (.sipush 384, 3) := by decide +kernel
theorem dX6_bestPins_26 : decode cX6_bestPins 26 = .ok (.istore 4, 2) := by decide +kernel
theorem dX6_bestPins_28 : decode cX6_bestPins 28 = .ok (.bipush (-4), 2) := by decide +kernel
theorem dX6_bestPins_30 : decode cX6_bestPins 30 = .ok (.istore 5, 2) := by decide +kernel
theorem dX6_bestPins_32 : decode cX6_bestPins 32 = .ok (.iload 5, 2) := by decide +kernel
theorem dX6_bestPins_34 : decode cX6_bestPins 34 = .ok (.iconst 4, 1) := by decide +kernel
theorem dX6_bestPins_35 : decode cX6_bestPins 35 = .ok (.if_icmp .gt 85, 3) := by decide +kernel
theorem dX6_bestPins_38 : decode cX6_bestPins 38 = .ok (.bipush (-4), 2) := by decide +kernel
theorem dX6_bestPins_40 : decode cX6_bestPins 40 = .ok (.istore 6, 2) := by decide +kernel
theorem dX6_bestPins_42 : decode cX6_bestPins 42 = .ok (.iload 6, 2) := by decide +kernel
theorem dX6_bestPins_44 : decode cX6_bestPins 44 = .ok (.iconst 4, 1) := by decide +kernel
theorem dX6_bestPins_45 : decode cX6_bestPins 45 = .ok (.if_icmp .gt 69, 3) := by decide +kernel
theorem dX6_bestPins_48 : decode cX6_bestPins 48 = .ok (.iload 5, 2) := by decide +kernel
theorem dX6_bestPins_50 : decode cX6_bestPins 50 = .ok (.aload_n 0, 1) := by decide +kernel
theorem dX6_bestPins_51 : decode cX6_bestPins 51 = .ok (.getfield 10, 3) := by decide +kernel
theorem dX6_bestPins_54 : decode cX6_bestPins 54 = .ok (.invokevirtual 217, 3) := by decide +kernel
theorem dX6_bestPins_57 : decode cX6_bestPins 57 = .ok (.iadd, 1) := by decide +kernel
theorem dX6_bestPins_58 : decode cX6_bestPins 58 = .ok (.istore 7, 2) := by decide +kernel
theorem dX6_bestPins_60 : decode cX6_bestPins 60 = .ok (.iload 6, 2) := by decide +kernel
theorem dX6_bestPins_62 : decode cX6_bestPins 62 = .ok (.aload_n 0, 1) := by decide +kernel
theorem dX6_bestPins_63 : decode cX6_bestPins 63 = .ok (.getfield 10, 3) := by decide +kernel
theorem dX6_bestPins_66 : decode cX6_bestPins 66 = .ok (.invokevirtual 220, 3) := by decide +kernel
theorem dX6_bestPins_69 : decode cX6_bestPins 69 = .ok (.iadd, 1) := by decide +kernel
theorem dX6_bestPins_70 : decode cX6_bestPins 70 = .ok (.istore 8, 2) := by decide +kernel
theorem dX6_bestPins_72 : decode cX6_bestPins 72 = .ok (.aload_n 0, 1) := by decide +kernel
theorem dX6_bestPins_73 : decode cX6_bestPins 73 = .ok (.iload 7, 2) := by decide +kernel
theorem dX6_bestPins_75 : decode cX6_bestPins 75 = .ok (.iload 8, 2) := by decide +kernel
theorem dX6_bestPins_77 : decode cX6_bestPins 77 = .ok (.invokevirtual 116, 3) := by decide +kernel
theorem dX6_bestPins_80 : decode cX6_bestPins 80 = .ok (.aload_n 0, 1) := by decide +kernel
theorem dX6_bestPins_81 : decode cX6_bestPins 81 = .ok (.iload 7, 2) := by decide +kernel
theorem dX6_bestPins_83 : decode cX6_bestPins 83 = .ok (.iload 8, 2) := by decide +kernel
theorem dX6_bestPins_85 : decode cX6_bestPins 85 = .ok (.invokevirtual 202, 3) := by decide +kernel
theorem dX6_bestPins_88 : decode cX6_bestPins 88 = .ok (.iadd, 1) := by decide +kernel
theorem dX6_bestPins_89 : decode cX6_bestPins 89 = .ok (.istore 9, 2) := by decide +kernel
theorem dX6_bestPins_91 : decode cX6_bestPins 91 = .ok (.iload 9, 2) := by decide +kernel
theorem dX6_bestPins_93 : decode cX6_bestPins 93 = .ok (.iload 4, 2) := by decide +kernel
theorem dX6_bestPins_95 : decode cX6_bestPins 95 = .ok (.if_icmp .ge 13, 3) := by decide +kernel
theorem dX6_bestPins_98 : decode cX6_bestPins 98 = .ok (.iload 9, 2) := by decide +kernel
theorem dX6_bestPins_100 : decode cX6_bestPins 100 = .ok (.istore 4, 2) := by decide +kernel
theorem dX6_bestPins_102 : decode cX6_bestPins 102 = .ok (.iload 5, 2) := by decide +kernel
theorem dX6_bestPins_104 : decode cX6_bestPins 104 = .ok (.istore_n 2, 1) := by decide +kernel
theorem dX6_bestPins_105 : decode cX6_bestPins 105 = .ok (.iload 6, 2) := by decide +kernel
theorem dX6_bestPins_107 : decode cX6_bestPins 107 = .ok (.istore_n 3, 1) := by decide +kernel
theorem dX6_bestPins_108 : decode cX6_bestPins 108 = .ok (.iinc 6 1, 3) := by decide +kernel
theorem dX6_bestPins_111 : decode cX6_bestPins 111 = .ok (.goto (-69), 3) := by decide +kernel
theorem dX6_bestPins_114 : decode cX6_bestPins 114 = .ok (.iinc 5 1, 3) := by decide +kernel
theorem dX6_bestPins_117 : decode cX6_bestPins 117 = .ok (.goto (-85), 3) := by decide +kernel
theorem dX6_bestPins_120 : decode cX6_bestPins 120 = .ok (.iload_n 1, 1) := by decide +kernel
theorem dX6_bestPins_121 : decode cX6_bestPins 121 = .ok (.iconst 2, 1) := by decide +kernel
theorem dX6_bestPins_122 : decode cX6_bestPins 122 = .ok (.if_icmp .ne 6, 3) := by decide +kernel
theorem dX6_bestPins_125 : decode cX6_bestPins 125 = .ok (.iload 4, 2) := by decide +kernel
theorem dX6_bestPins_127 : decode cX6_bestPins 127 = .ok (.ireturn, 1) := by decide +kernel
theorem dX6_bestPins_128 : decode cX6_bestPins 128 = .ok (.iconst 4, 1) := by decide +kernel
theorem dX6_bestPins_129 : decode cX6_bestPins 129 = .ok (.iload_n 1, 1) := by decide +kernel
theorem dX6_bestPins_130 : decode cX6_bestPins 130 = .ok (.ifCond .ne 7, 3) := by decide +kernel
theorem dX6_bestPins_133 : decode cX6_bestPins 133 = .ok (.iload_n 2, 1) := by decide +kernel
theorem dX6_bestPins_134 : decode cX6_bestPins 134 = .ok (.goto 4, 3) := by decide +kernel
theorem dX6_bestPins_137 : decode cX6_bestPins 137 = .ok (.iload_n 3, 1) := by decide +kernel
theorem dX6_bestPins_138 : decode cX6_bestPins 138 = .ok (.iadd, 1) := by decide +kernel
theorem dX6_bestPins_139 : decode cX6_bestPins 139 = .ok (.ireturn, 1) := by decide +kernel
set_option maxRecDepth 20000 in
theorem ggX6_printsLeft_X6_findInk : GoodIn wsX6_printsLeft wsX6_findInk := goodIn_r _ [8, 1, 2, 3, 9, 10, 11, 12, 13, 14, 15, 16, 17, 18, 19, 20, 21, 22, 7, 23, 24, 25, 26, 27, 28, 29, 30, 31, 32, 33, 34, 57, 58, 59, 60, 61, 62, 63, 64, 65, 66, 67, 68, 69, 70, 71, 72, 73, 74, 75, 76, 77] (by decide +kernel) (by decide +kernel)
set_option maxRecDepth 20000 in
theorem gX6_printsLeft_X6_findInk : GoodIn wsX6_printsLeft (wsV RX6 107 RX6 yX6_findInk wsX6_findInk) := goodIn_app (goodIn_of _ (by decide +kernel)) ggX6_printsLeft_X6_findInk
set_option maxRecDepth 20000 in
theorem ggX6_printsLeft_X5_hardness : GoodIn wsX6_printsLeft wsX5_hardness := goodIn_r _ [13, 14, 62, 63, 64, 65, 66, 67, 68, 69, 70, 71] (by decide +kernel) (by decide +kernel)
set_option maxRecDepth 20000 in
theorem gX6_printsLeft_X5_hardness : GoodIn wsX6_printsLeft (wsV RX6 91 RX5 yX5_hardness wsX5_hardness) := goodIn_app (goodIn_of _ (by decide +kernel)) ggX6_printsLeft_X5_hardness
set_option maxRecDepth 20000 in
theorem ggX6_printsLeft_X0_printsUntilWorn : GoodIn wsX6_printsLeft wsX0_printsUntilWorn := goodIn_r _ [38, 20, 39, 40, 41, 42, 43, 44, 18, 45, 46, 47, 48, 27, 49, 50, 51, 52, 53, 29, 54, 7, 55, 22, 23, 56, 72, 73, 74, 75, 76, 77] (by decide +kernel) (by decide +kernel)
set_option maxRecDepth 20000 in
theorem gX6_printsLeft_X0_printsUntilWorn : GoodIn wsX6_printsLeft (wsV RX6 223 RX0 yX0_printsUntilWorn wsX0_printsUntilWorn) := goodIn_app (goodIn_of _ (by decide +kernel)) ggX6_printsLeft_X0_printsUntilWorn
theorem dX6_printsLeft_0 : decode cX6_printsLeft 0 = .ok (.aload_n 0, 1) := by decide +kernel
theorem dX6_printsLeft_1 : decode cX6_printsLeft 1 = .ok (.invokevirtual 107, 3) := by decide +kernel
theorem dX6_printsLeft_4 : decode cX6_printsLeft 4 = .ok (.aload_n 0, 1) := by decide +kernel
theorem dX6_printsLeft_5 : decode cX6_printsLeft 5 = .ok (.getfield 10, 3) := by decide +kernel
theorem dX6_printsLeft_8 : decode cX6_printsLeft 8 = .ok (.getfield 52, 3) := by decide +kernel
theorem dX6_printsLeft_11 : decode cX6_printsLeft 11 = .ok (.aload_n 0, 1) := by decide +kernel
theorem dX6_printsLeft_12 : decode cX6_printsLeft 12 = .ok (.getfield 33, 3) := by decide +kernel
theorem dX6_printsLeft_15 : decode cX6_printsLeft 15 = .ok (.aload_n 0, 1) := by decide +kernel
theorem dX6_printsLeft_16 : decode cX6_printsLeft 16 = .ok (.getfield 10, 3) := by decide +kernel
theorem dX6_printsLeft_19 : decode cX6_printsLeft 19 = .ok (.invokevirtual 91, 3) := by decide +kernel
theorem dX6_printsLeft_22 : decode cX6_printsLeft 22 = .ok (.invokevirtual 223, 3) := by decide +kernel
theorem dX6_printsLeft_25 : decode cX6_printsLeft 25 = .ok (.istore_n 1, 1) := by decide +kernel
theorem dX6_printsLeft_26 : decode cX6_printsLeft 26 = .ok (.iload_n 1, 1) := by decide +kernel
theorem dX6_printsLeft_27 : decode cX6_printsLeft 27 = .ok (.sipush 500, 3) := by decide +kernel
theorem dX6_printsLeft_30 : decode cX6_printsLeft 30 = .ok (.if_icmp .le 9, 3) := by decide +kernel
theorem dX6_printsLeft_33 : decode cX6_printsLeft 33 = .ok (.sipush (-1009), 3) := by decide +kernel
theorem dX6_printsLeft_36 : decode cX6_printsLeft 36 = .ok (.goto 4, 3) := by decide +kernel
theorem dX6_printsLeft_39 : decode cX6_printsLeft 39 = .ok (.iload_n 1, 1) := by decide +kernel
theorem dX6_printsLeft_40 : decode cX6_printsLeft 40 = .ok (.ireturn, 1) := by decide +kernel
theorem dX6_isWithin_0 : decode cX6_isWithin 0 = .ok (.iload_n 0, 1) := by decide +kernel
theorem dX6_isWithin_1 : decode cX6_isWithin 1 = .ok (.iload_n 1, 1) := by decide +kernel
theorem dX6_isWithin_2 : decode cX6_isWithin 2 = .ok (.if_icmp .lt 12, 3) := by decide +kernel
theorem dX6_isWithin_5 : decode cX6_isWithin 5 = .ok (.iload_n 0, 1) := by decide +kernel
theorem dX6_isWithin_6 : decode cX6_isWithin 6 = .ok (.iload_n 2, 1) := by decide +kernel
theorem dX6_isWithin_7 : decode cX6_isWithin 7 = .ok (.if_icmp .gt 7, 3) := by decide +kernel
theorem dX6_isWithin_10 : decode cX6_isWithin 10 = .ok (.iconst 1, 1) := by decide +kernel
theorem dX6_isWithin_11 : decode cX6_isWithin 11 = .ok (.goto 4, 3) := by decide +kernel
theorem dX6_isWithin_14 : decode cX6_isWithin 14 = .ok (.iconst 0, 1) := by decide +kernel
theorem dX6_isWithin_15 : decode cX6_isWithin 15 = .ok (.ireturn, 1) := by decide +kernel
theorem dX6_isPlace_0 : decode cX6_isPlace 0 = .ok (.iload_n 0, 1) := by decide +kernel
theorem dX6_isPlace_1 : decode cX6_isPlace 1 = .ok (.ifCond .lt 23, 3) := by decide +kernel
theorem dX6_isPlace_4 : decode cX6_isPlace 4 = .ok (.iload_n 0, 1) := by decide +kernel
theorem dX6_isPlace_5 : decode cX6_isPlace 5 = .ok (.bipush 16, 2) := by decide +kernel
theorem dX6_isPlace_7 : decode cX6_isPlace 7 = .ok (.if_icmp .ge 17, 3) := by decide +kernel
theorem dX6_isPlace_10 : decode cX6_isPlace 10 = .ok (.iload_n 1, 1) := by decide +kernel
theorem dX6_isPlace_11 : decode cX6_isPlace 11 = .ok (.ifCond .lt 13, 3) := by decide +kernel
theorem dX6_isPlace_14 : decode cX6_isPlace 14 = .ok (.iload_n 1, 1) := by decide +kernel
theorem dX6_isPlace_15 : decode cX6_isPlace 15 = .ok (.bipush 12, 2) := by decide +kernel
theorem dX6_isPlace_17 : decode cX6_isPlace 17 = .ok (.if_icmp .ge 7, 3) := by decide +kernel
theorem dX6_isPlace_20 : decode cX6_isPlace 20 = .ok (.iconst 1, 1) := by decide +kernel
theorem dX6_isPlace_21 : decode cX6_isPlace 21 = .ok (.goto 4, 3) := by decide +kernel
theorem dX6_isPlace_24 : decode cX6_isPlace 24 = .ok (.iconst 0, 1) := by decide +kernel
theorem dX6_isPlace_25 : decode cX6_isPlace 25 = .ok (.ireturn, 1) := by decide +kernel
set_option maxRecDepth 20000 in
theorem ggX6_isShift_X6_isWithin : GoodIn wsX6_isShift wsX6_isWithin := goodIn_r _ [4] (by decide +kernel) (by decide +kernel)
set_option maxRecDepth 20000 in
theorem gX6_isShift_X6_isWithin : GoodIn wsX6_isShift (va_wsS RX6 44 yX6_isWithin wsX6_isWithin) := goodIn_app (goodIn_of _ (by decide +kernel)) ggX6_isShift_X6_isWithin
theorem dX6_isShift_0 : decode cX6_isShift 0 = .ok (.iload_n 0, 1) := by decide +kernel
theorem dX6_isShift_1 : decode cX6_isShift 1 = .ok (.bipush (-8), 2) := by decide +kernel
theorem dX6_isShift_3 : decode cX6_isShift 3 = .ok (.bipush 8, 2) := by decide +kernel
theorem dX6_isShift_5 : decode cX6_isShift 5 = .ok (.invokestatic 44, 3) := by decide +kernel
theorem dX6_isShift_8 : decode cX6_isShift 8 = .ok (.ifCond .eq 18, 3) := by decide +kernel
theorem dX6_isShift_11 : decode cX6_isShift 11 = .ok (.iload_n 1, 1) := by decide +kernel
theorem dX6_isShift_12 : decode cX6_isShift 12 = .ok (.bipush (-8), 2) := by decide +kernel
theorem dX6_isShift_14 : decode cX6_isShift 14 = .ok (.bipush 8, 2) := by decide +kernel
theorem dX6_isShift_16 : decode cX6_isShift 16 = .ok (.invokestatic 44, 3) := by decide +kernel
theorem dX6_isShift_19 : decode cX6_isShift 19 = .ok (.ifCond .eq 7, 3) := by decide +kernel
theorem dX6_isShift_22 : decode cX6_isShift 22 = .ok (.iconst 1, 1) := by decide +kernel
theorem dX6_isShift_23 : decode cX6_isShift 23 = .ok (.goto 4, 3) := by decide +kernel
theorem dX6_isShift_26 : decode cX6_isShift 26 = .ok (.iconst 0, 1) := by decide +kernel
theorem dX6_isShift_27 : decode cX6_isShift 27 = .ok (.ireturn, 1) := by decide +kernel
theorem dX6_oneIf_0 : decode cX6_oneIf 0 = .ok (.iload_n 0, 1) := by decide +kernel
theorem dX6_oneIf_1 : decode cX6_oneIf 1 = .ok (.ifCond .eq 7, 3) := by decide +kernel
theorem dX6_oneIf_4 : decode cX6_oneIf 4 = .ok (.iconst 1, 1) := by decide +kernel
theorem dX6_oneIf_5 : decode cX6_oneIf 5 = .ok (.goto 4, 3) := by decide +kernel
theorem dX6_oneIf_8 : decode cX6_oneIf 8 = .ok (.iconst 0, 1) := by decide +kernel
theorem dX6_oneIf_9 : decode cX6_oneIf 9 = .ok (.ireturn, 1) := by decide +kernel
