set_option maxRecDepth 20000 in
theorem ggX6_findInk_X5_hardness : GoodIn wsX6_findInk wsX5_hardness := goodIn_r _ [8, 9, 36, 37, 38, 39, 40, 41, 42, 43, 44, 45] (by decide +kernel) (by decide +kernel)
set_option maxRecDepth 20000 in
theorem gX6_findInk_X5_hardness : GoodIn wsX6_findInk (wsV RX6 91 RX5 yX5_hardness wsX5_hardness) := goodIn_app (goodIn_of _ (by decide +kernel)) ggX6_findInk_X5_hardness
set_option maxRecDepth 20000 in
theorem ggX6_findInk_X0_findInk : GoodIn wsX6_findInk wsX0_findInk := goodIn_r _ [14, 15, 16, 17, 18, 19, 20, 21, 22, 23, 24, 25, 26, 27, 28, 29, 30, 46, 47, 48, 49, 50, 51] (by decide +kernel) (by decide +kernel)
set_option maxRecDepth 20000 in
theorem gX6_findInk_X0_findInk : GoodIn wsX6_findInk (wsV RX6 227 RX0 yX0_findInk wsX0_findInk) := goodIn_app (goodIn_of _ (by decide +kernel)) ggX6_findInk_X0_findInk
theorem dX6_findInk_0 : decode cX6_findInk 0 = .ok (.aload_n 0, 1) := by decide +kernel
theorem dX6_findInk_1 : decode cX6_findInk 1 = .ok (.getfield 10, 3) := by decide +kernel
theorem dX6_findInk_4 : decode cX6_findInk 4 = .ok (.getfield 52, 3) := by decide +kernel
theorem dX6_findInk_7 : decode cX6_findInk 7 = .ok (.aload_n 0, 1) := by decide +kernel
theorem dX6_findInk_8 : decode cX6_findInk 8 = .ok (.getfield 33, 3) := by decide +kernel
theorem dX6_findInk_11 : decode cX6_findInk 11 = .ok (.aload_n 0, 1) := by decide +kernel
theorem dX6_findInk_12 : decode cX6_findInk 12 = .ok (.getfield 10, 3) := by decide +kernel
theorem dX6_findInk_15 : decode cX6_findInk 15 = .ok (.invokevirtual 91, 3) := by decide +kernel
theorem dX6_findInk_18 : decode cX6_findInk 18 = .ok (.invokevirtual 227, 3) := by decide +kernel
theorem dX6_findInk_21 : decode cX6_findInk 21 = .ok (.return_, 1) := by decide +kernel
set_option maxRecDepth 20000 in
theorem ggX6_wornCells_X6_findInk : GoodIn wsX6_wornCells wsX6_findInk := goodIn_r _ [9, 1, 2, 4, 10, 11, 12, 13, 14, 15, 16, 17, 18, 19, 20, 21, 22, 23, 8, 24, 25, 26, 27, 28, 29, 30, 31, 32, 33, 34, 35, 47, 48, 49, 50, 51, 52, 53, 54, 55, 56, 57, 58, 59, 60, 61, 62, 63, 64, 65, 66, 67] (by decide +kernel) (by decide +kernel)
set_option maxRecDepth 20000 in
theorem gX6_wornCells_X6_findInk : GoodIn wsX6_wornCells (wsV RX6 107 RX6 yX6_findInk wsX6_findInk) := goodIn_app (goodIn_of _ (by decide +kernel)) ggX6_wornCells_X6_findInk
set_option maxRecDepth 20000 in
theorem ggX6_wornCells_X1_size : GoodIn wsX6_wornCells wsX1_size := goodIn_r _ [39, 30, 40, 41, 42, 43, 44, 45, 46, 67] (by decide +kernel) (by decide +kernel)
set_option maxRecDepth 20000 in
theorem gX6_wornCells_X1_size : GoodIn wsX6_wornCells (wsV RX6 69 RX1 yX1_size wsX1_size) := goodIn_app (goodIn_of _ (by decide +kernel)) ggX6_wornCells_X1_size
theorem dX6_wornCells_0 : decode cX6_wornCells 0 = .ok (.aload_n 0, 1) := by decide +kernel
theorem dX6_wornCells_1 : decode cX6_wornCells 1 = .ok (.invokevirtual 107, 3) := by decide +kernel
theorem dX6_wornCells_4 : decode cX6_wornCells 4 = .ok (.aload_n 0, 1) := by decide +kernel
theorem dX6_wornCells_5 : decode cX6_wornCells 5 = .ok (.getfield 10, 3) := by decide +kernel
theorem dX6_wornCells_8 : decode cX6_wornCells 8 = .ok (.getfield 52, 3) := by decide +kernel
theorem dX6_wornCells_11 : decode cX6_wornCells 11 = .ok (.getfield 73, 3) := by decide +kernel
theorem dX6_wornCells_14 : decode cX6_wornCells 14 = .ok (.invokevirtual 69, 3) := by decide +kernel
theorem dX6_wornCells_17 : decode cX6_wornCells 17 = .ok (.aload_n 0, 1) := by decide +kernel
theorem dX6_wornCells_18 : decode cX6_wornCells 18 = .ok (.getfield 33, 3) := by decide +kernel
theorem dX6_wornCells_21 : decode cX6_wornCells 21 = .ok (.invokevirtual 69, 3) := by decide +kernel
theorem dX6_wornCells_24 : decode cX6_wornCells 24 = .ok (.isub, 1) := by decide +kernel
theorem dX6_wornCells_25 : decode cX6_wornCells 25 = .ok (.ireturn, 1) := by decide +kernel
set_option maxRecDepth 20000 in
theorem ggX6_printsColour_X1_has : GoodIn wsX6_printsColour wsX1_has := goodIn_r _ [8, 9, 10, 11, 12, 33] (by decide +kernel) (by decide +kernel)
set_option maxRecDepth 20000 in
theorem gX6_printsColour_X1_has : GoodIn wsX6_printsColour (wsV RX6 76 RX1 yX1_has wsX1_has) := goodIn_app (goodIn_of _ (by decide +kernel)) ggX6_printsColour_X1_has
theorem dX6_printsColour_0 : decode cX6_printsColour 0 = .ok (.aload_n 0, 1) := by decide +kernel
theorem dX6_printsColour_1 : decode cX6_printsColour 1 = .ok (.getfield 10, 3) := by decide +kernel
theorem dX6_printsColour_4 : decode cX6_printsColour 4 = .ok (.getfield 52, 3) := by decide +kernel
theorem dX6_printsColour_7 : decode cX6_printsColour 7 = .ok (.getfield 66, 3) := by decide +kernel
theorem dX6_printsColour_10 : decode cX6_printsColour 10 = .ok (.iload_n 1, 1) := by decide +kernel
theorem dX6_printsColour_11 : decode cX6_printsColour 11 = .ok (.iload_n 3, 1) := by decide +kernel
theorem dX6_printsColour_12 : decode cX6_printsColour 12 = .ok (.isub, 1) := by decide +kernel
theorem dX6_printsColour_13 : decode cX6_printsColour 13 = .ok (.iload_n 2, 1) := by decide +kernel
theorem dX6_printsColour_14 : decode cX6_printsColour 14 = .ok (.iload 4, 2) := by decide +kernel
theorem dX6_printsColour_16 : decode cX6_printsColour 16 = .ok (.isub, 1) := by decide +kernel
theorem dX6_printsColour_17 : decode cX6_printsColour 17 = .ok (.invokevirtual 76, 3) := by decide +kernel
theorem dX6_printsColour_20 : decode cX6_printsColour 20 = .ok (.ireturn, 1) := by decide +kernel
set_option maxRecDepth 20000 in
theorem ggX6_gapsWith_X0_gaps : GoodIn wsX6_gapsWith wsX0_gaps := goodIn_r _ [9, 10, 11, 12, 13, 14, 15, 16, 17, 18, 19, 20, 21, 22, 23, 24, 25, 26, 27, 28, 29, 30, 46, 47, 48, 49, 50, 51] (by decide +kernel) (by decide +kernel)
set_option maxRecDepth 20000 in
theorem gX6_gapsWith_X0_gaps : GoodIn wsX6_gapsWith (wsV RX6 229 RX0 yX0_gaps wsX0_gaps) := goodIn_app (goodIn_of _ (by decide +kernel)) ggX6_gapsWith_X0_gaps
theorem dX6_gapsWith_0 : decode cX6_gapsWith 0 = .ok (.aload_n 0, 1) := by decide +kernel
theorem dX6_gapsWith_1 : decode cX6_gapsWith 1 = .ok (.getfield 10, 3) := by decide +kernel
theorem dX6_gapsWith_4 : decode cX6_gapsWith 4 = .ok (.getfield 52, 3) := by decide +kernel
theorem dX6_gapsWith_7 : decode cX6_gapsWith 7 = .ok (.aload_n 0, 1) := by decide +kernel
theorem dX6_gapsWith_8 : decode cX6_gapsWith 8 = .ok (.getfield 33, 3) := by decide +kernel
theorem dX6_gapsWith_11 : decode cX6_gapsWith 11 = .ok (.aload_n 0, 1) := by decide +kernel
theorem dX6_gapsWith_12 : decode cX6_gapsWith 12 = .ok (.getfield 10, 3) := by decide +kernel
theorem dX6_gapsWith_15 : decode cX6_gapsWith 15 = .ok (.getfield 52, 3) := by decide +kernel
theorem dX6_gapsWith_18 : decode cX6_gapsWith 18 = .ok (.getfield 66, 3) := by decide +kernel
theorem dX6_gapsWith_21 : decode cX6_gapsWith 21 = .ok (.iload_n 1, 1) := by decide +kernel
theorem dX6_gapsWith_22 : decode cX6_gapsWith 22 = .ok (.iload_n 2, 1) := by decide +kernel
theorem dX6_gapsWith_23 : decode cX6_gapsWith 23 = .ok (.invokevirtual 229, 3) := by decide +kernel
theorem dX6_gapsWith_26 : decode cX6_gapsWith 26 = .ok (.ireturn, 1) := by decide +kernel
set_option maxRecDepth 20000 in
theorem ggX6_spillsWith_X0_spills : GoodIn wsX6_spillsWith wsX0_spills := goodIn_r _ [8, 9, 10, 11, 12, 13, 14, 15, 16, 17, 18, 19, 20, 21, 22, 23, 24, 25, 26, 27, 28, 29, 45, 46, 47, 48, 49, 50] (by decide +kernel) (by decide +kernel)
set_option maxRecDepth 20000 in
theorem gX6_spillsWith_X0_spills : GoodIn wsX6_spillsWith (wsV RX6 233 RX0 yX0_spills wsX0_spills) := goodIn_app (goodIn_of _ (by decide +kernel)) ggX6_spillsWith_X0_spills
theorem dX6_spillsWith_0 : decode cX6_spillsWith 0 = .ok (.aload_n 0, 1) := by decide +kernel
theorem dX6_spillsWith_1 : decode cX6_spillsWith 1 = .ok (.getfield 10, 3) := by decide +kernel
theorem dX6_spillsWith_4 : decode cX6_spillsWith 4 = .ok (.getfield 52, 3) := by decide +kernel
theorem dX6_spillsWith_7 : decode cX6_spillsWith 7 = .ok (.aload_n 0, 1) := by decide +kernel
theorem dX6_spillsWith_8 : decode cX6_spillsWith 8 = .ok (.getfield 10, 3) := by decide +kernel
theorem dX6_spillsWith_11 : decode cX6_spillsWith 11 = .ok (.getfield 52, 3) := by decide +kernel
theorem dX6_spillsWith_14 : decode cX6_spillsWith 14 = .ok (.getfield 66, 3) := by decide +kernel
theorem dX6_spillsWith_17 : decode cX6_spillsWith 17 = .ok (.iload_n 1, 1) := by decide +kernel
theorem dX6_spillsWith_18 : decode cX6_spillsWith 18 = .ok (.iload_n 2, 1) := by decide +kernel
theorem dX6_spillsWith_19 : decode cX6_spillsWith 19 = .ok (.invokevirtual 233, 3) := by decide +kernel
theorem dX6_spillsWith_22 : decode cX6_spillsWith 22 = .ok (.ireturn, 1) := by decide +kernel
set_option maxRecDepth 20000 in
theorem ggX6_hasGapsWithin_X0_gaps : GoodIn wsX6_hasGapsWithin wsX0_gaps := goodIn_r _ [7, 8, 9, 10, 11, 12, 13, 14, 15, 16, 17, 18, 19, 20, 21, 22, 23, 24, 25, 26, 27, 28, 44, 45, 46, 47, 48, 49] (by decide +kernel) (by decide +kernel)
set_option maxRecDepth 20000 in
theorem gX6_hasGapsWithin_X0_gaps : GoodIn wsX6_hasGapsWithin (wsV RX6 229 RX0 yX0_gaps wsX0_gaps) := goodIn_app (goodIn_of _ (by decide +kernel)) ggX6_hasGapsWithin_X0_gaps
theorem dX6_hasGapsWithin_0 : decode cX6_hasGapsWithin 0 = .ok (.iload_n 1, 1) := by decide +kernel
theorem dX6_hasGapsWithin_1 : decode cX6_hasGapsWithin 1 = .ok (.ineg, 1) := by decide +kernel
theorem dX6_hasGapsWithin_2 : decode cX6_hasGapsWithin 2 = .ok (.istore 4, 2) := by decide +kernel
theorem dX6_hasGapsWithin_4 : decode cX6_hasGapsWithin 4 = .ok (.iload 4, 2) := by decide +kernel
theorem dX6_hasGapsWithin_6 : decode cX6_hasGapsWithin 6 = .ok (.iload_n 1, 1) := by decide +kernel
theorem dX6_hasGapsWithin_7 : decode cX6_hasGapsWithin 7 = .ok (.if_icmp .gt 46, 3) := by decide +kernel
theorem dX6_hasGapsWithin_10 : decode cX6_hasGapsWithin 10 = .ok (.iload_n 1, 1) := by decide +kernel
theorem dX6_hasGapsWithin_11 : decode cX6_hasGapsWithin 11 = .ok (.ineg, 1) := by decide +kernel
theorem dX6_hasGapsWithin_12 : decode cX6_hasGapsWithin 12 = .ok (.istore 5, 2) := by decide +kernel
theorem dX6_hasGapsWithin_14 : decode cX6_hasGapsWithin 14 = .ok (.iload 5, 2) := by decide +kernel
theorem dX6_hasGapsWithin_16 : decode cX6_hasGapsWithin 16 = .ok (.iload_n 1, 1) := by decide +kernel
theorem dX6_hasGapsWithin_17 : decode cX6_hasGapsWithin 17 = .ok (.if_icmp .gt 30, 3) := by decide +kernel
theorem dX6_hasGapsWithin_20 : decode cX6_hasGapsWithin 20 = .ok (.aload_n 0, 1) := by decide +kernel
theorem dX6_hasGapsWithin_21 : decode cX6_hasGapsWithin 21 = .ok (.getfield 10, 3) := by decide +kernel
theorem dX6_hasGapsWithin_24 : decode cX6_hasGapsWithin 24 = .ok (.getfield 52, 3) := by decide +kernel
theorem dX6_hasGapsWithin_27 : decode cX6_hasGapsWithin 27 = .ok (.aload_n 2, 1) := by decide +kernel
theorem dX6_hasGapsWithin_28 : decode cX6_hasGapsWithin 28 = .ok (.aload_n 3, 1) := by decide +kernel
theorem dX6_hasGapsWithin_29 : decode cX6_hasGapsWithin 29 = .ok (.iload 4, 2) := by decide +kernel
theorem dX6_hasGapsWithin_31 : decode cX6_hasGapsWithin 31 = .ok (.iload 5, 2) := by decide +kernel
theorem dX6_hasGapsWithin_33 : decode cX6_hasGapsWithin 33 = .ok (.invokevirtual 229, 3) := by decide +kernel
theorem dX6_hasGapsWithin_36 : decode cX6_hasGapsWithin 36 = .ok (.ifCond .le 5, 3) := by decide +kernel
theorem dX6_hasGapsWithin_39 : decode cX6_hasGapsWithin 39 = .ok (.iconst 1, 1) := by decide +kernel
theorem dX6_hasGapsWithin_40 : decode cX6_hasGapsWithin 40 = .ok (.ireturn, 1) := by decide +kernel
theorem dX6_hasGapsWithin_41 : decode cX6_hasGapsWithin 41 = .ok (.iinc 5 1, 3) := by decide +kernel
theorem dX6_hasGapsWithin_44 : decode cX6_hasGapsWithin 44 = .ok (.goto (-30), 3) := by decide +kernel
theorem dX6_hasGapsWithin_47 : decode cX6_hasGapsWithin 47 = .ok (.iinc 4 1, 3) := by decide +kernel
theorem dX6_hasGapsWithin_50 : decode cX6_hasGapsWithin 50 = .ok (.goto (-46), 3) := by decide +kernel
theorem dX6_hasGapsWithin_53 : decode cX6_hasGapsWithin 53 = .ok (.iconst 0, 1) := by decide +kernel
theorem dX6_hasGapsWithin_54 : decode cX6_hasGapsWithin 54 = .ok (.ireturn, 1) := by decide +kernel
set_option maxRecDepth 20000 in
theorem ggX6_makeOnePrint_X6_findInk : GoodIn wsX6_makeOnePrint wsX6_findInk := goodIn_r _ [10, 1, 4, 5, 11, 12, 13, 14, 15, 16, 17, 18, 19, 20, 21, 22, 23, 24, 9, 25, 26, 27, 28, 29, 30, 31, 32, 33, 34, 35, 36, 131, 132, 133, 134, 135, 136, 137, 138, 139, 140, 141, 142, 143, 144, 145, 146, 147, 148, 149, 150, 151] (by decide +kernel) (by decide +kernel)
set_option maxRecDepth 20000 in
theorem gX6_makeOnePrint_X6_findInk : GoodIn wsX6_makeOnePrint (wsV RX6 107 RX6 yX6_findInk wsX6_findInk) := goodIn_app (goodIn_of _ (by decide +kernel)) ggX6_makeOnePrint_X6_findInk
set_option maxRecDepth 20000 in
theorem ggX6_makeOnePrint_X5_shiftX : GoodIn wsX6_makeOnePrint wsX5_shiftX := goodIn_r _ [40, 41, 42, 43, 44, 14, 45, 16, 136, 137, 138, 139, 140, 141, 142, 143, 144, 145] (by decide +kernel) (by decide +kernel)
set_option maxRecDepth 20000 in
theorem gX6_makeOnePrint_X5_shiftX : GoodIn wsX6_makeOnePrint (wsV RX6 110 RX5 yX5_shiftX wsX5_shiftX) := goodIn_app (goodIn_of _ (by decide +kernel)) ggX6_makeOnePrint_X5_shiftX
set_option maxRecDepth 20000 in
theorem ggX6_makeOnePrint_X5_shiftY : GoodIn wsX6_makeOnePrint wsX5_shiftY := goodIn_r _ [49, 50, 51, 52, 53, 14, 54, 16, 136, 137, 138, 139, 140, 141, 142, 143, 144, 145] (by decide +kernel) (by decide +kernel)
set_option maxRecDepth 20000 in
theorem gX6_makeOnePrint_X5_shiftY : GoodIn wsX6_makeOnePrint (wsV RX6 113 RX5 yX5_shiftY wsX5_shiftY) := goodIn_app (goodIn_of _ (by decide +kernel)) ggX6_makeOnePrint_X5_shiftY
set_option maxRecDepth 20000 in
theorem ggX6_makeOnePrint_X6_gapsWith : GoodIn wsX6_makeOnePrint wsX6_gapsWith := goodIn_r _ [58, 1, 4, 5, 59, 60, 61, 62, 20, 63, 64, 65, 26, 27, 28, 29, 30, 31, 66, 67, 68, 69, 36, 70, 71, 72, 73, 74, 75, 76, 77, 131, 132, 133, 134, 135, 136, 137, 138, 139, 140, 141, 142, 143, 144, 145, 146, 147, 148, 149, 150, 151] (by decide +kernel) (by decide +kernel)
set_option maxRecDepth 20000 in
theorem gX6_makeOnePrint_X6_gapsWith : GoodIn wsX6_makeOnePrint (wsV RX6 116 RX6 yX6_gapsWith wsX6_gapsWith) := goodIn_app (goodIn_of _ (by decide +kernel)) ggX6_makeOnePrint_X6_gapsWith
set_option maxRecDepth 20000 in
theorem ggX6_makeOnePrint_X3_addProof : GoodIn wsX6_makeOnePrint wsX3_addProof := goodIn_r _ [82, 83, 84, 85, 86, 87, 88, 89, 152, 153, 154] (by decide +kernel) (by decide +kernel)
set_option maxRecDepth 20000 in
theorem gX6_makeOnePrint_X3_addProof : GoodIn wsX6_makeOnePrint (wsV RX6 237 RX3 yX3_addProof wsX3_addProof) := goodIn_app (goodIn_of _ (by decide +kernel)) ggX6_makeOnePrint_X3_addProof
set_option maxRecDepth 20000 in
theorem ggX6_makeOnePrint_X6_spillsWith : GoodIn wsX6_makeOnePrint wsX6_spillsWith := goodIn_r _ [93, 1, 4, 59, 94, 95, 96, 20, 97, 64, 65, 26, 27, 28, 29, 30, 31, 66, 67, 68, 69, 36, 70, 71, 72, 73, 74, 75, 76, 77, 131, 132, 133, 134, 135, 136, 137, 138, 139, 140, 141, 142, 143, 144, 145, 146, 147, 148, 149, 150, 151] (by decide +kernel) (by decide +kernel)
set_option maxRecDepth 20000 in
theorem gX6_makeOnePrint_X6_spillsWith : GoodIn wsX6_makeOnePrint (wsV RX6 202 RX6 yX6_spillsWith wsX6_spillsWith) := goodIn_app (goodIn_of _ (by decide +kernel)) ggX6_makeOnePrint_X6_spillsWith
set_option maxRecDepth 20000 in
theorem ggX6_makeOnePrint_X0_lostLines : GoodIn wsX6_makeOnePrint wsX0_lostLines := goodIn_r _ [101, 65, 26, 27, 28, 29, 30, 31, 71, 72, 73, 74, 75, 76, 77, 146, 147, 148, 149, 150, 151] (by decide +kernel) (by decide +kernel)
set_option maxRecDepth 20000 in
theorem gX6_makeOnePrint_X0_lostLines : GoodIn wsX6_makeOnePrint (wsV RX6 205 RX0 yX0_lostLines wsX0_lostLines) := goodIn_app (goodIn_of _ (by decide +kernel)) ggX6_makeOnePrint_X0_lostLines
set_option maxRecDepth 20000 in
theorem ggX6_makeOnePrint_X3_addFaults : GoodIn wsX6_makeOnePrint wsX3_addFaults := goodIn_r _ [105, 89, 83, 152, 153, 154] (by decide +kernel) (by decide +kernel)
set_option maxRecDepth 20000 in
theorem gX6_makeOnePrint_X3_addFaults : GoodIn wsX6_makeOnePrint (wsV RX6 241 RX3 yX3_addFaults wsX3_addFaults) := goodIn_app (goodIn_of _ (by decide +kernel)) ggX6_makeOnePrint_X3_addFaults
set_option maxRecDepth 20000 in
theorem ggX6_makeOnePrint_X0_wearDown : GoodIn wsX6_makeOnePrint wsX0_wearDown := goodIn_r _ [109, 22, 110, 111, 112, 29, 113, 31, 114, 9, 115, 116, 117, 20, 118, 119, 120, 121, 122, 123, 24, 25, 146, 147, 148, 149, 150, 151] (by decide +kernel) (by decide +kernel)
set_option maxRecDepth 20000 in
theorem gX6_makeOnePrint_X0_wearDown : GoodIn wsX6_makeOnePrint (wsV RX6 244 RX0 yX0_wearDown wsX0_wearDown) := goodIn_app (goodIn_of _ (by decide +kernel)) ggX6_makeOnePrint_X0_wearDown
set_option maxRecDepth 20000 in
theorem ggX6_makeOnePrint_X5_dry : GoodIn wsX6_makeOnePrint wsX5_dry := goodIn_r _ [127, 16, 128, 129, 87, 130, 136, 137, 138, 139, 140, 141, 142, 143, 144, 145] (by decide +kernel) (by decide +kernel)
set_option maxRecDepth 20000 in
theorem gX6_makeOnePrint_X5_dry : GoodIn wsX6_makeOnePrint (wsV RX6 248 RX5 yX5_dry wsX5_dry) := goodIn_app (goodIn_of _ (by decide +kernel)) ggX6_makeOnePrint_X5_dry
theorem dX6_makeOnePrint_0 : decode cX6_makeOnePrint 0 = .ok (.aload_n 0, 1) := by decide +kernel
theorem dX6_makeOnePrint_1 : decode cX6_makeOnePrint 1 = .ok (.invokevirtual 107, 3) := by decide +kernel
theorem dX6_makeOnePrint_4 : decode cX6_makeOnePrint 4 = .ok (.aload_n 0, 1) := by decide +kernel
theorem dX6_makeOnePrint_5 : decode cX6_makeOnePrint 5 = .ok (.getfield 10, 3) := by decide +kernel
theorem dX6_makeOnePrint_8 : decode cX6_makeOnePrint 8 = .ok (.invokevirtual 110, 3) := by decide +kernel
theorem dX6_makeOnePrint_11 : decode cX6_makeOnePrint 11 = .ok (.istore_n 1, 1) := by decide +kernel
theorem dX6_makeOnePrint_12 : decode cX6_makeOnePrint 12 = .ok (.aload_n 0, 1) := by decide +kernel
theorem dX6_makeOnePrint_13 : decode cX6_makeOnePrint 13 = .ok (.getfield 10, 3) := by decide +kernel
theorem dX6_makeOnePrint_16 : decode cX6_makeOnePrint 16 = .ok (.invokevirtual 113, 3) := by decide +kernel
theorem dX6_makeOnePrint_19 : decode cX6_makeOnePrint 19 = .ok (.istore_n 2, 1) := by decide +kernel
theorem dX6_makeOnePrint_20 : decode cX6_makeOnePrint 20 = .ok (.aload_n 0, 1) := by decide +kernel
theorem dX6_makeOnePrint_21 : decode cX6_makeOnePrint 21 = .ok (.iload_n 1, 1) := by decide +kernel
theorem dX6_makeOnePrint_22 : decode cX6_makeOnePrint 22 = .ok (.iload_n 2, 1) := by decide +kernel
theorem dX6_makeOnePrint_23 : decode cX6_makeOnePrint 23 = .ok (.invokevirtual 116, 3) := by decide +kernel
theorem dX6_makeOnePrint_26 : decode cX6_makeOnePrint 26 = .ok (.istore_n 3, 1) := by decide +kernel
theorem dX6_makeOnePrint_27 : decode cX6_makeOnePrint 27 = .ok (.aload_n 0, 1) := by decide +kernel
theorem dX6_makeOnePrint_28 : decode cX6_makeOnePrint 28 = .ok (.getfield 10, 3) := by decide +kernel
theorem dX6_makeOnePrint_31 : decode cX6_makeOnePrint 31 = .ok (.dup, 1) := by decide +kernel
theorem dX6_makeOnePrint_32 : decode cX6_makeOnePrint 32 = .ok (.getfield 130, 3) := by decide +kernel
theorem dX6_makeOnePrint_35 : decode cX6_makeOnePrint 35 = .ok (.iconst 1, 1) := by decide +kernel
theorem dX6_makeOnePrint_36 : decode cX6_makeOnePrint 36 = .ok (.iadd, 1) := by decide +kernel
theorem dX6_makeOnePrint_37 : decode cX6_makeOnePrint 37 = .ok (.putfield 130, 3) := by decide +kernel
theorem dX6_makeOnePrint_40 : decode cX6_makeOnePrint 40 = .ok (.aload_n 0, 1) := by decide +kernel
theorem dX6_makeOnePrint_41 : decode cX6_makeOnePrint 41 = .ok (.getfield 10, 3) := by decide +kernel
theorem dX6_makeOnePrint_44 : decode cX6_makeOnePrint 44 = .ok (.getfield 176, 3) := by decide +kernel
theorem dX6_makeOnePrint_47 : decode cX6_makeOnePrint 47 = .ok (.aload_n 0, 1) := by decide +kernel
theorem dX6_makeOnePrint_48 : decode cX6_makeOnePrint 48 = .ok (.getfield 10, 3) := by decide +kernel
theorem dX6_makeOnePrint_51 : decode cX6_makeOnePrint 51 = .ok (.getfield 130, 3) := by decide +kernel
theorem dX6_makeOnePrint_54 : decode cX6_makeOnePrint 54 = .ok (.iload_n 1, 1) := by decide +kernel
theorem dX6_makeOnePrint_55 : decode cX6_makeOnePrint 55 = .ok (.iload_n 2, 1) := by decide +kernel
theorem dX6_makeOnePrint_56 : decode cX6_makeOnePrint 56 = .ok (.invokevirtual 237, 3) := by decide +kernel
theorem dX6_makeOnePrint_59 : decode cX6_makeOnePrint 59 = .ok (.aload_n 0, 1) := by decide +kernel
theorem dX6_makeOnePrint_60 : decode cX6_makeOnePrint 60 = .ok (.getfield 10, 3) := by decide +kernel
theorem dX6_makeOnePrint_63 : decode cX6_makeOnePrint 63 = .ok (.getfield 176, 3) := by decide +kernel
theorem dX6_makeOnePrint_66 : decode cX6_makeOnePrint 66 = .ok (.iload_n 3, 1) := by decide +kernel
theorem dX6_makeOnePrint_67 : decode cX6_makeOnePrint 67 = .ok (.aload_n 0, 1) := by decide +kernel
theorem dX6_makeOnePrint_68 : decode cX6_makeOnePrint 68 = .ok (.iload_n 1, 1) := by decide +kernel
theorem dX6_makeOnePrint_69 : decode cX6_makeOnePrint 69 = .ok (.iload_n 2, 1) := by decide +kernel
theorem dX6_makeOnePrint_70 : decode cX6_makeOnePrint 70 = .ok (.invokevirtual 202, 3) := by decide +kernel
theorem dX6_makeOnePrint_73 : decode cX6_makeOnePrint 73 = .ok (.aload_n 0, 1) := by decide +kernel
theorem dX6_makeOnePrint_74 : decode cX6_makeOnePrint 74 = .ok (.getfield 10, 3) := by decide +kernel
theorem dX6_makeOnePrint_77 : decode cX6_makeOnePrint 77 = .ok (.getfield 52, 3) := by decide +kernel
theorem dX6_makeOnePrint_80 : decode cX6_makeOnePrint 80 = .ok (.aload_n 0, 1) := by decide +kernel
theorem dX6_makeOnePrint_81 : decode cX6_makeOnePrint 81 = .ok (.getfield 33, 3) := by decide +kernel
theorem dX6_makeOnePrint_84 : decode cX6_makeOnePrint 84 = .ok (.invokevirtual 205, 3) := by decide +kernel
theorem dX6_makeOnePrint_87 : decode cX6_makeOnePrint 87 = .ok (.invokevirtual 241, 3) := by decide +kernel
theorem dX6_makeOnePrint_90 : decode cX6_makeOnePrint 90 = .ok (.aload_n 0, 1) := by decide +kernel
theorem dX6_makeOnePrint_91 : decode cX6_makeOnePrint 91 = .ok (.getfield 10, 3) := by decide +kernel
theorem dX6_makeOnePrint_94 : decode cX6_makeOnePrint 94 = .ok (.getfield 52, 3) := by decide +kernel
theorem dX6_makeOnePrint_97 : decode cX6_makeOnePrint 97 = .ok (.aload_n 0, 1) := by decide +kernel
theorem dX6_makeOnePrint_98 : decode cX6_makeOnePrint 98 = .ok (.getfield 33, 3) := by decide +kernel
theorem dX6_makeOnePrint_101 : decode cX6_makeOnePrint 101 = .ok (.invokevirtual 244, 3) := by decide +kernel
theorem dX6_makeOnePrint_104 : decode cX6_makeOnePrint 104 = .ok (.aload_n 0, 1) := by decide +kernel
theorem dX6_makeOnePrint_105 : decode cX6_makeOnePrint 105 = .ok (.getfield 10, 3) := by decide +kernel
theorem dX6_makeOnePrint_108 : decode cX6_makeOnePrint 108 = .ok (.invokevirtual 248, 3) := by decide +kernel
theorem dX6_makeOnePrint_111 : decode cX6_makeOnePrint 111 = .ok (.iload_n 3, 1) := by decide +kernel
theorem dX6_makeOnePrint_112 : decode cX6_makeOnePrint 112 = .ok (.ireturn, 1) := by decide +kernel
theorem dJ6_bitCount_0f7a4_0 : decode cJ6_bitCount_0f7a4 0 = .ok (.iload_n 0, 1) := by decide +kernel
theorem dJ6_bitCount_0f7a4_1 : decode cJ6_bitCount_0f7a4 1 = .ok (.iload_n 0, 1) := by decide +kernel
theorem dJ6_bitCount_0f7a4_2 : decode cJ6_bitCount_0f7a4 2 = .ok (.iconst 1, 1) := by decide +kernel
theorem dJ6_bitCount_0f7a4_3 : decode cJ6_bitCount_0f7a4 3 = .ok (.iushr, 1) := by decide +kernel
theorem dJ6_bitCount_0f7a4_4 : decode cJ6_bitCount_0f7a4 4 = .ok (.ldc_w 265, 3) := by decide +kernel
theorem dJ6_bitCount_0f7a4_7 : decode cJ6_bitCount_0f7a4 7 = .ok (.iand, 1) := by decide +kernel
theorem dJ6_bitCount_0f7a4_8 : decode cJ6_bitCount_0f7a4 8 = .ok (.isub, 1) := by decide +kernel
theorem dJ6_bitCount_0f7a4_9 : decode cJ6_bitCount_0f7a4 9 = .ok (.istore_n 0, 1) := by decide +kernel
theorem dJ6_bitCount_0f7a4_10 : decode cJ6_bitCount_0f7a4 10 = .ok (.iload_n 0, 1) := by decide +kernel
theorem dJ6_bitCount_0f7a4_11 : decode cJ6_bitCount_0f7a4 11 = .ok (.ldc_w 266, 3) := by decide +kernel
theorem dJ6_bitCount_0f7a4_14 : decode cJ6_bitCount_0f7a4 14 = .ok (.iand, 1) := by decide +kernel
theorem dJ6_bitCount_0f7a4_15 : decode cJ6_bitCount_0f7a4 15 = .ok (.iload_n 0, 1) := by decide +kernel
theorem dJ6_bitCount_0f7a4_16 : decode cJ6_bitCount_0f7a4 16 = .ok (.iconst 2, 1) := by decide +kernel
theorem dJ6_bitCount_0f7a4_17 : decode cJ6_bitCount_0f7a4 17 = .ok (.iushr, 1) := by decide +kernel
theorem dJ6_bitCount_0f7a4_18 : decode cJ6_bitCount_0f7a4 18 = .ok (.ldc_w 266, 3) := by decide +kernel
theorem dJ6_bitCount_0f7a4_21 : decode cJ6_bitCount_0f7a4 21 = .ok (.iand, 1) := by decide +kernel
theorem dJ6_bitCount_0f7a4_22 : decode cJ6_bitCount_0f7a4 22 = .ok (.iadd, 1) := by decide +kernel
theorem dJ6_bitCount_0f7a4_23 : decode cJ6_bitCount_0f7a4 23 = .ok (.istore_n 0, 1) := by decide +kernel
theorem dJ6_bitCount_0f7a4_24 : decode cJ6_bitCount_0f7a4 24 = .ok (.iload_n 0, 1) := by decide +kernel
theorem dJ6_bitCount_0f7a4_25 : decode cJ6_bitCount_0f7a4 25 = .ok (.iload_n 0, 1) := by decide +kernel
theorem dJ6_bitCount_0f7a4_26 : decode cJ6_bitCount_0f7a4 26 = .ok (.iconst 4, 1) := by decide +kernel
theorem dJ6_bitCount_0f7a4_27 : decode cJ6_bitCount_0f7a4 27 = .ok (.iushr, 1) := by decide +kernel
theorem dJ6_bitCount_0f7a4_28 : decode cJ6_bitCount_0f7a4 28 = .ok (.iadd, 1) := by decide +kernel
theorem dJ6_bitCount_0f7a4_29 : decode cJ6_bitCount_0f7a4 29 = .ok (.ldc_w 267, 3) := by decide +kernel
theorem dJ6_bitCount_0f7a4_32 : decode cJ6_bitCount_0f7a4 32 = .ok (.iand, 1) := by decide +kernel
theorem dJ6_bitCount_0f7a4_33 : decode cJ6_bitCount_0f7a4 33 = .ok (.istore_n 0, 1) := by decide +kernel
theorem dJ6_bitCount_0f7a4_34 : decode cJ6_bitCount_0f7a4 34 = .ok (.iload_n 0, 1) := by decide +kernel
theorem dJ6_bitCount_0f7a4_35 : decode cJ6_bitCount_0f7a4 35 = .ok (.iload_n 0, 1) := by decide +kernel
theorem dJ6_bitCount_0f7a4_36 : decode cJ6_bitCount_0f7a4 36 = .ok (.bipush 8, 2) := by decide +kernel
theorem dJ6_bitCount_0f7a4_38 : decode cJ6_bitCount_0f7a4 38 = .ok (.iushr, 1) := by decide +kernel
theorem dJ6_bitCount_0f7a4_39 : decode cJ6_bitCount_0f7a4 39 = .ok (.iadd, 1) := by decide +kernel
theorem dJ6_bitCount_0f7a4_40 : decode cJ6_bitCount_0f7a4 40 = .ok (.istore_n 0, 1) := by decide +kernel
theorem dJ6_bitCount_0f7a4_41 : decode cJ6_bitCount_0f7a4 41 = .ok (.iload_n 0, 1) := by decide +kernel
theorem dJ6_bitCount_0f7a4_42 : decode cJ6_bitCount_0f7a4 42 = .ok (.iload_n 0, 1) := by decide +kernel
theorem dJ6_bitCount_0f7a4_43 : decode cJ6_bitCount_0f7a4 43 = .ok (.bipush 16, 2) := by decide +kernel
theorem dJ6_bitCount_0f7a4_45 : decode cJ6_bitCount_0f7a4 45 = .ok (.iushr, 1) := by decide +kernel
theorem dJ6_bitCount_0f7a4_46 : decode cJ6_bitCount_0f7a4 46 = .ok (.iadd, 1) := by decide +kernel
theorem dJ6_bitCount_0f7a4_47 : decode cJ6_bitCount_0f7a4 47 = .ok (.istore_n 0, 1) := by decide +kernel
theorem dJ6_bitCount_0f7a4_48 : decode cJ6_bitCount_0f7a4 48 = .ok (.iload_n 0, 1) := by decide +kernel
theorem dJ6_bitCount_0f7a4_49 : decode cJ6_bitCount_0f7a4 49 = .ok (.bipush 63, 2) := by decide +kernel
theorem dJ6_bitCount_0f7a4_51 : decode cJ6_bitCount_0f7a4 51 = .ok (.iand, 1) := by decide +kernel
theorem dJ6_bitCount_0f7a4_52 : decode cJ6_bitCount_0f7a4 52 = .ok (.ireturn, 1) := by decide +kernel
theorem dJ9_max_7cf53_0 : decode cJ9_max_7cf53 0 = .ok (.iload_n 0, 1) := by decide +kernel
theorem dJ9_max_7cf53_1 : decode cJ9_max_7cf53 1 = .ok (.iload_n 1, 1) := by decide +kernel
theorem dJ9_max_7cf53_2 : decode cJ9_max_7cf53 2 = .ok (.if_icmp .lt 7, 3) := by decide +kernel
theorem dJ9_max_7cf53_5 : decode cJ9_max_7cf53 5 = .ok (.iload_n 0, 1) := by decide +kernel
theorem dJ9_max_7cf53_6 : decode cJ9_max_7cf53 6 = .ok (.goto 4, 3) := by decide +kernel
theorem dJ9_max_7cf53_9 : decode cJ9_max_7cf53 9 = .ok (.iload_n 1, 1) := by decide +kernel
theorem dJ9_max_7cf53_10 : decode cJ9_max_7cf53 10 = .ok (.ireturn, 1) := by decide +kernel
theorem dJ9_min_7cf53_0 : decode cJ9_min_7cf53 0 = .ok (.iload_n 0, 1) := by decide +kernel
theorem dJ9_min_7cf53_1 : decode cJ9_min_7cf53 1 = .ok (.iload_n 1, 1) := by decide +kernel
theorem dJ9_min_7cf53_2 : decode cJ9_min_7cf53 2 = .ok (.if_icmp .gt 7, 3) := by decide +kernel
theorem dJ9_min_7cf53_5 : decode cJ9_min_7cf53 5 = .ok (.iload_n 0, 1) := by decide +kernel
theorem dJ9_min_7cf53_6 : decode cJ9_min_7cf53 6 = .ok (.goto 4, 3) := by decide +kernel
theorem dJ9_min_7cf53_9 : decode cJ9_min_7cf53 9 = .ok (.iload_n 1, 1) := by decide +kernel
theorem dJ9_min_7cf53_10 : decode cJ9_min_7cf53 10 = .ok (.ireturn, 1) := by decide +kernel
theorem dJ7_fill_53178_0 : decode cJ7_fill_53178 0 = .ok (.iconst 0, 1) := by decide +kernel
theorem dJ7_fill_53178_1 : decode cJ7_fill_53178 1 = .ok (.istore_n 2, 1) := by decide +kernel
theorem dJ7_fill_53178_2 : decode cJ7_fill_53178 2 = .ok (.aload_n 0, 1) := by decide +kernel
theorem dJ7_fill_53178_3 : decode cJ7_fill_53178 3 = .ok (.arraylength, 1) := by decide +kernel
theorem dJ7_fill_53178_4 : decode cJ7_fill_53178 4 = .ok (.istore_n 3, 1) := by decide +kernel
theorem dJ7_fill_53178_5 : decode cJ7_fill_53178 5 = .ok (.iload_n 2, 1) := by decide +kernel
theorem dJ7_fill_53178_6 : decode cJ7_fill_53178 6 = .ok (.iload_n 3, 1) := by decide +kernel
theorem dJ7_fill_53178_7 : decode cJ7_fill_53178 7 = .ok (.if_icmp .ge 13, 3) := by decide +kernel
theorem dJ7_fill_53178_10 : decode cJ7_fill_53178 10 = .ok (.aload_n 0, 1) := by decide +kernel
theorem dJ7_fill_53178_11 : decode cJ7_fill_53178 11 = .ok (.iload_n 2, 1) := by decide +kernel
theorem dJ7_fill_53178_12 : decode cJ7_fill_53178 12 = .ok (.iload_n 1, 1) := by decide +kernel
theorem dJ7_fill_53178_13 : decode cJ7_fill_53178 13 = .ok (.iastore, 1) := by decide +kernel
theorem dJ7_fill_53178_14 : decode cJ7_fill_53178 14 = .ok (.iinc 2 1, 3) := by decide +kernel
theorem dJ7_fill_53178_17 : decode cJ7_fill_53178 17 = .ok (.goto (-12), 3) := by decide +kernel
theorem dJ7_fill_53178_20 : decode cJ7_fill_53178 20 = .ok (.return_, 1) := by decide +kernel
theorem dL_cell_0 : decode cL_cell 0 = .ok (.iload_n 1, 1) := by decide +kernel
theorem dL_cell_1 : decode cL_cell 1 = .ok (.aload_n 0, 1) := by decide +kernel
theorem dL_cell_2 : decode cL_cell 2 = .ok (.arraylength, 1) := by decide +kernel
theorem dL_cell_3 : decode cL_cell 3 = .ok (.if_icmp .ge 9, 3) := by decide +kernel
theorem dL_cell_6 : decode cL_cell 6 = .ok (.aload_n 0, 1) := by decide +kernel
theorem dL_cell_7 : decode cL_cell 7 = .ok (.iload_n 1, 1) := by decide +kernel
theorem dL_cell_8 : decode cL_cell 8 = .ok (.iaload, 1) := by decide +kernel
theorem dL_cell_9 : decode cL_cell 9 = .ok (.goto 15, 3) := by decide +kernel
theorem dL_cell_12 : decode cL_cell 12 = .ok (.sipush 7919, 3) := by decide +kernel
theorem dL_cell_15 : decode cL_cell 15 = .ok (.iload_n 1, 1) := by decide +kernel
theorem dL_cell_16 : decode cL_cell 16 = .ok (.iconst 3, 1) := by decide +kernel
theorem dL_cell_17 : decode cL_cell 17 = .ok (.iadd, 1) := by decide +kernel
theorem dL_cell_18 : decode cL_cell 18 = .ok (.imul, 1) := by decide +kernel
theorem dL_cell_19 : decode cL_cell 19 = .ok (.iload_n 1, 1) := by decide +kernel
theorem dL_cell_20 : decode cL_cell 20 = .ok (.bipush 11, 2) := by decide +kernel
theorem dL_cell_22 : decode cL_cell 22 = .ok (.iadd, 1) := by decide +kernel
theorem dL_cell_23 : decode cL_cell 23 = .ok (.imul, 1) := by decide +kernel
theorem dL_cell_24 : decode cL_cell 24 = .ok (.ireturn, 1) := by decide +kernel
theorem dL_low_0 : decode cL_low 0 = .ok (.iload_n 0, 1) := by decide +kernel
theorem dL_low_1 : decode cL_low 1 = .ok (.ldc 7, 2) := by decide +kernel
theorem dL_low_3 : decode cL_low 3 = .ok (.iand, 1) := by decide +kernel
theorem dL_low_4 : decode cL_low 4 = .ok (.iload_n 1, 1) := by decide +kernel
theorem dL_low_5 : decode cL_low 5 = .ok (.irem, 1) := by decide +kernel
theorem dL_low_6 : decode cL_low 6 = .ok (.ireturn, 1) := by decide +kernel
set_option maxRecDepth 20000 in
theorem ggL_digest_X6_count : GoodIn wsL_digest wsX6_count := goodIn_r _ [7, 8, 9, 10, 11, 12, 13, 14, 15, 16, 17, 18, 19, 20, 21, 22, 23, 24, 25, 26, 27, 28, 29, 30, 31, 32, 33, 34, 35, 36, 37, 38, 39, 40, 41, 42, 43, 44, 45, 46, 47, 48, 49, 50, 51, 52, 53, 54, 55, 56, 57, 58, 59, 60, 61, 62, 63, 64, 6, 65, 66, 67, 68, 69, 70, 71, 72, 73, 74, 75, 76, 77, 78, 79, 80, 81, 82, 83, 84, 85, 86, 87, 88, 89, 90, 91, 92, 93, 94, 95, 96, 97, 98, 99, 100, 101, 102, 103, 104, 105, 106, 107, 108, 109, 110, 111, 112, 113, 114, 115, 155, 156, 157, 158, 159, 160, 161, 162, 163, 164, 165, 166, 167, 168, 169, 170, 171, 172, 173, 174, 175, 176, 177, 178, 179, 180, 181, 182, 183, 184, 185, 186, 187] (by decide +kernel) (by decide +kernel)
set_option maxRecDepth 20000 in
theorem gL_digest_X6_count : GoodIn wsL_digest (wsV RL 12 RX6 yX6_count wsX6_count) := goodIn_app (goodIn_of _ (by decide +kernel)) ggL_digest_X6_count
set_option maxRecDepth 20000 in
theorem ggL_digest_X6_cell : GoodIn wsL_digest wsX6_cell := goodIn_r _ [119, 8, 13, 16, 17, 120, 121, 6, 122, 123, 124, 125, 44, 126, 47, 46, 127, 128, 129, 51, 130, 53, 131, 132, 81, 82, 133, 134, 135, 136, 79, 71, 72, 73, 24, 74, 31, 137, 138, 139, 140, 80, 141, 155, 156, 157, 158, 159, 160, 161, 162, 163, 164, 165, 166, 167, 168, 169, 170, 171, 172, 173, 174, 175] (by decide +kernel) (by decide +kernel)
set_option maxRecDepth 20000 in
theorem gL_digest_X6_cell : GoodIn wsL_digest (wsV RL 18 RX6 yX6_cell wsX6_cell) := goodIn_app (goodIn_of _ (by decide +kernel)) ggL_digest_X6_cell
set_option maxRecDepth 20000 in
theorem ggL_digest_X6_proof : GoodIn wsL_digest wsX6_proof := goodIn_r _ [145, 8, 18, 146, 147, 6, 148, 92, 93, 94, 95, 96, 97, 149, 150, 151, 152, 153, 154, 155, 156, 157, 158, 159, 160, 161, 162, 163, 164, 165, 166, 167, 168, 169, 176, 177, 178] (by decide +kernel) (by decide +kernel)
set_option maxRecDepth 20000 in
theorem gL_digest_X6_proof : GoodIn wsL_digest (wsV RL 22 RX6 yX6_proof wsX6_proof) := goodIn_app (goodIn_of _ (by decide +kernel)) ggL_digest_X6_proof
theorem dL_digest_0 : decode cL_digest 0 = .ok (.ldc2_w 8, 3) := by decide +kernel
theorem dL_digest_3 : decode cL_digest 3 = .ok (.lstore_n 1, 1) := by decide +kernel
theorem dL_digest_4 : decode cL_digest 4 = .ok (.iconst 0, 1) := by decide +kernel
theorem dL_digest_5 : decode cL_digest 5 = .ok (.istore_n 3, 1) := by decide +kernel
theorem dL_digest_6 : decode cL_digest 6 = .ok (.iload_n 3, 1) := by decide +kernel
theorem dL_digest_7 : decode cL_digest 7 = .ok (.bipush 18, 2) := by decide +kernel
theorem dL_digest_9 : decode cL_digest 9 = .ok (.if_icmp .ge 22, 3) := by decide +kernel
theorem dL_digest_12 : decode cL_digest 12 = .ok (.ldc2_w 10, 3) := by decide +kernel
theorem dL_digest_15 : decode cL_digest 15 = .ok (.lload_n 1, 1) := by decide +kernel
theorem dL_digest_16 : decode cL_digest 16 = .ok (.lmul, 1) := by decide +kernel
theorem dL_digest_17 : decode cL_digest 17 = .ok (.aload_n 0, 1) := by decide +kernel
theorem dL_digest_18 : decode cL_digest 18 = .ok (.iload_n 3, 1) := by decide +kernel
theorem dL_digest_19 : decode cL_digest 19 = .ok (.invokevirtual 12, 3) := by decide +kernel
theorem dL_digest_22 : decode cL_digest 22 = .ok (.i2l, 1) := by decide +kernel
theorem dL_digest_23 : decode cL_digest 23 = .ok (.ladd, 1) := by decide +kernel
theorem dL_digest_24 : decode cL_digest 24 = .ok (.lstore_n 1, 1) := by decide +kernel
theorem dL_digest_25 : decode cL_digest 25 = .ok (.iinc 3 1, 3) := by decide +kernel
theorem dL_digest_28 : decode cL_digest 28 = .ok (.goto (-22), 3) := by decide +kernel
theorem dL_digest_31 : decode cL_digest 31 = .ok (.iconst 0, 1) := by decide +kernel
theorem dL_digest_32 : decode cL_digest 32 = .ok (.istore_n 3, 1) := by decide +kernel
theorem dL_digest_33 : decode cL_digest 33 = .ok (.iload_n 3, 1) := by decide +kernel
theorem dL_digest_34 : decode cL_digest 34 = .ok (.bipush 12, 2) := by decide +kernel
theorem dL_digest_36 : decode cL_digest 36 = .ok (.if_icmp .ge 57, 3) := by decide +kernel
theorem dL_digest_39 : decode cL_digest 39 = .ok (.iconst 0, 1) := by decide +kernel
theorem dL_digest_40 : decode cL_digest 40 = .ok (.istore 4, 2) := by decide +kernel
theorem dL_digest_42 : decode cL_digest 42 = .ok (.iload 4, 2) := by decide +kernel
theorem dL_digest_44 : decode cL_digest 44 = .ok (.bipush 16, 2) := by decide +kernel
theorem dL_digest_46 : decode cL_digest 46 = .ok (.if_icmp .ge 41, 3) := by decide +kernel
theorem dL_digest_49 : decode cL_digest 49 = .ok (.iconst 0, 1) := by decide +kernel
theorem dL_digest_50 : decode cL_digest 50 = .ok (.istore 5, 2) := by decide +kernel
theorem dL_digest_52 : decode cL_digest 52 = .ok (.iload 5, 2) := by decide +kernel
theorem dL_digest_54 : decode cL_digest 54 = .ok (.iconst 4, 1) := by decide +kernel
theorem dL_digest_55 : decode cL_digest 55 = .ok (.if_icmp .ge 26, 3) := by decide +kernel
theorem dL_digest_58 : decode cL_digest 58 = .ok (.ldc2_w 10, 3) := by decide +kernel
theorem dL_digest_61 : decode cL_digest 61 = .ok (.lload_n 1, 1) := by decide +kernel
theorem dL_digest_62 : decode cL_digest 62 = .ok (.lmul, 1) := by decide +kernel
theorem dL_digest_63 : decode cL_digest 63 = .ok (.aload_n 0, 1) := by decide +kernel
theorem dL_digest_64 : decode cL_digest 64 = .ok (.iload 4, 2) := by decide +kernel
theorem dL_digest_66 : decode cL_digest 66 = .ok (.iload_n 3, 1) := by decide +kernel
theorem dL_digest_67 : decode cL_digest 67 = .ok (.iload 5, 2) := by decide +kernel
theorem dL_digest_69 : decode cL_digest 69 = .ok (.invokevirtual 18, 3) := by decide +kernel
theorem dL_digest_72 : decode cL_digest 72 = .ok (.i2l, 1) := by decide +kernel
theorem dL_digest_73 : decode cL_digest 73 = .ok (.ladd, 1) := by decide +kernel
theorem dL_digest_74 : decode cL_digest 74 = .ok (.lstore_n 1, 1) := by decide +kernel
theorem dL_digest_75 : decode cL_digest 75 = .ok (.iinc 5 1, 3) := by decide +kernel
theorem dL_digest_78 : decode cL_digest 78 = .ok (.goto (-26), 3) := by decide +kernel
theorem dL_digest_81 : decode cL_digest 81 = .ok (.iinc 4 1, 3) := by decide +kernel
theorem dL_digest_84 : decode cL_digest 84 = .ok (.goto (-42), 3) := by decide +kernel
theorem dL_digest_87 : decode cL_digest 87 = .ok (.iinc 3 1, 3) := by decide +kernel
theorem dL_digest_90 : decode cL_digest 90 = .ok (.goto (-57), 3) := by decide +kernel
theorem dL_digest_93 : decode cL_digest 93 = .ok (.iconst 0, 1) := by decide +kernel
theorem dL_digest_94 : decode cL_digest 94 = .ok (.istore_n 3, 1) := by decide +kernel
theorem dL_digest_95 : decode cL_digest 95 = .ok (.iload_n 3, 1) := by decide +kernel
theorem dL_digest_96 : decode cL_digest 96 = .ok (.bipush 12, 2) := by decide +kernel
theorem dL_digest_98 : decode cL_digest 98 = .ok (.if_icmp .ge 37, 3) := by decide +kernel
theorem dL_digest_101 : decode cL_digest 101 = .ok (.ldc2_w 10, 3) := by decide +kernel
theorem dL_digest_104 : decode cL_digest 104 = .ok (.lload_n 1, 1) := by decide +kernel
theorem dL_digest_105 : decode cL_digest 105 = .ok (.lmul, 1) := by decide +kernel
theorem dL_digest_106 : decode cL_digest 106 = .ok (.aload_n 0, 1) := by decide +kernel
theorem dL_digest_107 : decode cL_digest 107 = .ok (.iload_n 3, 1) := by decide +kernel
theorem dL_digest_108 : decode cL_digest 108 = .ok (.iconst 0, 1) := by decide +kernel
theorem dL_digest_109 : decode cL_digest 109 = .ok (.invokevirtual 22, 3) := by decide +kernel
theorem dL_digest_112 : decode cL_digest 112 = .ok (.i2l, 1) := by decide +kernel
theorem dL_digest_113 : decode cL_digest 113 = .ok (.ladd, 1) := by decide +kernel
theorem dL_digest_114 : decode cL_digest 114 = .ok (.lstore_n 1, 1) := by decide +kernel
theorem dL_digest_115 : decode cL_digest 115 = .ok (.ldc2_w 10, 3) := by decide +kernel
theorem dL_digest_118 : decode cL_digest 118 = .ok (.lload_n 1, 1) := by decide +kernel
theorem dL_digest_119 : decode cL_digest 119 = .ok (.lmul, 1) := by decide +kernel
theorem dL_digest_120 : decode cL_digest 120 = .ok (.aload_n 0, 1) := by decide +kernel
theorem dL_digest_121 : decode cL_digest 121 = .ok (.iload_n 3, 1) := by decide +kernel
theorem dL_digest_122 : decode cL_digest 122 = .ok (.iconst 3, 1) := by decide +kernel
theorem dL_digest_123 : decode cL_digest 123 = .ok (.invokevirtual 22, 3) := by decide +kernel
theorem dL_digest_126 : decode cL_digest 126 = .ok (.i2l, 1) := by decide +kernel
theorem dL_digest_127 : decode cL_digest 127 = .ok (.ladd, 1) := by decide +kernel
theorem dL_digest_128 : decode cL_digest 128 = .ok (.lstore_n 1, 1) := by decide +kernel
theorem dL_digest_129 : decode cL_digest 129 = .ok (.iinc 3 1, 3) := by decide +kernel
theorem dL_digest_132 : decode cL_digest 132 = .ok (.goto (-37), 3) := by decide +kernel
theorem dL_digest_135 : decode cL_digest 135 = .ok (.lload_n 1, 1) := by decide +kernel
theorem dL_digest_136 : decode cL_digest 136 = .ok (.lreturn, 1) := by decide +kernel
set_option maxRecDepth 20000 in
theorem ggL_act_L_low : GoodIn wsL_act wsL_low := goodIn_r _ [4, 5] (by decide +kernel) (by decide +kernel)
set_option maxRecDepth 20000 in
theorem gL_act_L_low : GoodIn wsL_act (va_wsS RL 26 yL_low wsL_low) := goodIn_app (goodIn_of _ (by decide +kernel)) ggL_act_L_low
set_option maxRecDepth 20000 in
theorem ggL_act_X6_paint : GoodIn wsL_act wsX6_paint := goodIn_r _ [10, 11, 12, 13, 14, 15, 9, 16, 17, 18, 19, 20, 21, 22, 23, 24, 25, 26, 27, 28, 29, 30, 31, 32, 33, 34, 35, 36, 37, 38, 39, 40, 41, 42, 43, 44, 45, 46, 47, 48, 49, 50, 51, 52, 53, 54, 55, 56, 57, 58, 59, 60, 61, 62, 63, 64, 65, 66, 67, 68, 69, 70, 71, 72, 73, 74, 75, 76, 77, 78, 79, 80, 81, 82, 83, 84, 85, 86, 87, 88, 89, 90, 91, 92, 93, 94, 95, 300, 301, 302, 303, 304, 305, 306, 307, 308, 309, 310, 311, 312, 313, 314, 315, 316, 317, 318, 319, 320, 321, 322, 323, 324, 325, 326] (by decide +kernel) (by decide +kernel)
set_option maxRecDepth 20000 in
theorem gL_act_X6_paint : GoodIn wsL_act (wsV RL 31 RX6 yX6_paint wsX6_paint) := goodIn_app (goodIn_of _ (by decide +kernel)) ggL_act_X6_paint
set_option maxRecDepth 20000 in
theorem ggL_act_X6_cut : GoodIn wsL_act wsX6_cut := goodIn_r _ [99, 11, 12, 13, 100, 17, 18, 9, 19, 20, 21, 22, 23, 24, 25, 26, 27, 28, 29, 30, 31, 32, 33, 34, 35, 36, 37, 38, 39, 40, 41, 42, 43, 44, 45, 46, 47, 48, 49, 50, 51, 52, 53, 54, 55, 56, 57, 58, 59, 60, 61, 62, 63, 64, 65, 66, 67, 68, 69, 70, 71, 72, 73, 74, 75, 76, 77, 101, 102, 103, 104, 105, 106, 107, 108, 109, 110, 111, 112, 113, 114, 115, 116, 117, 118, 119, 120, 121, 122, 123, 124, 125, 126, 127, 128, 129, 130, 131, 300, 301, 302, 303, 304, 305, 306, 307, 308, 309, 310, 311, 312, 313, 314, 318, 319, 320, 321, 322, 315, 316, 317, 323, 324, 325, 326] (by decide +kernel) (by decide +kernel)
set_option maxRecDepth 20000 in
theorem gL_act_X6_cut : GoodIn wsL_act (wsV RL 35 RX6 yX6_cut wsX6_cut) := goodIn_app (goodIn_of _ (by decide +kernel)) ggL_act_X6_cut
set_option maxRecDepth 20000 in
theorem ggL_act_X6_carve : GoodIn wsL_act wsX6_carve := goodIn_r _ [135, 11, 12, 13, 136, 100, 17, 18, 9, 19, 14, 15, 16, 20, 21, 22, 23, 24, 25, 26, 27, 28, 29, 30, 31, 32, 33, 34, 35, 36, 37, 38, 39, 40, 41, 42, 43, 44, 45, 46, 47, 48, 49, 50, 51, 52, 53, 54, 55, 56, 57, 58, 59, 60, 61, 62, 63, 64, 65, 66, 67, 68, 69, 70, 71, 72, 73, 74, 75, 76, 77, 137, 87, 88, 89, 138, 90, 91, 139, 93, 94, 95, 140, 141, 142, 143, 300, 301, 302, 303, 304, 305, 306, 307, 308, 309, 310, 311, 312, 313, 314, 318, 319, 320, 321, 322, 315, 316, 317, 323, 324, 325, 326] (by decide +kernel) (by decide +kernel)
set_option maxRecDepth 20000 in
theorem gL_act_X6_carve : GoodIn wsL_act (wsV RL 38 RX6 yX6_carve wsX6_carve) := goodIn_app (goodIn_of _ (by decide +kernel)) ggL_act_X6_carve
set_option maxRecDepth 20000 in
theorem ggL_act_X6_setPins : GoodIn wsL_act wsX6_setPins := goodIn_r _ [147, 11, 12, 148, 149, 17, 18, 9, 19, 20, 21, 22, 23, 24, 25, 26, 27, 28, 29, 30, 31, 32, 33, 34, 35, 36, 37, 38, 39, 40, 41, 42, 43, 44, 45, 46, 47, 48, 49, 50, 51, 52, 53, 54, 55, 56, 57, 58, 59, 60, 61, 62, 63, 64, 65, 66, 67, 68, 69, 70, 71, 72, 73, 74, 75, 76, 77, 150, 151, 152, 153, 13, 154, 155, 156, 157, 158, 159, 160, 161, 162, 90, 91, 163, 118, 119, 120, 164, 165, 166, 167, 168, 169, 170, 171, 172, 173, 174, 175, 176, 177, 178, 179, 180, 181, 182, 183, 184, 185, 186, 187, 188, 100, 189, 190, 191, 192, 193, 194, 195, 196, 117, 197, 126, 127, 128, 129, 130, 131, 300, 301, 302, 303, 304, 305, 306, 307, 308, 309, 310, 311, 312, 313, 314, 315, 316, 317, 318, 319, 320, 321, 322, 323, 324, 325, 326] (by decide +kernel) (by decide +kernel)
set_option maxRecDepth 20000 in
theorem gL_act_X6_setPins : GoodIn wsL_act (wsV RL 42 RX6 yX6_setPins wsX6_setPins) := goodIn_app (goodIn_of _ (by decide +kernel)) ggL_act_X6_setPins
set_option maxRecDepth 20000 in
theorem ggL_act_X6_set : GoodIn wsL_act wsX6_set := goodIn_r _ [201, 202, 203, 11, 12, 204, 17, 18, 9, 19, 20, 21, 22, 23, 24, 25, 26, 27, 28, 29, 30, 31, 32, 33, 34, 35, 36, 37, 38, 39, 40, 41, 42, 43, 44, 45, 46, 47, 48, 49, 50, 51, 52, 53, 54, 55, 56, 57, 58, 59, 60, 61, 62, 63, 64, 65, 66, 67, 68, 69, 70, 71, 72, 73, 74, 75, 76, 77, 300, 301, 302, 303, 304, 305, 306, 307, 308, 309, 310, 311, 312, 313, 314, 315, 316, 317, 318, 319, 320, 321, 322, 323, 324, 325, 326] (by decide +kernel) (by decide +kernel)
set_option maxRecDepth 20000 in
theorem gL_act_X6_set : GoodIn wsL_act (wsV RL 45 RX6 yX6_set wsX6_set) := goodIn_app (goodIn_of _ (by decide +kernel)) ggL_act_X6_set
set_option maxRecDepth 20000 in
theorem ggL_act_X6_take : GoodIn wsL_act wsX6_take := goodIn_r _ [208, 11, 12, 13, 17, 18, 9, 19, 20, 21, 22, 23, 24, 25, 26, 27, 28, 29, 30, 31, 32, 33, 34, 35, 36, 37, 38, 39, 40, 41, 42, 43, 44, 45, 46, 47, 48, 49, 50, 51, 52, 53, 54, 55, 56, 57, 58, 59, 60, 61, 62, 63, 64, 65, 66, 67, 68, 69, 70, 71, 72, 73, 74, 75, 76, 77, 209, 210, 211, 212, 213, 214, 215, 216, 217, 218, 219, 220, 221, 122, 123, 124, 125, 126, 127, 128, 129, 130, 131, 300, 301, 302, 303, 304, 305, 306, 307, 308, 309, 310, 311, 312, 313, 314, 315, 316, 317, 318, 319, 320, 321, 322, 323, 324, 325, 326] (by decide +kernel) (by decide +kernel)
set_option maxRecDepth 20000 in
theorem gL_act_X6_take : GoodIn wsL_act (wsV RL 48 RX6 yX6_take wsX6_take) := goodIn_app (goodIn_of _ (by decide +kernel)) ggL_act_X6_take
set_option maxRecDepth 20000 in
theorem ggL_act_X6_restore : GoodIn wsL_act wsX6_restore := goodIn_r _ [225, 12, 11, 13, 17, 18, 9, 19, 226, 227, 228, 35, 229, 49, 50, 20, 21, 22, 23, 24, 25, 26, 27, 28, 29, 30, 31, 32, 33, 34, 36, 37, 38, 39, 40, 41, 42, 43, 44, 45, 46, 47, 48, 51, 52, 53, 54, 55, 56, 57, 58, 59, 60, 61, 62, 63, 64, 65, 66, 67, 68, 69, 70, 71, 72, 73, 74, 75, 76, 77, 230, 231, 232, 233, 213, 214, 215, 216, 217, 218, 219, 220, 221, 122, 123, 124, 125, 126, 127, 128, 129, 130, 131, 300, 301, 302, 303, 304, 305, 306, 307, 308, 309, 310, 311, 312, 313, 314, 315, 316, 317, 318, 319, 320, 321, 322, 323, 324, 325, 326] (by decide +kernel) (by decide +kernel)
set_option maxRecDepth 20000 in
theorem gL_act_X6_restore : GoodIn wsL_act (wsV RL 51 RX6 yX6_restore wsX6_restore) := goodIn_app (goodIn_of _ (by decide +kernel)) ggL_act_X6_restore
set_option maxRecDepth 20000 in
theorem ggL_act_X6_plug : GoodIn wsL_act wsX6_plug := goodIn_r _ [237, 12, 13, 11, 14, 15, 9, 16, 155, 156, 157, 35, 158, 38, 238, 239, 240, 54, 241, 58, 86, 87, 88, 65, 89, 67, 242, 243, 244, 245, 60, 20, 21, 22, 23, 24, 25, 26, 27, 28, 29, 30, 31, 32, 33, 34, 36, 37, 39, 40, 41, 42, 43, 44, 45, 46, 47, 48, 49, 50, 51, 52, 53, 55, 56, 57, 59, 61, 62, 63, 64, 66, 68, 69, 70, 71, 72, 73, 74, 75, 76, 77, 140, 141, 142, 143, 246, 247, 248, 249, 136, 154, 150, 151, 152, 153, 159, 160, 161, 162, 90, 91, 163, 118, 119, 120, 164, 165, 166, 167, 168, 121, 122, 123, 124, 125, 126, 127, 128, 129, 130, 131, 300, 301, 302, 303, 304, 305, 306, 307, 308, 309, 310, 311, 312, 313, 314, 318, 319, 320, 321, 322, 323, 315, 316, 317, 324, 325, 326] (by decide +kernel) (by decide +kernel)
set_option maxRecDepth 20000 in
theorem gL_act_X6_plug : GoodIn wsL_act (wsV RL 54 RX6 yX6_plug wsX6_plug) := goodIn_app (goodIn_of _ (by decide +kernel)) ggL_act_X6_plug
set_option maxRecDepth 20000 in
theorem ggL_act_X6_print : GoodIn wsL_act wsX6_print := goodIn_r _ [253, 12, 254, 11, 17, 18, 9, 19, 20, 21, 22, 23, 24, 25, 26, 27, 28, 29, 30, 31, 32, 33, 34, 35, 36, 37, 38, 39, 40, 41, 42, 43, 44, 45, 46, 47, 48, 49, 50, 51, 52, 53, 54, 55, 56, 57, 58, 59, 60, 61, 62, 63, 64, 65, 66, 67, 68, 69, 70, 71, 72, 73, 74, 75, 76, 77, 255, 256, 257, 258, 259, 13, 154, 150, 151, 152, 153, 155, 156, 157, 158, 159, 160, 161, 162, 90, 91, 163, 118, 119, 120, 164, 165, 166, 167, 168, 169, 170, 171, 172, 173, 174, 175, 176, 177, 178, 179, 180, 181, 182, 183, 184, 185, 186, 187, 188, 100, 189, 190, 191, 192, 193, 194, 195, 196, 117, 197, 126, 127, 128, 129, 130, 131, 260, 261, 262, 263, 264, 265, 266, 267, 268, 269, 270, 271, 272, 273, 274, 275, 276, 277, 278, 279, 280, 281, 282, 283, 284, 86, 87, 88, 89, 15, 16, 285, 286, 287, 288, 289, 290, 291, 292, 293, 294, 295, 296, 297, 298, 299, 300, 301, 302, 303, 304, 305, 306, 307, 308, 309, 310, 311, 312, 313, 314, 315, 316, 317, 318, 319, 320, 321, 322, 323, 324, 325, 326] (by decide +kernel) (by decide +kernel)
set_option maxRecDepth 20000 in
theorem gL_act_X6_print : GoodIn wsL_act (wsV RL 57 RX6 yX6_print wsX6_print) := goodIn_app (goodIn_of _ (by decide +kernel)) ggL_act_X6_print
theorem dL_act_0 : decode cL_act 0 = .ok (.iload_n 1, 1) := by decide +kernel
theorem dL_act_1 : decode cL_act 1 = .ok (.iconst 4, 1) := by decide +kernel
theorem dL_act_2 : decode cL_act 2 = .ok (.ishr, 1) := by decide +kernel
theorem dL_act_3 : decode cL_act 3 = .ok (.bipush 16, 2) := by decide +kernel
theorem dL_act_5 : decode cL_act 5 = .ok (.invokestatic 26, 3) := by decide +kernel
theorem dL_act_8 : decode cL_act 8 = .ok (.istore_n 2, 1) := by decide +kernel
theorem dL_act_9 : decode cL_act 9 = .ok (.iload_n 1, 1) := by decide +kernel
theorem dL_act_10 : decode cL_act 10 = .ok (.bipush 8, 2) := by decide +kernel
theorem dL_act_12 : decode cL_act 12 = .ok (.ishr, 1) := by decide +kernel
theorem dL_act_13 : decode cL_act 13 = .ok (.bipush 12, 2) := by decide +kernel
theorem dL_act_15 : decode cL_act 15 = .ok (.invokestatic 26, 3) := by decide +kernel
theorem dL_act_18 : decode cL_act 18 = .ok (.istore_n 3, 1) := by decide +kernel
theorem dL_act_19 : decode cL_act 19 = .ok (.iload_n 1, 1) := by decide +kernel
theorem dL_act_20 : decode cL_act 20 = .ok (.bipush 15, 2) := by decide +kernel
theorem dL_act_22 : decode cL_act 22 = .ok (.iand, 1) := by decide +kernel
theorem dL_act_23 : decode cL_act 23 = .ok (.tableswitch 258 0 14 #[73, 73, 73, 73, 114, 114, 127, 127, 146, 173, 188, 212, 229, 240, 251], 73) := by decide +kernel
theorem dL_act_96 : decode cL_act 96 = .ok (.aload_n 0, 1) := by decide +kernel
theorem dL_act_97 : decode cL_act 97 = .ok (.iload_n 2, 1) := by decide +kernel
theorem dL_act_98 : decode cL_act 98 = .ok (.iload_n 3, 1) := by decide +kernel
theorem dL_act_99 : decode cL_act 99 = .ok (.iconst 1, 1) := by decide +kernel
theorem dL_act_100 : decode cL_act 100 = .ok (.iload_n 1, 1) := by decide +kernel
theorem dL_act_101 : decode cL_act 101 = .ok (.bipush 12, 2) := by decide +kernel
theorem dL_act_103 : decode cL_act 103 = .ok (.ishr, 1) := by decide +kernel
theorem dL_act_104 : decode cL_act 104 = .ok (.bipush 16, 2) := by decide +kernel
theorem dL_act_106 : decode cL_act 106 = .ok (.iload_n 2, 1) := by decide +kernel
theorem dL_act_107 : decode cL_act 107 = .ok (.isub, 1) := by decide +kernel
theorem dL_act_108 : decode cL_act 108 = .ok (.invokestatic 26, 3) := by decide +kernel
theorem dL_act_111 : decode cL_act 111 = .ok (.iadd, 1) := by decide +kernel
theorem dL_act_112 : decode cL_act 112 = .ok (.iconst 1, 1) := by decide +kernel
theorem dL_act_113 : decode cL_act 113 = .ok (.iload_n 1, 1) := by decide +kernel
theorem dL_act_114 : decode cL_act 114 = .ok (.bipush 16, 2) := by decide +kernel
theorem dL_act_116 : decode cL_act 116 = .ok (.ishr, 1) := by decide +kernel
theorem dL_act_117 : decode cL_act 117 = .ok (.bipush 12, 2) := by decide +kernel
theorem dL_act_119 : decode cL_act 119 = .ok (.iload_n 3, 1) := by decide +kernel
theorem dL_act_120 : decode cL_act 120 = .ok (.isub, 1) := by decide +kernel
theorem dL_act_121 : decode cL_act 121 = .ok (.invokestatic 26, 3) := by decide +kernel
theorem dL_act_124 : decode cL_act 124 = .ok (.iadd, 1) := by decide +kernel
theorem dL_act_125 : decode cL_act 125 = .ok (.iload_n 1, 1) := by decide +kernel
theorem dL_act_126 : decode cL_act 126 = .ok (.bipush 20, 2) := by decide +kernel
theorem dL_act_128 : decode cL_act 128 = .ok (.ishr, 1) := by decide +kernel
theorem dL_act_129 : decode cL_act 129 = .ok (.iconst 3, 1) := by decide +kernel
theorem dL_act_130 : decode cL_act 130 = .ok (.invokestatic 26, 3) := by decide +kernel
theorem dL_act_133 : decode cL_act 133 = .ok (.invokevirtual 31, 3) := by decide +kernel
theorem dL_act_136 : decode cL_act 136 = .ok (.ireturn, 1) := by decide +kernel
theorem dL_act_137 : decode cL_act 137 = .ok (.aload_n 0, 1) := by decide +kernel
theorem dL_act_138 : decode cL_act 138 = .ok (.iload_n 1, 1) := by decide +kernel
theorem dL_act_139 : decode cL_act 139 = .ok (.bipush 9, 2) := by decide +kernel
theorem dL_act_141 : decode cL_act 141 = .ok (.ishr, 1) := by decide +kernel
theorem dL_act_142 : decode cL_act 142 = .ok (.iconst 5, 1) := by decide +kernel
theorem dL_act_143 : decode cL_act 143 = .ok (.invokestatic 26, 3) := by decide +kernel
theorem dL_act_146 : decode cL_act 146 = .ok (.invokevirtual 35, 3) := by decide +kernel
theorem dL_act_149 : decode cL_act 149 = .ok (.ireturn, 1) := by decide +kernel
theorem dL_act_150 : decode cL_act 150 = .ok (.aload_n 0, 1) := by decide +kernel
theorem dL_act_151 : decode cL_act 151 = .ok (.iload_n 1, 1) := by decide +kernel
theorem dL_act_152 : decode cL_act 152 = .ok (.bipush 12, 2) := by decide +kernel
theorem dL_act_154 : decode cL_act 154 = .ok (.ishr, 1) := by decide +kernel
theorem dL_act_155 : decode cL_act 155 = .ok (.iconst 1, 1) := by decide +kernel
theorem dL_act_156 : decode cL_act 156 = .ok (.iand, 1) := by decide +kernel
theorem dL_act_157 : decode cL_act 157 = .ok (.iload_n 2, 1) := by decide +kernel
theorem dL_act_158 : decode cL_act 158 = .ok (.iload_n 3, 1) := by decide +kernel
theorem dL_act_159 : decode cL_act 159 = .ok (.iload_n 1, 1) := by decide +kernel
theorem dL_act_160 : decode cL_act 160 = .ok (.bipush 13, 2) := by decide +kernel
theorem dL_act_162 : decode cL_act 162 = .ok (.ishr, 1) := by decide +kernel
theorem dL_act_163 : decode cL_act 163 = .ok (.iconst 1, 1) := by decide +kernel
theorem dL_act_164 : decode cL_act 164 = .ok (.iand, 1) := by decide +kernel
theorem dL_act_165 : decode cL_act 165 = .ok (.invokevirtual 38, 3) := by decide +kernel
theorem dL_act_168 : decode cL_act 168 = .ok (.ireturn, 1) := by decide +kernel
theorem dL_act_169 : decode cL_act 169 = .ok (.aload_n 0, 1) := by decide +kernel
theorem dL_act_170 : decode cL_act 170 = .ok (.iload_n 1, 1) := by decide +kernel
theorem dL_act_171 : decode cL_act 171 = .ok (.bipush 9, 2) := by decide +kernel
theorem dL_act_173 : decode cL_act 173 = .ok (.ishr, 1) := by decide +kernel
theorem dL_act_174 : decode cL_act 174 = .ok (.bipush 9, 2) := by decide +kernel
theorem dL_act_176 : decode cL_act 176 = .ok (.invokestatic 26, 3) := by decide +kernel
theorem dL_act_179 : decode cL_act 179 = .ok (.iconst 4, 1) := by decide +kernel
theorem dL_act_180 : decode cL_act 180 = .ok (.isub, 1) := by decide +kernel
theorem dL_act_181 : decode cL_act 181 = .ok (.iload_n 1, 1) := by decide +kernel
theorem dL_act_182 : decode cL_act 182 = .ok (.bipush 13, 2) := by decide +kernel
theorem dL_act_184 : decode cL_act 184 = .ok (.ishr, 1) := by decide +kernel
theorem dL_act_185 : decode cL_act 185 = .ok (.bipush 9, 2) := by decide +kernel
theorem dL_act_187 : decode cL_act 187 = .ok (.invokestatic 26, 3) := by decide +kernel
theorem dL_act_190 : decode cL_act 190 = .ok (.iconst 4, 1) := by decide +kernel
theorem dL_act_191 : decode cL_act 191 = .ok (.isub, 1) := by decide +kernel
theorem dL_act_192 : decode cL_act 192 = .ok (.invokevirtual 42, 3) := by decide +kernel
theorem dL_act_195 : decode cL_act 195 = .ok (.ireturn, 1) := by decide +kernel
theorem dL_act_196 : decode cL_act 196 = .ok (.aload_n 0, 1) := by decide +kernel
theorem dL_act_197 : decode cL_act 197 = .ok (.iconst 0, 1) := by decide +kernel
theorem dL_act_198 : decode cL_act 198 = .ok (.iload_n 1, 1) := by decide +kernel
theorem dL_act_199 : decode cL_act 199 = .ok (.bipush 9, 2) := by decide +kernel
theorem dL_act_201 : decode cL_act 201 = .ok (.ishr, 1) := by decide +kernel
theorem dL_act_202 : decode cL_act 202 = .ok (.bipush 101, 2) := by decide +kernel
theorem dL_act_204 : decode cL_act 204 = .ok (.invokestatic 26, 3) := by decide +kernel
theorem dL_act_207 : decode cL_act 207 = .ok (.invokevirtual 45, 3) := by decide +kernel
theorem dL_act_210 : decode cL_act 210 = .ok (.ireturn, 1) := by decide +kernel
theorem dL_act_211 : decode cL_act 211 = .ok (.aload_n 0, 1) := by decide +kernel
theorem dL_act_212 : decode cL_act 212 = .ok (.iconst 1, 1) := by decide +kernel
theorem dL_act_213 : decode cL_act 213 = .ok (.iload_n 1, 1) := by decide +kernel
theorem dL_act_214 : decode cL_act 214 = .ok (.bipush 12, 2) := by decide +kernel
theorem dL_act_216 : decode cL_act 216 = .ok (.ishr, 1) := by decide +kernel
theorem dL_act_217 : decode cL_act 217 = .ok (.iconst 1, 1) := by decide +kernel
theorem dL_act_218 : decode cL_act 218 = .ok (.iand, 1) := by decide +kernel
theorem dL_act_219 : decode cL_act 219 = .ok (.iadd, 1) := by decide +kernel
theorem dL_act_220 : decode cL_act 220 = .ok (.iload_n 1, 1) := by decide +kernel
theorem dL_act_221 : decode cL_act 221 = .ok (.bipush 13, 2) := by decide +kernel
theorem dL_act_223 : decode cL_act 223 = .ok (.ishr, 1) := by decide +kernel
theorem dL_act_224 : decode cL_act 224 = .ok (.bipush 9, 2) := by decide +kernel
theorem dL_act_226 : decode cL_act 226 = .ok (.invokestatic 26, 3) := by decide +kernel
theorem dL_act_229 : decode cL_act 229 = .ok (.iconst 4, 1) := by decide +kernel
theorem dL_act_230 : decode cL_act 230 = .ok (.isub, 1) := by decide +kernel
theorem dL_act_231 : decode cL_act 231 = .ok (.invokevirtual 45, 3) := by decide +kernel
theorem dL_act_234 : decode cL_act 234 = .ok (.ireturn, 1) := by decide +kernel
theorem dL_act_235 : decode cL_act 235 = .ok (.aload_n 0, 1) := by decide +kernel
theorem dL_act_236 : decode cL_act 236 = .ok (.iconst 3, 1) := by decide +kernel
theorem dL_act_237 : decode cL_act 237 = .ok (.iconst 1, 1) := by decide +kernel
theorem dL_act_238 : decode cL_act 238 = .ok (.iload_n 1, 1) := by decide +kernel
theorem dL_act_239 : decode cL_act 239 = .ok (.bipush 9, 2) := by decide +kernel
theorem dL_act_241 : decode cL_act 241 = .ok (.ishr, 1) := by decide +kernel
theorem dL_act_242 : decode cL_act 242 = .ok (.bipush 9, 2) := by decide +kernel
theorem dL_act_244 : decode cL_act 244 = .ok (.invokestatic 26, 3) := by decide +kernel
theorem dL_act_247 : decode cL_act 247 = .ok (.iadd, 1) := by decide +kernel
theorem dL_act_248 : decode cL_act 248 = .ok (.invokevirtual 45, 3) := by decide +kernel
theorem dL_act_251 : decode cL_act 251 = .ok (.ireturn, 1) := by decide +kernel
theorem dL_act_252 : decode cL_act 252 = .ok (.aload_n 0, 1) := by decide +kernel
theorem dL_act_253 : decode cL_act 253 = .ok (.iload_n 1, 1) := by decide +kernel
theorem dL_act_254 : decode cL_act 254 = .ok (.bipush 9, 2) := by decide +kernel
theorem dL_act_256 : decode cL_act 256 = .ok (.ishr, 1) := by decide +kernel
theorem dL_act_257 : decode cL_act 257 = .ok (.iconst 1, 1) := by decide +kernel
theorem dL_act_258 : decode cL_act 258 = .ok (.iand, 1) := by decide +kernel
theorem dL_act_259 : decode cL_act 259 = .ok (.invokevirtual 48, 3) := by decide +kernel
theorem dL_act_262 : decode cL_act 262 = .ok (.ireturn, 1) := by decide +kernel
theorem dL_act_263 : decode cL_act 263 = .ok (.aload_n 0, 1) := by decide +kernel
theorem dL_act_264 : decode cL_act 264 = .ok (.iload_n 1, 1) := by decide +kernel
theorem dL_act_265 : decode cL_act 265 = .ok (.bipush 9, 2) := by decide +kernel
theorem dL_act_267 : decode cL_act 267 = .ok (.ishr, 1) := by decide +kernel
theorem dL_act_268 : decode cL_act 268 = .ok (.iconst 1, 1) := by decide +kernel
theorem dL_act_269 : decode cL_act 269 = .ok (.iand, 1) := by decide +kernel
theorem dL_act_270 : decode cL_act 270 = .ok (.invokevirtual 51, 3) := by decide +kernel
theorem dL_act_273 : decode cL_act 273 = .ok (.ireturn, 1) := by decide +kernel
theorem dL_act_274 : decode cL_act 274 = .ok (.aload_n 0, 1) := by decide +kernel
theorem dL_act_275 : decode cL_act 275 = .ok (.iload_n 2, 1) := by decide +kernel
theorem dL_act_276 : decode cL_act 276 = .ok (.iload_n 3, 1) := by decide +kernel
theorem dL_act_277 : decode cL_act 277 = .ok (.invokevirtual 54, 3) := by decide +kernel
theorem dL_act_280 : decode cL_act 280 = .ok (.ireturn, 1) := by decide +kernel
theorem dL_act_281 : decode cL_act 281 = .ok (.aload_n 0, 1) := by decide +kernel
theorem dL_act_282 : decode cL_act 282 = .ok (.iconst 1, 1) := by decide +kernel
theorem dL_act_283 : decode cL_act 283 = .ok (.iload_n 1, 1) := by decide +kernel
theorem dL_act_284 : decode cL_act 284 = .ok (.bipush 9, 2) := by decide +kernel
theorem dL_act_286 : decode cL_act 286 = .ok (.ishr, 1) := by decide +kernel
theorem dL_act_287 : decode cL_act 287 = .ok (.iconst 3, 1) := by decide +kernel
theorem dL_act_288 : decode cL_act 288 = .ok (.invokestatic 26, 3) := by decide +kernel
theorem dL_act_291 : decode cL_act 291 = .ok (.iadd, 1) := by decide +kernel
theorem dL_act_292 : decode cL_act 292 = .ok (.invokevirtual 57, 3) := by decide +kernel
theorem dL_act_295 : decode cL_act 295 = .ok (.ireturn, 1) := by decide +kernel
set_option maxRecDepth 20000 in
theorem ggL_isRight_X6_count : GoodIn wsL_isRight wsX6_count := goodIn_r _ [5, 6, 7, 8, 9, 10, 11, 12, 13, 14, 15, 16, 17, 18, 19, 20, 21, 22, 23, 24, 25, 26, 27, 28, 29, 30, 31, 32, 33, 34, 35, 36, 37, 38, 39, 40, 41, 42, 43, 44, 45, 46, 47, 48, 49, 50, 51, 52, 53, 54, 55, 56, 57, 58, 59, 60, 61, 62, 4, 63, 64, 65, 66, 67, 68, 69, 70, 71, 72, 73, 74, 75, 76, 77, 78, 79, 80, 81, 82, 83, 84, 85, 86, 87, 88, 89, 90, 91, 92, 93, 94, 95, 96, 97, 98, 99, 100, 101, 102, 103, 104, 105, 106, 107, 108, 109, 110, 111, 112, 113, 194, 195, 196, 197, 198, 199, 200, 201, 202, 203, 204, 205, 206, 207, 208, 209, 210, 211, 212, 213, 214, 215, 216, 217, 218, 219, 220, 221, 222, 223, 224, 225, 226] (by decide +kernel) (by decide +kernel)
set_option maxRecDepth 20000 in
theorem gL_isRight_X6_count : GoodIn wsL_isRight (wsV RL 12 RX6 yX6_count wsX6_count) := goodIn_app (goodIn_of _ (by decide +kernel)) ggL_isRight_X6_count
set_option maxRecDepth 20000 in
theorem ggL_isRight_X6_why : GoodIn wsL_isRight wsX6_why := goodIn_r _ [117, 6, 11, 64, 118, 119, 4, 120, 65, 66, 67, 68, 69, 70, 71, 22, 72, 29, 73, 74, 75, 42, 76, 77, 78, 79, 80, 81, 82, 83, 49, 84, 51, 85, 86, 87, 88, 89, 121, 122, 123, 124, 45, 44, 125, 126, 127, 128, 129, 19, 20, 21, 23, 24, 25, 26, 27, 28, 30, 31, 32, 33, 34, 35, 36, 37, 38, 130, 131, 132, 133, 15, 134, 135, 136, 137, 138, 139, 140, 141, 194, 195, 196, 197, 198, 199, 200, 201, 202, 203, 204, 205, 206, 207, 208, 209, 210, 211, 212, 213, 214] (by decide +kernel) (by decide +kernel)
set_option maxRecDepth 20000 in
theorem gL_isRight_X6_why : GoodIn wsL_isRight (wsV RL 60 RX6 yX6_why wsX6_why) := goodIn_app (goodIn_of _ (by decide +kernel)) ggL_isRight_X6_why
set_option maxRecDepth 20000 in
theorem ggL_isRight_X6_cell : GoodIn wsL_isRight wsX6_cell := goodIn_r _ [145, 6, 11, 14, 15, 118, 119, 4, 120, 121, 122, 123, 42, 124, 45, 44, 125, 126, 127, 49, 128, 51, 129, 146, 79, 80, 147, 139, 140, 141, 77, 69, 70, 71, 22, 72, 29, 134, 135, 136, 137, 78, 138, 194, 195, 196, 197, 198, 199, 200, 201, 202, 203, 204, 205, 206, 207, 208, 209, 210, 211, 212, 213, 214] (by decide +kernel) (by decide +kernel)
set_option maxRecDepth 20000 in
theorem gL_isRight_X6_cell : GoodIn wsL_isRight (wsV RL 18 RX6 yX6_cell wsX6_cell) := goodIn_app (goodIn_of _ (by decide +kernel)) ggL_isRight_X6_cell
set_option maxRecDepth 20000 in
theorem ggL_isRight_X6_printed : GoodIn wsL_isRight wsX6_printed := goodIn_r _ [151, 64, 118, 119, 4, 120, 152, 153, 154, 155, 156, 157, 65, 66, 67, 68, 6, 11, 69, 70, 71, 22, 72, 29, 73, 74, 75, 42, 76, 77, 78, 79, 80, 81, 82, 83, 49, 84, 51, 85, 86, 87, 88, 89, 130, 131, 132, 133, 15, 129, 126, 127, 128, 146, 194, 195, 196, 197, 198, 199, 200, 201, 202, 203, 204, 205, 206, 207, 208, 209, 210, 211, 212, 213, 214] (by decide +kernel) (by decide +kernel)
set_option maxRecDepth 20000 in
theorem gL_isRight_X6_printed : GoodIn wsL_isRight (wsV RL 63 RX6 yX6_printed wsX6_printed) := goodIn_app (goodIn_of _ (by decide +kernel)) ggL_isRight_X6_printed
set_option maxRecDepth 20000 in
theorem ggL_isRight_X6_faults : GoodIn wsL_isRight wsX6_faults := goodIn_r _ [161, 6, 11, 64, 152, 153, 4, 154, 155, 156, 157, 65, 66, 67, 68, 69, 70, 71, 22, 72, 29, 73, 74, 75, 42, 76, 77, 78, 79, 80, 81, 82, 83, 49, 84, 51, 85, 86, 87, 88, 89, 162, 163, 164, 165, 15, 166, 167, 168, 169, 44, 45, 170, 171, 172, 173, 174, 175, 53, 54, 55, 56, 57, 58, 176, 177, 178, 179, 180, 181, 182, 183, 184, 185, 186, 187, 194, 195, 196, 197, 198, 199, 200, 201, 202, 203, 204, 205, 206, 207, 208, 209, 210, 211, 212, 213, 214] (by decide +kernel) (by decide +kernel)
set_option maxRecDepth 20000 in
theorem gL_isRight_X6_faults : GoodIn wsL_isRight (wsV RL 66 RX6 yX6_faults wsX6_faults) := goodIn_app (goodIn_of _ (by decide +kernel)) ggL_isRight_X6_faults
set_option maxRecDepth 20000 in
theorem ggL_isRight_X6_bestPins : GoodIn wsL_isRight wsX6_bestPins := goodIn_r _ [191, 6, 155, 156, 4, 157, 65, 66, 67, 68, 11, 64, 69, 70, 71, 22, 72, 29, 73, 74, 75, 42, 76, 77, 78, 79, 80, 81, 82, 83, 49, 84, 51, 85, 86, 87, 88, 89, 192, 26, 27, 28, 193, 36, 37, 38, 162, 163, 164, 165, 15, 166, 167, 168, 169, 44, 45, 170, 171, 172, 173, 174, 175, 53, 54, 55, 56, 57, 58, 176, 177, 178, 179, 180, 181, 182, 183, 194, 195, 196, 197, 198, 199, 200, 201, 202, 203, 204, 205, 206, 207, 208, 209, 210, 211, 212, 213, 214] (by decide +kernel) (by decide +kernel)
set_option maxRecDepth 20000 in
theorem gL_isRight_X6_bestPins : GoodIn wsL_isRight (wsV RL 69 RX6 yX6_bestPins wsX6_bestPins) := goodIn_app (goodIn_of _ (by decide +kernel)) ggL_isRight_X6_bestPins
theorem dL_isRight_0 : decode cL_isRight 0 = .ok (.aload_n 0, 1) := by decide +kernel
theorem dL_isRight_1 : decode cL_isRight 1 = .ok (.bipush 8, 2) := by decide +kernel
theorem dL_isRight_3 : decode cL_isRight 3 = .ok (.invokevirtual 12, 3) := by decide +kernel
theorem dL_isRight_6 : decode cL_isRight 6 = .ok (.istore_n 1, 1) := by decide +kernel
theorem dL_isRight_7 : decode cL_isRight 7 = .ok (.aload_n 0, 1) := by decide +kernel
theorem dL_isRight_8 : decode cL_isRight 8 = .ok (.bipush 9, 2) := by decide +kernel
theorem dL_isRight_10 : decode cL_isRight 10 = .ok (.invokevirtual 12, 3) := by decide +kernel
theorem dL_isRight_13 : decode cL_isRight 13 = .ok (.istore_n 2, 1) := by decide +kernel
theorem dL_isRight_14 : decode cL_isRight 14 = .ok (.iconst 0, 1) := by decide +kernel
theorem dL_isRight_15 : decode cL_isRight 15 = .ok (.istore_n 3, 1) := by decide +kernel
theorem dL_isRight_16 : decode cL_isRight 16 = .ok (.iconst 0, 1) := by decide +kernel
theorem dL_isRight_17 : decode cL_isRight 17 = .ok (.istore 4, 2) := by decide +kernel
theorem dL_isRight_19 : decode cL_isRight 19 = .ok (.iconst 0, 1) := by decide +kernel
theorem dL_isRight_20 : decode cL_isRight 20 = .ok (.istore 5, 2) := by decide +kernel
theorem dL_isRight_22 : decode cL_isRight 22 = .ok (.iconst 0, 1) := by decide +kernel
theorem dL_isRight_23 : decode cL_isRight 23 = .ok (.istore 6, 2) := by decide +kernel
theorem dL_isRight_25 : decode cL_isRight 25 = .ok (.iconst 0, 1) := by decide +kernel
theorem dL_isRight_26 : decode cL_isRight 26 = .ok (.istore 7, 2) := by decide +kernel
theorem dL_isRight_28 : decode cL_isRight 28 = .ok (.iload 7, 2) := by decide +kernel
theorem dL_isRight_30 : decode cL_isRight 30 = .ok (.bipush 12, 2) := by decide +kernel
theorem dL_isRight_32 : decode cL_isRight 32 = .ok (.if_icmp .ge 248, 3) := by decide +kernel
theorem dL_isRight_35 : decode cL_isRight 35 = .ok (.iconst 0, 1) := by decide +kernel
theorem dL_isRight_36 : decode cL_isRight 36 = .ok (.istore 8, 2) := by decide +kernel
theorem dL_isRight_38 : decode cL_isRight 38 = .ok (.iload 8, 2) := by decide +kernel
theorem dL_isRight_40 : decode cL_isRight 40 = .ok (.bipush 16, 2) := by decide +kernel
theorem dL_isRight_42 : decode cL_isRight 42 = .ok (.if_icmp .ge 232, 3) := by decide +kernel
theorem dL_isRight_45 : decode cL_isRight 45 = .ok (.aload_n 0, 1) := by decide +kernel
theorem dL_isRight_46 : decode cL_isRight 46 = .ok (.iload 8, 2) := by decide +kernel
theorem dL_isRight_48 : decode cL_isRight 48 = .ok (.iload 7, 2) := by decide +kernel
theorem dL_isRight_50 : decode cL_isRight 50 = .ok (.invokevirtual 60, 3) := by decide +kernel
theorem dL_isRight_53 : decode cL_isRight 53 = .ok (.istore 9, 2) := by decide +kernel
theorem dL_isRight_55 : decode cL_isRight 55 = .ok (.aload_n 0, 1) := by decide +kernel
theorem dL_isRight_56 : decode cL_isRight 56 = .ok (.iload 8, 2) := by decide +kernel
theorem dL_isRight_58 : decode cL_isRight 58 = .ok (.iload 7, 2) := by decide +kernel
theorem dL_isRight_60 : decode cL_isRight 60 = .ok (.iconst 0, 1) := by decide +kernel
theorem dL_isRight_61 : decode cL_isRight 61 = .ok (.invokevirtual 18, 3) := by decide +kernel
theorem dL_isRight_64 : decode cL_isRight 64 = .ok (.istore 10, 2) := by decide +kernel
theorem dL_isRight_66 : decode cL_isRight 66 = .ok (.aload_n 0, 1) := by decide +kernel
theorem dL_isRight_67 : decode cL_isRight 67 = .ok (.iload 8, 2) := by decide +kernel
theorem dL_isRight_69 : decode cL_isRight 69 = .ok (.iload 7, 2) := by decide +kernel
theorem dL_isRight_71 : decode cL_isRight 71 = .ok (.iload_n 1, 1) := by decide +kernel
theorem dL_isRight_72 : decode cL_isRight 72 = .ok (.iload_n 2, 1) := by decide +kernel
theorem dL_isRight_73 : decode cL_isRight 73 = .ok (.invokevirtual 63, 3) := by decide +kernel
theorem dL_isRight_76 : decode cL_isRight 76 = .ok (.istore 11, 2) := by decide +kernel
theorem dL_isRight_78 : decode cL_isRight 78 = .ok (.iload_n 3, 1) := by decide +kernel
theorem dL_isRight_79 : decode cL_isRight 79 = .ok (.iload 9, 2) := by decide +kernel
theorem dL_isRight_81 : decode cL_isRight 81 = .ok (.iconst 1, 1) := by decide +kernel
theorem dL_isRight_82 : decode cL_isRight 82 = .ok (.if_icmp .eq 9, 3) := by decide +kernel
theorem dL_isRight_85 : decode cL_isRight 85 = .ok (.iload 9, 2) := by decide +kernel
theorem dL_isRight_87 : decode cL_isRight 87 = .ok (.iconst 2, 1) := by decide +kernel
theorem dL_isRight_88 : decode cL_isRight 88 = .ok (.if_icmp .ne 7, 3) := by decide +kernel
theorem dL_isRight_91 : decode cL_isRight 91 = .ok (.iconst 1, 1) := by decide +kernel
theorem dL_isRight_92 : decode cL_isRight 92 = .ok (.goto 4, 3) := by decide +kernel
theorem dL_isRight_95 : decode cL_isRight 95 = .ok (.iconst 0, 1) := by decide +kernel
theorem dL_isRight_96 : decode cL_isRight 96 = .ok (.iadd, 1) := by decide +kernel
theorem dL_isRight_97 : decode cL_isRight 97 = .ok (.istore_n 3, 1) := by decide +kernel
theorem dL_isRight_98 : decode cL_isRight 98 = .ok (.iload 4, 2) := by decide +kernel
theorem dL_isRight_100 : decode cL_isRight 100 = .ok (.iload 9, 2) := by decide +kernel
theorem dL_isRight_102 : decode cL_isRight 102 = .ok (.iconst 3, 1) := by decide +kernel
theorem dL_isRight_103 : decode cL_isRight 103 = .ok (.if_icmp .ne 7, 3) := by decide +kernel
theorem dL_isRight_106 : decode cL_isRight 106 = .ok (.iconst 1, 1) := by decide +kernel
theorem dL_isRight_107 : decode cL_isRight 107 = .ok (.goto 4, 3) := by decide +kernel
theorem dL_isRight_110 : decode cL_isRight 110 = .ok (.iconst 0, 1) := by decide +kernel
theorem dL_isRight_111 : decode cL_isRight 111 = .ok (.iadd, 1) := by decide +kernel
theorem dL_isRight_112 : decode cL_isRight 112 = .ok (.istore 4, 2) := by decide +kernel
theorem dL_isRight_114 : decode cL_isRight 114 = .ok (.iload 5, 2) := by decide +kernel
theorem dL_isRight_116 : decode cL_isRight 116 = .ok (.iload 10, 2) := by decide +kernel
theorem dL_isRight_118 : decode cL_isRight 118 = .ok (.iconst 2, 1) := by decide +kernel
theorem dL_isRight_119 : decode cL_isRight 119 = .ok (.if_icmp .ne 13, 3) := by decide +kernel
theorem dL_isRight_122 : decode cL_isRight 122 = .ok (.iload 11, 2) := by decide +kernel
theorem dL_isRight_124 : decode cL_isRight 124 = .ok (.iconst 2, 1) := by decide +kernel
theorem dL_isRight_125 : decode cL_isRight 125 = .ok (.if_icmp .ge 7, 3) := by decide +kernel
theorem dL_isRight_128 : decode cL_isRight 128 = .ok (.iconst 1, 1) := by decide +kernel
theorem dL_isRight_129 : decode cL_isRight 129 = .ok (.goto 4, 3) := by decide +kernel
theorem dL_isRight_132 : decode cL_isRight 132 = .ok (.iconst 0, 1) := by decide +kernel
theorem dL_isRight_133 : decode cL_isRight 133 = .ok (.iadd, 1) := by decide +kernel
theorem dL_isRight_134 : decode cL_isRight 134 = .ok (.istore 5, 2) := by decide +kernel
theorem dL_isRight_136 : decode cL_isRight 136 = .ok (.iload 6, 2) := by decide +kernel
theorem dL_isRight_138 : decode cL_isRight 138 = .ok (.aload_n 0, 1) := by decide +kernel
theorem dL_isRight_139 : decode cL_isRight 139 = .ok (.iload 8, 2) := by decide +kernel
theorem dL_isRight_141 : decode cL_isRight 141 = .ok (.iload 7, 2) := by decide +kernel
theorem dL_isRight_143 : decode cL_isRight 143 = .ok (.iconst 4, 1) := by decide +kernel
theorem dL_isRight_144 : decode cL_isRight 144 = .ok (.invokevirtual 18, 3) := by decide +kernel
theorem dL_isRight_147 : decode cL_isRight 147 = .ok (.iadd, 1) := by decide +kernel
theorem dL_isRight_148 : decode cL_isRight 148 = .ok (.istore 6, 2) := by decide +kernel
theorem dL_isRight_150 : decode cL_isRight 150 = .ok (.iload 10, 2) := by decide +kernel
theorem dL_isRight_152 : decode cL_isRight 152 = .ok (.iconst 2, 1) := by decide +kernel
theorem dL_isRight_153 : decode cL_isRight 153 = .ok (.if_icmp .ne 17, 3) := by decide +kernel
theorem dL_isRight_156 : decode cL_isRight 156 = .ok (.iload 11, 2) := by decide +kernel
theorem dL_isRight_158 : decode cL_isRight 158 = .ok (.iconst 1, 1) := by decide +kernel
theorem dL_isRight_159 : decode cL_isRight 159 = .ok (.if_icmp .le 7, 3) := by decide +kernel
theorem dL_isRight_162 : decode cL_isRight 162 = .ok (.iconst 1, 1) := by decide +kernel
theorem dL_isRight_163 : decode cL_isRight 163 = .ok (.goto 19, 3) := by decide +kernel
theorem dL_isRight_166 : decode cL_isRight 166 = .ok (.iconst 0, 1) := by decide +kernel
theorem dL_isRight_167 : decode cL_isRight 167 = .ok (.goto 15, 3) := by decide +kernel
theorem dL_isRight_170 : decode cL_isRight 170 = .ok (.iload 11, 2) := by decide +kernel
theorem dL_isRight_172 : decode cL_isRight 172 = .ok (.iload 10, 2) := by decide +kernel
theorem dL_isRight_174 : decode cL_isRight 174 = .ok (.if_icmp .ne 7, 3) := by decide +kernel
theorem dL_isRight_177 : decode cL_isRight 177 = .ok (.iconst 1, 1) := by decide +kernel
theorem dL_isRight_178 : decode cL_isRight 178 = .ok (.goto 4, 3) := by decide +kernel
theorem dL_isRight_181 : decode cL_isRight 181 = .ok (.iconst 0, 1) := by decide +kernel
theorem dL_isRight_182 : decode cL_isRight 182 = .ok (.istore 12, 2) := by decide +kernel
theorem dL_isRight_184 : decode cL_isRight 184 = .ok (.iload 9, 2) := by decide +kernel
theorem dL_isRight_186 : decode cL_isRight 186 = .ok (.ifCond .ne 7, 3) := by decide +kernel
theorem dL_isRight_189 : decode cL_isRight 189 = .ok (.iconst 1, 1) := by decide +kernel
theorem dL_isRight_190 : decode cL_isRight 190 = .ok (.goto 4, 3) := by decide +kernel
theorem dL_isRight_193 : decode cL_isRight 193 = .ok (.iconst 0, 1) := by decide +kernel
theorem dL_isRight_194 : decode cL_isRight 194 = .ok (.iload 12, 2) := by decide +kernel
theorem dL_isRight_196 : decode cL_isRight 196 = .ok (.if_icmp .ne 70, 3) := by decide +kernel
theorem dL_isRight_199 : decode cL_isRight 199 = .ok (.aload_n 0, 1) := by decide +kernel
theorem dL_isRight_200 : decode cL_isRight 200 = .ok (.iload 8, 2) := by decide +kernel
theorem dL_isRight_202 : decode cL_isRight 202 = .ok (.iload 7, 2) := by decide +kernel
theorem dL_isRight_204 : decode cL_isRight 204 = .ok (.iconst 4, 1) := by decide +kernel
theorem dL_isRight_205 : decode cL_isRight 205 = .ok (.invokevirtual 18, 3) := by decide +kernel
theorem dL_isRight_208 : decode cL_isRight 208 = .ok (.iconst 1, 1) := by decide +kernel
theorem dL_isRight_209 : decode cL_isRight 209 = .ok (.if_icmp .ne 9, 3) := by decide +kernel
theorem dL_isRight_212 : decode cL_isRight 212 = .ok (.iload 11, 2) := by decide +kernel
theorem dL_isRight_214 : decode cL_isRight 214 = .ok (.iconst 1, 1) := by decide +kernel
theorem dL_isRight_215 : decode cL_isRight 215 = .ok (.if_icmp .gt 51, 3) := by decide +kernel
theorem dL_isRight_218 : decode cL_isRight 218 = .ok (.iload 9, 2) := by decide +kernel
theorem dL_isRight_220 : decode cL_isRight 220 = .ok (.iconst 1, 1) := by decide +kernel
theorem dL_isRight_221 : decode cL_isRight 221 = .ok (.if_icmp .ne 15, 3) := by decide +kernel
theorem dL_isRight_224 : decode cL_isRight 224 = .ok (.aload_n 0, 1) := by decide +kernel
theorem dL_isRight_225 : decode cL_isRight 225 = .ok (.iload 8, 2) := by decide +kernel
theorem dL_isRight_227 : decode cL_isRight 227 = .ok (.iload 7, 2) := by decide +kernel
theorem dL_isRight_229 : decode cL_isRight 229 = .ok (.iconst 4, 1) := by decide +kernel
theorem dL_isRight_230 : decode cL_isRight 230 = .ok (.invokevirtual 18, 3) := by decide +kernel
theorem dL_isRight_233 : decode cL_isRight 233 = .ok (.ifCond .eq 33, 3) := by decide +kernel
theorem dL_isRight_236 : decode cL_isRight 236 = .ok (.aload_n 0, 1) := by decide +kernel
theorem dL_isRight_237 : decode cL_isRight 237 = .ok (.iload 8, 2) := by decide +kernel
theorem dL_isRight_239 : decode cL_isRight 239 = .ok (.iload 7, 2) := by decide +kernel
theorem dL_isRight_241 : decode cL_isRight 241 = .ok (.iconst 4, 1) := by decide +kernel
theorem dL_isRight_242 : decode cL_isRight 242 = .ok (.invokevirtual 18, 3) := by decide +kernel
theorem dL_isRight_245 : decode cL_isRight 245 = .ok (.iconst 1, 1) := by decide +kernel
theorem dL_isRight_246 : decode cL_isRight 246 = .ok (.if_icmp .ne 22, 3) := by decide +kernel
theorem dL_isRight_249 : decode cL_isRight 249 = .ok (.aload_n 0, 1) := by decide +kernel
theorem dL_isRight_250 : decode cL_isRight 250 = .ok (.iload 8, 2) := by decide +kernel
theorem dL_isRight_252 : decode cL_isRight 252 = .ok (.iload 7, 2) := by decide +kernel
theorem dL_isRight_254 : decode cL_isRight 254 = .ok (.iconst 3, 1) := by decide +kernel
theorem dL_isRight_255 : decode cL_isRight 255 = .ok (.invokevirtual 18, 3) := by decide +kernel
theorem dL_isRight_258 : decode cL_isRight 258 = .ok (.aload_n 0, 1) := by decide +kernel
theorem dL_isRight_259 : decode cL_isRight 259 = .ok (.iconst 4, 1) := by decide +kernel
theorem dL_isRight_260 : decode cL_isRight 260 = .ok (.invokevirtual 12, 3) := by decide +kernel
theorem dL_isRight_263 : decode cL_isRight 263 = .ok (.if_icmp .gt 5, 3) := by decide +kernel
theorem dL_isRight_266 : decode cL_isRight 266 = .ok (.iconst 0, 1) := by decide +kernel
theorem dL_isRight_267 : decode cL_isRight 267 = .ok (.ireturn, 1) := by decide +kernel
theorem dL_isRight_268 : decode cL_isRight 268 = .ok (.iinc 8 1, 3) := by decide +kernel
theorem dL_isRight_271 : decode cL_isRight 271 = .ok (.goto (-233), 3) := by decide +kernel
theorem dL_isRight_274 : decode cL_isRight 274 = .ok (.iinc 7 1, 3) := by decide +kernel
theorem dL_isRight_277 : decode cL_isRight 277 = .ok (.goto (-249), 3) := by decide +kernel
theorem dL_isRight_280 : decode cL_isRight 280 = .ok (.aload_n 0, 1) := by decide +kernel
theorem dL_isRight_281 : decode cL_isRight 281 = .ok (.bipush 10, 2) := by decide +kernel
theorem dL_isRight_283 : decode cL_isRight 283 = .ok (.invokevirtual 12, 3) := by decide +kernel
theorem dL_isRight_286 : decode cL_isRight 286 = .ok (.aload_n 0, 1) := by decide +kernel
theorem dL_isRight_287 : decode cL_isRight 287 = .ok (.bipush 11, 2) := by decide +kernel
theorem dL_isRight_289 : decode cL_isRight 289 = .ok (.invokevirtual 12, 3) := by decide +kernel
theorem dL_isRight_292 : decode cL_isRight 292 = .ok (.iadd, 1) := by decide +kernel
theorem dL_isRight_293 : decode cL_isRight 293 = .ok (.aload_n 0, 1) := by decide +kernel
theorem dL_isRight_294 : decode cL_isRight 294 = .ok (.bipush 12, 2) := by decide +kernel
theorem dL_isRight_296 : decode cL_isRight 296 = .ok (.invokevirtual 12, 3) := by decide +kernel
theorem dL_isRight_299 : decode cL_isRight 299 = .ok (.iadd, 1) := by decide +kernel
theorem dL_isRight_300 : decode cL_isRight 300 = .ok (.sipush 192, 3) := by decide +kernel
theorem dL_isRight_303 : decode cL_isRight 303 = .ok (.if_icmp .ne 89, 3) := by decide +kernel
theorem dL_isRight_306 : decode cL_isRight 306 = .ok (.iload 6, 2) := by decide +kernel
theorem dL_isRight_308 : decode cL_isRight 308 = .ok (.aload_n 0, 1) := by decide +kernel
theorem dL_isRight_309 : decode cL_isRight 309 = .ok (.bipush 15, 2) := by decide +kernel
theorem dL_isRight_311 : decode cL_isRight 311 = .ok (.invokevirtual 12, 3) := by decide +kernel
theorem dL_isRight_314 : decode cL_isRight 314 = .ok (.if_icmp .ne 78, 3) := by decide +kernel
theorem dL_isRight_317 : decode cL_isRight 317 = .ok (.iload_n 3, 1) := by decide +kernel
theorem dL_isRight_318 : decode cL_isRight 318 = .ok (.aload_n 0, 1) := by decide +kernel
theorem dL_isRight_319 : decode cL_isRight 319 = .ok (.iload_n 1, 1) := by decide +kernel
theorem dL_isRight_320 : decode cL_isRight 320 = .ok (.iload_n 2, 1) := by decide +kernel
theorem dL_isRight_321 : decode cL_isRight 321 = .ok (.iconst 0, 1) := by decide +kernel
theorem dL_isRight_322 : decode cL_isRight 322 = .ok (.invokevirtual 66, 3) := by decide +kernel
theorem dL_isRight_325 : decode cL_isRight 325 = .ok (.if_icmp .ne 67, 3) := by decide +kernel
theorem dL_isRight_328 : decode cL_isRight 328 = .ok (.iload 4, 2) := by decide +kernel
theorem dL_isRight_330 : decode cL_isRight 330 = .ok (.aload_n 0, 1) := by decide +kernel
theorem dL_isRight_331 : decode cL_isRight 331 = .ok (.iload_n 1, 1) := by decide +kernel
theorem dL_isRight_332 : decode cL_isRight 332 = .ok (.iload_n 2, 1) := by decide +kernel
theorem dL_isRight_333 : decode cL_isRight 333 = .ok (.iconst 1, 1) := by decide +kernel
theorem dL_isRight_334 : decode cL_isRight 334 = .ok (.invokevirtual 66, 3) := by decide +kernel
theorem dL_isRight_337 : decode cL_isRight 337 = .ok (.if_icmp .ne 55, 3) := by decide +kernel
theorem dL_isRight_340 : decode cL_isRight 340 = .ok (.iload 5, 2) := by decide +kernel
theorem dL_isRight_342 : decode cL_isRight 342 = .ok (.aload_n 0, 1) := by decide +kernel
theorem dL_isRight_343 : decode cL_isRight 343 = .ok (.iload_n 1, 1) := by decide +kernel
theorem dL_isRight_344 : decode cL_isRight 344 = .ok (.iload_n 2, 1) := by decide +kernel
theorem dL_isRight_345 : decode cL_isRight 345 = .ok (.iconst 2, 1) := by decide +kernel
theorem dL_isRight_346 : decode cL_isRight 346 = .ok (.invokevirtual 66, 3) := by decide +kernel
theorem dL_isRight_349 : decode cL_isRight 349 = .ok (.if_icmp .ne 43, 3) := by decide +kernel
theorem dL_isRight_352 : decode cL_isRight 352 = .ok (.iload_n 1, 1) := by decide +kernel
theorem dL_isRight_353 : decode cL_isRight 353 = .ok (.bipush (-8), 2) := by decide +kernel
theorem dL_isRight_355 : decode cL_isRight 355 = .ok (.if_icmp .lt 37, 3) := by decide +kernel
theorem dL_isRight_358 : decode cL_isRight 358 = .ok (.iload_n 1, 1) := by decide +kernel
theorem dL_isRight_359 : decode cL_isRight 359 = .ok (.bipush 8, 2) := by decide +kernel
theorem dL_isRight_361 : decode cL_isRight 361 = .ok (.if_icmp .gt 31, 3) := by decide +kernel
theorem dL_isRight_364 : decode cL_isRight 364 = .ok (.iload_n 2, 1) := by decide +kernel
theorem dL_isRight_365 : decode cL_isRight 365 = .ok (.bipush (-8), 2) := by decide +kernel
theorem dL_isRight_367 : decode cL_isRight 367 = .ok (.if_icmp .lt 25, 3) := by decide +kernel
theorem dL_isRight_370 : decode cL_isRight 370 = .ok (.iload_n 2, 1) := by decide +kernel
theorem dL_isRight_371 : decode cL_isRight 371 = .ok (.bipush 8, 2) := by decide +kernel
theorem dL_isRight_373 : decode cL_isRight 373 = .ok (.if_icmp .gt 19, 3) := by decide +kernel
theorem dL_isRight_376 : decode cL_isRight 376 = .ok (.aload_n 0, 1) := by decide +kernel
theorem dL_isRight_377 : decode cL_isRight 377 = .ok (.iconst 2, 1) := by decide +kernel
theorem dL_isRight_378 : decode cL_isRight 378 = .ok (.invokevirtual 69, 3) := by decide +kernel
theorem dL_isRight_381 : decode cL_isRight 381 = .ok (.iload_n 3, 1) := by decide +kernel
theorem dL_isRight_382 : decode cL_isRight 382 = .ok (.iload 4, 2) := by decide +kernel
theorem dL_isRight_384 : decode cL_isRight 384 = .ok (.iadd, 1) := by decide +kernel
theorem dL_isRight_385 : decode cL_isRight 385 = .ok (.if_icmp .gt 7, 3) := by decide +kernel
theorem dL_isRight_388 : decode cL_isRight 388 = .ok (.iconst 1, 1) := by decide +kernel
theorem dL_isRight_389 : decode cL_isRight 389 = .ok (.goto 4, 3) := by decide +kernel
theorem dL_isRight_392 : decode cL_isRight 392 = .ok (.iconst 0, 1) := by decide +kernel
theorem dL_isRight_393 : decode cL_isRight 393 = .ok (.ireturn, 1) := by decide +kernel
set_option maxRecDepth 20000 in
theorem ggL_hasGaps_X6_faults : GoodIn wsL_hasGaps wsX6_faults := goodIn_r _ [5, 6, 7, 8, 9, 10, 4, 11, 12, 13, 14, 15, 16, 17, 18, 19, 20, 21, 22, 23, 24, 25, 26, 27, 28, 29, 30, 31, 32, 33, 34, 35, 36, 37, 38, 39, 40, 41, 42, 43, 44, 45, 46, 47, 48, 49, 50, 51, 52, 53, 54, 55, 56, 57, 58, 59, 60, 61, 62, 63, 64, 65, 66, 67, 68, 69, 70, 71, 72, 73, 74, 75, 76, 77, 78, 79, 80, 81, 82, 83, 84, 85, 86, 87, 88, 89, 90, 91, 92, 93, 94, 95, 96, 97, 98, 99, 100] (by decide +kernel) (by decide +kernel)
set_option maxRecDepth 20000 in
theorem gL_hasGaps_X6_faults : GoodIn wsL_hasGaps (wsV RL 66 RX6 yX6_faults wsX6_faults) := goodIn_app (goodIn_of _ (by decide +kernel)) ggL_hasGaps_X6_faults
theorem dL_hasGaps_0 : decode cL_hasGaps 0 = .ok (.iconst 0, 1) := by decide +kernel
theorem dL_hasGaps_1 : decode cL_hasGaps 1 = .ok (.istore_n 2, 1) := by decide +kernel
theorem dL_hasGaps_2 : decode cL_hasGaps 2 = .ok (.iload_n 1, 1) := by decide +kernel
theorem dL_hasGaps_3 : decode cL_hasGaps 3 = .ok (.ineg, 1) := by decide +kernel
theorem dL_hasGaps_4 : decode cL_hasGaps 4 = .ok (.istore_n 3, 1) := by decide +kernel
theorem dL_hasGaps_5 : decode cL_hasGaps 5 = .ok (.iload_n 3, 1) := by decide +kernel
theorem dL_hasGaps_6 : decode cL_hasGaps 6 = .ok (.iload_n 1, 1) := by decide +kernel
theorem dL_hasGaps_7 : decode cL_hasGaps 7 = .ok (.if_icmp .gt 50, 3) := by decide +kernel
theorem dL_hasGaps_10 : decode cL_hasGaps 10 = .ok (.iload_n 2, 1) := by decide +kernel
theorem dL_hasGaps_11 : decode cL_hasGaps 11 = .ok (.ifCond .ne 46, 3) := by decide +kernel
theorem dL_hasGaps_14 : decode cL_hasGaps 14 = .ok (.iload_n 1, 1) := by decide +kernel
theorem dL_hasGaps_15 : decode cL_hasGaps 15 = .ok (.ineg, 1) := by decide +kernel
theorem dL_hasGaps_16 : decode cL_hasGaps 16 = .ok (.istore 4, 2) := by decide +kernel
theorem dL_hasGaps_18 : decode cL_hasGaps 18 = .ok (.iload 4, 2) := by decide +kernel
theorem dL_hasGaps_20 : decode cL_hasGaps 20 = .ok (.iload_n 1, 1) := by decide +kernel
theorem dL_hasGaps_21 : decode cL_hasGaps 21 = .ok (.if_icmp .gt 30, 3) := by decide +kernel
theorem dL_hasGaps_24 : decode cL_hasGaps 24 = .ok (.iload_n 2, 1) := by decide +kernel
theorem dL_hasGaps_25 : decode cL_hasGaps 25 = .ok (.ifCond .ne 26, 3) := by decide +kernel
theorem dL_hasGaps_28 : decode cL_hasGaps 28 = .ok (.aload_n 0, 1) := by decide +kernel
theorem dL_hasGaps_29 : decode cL_hasGaps 29 = .ok (.iload_n 3, 1) := by decide +kernel
theorem dL_hasGaps_30 : decode cL_hasGaps 30 = .ok (.iload 4, 2) := by decide +kernel
theorem dL_hasGaps_32 : decode cL_hasGaps 32 = .ok (.iconst 0, 1) := by decide +kernel
theorem dL_hasGaps_33 : decode cL_hasGaps 33 = .ok (.invokevirtual 66, 3) := by decide +kernel
theorem dL_hasGaps_36 : decode cL_hasGaps 36 = .ok (.ifCond .le 7, 3) := by decide +kernel
theorem dL_hasGaps_39 : decode cL_hasGaps 39 = .ok (.iconst 1, 1) := by decide +kernel
theorem dL_hasGaps_40 : decode cL_hasGaps 40 = .ok (.goto 4, 3) := by decide +kernel
theorem dL_hasGaps_43 : decode cL_hasGaps 43 = .ok (.iconst 0, 1) := by decide +kernel
theorem dL_hasGaps_44 : decode cL_hasGaps 44 = .ok (.istore_n 2, 1) := by decide +kernel
theorem dL_hasGaps_45 : decode cL_hasGaps 45 = .ok (.iinc 4 1, 3) := by decide +kernel
theorem dL_hasGaps_48 : decode cL_hasGaps 48 = .ok (.goto (-30), 3) := by decide +kernel
theorem dL_hasGaps_51 : decode cL_hasGaps 51 = .ok (.iinc 3 1, 3) := by decide +kernel
theorem dL_hasGaps_54 : decode cL_hasGaps 54 = .ok (.goto (-49), 3) := by decide +kernel
theorem dL_hasGaps_57 : decode cL_hasGaps 57 = .ok (.iload_n 2, 1) := by decide +kernel
theorem dL_hasGaps_58 : decode cL_hasGaps 58 = .ok (.ireturn, 1) := by decide +kernel
