set_option maxRecDepth 20000 in
theorem ggL_areBest_X6_tolerance : GoodIn wsL_areBest wsX6_tolerance := goodIn_r _ [5, 6, 7, 8, 9, 10, 11, 12, 4, 13, 14, 15, 16, 17, 18, 19, 20, 21, 22, 23, 24, 25, 26, 27, 28, 29, 30, 31, 32, 33, 34, 35, 36, 37, 38, 39, 40, 41, 42, 43, 44, 45, 46, 47, 48, 49, 50, 51, 52, 53, 54, 55, 56, 57, 58, 59, 60, 61, 254, 255, 256, 257, 258, 259, 260, 261, 262, 263, 264, 265, 266, 267, 268, 269, 270, 271, 272, 273, 274] (by decide +kernel) (by decide +kernel)
set_option maxRecDepth 20000 in
theorem gL_areBest_X6_tolerance : GoodIn wsL_areBest (wsV RL 72 RX6 yX6_tolerance wsX6_tolerance) := goodIn_app (goodIn_of _ (by decide +kernel)) ggL_areBest_X6_tolerance
set_option maxRecDepth 20000 in
theorem ggL_areBest_L_hasGaps : GoodIn wsL_areBest wsL_hasGaps := goodIn_r _ [65, 66, 67, 68, 4, 69, 7, 8, 6, 70, 71, 72, 73, 74, 75, 10, 11, 12, 13, 14, 15, 16, 17, 18, 19, 20, 21, 22, 23, 24, 25, 26, 27, 28, 29, 30, 31, 32, 33, 34, 35, 36, 37, 38, 39, 76, 77, 78, 79, 9, 44, 45, 46, 47, 48, 49, 50, 51, 52, 53, 54, 55, 56, 57, 58, 59, 60, 61, 80, 81, 82, 83, 84, 85, 86, 87, 88, 89, 90, 91, 254, 255, 256, 257, 258, 259, 260, 261, 262, 263, 264, 265, 266, 267, 268, 269, 270, 271, 272, 273, 274] (by decide +kernel) (by decide +kernel)
set_option maxRecDepth 20000 in
theorem gL_areBest_L_hasGaps : GoodIn wsL_areBest (va_wsS RL 76 yL_hasGaps wsL_hasGaps) := goodIn_app (goodIn_of _ (by decide +kernel)) ggL_areBest_L_hasGaps
set_option maxRecDepth 20000 in
theorem ggL_areBest_X6_bestPins : GoodIn wsL_areBest wsX6_bestPins := goodIn_r _ [95, 7, 73, 74, 4, 75, 10, 11, 12, 13, 8, 6, 14, 15, 16, 17, 18, 19, 20, 21, 22, 23, 24, 25, 26, 27, 28, 29, 30, 31, 32, 33, 34, 35, 36, 37, 38, 39, 96, 97, 98, 99, 100, 101, 102, 103, 76, 77, 78, 79, 9, 44, 45, 46, 47, 48, 49, 50, 51, 52, 53, 54, 55, 56, 57, 58, 59, 60, 61, 80, 81, 82, 83, 84, 85, 86, 87, 254, 255, 256, 257, 258, 259, 260, 261, 262, 263, 264, 265, 266, 267, 268, 269, 270, 271, 272, 273, 274] (by decide +kernel) (by decide +kernel)
set_option maxRecDepth 20000 in
theorem gL_areBest_X6_bestPins : GoodIn wsL_areBest (wsV RL 69 RX6 yX6_bestPins wsX6_bestPins) := goodIn_app (goodIn_of _ (by decide +kernel)) ggL_areBest_X6_bestPins
set_option maxRecDepth 20000 in
theorem ggL_areBest_X6_setPins : GoodIn wsL_areBest wsX6_setPins := goodIn_r _ [107, 108, 7, 109, 110, 73, 74, 4, 75, 111, 112, 113, 114, 115, 116, 117, 118, 119, 120, 121, 122, 123, 124, 125, 17, 126, 127, 19, 128, 129, 130, 131, 132, 133, 134, 135, 136, 137, 138, 139, 140, 141, 142, 23, 143, 48, 49, 26, 144, 25, 145, 146, 147, 148, 32, 149, 34, 150, 151, 152, 153, 154, 155, 156, 157, 158, 159, 10, 11, 12, 13, 8, 6, 14, 15, 16, 18, 20, 21, 22, 24, 27, 28, 29, 30, 31, 33, 35, 36, 37, 38, 39, 160, 161, 162, 163, 164, 97, 98, 99, 165, 166, 167, 168, 169, 101, 102, 103, 76, 77, 78, 79, 9, 44, 45, 46, 47, 50, 51, 52, 53, 54, 55, 56, 57, 58, 59, 60, 61, 254, 255, 256, 257, 258, 259, 260, 261, 262, 263, 264, 265, 266, 267, 268, 275, 276, 277, 269, 270, 271, 272, 273, 274, 278, 279, 280] (by decide +kernel) (by decide +kernel)
set_option maxRecDepth 20000 in
theorem gL_areBest_X6_setPins : GoodIn wsL_areBest (wsV RL 42 RX6 yX6_setPins wsX6_setPins) := goodIn_app (goodIn_of _ (by decide +kernel)) ggL_areBest_X6_setPins
set_option maxRecDepth 20000 in
theorem ggL_areBest_X6_count : GoodIn wsL_areBest wsX6_count := goodIn_r _ [173, 7, 174, 175, 109, 110, 8, 176, 177, 178, 9, 179, 108, 180, 160, 161, 162, 17, 163, 133, 164, 97, 98, 99, 19, 165, 166, 167, 168, 134, 169, 101, 102, 103, 181, 182, 183, 23, 184, 48, 49, 185, 186, 187, 32, 188, 34, 189, 56, 57, 58, 59, 60, 61, 190, 191, 192, 193, 4, 194, 6, 10, 11, 12, 13, 14, 15, 16, 18, 20, 21, 22, 24, 25, 26, 27, 28, 29, 30, 31, 33, 35, 36, 37, 38, 39, 195, 196, 197, 154, 198, 158, 199, 200, 201, 202, 138, 139, 203, 204, 205, 114, 206, 118, 207, 208, 209, 210, 211, 212, 254, 255, 256, 257, 258, 259, 260, 261, 262, 263, 264, 265, 266, 267, 268, 269, 270, 271, 272, 273, 274, 278, 279, 280, 275, 276, 277, 281, 282, 283, 284, 285, 286] (by decide +kernel) (by decide +kernel)
set_option maxRecDepth 20000 in
theorem gL_areBest_X6_count : GoodIn wsL_areBest (wsV RL 12 RX6 yX6_count wsX6_count) := goodIn_app (goodIn_of _ (by decide +kernel)) ggL_areBest_X6_count
set_option maxRecDepth 20000 in
theorem ggL_areBest_X6_faults : GoodIn wsL_areBest wsX6_faults := goodIn_r _ [69, 7, 8, 6, 70, 71, 4, 72, 73, 74, 75, 10, 11, 12, 13, 14, 15, 16, 17, 18, 19, 20, 21, 22, 23, 24, 25, 26, 27, 28, 29, 30, 31, 32, 33, 34, 35, 36, 37, 38, 39, 76, 77, 78, 79, 9, 44, 45, 46, 47, 48, 49, 50, 51, 52, 53, 54, 55, 56, 57, 58, 59, 60, 61, 80, 81, 82, 83, 84, 85, 86, 87, 88, 89, 90, 91, 254, 255, 256, 257, 258, 259, 260, 261, 262, 263, 264, 265, 266, 267, 268, 269, 270, 271, 272, 273, 274] (by decide +kernel) (by decide +kernel)
set_option maxRecDepth 20000 in
theorem gL_areBest_X6_faults : GoodIn wsL_areBest (wsV RL 66 RX6 yX6_faults wsX6_faults) := goodIn_app (goodIn_of _ (by decide +kernel)) ggL_areBest_X6_faults
set_option maxRecDepth 20000 in
theorem ggL_areBest_X6_undo : GoodIn wsL_areBest wsX6_undo := goodIn_r _ [216, 108, 7, 203, 204, 205, 114, 206, 118, 217, 218, 219, 220, 117, 221, 222, 121, 223, 116, 123, 124, 125, 17, 126, 127, 19, 128, 129, 130, 131, 132, 133, 134, 135, 136, 137, 138, 139, 140, 141, 142, 23, 143, 48, 49, 26, 144, 25, 145, 146, 147, 148, 32, 149, 34, 150, 151, 152, 153, 154, 155, 156, 157, 158, 159, 254, 255, 256, 257, 258, 275, 276, 277, 259, 260, 261, 262, 263, 264, 265, 266, 267, 268, 269, 270, 271, 272, 273, 274, 278, 279, 280] (by decide +kernel) (by decide +kernel)
set_option maxRecDepth 20000 in
theorem gL_areBest_X6_undo : GoodIn wsL_areBest (wsV RL 80 RX6 yX6_undo wsX6_undo) := goodIn_app (goodIn_of _ (by decide +kernel)) ggL_areBest_X6_undo
set_option maxRecDepth 20000 in
theorem ggL_areBest_L_low : GoodIn wsL_areBest wsL_low := goodIn_r _ [226, 227] (by decide +kernel) (by decide +kernel)
set_option maxRecDepth 20000 in
theorem gL_areBest_L_low : GoodIn wsL_areBest (va_wsS RL 26 yL_low wsL_low) := goodIn_app (goodIn_of _ (by decide +kernel)) ggL_areBest_L_low
set_option maxRecDepth 20000 in
theorem ggL_areBest_X6_trapFor : GoodIn wsL_areBest wsX6_trapFor := goodIn_r _ [231, 7, 8, 232, 177, 73, 74, 4, 75, 233, 234, 235, 23, 236, 48, 49, 146, 147, 148, 32, 149, 34, 150, 129, 130, 131, 237, 238, 239, 240, 54, 30, 31, 33, 40, 41, 42, 43, 44, 45, 46, 47, 29, 50, 51, 52, 53, 39, 55, 56, 57, 58, 59, 60, 61, 254, 255, 256, 257, 258, 259, 260, 261, 262, 263, 264, 265, 266, 267, 268, 269, 270, 271, 272, 273, 274] (by decide +kernel) (by decide +kernel)
set_option maxRecDepth 20000 in
theorem gL_areBest_X6_trapFor : GoodIn wsL_areBest (wsV RL 83 RX6 yX6_trapFor wsX6_trapFor) := goodIn_app (goodIn_of _ (by decide +kernel)) ggL_areBest_X6_trapFor
set_option maxRecDepth 20000 in
theorem ggL_areBest_X6_cut : GoodIn wsL_areBest wsX6_cut := goodIn_r _ [244, 108, 7, 8, 9, 73, 74, 4, 75, 111, 112, 113, 114, 115, 116, 117, 118, 119, 120, 121, 122, 123, 124, 125, 17, 126, 127, 19, 128, 129, 130, 131, 132, 133, 134, 135, 136, 137, 138, 139, 140, 141, 142, 23, 143, 48, 49, 26, 144, 25, 145, 146, 147, 148, 32, 149, 34, 150, 151, 152, 153, 154, 155, 156, 157, 158, 159, 245, 246, 247, 248, 249, 250, 251, 252, 253, 234, 235, 236, 237, 238, 239, 240, 54, 30, 31, 33, 190, 186, 187, 188, 189, 56, 57, 58, 59, 60, 61, 254, 255, 256, 257, 258, 259, 260, 261, 262, 263, 264, 265, 266, 267, 268, 269, 270, 271, 272, 273, 275, 276, 277, 274, 278, 279, 280] (by decide +kernel) (by decide +kernel)
set_option maxRecDepth 20000 in
theorem gL_areBest_X6_cut : GoodIn wsL_areBest (wsV RL 35 RX6 yX6_cut wsX6_cut) := goodIn_app (goodIn_of _ (by decide +kernel)) ggL_areBest_X6_cut
theorem dL_areBest_0 : decode cL_areBest 0 = .ok (.aload_n 0, 1) := by decide +kernel
theorem dL_areBest_1 : decode cL_areBest 1 = .ok (.invokevirtual 72, 3) := by decide +kernel
theorem dL_areBest_4 : decode cL_areBest 4 = .ok (.istore_n 2, 1) := by decide +kernel
theorem dL_areBest_5 : decode cL_areBest 5 = .ok (.iload_n 2, 1) := by decide +kernel
theorem dL_areBest_6 : decode cL_areBest 6 = .ok (.ifCond .lt 11, 3) := by decide +kernel
theorem dL_areBest_9 : decode cL_areBest 9 = .ok (.aload_n 0, 1) := by decide +kernel
theorem dL_areBest_10 : decode cL_areBest 10 = .ok (.iload_n 2, 1) := by decide +kernel
theorem dL_areBest_11 : decode cL_areBest 11 = .ok (.invokestatic 76, 3) := by decide +kernel
theorem dL_areBest_14 : decode cL_areBest 14 = .ok (.ifCond .ne 26, 3) := by decide +kernel
theorem dL_areBest_17 : decode cL_areBest 17 = .ok (.iload_n 2, 1) := by decide +kernel
theorem dL_areBest_18 : decode cL_areBest 18 = .ok (.iconst 4, 1) := by decide +kernel
theorem dL_areBest_19 : decode cL_areBest 19 = .ok (.if_icmp .ge 23, 3) := by decide +kernel
theorem dL_areBest_22 : decode cL_areBest 22 = .ok (.aload_n 0, 1) := by decide +kernel
theorem dL_areBest_23 : decode cL_areBest 23 = .ok (.iload_n 2, 1) := by decide +kernel
theorem dL_areBest_24 : decode cL_areBest 24 = .ok (.ifCond .ge 7, 3) := by decide +kernel
theorem dL_areBest_27 : decode cL_areBest 27 = .ok (.iconst 0, 1) := by decide +kernel
theorem dL_areBest_28 : decode cL_areBest 28 = .ok (.goto 6, 3) := by decide +kernel
theorem dL_areBest_31 : decode cL_areBest 31 = .ok (.iload_n 2, 1) := by decide +kernel
theorem dL_areBest_32 : decode cL_areBest 32 = .ok (.iconst 1, 1) := by decide +kernel
theorem dL_areBest_33 : decode cL_areBest 33 = .ok (.iadd, 1) := by decide +kernel
theorem dL_areBest_34 : decode cL_areBest 34 = .ok (.invokestatic 76, 3) := by decide +kernel
theorem dL_areBest_37 : decode cL_areBest 37 = .ok (.ifCond .ne 5, 3) := by decide +kernel
theorem dL_areBest_40 : decode cL_areBest 40 = .ok (.iconst 0, 1) := by decide +kernel
theorem dL_areBest_41 : decode cL_areBest 41 = .ok (.ireturn, 1) := by decide +kernel
theorem dL_areBest_42 : decode cL_areBest 42 = .ok (.aload_n 0, 1) := by decide +kernel
theorem dL_areBest_43 : decode cL_areBest 43 = .ok (.iconst 2, 1) := by decide +kernel
theorem dL_areBest_44 : decode cL_areBest 44 = .ok (.invokevirtual 69, 3) := by decide +kernel
theorem dL_areBest_47 : decode cL_areBest 47 = .ok (.istore_n 3, 1) := by decide +kernel
theorem dL_areBest_48 : decode cL_areBest 48 = .ok (.aload_n 0, 1) := by decide +kernel
theorem dL_areBest_49 : decode cL_areBest 49 = .ok (.aload_n 0, 1) := by decide +kernel
theorem dL_areBest_50 : decode cL_areBest 50 = .ok (.iconst 0, 1) := by decide +kernel
theorem dL_areBest_51 : decode cL_areBest 51 = .ok (.invokevirtual 69, 3) := by decide +kernel
theorem dL_areBest_54 : decode cL_areBest 54 = .ok (.iconst 4, 1) := by decide +kernel
theorem dL_areBest_55 : decode cL_areBest 55 = .ok (.isub, 1) := by decide +kernel
theorem dL_areBest_56 : decode cL_areBest 56 = .ok (.aload_n 0, 1) := by decide +kernel
theorem dL_areBest_57 : decode cL_areBest 57 = .ok (.iconst 1, 1) := by decide +kernel
theorem dL_areBest_58 : decode cL_areBest 58 = .ok (.invokevirtual 69, 3) := by decide +kernel
theorem dL_areBest_61 : decode cL_areBest 61 = .ok (.iconst 4, 1) := by decide +kernel
theorem dL_areBest_62 : decode cL_areBest 62 = .ok (.isub, 1) := by decide +kernel
theorem dL_areBest_63 : decode cL_areBest 63 = .ok (.invokevirtual 42, 3) := by decide +kernel
theorem dL_areBest_66 : decode cL_areBest 66 = .ok (.aload_n 0, 1) := by decide +kernel
theorem dL_areBest_67 : decode cL_areBest 67 = .ok (.aload_n 0, 1) := by decide +kernel
theorem dL_areBest_68 : decode cL_areBest 68 = .ok (.bipush 8, 2) := by decide +kernel
theorem dL_areBest_70 : decode cL_areBest 70 = .ok (.invokevirtual 12, 3) := by decide +kernel
theorem dL_areBest_73 : decode cL_areBest 73 = .ok (.aload_n 0, 1) := by decide +kernel
theorem dL_areBest_74 : decode cL_areBest 74 = .ok (.bipush 9, 2) := by decide +kernel
theorem dL_areBest_76 : decode cL_areBest 76 = .ok (.invokevirtual 12, 3) := by decide +kernel
theorem dL_areBest_79 : decode cL_areBest 79 = .ok (.iconst 0, 1) := by decide +kernel
theorem dL_areBest_80 : decode cL_areBest 80 = .ok (.invokevirtual 66, 3) := by decide +kernel
theorem dL_areBest_83 : decode cL_areBest 83 = .ok (.if_icmp .ne 42, 3) := by decide +kernel
theorem dL_areBest_86 : decode cL_areBest 86 = .ok (.aload_n 0, 1) := by decide +kernel
theorem dL_areBest_87 : decode cL_areBest 87 = .ok (.aload_n 0, 1) := by decide +kernel
theorem dL_areBest_88 : decode cL_areBest 88 = .ok (.bipush 8, 2) := by decide +kernel
theorem dL_areBest_90 : decode cL_areBest 90 = .ok (.invokevirtual 12, 3) := by decide +kernel
theorem dL_areBest_93 : decode cL_areBest 93 = .ok (.aload_n 0, 1) := by decide +kernel
theorem dL_areBest_94 : decode cL_areBest 94 = .ok (.bipush 9, 2) := by decide +kernel
theorem dL_areBest_96 : decode cL_areBest 96 = .ok (.invokevirtual 12, 3) := by decide +kernel
theorem dL_areBest_99 : decode cL_areBest 99 = .ok (.iconst 0, 1) := by decide +kernel
theorem dL_areBest_100 : decode cL_areBest 100 = .ok (.invokevirtual 66, 3) := by decide +kernel
theorem dL_areBest_103 : decode cL_areBest 103 = .ok (.aload_n 0, 1) := by decide +kernel
theorem dL_areBest_104 : decode cL_areBest 104 = .ok (.aload_n 0, 1) := by decide +kernel
theorem dL_areBest_105 : decode cL_areBest 105 = .ok (.bipush 8, 2) := by decide +kernel
theorem dL_areBest_107 : decode cL_areBest 107 = .ok (.invokevirtual 12, 3) := by decide +kernel
theorem dL_areBest_110 : decode cL_areBest 110 = .ok (.aload_n 0, 1) := by decide +kernel
theorem dL_areBest_111 : decode cL_areBest 111 = .ok (.bipush 9, 2) := by decide +kernel
theorem dL_areBest_113 : decode cL_areBest 113 = .ok (.invokevirtual 12, 3) := by decide +kernel
theorem dL_areBest_116 : decode cL_areBest 116 = .ok (.iconst 1, 1) := by decide +kernel
theorem dL_areBest_117 : decode cL_areBest 117 = .ok (.invokevirtual 66, 3) := by decide +kernel
theorem dL_areBest_120 : decode cL_areBest 120 = .ok (.iadd, 1) := by decide +kernel
theorem dL_areBest_121 : decode cL_areBest 121 = .ok (.iload_n 3, 1) := by decide +kernel
theorem dL_areBest_122 : decode cL_areBest 122 = .ok (.if_icmp .eq 5, 3) := by decide +kernel
theorem dL_areBest_125 : decode cL_areBest 125 = .ok (.iconst 0, 1) := by decide +kernel
theorem dL_areBest_126 : decode cL_areBest 126 = .ok (.ireturn, 1) := by decide +kernel
theorem dL_areBest_127 : decode cL_areBest 127 = .ok (.aload_n 0, 1) := by decide +kernel
theorem dL_areBest_128 : decode cL_areBest 128 = .ok (.invokevirtual 80, 3) := by decide +kernel
theorem dL_areBest_131 : decode cL_areBest 131 = .ok (.istore 4, 2) := by decide +kernel
theorem dL_areBest_133 : decode cL_areBest 133 = .ok (.iload_n 1, 1) := by decide +kernel
theorem dL_areBest_134 : decode cL_areBest 134 = .ok (.iconst 4, 1) := by decide +kernel
theorem dL_areBest_135 : decode cL_areBest 135 = .ok (.invokestatic 26, 3) := by decide +kernel
theorem dL_areBest_138 : decode cL_areBest 138 = .ok (.istore 5, 2) := by decide +kernel
theorem dL_areBest_140 : decode cL_areBest 140 = .ok (.aload_n 0, 1) := by decide +kernel
theorem dL_areBest_141 : decode cL_areBest 141 = .ok (.iload 5, 2) := by decide +kernel
theorem dL_areBest_143 : decode cL_areBest 143 = .ok (.invokevirtual 83, 3) := by decide +kernel
theorem dL_areBest_146 : decode cL_areBest 146 = .ok (.istore 6, 2) := by decide +kernel
theorem dL_areBest_148 : decode cL_areBest 148 = .ok (.iload 6, 2) := by decide +kernel
theorem dL_areBest_150 : decode cL_areBest 150 = .ok (.ifCond .ge 61, 3) := by decide +kernel
theorem dL_areBest_153 : decode cL_areBest 153 = .ok (.aload_n 0, 1) := by decide +kernel
theorem dL_areBest_154 : decode cL_areBest 154 = .ok (.iconst 4, 1) := by decide +kernel
theorem dL_areBest_155 : decode cL_areBest 155 = .ok (.invokevirtual 35, 3) := by decide +kernel
theorem dL_areBest_158 : decode cL_areBest 158 = .ok (.ifCond .lt 51, 3) := by decide +kernel
theorem dL_areBest_161 : decode cL_areBest 161 = .ok (.aload_n 0, 1) := by decide +kernel
theorem dL_areBest_162 : decode cL_areBest 162 = .ok (.invokevirtual 72, 3) := by decide +kernel
theorem dL_areBest_165 : decode cL_areBest 165 = .ok (.iload 5, 2) := by decide +kernel
theorem dL_areBest_167 : decode cL_areBest 167 = .ok (.if_icmp .ge 42, 3) := by decide +kernel
theorem dL_areBest_170 : decode cL_areBest 170 = .ok (.aload_n 0, 1) := by decide +kernel
theorem dL_areBest_171 : decode cL_areBest 171 = .ok (.iconst 0, 1) := by decide +kernel
theorem dL_areBest_172 : decode cL_areBest 172 = .ok (.iconst 0, 1) := by decide +kernel
theorem dL_areBest_173 : decode cL_areBest 173 = .ok (.iconst 0, 1) := by decide +kernel
theorem dL_areBest_174 : decode cL_areBest 174 = .ok (.invokevirtual 66, 3) := by decide +kernel
theorem dL_areBest_177 : decode cL_areBest 177 = .ok (.aload_n 0, 1) := by decide +kernel
theorem dL_areBest_178 : decode cL_areBest 178 = .ok (.iconst 0, 1) := by decide +kernel
theorem dL_areBest_179 : decode cL_areBest 179 = .ok (.iconst 0, 1) := by decide +kernel
theorem dL_areBest_180 : decode cL_areBest 180 = .ok (.iconst 1, 1) := by decide +kernel
theorem dL_areBest_181 : decode cL_areBest 181 = .ok (.invokevirtual 66, 3) := by decide +kernel
theorem dL_areBest_184 : decode cL_areBest 184 = .ok (.iadd, 1) := by decide +kernel
theorem dL_areBest_185 : decode cL_areBest 185 = .ok (.aload_n 0, 1) := by decide +kernel
theorem dL_areBest_186 : decode cL_areBest 186 = .ok (.iconst 0, 1) := by decide +kernel
theorem dL_areBest_187 : decode cL_areBest 187 = .ok (.iconst 0, 1) := by decide +kernel
theorem dL_areBest_188 : decode cL_areBest 188 = .ok (.iconst 2, 1) := by decide +kernel
theorem dL_areBest_189 : decode cL_areBest 189 = .ok (.invokevirtual 66, 3) := by decide +kernel
theorem dL_areBest_192 : decode cL_areBest 192 = .ok (.iadd, 1) := by decide +kernel
theorem dL_areBest_193 : decode cL_areBest 193 = .ok (.ifCond .ne 16, 3) := by decide +kernel
theorem dL_areBest_196 : decode cL_areBest 196 = .ok (.aload_n 0, 1) := by decide +kernel
theorem dL_areBest_197 : decode cL_areBest 197 = .ok (.invokevirtual 80, 3) := by decide +kernel
theorem dL_areBest_200 : decode cL_areBest 200 = .ok (.iload 4, 2) := by decide +kernel
theorem dL_areBest_202 : decode cL_areBest 202 = .ok (.if_icmp .ne 7, 3) := by decide +kernel
theorem dL_areBest_205 : decode cL_areBest 205 = .ok (.iconst 1, 1) := by decide +kernel
theorem dL_areBest_206 : decode cL_areBest 206 = .ok (.goto 4, 3) := by decide +kernel
theorem dL_areBest_209 : decode cL_areBest 209 = .ok (.iconst 0, 1) := by decide +kernel
theorem dL_areBest_210 : decode cL_areBest 210 = .ok (.ireturn, 1) := by decide +kernel
theorem dL_areBest_211 : decode cL_areBest 211 = .ok (.aload_n 0, 1) := by decide +kernel
theorem dL_areBest_212 : decode cL_areBest 212 = .ok (.iload 6, 2) := by decide +kernel
theorem dL_areBest_214 : decode cL_areBest 214 = .ok (.invokevirtual 35, 3) := by decide +kernel
theorem dL_areBest_217 : decode cL_areBest 217 = .ok (.istore 7, 2) := by decide +kernel
theorem dL_areBest_219 : decode cL_areBest 219 = .ok (.aload_n 0, 1) := by decide +kernel
theorem dL_areBest_220 : decode cL_areBest 220 = .ok (.invokevirtual 72, 3) := by decide +kernel
theorem dL_areBest_223 : decode cL_areBest 223 = .ok (.iload 5, 2) := by decide +kernel
theorem dL_areBest_225 : decode cL_areBest 225 = .ok (.if_icmp .lt 7, 3) := by decide +kernel
theorem dL_areBest_228 : decode cL_areBest 228 = .ok (.iconst 1, 1) := by decide +kernel
theorem dL_areBest_229 : decode cL_areBest 229 = .ok (.goto 4, 3) := by decide +kernel
theorem dL_areBest_232 : decode cL_areBest 232 = .ok (.iconst 0, 1) := by decide +kernel
theorem dL_areBest_233 : decode cL_areBest 233 = .ok (.istore 8, 2) := by decide +kernel
theorem dL_areBest_235 : decode cL_areBest 235 = .ok (.iload 6, 2) := by decide +kernel
theorem dL_areBest_237 : decode cL_areBest 237 = .ok (.ifCond .eq 8, 3) := by decide +kernel
theorem dL_areBest_240 : decode cL_areBest 240 = .ok (.iload 8, 2) := by decide +kernel
theorem dL_areBest_242 : decode cL_areBest 242 = .ok (.ifCond .ne 23, 3) := by decide +kernel
theorem dL_areBest_245 : decode cL_areBest 245 = .ok (.iload 8, 2) := by decide +kernel
theorem dL_areBest_247 : decode cL_areBest 247 = .ok (.ifCond .eq 16, 3) := by decide +kernel
theorem dL_areBest_250 : decode cL_areBest 250 = .ok (.aload_n 0, 1) := by decide +kernel
theorem dL_areBest_251 : decode cL_areBest 251 = .ok (.invokevirtual 80, 3) := by decide +kernel
theorem dL_areBest_254 : decode cL_areBest 254 = .ok (.iload 4, 2) := by decide +kernel
theorem dL_areBest_256 : decode cL_areBest 256 = .ok (.if_icmp .ne 7, 3) := by decide +kernel
theorem dL_areBest_259 : decode cL_areBest 259 = .ok (.iconst 1, 1) := by decide +kernel
theorem dL_areBest_260 : decode cL_areBest 260 = .ok (.goto 4, 3) := by decide +kernel
theorem dL_areBest_263 : decode cL_areBest 263 = .ok (.iconst 0, 1) := by decide +kernel
theorem dL_areBest_264 : decode cL_areBest 264 = .ok (.ireturn, 1) := by decide +kernel
theorem dL_areBest_265 : decode cL_areBest 265 = .ok (.aload_n 0, 1) := by decide +kernel
theorem dL_areBest_266 : decode cL_areBest 266 = .ok (.iload 6, 2) := by decide +kernel
theorem dL_areBest_268 : decode cL_areBest 268 = .ok (.iconst 1, 1) := by decide +kernel
theorem dL_areBest_269 : decode cL_areBest 269 = .ok (.isub, 1) := by decide +kernel
theorem dL_areBest_270 : decode cL_areBest 270 = .ok (.invokevirtual 35, 3) := by decide +kernel
theorem dL_areBest_273 : decode cL_areBest 273 = .ok (.iload 7, 2) := by decide +kernel
theorem dL_areBest_275 : decode cL_areBest 275 = .ok (.if_icmp .gt 36, 3) := by decide +kernel
theorem dL_areBest_278 : decode cL_areBest 278 = .ok (.aload_n 0, 1) := by decide +kernel
theorem dL_areBest_279 : decode cL_areBest 279 = .ok (.invokevirtual 72, 3) := by decide +kernel
theorem dL_areBest_282 : decode cL_areBest 282 = .ok (.iload 5, 2) := by decide +kernel
theorem dL_areBest_284 : decode cL_areBest 284 = .ok (.if_icmp .ge 27, 3) := by decide +kernel
theorem dL_areBest_287 : decode cL_areBest 287 = .ok (.aload_n 0, 1) := by decide +kernel
theorem dL_areBest_288 : decode cL_areBest 288 = .ok (.invokevirtual 80, 3) := by decide +kernel
theorem dL_areBest_291 : decode cL_areBest 291 = .ok (.iload 4, 2) := by decide +kernel
theorem dL_areBest_293 : decode cL_areBest 293 = .ok (.iconst 1, 1) := by decide +kernel
theorem dL_areBest_294 : decode cL_areBest 294 = .ok (.iadd, 1) := by decide +kernel
theorem dL_areBest_295 : decode cL_areBest 295 = .ok (.if_icmp .ne 16, 3) := by decide +kernel
theorem dL_areBest_298 : decode cL_areBest 298 = .ok (.aload_n 0, 1) := by decide +kernel
theorem dL_areBest_299 : decode cL_areBest 299 = .ok (.invokevirtual 80, 3) := by decide +kernel
theorem dL_areBest_302 : decode cL_areBest 302 = .ok (.iload 4, 2) := by decide +kernel
theorem dL_areBest_304 : decode cL_areBest 304 = .ok (.if_icmp .ne 7, 3) := by decide +kernel
theorem dL_areBest_307 : decode cL_areBest 307 = .ok (.iconst 1, 1) := by decide +kernel
theorem dL_areBest_308 : decode cL_areBest 308 = .ok (.goto 4, 3) := by decide +kernel
theorem dL_areBest_311 : decode cL_areBest 311 = .ok (.iconst 0, 1) := by decide +kernel
theorem dL_areBest_312 : decode cL_areBest 312 = .ok (.ireturn, 1) := by decide +kernel
set_option maxRecDepth 20000 in
theorem ggL_wears_X6_printsLeft : GoodIn wsL_wears wsX6_printsLeft := goodIn_r _ [5, 6, 7, 8, 9, 10, 11, 4, 12, 13, 14, 15, 16, 17, 18, 19, 20, 21, 22, 23, 24, 25, 26, 27, 28, 29, 30, 31, 32, 33, 34, 35, 36, 37, 38, 39, 40, 41, 42, 43, 44, 45, 46, 47, 48, 49, 50, 51, 52, 53, 54, 55, 56, 57, 58, 59, 60, 243, 244, 245, 246, 247, 248, 249, 250, 251, 252, 253, 254, 255, 256, 257, 258, 259, 260, 261, 262, 263] (by decide +kernel) (by decide +kernel)
set_option maxRecDepth 20000 in
theorem gL_wears_X6_printsLeft : GoodIn wsL_wears (wsV RL 86 RX6 yX6_printsLeft wsX6_printsLeft) := goodIn_app (goodIn_of _ (by decide +kernel)) ggL_wears_X6_printsLeft
set_option maxRecDepth 20000 in
theorem ggL_wears_X6_count : GoodIn wsL_wears wsX6_count := goodIn_r _ [64, 6, 65, 66, 67, 68, 7, 69, 70, 71, 72, 73, 74, 75, 76, 77, 78, 16, 79, 80, 81, 82, 83, 84, 18, 85, 86, 87, 88, 89, 90, 91, 92, 93, 94, 95, 96, 22, 97, 98, 99, 100, 101, 102, 31, 103, 33, 104, 105, 106, 107, 108, 109, 110, 111, 112, 113, 114, 4, 115, 8, 9, 10, 11, 12, 13, 14, 15, 17, 19, 20, 21, 23, 24, 25, 26, 27, 28, 29, 30, 32, 34, 35, 36, 37, 38, 116, 117, 118, 119, 120, 121, 122, 123, 124, 125, 126, 127, 128, 129, 130, 131, 132, 133, 134, 135, 136, 137, 138, 139, 243, 244, 245, 246, 247, 248, 249, 250, 251, 252, 253, 254, 255, 256, 257, 258, 259, 260, 261, 262, 263, 264, 265, 266, 267, 268, 269, 270, 271, 272, 273, 274, 275] (by decide +kernel) (by decide +kernel)
set_option maxRecDepth 20000 in
theorem gL_wears_X6_count : GoodIn wsL_wears (wsV RL 12 RX6 yX6_count wsX6_count) := goodIn_app (goodIn_of _ (by decide +kernel)) ggL_wears_X6_count
set_option maxRecDepth 20000 in
theorem ggL_wears_X6_print : GoodIn wsL_wears wsX6_print := goodIn_r _ [143, 6, 65, 74, 144, 145, 4, 146, 147, 148, 149, 131, 150, 151, 152, 133, 153, 44, 45, 46, 154, 155, 156, 16, 157, 158, 18, 159, 160, 161, 162, 163, 80, 89, 164, 165, 166, 126, 127, 167, 168, 169, 22, 170, 98, 99, 25, 171, 24, 172, 173, 174, 175, 31, 176, 33, 177, 178, 179, 180, 119, 181, 182, 183, 121, 184, 185, 186, 187, 188, 73, 7, 8, 9, 10, 11, 12, 13, 14, 15, 17, 19, 20, 21, 23, 26, 27, 28, 29, 30, 32, 34, 35, 36, 37, 38, 76, 77, 78, 79, 81, 82, 83, 84, 85, 86, 87, 88, 90, 91, 92, 93, 189, 190, 191, 192, 72, 193, 194, 195, 196, 197, 198, 199, 200, 201, 202, 105, 106, 107, 108, 109, 110, 203, 204, 205, 206, 207, 208, 209, 210, 211, 212, 213, 214, 215, 216, 217, 218, 219, 220, 221, 222, 223, 224, 225, 226, 227, 60, 55, 56, 57, 58, 59, 47, 48, 49, 50, 51, 52, 53, 54, 228, 229, 230, 231, 232, 233, 234, 243, 244, 245, 246, 247, 248, 249, 250, 251, 252, 253, 254, 255, 256, 257, 267, 268, 269, 258, 259, 260, 261, 262, 263, 264, 265, 266] (by decide +kernel) (by decide +kernel)
set_option maxRecDepth 20000 in
theorem gL_wears_X6_print : GoodIn wsL_wears (wsV RL 57 RX6 yX6_print wsX6_print) := goodIn_app (goodIn_of _ (by decide +kernel)) ggL_wears_X6_print
set_option maxRecDepth 20000 in
theorem ggL_wears_X6_proof : GoodIn wsL_wears wsX6_proof := goodIn_r _ [238, 6, 73, 144, 145, 4, 146, 116, 117, 118, 119, 120, 121, 239, 240, 241, 242, 184, 182, 243, 244, 245, 246, 247, 248, 249, 250, 251, 252, 253, 254, 255, 256, 257, 264, 265, 266] (by decide +kernel) (by decide +kernel)
set_option maxRecDepth 20000 in
theorem gL_wears_X6_proof : GoodIn wsL_wears (wsV RL 22 RX6 yX6_proof wsX6_proof) := goodIn_app (goodIn_of _ (by decide +kernel)) ggL_wears_X6_proof
theorem dL_wears_0 : decode cL_wears 0 = .ok (.aload_n 0, 1) := by decide +kernel
theorem dL_wears_1 : decode cL_wears 1 = .ok (.invokevirtual 86, 3) := by decide +kernel
theorem dL_wears_4 : decode cL_wears 4 = .ok (.istore_n 1, 1) := by decide +kernel
theorem dL_wears_5 : decode cL_wears 5 = .ok (.aload_n 0, 1) := by decide +kernel
theorem dL_wears_6 : decode cL_wears 6 = .ok (.bipush 15, 2) := by decide +kernel
theorem dL_wears_8 : decode cL_wears 8 = .ok (.invokevirtual 12, 3) := by decide +kernel
theorem dL_wears_11 : decode cL_wears 11 = .ok (.istore_n 2, 1) := by decide +kernel
theorem dL_wears_12 : decode cL_wears 12 = .ok (.aload_n 0, 1) := by decide +kernel
theorem dL_wears_13 : decode cL_wears 13 = .ok (.iconst 1, 1) := by decide +kernel
theorem dL_wears_14 : decode cL_wears 14 = .ok (.invokevirtual 12, 3) := by decide +kernel
theorem dL_wears_17 : decode cL_wears 17 = .ok (.istore_n 3, 1) := by decide +kernel
theorem dL_wears_18 : decode cL_wears 18 = .ok (.iload_n 1, 1) := by decide +kernel
theorem dL_wears_19 : decode cL_wears 19 = .ok (.ifCond .lt 9, 3) := by decide +kernel
theorem dL_wears_22 : decode cL_wears 22 = .ok (.iload_n 1, 1) := by decide +kernel
theorem dL_wears_23 : decode cL_wears 23 = .ok (.bipush 12, 2) := by decide +kernel
theorem dL_wears_25 : decode cL_wears 25 = .ok (.if_icmp .le 5, 3) := by decide +kernel
theorem dL_wears_28 : decode cL_wears 28 = .ok (.iconst 1, 1) := by decide +kernel
theorem dL_wears_29 : decode cL_wears 29 = .ok (.ireturn, 1) := by decide +kernel
theorem dL_wears_30 : decode cL_wears 30 = .ok (.iload_n 1, 1) := by decide +kernel
theorem dL_wears_31 : decode cL_wears 31 = .ok (.iconst 1, 1) := by decide +kernel
theorem dL_wears_32 : decode cL_wears 32 = .ok (.if_icmp .le 25, 3) := by decide +kernel
theorem dL_wears_35 : decode cL_wears 35 = .ok (.aload_n 0, 1) := by decide +kernel
theorem dL_wears_36 : decode cL_wears 36 = .ok (.iload_n 1, 1) := by decide +kernel
theorem dL_wears_37 : decode cL_wears 37 = .ok (.iconst 1, 1) := by decide +kernel
theorem dL_wears_38 : decode cL_wears 38 = .ok (.isub, 1) := by decide +kernel
theorem dL_wears_39 : decode cL_wears 39 = .ok (.invokevirtual 57, 3) := by decide +kernel
theorem dL_wears_42 : decode cL_wears 42 = .ok (.ifCond .lt 13, 3) := by decide +kernel
theorem dL_wears_45 : decode cL_wears 45 = .ok (.aload_n 0, 1) := by decide +kernel
theorem dL_wears_46 : decode cL_wears 46 = .ok (.bipush 15, 2) := by decide +kernel
theorem dL_wears_48 : decode cL_wears 48 = .ok (.invokevirtual 12, 3) := by decide +kernel
theorem dL_wears_51 : decode cL_wears 51 = .ok (.iload_n 2, 1) := by decide +kernel
theorem dL_wears_52 : decode cL_wears 52 = .ok (.if_icmp .eq 5, 3) := by decide +kernel
theorem dL_wears_55 : decode cL_wears 55 = .ok (.iconst 0, 1) := by decide +kernel
theorem dL_wears_56 : decode cL_wears 56 = .ok (.ireturn, 1) := by decide +kernel
theorem dL_wears_57 : decode cL_wears 57 = .ok (.aload_n 0, 1) := by decide +kernel
theorem dL_wears_58 : decode cL_wears 58 = .ok (.iconst 1, 1) := by decide +kernel
theorem dL_wears_59 : decode cL_wears 59 = .ok (.invokevirtual 12, 3) := by decide +kernel
theorem dL_wears_62 : decode cL_wears 62 = .ok (.istore 4, 2) := by decide +kernel
theorem dL_wears_64 : decode cL_wears 64 = .ok (.aload_n 0, 1) := by decide +kernel
theorem dL_wears_65 : decode cL_wears 65 = .ok (.iconst 1, 1) := by decide +kernel
theorem dL_wears_66 : decode cL_wears 66 = .ok (.invokevirtual 57, 3) := by decide +kernel
theorem dL_wears_69 : decode cL_wears 69 = .ok (.istore 5, 2) := by decide +kernel
theorem dL_wears_71 : decode cL_wears 71 = .ok (.iload 4, 2) := by decide +kernel
theorem dL_wears_73 : decode cL_wears 73 = .ok (.aload_n 0, 1) := by decide +kernel
theorem dL_wears_74 : decode cL_wears 74 = .ok (.iconst 5, 1) := by decide +kernel
theorem dL_wears_75 : decode cL_wears 75 = .ok (.invokevirtual 12, 3) := by decide +kernel
theorem dL_wears_78 : decode cL_wears 78 = .ok (.isub, 1) := by decide +kernel
theorem dL_wears_79 : decode cL_wears 79 = .ok (.istore 6, 2) := by decide +kernel
theorem dL_wears_81 : decode cL_wears 81 = .ok (.iload 4, 2) := by decide +kernel
theorem dL_wears_83 : decode cL_wears 83 = .ok (.iload_n 3, 1) := by decide +kernel
theorem dL_wears_84 : decode cL_wears 84 = .ok (.if_icmp .gt 61, 3) := by decide +kernel
theorem dL_wears_87 : decode cL_wears 87 = .ok (.iload 5, 2) := by decide +kernel
theorem dL_wears_89 : decode cL_wears 89 = .ok (.aload_n 0, 1) := by decide +kernel
theorem dL_wears_90 : decode cL_wears 90 = .ok (.iconst 0, 1) := by decide +kernel
theorem dL_wears_91 : decode cL_wears 91 = .ok (.iconst 3, 1) := by decide +kernel
theorem dL_wears_92 : decode cL_wears 92 = .ok (.invokevirtual 22, 3) := by decide +kernel
theorem dL_wears_95 : decode cL_wears 95 = .ok (.if_icmp .ne 50, 3) := by decide +kernel
theorem dL_wears_98 : decode cL_wears 98 = .ok (.aload_n 0, 1) := by decide +kernel
theorem dL_wears_99 : decode cL_wears 99 = .ok (.bipush 15, 2) := by decide +kernel
theorem dL_wears_101 : decode cL_wears 101 = .ok (.invokevirtual 12, 3) := by decide +kernel
theorem dL_wears_104 : decode cL_wears 104 = .ok (.iload_n 2, 1) := by decide +kernel
theorem dL_wears_105 : decode cL_wears 105 = .ok (.if_icmp .le 40, 3) := by decide +kernel
theorem dL_wears_108 : decode cL_wears 108 = .ok (.aload_n 0, 1) := by decide +kernel
theorem dL_wears_109 : decode cL_wears 109 = .ok (.iconst 1, 1) := by decide +kernel
theorem dL_wears_110 : decode cL_wears 110 = .ok (.invokevirtual 12, 3) := by decide +kernel
theorem dL_wears_113 : decode cL_wears 113 = .ok (.iload 6, 2) := by decide +kernel
theorem dL_wears_115 : decode cL_wears 115 = .ok (.ifCond .ge 7, 3) := by decide +kernel
theorem dL_wears_118 : decode cL_wears 118 = .ok (.iconst 0, 1) := by decide +kernel
theorem dL_wears_119 : decode cL_wears 119 = .ok (.goto 5, 3) := by decide +kernel
theorem dL_wears_122 : decode cL_wears 122 = .ok (.iload 6, 2) := by decide +kernel
theorem dL_wears_124 : decode cL_wears 124 = .ok (.if_icmp .ne 21, 3) := by decide +kernel
theorem dL_wears_127 : decode cL_wears 127 = .ok (.aload_n 0, 1) := by decide +kernel
theorem dL_wears_128 : decode cL_wears 128 = .ok (.iconst 0, 1) := by decide +kernel
theorem dL_wears_129 : decode cL_wears 129 = .ok (.iconst 0, 1) := by decide +kernel
theorem dL_wears_130 : decode cL_wears 130 = .ok (.invokevirtual 22, 3) := by decide +kernel
theorem dL_wears_133 : decode cL_wears 133 = .ok (.aload_n 0, 1) := by decide +kernel
theorem dL_wears_134 : decode cL_wears 134 = .ok (.iconst 0, 1) := by decide +kernel
theorem dL_wears_135 : decode cL_wears 135 = .ok (.invokevirtual 12, 3) := by decide +kernel
theorem dL_wears_138 : decode cL_wears 138 = .ok (.if_icmp .ne 7, 3) := by decide +kernel
theorem dL_wears_141 : decode cL_wears 141 = .ok (.iconst 1, 1) := by decide +kernel
theorem dL_wears_142 : decode cL_wears 142 = .ok (.goto 4, 3) := by decide +kernel
theorem dL_wears_145 : decode cL_wears 145 = .ok (.iconst 0, 1) := by decide +kernel
theorem dL_wears_146 : decode cL_wears 146 = .ok (.ireturn, 1) := by decide +kernel
set_option maxRecDepth 20000 in
theorem ggL_law_X6_init : GoodIn wsL_law wsX6_init := goodIn_r _ [5, 6, 7, 8, 9, 10, 11, 12, 13, 14, 15, 16, 17, 18, 19, 20, 21, 22, 23, 24, 25, 26, 27, 28, 29, 30, 31, 32, 33, 34, 35, 36, 37, 38, 39, 40, 41, 42, 43, 44, 45, 46, 47, 48, 49, 50, 51, 52, 53, 54, 55, 56, 57, 58, 59, 60, 61, 62, 63, 64, 65, 66, 67, 68, 69, 70, 71, 72, 73, 74, 75, 76, 77, 78, 79, 80, 81, 82, 83, 84, 85, 86, 87, 88, 89, 90, 91, 92, 93, 94, 479, 480, 481, 482, 483, 484, 485, 486, 487, 488, 474, 475, 476, 477, 478, 489, 490, 491, 492, 493, 494, 495, 496, 497, 498, 499, 500, 501, 502, 503, 504, 505, 506] (by decide +kernel) (by decide +kernel)
set_option maxRecDepth 20000 in
theorem gL_law_X6_init : GoodIn wsL_law (wsX6_init) := ggL_law_X6_init
set_option maxRecDepth 20000 in
theorem ggL_law_L_cell : GoodIn wsL_law wsL_cell := goodIn_r _ [98] (by decide +kernel) (by decide +kernel)
set_option maxRecDepth 20000 in
theorem gL_law_L_cell : GoodIn wsL_law (va_wsS RL 90 yL_cell wsL_cell) := goodIn_app (goodIn_of _ (by decide +kernel)) ggL_law_L_cell
set_option maxRecDepth 20000 in
theorem ggL_law_L_low : GoodIn wsL_law wsL_low := goodIn_r _ [101, 102] (by decide +kernel) (by decide +kernel)
set_option maxRecDepth 20000 in
theorem gL_law_L_low : GoodIn wsL_law (va_wsS RL 26 yL_low wsL_low) := goodIn_app (goodIn_of _ (by decide +kernel)) ggL_law_L_low
set_option maxRecDepth 20000 in
theorem ggL_law_X6_paint : GoodIn wsL_law wsX6_paint := goodIn_r _ [106, 16, 12, 107, 108, 109, 2, 110, 111, 112, 113, 114, 115, 116, 15, 117, 78, 80, 79, 118, 119, 120, 121, 122, 123, 124, 11, 125, 33, 35, 36, 37, 38, 39, 43, 44, 45, 46, 47, 48, 49, 50, 126, 127, 128, 32, 129, 56, 57, 58, 59, 60, 130, 131, 132, 133, 23, 134, 65, 135, 136, 137, 138, 42, 139, 70, 140, 71, 72, 141, 142, 143, 144, 145, 146, 147, 148, 149, 150, 151, 152, 153, 154, 155, 156, 157, 158, 474, 475, 476, 477, 478, 479, 480, 481, 482, 483, 484, 485, 486, 487, 488, 489, 490, 491, 499, 500, 501, 502, 503, 498, 504, 505, 506] (by decide +kernel) (by decide +kernel)
set_option maxRecDepth 20000 in
theorem gL_law_X6_paint : GoodIn wsL_law (wsV RL 31 RX6 yX6_paint wsX6_paint) := goodIn_app (goodIn_of _ (by decide +kernel)) ggL_law_X6_paint
set_option maxRecDepth 20000 in
theorem ggL_law_X6_cut : GoodIn wsL_law wsX6_cut := goodIn_r _ [162, 16, 12, 107, 163, 111, 112, 2, 113, 114, 115, 116, 15, 117, 78, 80, 79, 118, 119, 120, 121, 122, 123, 124, 11, 125, 33, 35, 36, 37, 38, 39, 43, 44, 45, 46, 47, 48, 49, 50, 126, 127, 128, 32, 129, 56, 57, 58, 59, 60, 130, 131, 132, 133, 23, 134, 65, 135, 136, 137, 138, 42, 139, 70, 140, 71, 72, 164, 165, 166, 167, 168, 169, 170, 171, 172, 173, 174, 175, 176, 177, 178, 179, 180, 181, 182, 183, 184, 185, 186, 187, 188, 189, 190, 191, 192, 193, 194, 474, 475, 476, 477, 478, 479, 480, 481, 482, 483, 484, 485, 486, 487, 488, 499, 500, 501, 502, 503, 489, 490, 491, 498, 504, 505, 506] (by decide +kernel) (by decide +kernel)
set_option maxRecDepth 20000 in
theorem gL_law_X6_cut : GoodIn wsL_law (wsV RL 35 RX6 yX6_cut wsX6_cut) := goodIn_app (goodIn_of _ (by decide +kernel)) ggL_law_X6_cut
set_option maxRecDepth 20000 in
theorem ggL_law_L_digest : GoodIn wsL_law wsL_digest := goodIn_r _ [197, 198, 199, 200, 201, 202, 2, 203, 12, 204, 205, 206, 207, 107, 208, 209, 210, 163, 211, 16, 20, 212, 213, 214, 11, 215, 44, 216, 217, 218, 219, 35, 220, 221, 222, 223, 45, 224, 225, 226, 227, 228, 229, 230, 32, 231, 56, 57, 232, 185, 186, 23, 187, 65, 188, 189, 190, 191, 192, 193, 194, 184, 233, 234, 235, 236, 24, 237, 238, 239, 240, 241, 242, 243, 244, 245, 246, 247, 248, 60, 58, 153, 154, 249, 181, 182, 183, 250, 251, 252, 253, 254, 255, 256, 257, 42, 258, 71, 259, 260, 261, 262, 49, 50, 263, 264, 265, 15, 266, 79, 267, 268, 269, 19, 270, 87, 271, 272, 273, 274, 108, 109, 110, 275, 146, 147, 148, 149, 150, 151, 152, 276, 277, 278, 279, 280, 281, 282, 283, 284, 285, 286, 287, 288, 289, 290, 111, 112, 113, 291, 292, 293, 294, 72, 70, 474, 475, 476, 477, 478, 479, 480, 481, 482, 483, 484, 485, 486, 487, 488, 499, 500, 501, 502, 503, 498, 504, 505, 506, 489, 490, 491, 492, 493, 494, 495, 496, 497] (by decide +kernel) (by decide +kernel)
set_option maxRecDepth 20000 in
theorem gL_law_L_digest : GoodIn wsL_law (va_wsS RL 93 yL_digest wsL_digest) := goodIn_app (goodIn_of _ (by decide +kernel)) ggL_law_L_digest
set_option maxRecDepth 20000 in
theorem ggL_law_L_act : GoodIn wsL_law wsL_act := goodIn_r _ [297, 99, 100, 97, 101, 102, 103, 104, 105, 2, 106, 16, 12, 107, 108, 109, 110, 111, 112, 113, 114, 115, 116, 15, 117, 78, 80, 79, 118, 119, 120, 121, 122, 123, 124, 11, 125, 33, 35, 36, 37, 38, 39, 43, 44, 45, 46, 47, 48, 49, 50, 126, 127, 128, 32, 129, 56, 57, 58, 59, 60, 130, 131, 132, 133, 23, 134, 65, 135, 136, 137, 138, 42, 139, 70, 140, 71, 72, 141, 142, 143, 144, 145, 146, 147, 148, 149, 150, 151, 152, 153, 154, 155, 156, 157, 158, 159, 160, 161, 162, 163, 164, 165, 166, 167, 168, 169, 170, 171, 172, 173, 174, 175, 176, 177, 178, 179, 180, 181, 182, 183, 184, 185, 186, 187, 188, 189, 190, 191, 192, 193, 194, 298, 299, 300, 301, 210, 276, 277, 302, 303, 304, 305, 306, 307, 308, 309, 310, 206, 207, 237, 238, 239, 240, 24, 241, 242, 243, 244, 245, 246, 247, 248, 249, 250, 251, 252, 253, 254, 212, 213, 214, 215, 216, 217, 218, 219, 220, 221, 222, 223, 224, 225, 226, 227, 311, 312, 313, 314, 315, 316, 317, 318, 319, 320, 321, 322, 323, 324, 325, 326, 327, 328, 329, 205, 330, 331, 332, 333, 334, 335, 336, 337, 338, 339, 340, 341, 228, 229, 230, 231, 232, 342, 343, 344, 345, 346, 347, 348, 349, 350, 351, 352, 353, 354, 355, 356, 357, 282, 283, 284, 285, 286, 279, 280, 281, 233, 234, 235, 236, 358, 359, 360, 361, 204, 362, 363, 364, 365, 211, 366, 367, 368, 369, 370, 371, 372, 373, 374, 375, 376, 377, 378, 379, 380, 381, 382, 383, 384, 385, 386, 387, 388, 389, 390, 391, 392, 393, 394, 395, 396, 397, 398, 399, 400, 401, 402, 403, 404, 405, 474, 475, 476, 477, 478, 479, 480, 481, 482, 483, 484, 485, 486, 487, 488, 489, 490, 491, 499, 500, 501, 502, 503, 498, 504, 505, 506] (by decide +kernel) (by decide +kernel)
set_option maxRecDepth 20000 in
theorem gL_law_L_act : GoodIn wsL_law (va_wsS RL 97 yL_act wsL_act) := goodIn_app (goodIn_of _ (by decide +kernel)) ggL_law_L_act
set_option maxRecDepth 20000 in
theorem ggL_law_X6_undo : GoodIn wsL_law wsX6_undo := goodIn_r _ [409, 16, 12, 263, 264, 265, 15, 266, 79, 410, 411, 412, 413, 80, 414, 404, 120, 405, 78, 122, 123, 124, 11, 125, 33, 35, 36, 37, 38, 39, 43, 44, 45, 46, 47, 48, 49, 50, 126, 127, 128, 32, 129, 56, 57, 58, 59, 60, 130, 131, 132, 133, 23, 134, 65, 135, 136, 137, 138, 42, 139, 70, 140, 71, 72, 474, 475, 476, 477, 478, 489, 490, 491, 479, 480, 481, 482, 483, 484, 485, 486, 487, 488, 499, 500, 501, 502, 503, 498, 504, 505, 506] (by decide +kernel) (by decide +kernel)
set_option maxRecDepth 20000 in
theorem gL_law_X6_undo : GoodIn wsL_law (wsV RL 80 RX6 yX6_undo wsX6_undo) := goodIn_app (goodIn_of _ (by decide +kernel)) ggL_law_X6_undo
set_option maxRecDepth 20000 in
theorem ggL_law_L_isRight : GoodIn wsL_law wsL_isRight := goodIn_r _ [417, 200, 201, 202, 2, 203, 12, 204, 205, 206, 207, 107, 208, 209, 210, 163, 211, 16, 20, 212, 213, 214, 11, 215, 44, 216, 217, 218, 219, 35, 220, 221, 222, 223, 45, 224, 225, 226, 227, 228, 229, 230, 32, 231, 56, 57, 232, 185, 186, 23, 187, 65, 188, 189, 190, 191, 192, 193, 194, 184, 233, 234, 235, 236, 24, 237, 238, 239, 240, 241, 242, 243, 244, 245, 246, 247, 248, 60, 58, 153, 154, 249, 181, 182, 183, 250, 251, 252, 253, 254, 255, 256, 257, 42, 258, 71, 259, 260, 261, 262, 49, 50, 263, 264, 265, 15, 266, 79, 267, 268, 269, 19, 270, 87, 418, 419, 420, 421, 108, 109, 110, 275, 146, 147, 148, 149, 150, 151, 152, 276, 422, 423, 424, 425, 282, 283, 284, 285, 286, 279, 280, 281, 271, 272, 273, 274, 277, 278, 426, 427, 428, 429, 430, 431, 432, 111, 112, 113, 433, 434, 435, 436, 311, 312, 313, 314, 315, 316, 317, 318, 319, 320, 321, 322, 180, 323, 371, 372, 373, 374, 375, 376, 377, 378, 379, 380, 381, 382, 437, 438, 439, 440, 441, 442, 474, 475, 476, 477, 478, 479, 480, 481, 482, 483, 484, 485, 486, 487, 488, 499, 500, 501, 502, 503, 498, 504, 505, 506, 489, 490, 491, 492, 493, 494, 495, 496, 497] (by decide +kernel) (by decide +kernel)
set_option maxRecDepth 20000 in
theorem gL_law_L_isRight : GoodIn wsL_law (va_wsS RL 101 yL_isRight wsL_isRight) := goodIn_app (goodIn_of _ (by decide +kernel)) ggL_law_L_isRight
set_option maxRecDepth 20000 in
theorem ggL_law_X6_set : GoodIn wsL_law wsX6_set := goodIn_r _ [327, 328, 329, 16, 12, 205, 111, 112, 2, 113, 114, 115, 116, 15, 117, 78, 80, 79, 118, 119, 120, 121, 122, 123, 124, 11, 125, 33, 35, 36, 37, 38, 39, 43, 44, 45, 46, 47, 48, 49, 50, 126, 127, 128, 32, 129, 56, 57, 58, 59, 60, 130, 131, 132, 133, 23, 134, 65, 135, 136, 137, 138, 42, 139, 70, 140, 71, 72, 474, 475, 476, 477, 478, 479, 480, 481, 482, 483, 484, 485, 486, 487, 488, 489, 490, 491, 499, 500, 501, 502, 503, 498, 504, 505, 506] (by decide +kernel) (by decide +kernel)
set_option maxRecDepth 20000 in
theorem gL_law_X6_set : GoodIn wsL_law (wsV RL 45 RX6 yX6_set wsX6_set) := goodIn_app (goodIn_of _ (by decide +kernel)) ggL_law_X6_set
set_option maxRecDepth 20000 in
theorem ggL_law_X6_print : GoodIn wsL_law wsX6_print := goodIn_r _ [361, 12, 204, 16, 111, 112, 2, 113, 114, 115, 116, 15, 117, 78, 80, 79, 118, 119, 120, 121, 122, 123, 124, 11, 125, 33, 35, 36, 37, 38, 39, 43, 44, 45, 46, 47, 48, 49, 50, 126, 127, 128, 32, 129, 56, 57, 58, 59, 60, 130, 131, 132, 133, 23, 134, 65, 135, 136, 137, 138, 42, 139, 70, 140, 71, 72, 362, 363, 364, 365, 211, 107, 24, 237, 238, 239, 240, 241, 242, 243, 244, 245, 246, 247, 248, 153, 154, 249, 181, 182, 183, 250, 251, 252, 253, 254, 212, 213, 214, 215, 216, 217, 218, 219, 220, 221, 222, 223, 224, 225, 226, 227, 311, 312, 313, 314, 163, 315, 316, 317, 318, 319, 320, 321, 322, 180, 323, 189, 190, 191, 192, 193, 194, 366, 367, 368, 369, 370, 371, 372, 373, 374, 375, 376, 377, 378, 379, 380, 381, 382, 383, 384, 385, 386, 387, 388, 389, 390, 149, 150, 151, 152, 109, 110, 391, 392, 393, 394, 395, 396, 397, 398, 399, 400, 401, 402, 403, 404, 405, 474, 475, 476, 477, 478, 479, 480, 481, 482, 483, 484, 485, 486, 487, 488, 489, 490, 491, 499, 500, 501, 502, 503, 498, 504, 505, 506] (by decide +kernel) (by decide +kernel)
set_option maxRecDepth 20000 in
theorem gL_law_X6_print : GoodIn wsL_law (wsV RL 57 RX6 yX6_print wsX6_print) := goodIn_app (goodIn_of _ (by decide +kernel)) ggL_law_X6_print
set_option maxRecDepth 20000 in
theorem ggL_law_X6_why : GoodIn wsL_law wsX6_why := goodIn_r _ [421, 12, 107, 24, 108, 109, 2, 110, 237, 238, 239, 240, 241, 242, 243, 11, 244, 35, 245, 246, 247, 32, 248, 60, 58, 153, 154, 249, 181, 182, 23, 183, 65, 250, 251, 252, 253, 254, 275, 146, 147, 148, 57, 56, 149, 150, 151, 152, 276, 212, 213, 214, 215, 44, 216, 217, 218, 219, 220, 221, 222, 223, 45, 224, 225, 226, 227, 422, 423, 424, 425, 163, 282, 283, 284, 285, 286, 279, 280, 281, 474, 475, 476, 477, 478, 479, 480, 481, 482, 483, 484, 485, 486, 487, 488, 499, 500, 501, 502, 503, 498] (by decide +kernel) (by decide +kernel)
set_option maxRecDepth 20000 in
theorem gL_law_X6_why : GoodIn wsL_law (wsV RL 60 RX6 yX6_why wsX6_why) := goodIn_app (goodIn_of _ (by decide +kernel)) ggL_law_X6_why
set_option maxRecDepth 20000 in
theorem ggL_law_X6_trapFor : GoodIn wsL_law wsX6_trapFor := goodIn_r _ [446, 12, 107, 25, 209, 111, 112, 2, 113, 447, 173, 174, 32, 175, 56, 57, 131, 132, 133, 23, 134, 65, 135, 37, 38, 39, 176, 177, 178, 179, 180, 181, 182, 183, 448, 449, 450, 451, 315, 316, 317, 318, 249, 319, 320, 321, 322, 254, 323, 189, 190, 191, 192, 193, 194, 474, 475, 476, 477, 478, 479, 480, 481, 482, 483, 484, 485, 486, 487, 488, 499, 500, 501, 502, 503, 498] (by decide +kernel) (by decide +kernel)
set_option maxRecDepth 20000 in
theorem gL_law_X6_trapFor : GoodIn wsL_law (wsV RL 83 RX6 yX6_trapFor wsX6_trapFor) := goodIn_app (goodIn_of _ (by decide +kernel)) ggL_law_X6_trapFor
set_option maxRecDepth 20000 in
theorem ggL_law_X6_proof : GoodIn wsL_law wsX6_proof := goodIn_r _ [290, 12, 211, 111, 112, 2, 113, 255, 256, 257, 42, 258, 71, 291, 292, 293, 294, 72, 70, 474, 475, 476, 477, 478, 479, 480, 481, 482, 483, 484, 485, 486, 487, 488, 504, 505, 506] (by decide +kernel) (by decide +kernel)
set_option maxRecDepth 20000 in
theorem gL_law_X6_proof : GoodIn wsL_law (wsV RL 22 RX6 yX6_proof wsX6_proof) := goodIn_app (goodIn_of _ (by decide +kernel)) ggL_law_X6_proof
set_option maxRecDepth 20000 in
theorem ggL_law_L_areBest : GoodIn wsL_law wsL_areBest := goodIn_r _ [454, 455, 456, 457, 2, 458, 24, 12, 107, 163, 237, 238, 239, 240, 241, 242, 243, 11, 244, 35, 245, 246, 247, 32, 248, 60, 58, 153, 154, 249, 181, 182, 23, 183, 65, 250, 251, 252, 253, 254, 448, 449, 450, 451, 315, 316, 317, 318, 56, 57, 319, 320, 321, 322, 180, 323, 189, 190, 191, 192, 193, 194, 459, 460, 97, 461, 433, 434, 435, 436, 430, 431, 432, 111, 112, 113, 311, 312, 313, 314, 371, 372, 373, 374, 375, 376, 377, 378, 379, 380, 381, 382, 437, 438, 439, 440, 441, 217, 218, 219, 442, 225, 226, 227, 307, 308, 309, 310, 16, 206, 207, 114, 115, 116, 15, 117, 78, 80, 79, 118, 119, 120, 121, 122, 123, 124, 125, 33, 36, 37, 38, 39, 43, 44, 45, 46, 47, 48, 49, 50, 126, 127, 128, 129, 59, 130, 131, 132, 133, 134, 135, 136, 137, 138, 42, 139, 70, 140, 71, 72, 212, 213, 214, 215, 216, 220, 221, 222, 223, 224, 200, 201, 202, 203, 204, 205, 208, 209, 210, 211, 20, 228, 229, 230, 231, 232, 185, 186, 187, 188, 184, 233, 234, 235, 236, 255, 256, 257, 258, 259, 260, 261, 262, 263, 264, 265, 266, 267, 268, 269, 19, 270, 87, 406, 407, 408, 409, 410, 411, 412, 413, 414, 404, 405, 99, 100, 101, 102, 443, 444, 445, 446, 25, 447, 173, 174, 175, 176, 177, 178, 179, 159, 160, 161, 162, 164, 165, 166, 167, 168, 169, 170, 171, 172, 474, 475, 476, 477, 478, 479, 480, 481, 482, 483, 484, 485, 486, 487, 488, 499, 500, 501, 502, 503, 498, 489, 490, 491, 504, 505, 506, 492, 493, 494, 495, 496, 497] (by decide +kernel) (by decide +kernel)
set_option maxRecDepth 20000 in
theorem gL_law_L_areBest : GoodIn wsL_law (va_wsS RL 105 yL_areBest wsL_areBest) := goodIn_app (goodIn_of _ (by decide +kernel)) ggL_law_L_areBest
set_option maxRecDepth 20000 in
theorem ggL_law_L_wears : GoodIn wsL_law wsL_wears := goodIn_r _ [464, 465, 466, 467, 2, 468, 12, 107, 24, 237, 238, 239, 240, 241, 242, 243, 11, 244, 35, 245, 246, 247, 32, 248, 60, 58, 153, 154, 249, 181, 182, 23, 183, 65, 250, 251, 252, 253, 254, 469, 470, 471, 472, 473, 119, 120, 121, 391, 392, 393, 394, 395, 396, 397, 398, 150, 151, 152, 109, 110, 149, 200, 201, 202, 203, 204, 205, 206, 207, 208, 209, 210, 163, 211, 16, 20, 212, 213, 214, 215, 44, 216, 217, 218, 219, 220, 221, 222, 223, 45, 224, 225, 226, 227, 228, 229, 230, 231, 56, 57, 232, 185, 186, 187, 188, 189, 190, 191, 192, 193, 194, 184, 233, 234, 235, 236, 255, 256, 257, 42, 258, 71, 259, 260, 261, 262, 49, 50, 263, 264, 265, 15, 266, 79, 267, 268, 269, 19, 270, 87, 358, 359, 360, 361, 111, 112, 113, 114, 115, 116, 117, 78, 80, 118, 122, 123, 124, 125, 33, 36, 37, 38, 39, 43, 46, 47, 48, 126, 127, 128, 129, 59, 130, 131, 132, 133, 134, 135, 136, 137, 138, 139, 70, 140, 72, 362, 363, 364, 365, 311, 312, 313, 314, 315, 316, 317, 318, 319, 320, 321, 322, 180, 323, 366, 367, 368, 369, 370, 371, 372, 373, 374, 375, 376, 377, 378, 379, 380, 381, 382, 383, 384, 385, 386, 387, 388, 389, 390, 399, 400, 401, 402, 403, 404, 405, 287, 288, 289, 290, 291, 292, 293, 294, 474, 475, 476, 477, 478, 479, 480, 481, 482, 483, 484, 485, 486, 487, 488, 499, 500, 501, 502, 503, 498, 504, 505, 506, 489, 490, 491, 492, 493, 494, 495, 496, 497] (by decide +kernel) (by decide +kernel)
set_option maxRecDepth 20000 in
theorem gL_law_L_wears : GoodIn wsL_law (va_wsS RL 108 yL_wears wsL_wears) := goodIn_app (goodIn_of _ (by decide +kernel)) ggL_law_L_wears
theorem dL_law_0 : decode cL_law 0 = .ok (.new 13, 3) := by decide +kernel
theorem dL_law_3 : decode cL_law 3 = .ok (.dup, 1) := by decide +kernel
theorem dL_law_4 : decode cL_law 4 = .ok (.invokespecial 89, 3) := by decide +kernel
theorem dL_law_7 : decode cL_law 7 = .ok (.astore_n 1, 1) := by decide +kernel
theorem dL_law_8 : decode cL_law 8 = .ok (.aload_n 0, 1) := by decide +kernel
theorem dL_law_9 : decode cL_law 9 = .ok (.iconst 0, 1) := by decide +kernel
theorem dL_law_10 : decode cL_law 10 = .ok (.invokestatic 90, 3) := by decide +kernel
theorem dL_law_13 : decode cL_law 13 = .ok (.istore_n 2, 1) := by decide +kernel
theorem dL_law_14 : decode cL_law 14 = .ok (.iload_n 2, 1) := by decide +kernel
theorem dL_law_15 : decode cL_law 15 = .ok (.iconst 4, 1) := by decide +kernel
theorem dL_law_16 : decode cL_law 16 = .ok (.ishr, 1) := by decide +kernel
theorem dL_law_17 : decode cL_law 17 = .ok (.bipush 8, 2) := by decide +kernel
theorem dL_law_19 : decode cL_law 19 = .ok (.invokestatic 26, 3) := by decide +kernel
theorem dL_law_22 : decode cL_law 22 = .ok (.istore_n 3, 1) := by decide +kernel
theorem dL_law_23 : decode cL_law 23 = .ok (.aload_n 1, 1) := by decide +kernel
theorem dL_law_24 : decode cL_law 24 = .ok (.iload_n 3, 1) := by decide +kernel
theorem dL_law_25 : decode cL_law 25 = .ok (.iconst 2, 1) := by decide +kernel
theorem dL_law_26 : decode cL_law 26 = .ok (.bipush 6, 2) := by decide +kernel
theorem dL_law_28 : decode cL_law 28 = .ok (.bipush 8, 2) := by decide +kernel
theorem dL_law_30 : decode cL_law 30 = .ok (.iconst 1, 1) := by decide +kernel
theorem dL_law_31 : decode cL_law 31 = .ok (.invokevirtual 31, 3) := by decide +kernel
theorem dL_law_34 : decode cL_law 34 = .ok (.pop, 1) := by decide +kernel
theorem dL_law_35 : decode cL_law 35 = .ok (.aload_n 1, 1) := by decide +kernel
theorem dL_law_36 : decode cL_law 36 = .ok (.iload_n 3, 1) := by decide +kernel
theorem dL_law_37 : decode cL_law 37 = .ok (.iconst 2, 1) := by decide +kernel
theorem dL_law_38 : decode cL_law 38 = .ok (.iadd, 1) := by decide +kernel
theorem dL_law_39 : decode cL_law 39 = .ok (.iload_n 2, 1) := by decide +kernel
theorem dL_law_40 : decode cL_law 40 = .ok (.bipush 8, 2) := by decide +kernel
theorem dL_law_42 : decode cL_law 42 = .ok (.ishr, 1) := by decide +kernel
theorem dL_law_43 : decode cL_law 43 = .ok (.iconst 3, 1) := by decide +kernel
theorem dL_law_44 : decode cL_law 44 = .ok (.invokestatic 26, 3) := by decide +kernel
theorem dL_law_47 : decode cL_law 47 = .ok (.iconst 1, 1) := by decide +kernel
theorem dL_law_48 : decode cL_law 48 = .ok (.iload_n 2, 1) := by decide +kernel
theorem dL_law_49 : decode cL_law 49 = .ok (.bipush 12, 2) := by decide +kernel
theorem dL_law_51 : decode cL_law 51 = .ok (.ishr, 1) := by decide +kernel
theorem dL_law_52 : decode cL_law 52 = .ok (.iconst 3, 1) := by decide +kernel
theorem dL_law_53 : decode cL_law 53 = .ok (.invokestatic 26, 3) := by decide +kernel
theorem dL_law_56 : decode cL_law 56 = .ok (.iadd, 1) := by decide +kernel
theorem dL_law_57 : decode cL_law 57 = .ok (.bipush 9, 2) := by decide +kernel
theorem dL_law_59 : decode cL_law 59 = .ok (.iconst 2, 1) := by decide +kernel
theorem dL_law_60 : decode cL_law 60 = .ok (.invokevirtual 31, 3) := by decide +kernel
theorem dL_law_63 : decode cL_law 63 = .ok (.pop, 1) := by decide +kernel
theorem dL_law_64 : decode cL_law 64 = .ok (.aload_n 1, 1) := by decide +kernel
theorem dL_law_65 : decode cL_law 65 = .ok (.iload_n 2, 1) := by decide +kernel
theorem dL_law_66 : decode cL_law 66 = .ok (.bipush 16, 2) := by decide +kernel
theorem dL_law_68 : decode cL_law 68 = .ok (.ishr, 1) := by decide +kernel
theorem dL_law_69 : decode cL_law 69 = .ok (.iconst 5, 1) := by decide +kernel
theorem dL_law_70 : decode cL_law 70 = .ok (.invokestatic 26, 3) := by decide +kernel
theorem dL_law_73 : decode cL_law 73 = .ok (.invokevirtual 35, 3) := by decide +kernel
theorem dL_law_76 : decode cL_law 76 = .ok (.pop, 1) := by decide +kernel
theorem dL_law_77 : decode cL_law 77 = .ok (.iconst 1, 1) := by decide +kernel
theorem dL_law_78 : decode cL_law 78 = .ok (.istore 4, 2) := by decide +kernel
theorem dL_law_80 : decode cL_law 80 = .ok (.iload 4, 2) := by decide +kernel
theorem dL_law_82 : decode cL_law 82 = .ok (.bipush 13, 2) := by decide +kernel
theorem dL_law_84 : decode cL_law 84 = .ok (.if_icmp .ge 132, 3) := by decide +kernel
theorem dL_law_87 : decode cL_law 87 = .ok (.aload_n 0, 1) := by decide +kernel
theorem dL_law_88 : decode cL_law 88 = .ok (.iload 4, 2) := by decide +kernel
theorem dL_law_90 : decode cL_law 90 = .ok (.invokestatic 90, 3) := by decide +kernel
theorem dL_law_93 : decode cL_law 93 = .ok (.istore 5, 2) := by decide +kernel
theorem dL_law_95 : decode cL_law 95 = .ok (.aload_n 1, 1) := by decide +kernel
theorem dL_law_96 : decode cL_law 96 = .ok (.invokestatic 93, 3) := by decide +kernel
theorem dL_law_99 : decode cL_law 99 = .ok (.lstore 6, 2) := by decide +kernel
theorem dL_law_101 : decode cL_law 101 = .ok (.aload_n 1, 1) := by decide +kernel
theorem dL_law_102 : decode cL_law 102 = .ok (.iload 5, 2) := by decide +kernel
theorem dL_law_104 : decode cL_law 104 = .ok (.invokestatic 97, 3) := by decide +kernel
theorem dL_law_107 : decode cL_law 107 = .ok (.istore 8, 2) := by decide +kernel
theorem dL_law_109 : decode cL_law 109 = .ok (.iload 8, 2) := by decide +kernel
theorem dL_law_111 : decode cL_law 111 = .ok (.sipush (-1001), 3) := by decide +kernel
theorem dL_law_114 : decode cL_law 114 = .ok (.if_icmp .eq 19, 3) := by decide +kernel
theorem dL_law_117 : decode cL_law 117 = .ok (.iload 8, 2) := by decide +kernel
theorem dL_law_119 : decode cL_law 119 = .ok (.sipush (-1002), 3) := by decide +kernel
theorem dL_law_122 : decode cL_law 122 = .ok (.if_icmp .eq 11, 3) := by decide +kernel
theorem dL_law_125 : decode cL_law 125 = .ok (.iload 8, 2) := by decide +kernel
theorem dL_law_127 : decode cL_law 127 = .ok (.sipush (-1003), 3) := by decide +kernel
theorem dL_law_130 : decode cL_law 130 = .ok (.if_icmp .ne 7, 3) := by decide +kernel
theorem dL_law_133 : decode cL_law 133 = .ok (.iconst 1, 1) := by decide +kernel
theorem dL_law_134 : decode cL_law 134 = .ok (.goto 4, 3) := by decide +kernel
theorem dL_law_137 : decode cL_law 137 = .ok (.iconst 0, 1) := by decide +kernel
theorem dL_law_138 : decode cL_law 138 = .ok (.istore 9, 2) := by decide +kernel
theorem dL_law_140 : decode cL_law 140 = .ok (.iload 9, 2) := by decide +kernel
theorem dL_law_142 : decode cL_law 142 = .ok (.ifCond .eq 15, 3) := by decide +kernel
theorem dL_law_145 : decode cL_law 145 = .ok (.aload_n 1, 1) := by decide +kernel
theorem dL_law_146 : decode cL_law 146 = .ok (.invokestatic 93, 3) := by decide +kernel
theorem dL_law_149 : decode cL_law 149 = .ok (.lload 6, 2) := by decide +kernel
theorem dL_law_151 : decode cL_law 151 = .ok (.lcmp, 1) := by decide +kernel
theorem dL_law_152 : decode cL_law 152 = .ok (.ifCond .eq 5, 3) := by decide +kernel
theorem dL_law_155 : decode cL_law 155 = .ok (.iconst 0, 1) := by decide +kernel
theorem dL_law_156 : decode cL_law 156 = .ok (.ireturn, 1) := by decide +kernel
theorem dL_law_157 : decode cL_law 157 = .ok (.iload 9, 2) := by decide +kernel
theorem dL_law_159 : decode cL_law 159 = .ok (.ifCond .ne 35, 3) := by decide +kernel
theorem dL_law_162 : decode cL_law 162 = .ok (.iload 4, 2) := by decide +kernel
theorem dL_law_164 : decode cL_law 164 = .ok (.iconst 3, 1) := by decide +kernel
theorem dL_law_165 : decode cL_law 165 = .ok (.iand, 1) := by decide +kernel
theorem dL_law_166 : decode cL_law 166 = .ok (.iconst 1, 1) := by decide +kernel
theorem dL_law_167 : decode cL_law 167 = .ok (.if_icmp .ne 27, 3) := by decide +kernel
theorem dL_law_170 : decode cL_law 170 = .ok (.aload_n 1, 1) := by decide +kernel
theorem dL_law_171 : decode cL_law 171 = .ok (.invokevirtual 80, 3) := by decide +kernel
theorem dL_law_174 : decode cL_law 174 = .ok (.pop, 1) := by decide +kernel
theorem dL_law_175 : decode cL_law 175 = .ok (.aload_n 1, 1) := by decide +kernel
theorem dL_law_176 : decode cL_law 176 = .ok (.invokestatic 93, 3) := by decide +kernel
theorem dL_law_179 : decode cL_law 179 = .ok (.lload 6, 2) := by decide +kernel
theorem dL_law_181 : decode cL_law 181 = .ok (.lcmp, 1) := by decide +kernel
theorem dL_law_182 : decode cL_law 182 = .ok (.ifCond .eq 5, 3) := by decide +kernel
theorem dL_law_185 : decode cL_law 185 = .ok (.iconst 0, 1) := by decide +kernel
theorem dL_law_186 : decode cL_law 186 = .ok (.ireturn, 1) := by decide +kernel
theorem dL_law_187 : decode cL_law 187 = .ok (.aload_n 1, 1) := by decide +kernel
theorem dL_law_188 : decode cL_law 188 = .ok (.iload 5, 2) := by decide +kernel
theorem dL_law_190 : decode cL_law 190 = .ok (.invokestatic 97, 3) := by decide +kernel
theorem dL_law_193 : decode cL_law 193 = .ok (.pop, 1) := by decide +kernel
theorem dL_law_194 : decode cL_law 194 = .ok (.iload 4, 2) := by decide +kernel
theorem dL_law_196 : decode cL_law 196 = .ok (.iconst 3, 1) := by decide +kernel
theorem dL_law_197 : decode cL_law 197 = .ok (.iand, 1) := by decide +kernel
theorem dL_law_198 : decode cL_law 198 = .ok (.ifCond .ne 12, 3) := by decide +kernel
theorem dL_law_201 : decode cL_law 201 = .ok (.aload_n 1, 1) := by decide +kernel
theorem dL_law_202 : decode cL_law 202 = .ok (.invokestatic 101, 3) := by decide +kernel
theorem dL_law_205 : decode cL_law 205 = .ok (.ifCond .ne 5, 3) := by decide +kernel
theorem dL_law_208 : decode cL_law 208 = .ok (.iconst 0, 1) := by decide +kernel
theorem dL_law_209 : decode cL_law 209 = .ok (.ireturn, 1) := by decide +kernel
theorem dL_law_210 : decode cL_law 210 = .ok (.iinc 4 1, 3) := by decide +kernel
theorem dL_law_213 : decode cL_law 213 = .ok (.goto (-133), 3) := by decide +kernel
theorem dL_law_216 : decode cL_law 216 = .ok (.aload_n 1, 1) := by decide +kernel
theorem dL_law_217 : decode cL_law 217 = .ok (.invokestatic 93, 3) := by decide +kernel
theorem dL_law_220 : decode cL_law 220 = .ok (.lstore 4, 2) := by decide +kernel
theorem dL_law_222 : decode cL_law 222 = .ok (.aload_n 1, 1) := by decide +kernel
theorem dL_law_223 : decode cL_law 223 = .ok (.iconst 0, 1) := by decide +kernel
theorem dL_law_224 : decode cL_law 224 = .ok (.iconst 0, 1) := by decide +kernel
theorem dL_law_225 : decode cL_law 225 = .ok (.bipush 17, 2) := by decide +kernel
theorem dL_law_227 : decode cL_law 227 = .ok (.iconst 1, 1) := by decide +kernel
theorem dL_law_228 : decode cL_law 228 = .ok (.iconst 0, 1) := by decide +kernel
theorem dL_law_229 : decode cL_law 229 = .ok (.invokevirtual 31, 3) := by decide +kernel
theorem dL_law_232 : decode cL_law 232 = .ok (.sipush (-1001), 3) := by decide +kernel
theorem dL_law_235 : decode cL_law 235 = .ok (.if_icmp .ne 86, 3) := by decide +kernel
theorem dL_law_238 : decode cL_law 238 = .ok (.aload_n 1, 1) := by decide +kernel
theorem dL_law_239 : decode cL_law 239 = .ok (.iconst 3, 1) := by decide +kernel
theorem dL_law_240 : decode cL_law 240 = .ok (.iconst 0, 1) := by decide +kernel
theorem dL_law_241 : decode cL_law 241 = .ok (.invokevirtual 45, 3) := by decide +kernel
theorem dL_law_244 : decode cL_law 244 = .ok (.sipush (-1001), 3) := by decide +kernel
theorem dL_law_247 : decode cL_law 247 = .ok (.if_icmp .ne 74, 3) := by decide +kernel
theorem dL_law_250 : decode cL_law 250 = .ok (.aload_n 1, 1) := by decide +kernel
theorem dL_law_251 : decode cL_law 251 = .ok (.bipush 101, 2) := by decide +kernel
theorem dL_law_253 : decode cL_law 253 = .ok (.invokevirtual 57, 3) := by decide +kernel
theorem dL_law_256 : decode cL_law 256 = .ok (.sipush (-1001), 3) := by decide +kernel
theorem dL_law_259 : decode cL_law 259 = .ok (.if_icmp .ne 62, 3) := by decide +kernel
theorem dL_law_262 : decode cL_law 262 = .ok (.aload_n 1, 1) := by decide +kernel
theorem dL_law_263 : decode cL_law 263 = .ok (.bipush 16, 2) := by decide +kernel
theorem dL_law_265 : decode cL_law 265 = .ok (.iconst 0, 1) := by decide +kernel
theorem dL_law_266 : decode cL_law 266 = .ok (.invokevirtual 60, 3) := by decide +kernel
theorem dL_law_269 : decode cL_law 269 = .ok (.sipush (-1001), 3) := by decide +kernel
theorem dL_law_272 : decode cL_law 272 = .ok (.if_icmp .ne 49, 3) := by decide +kernel
theorem dL_law_275 : decode cL_law 275 = .ok (.aload_n 1, 1) := by decide +kernel
theorem dL_law_276 : decode cL_law 276 = .ok (.iconst 5, 1) := by decide +kernel
theorem dL_law_277 : decode cL_law 277 = .ok (.invokevirtual 83, 3) := by decide +kernel
theorem dL_law_280 : decode cL_law 280 = .ok (.sipush (-1001), 3) := by decide +kernel
theorem dL_law_283 : decode cL_law 283 = .ok (.if_icmp .ne 38, 3) := by decide +kernel
theorem dL_law_286 : decode cL_law 286 = .ok (.aload_n 1, 1) := by decide +kernel
theorem dL_law_287 : decode cL_law 287 = .ok (.iconst (-1), 1) := by decide +kernel
theorem dL_law_288 : decode cL_law 288 = .ok (.iconst 0, 1) := by decide +kernel
theorem dL_law_289 : decode cL_law 289 = .ok (.invokevirtual 22, 3) := by decide +kernel
theorem dL_law_292 : decode cL_law 292 = .ok (.sipush (-1001), 3) := by decide +kernel
theorem dL_law_295 : decode cL_law 295 = .ok (.if_icmp .ne 26, 3) := by decide +kernel
theorem dL_law_298 : decode cL_law 298 = .ok (.aload_n 1, 1) := by decide +kernel
theorem dL_law_299 : decode cL_law 299 = .ok (.bipush 12, 2) := by decide +kernel
theorem dL_law_301 : decode cL_law 301 = .ok (.iconst 0, 1) := by decide +kernel
theorem dL_law_302 : decode cL_law 302 = .ok (.invokevirtual 22, 3) := by decide +kernel
theorem dL_law_305 : decode cL_law 305 = .ok (.sipush (-1009), 3) := by decide +kernel
theorem dL_law_308 : decode cL_law 308 = .ok (.if_icmp .ne 13, 3) := by decide +kernel
theorem dL_law_311 : decode cL_law 311 = .ok (.aload_n 1, 1) := by decide +kernel
theorem dL_law_312 : decode cL_law 312 = .ok (.invokestatic 93, 3) := by decide +kernel
theorem dL_law_315 : decode cL_law 315 = .ok (.lload 4, 2) := by decide +kernel
theorem dL_law_317 : decode cL_law 317 = .ok (.lcmp, 1) := by decide +kernel
theorem dL_law_318 : decode cL_law 318 = .ok (.ifCond .eq 5, 3) := by decide +kernel
theorem dL_law_321 : decode cL_law 321 = .ok (.iconst 0, 1) := by decide +kernel
theorem dL_law_322 : decode cL_law 322 = .ok (.ireturn, 1) := by decide +kernel
theorem dL_law_323 : decode cL_law 323 = .ok (.aload_n 1, 1) := by decide +kernel
theorem dL_law_324 : decode cL_law 324 = .ok (.invokevirtual 80, 3) := by decide +kernel
theorem dL_law_327 : decode cL_law 327 = .ok (.pop, 1) := by decide +kernel
theorem dL_law_328 : decode cL_law 328 = .ok (.aload_n 1, 1) := by decide +kernel
theorem dL_law_329 : decode cL_law 329 = .ok (.invokevirtual 80, 3) := by decide +kernel
theorem dL_law_332 : decode cL_law 332 = .ok (.pop, 1) := by decide +kernel
theorem dL_law_333 : decode cL_law 333 = .ok (.aload_n 1, 1) := by decide +kernel
theorem dL_law_334 : decode cL_law 334 = .ok (.invokevirtual 80, 3) := by decide +kernel
theorem dL_law_337 : decode cL_law 337 = .ok (.pop, 1) := by decide +kernel
theorem dL_law_338 : decode cL_law 338 = .ok (.aload_n 1, 1) := by decide +kernel
theorem dL_law_339 : decode cL_law 339 = .ok (.aload_n 0, 1) := by decide +kernel
theorem dL_law_340 : decode cL_law 340 = .ok (.bipush 13, 2) := by decide +kernel
theorem dL_law_342 : decode cL_law 342 = .ok (.invokestatic 90, 3) := by decide +kernel
theorem dL_law_345 : decode cL_law 345 = .ok (.invokestatic 105, 3) := by decide +kernel
theorem dL_law_348 : decode cL_law 348 = .ok (.ifCond .eq 21, 3) := by decide +kernel
theorem dL_law_351 : decode cL_law 351 = .ok (.aload_n 1, 1) := by decide +kernel
theorem dL_law_352 : decode cL_law 352 = .ok (.invokestatic 101, 3) := by decide +kernel
theorem dL_law_355 : decode cL_law 355 = .ok (.ifCond .eq 14, 3) := by decide +kernel
theorem dL_law_358 : decode cL_law 358 = .ok (.aload_n 1, 1) := by decide +kernel
theorem dL_law_359 : decode cL_law 359 = .ok (.invokestatic 108, 3) := by decide +kernel
theorem dL_law_362 : decode cL_law 362 = .ok (.ifCond .eq 7, 3) := by decide +kernel
theorem dL_law_365 : decode cL_law 365 = .ok (.iconst 1, 1) := by decide +kernel
theorem dL_law_366 : decode cL_law 366 = .ok (.goto 4, 3) := by decide +kernel
theorem dL_law_369 : decode cL_law 369 = .ok (.iconst 0, 1) := by decide +kernel
theorem dL_law_370 : decode cL_law 370 = .ok (.ireturn, 1) := by decide +kernel
