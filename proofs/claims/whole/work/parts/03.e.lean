theorem dX7_init_0 : decode cX7_init 0 = .ok (.aload_n 0, 1) := by decide +kernel
theorem dX7_init_1 : decode cX7_init 1 = .ok (.invokespecial 1, 3) := by decide +kernel
theorem dX7_init_4 : decode cX7_init 4 = .ok (.aload_n 0, 1) := by decide +kernel
theorem dX7_init_5 : decode cX7_init 5 = .ok (.sipush 2374, 3) := by decide +kernel
theorem dX7_init_8 : decode cX7_init 8 = .ok (.newarray .int, 2) := by decide +kernel
theorem dX7_init_10 : decode cX7_init 10 = .ok (.putfield 7, 3) := by decide +kernel
theorem dX7_init_13 : decode cX7_init 13 = .ok (.aload_n 0, 1) := by decide +kernel
theorem dX7_init_14 : decode cX7_init 14 = .ok (.sipush 11870, 3) := by decide +kernel
theorem dX7_init_17 : decode cX7_init 17 = .ok (.newarray .int, 2) := by decide +kernel
theorem dX7_init_19 : decode cX7_init 19 = .ok (.putfield 13, 3) := by decide +kernel
theorem dX7_init_22 : decode cX7_init 22 = .ok (.aload_n 0, 1) := by decide +kernel
theorem dX7_init_23 : decode cX7_init 23 = .ok (.sipush 140, 3) := by decide +kernel
theorem dX7_init_26 : decode cX7_init 26 = .ok (.newarray .int, 2) := by decide +kernel
theorem dX7_init_28 : decode cX7_init 28 = .ok (.putfield 16, 3) := by decide +kernel
theorem dX7_init_31 : decode cX7_init 31 = .ok (.aload_n 0, 1) := by decide +kernel
theorem dX7_init_32 : decode cX7_init 32 = .ok (.sipush 384, 3) := by decide +kernel
theorem dX7_init_35 : decode cX7_init 35 = .ok (.newarray .int, 2) := by decide +kernel
theorem dX7_init_37 : decode cX7_init 37 = .ok (.putfield 19, 3) := by decide +kernel
theorem dX7_init_40 : decode cX7_init 40 = .ok (.aload_n 0, 1) := by decide +kernel
theorem dX7_init_41 : decode cX7_init 41 = .ok (.sipush 192, 3) := by decide +kernel
theorem dX7_init_44 : decode cX7_init 44 = .ok (.newarray .int, 2) := by decide +kernel
theorem dX7_init_46 : decode cX7_init 46 = .ok (.putfield 22, 3) := by decide +kernel
theorem dX7_init_49 : decode cX7_init 49 = .ok (.aload_n 0, 1) := by decide +kernel
theorem dX7_init_50 : decode cX7_init 50 = .ok (.sipush 192, 3) := by decide +kernel
theorem dX7_init_53 : decode cX7_init 53 = .ok (.newarray .int, 2) := by decide +kernel
theorem dX7_init_55 : decode cX7_init 55 = .ok (.putfield 25, 3) := by decide +kernel
theorem dX7_init_58 : decode cX7_init 58 = .ok (.aload_n 0, 1) := by decide +kernel
theorem dX7_init_59 : decode cX7_init 59 = .ok (.iconst 0, 1) := by decide +kernel
theorem dX7_init_60 : decode cX7_init 60 = .ok (.putfield 28, 3) := by decide +kernel
theorem dX7_init_63 : decode cX7_init 63 = .ok (.aload_n 0, 1) := by decide +kernel
theorem dX7_init_64 : decode cX7_init 64 = .ok (.getfield 7, 3) := by decide +kernel
theorem dX7_init_67 : decode cX7_init 67 = .ok (.sipush 768, 3) := by decide +kernel
theorem dX7_init_70 : decode cX7_init 70 = .ok (.bipush 50, 2) := by decide +kernel
theorem dX7_init_72 : decode cX7_init 72 = .ok (.iastore, 1) := by decide +kernel
theorem dX7_init_73 : decode cX7_init 73 = .ok (.aload_n 0, 1) := by decide +kernel
theorem dX7_init_74 : decode cX7_init 74 = .ok (.getfield 7, 3) := by decide +kernel
theorem dX7_init_77 : decode cX7_init 77 = .ok (.sipush 769, 3) := by decide +kernel
theorem dX7_init_80 : decode cX7_init 80 = .ok (.iconst 1, 1) := by decide +kernel
theorem dX7_init_81 : decode cX7_init 81 = .ok (.iastore, 1) := by decide +kernel
theorem dX7_init_82 : decode cX7_init 82 = .ok (.aload_n 0, 1) := by decide +kernel
theorem dX7_init_83 : decode cX7_init 83 = .ok (.getfield 7, 3) := by decide +kernel
theorem dX7_init_86 : decode cX7_init 86 = .ok (.sipush 771, 3) := by decide +kernel
theorem dX7_init_89 : decode cX7_init 89 = .ok (.bipush 40, 2) := by decide +kernel
theorem dX7_init_91 : decode cX7_init 91 = .ok (.iastore, 1) := by decide +kernel
theorem dX7_init_92 : decode cX7_init 92 = .ok (.aload_n 0, 1) := by decide +kernel
theorem dX7_init_93 : decode cX7_init 93 = .ok (.getfield 7, 3) := by decide +kernel
theorem dX7_init_96 : decode cX7_init 96 = .ok (.sipush 772, 3) := by decide +kernel
theorem dX7_init_99 : decode cX7_init 99 = .ok (.iconst 2, 1) := by decide +kernel
theorem dX7_init_100 : decode cX7_init 100 = .ok (.iastore, 1) := by decide +kernel
theorem dX7_init_101 : decode cX7_init 101 = .ok (.return_, 1) := by decide +kernel
theorem dX7_in_0 : decode cX7_in 0 = .ok (.iload_n 0, 1) := by decide +kernel
theorem dX7_in_1 : decode cX7_in 1 = .ok (.iload_n 1, 1) := by decide +kernel
theorem dX7_in_2 : decode cX7_in 2 = .ok (.if_icmp .lt 12, 3) := by decide +kernel
theorem dX7_in_5 : decode cX7_in 5 = .ok (.iload_n 0, 1) := by decide +kernel
theorem dX7_in_6 : decode cX7_in 6 = .ok (.iload_n 2, 1) := by decide +kernel
theorem dX7_in_7 : decode cX7_in 7 = .ok (.if_icmp .gt 7, 3) := by decide +kernel
theorem dX7_in_10 : decode cX7_in 10 = .ok (.iconst 1, 1) := by decide +kernel
theorem dX7_in_11 : decode cX7_in 11 = .ok (.goto 4, 3) := by decide +kernel
theorem dX7_in_14 : decode cX7_in 14 = .ok (.iconst 0, 1) := by decide +kernel
theorem dX7_in_15 : decode cX7_in 15 = .ok (.ireturn, 1) := by decide +kernel
set_option maxRecDepth 20000 in
theorem ggX7_isCell_X7_in : GoodIn wsX7_isCell wsX7_in := goodIn_r _ [4] (by decide +kernel) (by decide +kernel)
set_option maxRecDepth 20000 in
theorem gX7_isCell_X7_in : GoodIn wsX7_isCell (va_wsS RX7 32 yX7_in wsX7_in) := goodIn_app (goodIn_of _ (by decide +kernel)) ggX7_isCell_X7_in
theorem dX7_isCell_0 : decode cX7_isCell 0 = .ok (.iload_n 0, 1) := by decide +kernel
theorem dX7_isCell_1 : decode cX7_isCell 1 = .ok (.iconst 0, 1) := by decide +kernel
theorem dX7_isCell_2 : decode cX7_isCell 2 = .ok (.bipush 15, 2) := by decide +kernel
theorem dX7_isCell_4 : decode cX7_isCell 4 = .ok (.invokestatic 32, 3) := by decide +kernel
theorem dX7_isCell_7 : decode cX7_isCell 7 = .ok (.ifCond .eq 17, 3) := by decide +kernel
theorem dX7_isCell_10 : decode cX7_isCell 10 = .ok (.iload_n 1, 1) := by decide +kernel
theorem dX7_isCell_11 : decode cX7_isCell 11 = .ok (.iconst 0, 1) := by decide +kernel
theorem dX7_isCell_12 : decode cX7_isCell 12 = .ok (.bipush 11, 2) := by decide +kernel
theorem dX7_isCell_14 : decode cX7_isCell 14 = .ok (.invokestatic 32, 3) := by decide +kernel
theorem dX7_isCell_17 : decode cX7_isCell 17 = .ok (.ifCond .eq 7, 3) := by decide +kernel
theorem dX7_isCell_20 : decode cX7_isCell 20 = .ok (.iconst 1, 1) := by decide +kernel
theorem dX7_isCell_21 : decode cX7_isCell 21 = .ok (.goto 4, 3) := by decide +kernel
theorem dX7_isCell_24 : decode cX7_isCell 24 = .ok (.iconst 0, 1) := by decide +kernel
theorem dX7_isCell_25 : decode cX7_isCell 25 = .ok (.ireturn, 1) := by decide +kernel
set_option maxRecDepth 20000 in
theorem ggX7_isShift_X7_in : GoodIn wsX7_isShift wsX7_in := goodIn_r _ [4] (by decide +kernel) (by decide +kernel)
set_option maxRecDepth 20000 in
theorem gX7_isShift_X7_in : GoodIn wsX7_isShift (va_wsS RX7 32 yX7_in wsX7_in) := goodIn_app (goodIn_of _ (by decide +kernel)) ggX7_isShift_X7_in
theorem dX7_isShift_0 : decode cX7_isShift 0 = .ok (.iload_n 0, 1) := by decide +kernel
theorem dX7_isShift_1 : decode cX7_isShift 1 = .ok (.bipush (-8), 2) := by decide +kernel
theorem dX7_isShift_3 : decode cX7_isShift 3 = .ok (.bipush 8, 2) := by decide +kernel
theorem dX7_isShift_5 : decode cX7_isShift 5 = .ok (.invokestatic 32, 3) := by decide +kernel
theorem dX7_isShift_8 : decode cX7_isShift 8 = .ok (.ifCond .eq 18, 3) := by decide +kernel
theorem dX7_isShift_11 : decode cX7_isShift 11 = .ok (.iload_n 1, 1) := by decide +kernel
theorem dX7_isShift_12 : decode cX7_isShift 12 = .ok (.bipush (-8), 2) := by decide +kernel
theorem dX7_isShift_14 : decode cX7_isShift 14 = .ok (.bipush 8, 2) := by decide +kernel
theorem dX7_isShift_16 : decode cX7_isShift 16 = .ok (.invokestatic 32, 3) := by decide +kernel
theorem dX7_isShift_19 : decode cX7_isShift 19 = .ok (.ifCond .eq 7, 3) := by decide +kernel
theorem dX7_isShift_22 : decode cX7_isShift 22 = .ok (.iconst 1, 1) := by decide +kernel
theorem dX7_isShift_23 : decode cX7_isShift 23 = .ok (.goto 4, 3) := by decide +kernel
theorem dX7_isShift_26 : decode cX7_isShift 26 = .ok (.iconst 0, 1) := by decide +kernel
theorem dX7_isShift_27 : decode cX7_isShift 27 = .ok (.ireturn, 1) := by decide +kernel
theorem dX7_act_0 : decode cX7_act 0 = .ok (.aload_n 0, 1) := by decide +kernel
theorem dX7_act_1 : decode cX7_act 1 = .ok (.getfield 36, 3) := by decide +kernel
theorem dX7_act_4 : decode cX7_act 4 = .ok (.iconst 5, 1) := by decide +kernel
theorem dX7_act_5 : decode cX7_act 5 = .ok (.if_icmp .ne 44, 3) := by decide +kernel
theorem dX7_act_8 : decode cX7_act 8 = .ok (.iconst 0, 1) := by decide +kernel
theorem dX7_act_9 : decode cX7_act 9 = .ok (.istore_n 1, 1) := by decide +kernel
theorem dX7_act_10 : decode cX7_act 10 = .ok (.iload_n 1, 1) := by decide +kernel
theorem dX7_act_11 : decode cX7_act 11 = .ok (.sipush 9496, 3) := by decide +kernel
theorem dX7_act_14 : decode cX7_act 14 = .ok (.if_icmp .ge 25, 3) := by decide +kernel
theorem dX7_act_17 : decode cX7_act 17 = .ok (.aload_n 0, 1) := by decide +kernel
theorem dX7_act_18 : decode cX7_act 18 = .ok (.getfield 13, 3) := by decide +kernel
theorem dX7_act_21 : decode cX7_act 21 = .ok (.iload_n 1, 1) := by decide +kernel
theorem dX7_act_22 : decode cX7_act 22 = .ok (.aload_n 0, 1) := by decide +kernel
theorem dX7_act_23 : decode cX7_act 23 = .ok (.getfield 13, 3) := by decide +kernel
theorem dX7_act_26 : decode cX7_act 26 = .ok (.iload_n 1, 1) := by decide +kernel
theorem dX7_act_27 : decode cX7_act 27 = .ok (.sipush 2374, 3) := by decide +kernel
theorem dX7_act_30 : decode cX7_act 30 = .ok (.iadd, 1) := by decide +kernel
theorem dX7_act_31 : decode cX7_act 31 = .ok (.iaload, 1) := by decide +kernel
theorem dX7_act_32 : decode cX7_act 32 = .ok (.iastore, 1) := by decide +kernel
theorem dX7_act_33 : decode cX7_act 33 = .ok (.iinc 1 1, 3) := by decide +kernel
theorem dX7_act_36 : decode cX7_act 36 = .ok (.goto (-26), 3) := by decide +kernel
theorem dX7_act_39 : decode cX7_act 39 = .ok (.aload_n 0, 1) := by decide +kernel
theorem dX7_act_40 : decode cX7_act 40 = .ok (.dup, 1) := by decide +kernel
theorem dX7_act_41 : decode cX7_act 41 = .ok (.getfield 36, 3) := by decide +kernel
theorem dX7_act_44 : decode cX7_act 44 = .ok (.iconst 1, 1) := by decide +kernel
theorem dX7_act_45 : decode cX7_act 45 = .ok (.isub, 1) := by decide +kernel
theorem dX7_act_46 : decode cX7_act 46 = .ok (.putfield 36, 3) := by decide +kernel
theorem dX7_act_49 : decode cX7_act 49 = .ok (.iconst 0, 1) := by decide +kernel
theorem dX7_act_50 : decode cX7_act 50 = .ok (.istore_n 1, 1) := by decide +kernel
theorem dX7_act_51 : decode cX7_act 51 = .ok (.iload_n 1, 1) := by decide +kernel
theorem dX7_act_52 : decode cX7_act 52 = .ok (.sipush 2374, 3) := by decide +kernel
theorem dX7_act_55 : decode cX7_act 55 = .ok (.if_icmp .ge 30, 3) := by decide +kernel
theorem dX7_act_58 : decode cX7_act 58 = .ok (.aload_n 0, 1) := by decide +kernel
theorem dX7_act_59 : decode cX7_act 59 = .ok (.getfield 13, 3) := by decide +kernel
theorem dX7_act_62 : decode cX7_act 62 = .ok (.sipush 2374, 3) := by decide +kernel
theorem dX7_act_65 : decode cX7_act 65 = .ok (.aload_n 0, 1) := by decide +kernel
theorem dX7_act_66 : decode cX7_act 66 = .ok (.getfield 36, 3) := by decide +kernel
theorem dX7_act_69 : decode cX7_act 69 = .ok (.imul, 1) := by decide +kernel
theorem dX7_act_70 : decode cX7_act 70 = .ok (.iload_n 1, 1) := by decide +kernel
theorem dX7_act_71 : decode cX7_act 71 = .ok (.iadd, 1) := by decide +kernel
theorem dX7_act_72 : decode cX7_act 72 = .ok (.aload_n 0, 1) := by decide +kernel
theorem dX7_act_73 : decode cX7_act 73 = .ok (.getfield 7, 3) := by decide +kernel
theorem dX7_act_76 : decode cX7_act 76 = .ok (.iload_n 1, 1) := by decide +kernel
theorem dX7_act_77 : decode cX7_act 77 = .ok (.iaload, 1) := by decide +kernel
theorem dX7_act_78 : decode cX7_act 78 = .ok (.iastore, 1) := by decide +kernel
theorem dX7_act_79 : decode cX7_act 79 = .ok (.iinc 1 1, 3) := by decide +kernel
theorem dX7_act_82 : decode cX7_act 82 = .ok (.goto (-31), 3) := by decide +kernel
theorem dX7_act_85 : decode cX7_act 85 = .ok (.aload_n 0, 1) := by decide +kernel
theorem dX7_act_86 : decode cX7_act 86 = .ok (.dup, 1) := by decide +kernel
theorem dX7_act_87 : decode cX7_act 87 = .ok (.getfield 36, 3) := by decide +kernel
theorem dX7_act_90 : decode cX7_act 90 = .ok (.iconst 1, 1) := by decide +kernel
theorem dX7_act_91 : decode cX7_act 91 = .ok (.iadd, 1) := by decide +kernel
theorem dX7_act_92 : decode cX7_act 92 = .ok (.putfield 36, 3) := by decide +kernel
theorem dX7_act_95 : decode cX7_act 95 = .ok (.return_, 1) := by decide +kernel
theorem dX7_many_0 : decode cX7_many 0 = .ok (.iconst 0, 1) := by decide +kernel
theorem dX7_many_1 : decode cX7_many 1 = .ok (.istore_n 3, 1) := by decide +kernel
theorem dX7_many_2 : decode cX7_many 2 = .ok (.iconst 0, 1) := by decide +kernel
theorem dX7_many_3 : decode cX7_many 3 = .ok (.istore 4, 2) := by decide +kernel
theorem dX7_many_5 : decode cX7_many 5 = .ok (.iload 4, 2) := by decide +kernel
theorem dX7_many_7 : decode cX7_many 7 = .ok (.sipush 192, 3) := by decide +kernel
theorem dX7_many_10 : decode cX7_many 10 = .ok (.if_icmp .ge 30, 3) := by decide +kernel
theorem dX7_many_13 : decode cX7_many 13 = .ok (.iload_n 3, 1) := by decide +kernel
theorem dX7_many_14 : decode cX7_many 14 = .ok (.aload_n 0, 1) := by decide +kernel
theorem dX7_many_15 : decode cX7_many 15 = .ok (.getfield 7, 3) := by decide +kernel
theorem dX7_many_18 : decode cX7_many 18 = .ok (.iload_n 1, 1) := by decide +kernel
theorem dX7_many_19 : decode cX7_many 19 = .ok (.iload 4, 2) := by decide +kernel
theorem dX7_many_21 : decode cX7_many 21 = .ok (.iadd, 1) := by decide +kernel
theorem dX7_many_22 : decode cX7_many 22 = .ok (.iaload, 1) := by decide +kernel
theorem dX7_many_23 : decode cX7_many 23 = .ok (.iload_n 2, 1) := by decide +kernel
theorem dX7_many_24 : decode cX7_many 24 = .ok (.if_icmp .ne 7, 3) := by decide +kernel
theorem dX7_many_27 : decode cX7_many 27 = .ok (.iconst 1, 1) := by decide +kernel
theorem dX7_many_28 : decode cX7_many 28 = .ok (.goto 4, 3) := by decide +kernel
theorem dX7_many_31 : decode cX7_many 31 = .ok (.iconst 0, 1) := by decide +kernel
theorem dX7_many_32 : decode cX7_many 32 = .ok (.iadd, 1) := by decide +kernel
theorem dX7_many_33 : decode cX7_many 33 = .ok (.istore_n 3, 1) := by decide +kernel
theorem dX7_many_34 : decode cX7_many 34 = .ok (.iinc 4 1, 3) := by decide +kernel
theorem dX7_many_37 : decode cX7_many 37 = .ok (.goto (-32), 3) := by decide +kernel
theorem dX7_many_40 : decode cX7_many 40 = .ok (.iload_n 3, 1) := by decide +kernel
theorem dX7_many_41 : decode cX7_many 41 = .ok (.ireturn, 1) := by decide +kernel
set_option maxRecDepth 20000 in
theorem ggX7_inked_X7_many : GoodIn wsX7_inked wsX7_many := goodIn_r _ [5, 6, 7, 8, 9, 10, 11, 12, 13, 14, 15, 16, 17, 18, 19, 20, 21] (by decide +kernel) (by decide +kernel)
set_option maxRecDepth 20000 in
theorem gX7_inked_X7_many : GoodIn wsX7_inked (wsV RX7 39 RX7 yX7_many wsX7_many) := goodIn_app (goodIn_of _ (by decide +kernel)) ggX7_inked_X7_many
theorem dX7_inked_0 : decode cX7_inked 0 = .ok (.sipush 192, 3) := by decide +kernel
theorem dX7_inked_3 : decode cX7_inked 3 = .ok (.aload_n 0, 1) := by decide +kernel
theorem dX7_inked_4 : decode cX7_inked 4 = .ok (.iconst 0, 1) := by decide +kernel
theorem dX7_inked_5 : decode cX7_inked 5 = .ok (.iconst 0, 1) := by decide +kernel
theorem dX7_inked_6 : decode cX7_inked 6 = .ok (.invokevirtual 39, 3) := by decide +kernel
theorem dX7_inked_9 : decode cX7_inked 9 = .ok (.isub, 1) := by decide +kernel
theorem dX7_inked_10 : decode cX7_inked 10 = .ok (.ireturn, 1) := by decide +kernel
theorem dX7_isWorn_0 : decode cX7_isWorn 0 = .ok (.aload_n 0, 1) := by decide +kernel
theorem dX7_isWorn_1 : decode cX7_isWorn 1 = .ok (.getfield 7, 3) := by decide +kernel
theorem dX7_isWorn_4 : decode cX7_isWorn 4 = .ok (.sipush 192, 3) := by decide +kernel
theorem dX7_isWorn_7 : decode cX7_isWorn 7 = .ok (.iload_n 1, 1) := by decide +kernel
theorem dX7_isWorn_8 : decode cX7_isWorn 8 = .ok (.iadd, 1) := by decide +kernel
theorem dX7_isWorn_9 : decode cX7_isWorn 9 = .ok (.iaload, 1) := by decide +kernel
theorem dX7_isWorn_10 : decode cX7_isWorn 10 = .ok (.iconst 1, 1) := by decide +kernel
theorem dX7_isWorn_11 : decode cX7_isWorn 11 = .ok (.if_icmp .ne 28, 3) := by decide +kernel
theorem dX7_isWorn_14 : decode cX7_isWorn 14 = .ok (.aload_n 0, 1) := by decide +kernel
theorem dX7_isWorn_15 : decode cX7_isWorn 15 = .ok (.getfield 7, 3) := by decide +kernel
theorem dX7_isWorn_18 : decode cX7_isWorn 18 = .ok (.sipush 384, 3) := by decide +kernel
theorem dX7_isWorn_21 : decode cX7_isWorn 21 = .ok (.iload_n 1, 1) := by decide +kernel
theorem dX7_isWorn_22 : decode cX7_isWorn 22 = .ok (.iadd, 1) := by decide +kernel
theorem dX7_isWorn_23 : decode cX7_isWorn 23 = .ok (.iaload, 1) := by decide +kernel
theorem dX7_isWorn_24 : decode cX7_isWorn 24 = .ok (.aload_n 0, 1) := by decide +kernel
theorem dX7_isWorn_25 : decode cX7_isWorn 25 = .ok (.getfield 7, 3) := by decide +kernel
theorem dX7_isWorn_28 : decode cX7_isWorn 28 = .ok (.sipush 771, 3) := by decide +kernel
theorem dX7_isWorn_31 : decode cX7_isWorn 31 = .ok (.iaload, 1) := by decide +kernel
theorem dX7_isWorn_32 : decode cX7_isWorn 32 = .ok (.if_icmp .le 7, 3) := by decide +kernel
theorem dX7_isWorn_35 : decode cX7_isWorn 35 = .ok (.iconst 1, 1) := by decide +kernel
theorem dX7_isWorn_36 : decode cX7_isWorn 36 = .ok (.goto 4, 3) := by decide +kernel
theorem dX7_isWorn_39 : decode cX7_isWorn 39 = .ok (.iconst 0, 1) := by decide +kernel
theorem dX7_isWorn_40 : decode cX7_isWorn 40 = .ok (.ireturn, 1) := by decide +kernel
set_option maxRecDepth 20000 in
theorem ggX7_wornCells_X7_isWorn : GoodIn wsX7_wornCells wsX7_isWorn := goodIn_r _ [5, 6, 7, 8, 9, 10, 11, 12, 13, 14, 15, 16, 17, 18, 19, 20, 21] (by decide +kernel) (by decide +kernel)
set_option maxRecDepth 20000 in
theorem gX7_wornCells_X7_isWorn : GoodIn wsX7_wornCells (wsV RX7 43 RX7 yX7_isWorn wsX7_isWorn) := goodIn_app (goodIn_of _ (by decide +kernel)) ggX7_wornCells_X7_isWorn
theorem dX7_wornCells_0 : decode cX7_wornCells 0 = .ok (.iconst 0, 1) := by decide +kernel
theorem dX7_wornCells_1 : decode cX7_wornCells 1 = .ok (.istore_n 1, 1) := by decide +kernel
theorem dX7_wornCells_2 : decode cX7_wornCells 2 = .ok (.iconst 0, 1) := by decide +kernel
theorem dX7_wornCells_3 : decode cX7_wornCells 3 = .ok (.istore_n 2, 1) := by decide +kernel
theorem dX7_wornCells_4 : decode cX7_wornCells 4 = .ok (.iload_n 2, 1) := by decide +kernel
theorem dX7_wornCells_5 : decode cX7_wornCells 5 = .ok (.sipush 192, 3) := by decide +kernel
theorem dX7_wornCells_8 : decode cX7_wornCells 8 = .ok (.if_icmp .ge 25, 3) := by decide +kernel
theorem dX7_wornCells_11 : decode cX7_wornCells 11 = .ok (.iload_n 1, 1) := by decide +kernel
theorem dX7_wornCells_12 : decode cX7_wornCells 12 = .ok (.aload_n 0, 1) := by decide +kernel
theorem dX7_wornCells_13 : decode cX7_wornCells 13 = .ok (.iload_n 2, 1) := by decide +kernel
theorem dX7_wornCells_14 : decode cX7_wornCells 14 = .ok (.invokevirtual 43, 3) := by decide +kernel
theorem dX7_wornCells_17 : decode cX7_wornCells 17 = .ok (.ifCond .eq 7, 3) := by decide +kernel
theorem dX7_wornCells_20 : decode cX7_wornCells 20 = .ok (.iconst 1, 1) := by decide +kernel
theorem dX7_wornCells_21 : decode cX7_wornCells 21 = .ok (.goto 4, 3) := by decide +kernel
theorem dX7_wornCells_24 : decode cX7_wornCells 24 = .ok (.iconst 0, 1) := by decide +kernel
theorem dX7_wornCells_25 : decode cX7_wornCells 25 = .ok (.iadd, 1) := by decide +kernel
theorem dX7_wornCells_26 : decode cX7_wornCells 26 = .ok (.istore_n 1, 1) := by decide +kernel
theorem dX7_wornCells_27 : decode cX7_wornCells 27 = .ok (.iinc 2 1, 3) := by decide +kernel
theorem dX7_wornCells_30 : decode cX7_wornCells 30 = .ok (.goto (-26), 3) := by decide +kernel
theorem dX7_wornCells_33 : decode cX7_wornCells 33 = .ok (.iload_n 1, 1) := by decide +kernel
theorem dX7_wornCells_34 : decode cX7_wornCells 34 = .ok (.ireturn, 1) := by decide +kernel
set_option maxRecDepth 20000 in
theorem ggX7_beside_X7_isCell : GoodIn wsX7_beside wsX7_isCell := goodIn_r _ [4, 5, 6, 3, 7] (by decide +kernel) (by decide +kernel)
set_option maxRecDepth 20000 in
theorem gX7_beside_X7_isCell : GoodIn wsX7_beside (va_wsS RX7 47 yX7_isCell wsX7_isCell) := goodIn_app (goodIn_of _ (by decide +kernel)) ggX7_beside_X7_isCell
theorem dX7_beside_0 : decode cX7_beside 0 = .ok (.iload_n 0, 1) := by decide +kernel
theorem dX7_beside_1 : decode cX7_beside 1 = .ok (.bipush 16, 2) := by decide +kernel
theorem dX7_beside_3 : decode cX7_beside 3 = .ok (.irem, 1) := by decide +kernel
theorem dX7_beside_4 : decode cX7_beside 4 = .ok (.iload_n 1, 1) := by decide +kernel
theorem dX7_beside_5 : decode cX7_beside 5 = .ok (.ifCond .ne 7, 3) := by decide +kernel
theorem dX7_beside_8 : decode cX7_beside 8 = .ok (.iconst (-1), 1) := by decide +kernel
theorem dX7_beside_9 : decode cX7_beside 9 = .ok (.goto 13, 3) := by decide +kernel
theorem dX7_beside_12 : decode cX7_beside 12 = .ok (.iload_n 1, 1) := by decide +kernel
theorem dX7_beside_13 : decode cX7_beside 13 = .ok (.iconst 1, 1) := by decide +kernel
theorem dX7_beside_14 : decode cX7_beside 14 = .ok (.if_icmp .ne 7, 3) := by decide +kernel
theorem dX7_beside_17 : decode cX7_beside 17 = .ok (.iconst 1, 1) := by decide +kernel
theorem dX7_beside_18 : decode cX7_beside 18 = .ok (.goto 4, 3) := by decide +kernel
theorem dX7_beside_21 : decode cX7_beside 21 = .ok (.iconst 0, 1) := by decide +kernel
theorem dX7_beside_22 : decode cX7_beside 22 = .ok (.iadd, 1) := by decide +kernel
theorem dX7_beside_23 : decode cX7_beside 23 = .ok (.istore_n 2, 1) := by decide +kernel
theorem dX7_beside_24 : decode cX7_beside 24 = .ok (.iload_n 0, 1) := by decide +kernel
theorem dX7_beside_25 : decode cX7_beside 25 = .ok (.bipush 16, 2) := by decide +kernel
theorem dX7_beside_27 : decode cX7_beside 27 = .ok (.idiv, 1) := by decide +kernel
theorem dX7_beside_28 : decode cX7_beside 28 = .ok (.iload_n 1, 1) := by decide +kernel
theorem dX7_beside_29 : decode cX7_beside 29 = .ok (.iconst 2, 1) := by decide +kernel
theorem dX7_beside_30 : decode cX7_beside 30 = .ok (.if_icmp .ne 7, 3) := by decide +kernel
theorem dX7_beside_33 : decode cX7_beside 33 = .ok (.iconst (-1), 1) := by decide +kernel
theorem dX7_beside_34 : decode cX7_beside 34 = .ok (.goto 13, 3) := by decide +kernel
theorem dX7_beside_37 : decode cX7_beside 37 = .ok (.iload_n 1, 1) := by decide +kernel
theorem dX7_beside_38 : decode cX7_beside 38 = .ok (.iconst 3, 1) := by decide +kernel
theorem dX7_beside_39 : decode cX7_beside 39 = .ok (.if_icmp .ne 7, 3) := by decide +kernel
theorem dX7_beside_42 : decode cX7_beside 42 = .ok (.iconst 1, 1) := by decide +kernel
theorem dX7_beside_43 : decode cX7_beside 43 = .ok (.goto 4, 3) := by decide +kernel
theorem dX7_beside_46 : decode cX7_beside 46 = .ok (.iconst 0, 1) := by decide +kernel
theorem dX7_beside_47 : decode cX7_beside 47 = .ok (.iadd, 1) := by decide +kernel
theorem dX7_beside_48 : decode cX7_beside 48 = .ok (.istore_n 3, 1) := by decide +kernel
theorem dX7_beside_49 : decode cX7_beside 49 = .ok (.iload_n 2, 1) := by decide +kernel
theorem dX7_beside_50 : decode cX7_beside 50 = .ok (.iload_n 3, 1) := by decide +kernel
theorem dX7_beside_51 : decode cX7_beside 51 = .ok (.invokestatic 47, 3) := by decide +kernel
theorem dX7_beside_54 : decode cX7_beside 54 = .ok (.ifCond .eq 12, 3) := by decide +kernel
theorem dX7_beside_57 : decode cX7_beside 57 = .ok (.bipush 16, 2) := by decide +kernel
theorem dX7_beside_59 : decode cX7_beside 59 = .ok (.iload_n 3, 1) := by decide +kernel
theorem dX7_beside_60 : decode cX7_beside 60 = .ok (.imul, 1) := by decide +kernel
theorem dX7_beside_61 : decode cX7_beside 61 = .ok (.iload_n 2, 1) := by decide +kernel
theorem dX7_beside_62 : decode cX7_beside 62 = .ok (.iadd, 1) := by decide +kernel
theorem dX7_beside_63 : decode cX7_beside 63 = .ok (.goto 4, 3) := by decide +kernel
theorem dX7_beside_66 : decode cX7_beside 66 = .ok (.iconst (-1), 1) := by decide +kernel
theorem dX7_beside_67 : decode cX7_beside 67 = .ok (.ireturn, 1) := by decide +kernel
set_option maxRecDepth 20000 in
theorem ggX7_isNextTo_X7_beside : GoodIn wsX7_isNextTo wsX7_beside := goodIn_r _ [5, 6, 7, 4, 8, 9, 10, 11] (by decide +kernel) (by decide +kernel)
set_option maxRecDepth 20000 in
theorem gX7_isNextTo_X7_beside : GoodIn wsX7_isNextTo (va_wsS RX7 51 yX7_beside wsX7_beside) := goodIn_app (goodIn_of _ (by decide +kernel)) ggX7_isNextTo_X7_beside
theorem dX7_isNextTo_0 : decode cX7_isNextTo 0 = .ok (.iconst 0, 1) := by decide +kernel
theorem dX7_isNextTo_1 : decode cX7_isNextTo 1 = .ok (.istore_n 3, 1) := by decide +kernel
theorem dX7_isNextTo_2 : decode cX7_isNextTo 2 = .ok (.iconst 0, 1) := by decide +kernel
theorem dX7_isNextTo_3 : decode cX7_isNextTo 3 = .ok (.istore 4, 2) := by decide +kernel
theorem dX7_isNextTo_5 : decode cX7_isNextTo 5 = .ok (.iload 4, 2) := by decide +kernel
theorem dX7_isNextTo_7 : decode cX7_isNextTo 7 = .ok (.iconst 4, 1) := by decide +kernel
theorem dX7_isNextTo_8 : decode cX7_isNextTo 8 = .ok (.if_icmp .ge 44, 3) := by decide +kernel
theorem dX7_isNextTo_11 : decode cX7_isNextTo 11 = .ok (.iload_n 1, 1) := by decide +kernel
theorem dX7_isNextTo_12 : decode cX7_isNextTo 12 = .ok (.iload 4, 2) := by decide +kernel
theorem dX7_isNextTo_14 : decode cX7_isNextTo 14 = .ok (.invokestatic 51, 3) := by decide +kernel
theorem dX7_isNextTo_17 : decode cX7_isNextTo 17 = .ok (.istore 5, 2) := by decide +kernel
theorem dX7_isNextTo_19 : decode cX7_isNextTo 19 = .ok (.iload_n 3, 1) := by decide +kernel
theorem dX7_isNextTo_20 : decode cX7_isNextTo 20 = .ok (.ifCond .ne 20, 3) := by decide +kernel
theorem dX7_isNextTo_23 : decode cX7_isNextTo 23 = .ok (.iload 5, 2) := by decide +kernel
theorem dX7_isNextTo_25 : decode cX7_isNextTo 25 = .ok (.iconst (-1), 1) := by decide +kernel
theorem dX7_isNextTo_26 : decode cX7_isNextTo 26 = .ok (.if_icmp .eq 18, 3) := by decide +kernel
theorem dX7_isNextTo_29 : decode cX7_isNextTo 29 = .ok (.aload_n 0, 1) := by decide +kernel
theorem dX7_isNextTo_30 : decode cX7_isNextTo 30 = .ok (.getfield 22, 3) := by decide +kernel
theorem dX7_isNextTo_33 : decode cX7_isNextTo 33 = .ok (.iload 5, 2) := by decide +kernel
theorem dX7_isNextTo_35 : decode cX7_isNextTo 35 = .ok (.iaload, 1) := by decide +kernel
theorem dX7_isNextTo_36 : decode cX7_isNextTo 36 = .ok (.iload_n 2, 1) := by decide +kernel
theorem dX7_isNextTo_37 : decode cX7_isNextTo 37 = .ok (.if_icmp .ne 7, 3) := by decide +kernel
theorem dX7_isNextTo_40 : decode cX7_isNextTo 40 = .ok (.iconst 1, 1) := by decide +kernel
theorem dX7_isNextTo_41 : decode cX7_isNextTo 41 = .ok (.goto 4, 3) := by decide +kernel
theorem dX7_isNextTo_44 : decode cX7_isNextTo 44 = .ok (.iconst 0, 1) := by decide +kernel
theorem dX7_isNextTo_45 : decode cX7_isNextTo 45 = .ok (.istore_n 3, 1) := by decide +kernel
theorem dX7_isNextTo_46 : decode cX7_isNextTo 46 = .ok (.iinc 4 1, 3) := by decide +kernel
theorem dX7_isNextTo_49 : decode cX7_isNextTo 49 = .ok (.goto (-44), 3) := by decide +kernel
theorem dX7_isNextTo_52 : decode cX7_isNextTo 52 = .ok (.iload_n 3, 1) := by decide +kernel
theorem dX7_isNextTo_53 : decode cX7_isNextTo 53 = .ok (.ireturn, 1) := by decide +kernel
set_option maxRecDepth 20000 in
theorem ggX7_measure_X7_isNextTo : GoodIn wsX7_measure wsX7_isNextTo := goodIn_r _ [7, 1, 8, 9, 6, 10, 11, 12, 13, 14, 15, 16, 17, 18, 19, 20, 21, 22, 23, 24, 25, 26, 27, 28, 29, 30, 31] (by decide +kernel) (by decide +kernel)
set_option maxRecDepth 20000 in
theorem gX7_measure_X7_isNextTo : GoodIn wsX7_measure (wsV RX7 54 RX7 yX7_isNextTo wsX7_isNextTo) := goodIn_app (goodIn_of _ (by decide +kernel)) ggX7_measure_X7_isNextTo
theorem dX7_measure_0 : decode cX7_measure 0 = .ok (.iconst 0, 1) := by decide +kernel
theorem dX7_measure_1 : decode cX7_measure 1 = .ok (.istore_n 1, 1) := by decide +kernel
theorem dX7_measure_2 : decode cX7_measure 2 = .ok (.iload_n 1, 1) := by decide +kernel
theorem dX7_measure_3 : decode cX7_measure 3 = .ok (.sipush 192, 3) := by decide +kernel
theorem dX7_measure_6 : decode cX7_measure 6 = .ok (.if_icmp .ge 33, 3) := by decide +kernel
theorem dX7_measure_9 : decode cX7_measure 9 = .ok (.aload_n 0, 1) := by decide +kernel
theorem dX7_measure_10 : decode cX7_measure 10 = .ok (.getfield 22, 3) := by decide +kernel
theorem dX7_measure_13 : decode cX7_measure 13 = .ok (.iload_n 1, 1) := by decide +kernel
theorem dX7_measure_14 : decode cX7_measure 14 = .ok (.aload_n 0, 1) := by decide +kernel
theorem dX7_measure_15 : decode cX7_measure 15 = .ok (.getfield 7, 3) := by decide +kernel
theorem dX7_measure_18 : decode cX7_measure 18 = .ok (.iconst 0, 1) := by decide +kernel
theorem dX7_measure_19 : decode cX7_measure 19 = .ok (.iload_n 1, 1) := by decide +kernel
theorem dX7_measure_20 : decode cX7_measure 20 = .ok (.iadd, 1) := by decide +kernel
theorem dX7_measure_21 : decode cX7_measure 21 = .ok (.iaload, 1) := by decide +kernel
theorem dX7_measure_22 : decode cX7_measure 22 = .ok (.iconst 1, 1) := by decide +kernel
theorem dX7_measure_23 : decode cX7_measure 23 = .ok (.if_icmp .ne 7, 3) := by decide +kernel
theorem dX7_measure_26 : decode cX7_measure 26 = .ok (.iconst 0, 1) := by decide +kernel
theorem dX7_measure_27 : decode cX7_measure 27 = .ok (.goto 5, 3) := by decide +kernel
theorem dX7_measure_30 : decode cX7_measure 30 = .ok (.bipush 99, 2) := by decide +kernel
theorem dX7_measure_32 : decode cX7_measure 32 = .ok (.iastore, 1) := by decide +kernel
theorem dX7_measure_33 : decode cX7_measure 33 = .ok (.iinc 1 1, 3) := by decide +kernel
theorem dX7_measure_36 : decode cX7_measure 36 = .ok (.goto (-34), 3) := by decide +kernel
theorem dX7_measure_39 : decode cX7_measure 39 = .ok (.iconst 0, 1) := by decide +kernel
theorem dX7_measure_40 : decode cX7_measure 40 = .ok (.istore_n 1, 1) := by decide +kernel
theorem dX7_measure_41 : decode cX7_measure 41 = .ok (.iload_n 1, 1) := by decide +kernel
theorem dX7_measure_42 : decode cX7_measure 42 = .ok (.iconst 4, 1) := by decide +kernel
theorem dX7_measure_43 : decode cX7_measure 43 = .ok (.if_icmp .ge 84, 3) := by decide +kernel
theorem dX7_measure_46 : decode cX7_measure 46 = .ok (.iconst 0, 1) := by decide +kernel
theorem dX7_measure_47 : decode cX7_measure 47 = .ok (.istore_n 2, 1) := by decide +kernel
theorem dX7_measure_48 : decode cX7_measure 48 = .ok (.iload_n 2, 1) := by decide +kernel
theorem dX7_measure_49 : decode cX7_measure 49 = .ok (.sipush 192, 3) := by decide +kernel
theorem dX7_measure_52 : decode cX7_measure 52 = .ok (.if_icmp .ge 69, 3) := by decide +kernel
theorem dX7_measure_55 : decode cX7_measure 55 = .ok (.aload_n 0, 1) := by decide +kernel
theorem dX7_measure_56 : decode cX7_measure 56 = .ok (.getfield 7, 3) := by decide +kernel
theorem dX7_measure_59 : decode cX7_measure 59 = .ok (.iconst 0, 1) := by decide +kernel
theorem dX7_measure_60 : decode cX7_measure 60 = .ok (.iload_n 2, 1) := by decide +kernel
theorem dX7_measure_61 : decode cX7_measure 61 = .ok (.iadd, 1) := by decide +kernel
theorem dX7_measure_62 : decode cX7_measure 62 = .ok (.iaload, 1) := by decide +kernel
theorem dX7_measure_63 : decode cX7_measure 63 = .ok (.iconst 2, 1) := by decide +kernel
theorem dX7_measure_64 : decode cX7_measure 64 = .ok (.if_icmp .ne 27, 3) := by decide +kernel
theorem dX7_measure_67 : decode cX7_measure 67 = .ok (.aload_n 0, 1) := by decide +kernel
theorem dX7_measure_68 : decode cX7_measure 68 = .ok (.getfield 22, 3) := by decide +kernel
theorem dX7_measure_71 : decode cX7_measure 71 = .ok (.iload_n 2, 1) := by decide +kernel
theorem dX7_measure_72 : decode cX7_measure 72 = .ok (.iaload, 1) := by decide +kernel
theorem dX7_measure_73 : decode cX7_measure 73 = .ok (.bipush 99, 2) := by decide +kernel
theorem dX7_measure_75 : decode cX7_measure 75 = .ok (.if_icmp .ne 16, 3) := by decide +kernel
theorem dX7_measure_78 : decode cX7_measure 78 = .ok (.aload_n 0, 1) := by decide +kernel
theorem dX7_measure_79 : decode cX7_measure 79 = .ok (.iload_n 2, 1) := by decide +kernel
theorem dX7_measure_80 : decode cX7_measure 80 = .ok (.iload_n 1, 1) := by decide +kernel
theorem dX7_measure_81 : decode cX7_measure 81 = .ok (.invokevirtual 54, 3) := by decide +kernel
theorem dX7_measure_84 : decode cX7_measure 84 = .ok (.ifCond .eq 7, 3) := by decide +kernel
theorem dX7_measure_87 : decode cX7_measure 87 = .ok (.iconst 1, 1) := by decide +kernel
theorem dX7_measure_88 : decode cX7_measure 88 = .ok (.goto 4, 3) := by decide +kernel
theorem dX7_measure_91 : decode cX7_measure 91 = .ok (.iconst 0, 1) := by decide +kernel
theorem dX7_measure_92 : decode cX7_measure 92 = .ok (.istore_n 3, 1) := by decide +kernel
theorem dX7_measure_93 : decode cX7_measure 93 = .ok (.aload_n 0, 1) := by decide +kernel
theorem dX7_measure_94 : decode cX7_measure 94 = .ok (.getfield 22, 3) := by decide +kernel
theorem dX7_measure_97 : decode cX7_measure 97 = .ok (.iload_n 2, 1) := by decide +kernel
theorem dX7_measure_98 : decode cX7_measure 98 = .ok (.iload_n 3, 1) := by decide +kernel
theorem dX7_measure_99 : decode cX7_measure 99 = .ok (.ifCond .eq 9, 3) := by decide +kernel
theorem dX7_measure_102 : decode cX7_measure 102 = .ok (.iload_n 1, 1) := by decide +kernel
theorem dX7_measure_103 : decode cX7_measure 103 = .ok (.iconst 1, 1) := by decide +kernel
theorem dX7_measure_104 : decode cX7_measure 104 = .ok (.iadd, 1) := by decide +kernel
theorem dX7_measure_105 : decode cX7_measure 105 = .ok (.goto 9, 3) := by decide +kernel
theorem dX7_measure_108 : decode cX7_measure 108 = .ok (.aload_n 0, 1) := by decide +kernel
theorem dX7_measure_109 : decode cX7_measure 109 = .ok (.getfield 22, 3) := by decide +kernel
theorem dX7_measure_112 : decode cX7_measure 112 = .ok (.iload_n 2, 1) := by decide +kernel
theorem dX7_measure_113 : decode cX7_measure 113 = .ok (.iaload, 1) := by decide +kernel
theorem dX7_measure_114 : decode cX7_measure 114 = .ok (.iastore, 1) := by decide +kernel
theorem dX7_measure_115 : decode cX7_measure 115 = .ok (.iinc 2 1, 3) := by decide +kernel
theorem dX7_measure_118 : decode cX7_measure 118 = .ok (.goto (-70), 3) := by decide +kernel
theorem dX7_measure_121 : decode cX7_measure 121 = .ok (.iinc 1 1, 3) := by decide +kernel
theorem dX7_measure_124 : decode cX7_measure 124 = .ok (.goto (-83), 3) := by decide +kernel
theorem dX7_measure_127 : decode cX7_measure 127 = .ok (.return_, 1) := by decide +kernel
set_option maxRecDepth 20000 in
theorem ggX7_lay_X7_isWorn : GoodIn wsX7_lay wsX7_isWorn := goodIn_r _ [7, 2, 8, 9, 10, 11, 12, 13, 14, 15, 16, 17, 18, 19, 20, 21, 22] (by decide +kernel) (by decide +kernel)
set_option maxRecDepth 20000 in
theorem gX7_lay_X7_isWorn : GoodIn wsX7_lay (wsV RX7 43 RX7 yX7_isWorn wsX7_isWorn) := goodIn_app (goodIn_of _ (by decide +kernel)) ggX7_lay_X7_isWorn
theorem dX7_lay_0 : decode cX7_lay 0 = .ok (.iconst 0, 1) := by decide +kernel
theorem dX7_lay_1 : decode cX7_lay 1 = .ok (.istore_n 1, 1) := by decide +kernel
theorem dX7_lay_2 : decode cX7_lay 2 = .ok (.iload_n 1, 1) := by decide +kernel
theorem dX7_lay_3 : decode cX7_lay 3 = .ok (.sipush 192, 3) := by decide +kernel
theorem dX7_lay_6 : decode cX7_lay 6 = .ok (.if_icmp .ge 62, 3) := by decide +kernel
theorem dX7_lay_9 : decode cX7_lay 9 = .ok (.aload_n 0, 1) := by decide +kernel
theorem dX7_lay_10 : decode cX7_lay 10 = .ok (.getfield 19, 3) := by decide +kernel
theorem dX7_lay_13 : decode cX7_lay 13 = .ok (.iload_n 1, 1) := by decide +kernel
theorem dX7_lay_14 : decode cX7_lay 14 = .ok (.aload_n 0, 1) := by decide +kernel
theorem dX7_lay_15 : decode cX7_lay 15 = .ok (.getfield 7, 3) := by decide +kernel
theorem dX7_lay_18 : decode cX7_lay 18 = .ok (.sipush 192, 3) := by decide +kernel
theorem dX7_lay_21 : decode cX7_lay 21 = .ok (.iload_n 1, 1) := by decide +kernel
theorem dX7_lay_22 : decode cX7_lay 22 = .ok (.iadd, 1) := by decide +kernel
theorem dX7_lay_23 : decode cX7_lay 23 = .ok (.iaload, 1) := by decide +kernel
theorem dX7_lay_24 : decode cX7_lay 24 = .ok (.iconst 1, 1) := by decide +kernel
theorem dX7_lay_25 : decode cX7_lay 25 = .ok (.if_icmp .ne 15, 3) := by decide +kernel
theorem dX7_lay_28 : decode cX7_lay 28 = .ok (.aload_n 0, 1) := by decide +kernel
theorem dX7_lay_29 : decode cX7_lay 29 = .ok (.iload_n 1, 1) := by decide +kernel
theorem dX7_lay_30 : decode cX7_lay 30 = .ok (.invokevirtual 43, 3) := by decide +kernel
theorem dX7_lay_33 : decode cX7_lay 33 = .ok (.ifCond .ne 7, 3) := by decide +kernel
theorem dX7_lay_36 : decode cX7_lay 36 = .ok (.iconst 1, 1) := by decide +kernel
theorem dX7_lay_37 : decode cX7_lay 37 = .ok (.goto 4, 3) := by decide +kernel
theorem dX7_lay_40 : decode cX7_lay 40 = .ok (.iconst 0, 1) := by decide +kernel
theorem dX7_lay_41 : decode cX7_lay 41 = .ok (.iastore, 1) := by decide +kernel
theorem dX7_lay_42 : decode cX7_lay 42 = .ok (.aload_n 0, 1) := by decide +kernel
theorem dX7_lay_43 : decode cX7_lay 43 = .ok (.getfield 19, 3) := by decide +kernel
theorem dX7_lay_46 : decode cX7_lay 46 = .ok (.sipush 192, 3) := by decide +kernel
theorem dX7_lay_49 : decode cX7_lay 49 = .ok (.iload_n 1, 1) := by decide +kernel
theorem dX7_lay_50 : decode cX7_lay 50 = .ok (.iadd, 1) := by decide +kernel
theorem dX7_lay_51 : decode cX7_lay 51 = .ok (.aload_n 0, 1) := by decide +kernel
theorem dX7_lay_52 : decode cX7_lay 52 = .ok (.getfield 7, 3) := by decide +kernel
theorem dX7_lay_55 : decode cX7_lay 55 = .ok (.sipush 576, 3) := by decide +kernel
theorem dX7_lay_58 : decode cX7_lay 58 = .ok (.iload_n 1, 1) := by decide +kernel
theorem dX7_lay_59 : decode cX7_lay 59 = .ok (.iadd, 1) := by decide +kernel
theorem dX7_lay_60 : decode cX7_lay 60 = .ok (.iaload, 1) := by decide +kernel
theorem dX7_lay_61 : decode cX7_lay 61 = .ok (.iastore, 1) := by decide +kernel
theorem dX7_lay_62 : decode cX7_lay 62 = .ok (.iinc 1 1, 3) := by decide +kernel
theorem dX7_lay_65 : decode cX7_lay 65 = .ok (.goto (-63), 3) := by decide +kernel
theorem dX7_lay_68 : decode cX7_lay 68 = .ok (.return_, 1) := by decide +kernel
theorem dX7_layCut_0 : decode cX7_layCut 0 = .ok (.iconst 0, 1) := by decide +kernel
theorem dX7_layCut_1 : decode cX7_layCut 1 = .ok (.istore_n 2, 1) := by decide +kernel
theorem dX7_layCut_2 : decode cX7_layCut 2 = .ok (.iload_n 2, 1) := by decide +kernel
theorem dX7_layCut_3 : decode cX7_layCut 3 = .ok (.sipush 192, 3) := by decide +kernel
theorem dX7_layCut_6 : decode cX7_layCut 6 = .ok (.if_icmp .ge 57, 3) := by decide +kernel
theorem dX7_layCut_9 : decode cX7_layCut 9 = .ok (.aload_n 0, 1) := by decide +kernel
theorem dX7_layCut_10 : decode cX7_layCut 10 = .ok (.getfield 19, 3) := by decide +kernel
theorem dX7_layCut_13 : decode cX7_layCut 13 = .ok (.iload_n 2, 1) := by decide +kernel
theorem dX7_layCut_14 : decode cX7_layCut 14 = .ok (.aload_n 0, 1) := by decide +kernel
theorem dX7_layCut_15 : decode cX7_layCut 15 = .ok (.getfield 7, 3) := by decide +kernel
theorem dX7_layCut_18 : decode cX7_layCut 18 = .ok (.iconst 0, 1) := by decide +kernel
theorem dX7_layCut_19 : decode cX7_layCut 19 = .ok (.iload_n 2, 1) := by decide +kernel
theorem dX7_layCut_20 : decode cX7_layCut 20 = .ok (.iadd, 1) := by decide +kernel
theorem dX7_layCut_21 : decode cX7_layCut 21 = .ok (.iaload, 1) := by decide +kernel
theorem dX7_layCut_22 : decode cX7_layCut 22 = .ok (.iconst 2, 1) := by decide +kernel
theorem dX7_layCut_23 : decode cX7_layCut 23 = .ok (.if_icmp .ne 7, 3) := by decide +kernel
theorem dX7_layCut_26 : decode cX7_layCut 26 = .ok (.iconst 1, 1) := by decide +kernel
theorem dX7_layCut_27 : decode cX7_layCut 27 = .ok (.goto 4, 3) := by decide +kernel
theorem dX7_layCut_30 : decode cX7_layCut 30 = .ok (.iconst 0, 1) := by decide +kernel
theorem dX7_layCut_31 : decode cX7_layCut 31 = .ok (.iastore, 1) := by decide +kernel
theorem dX7_layCut_32 : decode cX7_layCut 32 = .ok (.aload_n 0, 1) := by decide +kernel
theorem dX7_layCut_33 : decode cX7_layCut 33 = .ok (.getfield 19, 3) := by decide +kernel
theorem dX7_layCut_36 : decode cX7_layCut 36 = .ok (.sipush 192, 3) := by decide +kernel
theorem dX7_layCut_39 : decode cX7_layCut 39 = .ok (.iload_n 2, 1) := by decide +kernel
theorem dX7_layCut_40 : decode cX7_layCut 40 = .ok (.iadd, 1) := by decide +kernel
theorem dX7_layCut_41 : decode cX7_layCut 41 = .ok (.aload_n 0, 1) := by decide +kernel
theorem dX7_layCut_42 : decode cX7_layCut 42 = .ok (.getfield 22, 3) := by decide +kernel
theorem dX7_layCut_45 : decode cX7_layCut 45 = .ok (.iload_n 2, 1) := by decide +kernel
theorem dX7_layCut_46 : decode cX7_layCut 46 = .ok (.iaload, 1) := by decide +kernel
theorem dX7_layCut_47 : decode cX7_layCut 47 = .ok (.iload_n 1, 1) := by decide +kernel
theorem dX7_layCut_48 : decode cX7_layCut 48 = .ok (.if_icmp .gt 7, 3) := by decide +kernel
theorem dX7_layCut_51 : decode cX7_layCut 51 = .ok (.iconst 1, 1) := by decide +kernel
theorem dX7_layCut_52 : decode cX7_layCut 52 = .ok (.goto 4, 3) := by decide +kernel
theorem dX7_layCut_55 : decode cX7_layCut 55 = .ok (.iconst 0, 1) := by decide +kernel
theorem dX7_layCut_56 : decode cX7_layCut 56 = .ok (.iastore, 1) := by decide +kernel
theorem dX7_layCut_57 : decode cX7_layCut 57 = .ok (.iinc 2 1, 3) := by decide +kernel
theorem dX7_layCut_60 : decode cX7_layCut 60 = .ok (.goto (-58), 3) := by decide +kernel
theorem dX7_layCut_63 : decode cX7_layCut 63 = .ok (.return_, 1) := by decide +kernel
set_option maxRecDepth 20000 in
theorem ggX7_isTinted_X7_isCell : GoodIn wsX7_isTinted wsX7_isCell := goodIn_r _ [5, 6, 7, 4, 8] (by decide +kernel) (by decide +kernel)
set_option maxRecDepth 20000 in
theorem gX7_isTinted_X7_isCell : GoodIn wsX7_isTinted (va_wsS RX7 47 yX7_isCell wsX7_isCell) := goodIn_app (goodIn_of _ (by decide +kernel)) ggX7_isTinted_X7_isCell
theorem dX7_isTinted_0 : decode cX7_isTinted 0 = .ok (.iload_n 1, 1) := by decide +kernel
theorem dX7_isTinted_1 : decode cX7_isTinted 1 = .ok (.iload_n 3, 1) := by decide +kernel
theorem dX7_isTinted_2 : decode cX7_isTinted 2 = .ok (.isub, 1) := by decide +kernel
theorem dX7_isTinted_3 : decode cX7_isTinted 3 = .ok (.iload_n 2, 1) := by decide +kernel
theorem dX7_isTinted_4 : decode cX7_isTinted 4 = .ok (.iload 4, 2) := by decide +kernel
theorem dX7_isTinted_6 : decode cX7_isTinted 6 = .ok (.isub, 1) := by decide +kernel
theorem dX7_isTinted_7 : decode cX7_isTinted 7 = .ok (.invokestatic 47, 3) := by decide +kernel
theorem dX7_isTinted_10 : decode cX7_isTinted 10 = .ok (.ifCond .eq 31, 3) := by decide +kernel
theorem dX7_isTinted_13 : decode cX7_isTinted 13 = .ok (.aload_n 0, 1) := by decide +kernel
theorem dX7_isTinted_14 : decode cX7_isTinted 14 = .ok (.getfield 19, 3) := by decide +kernel
theorem dX7_isTinted_17 : decode cX7_isTinted 17 = .ok (.sipush 192, 3) := by decide +kernel
theorem dX7_isTinted_20 : decode cX7_isTinted 20 = .ok (.bipush 16, 2) := by decide +kernel
theorem dX7_isTinted_22 : decode cX7_isTinted 22 = .ok (.iload_n 2, 1) := by decide +kernel
theorem dX7_isTinted_23 : decode cX7_isTinted 23 = .ok (.iload 4, 2) := by decide +kernel
theorem dX7_isTinted_25 : decode cX7_isTinted 25 = .ok (.isub, 1) := by decide +kernel
theorem dX7_isTinted_26 : decode cX7_isTinted 26 = .ok (.imul, 1) := by decide +kernel
theorem dX7_isTinted_27 : decode cX7_isTinted 27 = .ok (.iadd, 1) := by decide +kernel
theorem dX7_isTinted_28 : decode cX7_isTinted 28 = .ok (.iload_n 1, 1) := by decide +kernel
theorem dX7_isTinted_29 : decode cX7_isTinted 29 = .ok (.iadd, 1) := by decide +kernel
theorem dX7_isTinted_30 : decode cX7_isTinted 30 = .ok (.iload_n 3, 1) := by decide +kernel
theorem dX7_isTinted_31 : decode cX7_isTinted 31 = .ok (.isub, 1) := by decide +kernel
theorem dX7_isTinted_32 : decode cX7_isTinted 32 = .ok (.iaload, 1) := by decide +kernel
theorem dX7_isTinted_33 : decode cX7_isTinted 33 = .ok (.iconst 1, 1) := by decide +kernel
theorem dX7_isTinted_34 : decode cX7_isTinted 34 = .ok (.if_icmp .ne 7, 3) := by decide +kernel
theorem dX7_isTinted_37 : decode cX7_isTinted 37 = .ok (.iconst 1, 1) := by decide +kernel
theorem dX7_isTinted_38 : decode cX7_isTinted 38 = .ok (.goto 4, 3) := by decide +kernel
theorem dX7_isTinted_41 : decode cX7_isTinted 41 = .ok (.iconst 0, 1) := by decide +kernel
theorem dX7_isTinted_42 : decode cX7_isTinted 42 = .ok (.ireturn, 1) := by decide +kernel
set_option maxRecDepth 20000 in
theorem ggX7_look_X7_isTinted : GoodIn wsX7_look wsX7_isTinted := goodIn_r _ [6, 1, 7, 8, 5, 9, 10, 11, 12, 13, 14, 15, 16, 17, 18, 19, 20, 21, 22, 23, 24, 25, 26, 27] (by decide +kernel) (by decide +kernel)
set_option maxRecDepth 20000 in
theorem gX7_look_X7_isTinted : GoodIn wsX7_look (wsV RX7 57 RX7 yX7_isTinted wsX7_isTinted) := goodIn_app (goodIn_of _ (by decide +kernel)) ggX7_look_X7_isTinted
theorem dX7_look_0 : decode cX7_look 0 = .ok (.iconst 2, 1) := by decide +kernel
theorem dX7_look_1 : decode cX7_look 1 = .ok (.aload_n 0, 1) := by decide +kernel
theorem dX7_look_2 : decode cX7_look 2 = .ok (.getfield 19, 3) := by decide +kernel
theorem dX7_look_5 : decode cX7_look 5 = .ok (.bipush 16, 2) := by decide +kernel
theorem dX7_look_7 : decode cX7_look 7 = .ok (.iload_n 2, 1) := by decide +kernel
theorem dX7_look_8 : decode cX7_look 8 = .ok (.imul, 1) := by decide +kernel
theorem dX7_look_9 : decode cX7_look 9 = .ok (.iload_n 1, 1) := by decide +kernel
theorem dX7_look_10 : decode cX7_look 10 = .ok (.iadd, 1) := by decide +kernel
theorem dX7_look_11 : decode cX7_look 11 = .ok (.iaload, 1) := by decide +kernel
theorem dX7_look_12 : decode cX7_look 12 = .ok (.imul, 1) := by decide +kernel
theorem dX7_look_13 : decode cX7_look 13 = .ok (.aload_n 0, 1) := by decide +kernel
theorem dX7_look_14 : decode cX7_look 14 = .ok (.iload_n 1, 1) := by decide +kernel
theorem dX7_look_15 : decode cX7_look 15 = .ok (.iload_n 2, 1) := by decide +kernel
theorem dX7_look_16 : decode cX7_look 16 = .ok (.iload_n 3, 1) := by decide +kernel
theorem dX7_look_17 : decode cX7_look 17 = .ok (.iload 4, 2) := by decide +kernel
theorem dX7_look_19 : decode cX7_look 19 = .ok (.invokevirtual 57, 3) := by decide +kernel
theorem dX7_look_22 : decode cX7_look 22 = .ok (.ifCond .eq 7, 3) := by decide +kernel
theorem dX7_look_25 : decode cX7_look 25 = .ok (.iconst 1, 1) := by decide +kernel
theorem dX7_look_26 : decode cX7_look 26 = .ok (.goto 4, 3) := by decide +kernel
theorem dX7_look_29 : decode cX7_look 29 = .ok (.iconst 0, 1) := by decide +kernel
theorem dX7_look_30 : decode cX7_look 30 = .ok (.iadd, 1) := by decide +kernel
theorem dX7_look_31 : decode cX7_look 31 = .ok (.ireturn, 1) := by decide +kernel
set_option maxRecDepth 20000 in
theorem ggX7_check_X7_look : GoodIn wsX7_check wsX7_look := goodIn_r _ [9, 10, 11, 12, 13, 8, 14, 15, 16, 17, 18, 19, 20, 21, 22, 23, 24, 25, 26, 27, 28, 29, 30, 31, 32, 33, 34, 35] (by decide +kernel) (by decide +kernel)
set_option maxRecDepth 20000 in
theorem gX7_check_X7_look : GoodIn wsX7_check (wsV RX7 70 RX7 yX7_look wsX7_look) := goodIn_app (goodIn_of _ (by decide +kernel)) ggX7_check_X7_look
theorem dX7_check_0 : decode cX7_check 0 = .ok (.aload_n 0, 1) := by decide +kernel
theorem dX7_check_1 : decode cX7_check 1 = .ok (.iconst 0, 1) := by decide +kernel
theorem dX7_check_2 : decode cX7_check 2 = .ok (.putfield 61, 3) := by decide +kernel
theorem dX7_check_5 : decode cX7_check 5 = .ok (.aload_n 0, 1) := by decide +kernel
theorem dX7_check_6 : decode cX7_check 6 = .ok (.iconst 0, 1) := by decide +kernel
theorem dX7_check_7 : decode cX7_check 7 = .ok (.putfield 64, 3) := by decide +kernel
theorem dX7_check_10 : decode cX7_check 10 = .ok (.aload_n 0, 1) := by decide +kernel
theorem dX7_check_11 : decode cX7_check 11 = .ok (.iconst 0, 1) := by decide +kernel
theorem dX7_check_12 : decode cX7_check 12 = .ok (.putfield 67, 3) := by decide +kernel
theorem dX7_check_15 : decode cX7_check 15 = .ok (.iconst 0, 1) := by decide +kernel
theorem dX7_check_16 : decode cX7_check 16 = .ok (.istore_n 3, 1) := by decide +kernel
theorem dX7_check_17 : decode cX7_check 17 = .ok (.iload_n 3, 1) := by decide +kernel
theorem dX7_check_18 : decode cX7_check 18 = .ok (.bipush 12, 2) := by decide +kernel
theorem dX7_check_20 : decode cX7_check 20 = .ok (.if_icmp .ge 129, 3) := by decide +kernel
theorem dX7_check_23 : decode cX7_check 23 = .ok (.iconst 0, 1) := by decide +kernel
theorem dX7_check_24 : decode cX7_check 24 = .ok (.istore 4, 2) := by decide +kernel
theorem dX7_check_26 : decode cX7_check 26 = .ok (.iload 4, 2) := by decide +kernel
theorem dX7_check_28 : decode cX7_check 28 = .ok (.bipush 16, 2) := by decide +kernel
theorem dX7_check_30 : decode cX7_check 30 = .ok (.if_icmp .ge 113, 3) := by decide +kernel
theorem dX7_check_33 : decode cX7_check 33 = .ok (.aload_n 0, 1) := by decide +kernel
theorem dX7_check_34 : decode cX7_check 34 = .ok (.getfield 7, 3) := by decide +kernel
theorem dX7_check_37 : decode cX7_check 37 = .ok (.iconst 0, 1) := by decide +kernel
theorem dX7_check_38 : decode cX7_check 38 = .ok (.bipush 16, 2) := by decide +kernel
theorem dX7_check_40 : decode cX7_check 40 = .ok (.iload_n 3, 1) := by decide +kernel
theorem dX7_check_41 : decode cX7_check 41 = .ok (.imul, 1) := by decide +kernel
theorem dX7_check_42 : decode cX7_check 42 = .ok (.iadd, 1) := by decide +kernel
theorem dX7_check_43 : decode cX7_check 43 = .ok (.iload 4, 2) := by decide +kernel
theorem dX7_check_45 : decode cX7_check 45 = .ok (.iadd, 1) := by decide +kernel
theorem dX7_check_46 : decode cX7_check 46 = .ok (.iaload, 1) := by decide +kernel
theorem dX7_check_47 : decode cX7_check 47 = .ok (.istore 5, 2) := by decide +kernel
theorem dX7_check_49 : decode cX7_check 49 = .ok (.aload_n 0, 1) := by decide +kernel
theorem dX7_check_50 : decode cX7_check 50 = .ok (.iload 4, 2) := by decide +kernel
theorem dX7_check_52 : decode cX7_check 52 = .ok (.iload_n 3, 1) := by decide +kernel
theorem dX7_check_53 : decode cX7_check 53 = .ok (.iload_n 1, 1) := by decide +kernel
theorem dX7_check_54 : decode cX7_check 54 = .ok (.iload_n 2, 1) := by decide +kernel
theorem dX7_check_55 : decode cX7_check 55 = .ok (.invokevirtual 70, 3) := by decide +kernel
theorem dX7_check_58 : decode cX7_check 58 = .ok (.istore 6, 2) := by decide +kernel
theorem dX7_check_60 : decode cX7_check 60 = .ok (.aload_n 0, 1) := by decide +kernel
theorem dX7_check_61 : decode cX7_check 61 = .ok (.dup, 1) := by decide +kernel
theorem dX7_check_62 : decode cX7_check 62 = .ok (.getfield 61, 3) := by decide +kernel
theorem dX7_check_65 : decode cX7_check 65 = .ok (.iload 5, 2) := by decide +kernel
theorem dX7_check_67 : decode cX7_check 67 = .ok (.ifCond .eq 12, 3) := by decide +kernel
theorem dX7_check_70 : decode cX7_check 70 = .ok (.iload 6, 2) := by decide +kernel
theorem dX7_check_72 : decode cX7_check 72 = .ok (.ifCond .ne 7, 3) := by decide +kernel
theorem dX7_check_75 : decode cX7_check 75 = .ok (.iconst 1, 1) := by decide +kernel
theorem dX7_check_76 : decode cX7_check 76 = .ok (.goto 4, 3) := by decide +kernel
theorem dX7_check_79 : decode cX7_check 79 = .ok (.iconst 0, 1) := by decide +kernel
theorem dX7_check_80 : decode cX7_check 80 = .ok (.iadd, 1) := by decide +kernel
theorem dX7_check_81 : decode cX7_check 81 = .ok (.putfield 61, 3) := by decide +kernel
theorem dX7_check_84 : decode cX7_check 84 = .ok (.aload_n 0, 1) := by decide +kernel
theorem dX7_check_85 : decode cX7_check 85 = .ok (.dup, 1) := by decide +kernel
theorem dX7_check_86 : decode cX7_check 86 = .ok (.getfield 64, 3) := by decide +kernel
theorem dX7_check_89 : decode cX7_check 89 = .ok (.iload 5, 2) := by decide +kernel
theorem dX7_check_91 : decode cX7_check 91 = .ok (.ifCond .ne 15, 3) := by decide +kernel
theorem dX7_check_94 : decode cX7_check 94 = .ok (.iload 6, 2) := by decide +kernel
theorem dX7_check_96 : decode cX7_check 96 = .ok (.iconst 2, 1) := by decide +kernel
theorem dX7_check_97 : decode cX7_check 97 = .ok (.irem, 1) := by decide +kernel
theorem dX7_check_98 : decode cX7_check 98 = .ok (.iconst 1, 1) := by decide +kernel
theorem dX7_check_99 : decode cX7_check 99 = .ok (.if_icmp .ne 7, 3) := by decide +kernel
theorem dX7_check_102 : decode cX7_check 102 = .ok (.iconst 1, 1) := by decide +kernel
theorem dX7_check_103 : decode cX7_check 103 = .ok (.goto 4, 3) := by decide +kernel
theorem dX7_check_106 : decode cX7_check 106 = .ok (.iconst 0, 1) := by decide +kernel
theorem dX7_check_107 : decode cX7_check 107 = .ok (.iadd, 1) := by decide +kernel
theorem dX7_check_108 : decode cX7_check 108 = .ok (.putfield 64, 3) := by decide +kernel
theorem dX7_check_111 : decode cX7_check 111 = .ok (.aload_n 0, 1) := by decide +kernel
theorem dX7_check_112 : decode cX7_check 112 = .ok (.dup, 1) := by decide +kernel
theorem dX7_check_113 : decode cX7_check 113 = .ok (.getfield 67, 3) := by decide +kernel
theorem dX7_check_116 : decode cX7_check 116 = .ok (.iload 5, 2) := by decide +kernel
theorem dX7_check_118 : decode cX7_check 118 = .ok (.iconst 2, 1) := by decide +kernel
theorem dX7_check_119 : decode cX7_check 119 = .ok (.if_icmp .ne 13, 3) := by decide +kernel
theorem dX7_check_122 : decode cX7_check 122 = .ok (.iload 6, 2) := by decide +kernel
theorem dX7_check_124 : decode cX7_check 124 = .ok (.iconst 2, 1) := by decide +kernel
theorem dX7_check_125 : decode cX7_check 125 = .ok (.if_icmp .ge 7, 3) := by decide +kernel
theorem dX7_check_128 : decode cX7_check 128 = .ok (.iconst 1, 1) := by decide +kernel
theorem dX7_check_129 : decode cX7_check 129 = .ok (.goto 4, 3) := by decide +kernel
theorem dX7_check_132 : decode cX7_check 132 = .ok (.iconst 0, 1) := by decide +kernel
theorem dX7_check_133 : decode cX7_check 133 = .ok (.iadd, 1) := by decide +kernel
theorem dX7_check_134 : decode cX7_check 134 = .ok (.putfield 67, 3) := by decide +kernel
theorem dX7_check_137 : decode cX7_check 137 = .ok (.iinc 4 1, 3) := by decide +kernel
theorem dX7_check_140 : decode cX7_check 140 = .ok (.goto (-114), 3) := by decide +kernel
theorem dX7_check_143 : decode cX7_check 143 = .ok (.iinc 3 1, 3) := by decide +kernel
theorem dX7_check_146 : decode cX7_check 146 = .ok (.goto (-129), 3) := by decide +kernel
theorem dX7_check_149 : decode cX7_check 149 = .ok (.return_, 1) := by decide +kernel
set_option maxRecDepth 20000 in
theorem ggX7_hasGapsWithin_X7_check : GoodIn wsX7_hasGapsWithin wsX7_check := goodIn_r _ [6, 1, 7, 8, 9, 10, 11, 12, 5, 13, 14, 15, 16, 17, 18, 19, 20, 21, 22, 23, 24, 25, 26, 27, 28, 29, 30, 31, 32, 33, 34, 35, 36, 37, 38, 39] (by decide +kernel) (by decide +kernel)
set_option maxRecDepth 20000 in
theorem gX7_hasGapsWithin_X7_check : GoodIn wsX7_hasGapsWithin (wsV RX7 74 RX7 yX7_check wsX7_check) := goodIn_app (goodIn_of _ (by decide +kernel)) ggX7_hasGapsWithin_X7_check
theorem dX7_hasGapsWithin_0 : decode cX7_hasGapsWithin 0 = .ok (.iload_n 1, 1) := by decide +kernel
theorem dX7_hasGapsWithin_1 : decode cX7_hasGapsWithin 1 = .ok (.ineg, 1) := by decide +kernel
theorem dX7_hasGapsWithin_2 : decode cX7_hasGapsWithin 2 = .ok (.istore_n 2, 1) := by decide +kernel
theorem dX7_hasGapsWithin_3 : decode cX7_hasGapsWithin 3 = .ok (.iload_n 2, 1) := by decide +kernel
theorem dX7_hasGapsWithin_4 : decode cX7_hasGapsWithin 4 = .ok (.iload_n 1, 1) := by decide +kernel
theorem dX7_hasGapsWithin_5 : decode cX7_hasGapsWithin 5 = .ok (.if_icmp .gt 38, 3) := by decide +kernel
theorem dX7_hasGapsWithin_8 : decode cX7_hasGapsWithin 8 = .ok (.iload_n 1, 1) := by decide +kernel
theorem dX7_hasGapsWithin_9 : decode cX7_hasGapsWithin 9 = .ok (.ineg, 1) := by decide +kernel
theorem dX7_hasGapsWithin_10 : decode cX7_hasGapsWithin 10 = .ok (.istore_n 3, 1) := by decide +kernel
theorem dX7_hasGapsWithin_11 : decode cX7_hasGapsWithin 11 = .ok (.iload_n 3, 1) := by decide +kernel
theorem dX7_hasGapsWithin_12 : decode cX7_hasGapsWithin 12 = .ok (.iload_n 1, 1) := by decide +kernel
theorem dX7_hasGapsWithin_13 : decode cX7_hasGapsWithin 13 = .ok (.if_icmp .gt 24, 3) := by decide +kernel
theorem dX7_hasGapsWithin_16 : decode cX7_hasGapsWithin 16 = .ok (.aload_n 0, 1) := by decide +kernel
theorem dX7_hasGapsWithin_17 : decode cX7_hasGapsWithin 17 = .ok (.iload_n 3, 1) := by decide +kernel
theorem dX7_hasGapsWithin_18 : decode cX7_hasGapsWithin 18 = .ok (.iload_n 2, 1) := by decide +kernel
theorem dX7_hasGapsWithin_19 : decode cX7_hasGapsWithin 19 = .ok (.invokevirtual 74, 3) := by decide +kernel
theorem dX7_hasGapsWithin_22 : decode cX7_hasGapsWithin 22 = .ok (.aload_n 0, 1) := by decide +kernel
theorem dX7_hasGapsWithin_23 : decode cX7_hasGapsWithin 23 = .ok (.getfield 61, 3) := by decide +kernel
theorem dX7_hasGapsWithin_26 : decode cX7_hasGapsWithin 26 = .ok (.ifCond .le 5, 3) := by decide +kernel
theorem dX7_hasGapsWithin_29 : decode cX7_hasGapsWithin 29 = .ok (.iconst 1, 1) := by decide +kernel
theorem dX7_hasGapsWithin_30 : decode cX7_hasGapsWithin 30 = .ok (.ireturn, 1) := by decide +kernel
theorem dX7_hasGapsWithin_31 : decode cX7_hasGapsWithin 31 = .ok (.iinc 3 1, 3) := by decide +kernel
theorem dX7_hasGapsWithin_34 : decode cX7_hasGapsWithin 34 = .ok (.goto (-23), 3) := by decide +kernel
theorem dX7_hasGapsWithin_37 : decode cX7_hasGapsWithin 37 = .ok (.iinc 2 1, 3) := by decide +kernel
theorem dX7_hasGapsWithin_40 : decode cX7_hasGapsWithin 40 = .ok (.goto (-37), 3) := by decide +kernel
theorem dX7_hasGapsWithin_43 : decode cX7_hasGapsWithin 43 = .ok (.iconst 0, 1) := by decide +kernel
theorem dX7_hasGapsWithin_44 : decode cX7_hasGapsWithin 44 = .ok (.ireturn, 1) := by decide +kernel
theorem dX7_shiftX_0 : decode cX7_shiftX 0 = .ok (.iload_n 1, 1) := by decide +kernel
theorem dX7_shiftX_1 : decode cX7_shiftX 1 = .ok (.aload_n 0, 1) := by decide +kernel
theorem dX7_shiftX_2 : decode cX7_shiftX 2 = .ok (.getfield 7, 3) := by decide +kernel
theorem dX7_shiftX_5 : decode cX7_shiftX 5 = .ok (.sipush 768, 3) := by decide +kernel
theorem dX7_shiftX_8 : decode cX7_shiftX 8 = .ok (.iaload, 1) := by decide +kernel
theorem dX7_shiftX_9 : decode cX7_shiftX 9 = .ok (.bipush 50, 2) := by decide +kernel
theorem dX7_shiftX_11 : decode cX7_shiftX 11 = .ok (.isub, 1) := by decide +kernel
theorem dX7_shiftX_12 : decode cX7_shiftX 12 = .ok (.aload_n 0, 1) := by decide +kernel
theorem dX7_shiftX_13 : decode cX7_shiftX 13 = .ok (.getfield 7, 3) := by decide +kernel
theorem dX7_shiftX_16 : decode cX7_shiftX 16 = .ok (.sipush 769, 3) := by decide +kernel
theorem dX7_shiftX_19 : decode cX7_shiftX 19 = .ok (.iaload, 1) := by decide +kernel
theorem dX7_shiftX_20 : decode cX7_shiftX 20 = .ok (.imul, 1) := by decide +kernel
theorem dX7_shiftX_21 : decode cX7_shiftX 21 = .ok (.bipush 50, 2) := by decide +kernel
theorem dX7_shiftX_23 : decode cX7_shiftX 23 = .ok (.idiv, 1) := by decide +kernel
theorem dX7_shiftX_24 : decode cX7_shiftX 24 = .ok (.iadd, 1) := by decide +kernel
theorem dX7_shiftX_25 : decode cX7_shiftX 25 = .ok (.ireturn, 1) := by decide +kernel
theorem dX7_shiftY_0 : decode cX7_shiftY 0 = .ok (.iload_n 1, 1) := by decide +kernel
theorem dX7_shiftY_1 : decode cX7_shiftY 1 = .ok (.aload_n 0, 1) := by decide +kernel
theorem dX7_shiftY_2 : decode cX7_shiftY 2 = .ok (.getfield 7, 3) := by decide +kernel
theorem dX7_shiftY_5 : decode cX7_shiftY 5 = .ok (.sipush 768, 3) := by decide +kernel
theorem dX7_shiftY_8 : decode cX7_shiftY 8 = .ok (.iaload, 1) := by decide +kernel
theorem dX7_shiftY_9 : decode cX7_shiftY 9 = .ok (.bipush 50, 2) := by decide +kernel
theorem dX7_shiftY_11 : decode cX7_shiftY 11 = .ok (.isub, 1) := by decide +kernel
theorem dX7_shiftY_12 : decode cX7_shiftY 12 = .ok (.aload_n 0, 1) := by decide +kernel
theorem dX7_shiftY_13 : decode cX7_shiftY 13 = .ok (.getfield 7, 3) := by decide +kernel
theorem dX7_shiftY_16 : decode cX7_shiftY 16 = .ok (.sipush 770, 3) := by decide +kernel
theorem dX7_shiftY_19 : decode cX7_shiftY 19 = .ok (.iaload, 1) := by decide +kernel
theorem dX7_shiftY_20 : decode cX7_shiftY 20 = .ok (.imul, 1) := by decide +kernel
theorem dX7_shiftY_21 : decode cX7_shiftY 21 = .ok (.bipush 50, 2) := by decide +kernel
theorem dX7_shiftY_23 : decode cX7_shiftY 23 = .ok (.idiv, 1) := by decide +kernel
theorem dX7_shiftY_24 : decode cX7_shiftY 24 = .ok (.iadd, 1) := by decide +kernel
theorem dX7_shiftY_25 : decode cX7_shiftY 25 = .ok (.ireturn, 1) := by decide +kernel
set_option maxRecDepth 20000 in
theorem ggX7_checkNow_X7_lay : GoodIn wsX7_checkNow wsX7_lay := goodIn_r _ [6, 7, 1, 8, 9, 10, 5, 11, 41, 42, 43, 44, 45, 46, 47, 48, 49, 50, 51, 52, 53, 54, 55] (by decide +kernel) (by decide +kernel)
set_option maxRecDepth 20000 in
theorem gX7_checkNow_X7_lay : GoodIn wsX7_checkNow (wsV RX7 78 RX7 yX7_lay wsX7_lay) := goodIn_app (goodIn_of _ (by decide +kernel)) ggX7_checkNow_X7_lay
set_option maxRecDepth 20000 in
theorem ggX7_checkNow_X7_shiftX : GoodIn wsX7_checkNow wsX7_shiftX := goodIn_r _ [15, 1, 41, 42, 43, 44, 45, 46, 47, 48, 49, 50, 51, 52, 53, 54, 55] (by decide +kernel) (by decide +kernel)
set_option maxRecDepth 20000 in
theorem gX7_checkNow_X7_shiftX : GoodIn wsX7_checkNow (wsV RX7 81 RX7 yX7_shiftX wsX7_shiftX) := goodIn_app (goodIn_of _ (by decide +kernel)) ggX7_checkNow_X7_shiftX
set_option maxRecDepth 20000 in
theorem ggX7_checkNow_X7_shiftY : GoodIn wsX7_checkNow wsX7_shiftY := goodIn_r _ [19, 1, 41, 42, 43, 44, 45, 46, 47, 48, 49, 50, 51, 52, 53, 54, 55] (by decide +kernel) (by decide +kernel)
set_option maxRecDepth 20000 in
theorem gX7_checkNow_X7_shiftY : GoodIn wsX7_checkNow (wsV RX7 85 RX7 yX7_shiftY wsX7_shiftY) := goodIn_app (goodIn_of _ (by decide +kernel)) ggX7_checkNow_X7_shiftY
set_option maxRecDepth 20000 in
theorem ggX7_checkNow_X7_check : GoodIn wsX7_checkNow wsX7_check := goodIn_r _ [23, 24, 25, 26, 1, 27, 28, 29, 5, 30, 7, 31, 32, 33, 34, 35, 36, 37, 38, 39, 40, 41, 42, 43, 44, 45, 46, 47, 48, 49, 50, 51, 52, 53, 54, 55] (by decide +kernel) (by decide +kernel)
set_option maxRecDepth 20000 in
theorem gX7_checkNow_X7_check : GoodIn wsX7_checkNow (wsV RX7 74 RX7 yX7_check wsX7_check) := goodIn_app (goodIn_of _ (by decide +kernel)) ggX7_checkNow_X7_check
theorem dX7_checkNow_0 : decode cX7_checkNow 0 = .ok (.aload_n 0, 1) := by decide +kernel
theorem dX7_checkNow_1 : decode cX7_checkNow 1 = .ok (.invokevirtual 78, 3) := by decide +kernel
theorem dX7_checkNow_4 : decode cX7_checkNow 4 = .ok (.aload_n 0, 1) := by decide +kernel
theorem dX7_checkNow_5 : decode cX7_checkNow 5 = .ok (.aload_n 0, 1) := by decide +kernel
theorem dX7_checkNow_6 : decode cX7_checkNow 6 = .ok (.aload_n 0, 1) := by decide +kernel
theorem dX7_checkNow_7 : decode cX7_checkNow 7 = .ok (.getfield 7, 3) := by decide +kernel
theorem dX7_checkNow_10 : decode cX7_checkNow 10 = .ok (.sipush 773, 3) := by decide +kernel
theorem dX7_checkNow_13 : decode cX7_checkNow 13 = .ok (.iaload, 1) := by decide +kernel
theorem dX7_checkNow_14 : decode cX7_checkNow 14 = .ok (.invokevirtual 81, 3) := by decide +kernel
theorem dX7_checkNow_17 : decode cX7_checkNow 17 = .ok (.aload_n 0, 1) := by decide +kernel
theorem dX7_checkNow_18 : decode cX7_checkNow 18 = .ok (.aload_n 0, 1) := by decide +kernel
theorem dX7_checkNow_19 : decode cX7_checkNow 19 = .ok (.getfield 7, 3) := by decide +kernel
theorem dX7_checkNow_22 : decode cX7_checkNow 22 = .ok (.sipush 774, 3) := by decide +kernel
theorem dX7_checkNow_25 : decode cX7_checkNow 25 = .ok (.iaload, 1) := by decide +kernel
theorem dX7_checkNow_26 : decode cX7_checkNow 26 = .ok (.invokevirtual 85, 3) := by decide +kernel
theorem dX7_checkNow_29 : decode cX7_checkNow 29 = .ok (.invokevirtual 74, 3) := by decide +kernel
theorem dX7_checkNow_32 : decode cX7_checkNow 32 = .ok (.return_, 1) := by decide +kernel
set_option maxRecDepth 20000 in
theorem ggX7_paint_X7_isCell : GoodIn wsX7_paint wsX7_isCell := goodIn_r _ [6, 7, 8, 5, 9] (by decide +kernel) (by decide +kernel)
set_option maxRecDepth 20000 in
theorem gX7_paint_X7_isCell : GoodIn wsX7_paint (va_wsS RX7 47 yX7_isCell wsX7_isCell) := goodIn_app (goodIn_of _ (by decide +kernel)) ggX7_paint_X7_isCell
set_option maxRecDepth 20000 in
theorem ggX7_paint_X7_in : GoodIn wsX7_paint wsX7_in := goodIn_r _ [9] (by decide +kernel) (by decide +kernel)
set_option maxRecDepth 20000 in
theorem gX7_paint_X7_in : GoodIn wsX7_paint (va_wsS RX7 32 yX7_in wsX7_in) := goodIn_app (goodIn_of _ (by decide +kernel)) ggX7_paint_X7_in
set_option maxRecDepth 20000 in
theorem ggX7_paint_X7_act : GoodIn wsX7_paint wsX7_act := goodIn_r _ [13, 14, 15, 2, 16, 17, 18, 19, 20, 21, 22, 23, 24, 25, 26, 27, 28, 29, 30] (by decide +kernel) (by decide +kernel)
set_option maxRecDepth 20000 in
theorem gX7_paint_X7_act : GoodIn wsX7_paint (wsV RX7 88 RX7 yX7_act wsX7_act) := goodIn_app (goodIn_of _ (by decide +kernel)) ggX7_paint_X7_act
theorem dX7_paint_0 : decode cX7_paint 0 = .ok (.aload_n 0, 1) := by decide +kernel
theorem dX7_paint_1 : decode cX7_paint 1 = .ok (.iconst 0, 1) := by decide +kernel
theorem dX7_paint_2 : decode cX7_paint 2 = .ok (.putfield 28, 3) := by decide +kernel
theorem dX7_paint_5 : decode cX7_paint 5 = .ok (.iload_n 1, 1) := by decide +kernel
theorem dX7_paint_6 : decode cX7_paint 6 = .ok (.iload_n 2, 1) := by decide +kernel
theorem dX7_paint_7 : decode cX7_paint 7 = .ok (.invokestatic 47, 3) := by decide +kernel
theorem dX7_paint_10 : decode cX7_paint 10 = .ok (.ifCond .eq 38, 3) := by decide +kernel
theorem dX7_paint_13 : decode cX7_paint 13 = .ok (.iload_n 3, 1) := by decide +kernel
theorem dX7_paint_14 : decode cX7_paint 14 = .ok (.iconst 1, 1) := by decide +kernel
theorem dX7_paint_15 : decode cX7_paint 15 = .ok (.bipush 16, 2) := by decide +kernel
theorem dX7_paint_17 : decode cX7_paint 17 = .ok (.iload_n 1, 1) := by decide +kernel
theorem dX7_paint_18 : decode cX7_paint 18 = .ok (.isub, 1) := by decide +kernel
theorem dX7_paint_19 : decode cX7_paint 19 = .ok (.invokestatic 32, 3) := by decide +kernel
theorem dX7_paint_22 : decode cX7_paint 22 = .ok (.ifCond .eq 26, 3) := by decide +kernel
theorem dX7_paint_25 : decode cX7_paint 25 = .ok (.iload 4, 2) := by decide +kernel
theorem dX7_paint_27 : decode cX7_paint 27 = .ok (.iconst 1, 1) := by decide +kernel
theorem dX7_paint_28 : decode cX7_paint 28 = .ok (.bipush 12, 2) := by decide +kernel
theorem dX7_paint_30 : decode cX7_paint 30 = .ok (.iload_n 2, 1) := by decide +kernel
theorem dX7_paint_31 : decode cX7_paint 31 = .ok (.isub, 1) := by decide +kernel
theorem dX7_paint_32 : decode cX7_paint 32 = .ok (.invokestatic 32, 3) := by decide +kernel
theorem dX7_paint_35 : decode cX7_paint 35 = .ok (.ifCond .eq 13, 3) := by decide +kernel
theorem dX7_paint_38 : decode cX7_paint 38 = .ok (.iload 5, 2) := by decide +kernel
theorem dX7_paint_40 : decode cX7_paint 40 = .ok (.iconst 0, 1) := by decide +kernel
theorem dX7_paint_41 : decode cX7_paint 41 = .ok (.iconst 2, 1) := by decide +kernel
theorem dX7_paint_42 : decode cX7_paint 42 = .ok (.invokestatic 32, 3) := by decide +kernel
theorem dX7_paint_45 : decode cX7_paint 45 = .ok (.ifCond .ne 7, 3) := by decide +kernel
theorem dX7_paint_48 : decode cX7_paint 48 = .ok (.sipush (-1001), 3) := by decide +kernel
theorem dX7_paint_51 : decode cX7_paint 51 = .ok (.ireturn, 1) := by decide +kernel
theorem dX7_paint_52 : decode cX7_paint 52 = .ok (.aload_n 0, 1) := by decide +kernel
theorem dX7_paint_53 : decode cX7_paint 53 = .ok (.invokevirtual 88, 3) := by decide +kernel
theorem dX7_paint_56 : decode cX7_paint 56 = .ok (.iconst 0, 1) := by decide +kernel
theorem dX7_paint_57 : decode cX7_paint 57 = .ok (.istore 6, 2) := by decide +kernel
theorem dX7_paint_59 : decode cX7_paint 59 = .ok (.iload_n 2, 1) := by decide +kernel
theorem dX7_paint_60 : decode cX7_paint 60 = .ok (.istore 7, 2) := by decide +kernel
theorem dX7_paint_62 : decode cX7_paint 62 = .ok (.iload 7, 2) := by decide +kernel
theorem dX7_paint_64 : decode cX7_paint 64 = .ok (.iload_n 2, 1) := by decide +kernel
theorem dX7_paint_65 : decode cX7_paint 65 = .ok (.iload 4, 2) := by decide +kernel
theorem dX7_paint_67 : decode cX7_paint 67 = .ok (.iadd, 1) := by decide +kernel
theorem dX7_paint_68 : decode cX7_paint 68 = .ok (.if_icmp .ge 69, 3) := by decide +kernel
theorem dX7_paint_71 : decode cX7_paint 71 = .ok (.iload_n 1, 1) := by decide +kernel
theorem dX7_paint_72 : decode cX7_paint 72 = .ok (.istore 8, 2) := by decide +kernel
theorem dX7_paint_74 : decode cX7_paint 74 = .ok (.iload 8, 2) := by decide +kernel
theorem dX7_paint_76 : decode cX7_paint 76 = .ok (.iload_n 1, 1) := by decide +kernel
theorem dX7_paint_77 : decode cX7_paint 77 = .ok (.iload_n 3, 1) := by decide +kernel
theorem dX7_paint_78 : decode cX7_paint 78 = .ok (.iadd, 1) := by decide +kernel
theorem dX7_paint_79 : decode cX7_paint 79 = .ok (.if_icmp .ge 52, 3) := by decide +kernel
theorem dX7_paint_82 : decode cX7_paint 82 = .ok (.iconst 0, 1) := by decide +kernel
theorem dX7_paint_83 : decode cX7_paint 83 = .ok (.bipush 16, 2) := by decide +kernel
theorem dX7_paint_85 : decode cX7_paint 85 = .ok (.iload 7, 2) := by decide +kernel
theorem dX7_paint_87 : decode cX7_paint 87 = .ok (.imul, 1) := by decide +kernel
theorem dX7_paint_88 : decode cX7_paint 88 = .ok (.iadd, 1) := by decide +kernel
theorem dX7_paint_89 : decode cX7_paint 89 = .ok (.iload 8, 2) := by decide +kernel
theorem dX7_paint_91 : decode cX7_paint 91 = .ok (.iadd, 1) := by decide +kernel
theorem dX7_paint_92 : decode cX7_paint 92 = .ok (.istore 9, 2) := by decide +kernel
theorem dX7_paint_94 : decode cX7_paint 94 = .ok (.iload 6, 2) := by decide +kernel
theorem dX7_paint_96 : decode cX7_paint 96 = .ok (.aload_n 0, 1) := by decide +kernel
theorem dX7_paint_97 : decode cX7_paint 97 = .ok (.getfield 7, 3) := by decide +kernel
theorem dX7_paint_100 : decode cX7_paint 100 = .ok (.iload 9, 2) := by decide +kernel
theorem dX7_paint_102 : decode cX7_paint 102 = .ok (.iaload, 1) := by decide +kernel
theorem dX7_paint_103 : decode cX7_paint 103 = .ok (.iload 5, 2) := by decide +kernel
theorem dX7_paint_105 : decode cX7_paint 105 = .ok (.if_icmp .ne 7, 3) := by decide +kernel
theorem dX7_paint_108 : decode cX7_paint 108 = .ok (.iconst 0, 1) := by decide +kernel
theorem dX7_paint_109 : decode cX7_paint 109 = .ok (.goto 4, 3) := by decide +kernel
theorem dX7_paint_112 : decode cX7_paint 112 = .ok (.iconst 1, 1) := by decide +kernel
theorem dX7_paint_113 : decode cX7_paint 113 = .ok (.iadd, 1) := by decide +kernel
theorem dX7_paint_114 : decode cX7_paint 114 = .ok (.istore 6, 2) := by decide +kernel
theorem dX7_paint_116 : decode cX7_paint 116 = .ok (.aload_n 0, 1) := by decide +kernel
theorem dX7_paint_117 : decode cX7_paint 117 = .ok (.getfield 7, 3) := by decide +kernel
theorem dX7_paint_120 : decode cX7_paint 120 = .ok (.iload 9, 2) := by decide +kernel
theorem dX7_paint_122 : decode cX7_paint 122 = .ok (.iload 5, 2) := by decide +kernel
theorem dX7_paint_124 : decode cX7_paint 124 = .ok (.iastore, 1) := by decide +kernel
theorem dX7_paint_125 : decode cX7_paint 125 = .ok (.iinc 8 1, 3) := by decide +kernel
theorem dX7_paint_128 : decode cX7_paint 128 = .ok (.goto (-54), 3) := by decide +kernel
theorem dX7_paint_131 : decode cX7_paint 131 = .ok (.iinc 7 1, 3) := by decide +kernel
theorem dX7_paint_134 : decode cX7_paint 134 = .ok (.goto (-72), 3) := by decide +kernel
theorem dX7_paint_137 : decode cX7_paint 137 = .ok (.iload 6, 2) := by decide +kernel
theorem dX7_paint_139 : decode cX7_paint 139 = .ok (.ireturn, 1) := by decide +kernel
set_option maxRecDepth 20000 in
theorem ggX7_cut_X7_in : GoodIn wsX7_cut wsX7_in := goodIn_r _ [7] (by decide +kernel) (by decide +kernel)
set_option maxRecDepth 20000 in
theorem gX7_cut_X7_in : GoodIn wsX7_cut (va_wsS RX7 32 yX7_in wsX7_in) := goodIn_app (goodIn_of _ (by decide +kernel)) ggX7_cut_X7_in
set_option maxRecDepth 20000 in
theorem ggX7_cut_X7_act : GoodIn wsX7_cut wsX7_act := goodIn_r _ [11, 12, 13, 2, 37, 38, 39, 40, 41, 42, 43, 44, 45, 46, 47, 48, 49, 50, 51] (by decide +kernel) (by decide +kernel)
set_option maxRecDepth 20000 in
theorem gX7_cut_X7_act : GoodIn wsX7_cut (wsV RX7 88 RX7 yX7_act wsX7_act) := goodIn_app (goodIn_of _ (by decide +kernel)) ggX7_cut_X7_act
set_option maxRecDepth 20000 in
theorem ggX7_cut_X7_measure : GoodIn wsX7_cut wsX7_measure := goodIn_r _ [17, 18, 2, 19, 20, 21, 6, 22, 23, 24, 25, 26, 27, 28, 4, 5, 7, 37, 38, 39, 40, 41, 42, 43, 44, 45, 46, 47, 48, 49, 50, 51] (by decide +kernel) (by decide +kernel)
set_option maxRecDepth 20000 in
theorem gX7_cut_X7_measure : GoodIn wsX7_cut (wsV RX7 91 RX7 yX7_measure wsX7_measure) := goodIn_app (goodIn_of _ (by decide +kernel)) ggX7_cut_X7_measure
set_option maxRecDepth 20000 in
theorem ggX7_cut_X7_layCut : GoodIn wsX7_cut wsX7_layCut := goodIn_r _ [32, 3, 2, 18, 37, 38, 39, 40, 41, 42, 43, 44, 45, 46, 47, 48, 49, 50, 51] (by decide +kernel) (by decide +kernel)
set_option maxRecDepth 20000 in
theorem gX7_cut_X7_layCut : GoodIn wsX7_cut (wsV RX7 94 RX7 yX7_layCut wsX7_layCut) := goodIn_app (goodIn_of _ (by decide +kernel)) ggX7_cut_X7_layCut
set_option maxRecDepth 20000 in
theorem ggX7_cut_X7_many : GoodIn wsX7_cut wsX7_many := goodIn_r _ [36, 2, 37, 38, 39, 40, 41, 42, 43, 44, 45, 46, 47, 48, 49, 50, 51] (by decide +kernel) (by decide +kernel)
set_option maxRecDepth 20000 in
theorem gX7_cut_X7_many : GoodIn wsX7_cut (wsV RX7 39 RX7 yX7_many wsX7_many) := goodIn_app (goodIn_of _ (by decide +kernel)) ggX7_cut_X7_many
theorem dX7_cut_0 : decode cX7_cut 0 = .ok (.aload_n 0, 1) := by decide +kernel
theorem dX7_cut_1 : decode cX7_cut 1 = .ok (.iconst 0, 1) := by decide +kernel
theorem dX7_cut_2 : decode cX7_cut 2 = .ok (.putfield 28, 3) := by decide +kernel
theorem dX7_cut_5 : decode cX7_cut 5 = .ok (.iload_n 1, 1) := by decide +kernel
theorem dX7_cut_6 : decode cX7_cut 6 = .ok (.iconst 0, 1) := by decide +kernel
theorem dX7_cut_7 : decode cX7_cut 7 = .ok (.iconst 4, 1) := by decide +kernel
theorem dX7_cut_8 : decode cX7_cut 8 = .ok (.invokestatic 32, 3) := by decide +kernel
theorem dX7_cut_11 : decode cX7_cut 11 = .ok (.ifCond .ne 7, 3) := by decide +kernel
theorem dX7_cut_14 : decode cX7_cut 14 = .ok (.sipush (-1001), 3) := by decide +kernel
theorem dX7_cut_17 : decode cX7_cut 17 = .ok (.ireturn, 1) := by decide +kernel
theorem dX7_cut_18 : decode cX7_cut 18 = .ok (.aload_n 0, 1) := by decide +kernel
theorem dX7_cut_19 : decode cX7_cut 19 = .ok (.invokevirtual 88, 3) := by decide +kernel
theorem dX7_cut_22 : decode cX7_cut 22 = .ok (.aload_n 0, 1) := by decide +kernel
theorem dX7_cut_23 : decode cX7_cut 23 = .ok (.invokevirtual 91, 3) := by decide +kernel
theorem dX7_cut_26 : decode cX7_cut 26 = .ok (.aload_n 0, 1) := by decide +kernel
theorem dX7_cut_27 : decode cX7_cut 27 = .ok (.iload_n 1, 1) := by decide +kernel
theorem dX7_cut_28 : decode cX7_cut 28 = .ok (.invokevirtual 94, 3) := by decide +kernel
theorem dX7_cut_31 : decode cX7_cut 31 = .ok (.iconst 0, 1) := by decide +kernel
theorem dX7_cut_32 : decode cX7_cut 32 = .ok (.istore_n 2, 1) := by decide +kernel
theorem dX7_cut_33 : decode cX7_cut 33 = .ok (.iload_n 2, 1) := by decide +kernel
theorem dX7_cut_34 : decode cX7_cut 34 = .ok (.sipush 192, 3) := by decide +kernel
theorem dX7_cut_37 : decode cX7_cut 37 = .ok (.if_icmp .ge 56, 3) := by decide +kernel
theorem dX7_cut_40 : decode cX7_cut 40 = .ok (.aload_n 0, 1) := by decide +kernel
theorem dX7_cut_41 : decode cX7_cut 41 = .ok (.getfield 7, 3) := by decide +kernel
theorem dX7_cut_44 : decode cX7_cut 44 = .ok (.sipush 192, 3) := by decide +kernel
theorem dX7_cut_47 : decode cX7_cut 47 = .ok (.iload_n 2, 1) := by decide +kernel
theorem dX7_cut_48 : decode cX7_cut 48 = .ok (.iadd, 1) := by decide +kernel
theorem dX7_cut_49 : decode cX7_cut 49 = .ok (.aload_n 0, 1) := by decide +kernel
theorem dX7_cut_50 : decode cX7_cut 50 = .ok (.getfield 19, 3) := by decide +kernel
theorem dX7_cut_53 : decode cX7_cut 53 = .ok (.iload_n 2, 1) := by decide +kernel
theorem dX7_cut_54 : decode cX7_cut 54 = .ok (.iaload, 1) := by decide +kernel
theorem dX7_cut_55 : decode cX7_cut 55 = .ok (.iastore, 1) := by decide +kernel
theorem dX7_cut_56 : decode cX7_cut 56 = .ok (.aload_n 0, 1) := by decide +kernel
theorem dX7_cut_57 : decode cX7_cut 57 = .ok (.getfield 7, 3) := by decide +kernel
theorem dX7_cut_60 : decode cX7_cut 60 = .ok (.sipush 384, 3) := by decide +kernel
theorem dX7_cut_63 : decode cX7_cut 63 = .ok (.iload_n 2, 1) := by decide +kernel
theorem dX7_cut_64 : decode cX7_cut 64 = .ok (.iadd, 1) := by decide +kernel
theorem dX7_cut_65 : decode cX7_cut 65 = .ok (.iconst 0, 1) := by decide +kernel
theorem dX7_cut_66 : decode cX7_cut 66 = .ok (.iastore, 1) := by decide +kernel
theorem dX7_cut_67 : decode cX7_cut 67 = .ok (.aload_n 0, 1) := by decide +kernel
theorem dX7_cut_68 : decode cX7_cut 68 = .ok (.getfield 7, 3) := by decide +kernel
theorem dX7_cut_71 : decode cX7_cut 71 = .ok (.sipush 576, 3) := by decide +kernel
theorem dX7_cut_74 : decode cX7_cut 74 = .ok (.iload_n 2, 1) := by decide +kernel
theorem dX7_cut_75 : decode cX7_cut 75 = .ok (.iadd, 1) := by decide +kernel
theorem dX7_cut_76 : decode cX7_cut 76 = .ok (.aload_n 0, 1) := by decide +kernel
theorem dX7_cut_77 : decode cX7_cut 77 = .ok (.getfield 19, 3) := by decide +kernel
theorem dX7_cut_80 : decode cX7_cut 80 = .ok (.sipush 192, 3) := by decide +kernel
theorem dX7_cut_83 : decode cX7_cut 83 = .ok (.iload_n 2, 1) := by decide +kernel
theorem dX7_cut_84 : decode cX7_cut 84 = .ok (.iadd, 1) := by decide +kernel
theorem dX7_cut_85 : decode cX7_cut 85 = .ok (.iaload, 1) := by decide +kernel
theorem dX7_cut_86 : decode cX7_cut 86 = .ok (.iastore, 1) := by decide +kernel
theorem dX7_cut_87 : decode cX7_cut 87 = .ok (.iinc 2 1, 3) := by decide +kernel
theorem dX7_cut_90 : decode cX7_cut 90 = .ok (.goto (-57), 3) := by decide +kernel
theorem dX7_cut_93 : decode cX7_cut 93 = .ok (.aload_n 0, 1) := by decide +kernel
theorem dX7_cut_94 : decode cX7_cut 94 = .ok (.sipush 576, 3) := by decide +kernel
theorem dX7_cut_97 : decode cX7_cut 97 = .ok (.iconst 1, 1) := by decide +kernel
theorem dX7_cut_98 : decode cX7_cut 98 = .ok (.invokevirtual 39, 3) := by decide +kernel
theorem dX7_cut_101 : decode cX7_cut 101 = .ok (.ireturn, 1) := by decide +kernel
set_option maxRecDepth 20000 in
theorem ggX7_carve_X7_in : GoodIn wsX7_carve wsX7_in := goodIn_r _ [6] (by decide +kernel) (by decide +kernel)
set_option maxRecDepth 20000 in
theorem gX7_carve_X7_in : GoodIn wsX7_carve (va_wsS RX7 32 yX7_in wsX7_in) := goodIn_app (goodIn_of _ (by decide +kernel)) ggX7_carve_X7_in
set_option maxRecDepth 20000 in
theorem ggX7_carve_X7_isCell : GoodIn wsX7_carve wsX7_isCell := goodIn_r _ [9, 3, 4, 5, 6] (by decide +kernel) (by decide +kernel)
set_option maxRecDepth 20000 in
theorem gX7_carve_X7_isCell : GoodIn wsX7_carve (va_wsS RX7 47 yX7_isCell wsX7_isCell) := goodIn_app (goodIn_of _ (by decide +kernel)) ggX7_carve_X7_isCell
set_option maxRecDepth 20000 in
theorem ggX7_carve_X7_act : GoodIn wsX7_carve wsX7_act := goodIn_r _ [13, 14, 15, 2, 16, 17, 18, 19, 20, 21, 22, 23, 24, 25, 26, 27, 28, 29, 30] (by decide +kernel) (by decide +kernel)
set_option maxRecDepth 20000 in
theorem gX7_carve_X7_act : GoodIn wsX7_carve (wsV RX7 88 RX7 yX7_act wsX7_act) := goodIn_app (goodIn_of _ (by decide +kernel)) ggX7_carve_X7_act
theorem dX7_carve_0 : decode cX7_carve 0 = .ok (.aload_n 0, 1) := by decide +kernel
theorem dX7_carve_1 : decode cX7_carve 1 = .ok (.iconst 0, 1) := by decide +kernel
theorem dX7_carve_2 : decode cX7_carve 2 = .ok (.putfield 28, 3) := by decide +kernel
theorem dX7_carve_5 : decode cX7_carve 5 = .ok (.iload_n 1, 1) := by decide +kernel
theorem dX7_carve_6 : decode cX7_carve 6 = .ok (.iconst 0, 1) := by decide +kernel
theorem dX7_carve_7 : decode cX7_carve 7 = .ok (.iconst 1, 1) := by decide +kernel
theorem dX7_carve_8 : decode cX7_carve 8 = .ok (.invokestatic 32, 3) := by decide +kernel
theorem dX7_carve_11 : decode cX7_carve 11 = .ok (.ifCond .eq 21, 3) := by decide +kernel
theorem dX7_carve_14 : decode cX7_carve 14 = .ok (.iload_n 2, 1) := by decide +kernel
theorem dX7_carve_15 : decode cX7_carve 15 = .ok (.iload_n 3, 1) := by decide +kernel
theorem dX7_carve_16 : decode cX7_carve 16 = .ok (.invokestatic 47, 3) := by decide +kernel
theorem dX7_carve_19 : decode cX7_carve 19 = .ok (.ifCond .eq 13, 3) := by decide +kernel
theorem dX7_carve_22 : decode cX7_carve 22 = .ok (.iload 4, 2) := by decide +kernel
theorem dX7_carve_24 : decode cX7_carve 24 = .ok (.iconst 0, 1) := by decide +kernel
theorem dX7_carve_25 : decode cX7_carve 25 = .ok (.iconst 1, 1) := by decide +kernel
theorem dX7_carve_26 : decode cX7_carve 26 = .ok (.invokestatic 32, 3) := by decide +kernel
theorem dX7_carve_29 : decode cX7_carve 29 = .ok (.ifCond .ne 7, 3) := by decide +kernel
theorem dX7_carve_32 : decode cX7_carve 32 = .ok (.sipush (-1001), 3) := by decide +kernel
theorem dX7_carve_35 : decode cX7_carve 35 = .ok (.ireturn, 1) := by decide +kernel
theorem dX7_carve_36 : decode cX7_carve 36 = .ok (.aload_n 0, 1) := by decide +kernel
theorem dX7_carve_37 : decode cX7_carve 37 = .ok (.invokevirtual 88, 3) := by decide +kernel
theorem dX7_carve_40 : decode cX7_carve 40 = .ok (.iload_n 1, 1) := by decide +kernel
theorem dX7_carve_41 : decode cX7_carve 41 = .ok (.ifCond .ne 9, 3) := by decide +kernel
theorem dX7_carve_44 : decode cX7_carve 44 = .ok (.sipush 192, 3) := by decide +kernel
theorem dX7_carve_47 : decode cX7_carve 47 = .ok (.goto 6, 3) := by decide +kernel
theorem dX7_carve_50 : decode cX7_carve 50 = .ok (.sipush 576, 3) := by decide +kernel
theorem dX7_carve_53 : decode cX7_carve 53 = .ok (.bipush 16, 2) := by decide +kernel
theorem dX7_carve_55 : decode cX7_carve 55 = .ok (.iload_n 3, 1) := by decide +kernel
theorem dX7_carve_56 : decode cX7_carve 56 = .ok (.imul, 1) := by decide +kernel
theorem dX7_carve_57 : decode cX7_carve 57 = .ok (.iadd, 1) := by decide +kernel
theorem dX7_carve_58 : decode cX7_carve 58 = .ok (.iload_n 2, 1) := by decide +kernel
theorem dX7_carve_59 : decode cX7_carve 59 = .ok (.iadd, 1) := by decide +kernel
theorem dX7_carve_60 : decode cX7_carve 60 = .ok (.istore 5, 2) := by decide +kernel
theorem dX7_carve_62 : decode cX7_carve 62 = .ok (.aload_n 0, 1) := by decide +kernel
theorem dX7_carve_63 : decode cX7_carve 63 = .ok (.getfield 7, 3) := by decide +kernel
theorem dX7_carve_66 : decode cX7_carve 66 = .ok (.iload 5, 2) := by decide +kernel
theorem dX7_carve_68 : decode cX7_carve 68 = .ok (.iaload, 1) := by decide +kernel
theorem dX7_carve_69 : decode cX7_carve 69 = .ok (.istore 6, 2) := by decide +kernel
theorem dX7_carve_71 : decode cX7_carve 71 = .ok (.aload_n 0, 1) := by decide +kernel
theorem dX7_carve_72 : decode cX7_carve 72 = .ok (.getfield 7, 3) := by decide +kernel
theorem dX7_carve_75 : decode cX7_carve 75 = .ok (.iload 5, 2) := by decide +kernel
theorem dX7_carve_77 : decode cX7_carve 77 = .ok (.iload 4, 2) := by decide +kernel
theorem dX7_carve_79 : decode cX7_carve 79 = .ok (.iastore, 1) := by decide +kernel
theorem dX7_carve_80 : decode cX7_carve 80 = .ok (.iload_n 1, 1) := by decide +kernel
theorem dX7_carve_81 : decode cX7_carve 81 = .ok (.ifCond .ne 19, 3) := by decide +kernel
theorem dX7_carve_84 : decode cX7_carve 84 = .ok (.aload_n 0, 1) := by decide +kernel
theorem dX7_carve_85 : decode cX7_carve 85 = .ok (.getfield 7, 3) := by decide +kernel
theorem dX7_carve_88 : decode cX7_carve 88 = .ok (.sipush 384, 3) := by decide +kernel
theorem dX7_carve_91 : decode cX7_carve 91 = .ok (.bipush 16, 2) := by decide +kernel
theorem dX7_carve_93 : decode cX7_carve 93 = .ok (.iload_n 3, 1) := by decide +kernel
theorem dX7_carve_94 : decode cX7_carve 94 = .ok (.imul, 1) := by decide +kernel
theorem dX7_carve_95 : decode cX7_carve 95 = .ok (.iadd, 1) := by decide +kernel
theorem dX7_carve_96 : decode cX7_carve 96 = .ok (.iload_n 2, 1) := by decide +kernel
theorem dX7_carve_97 : decode cX7_carve 97 = .ok (.iadd, 1) := by decide +kernel
theorem dX7_carve_98 : decode cX7_carve 98 = .ok (.iconst 0, 1) := by decide +kernel
theorem dX7_carve_99 : decode cX7_carve 99 = .ok (.iastore, 1) := by decide +kernel
theorem dX7_carve_100 : decode cX7_carve 100 = .ok (.iload 6, 2) := by decide +kernel
theorem dX7_carve_102 : decode cX7_carve 102 = .ok (.ireturn, 1) := by decide +kernel
set_option maxRecDepth 20000 in
theorem ggX7_plug_X7_isCell : GoodIn wsX7_plug wsX7_isCell := goodIn_r _ [6, 7, 8, 5, 9] (by decide +kernel) (by decide +kernel)
set_option maxRecDepth 20000 in
theorem gX7_plug_X7_isCell : GoodIn wsX7_plug (va_wsS RX7 47 yX7_isCell wsX7_isCell) := goodIn_app (goodIn_of _ (by decide +kernel)) ggX7_plug_X7_isCell
set_option maxRecDepth 20000 in
theorem ggX7_plug_X7_isWorn : GoodIn wsX7_plug wsX7_isWorn := goodIn_r _ [13, 2, 24, 25, 26, 27, 28, 29, 30, 31, 32, 33, 34, 35, 36, 37, 38] (by decide +kernel) (by decide +kernel)
set_option maxRecDepth 20000 in
theorem gX7_plug_X7_isWorn : GoodIn wsX7_plug (wsV RX7 43 RX7 yX7_isWorn wsX7_isWorn) := goodIn_app (goodIn_of _ (by decide +kernel)) ggX7_plug_X7_isWorn
set_option maxRecDepth 20000 in
theorem ggX7_plug_X7_act : GoodIn wsX7_plug wsX7_act := goodIn_r _ [17, 18, 19, 2, 24, 25, 26, 27, 28, 29, 30, 31, 32, 33, 34, 35, 36, 37, 38] (by decide +kernel) (by decide +kernel)
set_option maxRecDepth 20000 in
theorem gX7_plug_X7_act : GoodIn wsX7_plug (wsV RX7 88 RX7 yX7_act wsX7_act) := goodIn_app (goodIn_of _ (by decide +kernel)) ggX7_plug_X7_act
set_option maxRecDepth 20000 in
theorem ggX7_plug_X7_wornCells : GoodIn wsX7_plug wsX7_wornCells := goodIn_r _ [23, 10, 11, 12, 5, 13, 2, 24, 25, 26, 27, 28, 29, 30, 31, 32, 33, 34, 35, 36, 37, 38] (by decide +kernel) (by decide +kernel)
set_option maxRecDepth 20000 in
theorem gX7_plug_X7_wornCells : GoodIn wsX7_plug (wsV RX7 98 RX7 yX7_wornCells wsX7_wornCells) := goodIn_app (goodIn_of _ (by decide +kernel)) ggX7_plug_X7_wornCells
theorem dX7_plug_0 : decode cX7_plug 0 = .ok (.aload_n 0, 1) := by decide +kernel
theorem dX7_plug_1 : decode cX7_plug 1 = .ok (.iconst 0, 1) := by decide +kernel
theorem dX7_plug_2 : decode cX7_plug 2 = .ok (.putfield 28, 3) := by decide +kernel
theorem dX7_plug_5 : decode cX7_plug 5 = .ok (.iload_n 1, 1) := by decide +kernel
theorem dX7_plug_6 : decode cX7_plug 6 = .ok (.iload_n 2, 1) := by decide +kernel
theorem dX7_plug_7 : decode cX7_plug 7 = .ok (.invokestatic 47, 3) := by decide +kernel
theorem dX7_plug_10 : decode cX7_plug 10 = .ok (.ifCond .ne 7, 3) := by decide +kernel
theorem dX7_plug_13 : decode cX7_plug 13 = .ok (.sipush (-1001), 3) := by decide +kernel
theorem dX7_plug_16 : decode cX7_plug 16 = .ok (.ireturn, 1) := by decide +kernel
theorem dX7_plug_17 : decode cX7_plug 17 = .ok (.aload_n 0, 1) := by decide +kernel
theorem dX7_plug_18 : decode cX7_plug 18 = .ok (.bipush 16, 2) := by decide +kernel
theorem dX7_plug_20 : decode cX7_plug 20 = .ok (.iload_n 2, 1) := by decide +kernel
theorem dX7_plug_21 : decode cX7_plug 21 = .ok (.imul, 1) := by decide +kernel
theorem dX7_plug_22 : decode cX7_plug 22 = .ok (.iload_n 1, 1) := by decide +kernel
theorem dX7_plug_23 : decode cX7_plug 23 = .ok (.iadd, 1) := by decide +kernel
theorem dX7_plug_24 : decode cX7_plug 24 = .ok (.invokevirtual 43, 3) := by decide +kernel
theorem dX7_plug_27 : decode cX7_plug 27 = .ok (.ifCond .ne 7, 3) := by decide +kernel
theorem dX7_plug_30 : decode cX7_plug 30 = .ok (.sipush (-1002), 3) := by decide +kernel
theorem dX7_plug_33 : decode cX7_plug 33 = .ok (.ireturn, 1) := by decide +kernel
theorem dX7_plug_34 : decode cX7_plug 34 = .ok (.aload_n 0, 1) := by decide +kernel
theorem dX7_plug_35 : decode cX7_plug 35 = .ok (.invokevirtual 88, 3) := by decide +kernel
theorem dX7_plug_38 : decode cX7_plug 38 = .ok (.aload_n 0, 1) := by decide +kernel
theorem dX7_plug_39 : decode cX7_plug 39 = .ok (.getfield 7, 3) := by decide +kernel
theorem dX7_plug_42 : decode cX7_plug 42 = .ok (.sipush 384, 3) := by decide +kernel
theorem dX7_plug_45 : decode cX7_plug 45 = .ok (.bipush 16, 2) := by decide +kernel
theorem dX7_plug_47 : decode cX7_plug 47 = .ok (.iload_n 2, 1) := by decide +kernel
theorem dX7_plug_48 : decode cX7_plug 48 = .ok (.imul, 1) := by decide +kernel
theorem dX7_plug_49 : decode cX7_plug 49 = .ok (.iadd, 1) := by decide +kernel
theorem dX7_plug_50 : decode cX7_plug 50 = .ok (.iload_n 1, 1) := by decide +kernel
theorem dX7_plug_51 : decode cX7_plug 51 = .ok (.iadd, 1) := by decide +kernel
theorem dX7_plug_52 : decode cX7_plug 52 = .ok (.iconst 0, 1) := by decide +kernel
theorem dX7_plug_53 : decode cX7_plug 53 = .ok (.iastore, 1) := by decide +kernel
theorem dX7_plug_54 : decode cX7_plug 54 = .ok (.aload_n 0, 1) := by decide +kernel
theorem dX7_plug_55 : decode cX7_plug 55 = .ok (.invokevirtual 98, 3) := by decide +kernel
theorem dX7_plug_58 : decode cX7_plug 58 = .ok (.ireturn, 1) := by decide +kernel
set_option maxRecDepth 20000 in
theorem ggX7_setPins_X7_in : GoodIn wsX7_setPins wsX7_in := goodIn_r _ [7] (by decide +kernel) (by decide +kernel)
set_option maxRecDepth 20000 in
theorem gX7_setPins_X7_in : GoodIn wsX7_setPins (va_wsS RX7 32 yX7_in wsX7_in) := goodIn_app (goodIn_of _ (by decide +kernel)) ggX7_setPins_X7_in
set_option maxRecDepth 20000 in
theorem ggX7_setPins_X7_act : GoodIn wsX7_setPins wsX7_act := goodIn_r _ [11, 12, 13, 2, 52, 53, 54, 55, 56, 57, 58, 59, 60, 61, 62, 63, 64, 65, 66] (by decide +kernel) (by decide +kernel)
set_option maxRecDepth 20000 in
theorem gX7_setPins_X7_act : GoodIn wsX7_setPins (wsV RX7 88 RX7 yX7_act wsX7_act) := goodIn_app (goodIn_of _ (by decide +kernel)) ggX7_setPins_X7_act
set_option maxRecDepth 20000 in
theorem ggX7_setPins_X7_checkNow : GoodIn wsX7_setPins wsX7_checkNow := goodIn_r _ [17, 2, 18, 19, 20, 6, 21, 22, 23, 24, 25, 26, 27, 28, 29, 30, 31, 32, 33, 34, 35, 36, 37, 38, 3, 39, 40, 41, 42, 43, 44, 45, 46, 47, 48, 49, 50, 51, 4, 5, 7, 52, 53, 54, 55, 56, 57, 58, 59, 60, 61, 62, 63, 64, 65, 66] (by decide +kernel) (by decide +kernel)
set_option maxRecDepth 20000 in
theorem gX7_setPins_X7_checkNow : GoodIn wsX7_setPins (wsV RX7 102 RX7 yX7_checkNow wsX7_checkNow) := goodIn_app (goodIn_of _ (by decide +kernel)) ggX7_setPins_X7_checkNow
theorem dX7_setPins_0 : decode cX7_setPins 0 = .ok (.aload_n 0, 1) := by decide +kernel
theorem dX7_setPins_1 : decode cX7_setPins 1 = .ok (.iconst 0, 1) := by decide +kernel
theorem dX7_setPins_2 : decode cX7_setPins 2 = .ok (.putfield 28, 3) := by decide +kernel
theorem dX7_setPins_5 : decode cX7_setPins 5 = .ok (.iload_n 1, 1) := by decide +kernel
theorem dX7_setPins_6 : decode cX7_setPins 6 = .ok (.bipush (-4), 2) := by decide +kernel
theorem dX7_setPins_8 : decode cX7_setPins 8 = .ok (.iconst 4, 1) := by decide +kernel
theorem dX7_setPins_9 : decode cX7_setPins 9 = .ok (.invokestatic 32, 3) := by decide +kernel
theorem dX7_setPins_12 : decode cX7_setPins 12 = .ok (.ifCond .eq 13, 3) := by decide +kernel
theorem dX7_setPins_15 : decode cX7_setPins 15 = .ok (.iload_n 2, 1) := by decide +kernel
theorem dX7_setPins_16 : decode cX7_setPins 16 = .ok (.bipush (-4), 2) := by decide +kernel
theorem dX7_setPins_18 : decode cX7_setPins 18 = .ok (.iconst 4, 1) := by decide +kernel
theorem dX7_setPins_19 : decode cX7_setPins 19 = .ok (.invokestatic 32, 3) := by decide +kernel
theorem dX7_setPins_22 : decode cX7_setPins 22 = .ok (.ifCond .ne 7, 3) := by decide +kernel
theorem dX7_setPins_25 : decode cX7_setPins 25 = .ok (.sipush (-1001), 3) := by decide +kernel
theorem dX7_setPins_28 : decode cX7_setPins 28 = .ok (.ireturn, 1) := by decide +kernel
theorem dX7_setPins_29 : decode cX7_setPins 29 = .ok (.aload_n 0, 1) := by decide +kernel
theorem dX7_setPins_30 : decode cX7_setPins 30 = .ok (.invokevirtual 88, 3) := by decide +kernel
theorem dX7_setPins_33 : decode cX7_setPins 33 = .ok (.aload_n 0, 1) := by decide +kernel
theorem dX7_setPins_34 : decode cX7_setPins 34 = .ok (.getfield 7, 3) := by decide +kernel
theorem dX7_setPins_37 : decode cX7_setPins 37 = .ok (.sipush 773, 3) := by decide +kernel
theorem dX7_setPins_40 : decode cX7_setPins 40 = .ok (.iload_n 1, 1) := by decide +kernel
theorem dX7_setPins_41 : decode cX7_setPins 41 = .ok (.iastore, 1) := by decide +kernel
theorem dX7_setPins_42 : decode cX7_setPins 42 = .ok (.aload_n 0, 1) := by decide +kernel
theorem dX7_setPins_43 : decode cX7_setPins 43 = .ok (.getfield 7, 3) := by decide +kernel
theorem dX7_setPins_46 : decode cX7_setPins 46 = .ok (.sipush 774, 3) := by decide +kernel
theorem dX7_setPins_49 : decode cX7_setPins 49 = .ok (.iload_n 2, 1) := by decide +kernel
theorem dX7_setPins_50 : decode cX7_setPins 50 = .ok (.iastore, 1) := by decide +kernel
theorem dX7_setPins_51 : decode cX7_setPins 51 = .ok (.aload_n 0, 1) := by decide +kernel
theorem dX7_setPins_52 : decode cX7_setPins 52 = .ok (.invokevirtual 102, 3) := by decide +kernel
theorem dX7_setPins_55 : decode cX7_setPins 55 = .ok (.aload_n 0, 1) := by decide +kernel
theorem dX7_setPins_56 : decode cX7_setPins 56 = .ok (.getfield 61, 3) := by decide +kernel
theorem dX7_setPins_59 : decode cX7_setPins 59 = .ok (.ireturn, 1) := by decide +kernel
set_option maxRecDepth 20000 in
theorem ggX7_isSetting_X7_in : GoodIn wsX7_isSetting wsX7_in := goodIn_r _ [4] (by decide +kernel) (by decide +kernel)
set_option maxRecDepth 20000 in
theorem gX7_isSetting_X7_in : GoodIn wsX7_isSetting (va_wsS RX7 32 yX7_in wsX7_in) := goodIn_app (goodIn_of _ (by decide +kernel)) ggX7_isSetting_X7_in
theorem dX7_isSetting_0 : decode cX7_isSetting 0 = .ok (.iload_n 0, 1) := by decide +kernel
theorem dX7_isSetting_1 : decode cX7_isSetting 1 = .ok (.tableswitch 68 0 4 #[35, 43, 43, 51, 60], 35) := by decide +kernel
theorem dX7_isSetting_36 : decode cX7_isSetting 36 = .ok (.iload_n 1, 1) := by decide +kernel
theorem dX7_isSetting_37 : decode cX7_isSetting 37 = .ok (.iconst 0, 1) := by decide +kernel
theorem dX7_isSetting_38 : decode cX7_isSetting 38 = .ok (.bipush 100, 2) := by decide +kernel
theorem dX7_isSetting_40 : decode cX7_isSetting 40 = .ok (.invokestatic 32, 3) := by decide +kernel
theorem dX7_isSetting_43 : decode cX7_isSetting 43 = .ok (.ireturn, 1) := by decide +kernel
theorem dX7_isSetting_44 : decode cX7_isSetting 44 = .ok (.iload_n 1, 1) := by decide +kernel
theorem dX7_isSetting_45 : decode cX7_isSetting 45 = .ok (.bipush (-4), 2) := by decide +kernel
theorem dX7_isSetting_47 : decode cX7_isSetting 47 = .ok (.iconst 4, 1) := by decide +kernel
theorem dX7_isSetting_48 : decode cX7_isSetting 48 = .ok (.invokestatic 32, 3) := by decide +kernel
theorem dX7_isSetting_51 : decode cX7_isSetting 51 = .ok (.ireturn, 1) := by decide +kernel
theorem dX7_isSetting_52 : decode cX7_isSetting 52 = .ok (.iload_n 1, 1) := by decide +kernel
theorem dX7_isSetting_53 : decode cX7_isSetting 53 = .ok (.iconst 1, 1) := by decide +kernel
theorem dX7_isSetting_54 : decode cX7_isSetting 54 = .ok (.sipush 1000, 3) := by decide +kernel
theorem dX7_isSetting_57 : decode cX7_isSetting 57 = .ok (.invokestatic 32, 3) := by decide +kernel
theorem dX7_isSetting_60 : decode cX7_isSetting 60 = .ok (.ireturn, 1) := by decide +kernel
theorem dX7_isSetting_61 : decode cX7_isSetting 61 = .ok (.iload_n 1, 1) := by decide +kernel
theorem dX7_isSetting_62 : decode cX7_isSetting 62 = .ok (.iconst 0, 1) := by decide +kernel
theorem dX7_isSetting_63 : decode cX7_isSetting 63 = .ok (.bipush 10, 2) := by decide +kernel
theorem dX7_isSetting_65 : decode cX7_isSetting 65 = .ok (.invokestatic 32, 3) := by decide +kernel
theorem dX7_isSetting_68 : decode cX7_isSetting 68 = .ok (.ireturn, 1) := by decide +kernel
theorem dX7_isSetting_69 : decode cX7_isSetting 69 = .ok (.iconst 0, 1) := by decide +kernel
theorem dX7_isSetting_70 : decode cX7_isSetting 70 = .ok (.ireturn, 1) := by decide +kernel
set_option maxRecDepth 20000 in
theorem ggX7_set_X7_isSetting : GoodIn wsX7_set wsX7_isSetting := goodIn_r _ [6, 7, 8, 5, 9] (by decide +kernel) (by decide +kernel)
set_option maxRecDepth 20000 in
theorem gX7_set_X7_isSetting : GoodIn wsX7_set (va_wsS RX7 105 yX7_isSetting wsX7_isSetting) := goodIn_app (goodIn_of _ (by decide +kernel)) ggX7_set_X7_isSetting
set_option maxRecDepth 20000 in
theorem ggX7_set_X7_act : GoodIn wsX7_set wsX7_act := goodIn_r _ [13, 14, 15, 2, 16, 17, 18, 19, 20, 21, 22, 23, 24, 25, 26, 27, 28, 29, 30] (by decide +kernel) (by decide +kernel)
set_option maxRecDepth 20000 in
theorem gX7_set_X7_act : GoodIn wsX7_set (wsV RX7 88 RX7 yX7_act wsX7_act) := goodIn_app (goodIn_of _ (by decide +kernel)) ggX7_set_X7_act
theorem dX7_set_0 : decode cX7_set 0 = .ok (.aload_n 0, 1) := by decide +kernel
theorem dX7_set_1 : decode cX7_set 1 = .ok (.iconst 0, 1) := by decide +kernel
theorem dX7_set_2 : decode cX7_set 2 = .ok (.putfield 28, 3) := by decide +kernel
theorem dX7_set_5 : decode cX7_set 5 = .ok (.iload_n 1, 1) := by decide +kernel
theorem dX7_set_6 : decode cX7_set 6 = .ok (.iload_n 2, 1) := by decide +kernel
theorem dX7_set_7 : decode cX7_set 7 = .ok (.invokestatic 105, 3) := by decide +kernel
theorem dX7_set_10 : decode cX7_set 10 = .ok (.ifCond .ne 7, 3) := by decide +kernel
theorem dX7_set_13 : decode cX7_set 13 = .ok (.sipush (-1001), 3) := by decide +kernel
theorem dX7_set_16 : decode cX7_set 16 = .ok (.ireturn, 1) := by decide +kernel
theorem dX7_set_17 : decode cX7_set 17 = .ok (.aload_n 0, 1) := by decide +kernel
theorem dX7_set_18 : decode cX7_set 18 = .ok (.invokevirtual 88, 3) := by decide +kernel
theorem dX7_set_21 : decode cX7_set 21 = .ok (.aload_n 0, 1) := by decide +kernel
theorem dX7_set_22 : decode cX7_set 22 = .ok (.getfield 7, 3) := by decide +kernel
theorem dX7_set_25 : decode cX7_set 25 = .ok (.sipush 768, 3) := by decide +kernel
theorem dX7_set_28 : decode cX7_set 28 = .ok (.iload_n 1, 1) := by decide +kernel
theorem dX7_set_29 : decode cX7_set 29 = .ok (.iadd, 1) := by decide +kernel
theorem dX7_set_30 : decode cX7_set 30 = .ok (.iaload, 1) := by decide +kernel
theorem dX7_set_31 : decode cX7_set 31 = .ok (.istore_n 3, 1) := by decide +kernel
theorem dX7_set_32 : decode cX7_set 32 = .ok (.aload_n 0, 1) := by decide +kernel
theorem dX7_set_33 : decode cX7_set 33 = .ok (.getfield 7, 3) := by decide +kernel
theorem dX7_set_36 : decode cX7_set 36 = .ok (.sipush 768, 3) := by decide +kernel
theorem dX7_set_39 : decode cX7_set 39 = .ok (.iload_n 1, 1) := by decide +kernel
theorem dX7_set_40 : decode cX7_set 40 = .ok (.iadd, 1) := by decide +kernel
theorem dX7_set_41 : decode cX7_set 41 = .ok (.iload_n 2, 1) := by decide +kernel
theorem dX7_set_42 : decode cX7_set 42 = .ok (.iastore, 1) := by decide +kernel
theorem dX7_set_43 : decode cX7_set 43 = .ok (.iload_n 3, 1) := by decide +kernel
theorem dX7_set_44 : decode cX7_set 44 = .ok (.ireturn, 1) := by decide +kernel
set_option maxRecDepth 20000 in
theorem ggX7_rubs_X7_beside : GoodIn wsX7_rubs wsX7_beside := goodIn_r _ [5, 6, 7, 4, 8, 9, 10, 11] (by decide +kernel) (by decide +kernel)
set_option maxRecDepth 20000 in
theorem gX7_rubs_X7_beside : GoodIn wsX7_rubs (va_wsS RX7 51 yX7_beside wsX7_beside) := goodIn_app (goodIn_of _ (by decide +kernel)) ggX7_rubs_X7_beside
theorem dX7_rubs_0 : decode cX7_rubs 0 = .ok (.iconst 1, 1) := by decide +kernel
theorem dX7_rubs_1 : decode cX7_rubs 1 = .ok (.istore_n 2, 1) := by decide +kernel
theorem dX7_rubs_2 : decode cX7_rubs 2 = .ok (.iconst 0, 1) := by decide +kernel
theorem dX7_rubs_3 : decode cX7_rubs 3 = .ok (.istore_n 3, 1) := by decide +kernel
theorem dX7_rubs_4 : decode cX7_rubs 4 = .ok (.iload_n 3, 1) := by decide +kernel
theorem dX7_rubs_5 : decode cX7_rubs 5 = .ok (.iconst 4, 1) := by decide +kernel
theorem dX7_rubs_6 : decode cX7_rubs 6 = .ok (.if_icmp .ge 40, 3) := by decide +kernel
theorem dX7_rubs_9 : decode cX7_rubs 9 = .ok (.iload_n 1, 1) := by decide +kernel
theorem dX7_rubs_10 : decode cX7_rubs 10 = .ok (.iload_n 3, 1) := by decide +kernel
theorem dX7_rubs_11 : decode cX7_rubs 11 = .ok (.invokestatic 51, 3) := by decide +kernel
theorem dX7_rubs_14 : decode cX7_rubs 14 = .ok (.istore 4, 2) := by decide +kernel
theorem dX7_rubs_16 : decode cX7_rubs 16 = .ok (.iload_n 2, 1) := by decide +kernel
theorem dX7_rubs_17 : decode cX7_rubs 17 = .ok (.iload 4, 2) := by decide +kernel
theorem dX7_rubs_19 : decode cX7_rubs 19 = .ok (.iconst (-1), 1) := by decide +kernel
theorem dX7_rubs_20 : decode cX7_rubs 20 = .ok (.if_icmp .eq 13, 3) := by decide +kernel
theorem dX7_rubs_23 : decode cX7_rubs 23 = .ok (.aload_n 0, 1) := by decide +kernel
theorem dX7_rubs_24 : decode cX7_rubs 24 = .ok (.getfield 19, 3) := by decide +kernel
theorem dX7_rubs_27 : decode cX7_rubs 27 = .ok (.iload 4, 2) := by decide +kernel
theorem dX7_rubs_29 : decode cX7_rubs 29 = .ok (.iaload, 1) := by decide +kernel
theorem dX7_rubs_30 : decode cX7_rubs 30 = .ok (.ifCond .ne 7, 3) := by decide +kernel
theorem dX7_rubs_33 : decode cX7_rubs 33 = .ok (.iconst 1, 1) := by decide +kernel
theorem dX7_rubs_34 : decode cX7_rubs 34 = .ok (.goto 4, 3) := by decide +kernel
theorem dX7_rubs_37 : decode cX7_rubs 37 = .ok (.iconst 0, 1) := by decide +kernel
theorem dX7_rubs_38 : decode cX7_rubs 38 = .ok (.iadd, 1) := by decide +kernel
theorem dX7_rubs_39 : decode cX7_rubs 39 = .ok (.istore_n 2, 1) := by decide +kernel
theorem dX7_rubs_40 : decode cX7_rubs 40 = .ok (.iinc 3 1, 3) := by decide +kernel
theorem dX7_rubs_43 : decode cX7_rubs 43 = .ok (.goto (-39), 3) := by decide +kernel
theorem dX7_rubs_46 : decode cX7_rubs 46 = .ok (.iload_n 2, 1) := by decide +kernel
theorem dX7_rubs_47 : decode cX7_rubs 47 = .ok (.ireturn, 1) := by decide +kernel
set_option maxRecDepth 20000 in
theorem ggX7_printOne_X7_checkNow : GoodIn wsX7_printOne wsX7_checkNow := goodIn_r _ [10, 1, 11, 12, 13, 9, 14, 5, 15, 16, 17, 18, 19, 20, 21, 22, 23, 24, 25, 26, 27, 28, 29, 30, 2, 3, 4, 31, 32, 33, 34, 35, 36, 37, 38, 39, 40, 41, 42, 43, 44, 52, 53, 54, 55, 56, 57, 58, 59, 60, 61, 62, 63, 64, 65, 66] (by decide +kernel) (by decide +kernel)
set_option maxRecDepth 20000 in
theorem gX7_printOne_X7_checkNow : GoodIn wsX7_printOne (wsV RX7 102 RX7 yX7_checkNow wsX7_checkNow) := goodIn_app (goodIn_of _ (by decide +kernel)) ggX7_printOne_X7_checkNow
set_option maxRecDepth 20000 in
theorem ggX7_printOne_X7_shiftX : GoodIn wsX7_printOne wsX7_shiftX := goodIn_r _ [22, 1, 52, 53, 54, 55, 56, 57, 58, 59, 60, 61, 62, 63, 64, 65, 66] (by decide +kernel) (by decide +kernel)
set_option maxRecDepth 20000 in
theorem gX7_printOne_X7_shiftX : GoodIn wsX7_printOne (wsV RX7 81 RX7 yX7_shiftX wsX7_shiftX) := goodIn_app (goodIn_of _ (by decide +kernel)) ggX7_printOne_X7_shiftX
set_option maxRecDepth 20000 in
theorem ggX7_printOne_X7_shiftY : GoodIn wsX7_printOne wsX7_shiftY := goodIn_r _ [26, 1, 52, 53, 54, 55, 56, 57, 58, 59, 60, 61, 62, 63, 64, 65, 66] (by decide +kernel) (by decide +kernel)
set_option maxRecDepth 20000 in
theorem gX7_printOne_X7_shiftY : GoodIn wsX7_printOne (wsV RX7 85 RX7 yX7_shiftY wsX7_shiftY) := goodIn_app (goodIn_of _ (by decide +kernel)) ggX7_printOne_X7_shiftY
set_option maxRecDepth 20000 in
theorem ggX7_printOne_X7_rubs : GoodIn wsX7_printOne wsX7_rubs := goodIn_r _ [48, 5, 49, 50, 9, 51, 39, 40, 41, 42, 43, 44, 52, 53, 54, 55, 56, 57, 58, 59, 60, 61, 62, 63, 64, 65, 66] (by decide +kernel) (by decide +kernel)
set_option maxRecDepth 20000 in
theorem gX7_printOne_X7_rubs : GoodIn wsX7_printOne (wsV RX7 108 RX7 yX7_rubs wsX7_rubs) := goodIn_app (goodIn_of _ (by decide +kernel)) ggX7_printOne_X7_rubs
theorem dX7_printOne_0 : decode cX7_printOne 0 = .ok (.aload_n 0, 1) := by decide +kernel
theorem dX7_printOne_1 : decode cX7_printOne 1 = .ok (.invokevirtual 102, 3) := by decide +kernel
theorem dX7_printOne_4 : decode cX7_printOne 4 = .ok (.sipush 776, 3) := by decide +kernel
theorem dX7_printOne_7 : decode cX7_printOne 7 = .ok (.iconst 5, 1) := by decide +kernel
theorem dX7_printOne_8 : decode cX7_printOne 8 = .ok (.aload_n 0, 1) := by decide +kernel
theorem dX7_printOne_9 : decode cX7_printOne 9 = .ok (.getfield 7, 3) := by decide +kernel
theorem dX7_printOne_12 : decode cX7_printOne 12 = .ok (.sipush 775, 3) := by decide +kernel
theorem dX7_printOne_15 : decode cX7_printOne 15 = .ok (.iaload, 1) := by decide +kernel
theorem dX7_printOne_16 : decode cX7_printOne 16 = .ok (.bipush 12, 2) := by decide +kernel
theorem dX7_printOne_18 : decode cX7_printOne 18 = .ok (.irem, 1) := by decide +kernel
theorem dX7_printOne_19 : decode cX7_printOne 19 = .ok (.imul, 1) := by decide +kernel
theorem dX7_printOne_20 : decode cX7_printOne 20 = .ok (.iadd, 1) := by decide +kernel
theorem dX7_printOne_21 : decode cX7_printOne 21 = .ok (.istore_n 1, 1) := by decide +kernel
theorem dX7_printOne_22 : decode cX7_printOne 22 = .ok (.aload_n 0, 1) := by decide +kernel
theorem dX7_printOne_23 : decode cX7_printOne 23 = .ok (.getfield 7, 3) := by decide +kernel
theorem dX7_printOne_26 : decode cX7_printOne 26 = .ok (.iload_n 1, 1) := by decide +kernel
theorem dX7_printOne_27 : decode cX7_printOne 27 = .ok (.aload_n 0, 1) := by decide +kernel
theorem dX7_printOne_28 : decode cX7_printOne 28 = .ok (.aload_n 0, 1) := by decide +kernel
theorem dX7_printOne_29 : decode cX7_printOne 29 = .ok (.getfield 7, 3) := by decide +kernel
theorem dX7_printOne_32 : decode cX7_printOne 32 = .ok (.sipush 773, 3) := by decide +kernel
theorem dX7_printOne_35 : decode cX7_printOne 35 = .ok (.iaload, 1) := by decide +kernel
theorem dX7_printOne_36 : decode cX7_printOne 36 = .ok (.invokevirtual 81, 3) := by decide +kernel
theorem dX7_printOne_39 : decode cX7_printOne 39 = .ok (.iastore, 1) := by decide +kernel
theorem dX7_printOne_40 : decode cX7_printOne 40 = .ok (.aload_n 0, 1) := by decide +kernel
theorem dX7_printOne_41 : decode cX7_printOne 41 = .ok (.getfield 7, 3) := by decide +kernel
theorem dX7_printOne_44 : decode cX7_printOne 44 = .ok (.iload_n 1, 1) := by decide +kernel
theorem dX7_printOne_45 : decode cX7_printOne 45 = .ok (.iconst 1, 1) := by decide +kernel
theorem dX7_printOne_46 : decode cX7_printOne 46 = .ok (.iadd, 1) := by decide +kernel
theorem dX7_printOne_47 : decode cX7_printOne 47 = .ok (.aload_n 0, 1) := by decide +kernel
theorem dX7_printOne_48 : decode cX7_printOne 48 = .ok (.aload_n 0, 1) := by decide +kernel
theorem dX7_printOne_49 : decode cX7_printOne 49 = .ok (.getfield 7, 3) := by decide +kernel
theorem dX7_printOne_52 : decode cX7_printOne 52 = .ok (.sipush 774, 3) := by decide +kernel
theorem dX7_printOne_55 : decode cX7_printOne 55 = .ok (.iaload, 1) := by decide +kernel
theorem dX7_printOne_56 : decode cX7_printOne 56 = .ok (.invokevirtual 85, 3) := by decide +kernel
theorem dX7_printOne_59 : decode cX7_printOne 59 = .ok (.iastore, 1) := by decide +kernel
theorem dX7_printOne_60 : decode cX7_printOne 60 = .ok (.aload_n 0, 1) := by decide +kernel
theorem dX7_printOne_61 : decode cX7_printOne 61 = .ok (.getfield 7, 3) := by decide +kernel
theorem dX7_printOne_64 : decode cX7_printOne 64 = .ok (.iload_n 1, 1) := by decide +kernel
theorem dX7_printOne_65 : decode cX7_printOne 65 = .ok (.iconst 2, 1) := by decide +kernel
theorem dX7_printOne_66 : decode cX7_printOne 66 = .ok (.iadd, 1) := by decide +kernel
theorem dX7_printOne_67 : decode cX7_printOne 67 = .ok (.aload_n 0, 1) := by decide +kernel
theorem dX7_printOne_68 : decode cX7_printOne 68 = .ok (.getfield 61, 3) := by decide +kernel
theorem dX7_printOne_71 : decode cX7_printOne 71 = .ok (.iastore, 1) := by decide +kernel
theorem dX7_printOne_72 : decode cX7_printOne 72 = .ok (.aload_n 0, 1) := by decide +kernel
theorem dX7_printOne_73 : decode cX7_printOne 73 = .ok (.getfield 7, 3) := by decide +kernel
theorem dX7_printOne_76 : decode cX7_printOne 76 = .ok (.iload_n 1, 1) := by decide +kernel
theorem dX7_printOne_77 : decode cX7_printOne 77 = .ok (.iconst 3, 1) := by decide +kernel
theorem dX7_printOne_78 : decode cX7_printOne 78 = .ok (.iadd, 1) := by decide +kernel
theorem dX7_printOne_79 : decode cX7_printOne 79 = .ok (.aload_n 0, 1) := by decide +kernel
theorem dX7_printOne_80 : decode cX7_printOne 80 = .ok (.getfield 64, 3) := by decide +kernel
theorem dX7_printOne_83 : decode cX7_printOne 83 = .ok (.iastore, 1) := by decide +kernel
theorem dX7_printOne_84 : decode cX7_printOne 84 = .ok (.aload_n 0, 1) := by decide +kernel
theorem dX7_printOne_85 : decode cX7_printOne 85 = .ok (.getfield 7, 3) := by decide +kernel
theorem dX7_printOne_88 : decode cX7_printOne 88 = .ok (.iload_n 1, 1) := by decide +kernel
theorem dX7_printOne_89 : decode cX7_printOne 89 = .ok (.iconst 4, 1) := by decide +kernel
theorem dX7_printOne_90 : decode cX7_printOne 90 = .ok (.iadd, 1) := by decide +kernel
theorem dX7_printOne_91 : decode cX7_printOne 91 = .ok (.aload_n 0, 1) := by decide +kernel
theorem dX7_printOne_92 : decode cX7_printOne 92 = .ok (.getfield 67, 3) := by decide +kernel
theorem dX7_printOne_95 : decode cX7_printOne 95 = .ok (.iastore, 1) := by decide +kernel
theorem dX7_printOne_96 : decode cX7_printOne 96 = .ok (.aload_n 0, 1) := by decide +kernel
theorem dX7_printOne_97 : decode cX7_printOne 97 = .ok (.getfield 7, 3) := by decide +kernel
theorem dX7_printOne_100 : decode cX7_printOne 100 = .ok (.sipush 775, 3) := by decide +kernel
theorem dX7_printOne_103 : decode cX7_printOne 103 = .ok (.dup2, 1) := by decide +kernel
theorem dX7_printOne_104 : decode cX7_printOne 104 = .ok (.iaload, 1) := by decide +kernel
theorem dX7_printOne_105 : decode cX7_printOne 105 = .ok (.iconst 1, 1) := by decide +kernel
theorem dX7_printOne_106 : decode cX7_printOne 106 = .ok (.iadd, 1) := by decide +kernel
theorem dX7_printOne_107 : decode cX7_printOne 107 = .ok (.iastore, 1) := by decide +kernel
theorem dX7_printOne_108 : decode cX7_printOne 108 = .ok (.iconst 0, 1) := by decide +kernel
theorem dX7_printOne_109 : decode cX7_printOne 109 = .ok (.istore_n 2, 1) := by decide +kernel
theorem dX7_printOne_110 : decode cX7_printOne 110 = .ok (.iload_n 2, 1) := by decide +kernel
theorem dX7_printOne_111 : decode cX7_printOne 111 = .ok (.sipush 192, 3) := by decide +kernel
theorem dX7_printOne_114 : decode cX7_printOne 114 = .ok (.if_icmp .ge 41, 3) := by decide +kernel
theorem dX7_printOne_117 : decode cX7_printOne 117 = .ok (.aload_n 0, 1) := by decide +kernel
theorem dX7_printOne_118 : decode cX7_printOne 118 = .ok (.getfield 7, 3) := by decide +kernel
theorem dX7_printOne_121 : decode cX7_printOne 121 = .ok (.sipush 384, 3) := by decide +kernel
theorem dX7_printOne_124 : decode cX7_printOne 124 = .ok (.iload_n 2, 1) := by decide +kernel
theorem dX7_printOne_125 : decode cX7_printOne 125 = .ok (.iadd, 1) := by decide +kernel
theorem dX7_printOne_126 : decode cX7_printOne 126 = .ok (.dup2, 1) := by decide +kernel
theorem dX7_printOne_127 : decode cX7_printOne 127 = .ok (.iaload, 1) := by decide +kernel
theorem dX7_printOne_128 : decode cX7_printOne 128 = .ok (.aload_n 0, 1) := by decide +kernel
theorem dX7_printOne_129 : decode cX7_printOne 129 = .ok (.getfield 19, 3) := by decide +kernel
theorem dX7_printOne_132 : decode cX7_printOne 132 = .ok (.iload_n 2, 1) := by decide +kernel
theorem dX7_printOne_133 : decode cX7_printOne 133 = .ok (.iaload, 1) := by decide +kernel
theorem dX7_printOne_134 : decode cX7_printOne 134 = .ok (.iconst 1, 1) := by decide +kernel
theorem dX7_printOne_135 : decode cX7_printOne 135 = .ok (.if_icmp .ne 11, 3) := by decide +kernel
theorem dX7_printOne_138 : decode cX7_printOne 138 = .ok (.aload_n 0, 1) := by decide +kernel
theorem dX7_printOne_139 : decode cX7_printOne 139 = .ok (.iload_n 2, 1) := by decide +kernel
theorem dX7_printOne_140 : decode cX7_printOne 140 = .ok (.invokevirtual 108, 3) := by decide +kernel
theorem dX7_printOne_143 : decode cX7_printOne 143 = .ok (.goto 4, 3) := by decide +kernel
theorem dX7_printOne_146 : decode cX7_printOne 146 = .ok (.iconst 0, 1) := by decide +kernel
theorem dX7_printOne_147 : decode cX7_printOne 147 = .ok (.iadd, 1) := by decide +kernel
theorem dX7_printOne_148 : decode cX7_printOne 148 = .ok (.iastore, 1) := by decide +kernel
theorem dX7_printOne_149 : decode cX7_printOne 149 = .ok (.iinc 2 1, 3) := by decide +kernel
theorem dX7_printOne_152 : decode cX7_printOne 152 = .ok (.goto (-42), 3) := by decide +kernel
theorem dX7_printOne_155 : decode cX7_printOne 155 = .ok (.aload_n 0, 1) := by decide +kernel
theorem dX7_printOne_156 : decode cX7_printOne 156 = .ok (.getfield 7, 3) := by decide +kernel
theorem dX7_printOne_159 : decode cX7_printOne 159 = .ok (.sipush 768, 3) := by decide +kernel
theorem dX7_printOne_162 : decode cX7_printOne 162 = .ok (.aload_n 0, 1) := by decide +kernel
theorem dX7_printOne_163 : decode cX7_printOne 163 = .ok (.getfield 7, 3) := by decide +kernel
theorem dX7_printOne_166 : decode cX7_printOne 166 = .ok (.sipush 768, 3) := by decide +kernel
theorem dX7_printOne_169 : decode cX7_printOne 169 = .ok (.iaload, 1) := by decide +kernel
theorem dX7_printOne_170 : decode cX7_printOne 170 = .ok (.aload_n 0, 1) := by decide +kernel
theorem dX7_printOne_171 : decode cX7_printOne 171 = .ok (.getfield 7, 3) := by decide +kernel
theorem dX7_printOne_174 : decode cX7_printOne 174 = .ok (.sipush 772, 3) := by decide +kernel
theorem dX7_printOne_177 : decode cX7_printOne 177 = .ok (.iaload, 1) := by decide +kernel
theorem dX7_printOne_178 : decode cX7_printOne 178 = .ok (.if_icmp .le 23, 3) := by decide +kernel
theorem dX7_printOne_181 : decode cX7_printOne 181 = .ok (.aload_n 0, 1) := by decide +kernel
theorem dX7_printOne_182 : decode cX7_printOne 182 = .ok (.getfield 7, 3) := by decide +kernel
theorem dX7_printOne_185 : decode cX7_printOne 185 = .ok (.sipush 768, 3) := by decide +kernel
theorem dX7_printOne_188 : decode cX7_printOne 188 = .ok (.iaload, 1) := by decide +kernel
theorem dX7_printOne_189 : decode cX7_printOne 189 = .ok (.aload_n 0, 1) := by decide +kernel
theorem dX7_printOne_190 : decode cX7_printOne 190 = .ok (.getfield 7, 3) := by decide +kernel
theorem dX7_printOne_193 : decode cX7_printOne 193 = .ok (.sipush 772, 3) := by decide +kernel
theorem dX7_printOne_196 : decode cX7_printOne 196 = .ok (.iaload, 1) := by decide +kernel
theorem dX7_printOne_197 : decode cX7_printOne 197 = .ok (.isub, 1) := by decide +kernel
theorem dX7_printOne_198 : decode cX7_printOne 198 = .ok (.goto 4, 3) := by decide +kernel
theorem dX7_printOne_201 : decode cX7_printOne 201 = .ok (.iconst 0, 1) := by decide +kernel
theorem dX7_printOne_202 : decode cX7_printOne 202 = .ok (.iastore, 1) := by decide +kernel
theorem dX7_printOne_203 : decode cX7_printOne 203 = .ok (.return_, 1) := by decide +kernel
set_option maxRecDepth 20000 in
theorem ggX7_print_X7_in : GoodIn wsX7_print wsX7_in := goodIn_r _ [7] (by decide +kernel) (by decide +kernel)
set_option maxRecDepth 20000 in
theorem gX7_print_X7_in : GoodIn wsX7_print (va_wsS RX7 32 yX7_in wsX7_in) := goodIn_app (goodIn_of _ (by decide +kernel)) ggX7_print_X7_in
set_option maxRecDepth 20000 in
theorem ggX7_print_X7_act : GoodIn wsX7_print wsX7_act := goodIn_r _ [11, 12, 13, 2, 63, 64, 65, 66, 67, 68, 69, 70, 71, 72, 73, 74, 75, 76, 77] (by decide +kernel) (by decide +kernel)
set_option maxRecDepth 20000 in
theorem gX7_print_X7_act : GoodIn wsX7_print (wsV RX7 88 RX7 yX7_act wsX7_act) := goodIn_app (goodIn_of _ (by decide +kernel)) ggX7_print_X7_act
set_option maxRecDepth 20000 in
theorem ggX7_print_X7_printOne : GoodIn wsX7_print wsX7_printOne := goodIn_r _ [17, 2, 3, 18, 19, 20, 21, 22, 23, 6, 24, 25, 26, 27, 28, 29, 30, 31, 32, 33, 34, 35, 36, 37, 38, 39, 40, 41, 42, 43, 44, 45, 46, 47, 48, 49, 50, 51, 52, 53, 54, 55, 4, 5, 7, 56, 57, 58, 59, 60, 61, 62, 63, 64, 65, 66, 67, 68, 69, 70, 71, 72, 73, 74, 75, 76, 77] (by decide +kernel) (by decide +kernel)
set_option maxRecDepth 20000 in
theorem gX7_print_X7_printOne : GoodIn wsX7_print (wsV RX7 111 RX7 yX7_printOne wsX7_printOne) := goodIn_app (goodIn_of _ (by decide +kernel)) ggX7_print_X7_printOne
theorem dX7_print_0 : decode cX7_print 0 = .ok (.aload_n 0, 1) := by decide +kernel
theorem dX7_print_1 : decode cX7_print 1 = .ok (.iconst 0, 1) := by decide +kernel
theorem dX7_print_2 : decode cX7_print 2 = .ok (.putfield 28, 3) := by decide +kernel
theorem dX7_print_5 : decode cX7_print 5 = .ok (.iload_n 1, 1) := by decide +kernel
theorem dX7_print_6 : decode cX7_print 6 = .ok (.iconst 1, 1) := by decide +kernel
theorem dX7_print_7 : decode cX7_print 7 = .ok (.bipush 100, 2) := by decide +kernel
theorem dX7_print_9 : decode cX7_print 9 = .ok (.invokestatic 32, 3) := by decide +kernel
theorem dX7_print_12 : decode cX7_print 12 = .ok (.ifCond .ne 7, 3) := by decide +kernel
theorem dX7_print_15 : decode cX7_print 15 = .ok (.sipush (-1001), 3) := by decide +kernel
theorem dX7_print_18 : decode cX7_print 18 = .ok (.ireturn, 1) := by decide +kernel
theorem dX7_print_19 : decode cX7_print 19 = .ok (.aload_n 0, 1) := by decide +kernel
theorem dX7_print_20 : decode cX7_print 20 = .ok (.getfield 7, 3) := by decide +kernel
theorem dX7_print_23 : decode cX7_print 23 = .ok (.sipush 775, 3) := by decide +kernel
theorem dX7_print_26 : decode cX7_print 26 = .ok (.iaload, 1) := by decide +kernel
theorem dX7_print_27 : decode cX7_print 27 = .ok (.iload_n 1, 1) := by decide +kernel
theorem dX7_print_28 : decode cX7_print 28 = .ok (.iadd, 1) := by decide +kernel
theorem dX7_print_29 : decode cX7_print 29 = .ok (.sipush 5000, 3) := by decide +kernel
theorem dX7_print_32 : decode cX7_print 32 = .ok (.if_icmp .le 7, 3) := by decide +kernel
theorem dX7_print_35 : decode cX7_print 35 = .ok (.sipush (-1003), 3) := by decide +kernel
theorem dX7_print_38 : decode cX7_print 38 = .ok (.ireturn, 1) := by decide +kernel
theorem dX7_print_39 : decode cX7_print 39 = .ok (.aload_n 0, 1) := by decide +kernel
theorem dX7_print_40 : decode cX7_print 40 = .ok (.invokevirtual 88, 3) := by decide +kernel
theorem dX7_print_43 : decode cX7_print 43 = .ok (.iconst 0, 1) := by decide +kernel
theorem dX7_print_44 : decode cX7_print 44 = .ok (.istore_n 2, 1) := by decide +kernel
theorem dX7_print_45 : decode cX7_print 45 = .ok (.iconst 0, 1) := by decide +kernel
theorem dX7_print_46 : decode cX7_print 46 = .ok (.istore_n 3, 1) := by decide +kernel
theorem dX7_print_47 : decode cX7_print 47 = .ok (.iload_n 3, 1) := by decide +kernel
theorem dX7_print_48 : decode cX7_print 48 = .ok (.iload_n 1, 1) := by decide +kernel
theorem dX7_print_49 : decode cX7_print 49 = .ok (.if_icmp .ge 20, 3) := by decide +kernel
theorem dX7_print_52 : decode cX7_print 52 = .ok (.aload_n 0, 1) := by decide +kernel
theorem dX7_print_53 : decode cX7_print 53 = .ok (.invokevirtual 111, 3) := by decide +kernel
theorem dX7_print_56 : decode cX7_print 56 = .ok (.iload_n 2, 1) := by decide +kernel
theorem dX7_print_57 : decode cX7_print 57 = .ok (.aload_n 0, 1) := by decide +kernel
theorem dX7_print_58 : decode cX7_print 58 = .ok (.getfield 61, 3) := by decide +kernel
theorem dX7_print_61 : decode cX7_print 61 = .ok (.iadd, 1) := by decide +kernel
theorem dX7_print_62 : decode cX7_print 62 = .ok (.istore_n 2, 1) := by decide +kernel
theorem dX7_print_63 : decode cX7_print 63 = .ok (.iinc 3 1, 3) := by decide +kernel
theorem dX7_print_66 : decode cX7_print 66 = .ok (.goto (-19), 3) := by decide +kernel
theorem dX7_print_69 : decode cX7_print 69 = .ok (.iload_n 2, 1) := by decide +kernel
theorem dX7_print_70 : decode cX7_print 70 = .ok (.ireturn, 1) := by decide +kernel
set_option maxRecDepth 20000 in
theorem ggX7_take_X7_in : GoodIn wsX7_take wsX7_in := goodIn_r _ [6] (by decide +kernel) (by decide +kernel)
set_option maxRecDepth 20000 in
theorem gX7_take_X7_in : GoodIn wsX7_take (va_wsS RX7 32 yX7_in wsX7_in) := goodIn_app (goodIn_of _ (by decide +kernel)) ggX7_take_X7_in
set_option maxRecDepth 20000 in
theorem ggX7_take_X7_act : GoodIn wsX7_take wsX7_act := goodIn_r _ [10, 11, 12, 2, 21, 22, 23, 24, 25, 26, 27, 28, 29, 30, 31, 32, 33, 34, 35] (by decide +kernel) (by decide +kernel)
set_option maxRecDepth 20000 in
theorem gX7_take_X7_act : GoodIn wsX7_take (wsV RX7 88 RX7 yX7_act wsX7_act) := goodIn_app (goodIn_of _ (by decide +kernel)) ggX7_take_X7_act
set_option maxRecDepth 20000 in
theorem ggX7_take_X7_inked : GoodIn wsX7_take wsX7_inked := goodIn_r _ [16, 17, 18, 19, 5, 20, 2, 21, 22, 23, 24, 25, 26, 27, 28, 29, 30, 31, 32, 33, 34, 35] (by decide +kernel) (by decide +kernel)
set_option maxRecDepth 20000 in
theorem gX7_take_X7_inked : GoodIn wsX7_take (wsV RX7 114 RX7 yX7_inked wsX7_inked) := goodIn_app (goodIn_of _ (by decide +kernel)) ggX7_take_X7_inked
theorem dX7_take_0 : decode cX7_take 0 = .ok (.aload_n 0, 1) := by decide +kernel
theorem dX7_take_1 : decode cX7_take 1 = .ok (.iconst 0, 1) := by decide +kernel
theorem dX7_take_2 : decode cX7_take 2 = .ok (.putfield 28, 3) := by decide +kernel
theorem dX7_take_5 : decode cX7_take 5 = .ok (.iload_n 1, 1) := by decide +kernel
theorem dX7_take_6 : decode cX7_take 6 = .ok (.iconst 0, 1) := by decide +kernel
theorem dX7_take_7 : decode cX7_take 7 = .ok (.iconst 1, 1) := by decide +kernel
theorem dX7_take_8 : decode cX7_take 8 = .ok (.invokestatic 32, 3) := by decide +kernel
theorem dX7_take_11 : decode cX7_take 11 = .ok (.ifCond .ne 7, 3) := by decide +kernel
theorem dX7_take_14 : decode cX7_take 14 = .ok (.sipush (-1001), 3) := by decide +kernel
theorem dX7_take_17 : decode cX7_take 17 = .ok (.ireturn, 1) := by decide +kernel
theorem dX7_take_18 : decode cX7_take 18 = .ok (.aload_n 0, 1) := by decide +kernel
theorem dX7_take_19 : decode cX7_take 19 = .ok (.invokevirtual 88, 3) := by decide +kernel
theorem dX7_take_22 : decode cX7_take 22 = .ok (.sipush 836, 3) := by decide +kernel
theorem dX7_take_25 : decode cX7_take 25 = .ok (.sipush 769, 3) := by decide +kernel
theorem dX7_take_28 : decode cX7_take 28 = .ok (.iload_n 1, 1) := by decide +kernel
theorem dX7_take_29 : decode cX7_take 29 = .ok (.imul, 1) := by decide +kernel
theorem dX7_take_30 : decode cX7_take 30 = .ok (.iadd, 1) := by decide +kernel
theorem dX7_take_31 : decode cX7_take 31 = .ok (.istore_n 2, 1) := by decide +kernel
theorem dX7_take_32 : decode cX7_take 32 = .ok (.aload_n 0, 1) := by decide +kernel
theorem dX7_take_33 : decode cX7_take 33 = .ok (.getfield 7, 3) := by decide +kernel
theorem dX7_take_36 : decode cX7_take 36 = .ok (.iload_n 2, 1) := by decide +kernel
theorem dX7_take_37 : decode cX7_take 37 = .ok (.iconst 1, 1) := by decide +kernel
theorem dX7_take_38 : decode cX7_take 38 = .ok (.iastore, 1) := by decide +kernel
theorem dX7_take_39 : decode cX7_take 39 = .ok (.iconst 0, 1) := by decide +kernel
theorem dX7_take_40 : decode cX7_take 40 = .ok (.istore_n 3, 1) := by decide +kernel
theorem dX7_take_41 : decode cX7_take 41 = .ok (.iload_n 3, 1) := by decide +kernel
theorem dX7_take_42 : decode cX7_take 42 = .ok (.sipush 768, 3) := by decide +kernel
theorem dX7_take_45 : decode cX7_take 45 = .ok (.if_icmp .ge 25, 3) := by decide +kernel
theorem dX7_take_48 : decode cX7_take 48 = .ok (.aload_n 0, 1) := by decide +kernel
theorem dX7_take_49 : decode cX7_take 49 = .ok (.getfield 7, 3) := by decide +kernel
theorem dX7_take_52 : decode cX7_take 52 = .ok (.iload_n 2, 1) := by decide +kernel
theorem dX7_take_53 : decode cX7_take 53 = .ok (.iconst 1, 1) := by decide +kernel
theorem dX7_take_54 : decode cX7_take 54 = .ok (.iadd, 1) := by decide +kernel
theorem dX7_take_55 : decode cX7_take 55 = .ok (.iload_n 3, 1) := by decide +kernel
theorem dX7_take_56 : decode cX7_take 56 = .ok (.iadd, 1) := by decide +kernel
theorem dX7_take_57 : decode cX7_take 57 = .ok (.aload_n 0, 1) := by decide +kernel
theorem dX7_take_58 : decode cX7_take 58 = .ok (.getfield 7, 3) := by decide +kernel
theorem dX7_take_61 : decode cX7_take 61 = .ok (.iload_n 3, 1) := by decide +kernel
theorem dX7_take_62 : decode cX7_take 62 = .ok (.iaload, 1) := by decide +kernel
theorem dX7_take_63 : decode cX7_take 63 = .ok (.iastore, 1) := by decide +kernel
theorem dX7_take_64 : decode cX7_take 64 = .ok (.iinc 3 1, 3) := by decide +kernel
theorem dX7_take_67 : decode cX7_take 67 = .ok (.goto (-26), 3) := by decide +kernel
theorem dX7_take_70 : decode cX7_take 70 = .ok (.aload_n 0, 1) := by decide +kernel
theorem dX7_take_71 : decode cX7_take 71 = .ok (.invokevirtual 114, 3) := by decide +kernel
theorem dX7_take_74 : decode cX7_take 74 = .ok (.ireturn, 1) := by decide +kernel
set_option maxRecDepth 20000 in
theorem ggX7_restore_X7_in : GoodIn wsX7_restore wsX7_in := goodIn_r _ [6] (by decide +kernel) (by decide +kernel)
set_option maxRecDepth 20000 in
theorem gX7_restore_X7_in : GoodIn wsX7_restore (va_wsS RX7 32 yX7_in wsX7_in) := goodIn_app (goodIn_of _ (by decide +kernel)) ggX7_restore_X7_in
set_option maxRecDepth 20000 in
theorem ggX7_restore_X7_act : GoodIn wsX7_restore wsX7_act := goodIn_r _ [10, 11, 12, 2, 21, 22, 23, 24, 25, 26, 27, 28, 29, 30, 31, 32, 33, 34, 35] (by decide +kernel) (by decide +kernel)
set_option maxRecDepth 20000 in
theorem gX7_restore_X7_act : GoodIn wsX7_restore (wsV RX7 88 RX7 yX7_act wsX7_act) := goodIn_app (goodIn_of _ (by decide +kernel)) ggX7_restore_X7_act
set_option maxRecDepth 20000 in
theorem ggX7_restore_X7_inked : GoodIn wsX7_restore wsX7_inked := goodIn_r _ [16, 17, 18, 19, 5, 20, 2, 21, 22, 23, 24, 25, 26, 27, 28, 29, 30, 31, 32, 33, 34, 35] (by decide +kernel) (by decide +kernel)
set_option maxRecDepth 20000 in
theorem gX7_restore_X7_inked : GoodIn wsX7_restore (wsV RX7 114 RX7 yX7_inked wsX7_inked) := goodIn_app (goodIn_of _ (by decide +kernel)) ggX7_restore_X7_inked
theorem dX7_restore_0 : decode cX7_restore 0 = .ok (.aload_n 0, 1) := by decide +kernel
theorem dX7_restore_1 : decode cX7_restore 1 = .ok (.iconst 0, 1) := by decide +kernel
theorem dX7_restore_2 : decode cX7_restore 2 = .ok (.putfield 28, 3) := by decide +kernel
theorem dX7_restore_5 : decode cX7_restore 5 = .ok (.iload_n 1, 1) := by decide +kernel
theorem dX7_restore_6 : decode cX7_restore 6 = .ok (.iconst 0, 1) := by decide +kernel
theorem dX7_restore_7 : decode cX7_restore 7 = .ok (.iconst 1, 1) := by decide +kernel
theorem dX7_restore_8 : decode cX7_restore 8 = .ok (.invokestatic 32, 3) := by decide +kernel
theorem dX7_restore_11 : decode cX7_restore 11 = .ok (.ifCond .ne 7, 3) := by decide +kernel
theorem dX7_restore_14 : decode cX7_restore 14 = .ok (.sipush (-1001), 3) := by decide +kernel
theorem dX7_restore_17 : decode cX7_restore 17 = .ok (.ireturn, 1) := by decide +kernel
theorem dX7_restore_18 : decode cX7_restore 18 = .ok (.sipush 836, 3) := by decide +kernel
theorem dX7_restore_21 : decode cX7_restore 21 = .ok (.sipush 769, 3) := by decide +kernel
theorem dX7_restore_24 : decode cX7_restore 24 = .ok (.iload_n 1, 1) := by decide +kernel
theorem dX7_restore_25 : decode cX7_restore 25 = .ok (.imul, 1) := by decide +kernel
theorem dX7_restore_26 : decode cX7_restore 26 = .ok (.iadd, 1) := by decide +kernel
theorem dX7_restore_27 : decode cX7_restore 27 = .ok (.istore_n 2, 1) := by decide +kernel
theorem dX7_restore_28 : decode cX7_restore 28 = .ok (.aload_n 0, 1) := by decide +kernel
theorem dX7_restore_29 : decode cX7_restore 29 = .ok (.getfield 7, 3) := by decide +kernel
theorem dX7_restore_32 : decode cX7_restore 32 = .ok (.iload_n 2, 1) := by decide +kernel
theorem dX7_restore_33 : decode cX7_restore 33 = .ok (.iaload, 1) := by decide +kernel
theorem dX7_restore_34 : decode cX7_restore 34 = .ok (.ifCond .ne 7, 3) := by decide +kernel
theorem dX7_restore_37 : decode cX7_restore 37 = .ok (.sipush (-1002), 3) := by decide +kernel
theorem dX7_restore_40 : decode cX7_restore 40 = .ok (.ireturn, 1) := by decide +kernel
theorem dX7_restore_41 : decode cX7_restore 41 = .ok (.aload_n 0, 1) := by decide +kernel
theorem dX7_restore_42 : decode cX7_restore 42 = .ok (.invokevirtual 88, 3) := by decide +kernel
theorem dX7_restore_45 : decode cX7_restore 45 = .ok (.iconst 0, 1) := by decide +kernel
theorem dX7_restore_46 : decode cX7_restore 46 = .ok (.istore_n 3, 1) := by decide +kernel
theorem dX7_restore_47 : decode cX7_restore 47 = .ok (.iload_n 3, 1) := by decide +kernel
theorem dX7_restore_48 : decode cX7_restore 48 = .ok (.sipush 768, 3) := by decide +kernel
theorem dX7_restore_51 : decode cX7_restore 51 = .ok (.if_icmp .ge 25, 3) := by decide +kernel
theorem dX7_restore_54 : decode cX7_restore 54 = .ok (.aload_n 0, 1) := by decide +kernel
theorem dX7_restore_55 : decode cX7_restore 55 = .ok (.getfield 7, 3) := by decide +kernel
theorem dX7_restore_58 : decode cX7_restore 58 = .ok (.iload_n 3, 1) := by decide +kernel
theorem dX7_restore_59 : decode cX7_restore 59 = .ok (.aload_n 0, 1) := by decide +kernel
theorem dX7_restore_60 : decode cX7_restore 60 = .ok (.getfield 7, 3) := by decide +kernel
theorem dX7_restore_63 : decode cX7_restore 63 = .ok (.iload_n 2, 1) := by decide +kernel
theorem dX7_restore_64 : decode cX7_restore 64 = .ok (.iconst 1, 1) := by decide +kernel
theorem dX7_restore_65 : decode cX7_restore 65 = .ok (.iadd, 1) := by decide +kernel
theorem dX7_restore_66 : decode cX7_restore 66 = .ok (.iload_n 3, 1) := by decide +kernel
theorem dX7_restore_67 : decode cX7_restore 67 = .ok (.iadd, 1) := by decide +kernel
theorem dX7_restore_68 : decode cX7_restore 68 = .ok (.iaload, 1) := by decide +kernel
theorem dX7_restore_69 : decode cX7_restore 69 = .ok (.iastore, 1) := by decide +kernel
theorem dX7_restore_70 : decode cX7_restore 70 = .ok (.iinc 3 1, 3) := by decide +kernel
theorem dX7_restore_73 : decode cX7_restore 73 = .ok (.goto (-26), 3) := by decide +kernel
theorem dX7_restore_76 : decode cX7_restore 76 = .ok (.aload_n 0, 1) := by decide +kernel
theorem dX7_restore_77 : decode cX7_restore 77 = .ok (.invokevirtual 114, 3) := by decide +kernel
theorem dX7_restore_80 : decode cX7_restore 80 = .ok (.ireturn, 1) := by decide +kernel
theorem dX7_undo_0 : decode cX7_undo 0 = .ok (.aload_n 0, 1) := by decide +kernel
theorem dX7_undo_1 : decode cX7_undo 1 = .ok (.iconst 0, 1) := by decide +kernel
theorem dX7_undo_2 : decode cX7_undo 2 = .ok (.putfield 28, 3) := by decide +kernel
theorem dX7_undo_5 : decode cX7_undo 5 = .ok (.aload_n 0, 1) := by decide +kernel
theorem dX7_undo_6 : decode cX7_undo 6 = .ok (.getfield 36, 3) := by decide +kernel
theorem dX7_undo_9 : decode cX7_undo 9 = .ok (.ifCond .ne 7, 3) := by decide +kernel
theorem dX7_undo_12 : decode cX7_undo 12 = .ok (.sipush (-1002), 3) := by decide +kernel
theorem dX7_undo_15 : decode cX7_undo 15 = .ok (.ireturn, 1) := by decide +kernel
theorem dX7_undo_16 : decode cX7_undo 16 = .ok (.aload_n 0, 1) := by decide +kernel
theorem dX7_undo_17 : decode cX7_undo 17 = .ok (.dup, 1) := by decide +kernel
theorem dX7_undo_18 : decode cX7_undo 18 = .ok (.getfield 36, 3) := by decide +kernel
theorem dX7_undo_21 : decode cX7_undo 21 = .ok (.iconst 1, 1) := by decide +kernel
theorem dX7_undo_22 : decode cX7_undo 22 = .ok (.isub, 1) := by decide +kernel
theorem dX7_undo_23 : decode cX7_undo 23 = .ok (.putfield 36, 3) := by decide +kernel
theorem dX7_undo_26 : decode cX7_undo 26 = .ok (.iconst 0, 1) := by decide +kernel
theorem dX7_undo_27 : decode cX7_undo 27 = .ok (.istore_n 1, 1) := by decide +kernel
theorem dX7_undo_28 : decode cX7_undo 28 = .ok (.iload_n 1, 1) := by decide +kernel
theorem dX7_undo_29 : decode cX7_undo 29 = .ok (.sipush 2374, 3) := by decide +kernel
theorem dX7_undo_32 : decode cX7_undo 32 = .ok (.if_icmp .ge 30, 3) := by decide +kernel
theorem dX7_undo_35 : decode cX7_undo 35 = .ok (.aload_n 0, 1) := by decide +kernel
theorem dX7_undo_36 : decode cX7_undo 36 = .ok (.getfield 7, 3) := by decide +kernel
theorem dX7_undo_39 : decode cX7_undo 39 = .ok (.iload_n 1, 1) := by decide +kernel
theorem dX7_undo_40 : decode cX7_undo 40 = .ok (.aload_n 0, 1) := by decide +kernel
theorem dX7_undo_41 : decode cX7_undo 41 = .ok (.getfield 13, 3) := by decide +kernel
theorem dX7_undo_44 : decode cX7_undo 44 = .ok (.sipush 2374, 3) := by decide +kernel
theorem dX7_undo_47 : decode cX7_undo 47 = .ok (.aload_n 0, 1) := by decide +kernel
theorem dX7_undo_48 : decode cX7_undo 48 = .ok (.getfield 36, 3) := by decide +kernel
theorem dX7_undo_51 : decode cX7_undo 51 = .ok (.imul, 1) := by decide +kernel
theorem dX7_undo_52 : decode cX7_undo 52 = .ok (.iload_n 1, 1) := by decide +kernel
theorem dX7_undo_53 : decode cX7_undo 53 = .ok (.iadd, 1) := by decide +kernel
theorem dX7_undo_54 : decode cX7_undo 54 = .ok (.iaload, 1) := by decide +kernel
theorem dX7_undo_55 : decode cX7_undo 55 = .ok (.iastore, 1) := by decide +kernel
theorem dX7_undo_56 : decode cX7_undo 56 = .ok (.iinc 1 1, 3) := by decide +kernel
theorem dX7_undo_59 : decode cX7_undo 59 = .ok (.goto (-31), 3) := by decide +kernel
theorem dX7_undo_62 : decode cX7_undo 62 = .ok (.aload_n 0, 1) := by decide +kernel
theorem dX7_undo_63 : decode cX7_undo 63 = .ok (.getfield 36, 3) := by decide +kernel
theorem dX7_undo_66 : decode cX7_undo 66 = .ok (.ireturn, 1) := by decide +kernel
set_option maxRecDepth 20000 in
theorem ggX7_append_X7_in : GoodIn wsX7_append wsX7_in := goodIn_r _ [7] (by decide +kernel) (by decide +kernel)
set_option maxRecDepth 20000 in
theorem gX7_append_X7_in : GoodIn wsX7_append (va_wsS RX7 32 yX7_in wsX7_in) := goodIn_app (goodIn_of _ (by decide +kernel)) ggX7_append_X7_in
theorem dX7_append_0 : decode cX7_append 0 = .ok (.aload_n 0, 1) := by decide +kernel
theorem dX7_append_1 : decode cX7_append 1 = .ok (.iconst 0, 1) := by decide +kernel
theorem dX7_append_2 : decode cX7_append 2 = .ok (.putfield 28, 3) := by decide +kernel
theorem dX7_append_5 : decode cX7_append 5 = .ok (.iload_n 1, 1) := by decide +kernel
theorem dX7_append_6 : decode cX7_append 6 = .ok (.iconst 1, 1) := by decide +kernel
theorem dX7_append_7 : decode cX7_append 7 = .ok (.sipush 255, 3) := by decide +kernel
theorem dX7_append_10 : decode cX7_append 10 = .ok (.invokestatic 32, 3) := by decide +kernel
theorem dX7_append_13 : decode cX7_append 13 = .ok (.ifCond .ne 7, 3) := by decide +kernel
theorem dX7_append_16 : decode cX7_append 16 = .ok (.sipush (-1001), 3) := by decide +kernel
theorem dX7_append_19 : decode cX7_append 19 = .ok (.ireturn, 1) := by decide +kernel
theorem dX7_append_20 : decode cX7_append 20 = .ok (.aload_n 0, 1) := by decide +kernel
theorem dX7_append_21 : decode cX7_append 21 = .ok (.getfield 117, 3) := by decide +kernel
theorem dX7_append_24 : decode cX7_append 24 = .ok (.sipush 140, 3) := by decide +kernel
theorem dX7_append_27 : decode cX7_append 27 = .ok (.if_icmp .ne 7, 3) := by decide +kernel
theorem dX7_append_30 : decode cX7_append 30 = .ok (.sipush (-1003), 3) := by decide +kernel
theorem dX7_append_33 : decode cX7_append 33 = .ok (.ireturn, 1) := by decide +kernel
theorem dX7_append_34 : decode cX7_append 34 = .ok (.aload_n 0, 1) := by decide +kernel
theorem dX7_append_35 : decode cX7_append 35 = .ok (.getfield 16, 3) := by decide +kernel
theorem dX7_append_38 : decode cX7_append 38 = .ok (.aload_n 0, 1) := by decide +kernel
theorem dX7_append_39 : decode cX7_append 39 = .ok (.getfield 117, 3) := by decide +kernel
theorem dX7_append_42 : decode cX7_append 42 = .ok (.iload_n 1, 1) := by decide +kernel
theorem dX7_append_43 : decode cX7_append 43 = .ok (.iastore, 1) := by decide +kernel
theorem dX7_append_44 : decode cX7_append 44 = .ok (.aload_n 0, 1) := by decide +kernel
theorem dX7_append_45 : decode cX7_append 45 = .ok (.dup, 1) := by decide +kernel
theorem dX7_append_46 : decode cX7_append 46 = .ok (.getfield 117, 3) := by decide +kernel
theorem dX7_append_49 : decode cX7_append 49 = .ok (.iconst 1, 1) := by decide +kernel
theorem dX7_append_50 : decode cX7_append 50 = .ok (.iadd, 1) := by decide +kernel
theorem dX7_append_51 : decode cX7_append 51 = .ok (.putfield 117, 3) := by decide +kernel
theorem dX7_append_54 : decode cX7_append 54 = .ok (.aload_n 0, 1) := by decide +kernel
theorem dX7_append_55 : decode cX7_append 55 = .ok (.getfield 117, 3) := by decide +kernel
theorem dX7_append_58 : decode cX7_append 58 = .ok (.ireturn, 1) := by decide +kernel
theorem dX7_clearText_0 : decode cX7_clearText 0 = .ok (.aload_n 0, 1) := by decide +kernel
theorem dX7_clearText_1 : decode cX7_clearText 1 = .ok (.iconst 0, 1) := by decide +kernel
theorem dX7_clearText_2 : decode cX7_clearText 2 = .ok (.putfield 28, 3) := by decide +kernel
theorem dX7_clearText_5 : decode cX7_clearText 5 = .ok (.aload_n 0, 1) := by decide +kernel
theorem dX7_clearText_6 : decode cX7_clearText 6 = .ok (.getfield 117, 3) := by decide +kernel
theorem dX7_clearText_9 : decode cX7_clearText 9 = .ok (.istore_n 1, 1) := by decide +kernel
theorem dX7_clearText_10 : decode cX7_clearText 10 = .ok (.aload_n 0, 1) := by decide +kernel
theorem dX7_clearText_11 : decode cX7_clearText 11 = .ok (.iconst 0, 1) := by decide +kernel
theorem dX7_clearText_12 : decode cX7_clearText 12 = .ok (.putfield 117, 3) := by decide +kernel
theorem dX7_clearText_15 : decode cX7_clearText 15 = .ok (.iload_n 1, 1) := by decide +kernel
theorem dX7_clearText_16 : decode cX7_clearText 16 = .ok (.ireturn, 1) := by decide +kernel
theorem dX7_here_0 : decode cX7_here 0 = .ok (.aload_n 0, 1) := by decide +kernel
theorem dX7_here_1 : decode cX7_here 1 = .ok (.getfield 120, 3) := by decide +kernel
theorem dX7_here_4 : decode cX7_here 4 = .ok (.aload_n 0, 1) := by decide +kernel
theorem dX7_here_5 : decode cX7_here 5 = .ok (.getfield 117, 3) := by decide +kernel
theorem dX7_here_8 : decode cX7_here 8 = .ok (.if_icmp .ge 15, 3) := by decide +kernel
theorem dX7_here_11 : decode cX7_here 11 = .ok (.aload_n 0, 1) := by decide +kernel
theorem dX7_here_12 : decode cX7_here 12 = .ok (.getfield 16, 3) := by decide +kernel
theorem dX7_here_15 : decode cX7_here 15 = .ok (.aload_n 0, 1) := by decide +kernel
theorem dX7_here_16 : decode cX7_here 16 = .ok (.getfield 120, 3) := by decide +kernel
theorem dX7_here_19 : decode cX7_here 19 = .ok (.iaload, 1) := by decide +kernel
theorem dX7_here_20 : decode cX7_here 20 = .ok (.goto 4, 3) := by decide +kernel
theorem dX7_here_23 : decode cX7_here 23 = .ok (.iconst 0, 1) := by decide +kernel
theorem dX7_here_24 : decode cX7_here 24 = .ok (.ireturn, 1) := by decide +kernel
set_option maxRecDepth 20000 in
theorem ggX7_isDigit_X7_here : GoodIn wsX7_isDigit wsX7_here := goodIn_r _ [5, 6, 7, 8, 12, 13, 14, 15, 16, 17, 18, 19, 20, 21, 22, 23, 24, 25, 26] (by decide +kernel) (by decide +kernel)
set_option maxRecDepth 20000 in
theorem gX7_isDigit_X7_here : GoodIn wsX7_isDigit (wsV RX7 123 RX7 yX7_here wsX7_here) := goodIn_app (goodIn_of _ (by decide +kernel)) ggX7_isDigit_X7_here
set_option maxRecDepth 20000 in
theorem ggX7_isDigit_X7_in : GoodIn wsX7_isDigit wsX7_in := goodIn_r _ [11] (by decide +kernel) (by decide +kernel)
set_option maxRecDepth 20000 in
theorem gX7_isDigit_X7_in : GoodIn wsX7_isDigit (va_wsS RX7 32 yX7_in wsX7_in) := goodIn_app (goodIn_of _ (by decide +kernel)) ggX7_isDigit_X7_in
theorem dX7_isDigit_0 : decode cX7_isDigit 0 = .ok (.aload_n 0, 1) := by decide +kernel
theorem dX7_isDigit_1 : decode cX7_isDigit 1 = .ok (.invokevirtual 123, 3) := by decide +kernel
theorem dX7_isDigit_4 : decode cX7_isDigit 4 = .ok (.bipush 48, 2) := by decide +kernel
theorem dX7_isDigit_6 : decode cX7_isDigit 6 = .ok (.bipush 57, 2) := by decide +kernel
theorem dX7_isDigit_8 : decode cX7_isDigit 8 = .ok (.invokestatic 32, 3) := by decide +kernel
theorem dX7_isDigit_11 : decode cX7_isDigit 11 = .ok (.ireturn, 1) := by decide +kernel
theorem dX7_isWell_0 : decode cX7_isWell 0 = .ok (.aload_n 0, 1) := by decide +kernel
theorem dX7_isWell_1 : decode cX7_isWell 1 = .ok (.getfield 126, 3) := by decide +kernel
theorem dX7_isWell_4 : decode cX7_isWell 4 = .ok (.ifCond .ge 7, 3) := by decide +kernel
theorem dX7_isWell_7 : decode cX7_isWell 7 = .ok (.iconst 1, 1) := by decide +kernel
theorem dX7_isWell_8 : decode cX7_isWell 8 = .ok (.goto 4, 3) := by decide +kernel
theorem dX7_isWell_11 : decode cX7_isWell 11 = .ok (.iconst 0, 1) := by decide +kernel
theorem dX7_isWell_12 : decode cX7_isWell 12 = .ok (.ireturn, 1) := by decide +kernel
set_option maxRecDepth 20000 in
theorem ggX7_skip_X7_here : GoodIn wsX7_skip wsX7_here := goodIn_r _ [6, 1, 7, 8, 9, 10, 11, 12, 13, 14, 15, 16, 17, 18, 19, 20, 21, 22, 23] (by decide +kernel) (by decide +kernel)
set_option maxRecDepth 20000 in
theorem gX7_skip_X7_here : GoodIn wsX7_skip (wsV RX7 123 RX7 yX7_here wsX7_here) := goodIn_app (goodIn_of _ (by decide +kernel)) ggX7_skip_X7_here
theorem dX7_skip_0 : decode cX7_skip 0 = .ok (.aload_n 0, 1) := by decide +kernel
theorem dX7_skip_1 : decode cX7_skip 1 = .ok (.invokevirtual 123, 3) := by decide +kernel
theorem dX7_skip_4 : decode cX7_skip 4 = .ok (.bipush 32, 2) := by decide +kernel
theorem dX7_skip_6 : decode cX7_skip 6 = .ok (.if_icmp .ne 16, 3) := by decide +kernel
theorem dX7_skip_9 : decode cX7_skip 9 = .ok (.aload_n 0, 1) := by decide +kernel
theorem dX7_skip_10 : decode cX7_skip 10 = .ok (.dup, 1) := by decide +kernel
theorem dX7_skip_11 : decode cX7_skip 11 = .ok (.getfield 120, 3) := by decide +kernel
theorem dX7_skip_14 : decode cX7_skip 14 = .ok (.iconst 1, 1) := by decide +kernel
theorem dX7_skip_15 : decode cX7_skip 15 = .ok (.iadd, 1) := by decide +kernel
theorem dX7_skip_16 : decode cX7_skip 16 = .ok (.putfield 120, 3) := by decide +kernel
theorem dX7_skip_19 : decode cX7_skip 19 = .ok (.goto (-19), 3) := by decide +kernel
theorem dX7_skip_22 : decode cX7_skip 22 = .ok (.return_, 1) := by decide +kernel
theorem dX7_fail_0 : decode cX7_fail 0 = .ok (.aload_n 0, 1) := by decide +kernel
theorem dX7_fail_1 : decode cX7_fail 1 = .ok (.aload_n 0, 1) := by decide +kernel
theorem dX7_fail_2 : decode cX7_fail 2 = .ok (.getfield 126, 3) := by decide +kernel
theorem dX7_fail_5 : decode cX7_fail 5 = .ok (.ifCond .ge 7, 3) := by decide +kernel
theorem dX7_fail_8 : decode cX7_fail 8 = .ok (.iload_n 1, 1) := by decide +kernel
theorem dX7_fail_9 : decode cX7_fail 9 = .ok (.goto 7, 3) := by decide +kernel
theorem dX7_fail_12 : decode cX7_fail 12 = .ok (.aload_n 0, 1) := by decide +kernel
theorem dX7_fail_13 : decode cX7_fail 13 = .ok (.getfield 126, 3) := by decide +kernel
theorem dX7_fail_16 : decode cX7_fail 16 = .ok (.putfield 126, 3) := by decide +kernel
theorem dX7_fail_19 : decode cX7_fail 19 = .ok (.return_, 1) := by decide +kernel
set_option maxRecDepth 20000 in
theorem ggX7_number_X7_isDigit : GoodIn wsX7_number wsX7_isDigit := goodIn_r _ [7, 8, 9, 10, 6, 11, 1, 12, 2, 13, 14, 15, 25, 26, 27, 28, 29, 30, 31, 32, 33, 34, 35, 36, 37, 38, 39] (by decide +kernel) (by decide +kernel)
set_option maxRecDepth 20000 in
theorem gX7_number_X7_isDigit : GoodIn wsX7_number (wsV RX7 129 RX7 yX7_isDigit wsX7_isDigit) := goodIn_app (goodIn_of _ (by decide +kernel)) ggX7_number_X7_isDigit
set_option maxRecDepth 20000 in
theorem ggX7_number_X7_here : GoodIn wsX7_number wsX7_here := goodIn_r _ [11, 1, 12, 2, 25, 26, 27, 28, 29, 30, 31, 32, 33, 34, 35, 36, 37, 38, 39] (by decide +kernel) (by decide +kernel)
set_option maxRecDepth 20000 in
theorem gX7_number_X7_here : GoodIn wsX7_number (wsV RX7 123 RX7 yX7_here wsX7_here) := goodIn_app (goodIn_of _ (by decide +kernel)) ggX7_number_X7_here
set_option maxRecDepth 20000 in
theorem ggX7_number_X7_in : GoodIn wsX7_number wsX7_in := goodIn_r _ [15] (by decide +kernel) (by decide +kernel)
set_option maxRecDepth 20000 in
theorem gX7_number_X7_in : GoodIn wsX7_number (va_wsS RX7 32 yX7_in wsX7_in) := goodIn_app (goodIn_of _ (by decide +kernel)) ggX7_number_X7_in
set_option maxRecDepth 20000 in
theorem ggX7_number_X7_fail : GoodIn wsX7_number wsX7_fail := goodIn_r _ [19, 20, 25, 26, 27, 28, 29, 30, 31, 32, 33, 34, 35, 36, 37, 38, 39] (by decide +kernel) (by decide +kernel)
set_option maxRecDepth 20000 in
theorem gX7_number_X7_fail : GoodIn wsX7_number (wsV RX7 133 RX7 yX7_fail wsX7_fail) := goodIn_app (goodIn_of _ (by decide +kernel)) ggX7_number_X7_fail
set_option maxRecDepth 20000 in
theorem ggX7_number_X7_skip : GoodIn wsX7_number wsX7_skip := goodIn_r _ [24, 1, 8, 9, 10, 6, 11, 12, 2, 25, 26, 27, 28, 29, 30, 31, 32, 33, 34, 35, 36, 37, 38, 39] (by decide +kernel) (by decide +kernel)
set_option maxRecDepth 20000 in
theorem gX7_number_X7_skip : GoodIn wsX7_number (wsV RX7 136 RX7 yX7_skip wsX7_skip) := goodIn_app (goodIn_of _ (by decide +kernel)) ggX7_number_X7_skip
theorem dX7_number_0 : decode cX7_number 0 = .ok (.aload_n 0, 1) := by decide +kernel
theorem dX7_number_1 : decode cX7_number 1 = .ok (.getfield 120, 3) := by decide +kernel
theorem dX7_number_4 : decode cX7_number 4 = .ok (.istore_n 3, 1) := by decide +kernel
theorem dX7_number_5 : decode cX7_number 5 = .ok (.iconst 0, 1) := by decide +kernel
theorem dX7_number_6 : decode cX7_number 6 = .ok (.istore 4, 2) := by decide +kernel
theorem dX7_number_8 : decode cX7_number 8 = .ok (.aload_n 0, 1) := by decide +kernel
theorem dX7_number_9 : decode cX7_number 9 = .ok (.invokevirtual 129, 3) := by decide +kernel
theorem dX7_number_12 : decode cX7_number 12 = .ok (.ifCond .eq 43, 3) := by decide +kernel
theorem dX7_number_15 : decode cX7_number 15 = .ok (.iload 4, 2) := by decide +kernel
theorem dX7_number_17 : decode cX7_number 17 = .ok (.bipush 99, 2) := by decide +kernel
theorem dX7_number_19 : decode cX7_number 19 = .ok (.if_icmp .le 8, 3) := by decide +kernel
theorem dX7_number_22 : decode cX7_number 22 = .ok (.iload 4, 2) := by decide +kernel
theorem dX7_number_24 : decode cX7_number 24 = .ok (.goto 16, 3) := by decide +kernel
theorem dX7_number_27 : decode cX7_number 27 = .ok (.bipush 10, 2) := by decide +kernel
theorem dX7_number_29 : decode cX7_number 29 = .ok (.iload 4, 2) := by decide +kernel
theorem dX7_number_31 : decode cX7_number 31 = .ok (.imul, 1) := by decide +kernel
theorem dX7_number_32 : decode cX7_number 32 = .ok (.aload_n 0, 1) := by decide +kernel
theorem dX7_number_33 : decode cX7_number 33 = .ok (.invokevirtual 123, 3) := by decide +kernel
theorem dX7_number_36 : decode cX7_number 36 = .ok (.iadd, 1) := by decide +kernel
theorem dX7_number_37 : decode cX7_number 37 = .ok (.bipush 48, 2) := by decide +kernel
theorem dX7_number_39 : decode cX7_number 39 = .ok (.isub, 1) := by decide +kernel
theorem dX7_number_40 : decode cX7_number 40 = .ok (.istore 4, 2) := by decide +kernel
theorem dX7_number_42 : decode cX7_number 42 = .ok (.aload_n 0, 1) := by decide +kernel
theorem dX7_number_43 : decode cX7_number 43 = .ok (.dup, 1) := by decide +kernel
theorem dX7_number_44 : decode cX7_number 44 = .ok (.getfield 120, 3) := by decide +kernel
theorem dX7_number_47 : decode cX7_number 47 = .ok (.iconst 1, 1) := by decide +kernel
theorem dX7_number_48 : decode cX7_number 48 = .ok (.iadd, 1) := by decide +kernel
theorem dX7_number_49 : decode cX7_number 49 = .ok (.putfield 120, 3) := by decide +kernel
theorem dX7_number_52 : decode cX7_number 52 = .ok (.goto (-44), 3) := by decide +kernel
theorem dX7_number_55 : decode cX7_number 55 = .ok (.aload_n 0, 1) := by decide +kernel
theorem dX7_number_56 : decode cX7_number 56 = .ok (.getfield 120, 3) := by decide +kernel
theorem dX7_number_59 : decode cX7_number 59 = .ok (.iload_n 3, 1) := by decide +kernel
theorem dX7_number_60 : decode cX7_number 60 = .ok (.isub, 1) := by decide +kernel
theorem dX7_number_61 : decode cX7_number 61 = .ok (.iconst 1, 1) := by decide +kernel
theorem dX7_number_62 : decode cX7_number 62 = .ok (.if_icmp .le 18, 3) := by decide +kernel
theorem dX7_number_65 : decode cX7_number 65 = .ok (.aload_n 0, 1) := by decide +kernel
theorem dX7_number_66 : decode cX7_number 66 = .ok (.getfield 16, 3) := by decide +kernel
theorem dX7_number_69 : decode cX7_number 69 = .ok (.iload_n 3, 1) := by decide +kernel
theorem dX7_number_70 : decode cX7_number 70 = .ok (.iaload, 1) := by decide +kernel
theorem dX7_number_71 : decode cX7_number 71 = .ok (.bipush 48, 2) := by decide +kernel
theorem dX7_number_73 : decode cX7_number 73 = .ok (.if_icmp .ne 7, 3) := by decide +kernel
theorem dX7_number_76 : decode cX7_number 76 = .ok (.iconst 1, 1) := by decide +kernel
theorem dX7_number_77 : decode cX7_number 77 = .ok (.goto 4, 3) := by decide +kernel
theorem dX7_number_80 : decode cX7_number 80 = .ok (.iconst 0, 1) := by decide +kernel
theorem dX7_number_81 : decode cX7_number 81 = .ok (.istore 5, 2) := by decide +kernel
theorem dX7_number_83 : decode cX7_number 83 = .ok (.aload_n 0, 1) := by decide +kernel
theorem dX7_number_84 : decode cX7_number 84 = .ok (.getfield 120, 3) := by decide +kernel
theorem dX7_number_87 : decode cX7_number 87 = .ok (.iload_n 3, 1) := by decide +kernel
theorem dX7_number_88 : decode cX7_number 88 = .ok (.if_icmp .eq 18, 3) := by decide +kernel
theorem dX7_number_91 : decode cX7_number 91 = .ok (.iload 5, 2) := by decide +kernel
theorem dX7_number_93 : decode cX7_number 93 = .ok (.ifCond .ne 13, 3) := by decide +kernel
theorem dX7_number_96 : decode cX7_number 96 = .ok (.iload 4, 2) := by decide +kernel
theorem dX7_number_98 : decode cX7_number 98 = .ok (.iload_n 1, 1) := by decide +kernel
theorem dX7_number_99 : decode cX7_number 99 = .ok (.iload_n 2, 1) := by decide +kernel
theorem dX7_number_100 : decode cX7_number 100 = .ok (.invokestatic 32, 3) := by decide +kernel
theorem dX7_number_103 : decode cX7_number 103 = .ok (.ifCond .ne 8, 3) := by decide +kernel
theorem dX7_number_106 : decode cX7_number 106 = .ok (.aload_n 0, 1) := by decide +kernel
theorem dX7_number_107 : decode cX7_number 107 = .ok (.iload_n 3, 1) := by decide +kernel
theorem dX7_number_108 : decode cX7_number 108 = .ok (.invokevirtual 133, 3) := by decide +kernel
theorem dX7_number_111 : decode cX7_number 111 = .ok (.aload_n 0, 1) := by decide +kernel
theorem dX7_number_112 : decode cX7_number 112 = .ok (.invokevirtual 136, 3) := by decide +kernel
theorem dX7_number_115 : decode cX7_number 115 = .ok (.iload 4, 2) := by decide +kernel
theorem dX7_number_117 : decode cX7_number 117 = .ok (.ireturn, 1) := by decide +kernel
set_option maxRecDepth 20000 in
theorem ggX7_expect_X7_isWell : GoodIn wsX7_expect wsX7_isWell := goodIn_r _ [6, 7, 22, 23, 24, 25, 26, 27, 28, 29, 30, 31, 32, 33, 34, 35, 36] (by decide +kernel) (by decide +kernel)
set_option maxRecDepth 20000 in
theorem gX7_expect_X7_isWell : GoodIn wsX7_expect (wsV RX7 139 RX7 yX7_isWell wsX7_isWell) := goodIn_app (goodIn_of _ (by decide +kernel)) ggX7_expect_X7_isWell
set_option maxRecDepth 20000 in
theorem ggX7_expect_X7_here : GoodIn wsX7_expect wsX7_here := goodIn_r _ [11, 1, 12, 13, 22, 23, 24, 25, 26, 27, 28, 29, 30, 31, 32, 33, 34, 35, 36] (by decide +kernel) (by decide +kernel)
set_option maxRecDepth 20000 in
theorem gX7_expect_X7_here : GoodIn wsX7_expect (wsV RX7 123 RX7 yX7_here wsX7_here) := goodIn_app (goodIn_of _ (by decide +kernel)) ggX7_expect_X7_here
set_option maxRecDepth 20000 in
theorem ggX7_expect_X7_fail : GoodIn wsX7_expect wsX7_fail := goodIn_r _ [17, 7, 22, 23, 24, 25, 26, 27, 28, 29, 30, 31, 32, 33, 34, 35, 36] (by decide +kernel) (by decide +kernel)
set_option maxRecDepth 20000 in
theorem gX7_expect_X7_fail : GoodIn wsX7_expect (wsV RX7 133 RX7 yX7_fail wsX7_fail) := goodIn_app (goodIn_of _ (by decide +kernel)) ggX7_expect_X7_fail
set_option maxRecDepth 20000 in
theorem ggX7_expect_X7_skip : GoodIn wsX7_expect wsX7_skip := goodIn_r _ [21, 1, 8, 9, 10, 5, 11, 12, 13, 22, 23, 24, 25, 26, 27, 28, 29, 30, 31, 32, 33, 34, 35, 36] (by decide +kernel) (by decide +kernel)
set_option maxRecDepth 20000 in
theorem gX7_expect_X7_skip : GoodIn wsX7_expect (wsV RX7 136 RX7 yX7_skip wsX7_skip) := goodIn_app (goodIn_of _ (by decide +kernel)) ggX7_expect_X7_skip
theorem dX7_expect_0 : decode cX7_expect 0 = .ok (.aload_n 0, 1) := by decide +kernel
theorem dX7_expect_1 : decode cX7_expect 1 = .ok (.invokevirtual 139, 3) := by decide +kernel
theorem dX7_expect_4 : decode cX7_expect 4 = .ok (.ifCond .ne 4, 3) := by decide +kernel
theorem dX7_expect_7 : decode cX7_expect 7 = .ok (.return_, 1) := by decide +kernel
theorem dX7_expect_8 : decode cX7_expect 8 = .ok (.aload_n 0, 1) := by decide +kernel
theorem dX7_expect_9 : decode cX7_expect 9 = .ok (.invokevirtual 123, 3) := by decide +kernel
theorem dX7_expect_12 : decode cX7_expect 12 = .ok (.iload_n 1, 1) := by decide +kernel
theorem dX7_expect_13 : decode cX7_expect 13 = .ok (.if_icmp .eq 12, 3) := by decide +kernel
theorem dX7_expect_16 : decode cX7_expect 16 = .ok (.aload_n 0, 1) := by decide +kernel
theorem dX7_expect_17 : decode cX7_expect 17 = .ok (.aload_n 0, 1) := by decide +kernel
theorem dX7_expect_18 : decode cX7_expect 18 = .ok (.getfield 120, 3) := by decide +kernel
theorem dX7_expect_21 : decode cX7_expect 21 = .ok (.invokevirtual 133, 3) := by decide +kernel
theorem dX7_expect_24 : decode cX7_expect 24 = .ok (.return_, 1) := by decide +kernel
theorem dX7_expect_25 : decode cX7_expect 25 = .ok (.aload_n 0, 1) := by decide +kernel
theorem dX7_expect_26 : decode cX7_expect 26 = .ok (.dup, 1) := by decide +kernel
theorem dX7_expect_27 : decode cX7_expect 27 = .ok (.getfield 120, 3) := by decide +kernel
theorem dX7_expect_30 : decode cX7_expect 30 = .ok (.iconst 1, 1) := by decide +kernel
theorem dX7_expect_31 : decode cX7_expect 31 = .ok (.iadd, 1) := by decide +kernel
theorem dX7_expect_32 : decode cX7_expect 32 = .ok (.putfield 120, 3) := by decide +kernel
theorem dX7_expect_35 : decode cX7_expect 35 = .ok (.aload_n 0, 1) := by decide +kernel
theorem dX7_expect_36 : decode cX7_expect 36 = .ok (.invokevirtual 136, 3) := by decide +kernel
theorem dX7_expect_39 : decode cX7_expect 39 = .ok (.return_, 1) := by decide +kernel
set_option maxRecDepth 20000 in
theorem ggX7_kind_X7_here : GoodIn wsX7_kind wsX7_here := goodIn_r _ [6, 1, 7, 8, 18, 19, 20, 21, 22, 23, 24, 25, 26, 27, 28, 29, 30, 31, 32] (by decide +kernel) (by decide +kernel)
set_option maxRecDepth 20000 in
theorem gX7_kind_X7_here : GoodIn wsX7_kind (wsV RX7 123 RX7 yX7_here wsX7_here) := goodIn_app (goodIn_of _ (by decide +kernel)) ggX7_kind_X7_here
set_option maxRecDepth 20000 in
theorem ggX7_kind_X7_fail : GoodIn wsX7_kind wsX7_fail := goodIn_r _ [12, 13, 18, 19, 20, 21, 22, 23, 24, 25, 26, 27, 28, 29, 30, 31, 32] (by decide +kernel) (by decide +kernel)
set_option maxRecDepth 20000 in
theorem gX7_kind_X7_fail : GoodIn wsX7_kind (wsV RX7 133 RX7 yX7_fail wsX7_fail) := goodIn_app (goodIn_of _ (by decide +kernel)) ggX7_kind_X7_fail
set_option maxRecDepth 20000 in
theorem ggX7_kind_X7_skip : GoodIn wsX7_kind wsX7_skip := goodIn_r _ [17, 1, 2, 3, 4, 5, 6, 7, 8, 18, 19, 20, 21, 22, 23, 24, 25, 26, 27, 28, 29, 30, 31, 32] (by decide +kernel) (by decide +kernel)
set_option maxRecDepth 20000 in
theorem gX7_kind_X7_skip : GoodIn wsX7_kind (wsV RX7 136 RX7 yX7_skip wsX7_skip) := goodIn_app (goodIn_of _ (by decide +kernel)) ggX7_kind_X7_skip
theorem dX7_kind_0 : decode cX7_kind 0 = .ok (.aload_n 0, 1) := by decide +kernel
theorem dX7_kind_1 : decode cX7_kind 1 = .ok (.invokevirtual 123, 3) := by decide +kernel
theorem dX7_kind_4 : decode cX7_kind 4 = .ok (.istore_n 1, 1) := by decide +kernel
theorem dX7_kind_5 : decode cX7_kind 5 = .ok (.iload_n 1, 1) := by decide +kernel
theorem dX7_kind_6 : decode cX7_kind 6 = .ok (.bipush 119, 2) := by decide +kernel
theorem dX7_kind_8 : decode cX7_kind 8 = .ok (.if_icmp .ne 7, 3) := by decide +kernel
theorem dX7_kind_11 : decode cX7_kind 11 = .ok (.iconst 0, 1) := by decide +kernel
theorem dX7_kind_12 : decode cX7_kind 12 = .ok (.goto 14, 3) := by decide +kernel
theorem dX7_kind_15 : decode cX7_kind 15 = .ok (.iload_n 1, 1) := by decide +kernel
theorem dX7_kind_16 : decode cX7_kind 16 = .ok (.bipush 99, 2) := by decide +kernel
theorem dX7_kind_18 : decode cX7_kind 18 = .ok (.if_icmp .ne 7, 3) := by decide +kernel
theorem dX7_kind_21 : decode cX7_kind 21 = .ok (.iconst 1, 1) := by decide +kernel
theorem dX7_kind_22 : decode cX7_kind 22 = .ok (.goto 4, 3) := by decide +kernel
theorem dX7_kind_25 : decode cX7_kind 25 = .ok (.iconst 2, 1) := by decide +kernel
theorem dX7_kind_26 : decode cX7_kind 26 = .ok (.istore_n 2, 1) := by decide +kernel
theorem dX7_kind_27 : decode cX7_kind 27 = .ok (.iload_n 1, 1) := by decide +kernel
theorem dX7_kind_28 : decode cX7_kind 28 = .ok (.bipush 119, 2) := by decide +kernel
theorem dX7_kind_30 : decode cX7_kind 30 = .ok (.if_icmp .eq 23, 3) := by decide +kernel
theorem dX7_kind_33 : decode cX7_kind 33 = .ok (.iload_n 1, 1) := by decide +kernel
theorem dX7_kind_34 : decode cX7_kind 34 = .ok (.bipush 99, 2) := by decide +kernel
theorem dX7_kind_36 : decode cX7_kind 36 = .ok (.if_icmp .eq 17, 3) := by decide +kernel
theorem dX7_kind_39 : decode cX7_kind 39 = .ok (.iload_n 1, 1) := by decide +kernel
theorem dX7_kind_40 : decode cX7_kind 40 = .ok (.bipush 108, 2) := by decide +kernel
theorem dX7_kind_42 : decode cX7_kind 42 = .ok (.if_icmp .eq 11, 3) := by decide +kernel
theorem dX7_kind_45 : decode cX7_kind 45 = .ok (.aload_n 0, 1) := by decide +kernel
theorem dX7_kind_46 : decode cX7_kind 46 = .ok (.aload_n 0, 1) := by decide +kernel
theorem dX7_kind_47 : decode cX7_kind 47 = .ok (.getfield 120, 3) := by decide +kernel
theorem dX7_kind_50 : decode cX7_kind 50 = .ok (.invokevirtual 133, 3) := by decide +kernel
theorem dX7_kind_53 : decode cX7_kind 53 = .ok (.aload_n 0, 1) := by decide +kernel
theorem dX7_kind_54 : decode cX7_kind 54 = .ok (.dup, 1) := by decide +kernel
theorem dX7_kind_55 : decode cX7_kind 55 = .ok (.getfield 120, 3) := by decide +kernel
theorem dX7_kind_58 : decode cX7_kind 58 = .ok (.iconst 1, 1) := by decide +kernel
theorem dX7_kind_59 : decode cX7_kind 59 = .ok (.iadd, 1) := by decide +kernel
theorem dX7_kind_60 : decode cX7_kind 60 = .ok (.putfield 120, 3) := by decide +kernel
theorem dX7_kind_63 : decode cX7_kind 63 = .ok (.aload_n 0, 1) := by decide +kernel
theorem dX7_kind_64 : decode cX7_kind 64 = .ok (.invokevirtual 136, 3) := by decide +kernel
theorem dX7_kind_67 : decode cX7_kind 67 = .ok (.iload_n 2, 1) := by decide +kernel
theorem dX7_kind_68 : decode cX7_kind 68 = .ok (.ireturn, 1) := by decide +kernel
set_option maxRecDepth 20000 in
theorem ggX7_readRun_X7_number : GoodIn wsX7_readRun wsX7_number := goodIn_r _ [8, 1, 9, 10, 11, 12, 7, 13, 14, 15, 16, 17, 18, 19, 20, 21, 22, 23, 24, 25, 26, 27, 28, 29, 30, 39, 40, 41, 42, 43, 44, 45, 46, 47, 48, 49, 50, 51, 52, 53] (by decide +kernel) (by decide +kernel)
set_option maxRecDepth 20000 in
theorem gX7_readRun_X7_number : GoodIn wsX7_readRun (wsV RX7 142 RX7 yX7_number wsX7_number) := goodIn_app (goodIn_of _ (by decide +kernel)) ggX7_readRun_X7_number
set_option maxRecDepth 20000 in
theorem ggX7_readRun_X7_isWell : GoodIn wsX7_readRun wsX7_isWell := goodIn_r _ [34, 26, 39, 40, 41, 42, 43, 44, 45, 46, 47, 48, 49, 50, 51, 52, 53] (by decide +kernel) (by decide +kernel)
set_option maxRecDepth 20000 in
theorem gX7_readRun_X7_isWell : GoodIn wsX7_readRun (wsV RX7 139 RX7 yX7_isWell wsX7_isWell) := goodIn_app (goodIn_of _ (by decide +kernel)) ggX7_readRun_X7_isWell
set_option maxRecDepth 20000 in
theorem ggX7_readRun_X7_fail : GoodIn wsX7_readRun wsX7_fail := goodIn_r _ [25, 26, 39, 40, 41, 42, 43, 44, 45, 46, 47, 48, 49, 50, 51, 52, 53] (by decide +kernel) (by decide +kernel)
set_option maxRecDepth 20000 in
theorem gX7_readRun_X7_fail : GoodIn wsX7_readRun (wsV RX7 133 RX7 yX7_fail wsX7_fail) := goodIn_app (goodIn_of _ (by decide +kernel)) ggX7_readRun_X7_fail
set_option maxRecDepth 20000 in
theorem ggX7_readRun_X7_kind : GoodIn wsX7_readRun wsX7_kind := goodIn_r _ [38, 1, 14, 15, 16, 7, 17, 18, 9, 22, 23, 24, 25, 26, 27, 28, 29, 30, 39, 40, 41, 42, 43, 44, 45, 46, 47, 48, 49, 50, 51, 52, 53] (by decide +kernel) (by decide +kernel)
set_option maxRecDepth 20000 in
theorem gX7_readRun_X7_kind : GoodIn wsX7_readRun (wsV RX7 145 RX7 yX7_kind wsX7_kind) := goodIn_app (goodIn_of _ (by decide +kernel)) ggX7_readRun_X7_kind
theorem dX7_readRun_0 : decode cX7_readRun 0 = .ok (.aload_n 0, 1) := by decide +kernel
theorem dX7_readRun_1 : decode cX7_readRun 1 = .ok (.getfield 120, 3) := by decide +kernel
theorem dX7_readRun_4 : decode cX7_readRun 4 = .ok (.istore_n 3, 1) := by decide +kernel
theorem dX7_readRun_5 : decode cX7_readRun 5 = .ok (.aload_n 0, 1) := by decide +kernel
theorem dX7_readRun_6 : decode cX7_readRun 6 = .ok (.iconst 1, 1) := by decide +kernel
theorem dX7_readRun_7 : decode cX7_readRun 7 = .ok (.bipush 16, 2) := by decide +kernel
theorem dX7_readRun_9 : decode cX7_readRun 9 = .ok (.invokevirtual 142, 3) := by decide +kernel
theorem dX7_readRun_12 : decode cX7_readRun 12 = .ok (.istore 4, 2) := by decide +kernel
theorem dX7_readRun_14 : decode cX7_readRun 14 = .ok (.aload_n 0, 1) := by decide +kernel
theorem dX7_readRun_15 : decode cX7_readRun 15 = .ok (.invokevirtual 139, 3) := by decide +kernel
theorem dX7_readRun_18 : decode cX7_readRun 18 = .ok (.ifCond .eq 17, 3) := by decide +kernel
theorem dX7_readRun_21 : decode cX7_readRun 21 = .ok (.iload_n 2, 1) := by decide +kernel
theorem dX7_readRun_22 : decode cX7_readRun 22 = .ok (.iload 4, 2) := by decide +kernel
theorem dX7_readRun_24 : decode cX7_readRun 24 = .ok (.iadd, 1) := by decide +kernel
theorem dX7_readRun_25 : decode cX7_readRun 25 = .ok (.bipush 16, 2) := by decide +kernel
theorem dX7_readRun_27 : decode cX7_readRun 27 = .ok (.if_icmp .le 8, 3) := by decide +kernel
theorem dX7_readRun_30 : decode cX7_readRun 30 = .ok (.aload_n 0, 1) := by decide +kernel
theorem dX7_readRun_31 : decode cX7_readRun 31 = .ok (.iload_n 3, 1) := by decide +kernel
theorem dX7_readRun_32 : decode cX7_readRun 32 = .ok (.invokevirtual 133, 3) := by decide +kernel
theorem dX7_readRun_35 : decode cX7_readRun 35 = .ok (.aload_n 0, 1) := by decide +kernel
theorem dX7_readRun_36 : decode cX7_readRun 36 = .ok (.invokevirtual 139, 3) := by decide +kernel
theorem dX7_readRun_39 : decode cX7_readRun 39 = .ok (.ifCond .ne 4, 3) := by decide +kernel
theorem dX7_readRun_42 : decode cX7_readRun 42 = .ok (.return_, 1) := by decide +kernel
theorem dX7_readRun_43 : decode cX7_readRun 43 = .ok (.aload_n 0, 1) := by decide +kernel
theorem dX7_readRun_44 : decode cX7_readRun 44 = .ok (.invokevirtual 145, 3) := by decide +kernel
theorem dX7_readRun_47 : decode cX7_readRun 47 = .ok (.istore 5, 2) := by decide +kernel
theorem dX7_readRun_49 : decode cX7_readRun 49 = .ok (.iconst 0, 1) := by decide +kernel
theorem dX7_readRun_50 : decode cX7_readRun 50 = .ok (.istore 6, 2) := by decide +kernel
theorem dX7_readRun_52 : decode cX7_readRun 52 = .ok (.iload 6, 2) := by decide +kernel
theorem dX7_readRun_54 : decode cX7_readRun 54 = .ok (.iload 4, 2) := by decide +kernel
theorem dX7_readRun_56 : decode cX7_readRun 56 = .ok (.if_icmp .ge 32, 3) := by decide +kernel
theorem dX7_readRun_59 : decode cX7_readRun 59 = .ok (.aload_n 0, 1) := by decide +kernel
theorem dX7_readRun_60 : decode cX7_readRun 60 = .ok (.invokevirtual 139, 3) := by decide +kernel
theorem dX7_readRun_63 : decode cX7_readRun 63 = .ok (.ifCond .eq 25, 3) := by decide +kernel
theorem dX7_readRun_66 : decode cX7_readRun 66 = .ok (.aload_n 0, 1) := by decide +kernel
theorem dX7_readRun_67 : decode cX7_readRun 67 = .ok (.getfield 25, 3) := by decide +kernel
theorem dX7_readRun_70 : decode cX7_readRun 70 = .ok (.bipush 16, 2) := by decide +kernel
theorem dX7_readRun_72 : decode cX7_readRun 72 = .ok (.iload_n 1, 1) := by decide +kernel
theorem dX7_readRun_73 : decode cX7_readRun 73 = .ok (.imul, 1) := by decide +kernel
theorem dX7_readRun_74 : decode cX7_readRun 74 = .ok (.iload_n 2, 1) := by decide +kernel
theorem dX7_readRun_75 : decode cX7_readRun 75 = .ok (.iadd, 1) := by decide +kernel
theorem dX7_readRun_76 : decode cX7_readRun 76 = .ok (.iload 6, 2) := by decide +kernel
theorem dX7_readRun_78 : decode cX7_readRun 78 = .ok (.iadd, 1) := by decide +kernel
theorem dX7_readRun_79 : decode cX7_readRun 79 = .ok (.iload 5, 2) := by decide +kernel
theorem dX7_readRun_81 : decode cX7_readRun 81 = .ok (.iastore, 1) := by decide +kernel
theorem dX7_readRun_82 : decode cX7_readRun 82 = .ok (.iinc 6 1, 3) := by decide +kernel
theorem dX7_readRun_85 : decode cX7_readRun 85 = .ok (.goto (-33), 3) := by decide +kernel
theorem dX7_readRun_88 : decode cX7_readRun 88 = .ok (.aload_n 0, 1) := by decide +kernel
theorem dX7_readRun_89 : decode cX7_readRun 89 = .ok (.iload_n 2, 1) := by decide +kernel
theorem dX7_readRun_90 : decode cX7_readRun 90 = .ok (.iload 4, 2) := by decide +kernel
theorem dX7_readRun_92 : decode cX7_readRun 92 = .ok (.iadd, 1) := by decide +kernel
theorem dX7_readRun_93 : decode cX7_readRun 93 = .ok (.putfield 148, 3) := by decide +kernel
theorem dX7_readRun_96 : decode cX7_readRun 96 = .ok (.return_, 1) := by decide +kernel
set_option maxRecDepth 20000 in
theorem ggX7_readRow_X7_number : GoodIn wsX7_readRow wsX7_number := goodIn_r _ [7, 2, 8, 9, 10, 11, 6, 12, 13, 14, 15, 16, 17, 18, 19, 20, 21, 22, 23, 24, 25, 26, 27, 28, 29, 47, 48, 49, 50, 51, 52, 53, 54, 55, 56, 57, 58, 59, 60, 61] (by decide +kernel) (by decide +kernel)
set_option maxRecDepth 20000 in
theorem gX7_readRow_X7_number : GoodIn wsX7_readRow (wsV RX7 142 RX7 yX7_number wsX7_number) := goodIn_app (goodIn_of _ (by decide +kernel)) ggX7_readRow_X7_number
set_option maxRecDepth 20000 in
theorem ggX7_readRow_X7_expect : GoodIn wsX7_readRow wsX7_expect := goodIn_r _ [33, 2, 34, 35, 36, 6, 37, 25, 13, 14, 15, 16, 17, 8, 21, 22, 23, 24, 26, 27, 28, 29, 47, 48, 49, 50, 51, 52, 53, 54, 55, 56, 57, 58, 59, 60, 61] (by decide +kernel) (by decide +kernel)
set_option maxRecDepth 20000 in
theorem gX7_readRow_X7_expect : GoodIn wsX7_readRow (wsV RX7 151 RX7 yX7_expect wsX7_expect) := goodIn_app (goodIn_of _ (by decide +kernel)) ggX7_readRow_X7_expect
set_option maxRecDepth 20000 in
theorem ggX7_readRow_X7_isWell : GoodIn wsX7_readRow wsX7_isWell := goodIn_r _ [37, 25, 47, 48, 49, 50, 51, 52, 53, 54, 55, 56, 57, 58, 59, 60, 61] (by decide +kernel) (by decide +kernel)
set_option maxRecDepth 20000 in
theorem gX7_readRow_X7_isWell : GoodIn wsX7_readRow (wsV RX7 139 RX7 yX7_isWell wsX7_isWell) := goodIn_app (goodIn_of _ (by decide +kernel)) ggX7_readRow_X7_isWell
set_option maxRecDepth 20000 in
theorem ggX7_readRow_X7_isDigit : GoodIn wsX7_readRow wsX7_isDigit := goodIn_r _ [12, 13, 14, 15, 6, 16, 2, 17, 8, 18, 19, 20, 47, 48, 49, 50, 51, 52, 53, 54, 55, 56, 57, 58, 59, 60, 61] (by decide +kernel) (by decide +kernel)
set_option maxRecDepth 20000 in
theorem gX7_readRow_X7_isDigit : GoodIn wsX7_readRow (wsV RX7 129 RX7 yX7_isDigit wsX7_isDigit) := goodIn_app (goodIn_of _ (by decide +kernel)) ggX7_readRow_X7_isDigit
set_option maxRecDepth 20000 in
theorem ggX7_readRow_X7_readRun : GoodIn wsX7_readRow wsX7_readRun := goodIn_r _ [41, 2, 42, 1, 3, 4, 5, 6, 7, 8, 9, 10, 11, 12, 13, 14, 15, 16, 17, 18, 19, 20, 21, 22, 23, 24, 25, 26, 27, 28, 29, 34, 35, 36, 37, 43, 44, 45, 46, 47, 48, 49, 50, 51, 52, 53, 54, 55, 56, 57, 58, 59, 60, 61] (by decide +kernel) (by decide +kernel)
set_option maxRecDepth 20000 in
theorem gX7_readRow_X7_readRun : GoodIn wsX7_readRow (wsV RX7 154 RX7 yX7_readRun wsX7_readRun) := goodIn_app (goodIn_of _ (by decide +kernel)) ggX7_readRow_X7_readRun
set_option maxRecDepth 20000 in
theorem ggX7_readRow_X7_here : GoodIn wsX7_readRow wsX7_here := goodIn_r _ [16, 2, 17, 8, 47, 48, 49, 50, 51, 52, 53, 54, 55, 56, 57, 58, 59, 60, 61] (by decide +kernel) (by decide +kernel)
set_option maxRecDepth 20000 in
theorem gX7_readRow_X7_here : GoodIn wsX7_readRow (wsV RX7 123 RX7 yX7_here wsX7_here) := goodIn_app (goodIn_of _ (by decide +kernel)) ggX7_readRow_X7_here
set_option maxRecDepth 20000 in
theorem ggX7_readRow_X7_fail : GoodIn wsX7_readRow wsX7_fail := goodIn_r _ [24, 25, 47, 48, 49, 50, 51, 52, 53, 54, 55, 56, 57, 58, 59, 60, 61] (by decide +kernel) (by decide +kernel)
set_option maxRecDepth 20000 in
theorem gX7_readRow_X7_fail : GoodIn wsX7_readRow (wsV RX7 133 RX7 yX7_fail wsX7_fail) := goodIn_app (goodIn_of _ (by decide +kernel)) ggX7_readRow_X7_fail
theorem dX7_readRow_0 : decode cX7_readRow 0 = .ok (.aload_n 0, 1) := by decide +kernel
theorem dX7_readRow_1 : decode cX7_readRow 1 = .ok (.iconst 0, 1) := by decide +kernel
theorem dX7_readRow_2 : decode cX7_readRow 2 = .ok (.bipush 11, 2) := by decide +kernel
theorem dX7_readRow_4 : decode cX7_readRow 4 = .ok (.invokevirtual 142, 3) := by decide +kernel
theorem dX7_readRow_7 : decode cX7_readRow 7 = .ok (.istore_n 1, 1) := by decide +kernel
theorem dX7_readRow_8 : decode cX7_readRow 8 = .ok (.aload_n 0, 1) := by decide +kernel
theorem dX7_readRow_9 : decode cX7_readRow 9 = .ok (.bipush 58, 2) := by decide +kernel
theorem dX7_readRow_11 : decode cX7_readRow 11 = .ok (.invokevirtual 151, 3) := by decide +kernel
theorem dX7_readRow_14 : decode cX7_readRow 14 = .ok (.aload_n 0, 1) := by decide +kernel
theorem dX7_readRow_15 : decode cX7_readRow 15 = .ok (.iconst 0, 1) := by decide +kernel
theorem dX7_readRow_16 : decode cX7_readRow 16 = .ok (.putfield 148, 3) := by decide +kernel
theorem dX7_readRow_19 : decode cX7_readRow 19 = .ok (.aload_n 0, 1) := by decide +kernel
theorem dX7_readRow_20 : decode cX7_readRow 20 = .ok (.invokevirtual 139, 3) := by decide +kernel
theorem dX7_readRow_23 : decode cX7_readRow 23 = .ok (.ifCond .eq 22, 3) := by decide +kernel
theorem dX7_readRow_26 : decode cX7_readRow 26 = .ok (.aload_n 0, 1) := by decide +kernel
theorem dX7_readRow_27 : decode cX7_readRow 27 = .ok (.invokevirtual 129, 3) := by decide +kernel
theorem dX7_readRow_30 : decode cX7_readRow 30 = .ok (.ifCond .eq 15, 3) := by decide +kernel
theorem dX7_readRow_33 : decode cX7_readRow 33 = .ok (.aload_n 0, 1) := by decide +kernel
theorem dX7_readRow_34 : decode cX7_readRow 34 = .ok (.iload_n 1, 1) := by decide +kernel
theorem dX7_readRow_35 : decode cX7_readRow 35 = .ok (.aload_n 0, 1) := by decide +kernel
theorem dX7_readRow_36 : decode cX7_readRow 36 = .ok (.getfield 148, 3) := by decide +kernel
theorem dX7_readRow_39 : decode cX7_readRow 39 = .ok (.invokevirtual 154, 3) := by decide +kernel
theorem dX7_readRow_42 : decode cX7_readRow 42 = .ok (.goto (-23), 3) := by decide +kernel
theorem dX7_readRow_45 : decode cX7_readRow 45 = .ok (.aload_n 0, 1) := by decide +kernel
theorem dX7_readRow_46 : decode cX7_readRow 46 = .ok (.invokevirtual 139, 3) := by decide +kernel
theorem dX7_readRow_49 : decode cX7_readRow 49 = .ok (.ifCond .eq 29, 3) := by decide +kernel
theorem dX7_readRow_52 : decode cX7_readRow 52 = .ok (.aload_n 0, 1) := by decide +kernel
theorem dX7_readRow_53 : decode cX7_readRow 53 = .ok (.invokevirtual 123, 3) := by decide +kernel
theorem dX7_readRow_56 : decode cX7_readRow 56 = .ok (.bipush 59, 2) := by decide +kernel
theorem dX7_readRow_58 : decode cX7_readRow 58 = .ok (.if_icmp .ne 20, 3) := by decide +kernel
theorem dX7_readRow_61 : decode cX7_readRow 61 = .ok (.aload_n 0, 1) := by decide +kernel
theorem dX7_readRow_62 : decode cX7_readRow 62 = .ok (.getfield 148, 3) := by decide +kernel
theorem dX7_readRow_65 : decode cX7_readRow 65 = .ok (.bipush 16, 2) := by decide +kernel
theorem dX7_readRow_67 : decode cX7_readRow 67 = .ok (.if_icmp .ge 11, 3) := by decide +kernel
theorem dX7_readRow_70 : decode cX7_readRow 70 = .ok (.aload_n 0, 1) := by decide +kernel
theorem dX7_readRow_71 : decode cX7_readRow 71 = .ok (.aload_n 0, 1) := by decide +kernel
theorem dX7_readRow_72 : decode cX7_readRow 72 = .ok (.getfield 120, 3) := by decide +kernel
theorem dX7_readRow_75 : decode cX7_readRow 75 = .ok (.invokevirtual 133, 3) := by decide +kernel
theorem dX7_readRow_78 : decode cX7_readRow 78 = .ok (.aload_n 0, 1) := by decide +kernel
theorem dX7_readRow_79 : decode cX7_readRow 79 = .ok (.bipush 59, 2) := by decide +kernel
theorem dX7_readRow_81 : decode cX7_readRow 81 = .ok (.invokevirtual 151, 3) := by decide +kernel
theorem dX7_readRow_84 : decode cX7_readRow 84 = .ok (.return_, 1) := by decide +kernel
set_option maxRecDepth 20000 in
theorem ggX7_load_X7_skip : GoodIn wsX7_load wsX7_skip := goodIn_r _ [11, 4, 12, 13, 14, 10, 15, 6, 16, 59, 60, 61, 62, 63, 64, 65, 66, 67, 68, 69, 70, 71, 72, 73] (by decide +kernel) (by decide +kernel)
set_option maxRecDepth 20000 in
theorem gX7_load_X7_skip : GoodIn wsX7_load (wsV RX7 136 RX7 yX7_skip wsX7_skip) := goodIn_app (goodIn_of _ (by decide +kernel)) ggX7_load_X7_skip
set_option maxRecDepth 20000 in
theorem ggX7_load_X7_isWell : GoodIn wsX7_load wsX7_isWell := goodIn_r _ [20, 5, 59, 60, 61, 62, 63, 64, 65, 66, 67, 68, 69, 70, 71, 72, 73] (by decide +kernel) (by decide +kernel)
set_option maxRecDepth 20000 in
theorem gX7_load_X7_isWell : GoodIn wsX7_load (wsV RX7 139 RX7 yX7_isWell wsX7_isWell) := goodIn_app (goodIn_of _ (by decide +kernel)) ggX7_load_X7_isWell
set_option maxRecDepth 20000 in
theorem ggX7_load_X7_readRow : GoodIn wsX7_load wsX7_readRow := goodIn_r _ [24, 25, 4, 26, 27, 28, 10, 29, 16, 30, 31, 32, 33, 12, 13, 14, 15, 6, 34, 35, 36, 37, 38, 39, 40, 5, 7, 8, 9, 11, 41, 42, 43, 44, 17, 18, 19, 20, 45, 46, 47, 48, 2, 49, 50, 51, 52, 59, 60, 61, 62, 63, 64, 65, 66, 67, 68, 69, 70, 71, 72, 73] (by decide +kernel) (by decide +kernel)
set_option maxRecDepth 20000 in
theorem gX7_load_X7_readRow : GoodIn wsX7_load (wsV RX7 157 RX7 yX7_readRow wsX7_readRow) := goodIn_app (goodIn_of _ (by decide +kernel)) ggX7_load_X7_readRow
set_option maxRecDepth 20000 in
theorem ggX7_load_X7_act : GoodIn wsX7_load wsX7_act := goodIn_r _ [56, 57, 58, 3, 59, 60, 61, 62, 63, 64, 65, 66, 67, 68, 69, 70, 71, 72, 73] (by decide +kernel) (by decide +kernel)
set_option maxRecDepth 20000 in
theorem gX7_load_X7_act : GoodIn wsX7_load (wsV RX7 88 RX7 yX7_act wsX7_act) := goodIn_app (goodIn_of _ (by decide +kernel)) ggX7_load_X7_act
theorem dX7_load_0 : decode cX7_load 0 = .ok (.aload_n 0, 1) := by decide +kernel
theorem dX7_load_1 : decode cX7_load 1 = .ok (.iconst 0, 1) := by decide +kernel
theorem dX7_load_2 : decode cX7_load 2 = .ok (.putfield 28, 3) := by decide +kernel
theorem dX7_load_5 : decode cX7_load 5 = .ok (.iconst 0, 1) := by decide +kernel
theorem dX7_load_6 : decode cX7_load 6 = .ok (.istore_n 1, 1) := by decide +kernel
theorem dX7_load_7 : decode cX7_load 7 = .ok (.iload_n 1, 1) := by decide +kernel
theorem dX7_load_8 : decode cX7_load 8 = .ok (.sipush 192, 3) := by decide +kernel
theorem dX7_load_11 : decode cX7_load 11 = .ok (.if_icmp .ge 23, 3) := by decide +kernel
theorem dX7_load_14 : decode cX7_load 14 = .ok (.aload_n 0, 1) := by decide +kernel
theorem dX7_load_15 : decode cX7_load 15 = .ok (.getfield 25, 3) := by decide +kernel
theorem dX7_load_18 : decode cX7_load 18 = .ok (.iload_n 1, 1) := by decide +kernel
theorem dX7_load_19 : decode cX7_load 19 = .ok (.aload_n 0, 1) := by decide +kernel
theorem dX7_load_20 : decode cX7_load 20 = .ok (.getfield 7, 3) := by decide +kernel
theorem dX7_load_23 : decode cX7_load 23 = .ok (.iconst 0, 1) := by decide +kernel
theorem dX7_load_24 : decode cX7_load 24 = .ok (.iload_n 1, 1) := by decide +kernel
theorem dX7_load_25 : decode cX7_load 25 = .ok (.iadd, 1) := by decide +kernel
theorem dX7_load_26 : decode cX7_load 26 = .ok (.iaload, 1) := by decide +kernel
theorem dX7_load_27 : decode cX7_load 27 = .ok (.iastore, 1) := by decide +kernel
theorem dX7_load_28 : decode cX7_load 28 = .ok (.iinc 1 1, 3) := by decide +kernel
theorem dX7_load_31 : decode cX7_load 31 = .ok (.goto (-24), 3) := by decide +kernel
theorem dX7_load_34 : decode cX7_load 34 = .ok (.aload_n 0, 1) := by decide +kernel
theorem dX7_load_35 : decode cX7_load 35 = .ok (.iconst 0, 1) := by decide +kernel
theorem dX7_load_36 : decode cX7_load 36 = .ok (.putfield 120, 3) := by decide +kernel
theorem dX7_load_39 : decode cX7_load 39 = .ok (.aload_n 0, 1) := by decide +kernel
theorem dX7_load_40 : decode cX7_load 40 = .ok (.iconst (-1), 1) := by decide +kernel
theorem dX7_load_41 : decode cX7_load 41 = .ok (.putfield 126, 3) := by decide +kernel
theorem dX7_load_44 : decode cX7_load 44 = .ok (.iconst 0, 1) := by decide +kernel
theorem dX7_load_45 : decode cX7_load 45 = .ok (.istore_n 1, 1) := by decide +kernel
theorem dX7_load_46 : decode cX7_load 46 = .ok (.aload_n 0, 1) := by decide +kernel
theorem dX7_load_47 : decode cX7_load 47 = .ok (.invokevirtual 136, 3) := by decide +kernel
theorem dX7_load_50 : decode cX7_load 50 = .ok (.aload_n 0, 1) := by decide +kernel
theorem dX7_load_51 : decode cX7_load 51 = .ok (.invokevirtual 139, 3) := by decide +kernel
theorem dX7_load_54 : decode cX7_load 54 = .ok (.ifCond .eq 24, 3) := by decide +kernel
theorem dX7_load_57 : decode cX7_load 57 = .ok (.aload_n 0, 1) := by decide +kernel
theorem dX7_load_58 : decode cX7_load 58 = .ok (.getfield 120, 3) := by decide +kernel
theorem dX7_load_61 : decode cX7_load 61 = .ok (.aload_n 0, 1) := by decide +kernel
theorem dX7_load_62 : decode cX7_load 62 = .ok (.getfield 117, 3) := by decide +kernel
theorem dX7_load_65 : decode cX7_load 65 = .ok (.if_icmp .ge 13, 3) := by decide +kernel
theorem dX7_load_68 : decode cX7_load 68 = .ok (.aload_n 0, 1) := by decide +kernel
theorem dX7_load_69 : decode cX7_load 69 = .ok (.invokevirtual 157, 3) := by decide +kernel
theorem dX7_load_72 : decode cX7_load 72 = .ok (.iinc 1 1, 3) := by decide +kernel
theorem dX7_load_75 : decode cX7_load 75 = .ok (.goto (-25), 3) := by decide +kernel
theorem dX7_load_78 : decode cX7_load 78 = .ok (.aload_n 0, 1) := by decide +kernel
theorem dX7_load_79 : decode cX7_load 79 = .ok (.invokevirtual 139, 3) := by decide +kernel
theorem dX7_load_82 : decode cX7_load 82 = .ok (.ifCond .ne 12, 3) := by decide +kernel
theorem dX7_load_85 : decode cX7_load 85 = .ok (.sipush (-2000), 3) := by decide +kernel
theorem dX7_load_88 : decode cX7_load 88 = .ok (.aload_n 0, 1) := by decide +kernel
theorem dX7_load_89 : decode cX7_load 89 = .ok (.getfield 126, 3) := by decide +kernel
theorem dX7_load_92 : decode cX7_load 92 = .ok (.isub, 1) := by decide +kernel
theorem dX7_load_93 : decode cX7_load 93 = .ok (.ireturn, 1) := by decide +kernel
theorem dX7_load_94 : decode cX7_load 94 = .ok (.aload_n 0, 1) := by decide +kernel
theorem dX7_load_95 : decode cX7_load 95 = .ok (.invokevirtual 88, 3) := by decide +kernel
theorem dX7_load_98 : decode cX7_load 98 = .ok (.iconst 0, 1) := by decide +kernel
theorem dX7_load_99 : decode cX7_load 99 = .ok (.istore_n 2, 1) := by decide +kernel
theorem dX7_load_100 : decode cX7_load 100 = .ok (.iload_n 2, 1) := by decide +kernel
theorem dX7_load_101 : decode cX7_load 101 = .ok (.sipush 192, 3) := by decide +kernel
theorem dX7_load_104 : decode cX7_load 104 = .ok (.if_icmp .ge 23, 3) := by decide +kernel
theorem dX7_load_107 : decode cX7_load 107 = .ok (.aload_n 0, 1) := by decide +kernel
theorem dX7_load_108 : decode cX7_load 108 = .ok (.getfield 7, 3) := by decide +kernel
theorem dX7_load_111 : decode cX7_load 111 = .ok (.iconst 0, 1) := by decide +kernel
theorem dX7_load_112 : decode cX7_load 112 = .ok (.iload_n 2, 1) := by decide +kernel
theorem dX7_load_113 : decode cX7_load 113 = .ok (.iadd, 1) := by decide +kernel
theorem dX7_load_114 : decode cX7_load 114 = .ok (.aload_n 0, 1) := by decide +kernel
theorem dX7_load_115 : decode cX7_load 115 = .ok (.getfield 25, 3) := by decide +kernel
theorem dX7_load_118 : decode cX7_load 118 = .ok (.iload_n 2, 1) := by decide +kernel
theorem dX7_load_119 : decode cX7_load 119 = .ok (.iaload, 1) := by decide +kernel
theorem dX7_load_120 : decode cX7_load 120 = .ok (.iastore, 1) := by decide +kernel
theorem dX7_load_121 : decode cX7_load 121 = .ok (.iinc 2 1, 3) := by decide +kernel
theorem dX7_load_124 : decode cX7_load 124 = .ok (.goto (-24), 3) := by decide +kernel
theorem dX7_load_127 : decode cX7_load 127 = .ok (.aload_n 0, 1) := by decide +kernel
theorem dX7_load_128 : decode cX7_load 128 = .ok (.iconst 0, 1) := by decide +kernel
theorem dX7_load_129 : decode cX7_load 129 = .ok (.putfield 117, 3) := by decide +kernel
theorem dX7_load_132 : decode cX7_load 132 = .ok (.iload_n 1, 1) := by decide +kernel
theorem dX7_load_133 : decode cX7_load 133 = .ok (.ireturn, 1) := by decide +kernel
set_option maxRecDepth 20000 in
theorem ggX7_count_X7_shiftX : GoodIn wsX7_count wsX7_shiftX := goodIn_r _ [9, 2, 26, 27, 28, 29, 30, 31, 32, 33, 34, 35, 36, 37, 38, 39, 40] (by decide +kernel) (by decide +kernel)
set_option maxRecDepth 20000 in
theorem gX7_count_X7_shiftX : GoodIn wsX7_count (wsV RX7 81 RX7 yX7_shiftX wsX7_shiftX) := goodIn_app (goodIn_of _ (by decide +kernel)) ggX7_count_X7_shiftX
set_option maxRecDepth 20000 in
theorem ggX7_count_X7_shiftY : GoodIn wsX7_count wsX7_shiftY := goodIn_r _ [13, 2, 26, 27, 28, 29, 30, 31, 32, 33, 34, 35, 36, 37, 38, 39, 40] (by decide +kernel) (by decide +kernel)
set_option maxRecDepth 20000 in
theorem gX7_count_X7_shiftY : GoodIn wsX7_count (wsV RX7 85 RX7 yX7_shiftY wsX7_shiftY) := goodIn_app (goodIn_of _ (by decide +kernel)) ggX7_count_X7_shiftY
set_option maxRecDepth 20000 in
theorem ggX7_count_X7_many : GoodIn wsX7_count wsX7_many := goodIn_r _ [17, 2, 26, 27, 28, 29, 30, 31, 32, 33, 34, 35, 36, 37, 38, 39, 40] (by decide +kernel) (by decide +kernel)
set_option maxRecDepth 20000 in
theorem gX7_count_X7_many : GoodIn wsX7_count (wsV RX7 39 RX7 yX7_many wsX7_many) := goodIn_app (goodIn_of _ (by decide +kernel)) ggX7_count_X7_many
set_option maxRecDepth 20000 in
theorem ggX7_count_X7_wornCells : GoodIn wsX7_count wsX7_wornCells := goodIn_r _ [21, 22, 23, 24, 8, 25, 2, 26, 27, 28, 29, 30, 31, 32, 33, 34, 35, 36, 37, 38, 39, 40] (by decide +kernel) (by decide +kernel)
set_option maxRecDepth 20000 in
theorem gX7_count_X7_wornCells : GoodIn wsX7_count (wsV RX7 98 RX7 yX7_wornCells wsX7_wornCells) := goodIn_app (goodIn_of _ (by decide +kernel)) ggX7_count_X7_wornCells
theorem dX7_count_0 : decode cX7_count 0 = .ok (.aload_n 0, 1) := by decide +kernel
theorem dX7_count_1 : decode cX7_count 1 = .ok (.iconst 0, 1) := by decide +kernel
theorem dX7_count_2 : decode cX7_count 2 = .ok (.putfield 28, 3) := by decide +kernel
theorem dX7_count_5 : decode cX7_count 5 = .ok (.iload_n 1, 1) := by decide +kernel
theorem dX7_count_6 : decode cX7_count 6 = .ok (.tableswitch 230 0 19 #[94, 103, 103, 103, 103, 103, 103, 103, 116, 129, 142, 142, 142, 152, 161, 170, 175, 202, 220, 225], 94) := by decide +kernel
theorem dX7_count_100 : decode cX7_count 100 = .ok (.aload_n 0, 1) := by decide +kernel
theorem dX7_count_101 : decode cX7_count 101 = .ok (.getfield 7, 3) := by decide +kernel
theorem dX7_count_104 : decode cX7_count 104 = .ok (.sipush 775, 3) := by decide +kernel
theorem dX7_count_107 : decode cX7_count 107 = .ok (.iaload, 1) := by decide +kernel
theorem dX7_count_108 : decode cX7_count 108 = .ok (.ireturn, 1) := by decide +kernel
theorem dX7_count_109 : decode cX7_count 109 = .ok (.aload_n 0, 1) := by decide +kernel
theorem dX7_count_110 : decode cX7_count 110 = .ok (.getfield 7, 3) := by decide +kernel
theorem dX7_count_113 : decode cX7_count 113 = .ok (.sipush 768, 3) := by decide +kernel
theorem dX7_count_116 : decode cX7_count 116 = .ok (.iload_n 1, 1) := by decide +kernel
theorem dX7_count_117 : decode cX7_count 117 = .ok (.iadd, 1) := by decide +kernel
theorem dX7_count_118 : decode cX7_count 118 = .ok (.iconst 1, 1) := by decide +kernel
theorem dX7_count_119 : decode cX7_count 119 = .ok (.isub, 1) := by decide +kernel
theorem dX7_count_120 : decode cX7_count 120 = .ok (.iaload, 1) := by decide +kernel
theorem dX7_count_121 : decode cX7_count 121 = .ok (.ireturn, 1) := by decide +kernel
theorem dX7_count_122 : decode cX7_count 122 = .ok (.aload_n 0, 1) := by decide +kernel
theorem dX7_count_123 : decode cX7_count 123 = .ok (.aload_n 0, 1) := by decide +kernel
theorem dX7_count_124 : decode cX7_count 124 = .ok (.getfield 7, 3) := by decide +kernel
theorem dX7_count_127 : decode cX7_count 127 = .ok (.sipush 773, 3) := by decide +kernel
theorem dX7_count_130 : decode cX7_count 130 = .ok (.iaload, 1) := by decide +kernel
theorem dX7_count_131 : decode cX7_count 131 = .ok (.invokevirtual 81, 3) := by decide +kernel
theorem dX7_count_134 : decode cX7_count 134 = .ok (.ireturn, 1) := by decide +kernel
theorem dX7_count_135 : decode cX7_count 135 = .ok (.aload_n 0, 1) := by decide +kernel
theorem dX7_count_136 : decode cX7_count 136 = .ok (.aload_n 0, 1) := by decide +kernel
theorem dX7_count_137 : decode cX7_count 137 = .ok (.getfield 7, 3) := by decide +kernel
theorem dX7_count_140 : decode cX7_count 140 = .ok (.sipush 774, 3) := by decide +kernel
theorem dX7_count_143 : decode cX7_count 143 = .ok (.iaload, 1) := by decide +kernel
theorem dX7_count_144 : decode cX7_count 144 = .ok (.invokevirtual 85, 3) := by decide +kernel
theorem dX7_count_147 : decode cX7_count 147 = .ok (.ireturn, 1) := by decide +kernel
theorem dX7_count_148 : decode cX7_count 148 = .ok (.aload_n 0, 1) := by decide +kernel
theorem dX7_count_149 : decode cX7_count 149 = .ok (.iconst 0, 1) := by decide +kernel
theorem dX7_count_150 : decode cX7_count 150 = .ok (.iload_n 1, 1) := by decide +kernel
theorem dX7_count_151 : decode cX7_count 151 = .ok (.bipush 10, 2) := by decide +kernel
theorem dX7_count_153 : decode cX7_count 153 = .ok (.isub, 1) := by decide +kernel
theorem dX7_count_154 : decode cX7_count 154 = .ok (.invokevirtual 39, 3) := by decide +kernel
theorem dX7_count_157 : decode cX7_count 157 = .ok (.ireturn, 1) := by decide +kernel
theorem dX7_count_158 : decode cX7_count 158 = .ok (.aload_n 0, 1) := by decide +kernel
theorem dX7_count_159 : decode cX7_count 159 = .ok (.sipush 192, 3) := by decide +kernel
theorem dX7_count_162 : decode cX7_count 162 = .ok (.iconst 1, 1) := by decide +kernel
theorem dX7_count_163 : decode cX7_count 163 = .ok (.invokevirtual 39, 3) := by decide +kernel
theorem dX7_count_166 : decode cX7_count 166 = .ok (.ireturn, 1) := by decide +kernel
theorem dX7_count_167 : decode cX7_count 167 = .ok (.aload_n 0, 1) := by decide +kernel
theorem dX7_count_168 : decode cX7_count 168 = .ok (.sipush 576, 3) := by decide +kernel
theorem dX7_count_171 : decode cX7_count 171 = .ok (.iconst 1, 1) := by decide +kernel
theorem dX7_count_172 : decode cX7_count 172 = .ok (.invokevirtual 39, 3) := by decide +kernel
theorem dX7_count_175 : decode cX7_count 175 = .ok (.ireturn, 1) := by decide +kernel
theorem dX7_count_176 : decode cX7_count 176 = .ok (.aload_n 0, 1) := by decide +kernel
theorem dX7_count_177 : decode cX7_count 177 = .ok (.invokevirtual 98, 3) := by decide +kernel
theorem dX7_count_180 : decode cX7_count 180 = .ok (.ireturn, 1) := by decide +kernel
theorem dX7_count_181 : decode cX7_count 181 = .ok (.aload_n 0, 1) := by decide +kernel
theorem dX7_count_182 : decode cX7_count 182 = .ok (.getfield 7, 3) := by decide +kernel
theorem dX7_count_185 : decode cX7_count 185 = .ok (.sipush 775, 3) := by decide +kernel
theorem dX7_count_188 : decode cX7_count 188 = .ok (.iaload, 1) := by decide +kernel
theorem dX7_count_189 : decode cX7_count 189 = .ok (.bipush 12, 2) := by decide +kernel
theorem dX7_count_191 : decode cX7_count 191 = .ok (.if_icmp .ge 14, 3) := by decide +kernel
theorem dX7_count_194 : decode cX7_count 194 = .ok (.aload_n 0, 1) := by decide +kernel
theorem dX7_count_195 : decode cX7_count 195 = .ok (.getfield 7, 3) := by decide +kernel
theorem dX7_count_198 : decode cX7_count 198 = .ok (.sipush 775, 3) := by decide +kernel
theorem dX7_count_201 : decode cX7_count 201 = .ok (.iaload, 1) := by decide +kernel
theorem dX7_count_202 : decode cX7_count 202 = .ok (.goto 5, 3) := by decide +kernel
theorem dX7_count_205 : decode cX7_count 205 = .ok (.bipush 12, 2) := by decide +kernel
theorem dX7_count_207 : decode cX7_count 207 = .ok (.ireturn, 1) := by decide +kernel
theorem dX7_count_208 : decode cX7_count 208 = .ok (.aload_n 0, 1) := by decide +kernel
theorem dX7_count_209 : decode cX7_count 209 = .ok (.getfield 7, 3) := by decide +kernel
theorem dX7_count_212 : decode cX7_count 212 = .ok (.sipush 836, 3) := by decide +kernel
theorem dX7_count_215 : decode cX7_count 215 = .ok (.iaload, 1) := by decide +kernel
theorem dX7_count_216 : decode cX7_count 216 = .ok (.aload_n 0, 1) := by decide +kernel
theorem dX7_count_217 : decode cX7_count 217 = .ok (.getfield 7, 3) := by decide +kernel
theorem dX7_count_220 : decode cX7_count 220 = .ok (.sipush 1605, 3) := by decide +kernel
theorem dX7_count_223 : decode cX7_count 223 = .ok (.iaload, 1) := by decide +kernel
theorem dX7_count_224 : decode cX7_count 224 = .ok (.iadd, 1) := by decide +kernel
theorem dX7_count_225 : decode cX7_count 225 = .ok (.ireturn, 1) := by decide +kernel
theorem dX7_count_226 : decode cX7_count 226 = .ok (.aload_n 0, 1) := by decide +kernel
theorem dX7_count_227 : decode cX7_count 227 = .ok (.getfield 36, 3) := by decide +kernel
theorem dX7_count_230 : decode cX7_count 230 = .ok (.ireturn, 1) := by decide +kernel
theorem dX7_count_231 : decode cX7_count 231 = .ok (.aload_n 0, 1) := by decide +kernel
theorem dX7_count_232 : decode cX7_count 232 = .ok (.getfield 117, 3) := by decide +kernel
theorem dX7_count_235 : decode cX7_count 235 = .ok (.ireturn, 1) := by decide +kernel
theorem dX7_count_236 : decode cX7_count 236 = .ok (.sipush (-1001), 3) := by decide +kernel
theorem dX7_count_239 : decode cX7_count 239 = .ok (.ireturn, 1) := by decide +kernel
set_option maxRecDepth 20000 in
theorem ggX7_cell_X7_isCell : GoodIn wsX7_cell wsX7_isCell := goodIn_r _ [6, 7, 8, 5, 9] (by decide +kernel) (by decide +kernel)
set_option maxRecDepth 20000 in
theorem gX7_cell_X7_isCell : GoodIn wsX7_cell (va_wsS RX7 47 yX7_isCell wsX7_isCell) := goodIn_app (goodIn_of _ (by decide +kernel)) ggX7_cell_X7_isCell
set_option maxRecDepth 20000 in
theorem ggX7_cell_X7_isWorn : GoodIn wsX7_cell wsX7_isWorn := goodIn_r _ [13, 2, 14, 15, 16, 17, 18, 19, 20, 21, 22, 23, 24, 25, 26, 27, 28] (by decide +kernel) (by decide +kernel)
set_option maxRecDepth 20000 in
theorem gX7_cell_X7_isWorn : GoodIn wsX7_cell (wsV RX7 43 RX7 yX7_isWorn wsX7_isWorn) := goodIn_app (goodIn_of _ (by decide +kernel)) ggX7_cell_X7_isWorn
theorem dX7_cell_0 : decode cX7_cell 0 = .ok (.aload_n 0, 1) := by decide +kernel
theorem dX7_cell_1 : decode cX7_cell 1 = .ok (.iconst 0, 1) := by decide +kernel
theorem dX7_cell_2 : decode cX7_cell 2 = .ok (.putfield 28, 3) := by decide +kernel
theorem dX7_cell_5 : decode cX7_cell 5 = .ok (.iload_n 1, 1) := by decide +kernel
theorem dX7_cell_6 : decode cX7_cell 6 = .ok (.iload_n 2, 1) := by decide +kernel
theorem dX7_cell_7 : decode cX7_cell 7 = .ok (.invokestatic 47, 3) := by decide +kernel
theorem dX7_cell_10 : decode cX7_cell 10 = .ok (.ifCond .ne 7, 3) := by decide +kernel
theorem dX7_cell_13 : decode cX7_cell 13 = .ok (.sipush (-1001), 3) := by decide +kernel
theorem dX7_cell_16 : decode cX7_cell 16 = .ok (.ireturn, 1) := by decide +kernel
theorem dX7_cell_17 : decode cX7_cell 17 = .ok (.bipush 16, 2) := by decide +kernel
theorem dX7_cell_19 : decode cX7_cell 19 = .ok (.iload_n 2, 1) := by decide +kernel
theorem dX7_cell_20 : decode cX7_cell 20 = .ok (.imul, 1) := by decide +kernel
theorem dX7_cell_21 : decode cX7_cell 21 = .ok (.iload_n 1, 1) := by decide +kernel
theorem dX7_cell_22 : decode cX7_cell 22 = .ok (.iadd, 1) := by decide +kernel
theorem dX7_cell_23 : decode cX7_cell 23 = .ok (.istore 4, 2) := by decide +kernel
theorem dX7_cell_25 : decode cX7_cell 25 = .ok (.iload_n 3, 1) := by decide +kernel
theorem dX7_cell_26 : decode cX7_cell 26 = .ok (.tableswitch 114 0 4 #[34, 44, 56, 68, 99], 34) := by decide +kernel
theorem dX7_cell_60 : decode cX7_cell 60 = .ok (.aload_n 0, 1) := by decide +kernel
theorem dX7_cell_61 : decode cX7_cell 61 = .ok (.getfield 7, 3) := by decide +kernel
theorem dX7_cell_64 : decode cX7_cell 64 = .ok (.iconst 0, 1) := by decide +kernel
theorem dX7_cell_65 : decode cX7_cell 65 = .ok (.iload 4, 2) := by decide +kernel
theorem dX7_cell_67 : decode cX7_cell 67 = .ok (.iadd, 1) := by decide +kernel
theorem dX7_cell_68 : decode cX7_cell 68 = .ok (.iaload, 1) := by decide +kernel
theorem dX7_cell_69 : decode cX7_cell 69 = .ok (.ireturn, 1) := by decide +kernel
theorem dX7_cell_70 : decode cX7_cell 70 = .ok (.aload_n 0, 1) := by decide +kernel
theorem dX7_cell_71 : decode cX7_cell 71 = .ok (.getfield 7, 3) := by decide +kernel
theorem dX7_cell_74 : decode cX7_cell 74 = .ok (.sipush 192, 3) := by decide +kernel
theorem dX7_cell_77 : decode cX7_cell 77 = .ok (.iload 4, 2) := by decide +kernel
theorem dX7_cell_79 : decode cX7_cell 79 = .ok (.iadd, 1) := by decide +kernel
theorem dX7_cell_80 : decode cX7_cell 80 = .ok (.iaload, 1) := by decide +kernel
theorem dX7_cell_81 : decode cX7_cell 81 = .ok (.ireturn, 1) := by decide +kernel
theorem dX7_cell_82 : decode cX7_cell 82 = .ok (.aload_n 0, 1) := by decide +kernel
theorem dX7_cell_83 : decode cX7_cell 83 = .ok (.getfield 7, 3) := by decide +kernel
theorem dX7_cell_86 : decode cX7_cell 86 = .ok (.sipush 576, 3) := by decide +kernel
theorem dX7_cell_89 : decode cX7_cell 89 = .ok (.iload 4, 2) := by decide +kernel
theorem dX7_cell_91 : decode cX7_cell 91 = .ok (.iadd, 1) := by decide +kernel
theorem dX7_cell_92 : decode cX7_cell 92 = .ok (.iaload, 1) := by decide +kernel
theorem dX7_cell_93 : decode cX7_cell 93 = .ok (.ireturn, 1) := by decide +kernel
theorem dX7_cell_94 : decode cX7_cell 94 = .ok (.aload_n 0, 1) := by decide +kernel
theorem dX7_cell_95 : decode cX7_cell 95 = .ok (.getfield 7, 3) := by decide +kernel
theorem dX7_cell_98 : decode cX7_cell 98 = .ok (.sipush 192, 3) := by decide +kernel
theorem dX7_cell_101 : decode cX7_cell 101 = .ok (.iload 4, 2) := by decide +kernel
theorem dX7_cell_103 : decode cX7_cell 103 = .ok (.iadd, 1) := by decide +kernel
theorem dX7_cell_104 : decode cX7_cell 104 = .ok (.iaload, 1) := by decide +kernel
theorem dX7_cell_105 : decode cX7_cell 105 = .ok (.iconst 1, 1) := by decide +kernel
theorem dX7_cell_106 : decode cX7_cell 106 = .ok (.if_icmp .ne 17, 3) := by decide +kernel
theorem dX7_cell_109 : decode cX7_cell 109 = .ok (.aload_n 0, 1) := by decide +kernel
theorem dX7_cell_110 : decode cX7_cell 110 = .ok (.getfield 7, 3) := by decide +kernel
theorem dX7_cell_113 : decode cX7_cell 113 = .ok (.sipush 384, 3) := by decide +kernel
theorem dX7_cell_116 : decode cX7_cell 116 = .ok (.iload 4, 2) := by decide +kernel
theorem dX7_cell_118 : decode cX7_cell 118 = .ok (.iadd, 1) := by decide +kernel
theorem dX7_cell_119 : decode cX7_cell 119 = .ok (.iaload, 1) := by decide +kernel
theorem dX7_cell_120 : decode cX7_cell 120 = .ok (.goto 4, 3) := by decide +kernel
theorem dX7_cell_123 : decode cX7_cell 123 = .ok (.iconst 0, 1) := by decide +kernel
theorem dX7_cell_124 : decode cX7_cell 124 = .ok (.ireturn, 1) := by decide +kernel
theorem dX7_cell_125 : decode cX7_cell 125 = .ok (.aload_n 0, 1) := by decide +kernel
theorem dX7_cell_126 : decode cX7_cell 126 = .ok (.iload 4, 2) := by decide +kernel
theorem dX7_cell_128 : decode cX7_cell 128 = .ok (.invokevirtual 43, 3) := by decide +kernel
theorem dX7_cell_131 : decode cX7_cell 131 = .ok (.ifCond .eq 7, 3) := by decide +kernel
theorem dX7_cell_134 : decode cX7_cell 134 = .ok (.iconst 1, 1) := by decide +kernel
theorem dX7_cell_135 : decode cX7_cell 135 = .ok (.goto 4, 3) := by decide +kernel
theorem dX7_cell_138 : decode cX7_cell 138 = .ok (.iconst 0, 1) := by decide +kernel
theorem dX7_cell_139 : decode cX7_cell 139 = .ok (.ireturn, 1) := by decide +kernel
theorem dX7_cell_140 : decode cX7_cell 140 = .ok (.sipush (-1001), 3) := by decide +kernel
theorem dX7_cell_143 : decode cX7_cell 143 = .ok (.ireturn, 1) := by decide +kernel
set_option maxRecDepth 20000 in
theorem ggX7_printed_X7_isCell : GoodIn wsX7_printed wsX7_isCell := goodIn_r _ [5, 6, 7, 4, 8] (by decide +kernel) (by decide +kernel)
set_option maxRecDepth 20000 in
theorem gX7_printed_X7_isCell : GoodIn wsX7_printed (va_wsS RX7 47 yX7_isCell wsX7_isCell) := goodIn_app (goodIn_of _ (by decide +kernel)) ggX7_printed_X7_isCell
set_option maxRecDepth 20000 in
theorem ggX7_printed_X7_isShift : GoodIn wsX7_printed wsX7_isShift := goodIn_r _ [11, 6, 7, 4, 8] (by decide +kernel) (by decide +kernel)
set_option maxRecDepth 20000 in
theorem gX7_printed_X7_isShift : GoodIn wsX7_printed (va_wsS RX7 160 yX7_isShift wsX7_isShift) := goodIn_app (goodIn_of _ (by decide +kernel)) ggX7_printed_X7_isShift
set_option maxRecDepth 20000 in
theorem ggX7_printed_X7_lay : GoodIn wsX7_printed wsX7_lay := goodIn_r _ [15, 16, 17, 18, 19, 20, 4, 21, 30, 31, 32, 33, 34, 35, 36, 37, 38, 39, 40, 41, 42, 43, 44] (by decide +kernel) (by decide +kernel)
set_option maxRecDepth 20000 in
theorem gX7_printed_X7_lay : GoodIn wsX7_printed (wsV RX7 78 RX7 yX7_lay wsX7_lay) := goodIn_app (goodIn_of _ (by decide +kernel)) ggX7_printed_X7_lay
set_option maxRecDepth 20000 in
theorem ggX7_printed_X7_look : GoodIn wsX7_printed wsX7_look := goodIn_r _ [25, 16, 26, 27, 28, 4, 29, 2, 3, 5, 6, 7, 8, 30, 31, 32, 33, 34, 35, 36, 37, 38, 39, 40, 41, 42, 43, 44] (by decide +kernel) (by decide +kernel)
set_option maxRecDepth 20000 in
theorem gX7_printed_X7_look : GoodIn wsX7_printed (wsV RX7 70 RX7 yX7_look wsX7_look) := goodIn_app (goodIn_of _ (by decide +kernel)) ggX7_printed_X7_look
theorem dX7_printed_0 : decode cX7_printed 0 = .ok (.aload_n 0, 1) := by decide +kernel
theorem dX7_printed_1 : decode cX7_printed 1 = .ok (.iconst 0, 1) := by decide +kernel
theorem dX7_printed_2 : decode cX7_printed 2 = .ok (.putfield 28, 3) := by decide +kernel
theorem dX7_printed_5 : decode cX7_printed 5 = .ok (.iload_n 1, 1) := by decide +kernel
theorem dX7_printed_6 : decode cX7_printed 6 = .ok (.iload_n 2, 1) := by decide +kernel
theorem dX7_printed_7 : decode cX7_printed 7 = .ok (.invokestatic 47, 3) := by decide +kernel
theorem dX7_printed_10 : decode cX7_printed 10 = .ok (.ifCond .eq 12, 3) := by decide +kernel
theorem dX7_printed_13 : decode cX7_printed 13 = .ok (.iload_n 3, 1) := by decide +kernel
theorem dX7_printed_14 : decode cX7_printed 14 = .ok (.iload 4, 2) := by decide +kernel
theorem dX7_printed_16 : decode cX7_printed 16 = .ok (.invokestatic 160, 3) := by decide +kernel
theorem dX7_printed_19 : decode cX7_printed 19 = .ok (.ifCond .ne 7, 3) := by decide +kernel
theorem dX7_printed_22 : decode cX7_printed 22 = .ok (.sipush (-1001), 3) := by decide +kernel
theorem dX7_printed_25 : decode cX7_printed 25 = .ok (.ireturn, 1) := by decide +kernel
theorem dX7_printed_26 : decode cX7_printed 26 = .ok (.aload_n 0, 1) := by decide +kernel
theorem dX7_printed_27 : decode cX7_printed 27 = .ok (.invokevirtual 78, 3) := by decide +kernel
theorem dX7_printed_30 : decode cX7_printed 30 = .ok (.aload_n 0, 1) := by decide +kernel
theorem dX7_printed_31 : decode cX7_printed 31 = .ok (.iload_n 1, 1) := by decide +kernel
theorem dX7_printed_32 : decode cX7_printed 32 = .ok (.iload_n 2, 1) := by decide +kernel
theorem dX7_printed_33 : decode cX7_printed 33 = .ok (.iload_n 3, 1) := by decide +kernel
theorem dX7_printed_34 : decode cX7_printed 34 = .ok (.iload 4, 2) := by decide +kernel
theorem dX7_printed_36 : decode cX7_printed 36 = .ok (.invokevirtual 70, 3) := by decide +kernel
theorem dX7_printed_39 : decode cX7_printed 39 = .ok (.ireturn, 1) := by decide +kernel
set_option maxRecDepth 20000 in
theorem ggX7_proof_X7_in : GoodIn wsX7_proof wsX7_in := goodIn_r _ [6] (by decide +kernel) (by decide +kernel)
set_option maxRecDepth 20000 in
theorem gX7_proof_X7_in : GoodIn wsX7_proof (va_wsS RX7 32 yX7_in wsX7_in) := goodIn_app (goodIn_of _ (by decide +kernel)) ggX7_proof_X7_in
theorem dX7_proof_0 : decode cX7_proof 0 = .ok (.aload_n 0, 1) := by decide +kernel
theorem dX7_proof_1 : decode cX7_proof 1 = .ok (.iconst 0, 1) := by decide +kernel
theorem dX7_proof_2 : decode cX7_proof 2 = .ok (.putfield 28, 3) := by decide +kernel
theorem dX7_proof_5 : decode cX7_proof 5 = .ok (.iload_n 1, 1) := by decide +kernel
theorem dX7_proof_6 : decode cX7_proof 6 = .ok (.ifCond .lt 12, 3) := by decide +kernel
theorem dX7_proof_9 : decode cX7_proof 9 = .ok (.iload_n 2, 1) := by decide +kernel
theorem dX7_proof_10 : decode cX7_proof 10 = .ok (.iconst 0, 1) := by decide +kernel
theorem dX7_proof_11 : decode cX7_proof 11 = .ok (.iconst 5, 1) := by decide +kernel
theorem dX7_proof_12 : decode cX7_proof 12 = .ok (.invokestatic 32, 3) := by decide +kernel
theorem dX7_proof_15 : decode cX7_proof 15 = .ok (.ifCond .ne 7, 3) := by decide +kernel
theorem dX7_proof_18 : decode cX7_proof 18 = .ok (.sipush (-1001), 3) := by decide +kernel
theorem dX7_proof_21 : decode cX7_proof 21 = .ok (.ireturn, 1) := by decide +kernel
theorem dX7_proof_22 : decode cX7_proof 22 = .ok (.iload_n 1, 1) := by decide +kernel
theorem dX7_proof_23 : decode cX7_proof 23 = .ok (.bipush 12, 2) := by decide +kernel
theorem dX7_proof_25 : decode cX7_proof 25 = .ok (.if_icmp .ge 15, 3) := by decide +kernel
theorem dX7_proof_28 : decode cX7_proof 28 = .ok (.iload_n 1, 1) := by decide +kernel
theorem dX7_proof_29 : decode cX7_proof 29 = .ok (.aload_n 0, 1) := by decide +kernel
theorem dX7_proof_30 : decode cX7_proof 30 = .ok (.getfield 7, 3) := by decide +kernel
theorem dX7_proof_33 : decode cX7_proof 33 = .ok (.sipush 775, 3) := by decide +kernel
theorem dX7_proof_36 : decode cX7_proof 36 = .ok (.iaload, 1) := by decide +kernel
theorem dX7_proof_37 : decode cX7_proof 37 = .ok (.if_icmp .lt 7, 3) := by decide +kernel
theorem dX7_proof_40 : decode cX7_proof 40 = .ok (.sipush (-1009), 3) := by decide +kernel
theorem dX7_proof_43 : decode cX7_proof 43 = .ok (.ireturn, 1) := by decide +kernel
theorem dX7_proof_44 : decode cX7_proof 44 = .ok (.aload_n 0, 1) := by decide +kernel
theorem dX7_proof_45 : decode cX7_proof 45 = .ok (.getfield 7, 3) := by decide +kernel
theorem dX7_proof_48 : decode cX7_proof 48 = .ok (.sipush 775, 3) := by decide +kernel
theorem dX7_proof_51 : decode cX7_proof 51 = .ok (.iaload, 1) := by decide +kernel
theorem dX7_proof_52 : decode cX7_proof 52 = .ok (.iload_n 1, 1) := by decide +kernel
theorem dX7_proof_53 : decode cX7_proof 53 = .ok (.isub, 1) := by decide +kernel
theorem dX7_proof_54 : decode cX7_proof 54 = .ok (.istore_n 3, 1) := by decide +kernel
theorem dX7_proof_55 : decode cX7_proof 55 = .ok (.iload_n 2, 1) := by decide +kernel
theorem dX7_proof_56 : decode cX7_proof 56 = .ok (.ifCond .ne 5, 3) := by decide +kernel
theorem dX7_proof_59 : decode cX7_proof 59 = .ok (.iload_n 3, 1) := by decide +kernel
theorem dX7_proof_60 : decode cX7_proof 60 = .ok (.ireturn, 1) := by decide +kernel
theorem dX7_proof_61 : decode cX7_proof 61 = .ok (.aload_n 0, 1) := by decide +kernel
theorem dX7_proof_62 : decode cX7_proof 62 = .ok (.getfield 7, 3) := by decide +kernel
theorem dX7_proof_65 : decode cX7_proof 65 = .ok (.sipush 776, 3) := by decide +kernel
theorem dX7_proof_68 : decode cX7_proof 68 = .ok (.iconst 5, 1) := by decide +kernel
theorem dX7_proof_69 : decode cX7_proof 69 = .ok (.iload_n 3, 1) := by decide +kernel
theorem dX7_proof_70 : decode cX7_proof 70 = .ok (.iconst 1, 1) := by decide +kernel
theorem dX7_proof_71 : decode cX7_proof 71 = .ok (.isub, 1) := by decide +kernel
theorem dX7_proof_72 : decode cX7_proof 72 = .ok (.bipush 12, 2) := by decide +kernel
theorem dX7_proof_74 : decode cX7_proof 74 = .ok (.irem, 1) := by decide +kernel
theorem dX7_proof_75 : decode cX7_proof 75 = .ok (.imul, 1) := by decide +kernel
theorem dX7_proof_76 : decode cX7_proof 76 = .ok (.iadd, 1) := by decide +kernel
theorem dX7_proof_77 : decode cX7_proof 77 = .ok (.iload_n 2, 1) := by decide +kernel
theorem dX7_proof_78 : decode cX7_proof 78 = .ok (.iadd, 1) := by decide +kernel
theorem dX7_proof_79 : decode cX7_proof 79 = .ok (.iconst 1, 1) := by decide +kernel
theorem dX7_proof_80 : decode cX7_proof 80 = .ok (.isub, 1) := by decide +kernel
theorem dX7_proof_81 : decode cX7_proof 81 = .ok (.iaload, 1) := by decide +kernel
theorem dX7_proof_82 : decode cX7_proof 82 = .ok (.istore 4, 2) := by decide +kernel
theorem dX7_proof_84 : decode cX7_proof 84 = .ok (.iload_n 2, 1) := by decide +kernel
theorem dX7_proof_85 : decode cX7_proof 85 = .ok (.iconst 3, 1) := by decide +kernel
theorem dX7_proof_86 : decode cX7_proof 86 = .ok (.if_icmp .ge 11, 3) := by decide +kernel
theorem dX7_proof_89 : decode cX7_proof 89 = .ok (.iload 4, 2) := by decide +kernel
theorem dX7_proof_91 : decode cX7_proof 91 = .ok (.bipush 8, 2) := by decide +kernel
theorem dX7_proof_93 : decode cX7_proof 93 = .ok (.iadd, 1) := by decide +kernel
theorem dX7_proof_94 : decode cX7_proof 94 = .ok (.goto 5, 3) := by decide +kernel
theorem dX7_proof_97 : decode cX7_proof 97 = .ok (.iload 4, 2) := by decide +kernel
theorem dX7_proof_99 : decode cX7_proof 99 = .ok (.ireturn, 1) := by decide +kernel
set_option maxRecDepth 20000 in
theorem ggX7_faults_X7_isShift : GoodIn wsX7_faults wsX7_isShift := goodIn_r _ [8, 9, 10, 7, 11] (by decide +kernel) (by decide +kernel)
set_option maxRecDepth 20000 in
theorem gX7_faults_X7_isShift : GoodIn wsX7_faults (va_wsS RX7 160 yX7_isShift wsX7_isShift) := goodIn_app (goodIn_of _ (by decide +kernel)) ggX7_faults_X7_isShift
set_option maxRecDepth 20000 in
theorem ggX7_faults_X7_in : GoodIn wsX7_faults wsX7_in := goodIn_r _ [11] (by decide +kernel) (by decide +kernel)
set_option maxRecDepth 20000 in
theorem gX7_faults_X7_in : GoodIn wsX7_faults (va_wsS RX7 32 yX7_in wsX7_in) := goodIn_app (goodIn_of _ (by decide +kernel)) ggX7_faults_X7_in
set_option maxRecDepth 20000 in
theorem ggX7_faults_X7_lay : GoodIn wsX7_faults wsX7_lay := goodIn_r _ [15, 16, 17, 18, 19, 20, 7, 21, 37, 38, 39, 40, 41, 42, 43, 44, 45, 46, 47, 48, 49, 50, 51] (by decide +kernel) (by decide +kernel)
set_option maxRecDepth 20000 in
theorem gX7_faults_X7_lay : GoodIn wsX7_faults (wsV RX7 78 RX7 yX7_lay wsX7_lay) := goodIn_app (goodIn_of _ (by decide +kernel)) ggX7_faults_X7_lay
set_option maxRecDepth 20000 in
theorem ggX7_faults_X7_check : GoodIn wsX7_faults wsX7_check := goodIn_r _ [25, 2, 3, 4, 17, 26, 27, 28, 7, 29, 16, 30, 31, 32, 33, 34, 35, 36, 9, 10, 11, 37, 38, 39, 40, 41, 42, 43, 44, 45, 46, 47, 48, 49, 50, 51] (by decide +kernel) (by decide +kernel)
set_option maxRecDepth 20000 in
theorem gX7_faults_X7_check : GoodIn wsX7_faults (wsV RX7 74 RX7 yX7_check wsX7_check) := goodIn_app (goodIn_of _ (by decide +kernel)) ggX7_faults_X7_check
theorem dX7_faults_0 : decode cX7_faults 0 = .ok (.aload_n 0, 1) := by decide +kernel
theorem dX7_faults_1 : decode cX7_faults 1 = .ok (.iconst 0, 1) := by decide +kernel
theorem dX7_faults_2 : decode cX7_faults 2 = .ok (.putfield 28, 3) := by decide +kernel
theorem dX7_faults_5 : decode cX7_faults 5 = .ok (.iload_n 1, 1) := by decide +kernel
theorem dX7_faults_6 : decode cX7_faults 6 = .ok (.iload_n 2, 1) := by decide +kernel
theorem dX7_faults_7 : decode cX7_faults 7 = .ok (.invokestatic 160, 3) := by decide +kernel
theorem dX7_faults_10 : decode cX7_faults 10 = .ok (.ifCond .eq 12, 3) := by decide +kernel
theorem dX7_faults_13 : decode cX7_faults 13 = .ok (.iload_n 3, 1) := by decide +kernel
theorem dX7_faults_14 : decode cX7_faults 14 = .ok (.iconst 0, 1) := by decide +kernel
theorem dX7_faults_15 : decode cX7_faults 15 = .ok (.iconst 2, 1) := by decide +kernel
theorem dX7_faults_16 : decode cX7_faults 16 = .ok (.invokestatic 32, 3) := by decide +kernel
theorem dX7_faults_19 : decode cX7_faults 19 = .ok (.ifCond .ne 7, 3) := by decide +kernel
theorem dX7_faults_22 : decode cX7_faults 22 = .ok (.sipush (-1001), 3) := by decide +kernel
theorem dX7_faults_25 : decode cX7_faults 25 = .ok (.ireturn, 1) := by decide +kernel
theorem dX7_faults_26 : decode cX7_faults 26 = .ok (.aload_n 0, 1) := by decide +kernel
theorem dX7_faults_27 : decode cX7_faults 27 = .ok (.invokevirtual 78, 3) := by decide +kernel
theorem dX7_faults_30 : decode cX7_faults 30 = .ok (.aload_n 0, 1) := by decide +kernel
theorem dX7_faults_31 : decode cX7_faults 31 = .ok (.iload_n 1, 1) := by decide +kernel
theorem dX7_faults_32 : decode cX7_faults 32 = .ok (.iload_n 2, 1) := by decide +kernel
theorem dX7_faults_33 : decode cX7_faults 33 = .ok (.invokevirtual 74, 3) := by decide +kernel
theorem dX7_faults_36 : decode cX7_faults 36 = .ok (.iload_n 3, 1) := by decide +kernel
theorem dX7_faults_37 : decode cX7_faults 37 = .ok (.ifCond .ne 10, 3) := by decide +kernel
theorem dX7_faults_40 : decode cX7_faults 40 = .ok (.aload_n 0, 1) := by decide +kernel
theorem dX7_faults_41 : decode cX7_faults 41 = .ok (.getfield 61, 3) := by decide +kernel
theorem dX7_faults_44 : decode cX7_faults 44 = .ok (.goto 19, 3) := by decide +kernel
theorem dX7_faults_47 : decode cX7_faults 47 = .ok (.iload_n 3, 1) := by decide +kernel
theorem dX7_faults_48 : decode cX7_faults 48 = .ok (.iconst 1, 1) := by decide +kernel
theorem dX7_faults_49 : decode cX7_faults 49 = .ok (.if_icmp .ne 10, 3) := by decide +kernel
theorem dX7_faults_52 : decode cX7_faults 52 = .ok (.aload_n 0, 1) := by decide +kernel
theorem dX7_faults_53 : decode cX7_faults 53 = .ok (.getfield 64, 3) := by decide +kernel
theorem dX7_faults_56 : decode cX7_faults 56 = .ok (.goto 7, 3) := by decide +kernel
theorem dX7_faults_59 : decode cX7_faults 59 = .ok (.aload_n 0, 1) := by decide +kernel
theorem dX7_faults_60 : decode cX7_faults 60 = .ok (.getfield 67, 3) := by decide +kernel
theorem dX7_faults_63 : decode cX7_faults 63 = .ok (.ireturn, 1) := by decide +kernel
set_option maxRecDepth 20000 in
theorem ggX7_why_X7_isCell : GoodIn wsX7_why wsX7_isCell := goodIn_r _ [6, 7, 8, 5, 9] (by decide +kernel) (by decide +kernel)
set_option maxRecDepth 20000 in
theorem gX7_why_X7_isCell : GoodIn wsX7_why (va_wsS RX7 47 yX7_isCell wsX7_isCell) := goodIn_app (goodIn_of _ (by decide +kernel)) ggX7_why_X7_isCell
set_option maxRecDepth 20000 in
theorem ggX7_why_X7_lay : GoodIn wsX7_why wsX7_lay := goodIn_r _ [13, 14, 2, 15, 16, 17, 5, 18, 35, 36, 37, 38, 39, 40, 41, 42, 43, 44, 45, 46, 47, 48, 49] (by decide +kernel) (by decide +kernel)
set_option maxRecDepth 20000 in
theorem gX7_why_X7_lay : GoodIn wsX7_why (wsV RX7 78 RX7 yX7_lay wsX7_lay) := goodIn_app (goodIn_of _ (by decide +kernel)) ggX7_why_X7_lay
set_option maxRecDepth 20000 in
theorem ggX7_why_X7_shiftX : GoodIn wsX7_why wsX7_shiftX := goodIn_r _ [22, 2, 35, 36, 37, 38, 39, 40, 41, 42, 43, 44, 45, 46, 47, 48, 49] (by decide +kernel) (by decide +kernel)
set_option maxRecDepth 20000 in
theorem gX7_why_X7_shiftX : GoodIn wsX7_why (wsV RX7 81 RX7 yX7_shiftX wsX7_shiftX) := goodIn_app (goodIn_of _ (by decide +kernel)) ggX7_why_X7_shiftX
set_option maxRecDepth 20000 in
theorem ggX7_why_X7_shiftY : GoodIn wsX7_why wsX7_shiftY := goodIn_r _ [26, 2, 35, 36, 37, 38, 39, 40, 41, 42, 43, 44, 45, 46, 47, 48, 49] (by decide +kernel) (by decide +kernel)
set_option maxRecDepth 20000 in
theorem gX7_why_X7_shiftY : GoodIn wsX7_why (wsV RX7 85 RX7 yX7_shiftY wsX7_shiftY) := goodIn_app (goodIn_of _ (by decide +kernel)) ggX7_why_X7_shiftY
set_option maxRecDepth 20000 in
theorem ggX7_why_X7_look : GoodIn wsX7_why wsX7_look := goodIn_r _ [30, 14, 31, 32, 33, 5, 34, 3, 4, 6, 7, 8, 9, 35, 36, 37, 38, 39, 40, 41, 42, 43, 44, 45, 46, 47, 48, 49] (by decide +kernel) (by decide +kernel)
set_option maxRecDepth 20000 in
theorem gX7_why_X7_look : GoodIn wsX7_why (wsV RX7 70 RX7 yX7_look wsX7_look) := goodIn_app (goodIn_of _ (by decide +kernel)) ggX7_why_X7_look
set_option maxRecDepth 20000 in
theorem ggX7_why_X7_isWorn : GoodIn wsX7_why wsX7_isWorn := goodIn_r _ [18, 2, 35, 36, 37, 38, 39, 40, 41, 42, 43, 44, 45, 46, 47, 48, 49] (by decide +kernel) (by decide +kernel)
set_option maxRecDepth 20000 in
theorem gX7_why_X7_isWorn : GoodIn wsX7_why (wsV RX7 43 RX7 yX7_isWorn wsX7_isWorn) := goodIn_app (goodIn_of _ (by decide +kernel)) ggX7_why_X7_isWorn
theorem dX7_why_0 : decode cX7_why 0 = .ok (.aload_n 0, 1) := by decide +kernel
theorem dX7_why_1 : decode cX7_why 1 = .ok (.iconst 0, 1) := by decide +kernel
theorem dX7_why_2 : decode cX7_why 2 = .ok (.putfield 28, 3) := by decide +kernel
theorem dX7_why_5 : decode cX7_why 5 = .ok (.iload_n 1, 1) := by decide +kernel
theorem dX7_why_6 : decode cX7_why 6 = .ok (.iload_n 2, 1) := by decide +kernel
theorem dX7_why_7 : decode cX7_why 7 = .ok (.invokestatic 47, 3) := by decide +kernel
theorem dX7_why_10 : decode cX7_why 10 = .ok (.ifCond .ne 7, 3) := by decide +kernel
theorem dX7_why_13 : decode cX7_why 13 = .ok (.sipush (-1001), 3) := by decide +kernel
theorem dX7_why_16 : decode cX7_why 16 = .ok (.ireturn, 1) := by decide +kernel
theorem dX7_why_17 : decode cX7_why 17 = .ok (.aload_n 0, 1) := by decide +kernel
theorem dX7_why_18 : decode cX7_why 18 = .ok (.invokevirtual 78, 3) := by decide +kernel
theorem dX7_why_21 : decode cX7_why 21 = .ok (.bipush 16, 2) := by decide +kernel
theorem dX7_why_23 : decode cX7_why 23 = .ok (.iload_n 2, 1) := by decide +kernel
theorem dX7_why_24 : decode cX7_why 24 = .ok (.imul, 1) := by decide +kernel
theorem dX7_why_25 : decode cX7_why 25 = .ok (.iload_n 1, 1) := by decide +kernel
theorem dX7_why_26 : decode cX7_why 26 = .ok (.iadd, 1) := by decide +kernel
theorem dX7_why_27 : decode cX7_why 27 = .ok (.istore_n 3, 1) := by decide +kernel
theorem dX7_why_28 : decode cX7_why 28 = .ok (.aload_n 0, 1) := by decide +kernel
theorem dX7_why_29 : decode cX7_why 29 = .ok (.getfield 7, 3) := by decide +kernel
theorem dX7_why_32 : decode cX7_why 32 = .ok (.iconst 0, 1) := by decide +kernel
theorem dX7_why_33 : decode cX7_why 33 = .ok (.iload_n 3, 1) := by decide +kernel
theorem dX7_why_34 : decode cX7_why 34 = .ok (.iadd, 1) := by decide +kernel
theorem dX7_why_35 : decode cX7_why 35 = .ok (.iaload, 1) := by decide +kernel
theorem dX7_why_36 : decode cX7_why 36 = .ok (.istore 4, 2) := by decide +kernel
theorem dX7_why_38 : decode cX7_why 38 = .ok (.aload_n 0, 1) := by decide +kernel
theorem dX7_why_39 : decode cX7_why 39 = .ok (.iload_n 1, 1) := by decide +kernel
theorem dX7_why_40 : decode cX7_why 40 = .ok (.iload_n 2, 1) := by decide +kernel
theorem dX7_why_41 : decode cX7_why 41 = .ok (.aload_n 0, 1) := by decide +kernel
theorem dX7_why_42 : decode cX7_why 42 = .ok (.aload_n 0, 1) := by decide +kernel
theorem dX7_why_43 : decode cX7_why 43 = .ok (.getfield 7, 3) := by decide +kernel
theorem dX7_why_46 : decode cX7_why 46 = .ok (.sipush 773, 3) := by decide +kernel
theorem dX7_why_49 : decode cX7_why 49 = .ok (.iaload, 1) := by decide +kernel
theorem dX7_why_50 : decode cX7_why 50 = .ok (.invokevirtual 81, 3) := by decide +kernel
theorem dX7_why_53 : decode cX7_why 53 = .ok (.aload_n 0, 1) := by decide +kernel
theorem dX7_why_54 : decode cX7_why 54 = .ok (.aload_n 0, 1) := by decide +kernel
theorem dX7_why_55 : decode cX7_why 55 = .ok (.getfield 7, 3) := by decide +kernel
theorem dX7_why_58 : decode cX7_why 58 = .ok (.sipush 774, 3) := by decide +kernel
theorem dX7_why_61 : decode cX7_why 61 = .ok (.iaload, 1) := by decide +kernel
theorem dX7_why_62 : decode cX7_why 62 = .ok (.invokevirtual 85, 3) := by decide +kernel
theorem dX7_why_65 : decode cX7_why 65 = .ok (.invokevirtual 70, 3) := by decide +kernel
theorem dX7_why_68 : decode cX7_why 68 = .ok (.istore 5, 2) := by decide +kernel
theorem dX7_why_70 : decode cX7_why 70 = .ok (.iload 4, 2) := by decide +kernel
theorem dX7_why_72 : decode cX7_why 72 = .ok (.ifCond .eq 22, 3) := by decide +kernel
theorem dX7_why_75 : decode cX7_why 75 = .ok (.iload 5, 2) := by decide +kernel
theorem dX7_why_77 : decode cX7_why 77 = .ok (.ifCond .ne 17, 3) := by decide +kernel
theorem dX7_why_80 : decode cX7_why 80 = .ok (.aload_n 0, 1) := by decide +kernel
theorem dX7_why_81 : decode cX7_why 81 = .ok (.iload_n 3, 1) := by decide +kernel
theorem dX7_why_82 : decode cX7_why 82 = .ok (.invokevirtual 43, 3) := by decide +kernel
theorem dX7_why_85 : decode cX7_why 85 = .ok (.ifCond .eq 7, 3) := by decide +kernel
theorem dX7_why_88 : decode cX7_why 88 = .ok (.iconst 1, 1) := by decide +kernel
theorem dX7_why_89 : decode cX7_why 89 = .ok (.goto 4, 3) := by decide +kernel
theorem dX7_why_92 : decode cX7_why 92 = .ok (.iconst 2, 1) := by decide +kernel
theorem dX7_why_93 : decode cX7_why 93 = .ok (.ireturn, 1) := by decide +kernel
theorem dX7_why_94 : decode cX7_why 94 = .ok (.iload 4, 2) := by decide +kernel
theorem dX7_why_96 : decode cX7_why 96 = .ok (.ifCond .ne 13, 3) := by decide +kernel
theorem dX7_why_99 : decode cX7_why 99 = .ok (.iload 5, 2) := by decide +kernel
theorem dX7_why_101 : decode cX7_why 101 = .ok (.iconst 2, 1) := by decide +kernel
theorem dX7_why_102 : decode cX7_why 102 = .ok (.irem, 1) := by decide +kernel
theorem dX7_why_103 : decode cX7_why 103 = .ok (.iconst 1, 1) := by decide +kernel
theorem dX7_why_104 : decode cX7_why 104 = .ok (.if_icmp .ne 5, 3) := by decide +kernel
theorem dX7_why_107 : decode cX7_why 107 = .ok (.iconst 3, 1) := by decide +kernel
theorem dX7_why_108 : decode cX7_why 108 = .ok (.ireturn, 1) := by decide +kernel
theorem dX7_why_109 : decode cX7_why 109 = .ok (.iload 4, 2) := by decide +kernel
theorem dX7_why_111 : decode cX7_why 111 = .ok (.iconst 2, 1) := by decide +kernel
theorem dX7_why_112 : decode cX7_why 112 = .ok (.if_icmp .eq 15, 3) := by decide +kernel
theorem dX7_why_115 : decode cX7_why 115 = .ok (.iload 5, 2) := by decide +kernel
theorem dX7_why_117 : decode cX7_why 117 = .ok (.iconst 2, 1) := by decide +kernel
theorem dX7_why_118 : decode cX7_why 118 = .ok (.if_icmp .ge 7, 3) := by decide +kernel
theorem dX7_why_121 : decode cX7_why 121 = .ok (.iconst 0, 1) := by decide +kernel
theorem dX7_why_122 : decode cX7_why 122 = .ok (.goto 4, 3) := by decide +kernel
theorem dX7_why_125 : decode cX7_why 125 = .ok (.iconst 4, 1) := by decide +kernel
theorem dX7_why_126 : decode cX7_why 126 = .ok (.ireturn, 1) := by decide +kernel
theorem dX7_why_127 : decode cX7_why 127 = .ok (.iload 5, 2) := by decide +kernel
theorem dX7_why_129 : decode cX7_why 129 = .ok (.iconst 2, 1) := by decide +kernel
theorem dX7_why_130 : decode cX7_why 130 = .ok (.if_icmp .ge 7, 3) := by decide +kernel
theorem dX7_why_133 : decode cX7_why 133 = .ok (.iconst 5, 1) := by decide +kernel
theorem dX7_why_134 : decode cX7_why 134 = .ok (.goto 4, 3) := by decide +kernel
theorem dX7_why_137 : decode cX7_why 137 = .ok (.iconst 0, 1) := by decide +kernel
theorem dX7_why_138 : decode cX7_why 138 = .ok (.ireturn, 1) := by decide +kernel
set_option maxRecDepth 20000 in
theorem ggX7_tolerance_X7_lay : GoodIn wsX7_tolerance wsX7_lay := goodIn_r _ [6, 7, 8, 9, 10, 11, 5, 12, 38, 39, 40, 41, 42, 43, 44, 45, 46, 47, 48, 49, 50, 51, 52] (by decide +kernel) (by decide +kernel)
set_option maxRecDepth 20000 in
theorem gX7_tolerance_X7_lay : GoodIn wsX7_tolerance (wsV RX7 78 RX7 yX7_lay wsX7_lay) := goodIn_app (goodIn_of _ (by decide +kernel)) ggX7_tolerance_X7_lay
set_option maxRecDepth 20000 in
theorem ggX7_tolerance_X7_hasGapsWithin : GoodIn wsX7_tolerance wsX7_hasGapsWithin := goodIn_r _ [16, 17, 18, 19, 20, 5, 21, 22, 23, 8, 24, 25, 26, 27, 7, 28, 29, 30, 31, 32, 33, 34, 35, 36, 37, 38, 39, 40, 41, 42, 43, 44, 45, 46, 47, 48, 49, 50, 51, 52] (by decide +kernel) (by decide +kernel)
set_option maxRecDepth 20000 in
theorem gX7_tolerance_X7_hasGapsWithin : GoodIn wsX7_tolerance (wsV RX7 163 RX7 yX7_hasGapsWithin wsX7_hasGapsWithin) := goodIn_app (goodIn_of _ (by decide +kernel)) ggX7_tolerance_X7_hasGapsWithin
theorem dX7_tolerance_0 : decode cX7_tolerance 0 = .ok (.aload_n 0, 1) := by decide +kernel
theorem dX7_tolerance_1 : decode cX7_tolerance 1 = .ok (.iconst 0, 1) := by decide +kernel
theorem dX7_tolerance_2 : decode cX7_tolerance 2 = .ok (.putfield 28, 3) := by decide +kernel
theorem dX7_tolerance_5 : decode cX7_tolerance 5 = .ok (.aload_n 0, 1) := by decide +kernel
theorem dX7_tolerance_6 : decode cX7_tolerance 6 = .ok (.invokevirtual 78, 3) := by decide +kernel
theorem dX7_tolerance_9 : decode cX7_tolerance 9 = .ok (.iconst 0, 1) := by decide +kernel
theorem dX7_tolerance_10 : decode cX7_tolerance 10 = .ok (.istore_n 1, 1) := by decide +kernel
theorem dX7_tolerance_11 : decode cX7_tolerance 11 = .ok (.iload_n 1, 1) := by decide +kernel
theorem dX7_tolerance_12 : decode cX7_tolerance 12 = .ok (.iconst 4, 1) := by decide +kernel
theorem dX7_tolerance_13 : decode cX7_tolerance 13 = .ok (.if_icmp .gt 31, 3) := by decide +kernel
theorem dX7_tolerance_16 : decode cX7_tolerance 16 = .ok (.aload_n 0, 1) := by decide +kernel
theorem dX7_tolerance_17 : decode cX7_tolerance 17 = .ok (.iload_n 1, 1) := by decide +kernel
theorem dX7_tolerance_18 : decode cX7_tolerance 18 = .ok (.invokevirtual 163, 3) := by decide +kernel
theorem dX7_tolerance_21 : decode cX7_tolerance 21 = .ok (.ifCond .eq 17, 3) := by decide +kernel
theorem dX7_tolerance_24 : decode cX7_tolerance 24 = .ok (.iload_n 1, 1) := by decide +kernel
theorem dX7_tolerance_25 : decode cX7_tolerance 25 = .ok (.ifCond .ne 9, 3) := by decide +kernel
theorem dX7_tolerance_28 : decode cX7_tolerance 28 = .ok (.sipush (-1009), 3) := by decide +kernel
theorem dX7_tolerance_31 : decode cX7_tolerance 31 = .ok (.goto 6, 3) := by decide +kernel
theorem dX7_tolerance_34 : decode cX7_tolerance 34 = .ok (.iload_n 1, 1) := by decide +kernel
theorem dX7_tolerance_35 : decode cX7_tolerance 35 = .ok (.iconst 1, 1) := by decide +kernel
theorem dX7_tolerance_36 : decode cX7_tolerance 36 = .ok (.isub, 1) := by decide +kernel
theorem dX7_tolerance_37 : decode cX7_tolerance 37 = .ok (.ireturn, 1) := by decide +kernel
theorem dX7_tolerance_38 : decode cX7_tolerance 38 = .ok (.iinc 1 1, 3) := by decide +kernel
theorem dX7_tolerance_41 : decode cX7_tolerance 41 = .ok (.goto (-30), 3) := by decide +kernel
theorem dX7_tolerance_44 : decode cX7_tolerance 44 = .ok (.iconst 4, 1) := by decide +kernel
theorem dX7_tolerance_45 : decode cX7_tolerance 45 = .ok (.ireturn, 1) := by decide +kernel
set_option maxRecDepth 20000 in
theorem ggX7_trapFor_X7_in : GoodIn wsX7_trapFor wsX7_in := goodIn_r _ [5] (by decide +kernel) (by decide +kernel)
set_option maxRecDepth 20000 in
theorem gX7_trapFor_X7_in : GoodIn wsX7_trapFor (va_wsS RX7 32 yX7_in wsX7_in) := goodIn_app (goodIn_of _ (by decide +kernel)) ggX7_trapFor_X7_in
set_option maxRecDepth 20000 in
theorem ggX7_trapFor_X7_measure : GoodIn wsX7_trapFor wsX7_measure := goodIn_r _ [9, 10, 11, 12, 13, 14, 4, 15, 16, 17, 18, 19, 20, 21, 2, 3, 5, 46, 47, 48, 49, 50, 51, 52, 53, 54, 55, 56, 57, 58, 59, 60] (by decide +kernel) (by decide +kernel)
set_option maxRecDepth 20000 in
theorem gX7_trapFor_X7_measure : GoodIn wsX7_trapFor (wsV RX7 91 RX7 yX7_measure wsX7_measure) := goodIn_app (goodIn_of _ (by decide +kernel)) ggX7_trapFor_X7_measure
set_option maxRecDepth 20000 in
theorem ggX7_trapFor_X7_layCut : GoodIn wsX7_trapFor wsX7_layCut := goodIn_r _ [25, 26, 11, 10, 46, 47, 48, 49, 50, 51, 52, 53, 54, 55, 56, 57, 58, 59, 60] (by decide +kernel) (by decide +kernel)
set_option maxRecDepth 20000 in
theorem gX7_trapFor_X7_layCut : GoodIn wsX7_trapFor (wsV RX7 94 RX7 yX7_layCut wsX7_layCut) := goodIn_app (goodIn_of _ (by decide +kernel)) ggX7_trapFor_X7_layCut
set_option maxRecDepth 20000 in
theorem ggX7_trapFor_X7_hasGapsWithin : GoodIn wsX7_trapFor wsX7_hasGapsWithin := goodIn_r _ [30, 31, 32, 33, 34, 4, 35, 36, 37, 11, 38, 39, 40, 41, 26, 42, 43, 44, 45, 19, 20, 21, 2, 3, 5, 46, 47, 48, 49, 50, 51, 52, 53, 54, 55, 56, 57, 58, 59, 60] (by decide +kernel) (by decide +kernel)
set_option maxRecDepth 20000 in
theorem gX7_trapFor_X7_hasGapsWithin : GoodIn wsX7_trapFor (wsV RX7 163 RX7 yX7_hasGapsWithin wsX7_hasGapsWithin) := goodIn_app (goodIn_of _ (by decide +kernel)) ggX7_trapFor_X7_hasGapsWithin
theorem dX7_trapFor_0 : decode cX7_trapFor 0 = .ok (.aload_n 0, 1) := by decide +kernel
theorem dX7_trapFor_1 : decode cX7_trapFor 1 = .ok (.iconst 0, 1) := by decide +kernel
theorem dX7_trapFor_2 : decode cX7_trapFor 2 = .ok (.putfield 28, 3) := by decide +kernel
theorem dX7_trapFor_5 : decode cX7_trapFor 5 = .ok (.iload_n 1, 1) := by decide +kernel
theorem dX7_trapFor_6 : decode cX7_trapFor 6 = .ok (.iconst 0, 1) := by decide +kernel
theorem dX7_trapFor_7 : decode cX7_trapFor 7 = .ok (.iconst 4, 1) := by decide +kernel
theorem dX7_trapFor_8 : decode cX7_trapFor 8 = .ok (.invokestatic 32, 3) := by decide +kernel
theorem dX7_trapFor_11 : decode cX7_trapFor 11 = .ok (.ifCond .ne 7, 3) := by decide +kernel
theorem dX7_trapFor_14 : decode cX7_trapFor 14 = .ok (.sipush (-1001), 3) := by decide +kernel
theorem dX7_trapFor_17 : decode cX7_trapFor 17 = .ok (.ireturn, 1) := by decide +kernel
theorem dX7_trapFor_18 : decode cX7_trapFor 18 = .ok (.aload_n 0, 1) := by decide +kernel
theorem dX7_trapFor_19 : decode cX7_trapFor 19 = .ok (.invokevirtual 91, 3) := by decide +kernel
theorem dX7_trapFor_22 : decode cX7_trapFor 22 = .ok (.iconst 0, 1) := by decide +kernel
theorem dX7_trapFor_23 : decode cX7_trapFor 23 = .ok (.istore_n 2, 1) := by decide +kernel
theorem dX7_trapFor_24 : decode cX7_trapFor 24 = .ok (.iload_n 2, 1) := by decide +kernel
theorem dX7_trapFor_25 : decode cX7_trapFor 25 = .ok (.iconst 4, 1) := by decide +kernel
theorem dX7_trapFor_26 : decode cX7_trapFor 26 = .ok (.if_icmp .gt 24, 3) := by decide +kernel
theorem dX7_trapFor_29 : decode cX7_trapFor 29 = .ok (.aload_n 0, 1) := by decide +kernel
theorem dX7_trapFor_30 : decode cX7_trapFor 30 = .ok (.iload_n 2, 1) := by decide +kernel
theorem dX7_trapFor_31 : decode cX7_trapFor 31 = .ok (.invokevirtual 94, 3) := by decide +kernel
theorem dX7_trapFor_34 : decode cX7_trapFor 34 = .ok (.aload_n 0, 1) := by decide +kernel
theorem dX7_trapFor_35 : decode cX7_trapFor 35 = .ok (.iload_n 1, 1) := by decide +kernel
theorem dX7_trapFor_36 : decode cX7_trapFor 36 = .ok (.invokevirtual 163, 3) := by decide +kernel
theorem dX7_trapFor_39 : decode cX7_trapFor 39 = .ok (.ifCond .ne 5, 3) := by decide +kernel
theorem dX7_trapFor_42 : decode cX7_trapFor 42 = .ok (.iload_n 2, 1) := by decide +kernel
theorem dX7_trapFor_43 : decode cX7_trapFor 43 = .ok (.ireturn, 1) := by decide +kernel
theorem dX7_trapFor_44 : decode cX7_trapFor 44 = .ok (.iinc 2 1, 3) := by decide +kernel
theorem dX7_trapFor_47 : decode cX7_trapFor 47 = .ok (.goto (-23), 3) := by decide +kernel
theorem dX7_trapFor_50 : decode cX7_trapFor 50 = .ok (.sipush (-1009), 3) := by decide +kernel
theorem dX7_trapFor_53 : decode cX7_trapFor 53 = .ok (.ireturn, 1) := by decide +kernel
set_option maxRecDepth 20000 in
theorem ggX7_bestPins_X7_in : GoodIn wsX7_bestPins wsX7_in := goodIn_r _ [7] (by decide +kernel) (by decide +kernel)
set_option maxRecDepth 20000 in
theorem gX7_bestPins_X7_in : GoodIn wsX7_bestPins (va_wsS RX7 32 yX7_in wsX7_in) := goodIn_app (goodIn_of _ (by decide +kernel)) ggX7_bestPins_X7_in
set_option maxRecDepth 20000 in
theorem ggX7_bestPins_X7_lay : GoodIn wsX7_bestPins wsX7_lay := goodIn_r _ [11, 12, 13, 14, 15, 16, 6, 17, 42, 43, 44, 45, 46, 47, 48, 49, 50, 51, 52, 53, 54, 55, 56] (by decide +kernel) (by decide +kernel)
set_option maxRecDepth 20000 in
theorem gX7_bestPins_X7_lay : GoodIn wsX7_bestPins (wsV RX7 78 RX7 yX7_lay wsX7_lay) := goodIn_app (goodIn_of _ (by decide +kernel)) ggX7_bestPins_X7_lay
set_option maxRecDepth 20000 in
theorem ggX7_bestPins_X7_shiftX : GoodIn wsX7_bestPins wsX7_shiftX := goodIn_r _ [21, 13, 42, 43, 44, 45, 46, 47, 48, 49, 50, 51, 52, 53, 54, 55, 56] (by decide +kernel) (by decide +kernel)
set_option maxRecDepth 20000 in
theorem gX7_bestPins_X7_shiftX : GoodIn wsX7_bestPins (wsV RX7 81 RX7 yX7_shiftX wsX7_shiftX) := goodIn_app (goodIn_of _ (by decide +kernel)) ggX7_bestPins_X7_shiftX
set_option maxRecDepth 20000 in
theorem ggX7_bestPins_X7_shiftY : GoodIn wsX7_bestPins wsX7_shiftY := goodIn_r _ [25, 13, 42, 43, 44, 45, 46, 47, 48, 49, 50, 51, 52, 53, 54, 55, 56] (by decide +kernel) (by decide +kernel)
set_option maxRecDepth 20000 in
theorem gX7_bestPins_X7_shiftY : GoodIn wsX7_bestPins (wsV RX7 85 RX7 yX7_shiftY wsX7_shiftY) := goodIn_app (goodIn_of _ (by decide +kernel)) ggX7_bestPins_X7_shiftY
set_option maxRecDepth 20000 in
theorem ggX7_bestPins_X7_check : GoodIn wsX7_bestPins wsX7_check := goodIn_r _ [29, 2, 3, 30, 13, 31, 32, 33, 6, 34, 12, 35, 36, 37, 38, 39, 40, 41, 4, 5, 7, 42, 43, 44, 45, 46, 47, 48, 49, 50, 51, 52, 53, 54, 55, 56] (by decide +kernel) (by decide +kernel)
set_option maxRecDepth 20000 in
theorem gX7_bestPins_X7_check : GoodIn wsX7_bestPins (wsV RX7 74 RX7 yX7_check wsX7_check) := goodIn_app (goodIn_of _ (by decide +kernel)) ggX7_bestPins_X7_check
theorem dX7_bestPins_0 : decode cX7_bestPins 0 = .ok (.aload_n 0, 1) := by decide +kernel
theorem dX7_bestPins_1 : decode cX7_bestPins 1 = .ok (.iconst 0, 1) := by decide +kernel
theorem dX7_bestPins_2 : decode cX7_bestPins 2 = .ok (.putfield 28, 3) := by decide +kernel
theorem dX7_bestPins_5 : decode cX7_bestPins 5 = .ok (.iload_n 1, 1) := by decide +kernel
theorem dX7_bestPins_6 : decode cX7_bestPins 6 = .ok (.iconst 0, 1) := by decide +kernel
theorem dX7_bestPins_7 : decode cX7_bestPins 7 = .ok (.iconst 2, 1) := by decide +kernel
theorem dX7_bestPins_8 : decode cX7_bestPins 8 = .ok (.invokestatic 32, 3) := by decide +kernel
theorem dX7_bestPins_11 : decode cX7_bestPins 11 = .ok (.ifCond .ne 7, 3) := by decide +kernel
theorem dX7_bestPins_14 : decode cX7_bestPins 14 = .ok (.sipush (-1001), 3) := by decide +kernel
theorem dX7_bestPins_17 : decode cX7_bestPins 17 = .ok (.ireturn, 1) := by decide +kernel
theorem dX7_bestPins_18 : decode cX7_bestPins 18 = .ok (.aload_n 0, 1) := by decide +kernel
theorem dX7_bestPins_19 : decode cX7_bestPins 19 = .ok (.invokevirtual 78, 3) := by decide +kernel
theorem dX7_bestPins_22 : decode cX7_bestPins 22 = .ok (.iconst 0, 1) := by decide +kernel
theorem dX7_bestPins_23 : decode cX7_bestPins 23 = .ok (.istore_n 2, 1) := by decide +kernel
theorem dX7_bestPins_24 : decode cX7_bestPins 24 = .ok (.iconst 0, 1) := by decide +kernel
theorem dX7_bestPins_25 : decode cX7_bestPins 25 = .ok (.istore_n 3, 1) := by decide +kernel
theorem dX7_bestPins_26 : decode cX7_bestPins 26 = .ok (.sipush 385, 3) := by decide +kernel
theorem dX7_bestPins_29 : decode cX7_bestPins 29 = .ok (.istore 4, 2) := by decide +kernel
theorem dX7_bestPins_31 : decode cX7_bestPins 31 = .ok (.bipush (-4), 2) := by decide +kernel
theorem dX7_bestPins_33 : decode cX7_bestPins 33 = .ok (.istore 5, 2) := by decide +kernel
theorem dX7_bestPins_35 : decode cX7_bestPins 35 = .ok (.iload 5, 2) := by decide +kernel
theorem dX7_bestPins_37 : decode cX7_bestPins 37 = .ok (.iconst 4, 1) := by decide +kernel
theorem dX7_bestPins_38 : decode cX7_bestPins 38 = .ok (.if_icmp .gt 72, 3) := by decide +kernel
theorem dX7_bestPins_41 : decode cX7_bestPins 41 = .ok (.bipush (-4), 2) := by decide +kernel
theorem dX7_bestPins_43 : decode cX7_bestPins 43 = .ok (.istore 6, 2) := by decide +kernel
theorem dX7_bestPins_45 : decode cX7_bestPins 45 = .ok (.iload 6, 2) := by decide +kernel
theorem dX7_bestPins_47 : decode cX7_bestPins 47 = .ok (.iconst 4, 1) := by decide +kernel
theorem dX7_bestPins_48 : decode cX7_bestPins 48 = .ok (.if_icmp .gt 56, 3) := by decide +kernel
theorem dX7_bestPins_51 : decode cX7_bestPins 51 = .ok (.aload_n 0, 1) := by decide +kernel
theorem dX7_bestPins_52 : decode cX7_bestPins 52 = .ok (.aload_n 0, 1) := by decide +kernel
theorem dX7_bestPins_53 : decode cX7_bestPins 53 = .ok (.iload 5, 2) := by decide +kernel
theorem dX7_bestPins_55 : decode cX7_bestPins 55 = .ok (.invokevirtual 81, 3) := by decide +kernel
theorem dX7_bestPins_58 : decode cX7_bestPins 58 = .ok (.aload_n 0, 1) := by decide +kernel
theorem dX7_bestPins_59 : decode cX7_bestPins 59 = .ok (.iload 6, 2) := by decide +kernel
theorem dX7_bestPins_61 : decode cX7_bestPins 61 = .ok (.invokevirtual 85, 3) := by decide +kernel
theorem dX7_bestPins_64 : decode cX7_bestPins 64 = .ok (.invokevirtual 74, 3) := by decide +kernel
theorem dX7_bestPins_67 : decode cX7_bestPins 67 = .ok (.aload_n 0, 1) := by decide +kernel
theorem dX7_bestPins_68 : decode cX7_bestPins 68 = .ok (.getfield 61, 3) := by decide +kernel
theorem dX7_bestPins_71 : decode cX7_bestPins 71 = .ok (.aload_n 0, 1) := by decide +kernel
theorem dX7_bestPins_72 : decode cX7_bestPins 72 = .ok (.getfield 64, 3) := by decide +kernel
theorem dX7_bestPins_75 : decode cX7_bestPins 75 = .ok (.iadd, 1) := by decide +kernel
theorem dX7_bestPins_76 : decode cX7_bestPins 76 = .ok (.iload 4, 2) := by decide +kernel
theorem dX7_bestPins_78 : decode cX7_bestPins 78 = .ok (.if_icmp .ge 20, 3) := by decide +kernel
theorem dX7_bestPins_81 : decode cX7_bestPins 81 = .ok (.aload_n 0, 1) := by decide +kernel
theorem dX7_bestPins_82 : decode cX7_bestPins 82 = .ok (.getfield 61, 3) := by decide +kernel
theorem dX7_bestPins_85 : decode cX7_bestPins 85 = .ok (.aload_n 0, 1) := by decide +kernel
theorem dX7_bestPins_86 : decode cX7_bestPins 86 = .ok (.getfield 64, 3) := by decide +kernel
theorem dX7_bestPins_89 : decode cX7_bestPins 89 = .ok (.iadd, 1) := by decide +kernel
theorem dX7_bestPins_90 : decode cX7_bestPins 90 = .ok (.istore 4, 2) := by decide +kernel
theorem dX7_bestPins_92 : decode cX7_bestPins 92 = .ok (.iload 5, 2) := by decide +kernel
theorem dX7_bestPins_94 : decode cX7_bestPins 94 = .ok (.istore_n 2, 1) := by decide +kernel
theorem dX7_bestPins_95 : decode cX7_bestPins 95 = .ok (.iload 6, 2) := by decide +kernel
theorem dX7_bestPins_97 : decode cX7_bestPins 97 = .ok (.istore_n 3, 1) := by decide +kernel
theorem dX7_bestPins_98 : decode cX7_bestPins 98 = .ok (.iinc 6 1, 3) := by decide +kernel
theorem dX7_bestPins_101 : decode cX7_bestPins 101 = .ok (.goto (-56), 3) := by decide +kernel
theorem dX7_bestPins_104 : decode cX7_bestPins 104 = .ok (.iinc 5 1, 3) := by decide +kernel
theorem dX7_bestPins_107 : decode cX7_bestPins 107 = .ok (.goto (-72), 3) := by decide +kernel
theorem dX7_bestPins_110 : decode cX7_bestPins 110 = .ok (.iload_n 1, 1) := by decide +kernel
theorem dX7_bestPins_111 : decode cX7_bestPins 111 = .ok (.ifCond .ne 9, 3) := by decide +kernel
theorem dX7_bestPins_114 : decode cX7_bestPins 114 = .ok (.iload_n 2, 1) := by decide +kernel
theorem dX7_bestPins_115 : decode cX7_bestPins 115 = .ok (.iconst 4, 1) := by decide +kernel
theorem dX7_bestPins_116 : decode cX7_bestPins 116 = .ok (.iadd, 1) := by decide +kernel
theorem dX7_bestPins_117 : decode cX7_bestPins 117 = .ok (.goto 16, 3) := by decide +kernel
theorem dX7_bestPins_120 : decode cX7_bestPins 120 = .ok (.iload_n 1, 1) := by decide +kernel
theorem dX7_bestPins_121 : decode cX7_bestPins 121 = .ok (.iconst 1, 1) := by decide +kernel
theorem dX7_bestPins_122 : decode cX7_bestPins 122 = .ok (.if_icmp .ne 9, 3) := by decide +kernel
theorem dX7_bestPins_125 : decode cX7_bestPins 125 = .ok (.iload_n 3, 1) := by decide +kernel
theorem dX7_bestPins_126 : decode cX7_bestPins 126 = .ok (.iconst 4, 1) := by decide +kernel
theorem dX7_bestPins_127 : decode cX7_bestPins 127 = .ok (.iadd, 1) := by decide +kernel
theorem dX7_bestPins_128 : decode cX7_bestPins 128 = .ok (.goto 5, 3) := by decide +kernel
theorem dX7_bestPins_131 : decode cX7_bestPins 131 = .ok (.iload 4, 2) := by decide +kernel
theorem dX7_bestPins_133 : decode cX7_bestPins 133 = .ok (.ireturn, 1) := by decide +kernel
set_option maxRecDepth 20000 in
theorem ggX7_printsLeft_X7_lay : GoodIn wsX7_printsLeft wsX7_lay := goodIn_r _ [8, 2, 3, 9, 10, 11, 7, 12, 26, 27, 28, 29, 30, 31, 32, 33, 34, 35, 36, 37, 38, 39, 40] (by decide +kernel) (by decide +kernel)
set_option maxRecDepth 20000 in
theorem gX7_printsLeft_X7_lay : GoodIn wsX7_printsLeft (wsV RX7 78 RX7 yX7_lay wsX7_lay) := goodIn_app (goodIn_of _ (by decide +kernel)) ggX7_printsLeft_X7_lay
set_option maxRecDepth 20000 in
theorem ggX7_printsLeft_X7_rubs : GoodIn wsX7_printsLeft wsX7_rubs := goodIn_r _ [16, 2, 17, 18, 7, 19, 20, 21, 22, 23, 24, 25, 26, 27, 28, 29, 30, 31, 32, 33, 34, 35, 36, 37, 38, 39, 40] (by decide +kernel) (by decide +kernel)
set_option maxRecDepth 20000 in
theorem gX7_printsLeft_X7_rubs : GoodIn wsX7_printsLeft (wsV RX7 108 RX7 yX7_rubs wsX7_rubs) := goodIn_app (goodIn_of _ (by decide +kernel)) ggX7_printsLeft_X7_rubs
theorem dX7_printsLeft_0 : decode cX7_printsLeft 0 = .ok (.aload_n 0, 1) := by decide +kernel
theorem dX7_printsLeft_1 : decode cX7_printsLeft 1 = .ok (.iconst 0, 1) := by decide +kernel
theorem dX7_printsLeft_2 : decode cX7_printsLeft 2 = .ok (.putfield 28, 3) := by decide +kernel
theorem dX7_printsLeft_5 : decode cX7_printsLeft 5 = .ok (.aload_n 0, 1) := by decide +kernel
theorem dX7_printsLeft_6 : decode cX7_printsLeft 6 = .ok (.invokevirtual 78, 3) := by decide +kernel
theorem dX7_printsLeft_9 : decode cX7_printsLeft 9 = .ok (.sipush 501, 3) := by decide +kernel
theorem dX7_printsLeft_12 : decode cX7_printsLeft 12 = .ok (.istore_n 1, 1) := by decide +kernel
theorem dX7_printsLeft_13 : decode cX7_printsLeft 13 = .ok (.iconst 0, 1) := by decide +kernel
theorem dX7_printsLeft_14 : decode cX7_printsLeft 14 = .ok (.istore_n 2, 1) := by decide +kernel
theorem dX7_printsLeft_15 : decode cX7_printsLeft 15 = .ok (.iload_n 2, 1) := by decide +kernel
theorem dX7_printsLeft_16 : decode cX7_printsLeft 16 = .ok (.sipush 192, 3) := by decide +kernel
theorem dX7_printsLeft_19 : decode cX7_printsLeft 19 = .ok (.if_icmp .ge 62, 3) := by decide +kernel
theorem dX7_printsLeft_22 : decode cX7_printsLeft 22 = .ok (.aload_n 0, 1) := by decide +kernel
theorem dX7_printsLeft_23 : decode cX7_printsLeft 23 = .ok (.getfield 19, 3) := by decide +kernel
theorem dX7_printsLeft_26 : decode cX7_printsLeft 26 = .ok (.iload_n 2, 1) := by decide +kernel
theorem dX7_printsLeft_27 : decode cX7_printsLeft 27 = .ok (.iaload, 1) := by decide +kernel
theorem dX7_printsLeft_28 : decode cX7_printsLeft 28 = .ok (.iconst 1, 1) := by decide +kernel
theorem dX7_printsLeft_29 : decode cX7_printsLeft 29 = .ok (.if_icmp .ne 33, 3) := by decide +kernel
theorem dX7_printsLeft_32 : decode cX7_printsLeft 32 = .ok (.aload_n 0, 1) := by decide +kernel
theorem dX7_printsLeft_33 : decode cX7_printsLeft 33 = .ok (.getfield 7, 3) := by decide +kernel
theorem dX7_printsLeft_36 : decode cX7_printsLeft 36 = .ok (.sipush 771, 3) := by decide +kernel
theorem dX7_printsLeft_39 : decode cX7_printsLeft 39 = .ok (.iaload, 1) := by decide +kernel
theorem dX7_printsLeft_40 : decode cX7_printsLeft 40 = .ok (.aload_n 0, 1) := by decide +kernel
theorem dX7_printsLeft_41 : decode cX7_printsLeft 41 = .ok (.getfield 7, 3) := by decide +kernel
theorem dX7_printsLeft_44 : decode cX7_printsLeft 44 = .ok (.sipush 384, 3) := by decide +kernel
theorem dX7_printsLeft_47 : decode cX7_printsLeft 47 = .ok (.iload_n 2, 1) := by decide +kernel
theorem dX7_printsLeft_48 : decode cX7_printsLeft 48 = .ok (.iadd, 1) := by decide +kernel
theorem dX7_printsLeft_49 : decode cX7_printsLeft 49 = .ok (.iaload, 1) := by decide +kernel
theorem dX7_printsLeft_50 : decode cX7_printsLeft 50 = .ok (.isub, 1) := by decide +kernel
theorem dX7_printsLeft_51 : decode cX7_printsLeft 51 = .ok (.aload_n 0, 1) := by decide +kernel
theorem dX7_printsLeft_52 : decode cX7_printsLeft 52 = .ok (.iload_n 2, 1) := by decide +kernel
theorem dX7_printsLeft_53 : decode cX7_printsLeft 53 = .ok (.invokevirtual 108, 3) := by decide +kernel
theorem dX7_printsLeft_56 : decode cX7_printsLeft 56 = .ok (.idiv, 1) := by decide +kernel
theorem dX7_printsLeft_57 : decode cX7_printsLeft 57 = .ok (.iconst 1, 1) := by decide +kernel
theorem dX7_printsLeft_58 : decode cX7_printsLeft 58 = .ok (.iadd, 1) := by decide +kernel
theorem dX7_printsLeft_59 : decode cX7_printsLeft 59 = .ok (.goto 4, 3) := by decide +kernel
theorem dX7_printsLeft_62 : decode cX7_printsLeft 62 = .ok (.iload_n 1, 1) := by decide +kernel
theorem dX7_printsLeft_63 : decode cX7_printsLeft 63 = .ok (.istore_n 3, 1) := by decide +kernel
theorem dX7_printsLeft_64 : decode cX7_printsLeft 64 = .ok (.iload_n 3, 1) := by decide +kernel
theorem dX7_printsLeft_65 : decode cX7_printsLeft 65 = .ok (.iload_n 1, 1) := by decide +kernel
theorem dX7_printsLeft_66 : decode cX7_printsLeft 66 = .ok (.if_icmp .ge 7, 3) := by decide +kernel
theorem dX7_printsLeft_69 : decode cX7_printsLeft 69 = .ok (.iload_n 3, 1) := by decide +kernel
theorem dX7_printsLeft_70 : decode cX7_printsLeft 70 = .ok (.goto 4, 3) := by decide +kernel
theorem dX7_printsLeft_73 : decode cX7_printsLeft 73 = .ok (.iload_n 1, 1) := by decide +kernel
theorem dX7_printsLeft_74 : decode cX7_printsLeft 74 = .ok (.istore_n 1, 1) := by decide +kernel
theorem dX7_printsLeft_75 : decode cX7_printsLeft 75 = .ok (.iinc 2 1, 3) := by decide +kernel
theorem dX7_printsLeft_78 : decode cX7_printsLeft 78 = .ok (.goto (-63), 3) := by decide +kernel
theorem dX7_printsLeft_81 : decode cX7_printsLeft 81 = .ok (.iload_n 1, 1) := by decide +kernel
theorem dX7_printsLeft_82 : decode cX7_printsLeft 82 = .ok (.sipush 500, 3) := by decide +kernel
theorem dX7_printsLeft_85 : decode cX7_printsLeft 85 = .ok (.if_icmp .le 9, 3) := by decide +kernel
theorem dX7_printsLeft_88 : decode cX7_printsLeft 88 = .ok (.sipush (-1009), 3) := by decide +kernel
theorem dX7_printsLeft_91 : decode cX7_printsLeft 91 = .ok (.goto 4, 3) := by decide +kernel
theorem dX7_printsLeft_94 : decode cX7_printsLeft 94 = .ok (.iload_n 1, 1) := by decide +kernel
theorem dX7_printsLeft_95 : decode cX7_printsLeft 95 = .ok (.ireturn, 1) := by decide +kernel
theorem dJ6_bitCount_0f7a4_0 : decode cJ6_bitCount_0f7a4 0 = .ok (.iload_n 0, 1) := by decide +kernel
theorem dJ6_bitCount_0f7a4_1 : decode cJ6_bitCount_0f7a4 1 = .ok (.iload_n 0, 1) := by decide +kernel
theorem dJ6_bitCount_0f7a4_2 : decode cJ6_bitCount_0f7a4 2 = .ok (.iconst 1, 1) := by decide +kernel
theorem dJ6_bitCount_0f7a4_3 : decode cJ6_bitCount_0f7a4 3 = .ok (.iushr, 1) := by decide +kernel
theorem dJ6_bitCount_0f7a4_4 : decode cJ6_bitCount_0f7a4 4 = .ok (.ldc_w 265, 3) := by decide +kernel
theorem dJ6_bitCount_0f7a4_7 : decode cJ6_bitCount_0f7a4 7 = .ok (.iand, 1) := by decide +kernel
theorem dJ6_bitCount_0f7a4_8 : decode cJ6_bitCount_0f7a4 8 = .ok (.isub, 1) := by decide +kernel
theorem dJ6_bitCount_0f7a4_9 : decode cJ6_bitCount_0f7a4 9 = .ok (.istore_n 0, 1) := by decide +kernel
theorem dJ6_bitCount_0f7a4_10 : decode cJ6_bitCount_0f7a4 10 = .ok (.iload_n 0, 1) := by decide +kernel
theorem dJ6_bitCount_0f7a4_11 : decode cJ6_bitCount_0f7a4 11 = .ok (.ldc_w 266, 3) := by decide +kernel
theorem dJ6_bitCount_0f7a4_14 : decode cJ6_bitCount_0f7a4 14 = .ok (.iand, 1) := by decide +kernel
theorem dJ6_bitCount_0f7a4_15 : decode cJ6_bitCount_0f7a4 15 = .ok (.iload_n 0, 1) := by decide +kernel
theorem dJ6_bitCount_0f7a4_16 : decode cJ6_bitCount_0f7a4 16 = .ok (.iconst 2, 1) := by decide +kernel
theorem dJ6_bitCount_0f7a4_17 : decode cJ6_bitCount_0f7a4 17 = .ok (.iushr, 1) := by decide +kernel
theorem dJ6_bitCount_0f7a4_18 : decode cJ6_bitCount_0f7a4 18 = .ok (.ldc_w 266, 3) := by decide +kernel
theorem dJ6_bitCount_0f7a4_21 : decode cJ6_bitCount_0f7a4 21 = .ok (.iand, 1) := by decide +kernel
theorem dJ6_bitCount_0f7a4_22 : decode cJ6_bitCount_0f7a4 22 = .ok (.iadd, 1) := by decide +kernel
theorem dJ6_bitCount_0f7a4_23 : decode cJ6_bitCount_0f7a4 23 = .ok (.istore_n 0, 1) := by decide +kernel
theorem dJ6_bitCount_0f7a4_24 : decode cJ6_bitCount_0f7a4 24 = .ok (.iload_n 0, 1) := by decide +kernel
theorem dJ6_bitCount_0f7a4_25 : decode cJ6_bitCount_0f7a4 25 = .ok (.iload_n 0, 1) := by decide +kernel
theorem dJ6_bitCount_0f7a4_26 : decode cJ6_bitCount_0f7a4 26 = .ok (.iconst 4, 1) := by decide +kernel
theorem dJ6_bitCount_0f7a4_27 : decode cJ6_bitCount_0f7a4 27 = .ok (.iushr, 1) := by decide +kernel
theorem dJ6_bitCount_0f7a4_28 : decode cJ6_bitCount_0f7a4 28 = .ok (.iadd, 1) := by decide +kernel
theorem dJ6_bitCount_0f7a4_29 : decode cJ6_bitCount_0f7a4 29 = .ok (.ldc_w 267, 3) := by decide +kernel
theorem dJ6_bitCount_0f7a4_32 : decode cJ6_bitCount_0f7a4 32 = .ok (.iand, 1) := by decide +kernel
theorem dJ6_bitCount_0f7a4_33 : decode cJ6_bitCount_0f7a4 33 = .ok (.istore_n 0, 1) := by decide +kernel
theorem dJ6_bitCount_0f7a4_34 : decode cJ6_bitCount_0f7a4 34 = .ok (.iload_n 0, 1) := by decide +kernel
theorem dJ6_bitCount_0f7a4_35 : decode cJ6_bitCount_0f7a4 35 = .ok (.iload_n 0, 1) := by decide +kernel
theorem dJ6_bitCount_0f7a4_36 : decode cJ6_bitCount_0f7a4 36 = .ok (.bipush 8, 2) := by decide +kernel
theorem dJ6_bitCount_0f7a4_38 : decode cJ6_bitCount_0f7a4 38 = .ok (.iushr, 1) := by decide +kernel
theorem dJ6_bitCount_0f7a4_39 : decode cJ6_bitCount_0f7a4 39 = .ok (.iadd, 1) := by decide +kernel
theorem dJ6_bitCount_0f7a4_40 : decode cJ6_bitCount_0f7a4 40 = .ok (.istore_n 0, 1) := by decide +kernel
theorem dJ6_bitCount_0f7a4_41 : decode cJ6_bitCount_0f7a4 41 = .ok (.iload_n 0, 1) := by decide +kernel
theorem dJ6_bitCount_0f7a4_42 : decode cJ6_bitCount_0f7a4 42 = .ok (.iload_n 0, 1) := by decide +kernel
theorem dJ6_bitCount_0f7a4_43 : decode cJ6_bitCount_0f7a4 43 = .ok (.bipush 16, 2) := by decide +kernel
theorem dJ6_bitCount_0f7a4_45 : decode cJ6_bitCount_0f7a4 45 = .ok (.iushr, 1) := by decide +kernel
theorem dJ6_bitCount_0f7a4_46 : decode cJ6_bitCount_0f7a4 46 = .ok (.iadd, 1) := by decide +kernel
theorem dJ6_bitCount_0f7a4_47 : decode cJ6_bitCount_0f7a4 47 = .ok (.istore_n 0, 1) := by decide +kernel
theorem dJ6_bitCount_0f7a4_48 : decode cJ6_bitCount_0f7a4 48 = .ok (.iload_n 0, 1) := by decide +kernel
theorem dJ6_bitCount_0f7a4_49 : decode cJ6_bitCount_0f7a4 49 = .ok (.bipush 63, 2) := by decide +kernel
theorem dJ6_bitCount_0f7a4_51 : decode cJ6_bitCount_0f7a4 51 = .ok (.iand, 1) := by decide +kernel
theorem dJ6_bitCount_0f7a4_52 : decode cJ6_bitCount_0f7a4 52 = .ok (.ireturn, 1) := by decide +kernel
theorem dJ9_max_7cf53_0 : decode cJ9_max_7cf53 0 = .ok (.iload_n 0, 1) := by decide +kernel
theorem dJ9_max_7cf53_1 : decode cJ9_max_7cf53 1 = .ok (.iload_n 1, 1) := by decide +kernel
theorem dJ9_max_7cf53_2 : decode cJ9_max_7cf53 2 = .ok (.if_icmp .lt 7, 3) := by decide +kernel
theorem dJ9_max_7cf53_5 : decode cJ9_max_7cf53 5 = .ok (.iload_n 0, 1) := by decide +kernel
theorem dJ9_max_7cf53_6 : decode cJ9_max_7cf53 6 = .ok (.goto 4, 3) := by decide +kernel
theorem dJ9_max_7cf53_9 : decode cJ9_max_7cf53 9 = .ok (.iload_n 1, 1) := by decide +kernel
theorem dJ9_max_7cf53_10 : decode cJ9_max_7cf53 10 = .ok (.ireturn, 1) := by decide +kernel
theorem dJ9_min_7cf53_0 : decode cJ9_min_7cf53 0 = .ok (.iload_n 0, 1) := by decide +kernel
theorem dJ9_min_7cf53_1 : decode cJ9_min_7cf53 1 = .ok (.iload_n 1, 1) := by decide +kernel
theorem dJ9_min_7cf53_2 : decode cJ9_min_7cf53 2 = .ok (.if_icmp .gt 7, 3) := by decide +kernel
theorem dJ9_min_7cf53_5 : decode cJ9_min_7cf53 5 = .ok (.iload_n 0, 1) := by decide +kernel
theorem dJ9_min_7cf53_6 : decode cJ9_min_7cf53 6 = .ok (.goto 4, 3) := by decide +kernel
theorem dJ9_min_7cf53_9 : decode cJ9_min_7cf53 9 = .ok (.iload_n 1, 1) := by decide +kernel
theorem dJ9_min_7cf53_10 : decode cJ9_min_7cf53 10 = .ok (.ireturn, 1) := by decide +kernel
theorem dJ7_fill_53178_0 : decode cJ7_fill_53178 0 = .ok (.iconst 0, 1) := by decide +kernel
theorem dJ7_fill_53178_1 : decode cJ7_fill_53178 1 = .ok (.istore_n 2, 1) := by decide +kernel
theorem dJ7_fill_53178_2 : decode cJ7_fill_53178 2 = .ok (.aload_n 0, 1) := by decide +kernel
theorem dJ7_fill_53178_3 : decode cJ7_fill_53178 3 = .ok (.arraylength, 1) := by decide +kernel
theorem dJ7_fill_53178_4 : decode cJ7_fill_53178 4 = .ok (.istore_n 3, 1) := by decide +kernel
theorem dJ7_fill_53178_5 : decode cJ7_fill_53178 5 = .ok (.iload_n 2, 1) := by decide +kernel
theorem dJ7_fill_53178_6 : decode cJ7_fill_53178 6 = .ok (.iload_n 3, 1) := by decide +kernel
theorem dJ7_fill_53178_7 : decode cJ7_fill_53178 7 = .ok (.if_icmp .ge 13, 3) := by decide +kernel
theorem dJ7_fill_53178_10 : decode cJ7_fill_53178 10 = .ok (.aload_n 0, 1) := by decide +kernel
theorem dJ7_fill_53178_11 : decode cJ7_fill_53178 11 = .ok (.iload_n 2, 1) := by decide +kernel
theorem dJ7_fill_53178_12 : decode cJ7_fill_53178 12 = .ok (.iload_n 1, 1) := by decide +kernel
theorem dJ7_fill_53178_13 : decode cJ7_fill_53178 13 = .ok (.iastore, 1) := by decide +kernel
theorem dJ7_fill_53178_14 : decode cJ7_fill_53178 14 = .ok (.iinc 2 1, 3) := by decide +kernel
theorem dJ7_fill_53178_17 : decode cJ7_fill_53178 17 = .ok (.goto (-12), 3) := by decide +kernel
theorem dJ7_fill_53178_20 : decode cJ7_fill_53178 20 = .ok (.return_, 1) := by decide +kernel
