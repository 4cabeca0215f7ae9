set_option maxRecDepth 20000 in
theorem ggX4_init_X1_init : GoodIn wsX4_init wsX1_init := goodIn_r _ [16, 17, 2, 3, 4, 18, 25] (by decide +kernel) (by decide +kernel)
set_option maxRecDepth 20000 in
theorem gX4_init_X1_init : GoodIn wsX4_init (wsX1_init) := ggX4_init_X1_init
theorem dX4_init_0 : decode cX4_init 0 = .ok (.aload_n 0, 1) := by decide +kernel
theorem dX4_init_1 : decode cX4_init 1 = .ok (.invokespecial 3, 3) := by decide +kernel
theorem dX4_init_4 : decode cX4_init 4 = .ok (.aload_n 0, 1) := by decide +kernel
theorem dX4_init_5 : decode cX4_init 5 = .ok (.sipush 140, 3) := by decide +kernel
theorem dX4_init_8 : decode cX4_init 8 = .ok (.newarray .int, 2) := by decide +kernel
theorem dX4_init_10 : decode cX4_init 10 = .ok (.putfield 9, 3) := by decide +kernel
theorem dX4_init_13 : decode cX4_init 13 = .ok (.aload_n 0, 1) := by decide +kernel
theorem dX4_init_14 : decode cX4_init 14 = .ok (.iconst 0, 1) := by decide +kernel
theorem dX4_init_15 : decode cX4_init 15 = .ok (.putfield 15, 3) := by decide +kernel
theorem dX4_init_18 : decode cX4_init 18 = .ok (.aload_n 0, 1) := by decide +kernel
theorem dX4_init_19 : decode cX4_init 19 = .ok (.iconst 0, 1) := by decide +kernel
theorem dX4_init_20 : decode cX4_init 20 = .ok (.putfield 19, 3) := by decide +kernel
theorem dX4_init_23 : decode cX4_init 23 = .ok (.aload_n 0, 1) := by decide +kernel
theorem dX4_init_24 : decode cX4_init 24 = .ok (.iconst (-1), 1) := by decide +kernel
theorem dX4_init_25 : decode cX4_init 25 = .ok (.putfield 22, 3) := by decide +kernel
theorem dX4_init_28 : decode cX4_init 28 = .ok (.aload_n 0, 1) := by decide +kernel
theorem dX4_init_29 : decode cX4_init 29 = .ok (.new 25, 3) := by decide +kernel
theorem dX4_init_32 : decode cX4_init 32 = .ok (.dup, 1) := by decide +kernel
theorem dX4_init_33 : decode cX4_init 33 = .ok (.invokespecial 27, 3) := by decide +kernel
theorem dX4_init_36 : decode cX4_init 36 = .ok (.putfield 28, 3) := by decide +kernel
theorem dX4_init_39 : decode cX4_init 39 = .ok (.aload_n 0, 1) := by decide +kernel
theorem dX4_init_40 : decode cX4_init 40 = .ok (.new 25, 3) := by decide +kernel
theorem dX4_init_43 : decode cX4_init 43 = .ok (.dup, 1) := by decide +kernel
theorem dX4_init_44 : decode cX4_init 44 = .ok (.invokespecial 27, 3) := by decide +kernel
theorem dX4_init_47 : decode cX4_init 47 = .ok (.putfield 32, 3) := by decide +kernel
theorem dX4_init_50 : decode cX4_init 50 = .ok (.return_, 1) := by decide +kernel
theorem dX4_length_0 : decode cX4_length 0 = .ok (.aload_n 0, 1) := by decide +kernel
theorem dX4_length_1 : decode cX4_length 1 = .ok (.getfield 15, 3) := by decide +kernel
theorem dX4_length_4 : decode cX4_length 4 = .ok (.ireturn, 1) := by decide +kernel
theorem dX4_addCharacter_0 : decode cX4_addCharacter 0 = .ok (.aload_n 0, 1) := by decide +kernel
theorem dX4_addCharacter_1 : decode cX4_addCharacter 1 = .ok (.getfield 15, 3) := by decide +kernel
theorem dX4_addCharacter_4 : decode cX4_addCharacter 4 = .ok (.sipush 140, 3) := by decide +kernel
theorem dX4_addCharacter_7 : decode cX4_addCharacter 7 = .ok (.if_icmp .ge 23, 3) := by decide +kernel
theorem dX4_addCharacter_10 : decode cX4_addCharacter 10 = .ok (.aload_n 0, 1) := by decide +kernel
theorem dX4_addCharacter_11 : decode cX4_addCharacter 11 = .ok (.getfield 9, 3) := by decide +kernel
theorem dX4_addCharacter_14 : decode cX4_addCharacter 14 = .ok (.aload_n 0, 1) := by decide +kernel
theorem dX4_addCharacter_15 : decode cX4_addCharacter 15 = .ok (.getfield 15, 3) := by decide +kernel
theorem dX4_addCharacter_18 : decode cX4_addCharacter 18 = .ok (.iload_n 1, 1) := by decide +kernel
theorem dX4_addCharacter_19 : decode cX4_addCharacter 19 = .ok (.iastore, 1) := by decide +kernel
theorem dX4_addCharacter_20 : decode cX4_addCharacter 20 = .ok (.aload_n 0, 1) := by decide +kernel
theorem dX4_addCharacter_21 : decode cX4_addCharacter 21 = .ok (.dup, 1) := by decide +kernel
theorem dX4_addCharacter_22 : decode cX4_addCharacter 22 = .ok (.getfield 15, 3) := by decide +kernel
theorem dX4_addCharacter_25 : decode cX4_addCharacter 25 = .ok (.iconst 1, 1) := by decide +kernel
theorem dX4_addCharacter_26 : decode cX4_addCharacter 26 = .ok (.iadd, 1) := by decide +kernel
theorem dX4_addCharacter_27 : decode cX4_addCharacter 27 = .ok (.putfield 15, 3) := by decide +kernel
theorem dX4_addCharacter_30 : decode cX4_addCharacter 30 = .ok (.return_, 1) := by decide +kernel
theorem dX4_forgetText_0 : decode cX4_forgetText 0 = .ok (.aload_n 0, 1) := by decide +kernel
theorem dX4_forgetText_1 : decode cX4_forgetText 1 = .ok (.iconst 0, 1) := by decide +kernel
theorem dX4_forgetText_2 : decode cX4_forgetText 2 = .ok (.putfield 15, 3) := by decide +kernel
theorem dX4_forgetText_5 : decode cX4_forgetText 5 = .ok (.return_, 1) := by decide +kernel
set_option maxRecDepth 20000 in
theorem ggX4_handPictureTo_X1_becomeLike : GoodIn wsX4_handPictureTo wsX1_becomeLike := goodIn_r _ [9, 10, 11, 12, 13, 14, 26] (by decide +kernel) (by decide +kernel)
set_option maxRecDepth 20000 in
theorem gX4_handPictureTo_X1_becomeLike : GoodIn wsX4_handPictureTo (wsV RX4 38 RX1 yX1_becomeLike wsX1_becomeLike) := goodIn_app (goodIn_of _ (by decide +kernel)) ggX4_handPictureTo_X1_becomeLike
theorem dX4_handPictureTo_0 : decode cX4_handPictureTo 0 = .ok (.aload_n 1, 1) := by decide +kernel
theorem dX4_handPictureTo_1 : decode cX4_handPictureTo 1 = .ok (.getfield 35, 3) := by decide +kernel
theorem dX4_handPictureTo_4 : decode cX4_handPictureTo 4 = .ok (.aload_n 0, 1) := by decide +kernel
theorem dX4_handPictureTo_5 : decode cX4_handPictureTo 5 = .ok (.getfield 28, 3) := by decide +kernel
theorem dX4_handPictureTo_8 : decode cX4_handPictureTo 8 = .ok (.invokevirtual 38, 3) := by decide +kernel
theorem dX4_handPictureTo_11 : decode cX4_handPictureTo 11 = .ok (.aload_n 1, 1) := by decide +kernel
theorem dX4_handPictureTo_12 : decode cX4_handPictureTo 12 = .ok (.getfield 42, 3) := by decide +kernel
theorem dX4_handPictureTo_15 : decode cX4_handPictureTo 15 = .ok (.aload_n 0, 1) := by decide +kernel
theorem dX4_handPictureTo_16 : decode cX4_handPictureTo 16 = .ok (.getfield 32, 3) := by decide +kernel
theorem dX4_handPictureTo_19 : decode cX4_handPictureTo 19 = .ok (.invokevirtual 38, 3) := by decide +kernel
theorem dX4_handPictureTo_22 : decode cX4_handPictureTo 22 = .ok (.return_, 1) := by decide +kernel
set_option maxRecDepth 20000 in
theorem ggX4_readText_X1_becomeLike : GoodIn wsX4_readText wsX1_becomeLike := goodIn_r _ [12, 13, 14, 15, 16, 17, 74] (by decide +kernel) (by decide +kernel)
set_option maxRecDepth 20000 in
theorem gX4_readText_X1_becomeLike : GoodIn wsX4_readText (wsV RX4 38 RX1 yX1_becomeLike wsX1_becomeLike) := goodIn_app (goodIn_of _ (by decide +kernel)) ggX4_readText_X1_becomeLike
set_option maxRecDepth 20000 in
theorem ggX4_readText_X4_skipSpaces : GoodIn wsX4_readText wsX4_skipSpaces := goodIn_r _ [22, 5, 7, 23, 24, 25, 21, 26, 27, 63, 64, 65, 66, 67, 68] (by decide +kernel) (by decide +kernel)
set_option maxRecDepth 20000 in
theorem gX4_readText_X4_skipSpaces : GoodIn wsX4_readText (wsV RX4 43 RX4 yX4_skipSpaces wsX4_skipSpaces) := goodIn_app (goodIn_of _ (by decide +kernel)) ggX4_readText_X4_skipSpaces
set_option maxRecDepth 20000 in
theorem ggX4_readText_X4_readItem : GoodIn wsX4_readText wsX4_readItem := goodIn_r _ [31, 5, 32, 33, 34, 21, 35, 7, 36, 37, 38, 39, 23, 24, 25, 26, 27, 40, 41, 42, 43, 44, 45, 46, 47, 48, 49, 6, 18, 19, 20, 22, 50, 51, 52, 53, 1, 3, 54, 55, 56, 11, 57, 13, 58, 59, 60, 61, 62, 63, 64, 65, 66, 67, 68, 74] (by decide +kernel) (by decide +kernel)
set_option maxRecDepth 20000 in
theorem gX4_readText_X4_readItem : GoodIn wsX4_readText (wsV RX4 46 RX4 yX4_readItem wsX4_readItem) := goodIn_app (goodIn_of _ (by decide +kernel)) ggX4_readText_X4_readItem
theorem dX4_readText_0 : decode cX4_readText 0 = .ok (.aload_n 0, 1) := by decide +kernel
theorem dX4_readText_1 : decode cX4_readText 1 = .ok (.getfield 28, 3) := by decide +kernel
theorem dX4_readText_4 : decode cX4_readText 4 = .ok (.aload_n 1, 1) := by decide +kernel
theorem dX4_readText_5 : decode cX4_readText 5 = .ok (.getfield 35, 3) := by decide +kernel
theorem dX4_readText_8 : decode cX4_readText 8 = .ok (.invokevirtual 38, 3) := by decide +kernel
theorem dX4_readText_11 : decode cX4_readText 11 = .ok (.aload_n 0, 1) := by decide +kernel
theorem dX4_readText_12 : decode cX4_readText 12 = .ok (.getfield 32, 3) := by decide +kernel
theorem dX4_readText_15 : decode cX4_readText 15 = .ok (.aload_n 1, 1) := by decide +kernel
theorem dX4_readText_16 : decode cX4_readText 16 = .ok (.getfield 42, 3) := by decide +kernel
theorem dX4_readText_19 : decode cX4_readText 19 = .ok (.invokevirtual 38, 3) := by decide +kernel
theorem dX4_readText_22 : decode cX4_readText 22 = .ok (.aload_n 0, 1) := by decide +kernel
theorem dX4_readText_23 : decode cX4_readText 23 = .ok (.iconst 0, 1) := by decide +kernel
theorem dX4_readText_24 : decode cX4_readText 24 = .ok (.putfield 19, 3) := by decide +kernel
theorem dX4_readText_27 : decode cX4_readText 27 = .ok (.aload_n 0, 1) := by decide +kernel
theorem dX4_readText_28 : decode cX4_readText 28 = .ok (.iconst (-1), 1) := by decide +kernel
theorem dX4_readText_29 : decode cX4_readText 29 = .ok (.putfield 22, 3) := by decide +kernel
theorem dX4_readText_32 : decode cX4_readText 32 = .ok (.iconst 0, 1) := by decide +kernel
theorem dX4_readText_33 : decode cX4_readText 33 = .ok (.istore_n 2, 1) := by decide +kernel
theorem dX4_readText_34 : decode cX4_readText 34 = .ok (.iload_n 2, 1) := by decide +kernel
theorem dX4_readText_35 : decode cX4_readText 35 = .ok (.sipush 140, 3) := by decide +kernel
theorem dX4_readText_38 : decode cX4_readText 38 = .ok (.if_icmp .gt 46, 3) := by decide +kernel
theorem dX4_readText_41 : decode cX4_readText 41 = .ok (.aload_n 0, 1) := by decide +kernel
theorem dX4_readText_42 : decode cX4_readText 42 = .ok (.invokevirtual 43, 3) := by decide +kernel
theorem dX4_readText_45 : decode cX4_readText 45 = .ok (.aload_n 0, 1) := by decide +kernel
theorem dX4_readText_46 : decode cX4_readText 46 = .ok (.getfield 19, 3) := by decide +kernel
theorem dX4_readText_49 : decode cX4_readText 49 = .ok (.aload_n 0, 1) := by decide +kernel
theorem dX4_readText_50 : decode cX4_readText 50 = .ok (.getfield 15, 3) := by decide +kernel
theorem dX4_readText_53 : decode cX4_readText 53 = .ok (.if_icmp .lt 5, 3) := by decide +kernel
theorem dX4_readText_56 : decode cX4_readText 56 = .ok (.iload_n 2, 1) := by decide +kernel
theorem dX4_readText_57 : decode cX4_readText 57 = .ok (.ireturn, 1) := by decide +kernel
theorem dX4_readText_58 : decode cX4_readText 58 = .ok (.aload_n 0, 1) := by decide +kernel
theorem dX4_readText_59 : decode cX4_readText 59 = .ok (.invokevirtual 46, 3) := by decide +kernel
theorem dX4_readText_62 : decode cX4_readText 62 = .ok (.aload_n 0, 1) := by decide +kernel
theorem dX4_readText_63 : decode cX4_readText 63 = .ok (.getfield 22, 3) := by decide +kernel
theorem dX4_readText_66 : decode cX4_readText 66 = .ok (.ifCond .lt 12, 3) := by decide +kernel
theorem dX4_readText_69 : decode cX4_readText 69 = .ok (.sipush (-2000), 3) := by decide +kernel
theorem dX4_readText_72 : decode cX4_readText 72 = .ok (.aload_n 0, 1) := by decide +kernel
theorem dX4_readText_73 : decode cX4_readText 73 = .ok (.getfield 22, 3) := by decide +kernel
theorem dX4_readText_76 : decode cX4_readText 76 = .ok (.isub, 1) := by decide +kernel
theorem dX4_readText_77 : decode cX4_readText 77 = .ok (.ireturn, 1) := by decide +kernel
theorem dX4_readText_78 : decode cX4_readText 78 = .ok (.iinc 2 1, 3) := by decide +kernel
theorem dX4_readText_81 : decode cX4_readText 81 = .ok (.goto (-47), 3) := by decide +kernel
theorem dX4_readText_84 : decode cX4_readText 84 = .ok (.sipush (-2000), 3) := by decide +kernel
theorem dX4_readText_87 : decode cX4_readText 87 = .ok (.aload_n 0, 1) := by decide +kernel
theorem dX4_readText_88 : decode cX4_readText 88 = .ok (.getfield 15, 3) := by decide +kernel
theorem dX4_readText_91 : decode cX4_readText 91 = .ok (.isub, 1) := by decide +kernel
theorem dX4_readText_92 : decode cX4_readText 92 = .ok (.ireturn, 1) := by decide +kernel
set_option maxRecDepth 20000 in
theorem ggX4_readItem_X4_readNumber : GoodIn wsX4_readItem wsX4_readNumber := goodIn_r _ [6, 1, 7, 8, 9, 10, 11, 12, 13, 14, 5, 15, 16, 17, 18, 19, 20, 21, 22, 23, 24, 25, 26, 27, 49, 50, 51, 52, 53, 54] (by decide +kernel) (by decide +kernel)
set_option maxRecDepth 20000 in
theorem gX4_readItem_X4_readNumber : GoodIn wsX4_readItem (wsV RX4 49 RX4 yX4_readNumber wsX4_readNumber) := goodIn_app (goodIn_of _ (by decide +kernel)) ggX4_readItem_X4_readNumber
set_option maxRecDepth 20000 in
theorem ggX4_readItem_X4_skipSpaces : GoodIn wsX4_readItem wsX4_skipSpaces := goodIn_r _ [31, 1, 7, 12, 13, 14, 5, 15, 16, 49, 50, 51, 52, 53, 54] (by decide +kernel) (by decide +kernel)
set_option maxRecDepth 20000 in
theorem gX4_readItem_X4_skipSpaces : GoodIn wsX4_readItem (wsV RX4 43 RX4 yX4_skipSpaces wsX4_skipSpaces) := goodIn_app (goodIn_of _ (by decide +kernel)) ggX4_readItem_X4_skipSpaces
set_option maxRecDepth 20000 in
theorem ggX4_readItem_X4_here : GoodIn wsX4_readItem wsX4_here := goodIn_r _ [15, 1, 7, 16, 49, 50, 51, 52, 53, 54] (by decide +kernel) (by decide +kernel)
set_option maxRecDepth 20000 in
theorem gX4_readItem_X4_here : GoodIn wsX4_readItem (wsV RX4 53 RX4 yX4_here wsX4_here) := goodIn_app (goodIn_of _ (by decide +kernel)) ggX4_readItem_X4_here
set_option maxRecDepth 20000 in
theorem ggX4_readItem_X4_failAt : GoodIn wsX4_readItem wsX4_failAt := goodIn_r _ [26, 27, 49, 50, 51, 52, 53, 54] (by decide +kernel) (by decide +kernel)
set_option maxRecDepth 20000 in
theorem gX4_readItem_X4_failAt : GoodIn wsX4_readItem (wsV RX4 57 RX4 yX4_failAt wsX4_failAt) := goodIn_app (goodIn_of _ (by decide +kernel)) ggX4_readItem_X4_failAt
set_option maxRecDepth 20000 in
theorem ggX4_readItem_X4_readRuns : GoodIn wsX4_readItem wsX4_readRuns := goodIn_r _ [35, 1, 36, 37, 27, 28, 29, 30, 5, 31, 7, 12, 13, 14, 15, 16, 38, 39, 40, 41, 42, 43, 44, 2, 3, 4, 6, 8, 9, 10, 11, 17, 18, 19, 20, 21, 22, 23, 24, 25, 26, 45, 46, 47, 48, 49, 50, 51, 52, 53, 54, 55] (by decide +kernel) (by decide +kernel)
set_option maxRecDepth 20000 in
theorem gX4_readItem_X4_readRuns : GoodIn wsX4_readItem (wsV RX4 61 RX4 yX4_readRuns wsX4_readRuns) := goodIn_app (goodIn_of _ (by decide +kernel)) ggX4_readItem_X4_readRuns
theorem dX4_readItem_0 : decode cX4_readItem 0 = .ok (.aload_n 0, 1) := by decide +kernel
theorem dX4_readItem_1 : decode cX4_readItem 1 = .ok (.iconst 0, 1) := by decide +kernel
theorem dX4_readItem_2 : decode cX4_readItem 2 = .ok (.bipush 11, 2) := by decide +kernel
theorem dX4_readItem_4 : decode cX4_readItem 4 = .ok (.invokevirtual 49, 3) := by decide +kernel
theorem dX4_readItem_7 : decode cX4_readItem 7 = .ok (.istore_n 1, 1) := by decide +kernel
theorem dX4_readItem_8 : decode cX4_readItem 8 = .ok (.iload_n 1, 1) := by decide +kernel
theorem dX4_readItem_9 : decode cX4_readItem 9 = .ok (.iconst (-1), 1) := by decide +kernel
theorem dX4_readItem_10 : decode cX4_readItem 10 = .ok (.if_icmp .ne 4, 3) := by decide +kernel
theorem dX4_readItem_13 : decode cX4_readItem 13 = .ok (.return_, 1) := by decide +kernel
theorem dX4_readItem_14 : decode cX4_readItem 14 = .ok (.aload_n 0, 1) := by decide +kernel
theorem dX4_readItem_15 : decode cX4_readItem 15 = .ok (.invokevirtual 43, 3) := by decide +kernel
theorem dX4_readItem_18 : decode cX4_readItem 18 = .ok (.aload_n 0, 1) := by decide +kernel
theorem dX4_readItem_19 : decode cX4_readItem 19 = .ok (.invokevirtual 53, 3) := by decide +kernel
theorem dX4_readItem_22 : decode cX4_readItem 22 = .ok (.bipush 58, 2) := by decide +kernel
theorem dX4_readItem_24 : decode cX4_readItem 24 = .ok (.if_icmp .eq 12, 3) := by decide +kernel
theorem dX4_readItem_27 : decode cX4_readItem 27 = .ok (.aload_n 0, 1) := by decide +kernel
theorem dX4_readItem_28 : decode cX4_readItem 28 = .ok (.aload_n 0, 1) := by decide +kernel
theorem dX4_readItem_29 : decode cX4_readItem 29 = .ok (.getfield 19, 3) := by decide +kernel
theorem dX4_readItem_32 : decode cX4_readItem 32 = .ok (.invokevirtual 57, 3) := by decide +kernel
theorem dX4_readItem_35 : decode cX4_readItem 35 = .ok (.return_, 1) := by decide +kernel
theorem dX4_readItem_36 : decode cX4_readItem 36 = .ok (.aload_n 0, 1) := by decide +kernel
theorem dX4_readItem_37 : decode cX4_readItem 37 = .ok (.dup, 1) := by decide +kernel
theorem dX4_readItem_38 : decode cX4_readItem 38 = .ok (.getfield 19, 3) := by decide +kernel
theorem dX4_readItem_41 : decode cX4_readItem 41 = .ok (.iconst 1, 1) := by decide +kernel
theorem dX4_readItem_42 : decode cX4_readItem 42 = .ok (.iadd, 1) := by decide +kernel
theorem dX4_readItem_43 : decode cX4_readItem 43 = .ok (.putfield 19, 3) := by decide +kernel
theorem dX4_readItem_46 : decode cX4_readItem 46 = .ok (.aload_n 0, 1) := by decide +kernel
theorem dX4_readItem_47 : decode cX4_readItem 47 = .ok (.iload_n 1, 1) := by decide +kernel
theorem dX4_readItem_48 : decode cX4_readItem 48 = .ok (.invokevirtual 61, 3) := by decide +kernel
theorem dX4_readItem_51 : decode cX4_readItem 51 = .ok (.return_, 1) := by decide +kernel
set_option maxRecDepth 20000 in
theorem ggX4_readRuns_X4_skipSpaces : GoodIn wsX4_readRuns wsX4_skipSpaces := goodIn_r _ [9, 1, 10, 11, 12, 13, 8, 14, 15, 45, 46, 47, 48, 49, 50] (by decide +kernel) (by decide +kernel)
set_option maxRecDepth 20000 in
theorem gX4_readRuns_X4_skipSpaces : GoodIn wsX4_readRuns (wsV RX4 43 RX4 yX4_skipSpaces wsX4_skipSpaces) := goodIn_app (goodIn_of _ (by decide +kernel)) ggX4_readRuns_X4_skipSpaces
set_option maxRecDepth 20000 in
theorem ggX4_readRuns_X4_here : GoodIn wsX4_readRuns wsX4_here := goodIn_r _ [14, 1, 10, 15, 45, 46, 47, 48, 49, 50] (by decide +kernel) (by decide +kernel)
set_option maxRecDepth 20000 in
theorem gX4_readRuns_X4_here : GoodIn wsX4_readRuns (wsV RX4 53 RX4 yX4_here wsX4_here) := goodIn_app (goodIn_of _ (by decide +kernel)) ggX4_readRuns_X4_here
set_option maxRecDepth 20000 in
theorem ggX4_readRuns_X1_putRow : GoodIn wsX4_readRuns wsX1_putRow := goodIn_r _ [20, 21, 22, 51] (by decide +kernel) (by decide +kernel)
set_option maxRecDepth 20000 in
theorem gX4_readRuns_X1_putRow : GoodIn wsX4_readRuns (wsV RX4 64 RX1 yX1_putRow wsX1_putRow) := goodIn_app (goodIn_of _ (by decide +kernel)) ggX4_readRuns_X1_putRow
set_option maxRecDepth 20000 in
theorem ggX4_readRuns_X4_readNumber : GoodIn wsX4_readRuns wsX4_readNumber := goodIn_r _ [26, 1, 10, 27, 28, 29, 30, 11, 12, 13, 8, 14, 15, 31, 32, 33, 34, 35, 36, 37, 38, 39, 40, 4, 45, 46, 47, 48, 49, 50] (by decide +kernel) (by decide +kernel)
set_option maxRecDepth 20000 in
theorem gX4_readRuns_X4_readNumber : GoodIn wsX4_readRuns (wsV RX4 49 RX4 yX4_readNumber wsX4_readNumber) := goodIn_app (goodIn_of _ (by decide +kernel)) ggX4_readRuns_X4_readNumber
set_option maxRecDepth 20000 in
theorem ggX4_readRuns_X4_readKind : GoodIn wsX4_readRuns wsX4_readKind := goodIn_r _ [44, 1, 5, 6, 7, 8, 9, 10, 11, 12, 13, 14, 15, 37, 38, 39, 40, 4, 45, 46, 47, 48, 49, 50] (by decide +kernel) (by decide +kernel)
set_option maxRecDepth 20000 in
theorem gX4_readRuns_X4_readKind : GoodIn wsX4_readRuns (wsV RX4 68 RX4 yX4_readKind wsX4_readKind) := goodIn_app (goodIn_of _ (by decide +kernel)) ggX4_readRuns_X4_readKind
theorem dX4_readRuns_0 : decode cX4_readRuns 0 = .ok (.iconst 0, 1) := by decide +kernel
theorem dX4_readRuns_1 : decode cX4_readRuns 1 = .ok (.istore_n 2, 1) := by decide +kernel
theorem dX4_readRuns_2 : decode cX4_readRuns 2 = .ok (.iconst 0, 1) := by decide +kernel
theorem dX4_readRuns_3 : decode cX4_readRuns 3 = .ok (.istore_n 3, 1) := by decide +kernel
theorem dX4_readRuns_4 : decode cX4_readRuns 4 = .ok (.iconst 0, 1) := by decide +kernel
theorem dX4_readRuns_5 : decode cX4_readRuns 5 = .ok (.istore 4, 2) := by decide +kernel
theorem dX4_readRuns_7 : decode cX4_readRuns 7 = .ok (.iconst 0, 1) := by decide +kernel
theorem dX4_readRuns_8 : decode cX4_readRuns 8 = .ok (.istore 5, 2) := by decide +kernel
theorem dX4_readRuns_10 : decode cX4_readRuns 10 = .ok (.iload 5, 2) := by decide +kernel
theorem dX4_readRuns_12 : decode cX4_readRuns 12 = .ok (.bipush 16, 2) := by decide +kernel
theorem dX4_readRuns_14 : decode cX4_readRuns 14 = .ok (.if_icmp .gt 137, 3) := by decide +kernel
theorem dX4_readRuns_17 : decode cX4_readRuns 17 = .ok (.aload_n 0, 1) := by decide +kernel
theorem dX4_readRuns_18 : decode cX4_readRuns 18 = .ok (.invokevirtual 43, 3) := by decide +kernel
theorem dX4_readRuns_21 : decode cX4_readRuns 21 = .ok (.aload_n 0, 1) := by decide +kernel
theorem dX4_readRuns_22 : decode cX4_readRuns 22 = .ok (.invokevirtual 53, 3) := by decide +kernel
theorem dX4_readRuns_25 : decode cX4_readRuns 25 = .ok (.bipush 59, 2) := by decide +kernel
theorem dX4_readRuns_27 : decode cX4_readRuns 27 = .ok (.if_icmp .ne 39, 3) := by decide +kernel
theorem dX4_readRuns_30 : decode cX4_readRuns 30 = .ok (.iload_n 2, 1) := by decide +kernel
theorem dX4_readRuns_31 : decode cX4_readRuns 31 = .ok (.bipush 16, 2) := by decide +kernel
theorem dX4_readRuns_33 : decode cX4_readRuns 33 = .ok (.if_icmp .ne 33, 3) := by decide +kernel
theorem dX4_readRuns_36 : decode cX4_readRuns 36 = .ok (.aload_n 0, 1) := by decide +kernel
theorem dX4_readRuns_37 : decode cX4_readRuns 37 = .ok (.dup, 1) := by decide +kernel
theorem dX4_readRuns_38 : decode cX4_readRuns 38 = .ok (.getfield 19, 3) := by decide +kernel
theorem dX4_readRuns_41 : decode cX4_readRuns 41 = .ok (.iconst 1, 1) := by decide +kernel
theorem dX4_readRuns_42 : decode cX4_readRuns 42 = .ok (.iadd, 1) := by decide +kernel
theorem dX4_readRuns_43 : decode cX4_readRuns 43 = .ok (.putfield 19, 3) := by decide +kernel
theorem dX4_readRuns_46 : decode cX4_readRuns 46 = .ok (.aload_n 0, 1) := by decide +kernel
theorem dX4_readRuns_47 : decode cX4_readRuns 47 = .ok (.getfield 28, 3) := by decide +kernel
theorem dX4_readRuns_50 : decode cX4_readRuns 50 = .ok (.iload_n 1, 1) := by decide +kernel
theorem dX4_readRuns_51 : decode cX4_readRuns 51 = .ok (.iload_n 3, 1) := by decide +kernel
theorem dX4_readRuns_52 : decode cX4_readRuns 52 = .ok (.invokevirtual 64, 3) := by decide +kernel
theorem dX4_readRuns_55 : decode cX4_readRuns 55 = .ok (.aload_n 0, 1) := by decide +kernel
theorem dX4_readRuns_56 : decode cX4_readRuns 56 = .ok (.getfield 32, 3) := by decide +kernel
theorem dX4_readRuns_59 : decode cX4_readRuns 59 = .ok (.iload_n 1, 1) := by decide +kernel
theorem dX4_readRuns_60 : decode cX4_readRuns 60 = .ok (.iload 4, 2) := by decide +kernel
theorem dX4_readRuns_62 : decode cX4_readRuns 62 = .ok (.invokevirtual 64, 3) := by decide +kernel
theorem dX4_readRuns_65 : decode cX4_readRuns 65 = .ok (.return_, 1) := by decide +kernel
theorem dX4_readRuns_66 : decode cX4_readRuns 66 = .ok (.aload_n 0, 1) := by decide +kernel
theorem dX4_readRuns_67 : decode cX4_readRuns 67 = .ok (.iconst 1, 1) := by decide +kernel
theorem dX4_readRuns_68 : decode cX4_readRuns 68 = .ok (.bipush 16, 2) := by decide +kernel
theorem dX4_readRuns_70 : decode cX4_readRuns 70 = .ok (.iload_n 2, 1) := by decide +kernel
theorem dX4_readRuns_71 : decode cX4_readRuns 71 = .ok (.isub, 1) := by decide +kernel
theorem dX4_readRuns_72 : decode cX4_readRuns 72 = .ok (.invokevirtual 49, 3) := by decide +kernel
theorem dX4_readRuns_75 : decode cX4_readRuns 75 = .ok (.istore 6, 2) := by decide +kernel
theorem dX4_readRuns_77 : decode cX4_readRuns 77 = .ok (.iload 6, 2) := by decide +kernel
theorem dX4_readRuns_79 : decode cX4_readRuns 79 = .ok (.iconst (-1), 1) := by decide +kernel
theorem dX4_readRuns_80 : decode cX4_readRuns 80 = .ok (.if_icmp .ne 4, 3) := by decide +kernel
theorem dX4_readRuns_83 : decode cX4_readRuns 83 = .ok (.return_, 1) := by decide +kernel
theorem dX4_readRuns_84 : decode cX4_readRuns 84 = .ok (.aload_n 0, 1) := by decide +kernel
theorem dX4_readRuns_85 : decode cX4_readRuns 85 = .ok (.invokevirtual 68, 3) := by decide +kernel
theorem dX4_readRuns_88 : decode cX4_readRuns 88 = .ok (.istore 7, 2) := by decide +kernel
theorem dX4_readRuns_90 : decode cX4_readRuns 90 = .ok (.aload_n 0, 1) := by decide +kernel
theorem dX4_readRuns_91 : decode cX4_readRuns 91 = .ok (.getfield 22, 3) := by decide +kernel
theorem dX4_readRuns_94 : decode cX4_readRuns 94 = .ok (.ifCond .lt 4, 3) := by decide +kernel
theorem dX4_readRuns_97 : decode cX4_readRuns 97 = .ok (.return_, 1) := by decide +kernel
theorem dX4_readRuns_98 : decode cX4_readRuns 98 = .ok (.iconst 1, 1) := by decide +kernel
theorem dX4_readRuns_99 : decode cX4_readRuns 99 = .ok (.iload 6, 2) := by decide +kernel
theorem dX4_readRuns_101 : decode cX4_readRuns 101 = .ok (.ishl, 1) := by decide +kernel
theorem dX4_readRuns_102 : decode cX4_readRuns 102 = .ok (.iconst 1, 1) := by decide +kernel
theorem dX4_readRuns_103 : decode cX4_readRuns 103 = .ok (.isub, 1) := by decide +kernel
theorem dX4_readRuns_104 : decode cX4_readRuns 104 = .ok (.iload_n 2, 1) := by decide +kernel
theorem dX4_readRuns_105 : decode cX4_readRuns 105 = .ok (.ishl, 1) := by decide +kernel
theorem dX4_readRuns_106 : decode cX4_readRuns 106 = .ok (.istore 8, 2) := by decide +kernel
theorem dX4_readRuns_108 : decode cX4_readRuns 108 = .ok (.iload_n 3, 1) := by decide +kernel
theorem dX4_readRuns_109 : decode cX4_readRuns 109 = .ok (.iload 7, 2) := by decide +kernel
theorem dX4_readRuns_111 : decode cX4_readRuns 111 = .ok (.iconst 1, 1) := by decide +kernel
theorem dX4_readRuns_112 : decode cX4_readRuns 112 = .ok (.if_icmp .ne 8, 3) := by decide +kernel
theorem dX4_readRuns_115 : decode cX4_readRuns 115 = .ok (.iload 8, 2) := by decide +kernel
theorem dX4_readRuns_117 : decode cX4_readRuns 117 = .ok (.goto 4, 3) := by decide +kernel
theorem dX4_readRuns_120 : decode cX4_readRuns 120 = .ok (.iconst 0, 1) := by decide +kernel
theorem dX4_readRuns_121 : decode cX4_readRuns 121 = .ok (.ior, 1) := by decide +kernel
theorem dX4_readRuns_122 : decode cX4_readRuns 122 = .ok (.istore_n 3, 1) := by decide +kernel
theorem dX4_readRuns_123 : decode cX4_readRuns 123 = .ok (.iload 4, 2) := by decide +kernel
theorem dX4_readRuns_125 : decode cX4_readRuns 125 = .ok (.iload 7, 2) := by decide +kernel
theorem dX4_readRuns_127 : decode cX4_readRuns 127 = .ok (.iconst 2, 1) := by decide +kernel
theorem dX4_readRuns_128 : decode cX4_readRuns 128 = .ok (.if_icmp .ne 8, 3) := by decide +kernel
theorem dX4_readRuns_131 : decode cX4_readRuns 131 = .ok (.iload 8, 2) := by decide +kernel
theorem dX4_readRuns_133 : decode cX4_readRuns 133 = .ok (.goto 4, 3) := by decide +kernel
theorem dX4_readRuns_136 : decode cX4_readRuns 136 = .ok (.iconst 0, 1) := by decide +kernel
theorem dX4_readRuns_137 : decode cX4_readRuns 137 = .ok (.ior, 1) := by decide +kernel
theorem dX4_readRuns_138 : decode cX4_readRuns 138 = .ok (.istore 4, 2) := by decide +kernel
theorem dX4_readRuns_140 : decode cX4_readRuns 140 = .ok (.iload_n 2, 1) := by decide +kernel
theorem dX4_readRuns_141 : decode cX4_readRuns 141 = .ok (.iload 6, 2) := by decide +kernel
theorem dX4_readRuns_143 : decode cX4_readRuns 143 = .ok (.iadd, 1) := by decide +kernel
theorem dX4_readRuns_144 : decode cX4_readRuns 144 = .ok (.istore_n 2, 1) := by decide +kernel
theorem dX4_readRuns_145 : decode cX4_readRuns 145 = .ok (.iinc 5 1, 3) := by decide +kernel
theorem dX4_readRuns_148 : decode cX4_readRuns 148 = .ok (.goto (-138), 3) := by decide +kernel
theorem dX4_readRuns_151 : decode cX4_readRuns 151 = .ok (.return_, 1) := by decide +kernel
set_option maxRecDepth 20000 in
theorem ggX4_readKind_X4_skipSpaces : GoodIn wsX4_readKind wsX4_skipSpaces := goodIn_r _ [6, 1, 7, 8, 9, 10, 5, 11, 12, 18, 19, 20, 21, 22, 23] (by decide +kernel) (by decide +kernel)
set_option maxRecDepth 20000 in
theorem gX4_readKind_X4_skipSpaces : GoodIn wsX4_readKind (wsV RX4 43 RX4 yX4_skipSpaces wsX4_skipSpaces) := goodIn_app (goodIn_of _ (by decide +kernel)) ggX4_readKind_X4_skipSpaces
set_option maxRecDepth 20000 in
theorem ggX4_readKind_X4_here : GoodIn wsX4_readKind wsX4_here := goodIn_r _ [11, 1, 7, 12, 18, 19, 20, 21, 22, 23] (by decide +kernel) (by decide +kernel)
set_option maxRecDepth 20000 in
theorem gX4_readKind_X4_here : GoodIn wsX4_readKind (wsV RX4 53 RX4 yX4_here wsX4_here) := goodIn_app (goodIn_of _ (by decide +kernel)) ggX4_readKind_X4_here
set_option maxRecDepth 20000 in
theorem ggX4_readKind_X4_failAt : GoodIn wsX4_readKind wsX4_failAt := goodIn_r _ [16, 17, 18, 19, 20, 21, 22, 23] (by decide +kernel) (by decide +kernel)
set_option maxRecDepth 20000 in
theorem gX4_readKind_X4_failAt : GoodIn wsX4_readKind (wsV RX4 57 RX4 yX4_failAt wsX4_failAt) := goodIn_app (goodIn_of _ (by decide +kernel)) ggX4_readKind_X4_failAt
theorem dX4_readKind_0 : decode cX4_readKind 0 = .ok (.aload_n 0, 1) := by decide +kernel
theorem dX4_readKind_1 : decode cX4_readKind 1 = .ok (.invokevirtual 43, 3) := by decide +kernel
theorem dX4_readKind_4 : decode cX4_readKind 4 = .ok (.aload_n 0, 1) := by decide +kernel
theorem dX4_readKind_5 : decode cX4_readKind 5 = .ok (.invokevirtual 53, 3) := by decide +kernel
theorem dX4_readKind_8 : decode cX4_readKind 8 = .ok (.istore_n 1, 1) := by decide +kernel
theorem dX4_readKind_9 : decode cX4_readKind 9 = .ok (.iload_n 1, 1) := by decide +kernel
theorem dX4_readKind_10 : decode cX4_readKind 10 = .ok (.bipush 119, 2) := by decide +kernel
theorem dX4_readKind_12 : decode cX4_readKind 12 = .ok (.if_icmp .eq 25, 3) := by decide +kernel
theorem dX4_readKind_15 : decode cX4_readKind 15 = .ok (.iload_n 1, 1) := by decide +kernel
theorem dX4_readKind_16 : decode cX4_readKind 16 = .ok (.bipush 99, 2) := by decide +kernel
theorem dX4_readKind_18 : decode cX4_readKind 18 = .ok (.if_icmp .eq 19, 3) := by decide +kernel
theorem dX4_readKind_21 : decode cX4_readKind 21 = .ok (.iload_n 1, 1) := by decide +kernel
theorem dX4_readKind_22 : decode cX4_readKind 22 = .ok (.bipush 108, 2) := by decide +kernel
theorem dX4_readKind_24 : decode cX4_readKind 24 = .ok (.if_icmp .eq 13, 3) := by decide +kernel
theorem dX4_readKind_27 : decode cX4_readKind 27 = .ok (.aload_n 0, 1) := by decide +kernel
theorem dX4_readKind_28 : decode cX4_readKind 28 = .ok (.aload_n 0, 1) := by decide +kernel
theorem dX4_readKind_29 : decode cX4_readKind 29 = .ok (.getfield 19, 3) := by decide +kernel
theorem dX4_readKind_32 : decode cX4_readKind 32 = .ok (.invokevirtual 57, 3) := by decide +kernel
theorem dX4_readKind_35 : decode cX4_readKind 35 = .ok (.iconst 0, 1) := by decide +kernel
theorem dX4_readKind_36 : decode cX4_readKind 36 = .ok (.ireturn, 1) := by decide +kernel
theorem dX4_readKind_37 : decode cX4_readKind 37 = .ok (.aload_n 0, 1) := by decide +kernel
theorem dX4_readKind_38 : decode cX4_readKind 38 = .ok (.dup, 1) := by decide +kernel
theorem dX4_readKind_39 : decode cX4_readKind 39 = .ok (.getfield 19, 3) := by decide +kernel
theorem dX4_readKind_42 : decode cX4_readKind 42 = .ok (.iconst 1, 1) := by decide +kernel
theorem dX4_readKind_43 : decode cX4_readKind 43 = .ok (.iadd, 1) := by decide +kernel
theorem dX4_readKind_44 : decode cX4_readKind 44 = .ok (.putfield 19, 3) := by decide +kernel
theorem dX4_readKind_47 : decode cX4_readKind 47 = .ok (.iload_n 1, 1) := by decide +kernel
theorem dX4_readKind_48 : decode cX4_readKind 48 = .ok (.bipush 119, 2) := by decide +kernel
theorem dX4_readKind_50 : decode cX4_readKind 50 = .ok (.if_icmp .ne 5, 3) := by decide +kernel
theorem dX4_readKind_53 : decode cX4_readKind 53 = .ok (.iconst 0, 1) := by decide +kernel
theorem dX4_readKind_54 : decode cX4_readKind 54 = .ok (.ireturn, 1) := by decide +kernel
theorem dX4_readKind_55 : decode cX4_readKind 55 = .ok (.iload_n 1, 1) := by decide +kernel
theorem dX4_readKind_56 : decode cX4_readKind 56 = .ok (.bipush 99, 2) := by decide +kernel
theorem dX4_readKind_58 : decode cX4_readKind 58 = .ok (.if_icmp .ne 7, 3) := by decide +kernel
theorem dX4_readKind_61 : decode cX4_readKind 61 = .ok (.iconst 1, 1) := by decide +kernel
theorem dX4_readKind_62 : decode cX4_readKind 62 = .ok (.goto 4, 3) := by decide +kernel
theorem dX4_readKind_65 : decode cX4_readKind 65 = .ok (.iconst 2, 1) := by decide +kernel
theorem dX4_readKind_66 : decode cX4_readKind 66 = .ok (.ireturn, 1) := by decide +kernel
set_option maxRecDepth 20000 in
theorem ggX4_readNumber_X4_here : GoodIn wsX4_readNumber wsX4_here := goodIn_r _ [11, 1, 2, 12, 24, 25, 26, 27, 28, 29] (by decide +kernel) (by decide +kernel)
set_option maxRecDepth 20000 in
theorem gX4_readNumber_X4_here : GoodIn wsX4_readNumber (wsV RX4 53 RX4 yX4_here wsX4_here) := goodIn_app (goodIn_of _ (by decide +kernel)) ggX4_readNumber_X4_here
set_option maxRecDepth 20000 in
theorem ggX4_readNumber_X4_isDigit : GoodIn wsX4_readNumber wsX4_isDigit := goodIn_r _ [15] (by decide +kernel) (by decide +kernel)
set_option maxRecDepth 20000 in
theorem gX4_readNumber_X4_isDigit : GoodIn wsX4_readNumber (va_wsS RX4 71 yX4_isDigit wsX4_isDigit) := goodIn_app (goodIn_of _ (by decide +kernel)) ggX4_readNumber_X4_isDigit
set_option maxRecDepth 20000 in
theorem ggX4_readNumber_X6_isWithin : GoodIn wsX4_readNumber wsX6_isWithin := goodIn_r _ [18] (by decide +kernel) (by decide +kernel)
set_option maxRecDepth 20000 in
theorem gX4_readNumber_X6_isWithin_n80 : GoodIn wsX4_readNumber (wsX6_isWithin) := ggX4_readNumber_X6_isWithin
set_option maxRecDepth 20000 in
theorem ggX4_readNumber_X4_failAt : GoodIn wsX4_readNumber wsX4_failAt := goodIn_r _ [22, 23, 24, 25, 26, 27, 28, 29] (by decide +kernel) (by decide +kernel)
set_option maxRecDepth 20000 in
theorem gX4_readNumber_X4_failAt : GoodIn wsX4_readNumber (wsV RX4 57 RX4 yX4_failAt wsX4_failAt) := goodIn_app (goodIn_of _ (by decide +kernel)) ggX4_readNumber_X4_failAt
theorem dX4_readNumber_0 : decode cX4_readNumber 0 = .ok (.aload_n 0, 1) := by decide +kernel
theorem dX4_readNumber_1 : decode cX4_readNumber 1 = .ok (.getfield 19, 3) := by decide +kernel
theorem dX4_readNumber_4 : decode cX4_readNumber 4 = .ok (.istore_n 3, 1) := by decide +kernel
theorem dX4_readNumber_5 : decode cX4_readNumber 5 = .ok (.aload_n 0, 1) := by decide +kernel
theorem dX4_readNumber_6 : decode cX4_readNumber 6 = .ok (.invokevirtual 53, 3) := by decide +kernel
theorem dX4_readNumber_9 : decode cX4_readNumber 9 = .ok (.bipush 48, 2) := by decide +kernel
theorem dX4_readNumber_11 : decode cX4_readNumber 11 = .ok (.if_icmp .ne 7, 3) := by decide +kernel
theorem dX4_readNumber_14 : decode cX4_readNumber 14 = .ok (.iconst 1, 1) := by decide +kernel
theorem dX4_readNumber_15 : decode cX4_readNumber 15 = .ok (.goto 4, 3) := by decide +kernel
theorem dX4_readNumber_18 : decode cX4_readNumber 18 = .ok (.iconst 0, 1) := by decide +kernel
theorem dX4_readNumber_19 : decode cX4_readNumber 19 = .ok (.istore 4, 2) := by decide +kernel
theorem dX4_readNumber_21 : decode cX4_readNumber 21 = .ok (.iconst 0, 1) := by decide +kernel
theorem dX4_readNumber_22 : decode cX4_readNumber 22 = .ok (.istore 5, 2) := by decide +kernel
theorem dX4_readNumber_24 : decode cX4_readNumber 24 = .ok (.aload_n 0, 1) := by decide +kernel
theorem dX4_readNumber_25 : decode cX4_readNumber 25 = .ok (.getfield 19, 3) := by decide +kernel
theorem dX4_readNumber_28 : decode cX4_readNumber 28 = .ok (.aload_n 0, 1) := by decide +kernel
theorem dX4_readNumber_29 : decode cX4_readNumber 29 = .ok (.getfield 15, 3) := by decide +kernel
theorem dX4_readNumber_32 : decode cX4_readNumber 32 = .ok (.if_icmp .ge 47, 3) := by decide +kernel
theorem dX4_readNumber_35 : decode cX4_readNumber 35 = .ok (.aload_n 0, 1) := by decide +kernel
theorem dX4_readNumber_36 : decode cX4_readNumber 36 = .ok (.invokevirtual 53, 3) := by decide +kernel
theorem dX4_readNumber_39 : decode cX4_readNumber 39 = .ok (.invokestatic 71, 3) := by decide +kernel
theorem dX4_readNumber_42 : decode cX4_readNumber 42 = .ok (.ifCond .eq 37, 3) := by decide +kernel
theorem dX4_readNumber_45 : decode cX4_readNumber 45 = .ok (.iload 5, 2) := by decide +kernel
theorem dX4_readNumber_47 : decode cX4_readNumber 47 = .ok (.bipush 10, 2) := by decide +kernel
theorem dX4_readNumber_49 : decode cX4_readNumber 49 = .ok (.imul, 1) := by decide +kernel
theorem dX4_readNumber_50 : decode cX4_readNumber 50 = .ok (.aload_n 0, 1) := by decide +kernel
theorem dX4_readNumber_51 : decode cX4_readNumber 51 = .ok (.invokevirtual 53, 3) := by decide +kernel
theorem dX4_readNumber_54 : decode cX4_readNumber 54 = .ok (.iadd, 1) := by decide +kernel
theorem dX4_readNumber_55 : decode cX4_readNumber 55 = .ok (.bipush 48, 2) := by decide +kernel
theorem dX4_readNumber_57 : decode cX4_readNumber 57 = .ok (.isub, 1) := by decide +kernel
theorem dX4_readNumber_58 : decode cX4_readNumber 58 = .ok (.sipush 140, 3) := by decide +kernel
theorem dX4_readNumber_61 : decode cX4_readNumber 61 = .ok (.invokestatic 75, 3) := by decide +kernel
theorem dX4_readNumber_64 : decode cX4_readNumber 64 = .ok (.istore 5, 2) := by decide +kernel
theorem dX4_readNumber_66 : decode cX4_readNumber 66 = .ok (.aload_n 0, 1) := by decide +kernel
theorem dX4_readNumber_67 : decode cX4_readNumber 67 = .ok (.dup, 1) := by decide +kernel
theorem dX4_readNumber_68 : decode cX4_readNumber 68 = .ok (.getfield 19, 3) := by decide +kernel
theorem dX4_readNumber_71 : decode cX4_readNumber 71 = .ok (.iconst 1, 1) := by decide +kernel
theorem dX4_readNumber_72 : decode cX4_readNumber 72 = .ok (.iadd, 1) := by decide +kernel
theorem dX4_readNumber_73 : decode cX4_readNumber 73 = .ok (.putfield 19, 3) := by decide +kernel
theorem dX4_readNumber_76 : decode cX4_readNumber 76 = .ok (.goto (-52), 3) := by decide +kernel
theorem dX4_readNumber_79 : decode cX4_readNumber 79 = .ok (.iload 4, 2) := by decide +kernel
theorem dX4_readNumber_81 : decode cX4_readNumber 81 = .ok (.ifCond .eq 17, 3) := by decide +kernel
theorem dX4_readNumber_84 : decode cX4_readNumber 84 = .ok (.aload_n 0, 1) := by decide +kernel
theorem dX4_readNumber_85 : decode cX4_readNumber 85 = .ok (.getfield 19, 3) := by decide +kernel
theorem dX4_readNumber_88 : decode cX4_readNumber 88 = .ok (.iload_n 3, 1) := by decide +kernel
theorem dX4_readNumber_89 : decode cX4_readNumber 89 = .ok (.isub, 1) := by decide +kernel
theorem dX4_readNumber_90 : decode cX4_readNumber 90 = .ok (.iconst 1, 1) := by decide +kernel
theorem dX4_readNumber_91 : decode cX4_readNumber 91 = .ok (.if_icmp .le 7, 3) := by decide +kernel
theorem dX4_readNumber_94 : decode cX4_readNumber 94 = .ok (.iconst 1, 1) := by decide +kernel
theorem dX4_readNumber_95 : decode cX4_readNumber 95 = .ok (.goto 4, 3) := by decide +kernel
theorem dX4_readNumber_98 : decode cX4_readNumber 98 = .ok (.iconst 0, 1) := by decide +kernel
theorem dX4_readNumber_99 : decode cX4_readNumber 99 = .ok (.istore 6, 2) := by decide +kernel
theorem dX4_readNumber_101 : decode cX4_readNumber 101 = .ok (.aload_n 0, 1) := by decide +kernel
theorem dX4_readNumber_102 : decode cX4_readNumber 102 = .ok (.getfield 19, 3) := by decide +kernel
theorem dX4_readNumber_105 : decode cX4_readNumber 105 = .ok (.iload_n 3, 1) := by decide +kernel
theorem dX4_readNumber_106 : decode cX4_readNumber 106 = .ok (.if_icmp .eq 18, 3) := by decide +kernel
theorem dX4_readNumber_109 : decode cX4_readNumber 109 = .ok (.iload 6, 2) := by decide +kernel
theorem dX4_readNumber_111 : decode cX4_readNumber 111 = .ok (.ifCond .ne 13, 3) := by decide +kernel
theorem dX4_readNumber_114 : decode cX4_readNumber 114 = .ok (.iload 5, 2) := by decide +kernel
theorem dX4_readNumber_116 : decode cX4_readNumber 116 = .ok (.iload_n 1, 1) := by decide +kernel
theorem dX4_readNumber_117 : decode cX4_readNumber 117 = .ok (.iload_n 2, 1) := by decide +kernel
theorem dX4_readNumber_118 : decode cX4_readNumber 118 = .ok (.invokestatic 80, 3) := by decide +kernel
theorem dX4_readNumber_121 : decode cX4_readNumber 121 = .ok (.ifCond .ne 10, 3) := by decide +kernel
theorem dX4_readNumber_124 : decode cX4_readNumber 124 = .ok (.aload_n 0, 1) := by decide +kernel
theorem dX4_readNumber_125 : decode cX4_readNumber 125 = .ok (.iload_n 3, 1) := by decide +kernel
theorem dX4_readNumber_126 : decode cX4_readNumber 126 = .ok (.invokevirtual 57, 3) := by decide +kernel
theorem dX4_readNumber_129 : decode cX4_readNumber 129 = .ok (.iconst (-1), 1) := by decide +kernel
theorem dX4_readNumber_130 : decode cX4_readNumber 130 = .ok (.ireturn, 1) := by decide +kernel
theorem dX4_readNumber_131 : decode cX4_readNumber 131 = .ok (.iload 5, 2) := by decide +kernel
theorem dX4_readNumber_133 : decode cX4_readNumber 133 = .ok (.ireturn, 1) := by decide +kernel
theorem dX4_isDigit_0 : decode cX4_isDigit 0 = .ok (.iload_n 0, 1) := by decide +kernel
theorem dX4_isDigit_1 : decode cX4_isDigit 1 = .ok (.bipush 48, 2) := by decide +kernel
theorem dX4_isDigit_3 : decode cX4_isDigit 3 = .ok (.if_icmp .lt 13, 3) := by decide +kernel
theorem dX4_isDigit_6 : decode cX4_isDigit 6 = .ok (.iload_n 0, 1) := by decide +kernel
theorem dX4_isDigit_7 : decode cX4_isDigit 7 = .ok (.bipush 57, 2) := by decide +kernel
theorem dX4_isDigit_9 : decode cX4_isDigit 9 = .ok (.if_icmp .gt 7, 3) := by decide +kernel
theorem dX4_isDigit_12 : decode cX4_isDigit 12 = .ok (.iconst 1, 1) := by decide +kernel
theorem dX4_isDigit_13 : decode cX4_isDigit 13 = .ok (.goto 4, 3) := by decide +kernel
theorem dX4_isDigit_16 : decode cX4_isDigit 16 = .ok (.iconst 0, 1) := by decide +kernel
theorem dX4_isDigit_17 : decode cX4_isDigit 17 = .ok (.ireturn, 1) := by decide +kernel
set_option maxRecDepth 20000 in
theorem ggX4_skipSpaces_X4_here : GoodIn wsX4_skipSpaces wsX4_here := goodIn_r _ [7, 1, 2, 8, 9, 10, 11, 12, 13, 14] (by decide +kernel) (by decide +kernel)
set_option maxRecDepth 20000 in
theorem gX4_skipSpaces_X4_here : GoodIn wsX4_skipSpaces (wsV RX4 53 RX4 yX4_here wsX4_here) := goodIn_app (goodIn_of _ (by decide +kernel)) ggX4_skipSpaces_X4_here
theorem dX4_skipSpaces_0 : decode cX4_skipSpaces 0 = .ok (.aload_n 0, 1) := by decide +kernel
theorem dX4_skipSpaces_1 : decode cX4_skipSpaces 1 = .ok (.getfield 19, 3) := by decide +kernel
theorem dX4_skipSpaces_4 : decode cX4_skipSpaces 4 = .ok (.aload_n 0, 1) := by decide +kernel
theorem dX4_skipSpaces_5 : decode cX4_skipSpaces 5 = .ok (.getfield 15, 3) := by decide +kernel
theorem dX4_skipSpaces_8 : decode cX4_skipSpaces 8 = .ok (.if_icmp .ge 25, 3) := by decide +kernel
theorem dX4_skipSpaces_11 : decode cX4_skipSpaces 11 = .ok (.aload_n 0, 1) := by decide +kernel
theorem dX4_skipSpaces_12 : decode cX4_skipSpaces 12 = .ok (.invokevirtual 53, 3) := by decide +kernel
theorem dX4_skipSpaces_15 : decode cX4_skipSpaces 15 = .ok (.bipush 32, 2) := by decide +kernel
theorem dX4_skipSpaces_17 : decode cX4_skipSpaces 17 = .ok (.if_icmp .ne 16, 3) := by decide +kernel
theorem dX4_skipSpaces_20 : decode cX4_skipSpaces 20 = .ok (.aload_n 0, 1) := by decide +kernel
theorem dX4_skipSpaces_21 : decode cX4_skipSpaces 21 = .ok (.dup, 1) := by decide +kernel
theorem dX4_skipSpaces_22 : decode cX4_skipSpaces 22 = .ok (.getfield 19, 3) := by decide +kernel
theorem dX4_skipSpaces_25 : decode cX4_skipSpaces 25 = .ok (.iconst 1, 1) := by decide +kernel
theorem dX4_skipSpaces_26 : decode cX4_skipSpaces 26 = .ok (.iadd, 1) := by decide +kernel
theorem dX4_skipSpaces_27 : decode cX4_skipSpaces 27 = .ok (.putfield 19, 3) := by decide +kernel
theorem dX4_skipSpaces_30 : decode cX4_skipSpaces 30 = .ok (.goto (-30), 3) := by decide +kernel
theorem dX4_skipSpaces_33 : decode cX4_skipSpaces 33 = .ok (.return_, 1) := by decide +kernel
theorem dX4_here_0 : decode cX4_here 0 = .ok (.aload_n 0, 1) := by decide +kernel
theorem dX4_here_1 : decode cX4_here 1 = .ok (.getfield 19, 3) := by decide +kernel
theorem dX4_here_4 : decode cX4_here 4 = .ok (.ifCond .lt 36, 3) := by decide +kernel
theorem dX4_here_7 : decode cX4_here 7 = .ok (.aload_n 0, 1) := by decide +kernel
theorem dX4_here_8 : decode cX4_here 8 = .ok (.getfield 19, 3) := by decide +kernel
theorem dX4_here_11 : decode cX4_here 11 = .ok (.aload_n 0, 1) := by decide +kernel
theorem dX4_here_12 : decode cX4_here 12 = .ok (.getfield 15, 3) := by decide +kernel
theorem dX4_here_15 : decode cX4_here 15 = .ok (.if_icmp .ge 25, 3) := by decide +kernel
theorem dX4_here_18 : decode cX4_here 18 = .ok (.aload_n 0, 1) := by decide +kernel
theorem dX4_here_19 : decode cX4_here 19 = .ok (.getfield 19, 3) := by decide +kernel
theorem dX4_here_22 : decode cX4_here 22 = .ok (.sipush 140, 3) := by decide +kernel
theorem dX4_here_25 : decode cX4_here 25 = .ok (.if_icmp .ge 15, 3) := by decide +kernel
theorem dX4_here_28 : decode cX4_here 28 = .ok (.aload_n 0, 1) := by decide +kernel
theorem dX4_here_29 : decode cX4_here 29 = .ok (.getfield 9, 3) := by decide +kernel
theorem dX4_here_32 : decode cX4_here 32 = .ok (.aload_n 0, 1) := by decide +kernel
theorem dX4_here_33 : decode cX4_here 33 = .ok (.getfield 19, 3) := by decide +kernel
theorem dX4_here_36 : decode cX4_here 36 = .ok (.iaload, 1) := by decide +kernel
theorem dX4_here_37 : decode cX4_here 37 = .ok (.goto 4, 3) := by decide +kernel
theorem dX4_here_40 : decode cX4_here 40 = .ok (.iconst 0, 1) := by decide +kernel
theorem dX4_here_41 : decode cX4_here 41 = .ok (.ireturn, 1) := by decide +kernel
theorem dX4_failAt_0 : decode cX4_failAt 0 = .ok (.aload_n 0, 1) := by decide +kernel
theorem dX4_failAt_1 : decode cX4_failAt 1 = .ok (.iload_n 1, 1) := by decide +kernel
theorem dX4_failAt_2 : decode cX4_failAt 2 = .ok (.putfield 22, 3) := by decide +kernel
theorem dX4_failAt_5 : decode cX4_failAt 5 = .ok (.return_, 1) := by decide +kernel
set_option maxRecDepth 20000 in
theorem ggX5_init_X0_init : GoodIn wsX5_init wsX0_init := goodIn_r _ [27, 28, 2, 3, 29, 30, 31, 32, 33, 34, 35, 8, 36, 37, 38, 39, 40, 41, 67, 49, 50, 51, 52, 53] (by decide +kernel) (by decide +kernel)
set_option maxRecDepth 20000 in
theorem gX5_init_X0_init : GoodIn wsX5_init (wsX0_init) := ggX5_init_X0_init
set_option maxRecDepth 20000 in
theorem ggX5_init_X3_init : GoodIn wsX5_init wsX3_init := goodIn_r _ [44, 45, 2, 3, 8, 46, 47, 48, 64, 65, 66] (by decide +kernel) (by decide +kernel)
set_option maxRecDepth 20000 in
theorem gX5_init_X3_init : GoodIn wsX5_init (wsX3_init) := ggX5_init_X3_init
theorem dX5_init_0 : decode cX5_init 0 = .ok (.aload_n 0, 1) := by decide +kernel
theorem dX5_init_1 : decode cX5_init 1 = .ok (.invokespecial 3, 3) := by decide +kernel
theorem dX5_init_4 : decode cX5_init 4 = .ok (.aload_n 0, 1) := by decide +kernel
theorem dX5_init_5 : decode cX5_init 5 = .ok (.new 9, 3) := by decide +kernel
theorem dX5_init_8 : decode cX5_init 8 = .ok (.dup, 1) := by decide +kernel
theorem dX5_init_9 : decode cX5_init 9 = .ok (.invokespecial 11, 3) := by decide +kernel
theorem dX5_init_12 : decode cX5_init 12 = .ok (.putfield 12, 3) := by decide +kernel
theorem dX5_init_15 : decode cX5_init 15 = .ok (.aload_n 0, 1) := by decide +kernel
theorem dX5_init_16 : decode cX5_init 16 = .ok (.iconst 5, 1) := by decide +kernel
theorem dX5_init_17 : decode cX5_init 17 = .ok (.newarray .int, 2) := by decide +kernel
theorem dX5_init_19 : decode cX5_init 19 = .ok (.putfield 18, 3) := by decide +kernel
theorem dX5_init_22 : decode cX5_init 22 = .ok (.getstatic 22, 3) := by decide +kernel
theorem dX5_init_25 : decode cX5_init 25 = .ok (.iconst 0, 1) := by decide +kernel
theorem dX5_init_26 : decode cX5_init 26 = .ok (.aload_n 0, 1) := by decide +kernel
theorem dX5_init_27 : decode cX5_init 27 = .ok (.getfield 18, 3) := by decide +kernel
theorem dX5_init_30 : decode cX5_init 30 = .ok (.iconst 0, 1) := by decide +kernel
theorem dX5_init_31 : decode cX5_init 31 = .ok (.iconst 5, 1) := by decide +kernel
theorem dX5_init_32 : decode cX5_init 32 = .ok (.invokestatic 25, 3) := by decide +kernel
theorem dX5_init_35 : decode cX5_init 35 = .ok (.aload_n 0, 1) := by decide +kernel
theorem dX5_init_36 : decode cX5_init 36 = .ok (.new 31, 3) := by decide +kernel
theorem dX5_init_39 : decode cX5_init 39 = .ok (.dup, 1) := by decide +kernel
theorem dX5_init_40 : decode cX5_init 40 = .ok (.invokespecial 33, 3) := by decide +kernel
theorem dX5_init_43 : decode cX5_init 43 = .ok (.putfield 34, 3) := by decide +kernel
theorem dX5_init_46 : decode cX5_init 46 = .ok (.aload_n 0, 1) := by decide +kernel
theorem dX5_init_47 : decode cX5_init 47 = .ok (.iconst 0, 1) := by decide +kernel
theorem dX5_init_48 : decode cX5_init 48 = .ok (.putfield 38, 3) := by decide +kernel
theorem dX5_init_51 : decode cX5_init 51 = .ok (.aload_n 0, 1) := by decide +kernel
theorem dX5_init_52 : decode cX5_init 52 = .ok (.iconst 0, 1) := by decide +kernel
theorem dX5_init_53 : decode cX5_init 53 = .ok (.putfield 42, 3) := by decide +kernel
theorem dX5_init_56 : decode cX5_init 56 = .ok (.aload_n 0, 1) := by decide +kernel
theorem dX5_init_57 : decode cX5_init 57 = .ok (.iconst 0, 1) := by decide +kernel
theorem dX5_init_58 : decode cX5_init 58 = .ok (.putfield 45, 3) := by decide +kernel
theorem dX5_init_61 : decode cX5_init 61 = .ok (.aload_n 0, 1) := by decide +kernel
theorem dX5_init_62 : decode cX5_init 62 = .ok (.new 9, 3) := by decide +kernel
theorem dX5_init_65 : decode cX5_init 65 = .ok (.dup, 1) := by decide +kernel
theorem dX5_init_66 : decode cX5_init 66 = .ok (.invokespecial 11, 3) := by decide +kernel
theorem dX5_init_69 : decode cX5_init 69 = .ok (.putfield 48, 3) := by decide +kernel
theorem dX5_init_72 : decode cX5_init 72 = .ok (.aload_n 0, 1) := by decide +kernel
theorem dX5_init_73 : decode cX5_init 73 = .ok (.new 9, 3) := by decide +kernel
theorem dX5_init_76 : decode cX5_init 76 = .ok (.dup, 1) := by decide +kernel
theorem dX5_init_77 : decode cX5_init 77 = .ok (.invokespecial 11, 3) := by decide +kernel
theorem dX5_init_80 : decode cX5_init 80 = .ok (.putfield 51, 3) := by decide +kernel
theorem dX5_init_83 : decode cX5_init 83 = .ok (.aload_n 0, 1) := by decide +kernel
theorem dX5_init_84 : decode cX5_init 84 = .ok (.iconst 0, 1) := by decide +kernel
theorem dX5_init_85 : decode cX5_init 85 = .ok (.putfield 54, 3) := by decide +kernel
theorem dX5_init_88 : decode cX5_init 88 = .ok (.aload_n 0, 1) := by decide +kernel
theorem dX5_init_89 : decode cX5_init 89 = .ok (.iconst 0, 1) := by decide +kernel
theorem dX5_init_90 : decode cX5_init 90 = .ok (.putfield 58, 3) := by decide +kernel
theorem dX5_init_93 : decode cX5_init 93 = .ok (.return_, 1) := by decide +kernel
set_option maxRecDepth 20000 in
theorem ggX5_becomeLike_X0_becomeLike : GoodIn wsX5_becomeLike wsX0_becomeLike := goodIn_r _ [19, 20, 21, 22, 23, 24, 25, 4, 5, 6, 26, 27, 28, 29, 30, 31, 32, 52, 53, 54, 55, 56, 57] (by decide +kernel) (by decide +kernel)
set_option maxRecDepth 20000 in
theorem gX5_becomeLike_X0_becomeLike : GoodIn wsX5_becomeLike (wsV RX5 61 RX0 yX0_becomeLike wsX0_becomeLike) := goodIn_app (goodIn_of _ (by decide +kernel)) ggX5_becomeLike_X0_becomeLike
set_option maxRecDepth 20000 in
theorem ggX5_becomeLike_X3_becomeLike : GoodIn wsX5_becomeLike wsX3_becomeLike := goodIn_r _ [37, 38, 39, 4, 5, 6, 40, 41, 58, 59, 60] (by decide +kernel) (by decide +kernel)
set_option maxRecDepth 20000 in
theorem gX5_becomeLike_X3_becomeLike : GoodIn wsX5_becomeLike (wsV RX5 65 RX3 yX3_becomeLike wsX3_becomeLike) := goodIn_app (goodIn_of _ (by decide +kernel)) ggX5_becomeLike_X3_becomeLike
theorem dX5_becomeLike_0 : decode cX5_becomeLike 0 = .ok (.aload_n 0, 1) := by decide +kernel
theorem dX5_becomeLike_1 : decode cX5_becomeLike 1 = .ok (.getfield 12, 3) := by decide +kernel
theorem dX5_becomeLike_4 : decode cX5_becomeLike 4 = .ok (.aload_n 1, 1) := by decide +kernel
theorem dX5_becomeLike_5 : decode cX5_becomeLike 5 = .ok (.getfield 12, 3) := by decide +kernel
theorem dX5_becomeLike_8 : decode cX5_becomeLike 8 = .ok (.invokevirtual 61, 3) := by decide +kernel
theorem dX5_becomeLike_11 : decode cX5_becomeLike 11 = .ok (.aload_n 1, 1) := by decide +kernel
theorem dX5_becomeLike_12 : decode cX5_becomeLike 12 = .ok (.getfield 18, 3) := by decide +kernel
theorem dX5_becomeLike_15 : decode cX5_becomeLike 15 = .ok (.iconst 0, 1) := by decide +kernel
theorem dX5_becomeLike_16 : decode cX5_becomeLike 16 = .ok (.aload_n 0, 1) := by decide +kernel
theorem dX5_becomeLike_17 : decode cX5_becomeLike 17 = .ok (.getfield 18, 3) := by decide +kernel
theorem dX5_becomeLike_20 : decode cX5_becomeLike 20 = .ok (.iconst 0, 1) := by decide +kernel
theorem dX5_becomeLike_21 : decode cX5_becomeLike 21 = .ok (.iconst 5, 1) := by decide +kernel
theorem dX5_becomeLike_22 : decode cX5_becomeLike 22 = .ok (.invokestatic 25, 3) := by decide +kernel
theorem dX5_becomeLike_25 : decode cX5_becomeLike 25 = .ok (.aload_n 0, 1) := by decide +kernel
theorem dX5_becomeLike_26 : decode cX5_becomeLike 26 = .ok (.getfield 34, 3) := by decide +kernel
theorem dX5_becomeLike_29 : decode cX5_becomeLike 29 = .ok (.aload_n 1, 1) := by decide +kernel
theorem dX5_becomeLike_30 : decode cX5_becomeLike 30 = .ok (.getfield 34, 3) := by decide +kernel
theorem dX5_becomeLike_33 : decode cX5_becomeLike 33 = .ok (.invokevirtual 65, 3) := by decide +kernel
theorem dX5_becomeLike_36 : decode cX5_becomeLike 36 = .ok (.aload_n 0, 1) := by decide +kernel
theorem dX5_becomeLike_37 : decode cX5_becomeLike 37 = .ok (.aload_n 1, 1) := by decide +kernel
theorem dX5_becomeLike_38 : decode cX5_becomeLike 38 = .ok (.getfield 38, 3) := by decide +kernel
theorem dX5_becomeLike_41 : decode cX5_becomeLike 41 = .ok (.putfield 38, 3) := by decide +kernel
theorem dX5_becomeLike_44 : decode cX5_becomeLike 44 = .ok (.aload_n 0, 1) := by decide +kernel
theorem dX5_becomeLike_45 : decode cX5_becomeLike 45 = .ok (.aload_n 1, 1) := by decide +kernel
theorem dX5_becomeLike_46 : decode cX5_becomeLike 46 = .ok (.getfield 42, 3) := by decide +kernel
theorem dX5_becomeLike_49 : decode cX5_becomeLike 49 = .ok (.putfield 42, 3) := by decide +kernel
theorem dX5_becomeLike_52 : decode cX5_becomeLike 52 = .ok (.aload_n 0, 1) := by decide +kernel
theorem dX5_becomeLike_53 : decode cX5_becomeLike 53 = .ok (.aload_n 1, 1) := by decide +kernel
theorem dX5_becomeLike_54 : decode cX5_becomeLike 54 = .ok (.getfield 45, 3) := by decide +kernel
theorem dX5_becomeLike_57 : decode cX5_becomeLike 57 = .ok (.putfield 45, 3) := by decide +kernel
theorem dX5_becomeLike_60 : decode cX5_becomeLike 60 = .ok (.aload_n 0, 1) := by decide +kernel
theorem dX5_becomeLike_61 : decode cX5_becomeLike 61 = .ok (.getfield 48, 3) := by decide +kernel
theorem dX5_becomeLike_64 : decode cX5_becomeLike 64 = .ok (.aload_n 1, 1) := by decide +kernel
theorem dX5_becomeLike_65 : decode cX5_becomeLike 65 = .ok (.getfield 48, 3) := by decide +kernel
theorem dX5_becomeLike_68 : decode cX5_becomeLike 68 = .ok (.invokevirtual 61, 3) := by decide +kernel
theorem dX5_becomeLike_71 : decode cX5_becomeLike 71 = .ok (.aload_n 0, 1) := by decide +kernel
theorem dX5_becomeLike_72 : decode cX5_becomeLike 72 = .ok (.getfield 51, 3) := by decide +kernel
theorem dX5_becomeLike_75 : decode cX5_becomeLike 75 = .ok (.aload_n 1, 1) := by decide +kernel
theorem dX5_becomeLike_76 : decode cX5_becomeLike 76 = .ok (.getfield 51, 3) := by decide +kernel
theorem dX5_becomeLike_79 : decode cX5_becomeLike 79 = .ok (.invokevirtual 61, 3) := by decide +kernel
theorem dX5_becomeLike_82 : decode cX5_becomeLike 82 = .ok (.aload_n 0, 1) := by decide +kernel
theorem dX5_becomeLike_83 : decode cX5_becomeLike 83 = .ok (.aload_n 1, 1) := by decide +kernel
theorem dX5_becomeLike_84 : decode cX5_becomeLike 84 = .ok (.getfield 54, 3) := by decide +kernel
theorem dX5_becomeLike_87 : decode cX5_becomeLike 87 = .ok (.putfield 54, 3) := by decide +kernel
theorem dX5_becomeLike_90 : decode cX5_becomeLike 90 = .ok (.aload_n 0, 1) := by decide +kernel
theorem dX5_becomeLike_91 : decode cX5_becomeLike 91 = .ok (.aload_n 1, 1) := by decide +kernel
theorem dX5_becomeLike_92 : decode cX5_becomeLike 92 = .ok (.getfield 58, 3) := by decide +kernel
theorem dX5_becomeLike_95 : decode cX5_becomeLike 95 = .ok (.putfield 58, 3) := by decide +kernel
theorem dX5_becomeLike_98 : decode cX5_becomeLike 98 = .ok (.return_, 1) := by decide +kernel
theorem dX5_hardness_0 : decode cX5_hardness 0 = .ok (.aload_n 0, 1) := by decide +kernel
theorem dX5_hardness_1 : decode cX5_hardness 1 = .ok (.getfield 18, 3) := by decide +kernel
theorem dX5_hardness_4 : decode cX5_hardness 4 = .ok (.iconst 3, 1) := by decide +kernel
theorem dX5_hardness_5 : decode cX5_hardness 5 = .ok (.iaload, 1) := by decide +kernel
theorem dX5_hardness_6 : decode cX5_hardness 6 = .ok (.ireturn, 1) := by decide +kernel
theorem dX5_driftX_0 : decode cX5_driftX 0 = .ok (.aload_n 0, 1) := by decide +kernel
theorem dX5_driftX_1 : decode cX5_driftX 1 = .ok (.getfield 18, 3) := by decide +kernel
theorem dX5_driftX_4 : decode cX5_driftX 4 = .ok (.iconst 0, 1) := by decide +kernel
theorem dX5_driftX_5 : decode cX5_driftX 5 = .ok (.iaload, 1) := by decide +kernel
theorem dX5_driftX_6 : decode cX5_driftX 6 = .ok (.bipush 50, 2) := by decide +kernel
theorem dX5_driftX_8 : decode cX5_driftX 8 = .ok (.isub, 1) := by decide +kernel
theorem dX5_driftX_9 : decode cX5_driftX 9 = .ok (.aload_n 0, 1) := by decide +kernel
theorem dX5_driftX_10 : decode cX5_driftX 10 = .ok (.getfield 18, 3) := by decide +kernel
theorem dX5_driftX_13 : decode cX5_driftX 13 = .ok (.iconst 1, 1) := by decide +kernel
theorem dX5_driftX_14 : decode cX5_driftX 14 = .ok (.iaload, 1) := by decide +kernel
theorem dX5_driftX_15 : decode cX5_driftX 15 = .ok (.imul, 1) := by decide +kernel
theorem dX5_driftX_16 : decode cX5_driftX 16 = .ok (.bipush 50, 2) := by decide +kernel
theorem dX5_driftX_18 : decode cX5_driftX 18 = .ok (.idiv, 1) := by decide +kernel
theorem dX5_driftX_19 : decode cX5_driftX 19 = .ok (.ireturn, 1) := by decide +kernel
theorem dX5_driftY_0 : decode cX5_driftY 0 = .ok (.aload_n 0, 1) := by decide +kernel
theorem dX5_driftY_1 : decode cX5_driftY 1 = .ok (.getfield 18, 3) := by decide +kernel
theorem dX5_driftY_4 : decode cX5_driftY 4 = .ok (.iconst 0, 1) := by decide +kernel
theorem dX5_driftY_5 : decode cX5_driftY 5 = .ok (.iaload, 1) := by decide +kernel
theorem dX5_driftY_6 : decode cX5_driftY 6 = .ok (.bipush 50, 2) := by decide +kernel
theorem dX5_driftY_8 : decode cX5_driftY 8 = .ok (.isub, 1) := by decide +kernel
theorem dX5_driftY_9 : decode cX5_driftY 9 = .ok (.aload_n 0, 1) := by decide +kernel
theorem dX5_driftY_10 : decode cX5_driftY 10 = .ok (.getfield 18, 3) := by decide +kernel
theorem dX5_driftY_13 : decode cX5_driftY 13 = .ok (.iconst 2, 1) := by decide +kernel
theorem dX5_driftY_14 : decode cX5_driftY 14 = .ok (.iaload, 1) := by decide +kernel
theorem dX5_driftY_15 : decode cX5_driftY 15 = .ok (.imul, 1) := by decide +kernel
theorem dX5_driftY_16 : decode cX5_driftY 16 = .ok (.bipush 50, 2) := by decide +kernel
theorem dX5_driftY_18 : decode cX5_driftY 18 = .ok (.idiv, 1) := by decide +kernel
theorem dX5_driftY_19 : decode cX5_driftY 19 = .ok (.ireturn, 1) := by decide +kernel
set_option maxRecDepth 20000 in
theorem ggX5_shiftX_X5_driftX : GoodIn wsX5_shiftX wsX5_driftX := goodIn_r _ [6, 7, 8, 9, 10, 11, 12, 13, 14, 15, 16, 17] (by decide +kernel) (by decide +kernel)
set_option maxRecDepth 20000 in
theorem gX5_shiftX_X5_driftX : GoodIn wsX5_shiftX (wsV RX5 68 RX5 yX5_driftX wsX5_driftX) := goodIn_app (goodIn_of _ (by decide +kernel)) ggX5_shiftX_X5_driftX
theorem dX5_shiftX_0 : decode cX5_shiftX 0 = .ok (.aload_n 0, 1) := by decide +kernel
theorem dX5_shiftX_1 : decode cX5_shiftX 1 = .ok (.getfield 38, 3) := by decide +kernel
theorem dX5_shiftX_4 : decode cX5_shiftX 4 = .ok (.aload_n 0, 1) := by decide +kernel
theorem dX5_shiftX_5 : decode cX5_shiftX 5 = .ok (.invokevirtual 68, 3) := by decide +kernel
theorem dX5_shiftX_8 : decode cX5_shiftX 8 = .ok (.iadd, 1) := by decide +kernel
theorem dX5_shiftX_9 : decode cX5_shiftX 9 = .ok (.ireturn, 1) := by decide +kernel
set_option maxRecDepth 20000 in
theorem ggX5_shiftY_X5_driftY : GoodIn wsX5_shiftY wsX5_driftY := goodIn_r _ [6, 7, 8, 9, 10, 11, 12, 13, 14, 15, 16, 17] (by decide +kernel) (by decide +kernel)
set_option maxRecDepth 20000 in
theorem gX5_shiftY_X5_driftY : GoodIn wsX5_shiftY (wsV RX5 72 RX5 yX5_driftY wsX5_driftY) := goodIn_app (goodIn_of _ (by decide +kernel)) ggX5_shiftY_X5_driftY
theorem dX5_shiftY_0 : decode cX5_shiftY 0 = .ok (.aload_n 0, 1) := by decide +kernel
theorem dX5_shiftY_1 : decode cX5_shiftY 1 = .ok (.getfield 42, 3) := by decide +kernel
theorem dX5_shiftY_4 : decode cX5_shiftY 4 = .ok (.aload_n 0, 1) := by decide +kernel
theorem dX5_shiftY_5 : decode cX5_shiftY 5 = .ok (.invokevirtual 72, 3) := by decide +kernel
theorem dX5_shiftY_8 : decode cX5_shiftY 8 = .ok (.iadd, 1) := by decide +kernel
theorem dX5_shiftY_9 : decode cX5_shiftY 9 = .ok (.ireturn, 1) := by decide +kernel
theorem dX5_dry_0 : decode cX5_dry 0 = .ok (.aload_n 0, 1) := by decide +kernel
theorem dX5_dry_1 : decode cX5_dry 1 = .ok (.getfield 18, 3) := by decide +kernel
theorem dX5_dry_4 : decode cX5_dry 4 = .ok (.iconst 0, 1) := by decide +kernel
theorem dX5_dry_5 : decode cX5_dry 5 = .ok (.iconst 0, 1) := by decide +kernel
theorem dX5_dry_6 : decode cX5_dry 6 = .ok (.aload_n 0, 1) := by decide +kernel
theorem dX5_dry_7 : decode cX5_dry 7 = .ok (.getfield 18, 3) := by decide +kernel
theorem dX5_dry_10 : decode cX5_dry 10 = .ok (.iconst 0, 1) := by decide +kernel
theorem dX5_dry_11 : decode cX5_dry 11 = .ok (.iaload, 1) := by decide +kernel
theorem dX5_dry_12 : decode cX5_dry 12 = .ok (.aload_n 0, 1) := by decide +kernel
theorem dX5_dry_13 : decode cX5_dry 13 = .ok (.getfield 18, 3) := by decide +kernel
theorem dX5_dry_16 : decode cX5_dry 16 = .ok (.iconst 4, 1) := by decide +kernel
theorem dX5_dry_17 : decode cX5_dry 17 = .ok (.iaload, 1) := by decide +kernel
theorem dX5_dry_18 : decode cX5_dry 18 = .ok (.isub, 1) := by decide +kernel
theorem dX5_dry_19 : decode cX5_dry 19 = .ok (.invokestatic 75, 3) := by decide +kernel
theorem dX5_dry_22 : decode cX5_dry 22 = .ok (.iastore, 1) := by decide +kernel
theorem dX5_dry_23 : decode cX5_dry 23 = .ok (.return_, 1) := by decide +kernel
theorem dX5_isTaken_0 : decode cX5_isTaken 0 = .ok (.iload_n 1, 1) := by decide +kernel
theorem dX5_isTaken_1 : decode cX5_isTaken 1 = .ok (.ifCond .ne 10, 3) := by decide +kernel
theorem dX5_isTaken_4 : decode cX5_isTaken 4 = .ok (.aload_n 0, 1) := by decide +kernel
theorem dX5_isTaken_5 : decode cX5_isTaken 5 = .ok (.getfield 54, 3) := by decide +kernel
theorem dX5_isTaken_8 : decode cX5_isTaken 8 = .ok (.goto 7, 3) := by decide +kernel
theorem dX5_isTaken_11 : decode cX5_isTaken 11 = .ok (.aload_n 0, 1) := by decide +kernel
theorem dX5_isTaken_12 : decode cX5_isTaken 12 = .ok (.getfield 58, 3) := by decide +kernel
theorem dX5_isTaken_15 : decode cX5_isTaken 15 = .ok (.ireturn, 1) := by decide +kernel
set_option maxRecDepth 20000 in
theorem ggX5_snapshots_X6_oneIf : GoodIn wsX5_snapshots wsX6_oneIf := goodIn_r _ [5] (by decide +kernel) (by decide +kernel)
set_option maxRecDepth 20000 in
theorem gX5_snapshots_X6_oneIf_n81 : GoodIn wsX5_snapshots (wsX6_oneIf) := ggX5_snapshots_X6_oneIf
theorem dX5_snapshots_0 : decode cX5_snapshots 0 = .ok (.aload_n 0, 1) := by decide +kernel
theorem dX5_snapshots_1 : decode cX5_snapshots 1 = .ok (.getfield 54, 3) := by decide +kernel
theorem dX5_snapshots_4 : decode cX5_snapshots 4 = .ok (.invokestatic 81, 3) := by decide +kernel
theorem dX5_snapshots_7 : decode cX5_snapshots 7 = .ok (.aload_n 0, 1) := by decide +kernel
theorem dX5_snapshots_8 : decode cX5_snapshots 8 = .ok (.getfield 58, 3) := by decide +kernel
theorem dX5_snapshots_11 : decode cX5_snapshots 11 = .ok (.invokestatic 81, 3) := by decide +kernel
theorem dX5_snapshots_14 : decode cX5_snapshots 14 = .ok (.iadd, 1) := by decide +kernel
theorem dX5_snapshots_15 : decode cX5_snapshots 15 = .ok (.ireturn, 1) := by decide +kernel
set_option maxRecDepth 20000 in
theorem ggX5_takeSnapshot_X5_snapshotIn : GoodIn wsX5_takeSnapshot wsX5_snapshotIn := goodIn_r _ [8, 9, 10, 32, 33, 34, 35, 36, 37, 38, 39, 40, 41] (by decide +kernel) (by decide +kernel)
set_option maxRecDepth 20000 in
theorem gX5_takeSnapshot_X5_snapshotIn : GoodIn wsX5_takeSnapshot (wsV RX5 85 RX5 yX5_snapshotIn wsX5_snapshotIn) := goodIn_app (goodIn_of _ (by decide +kernel)) ggX5_takeSnapshot_X5_snapshotIn
set_option maxRecDepth 20000 in
theorem ggX5_takeSnapshot_X0_becomeLike : GoodIn wsX5_takeSnapshot wsX0_becomeLike := goodIn_r _ [15, 16, 17, 18, 19, 20, 21, 22, 23, 24, 25, 26, 27, 28, 29, 30, 31, 42, 43, 44, 45, 46, 47] (by decide +kernel) (by decide +kernel)
set_option maxRecDepth 20000 in
theorem gX5_takeSnapshot_X0_becomeLike : GoodIn wsX5_takeSnapshot (wsV RX5 61 RX0 yX0_becomeLike wsX0_becomeLike) := goodIn_app (goodIn_of _ (by decide +kernel)) ggX5_takeSnapshot_X0_becomeLike
theorem dX5_takeSnapshot_0 : decode cX5_takeSnapshot 0 = .ok (.aload_n 0, 1) := by decide +kernel
theorem dX5_takeSnapshot_1 : decode cX5_takeSnapshot 1 = .ok (.iload_n 1, 1) := by decide +kernel
theorem dX5_takeSnapshot_2 : decode cX5_takeSnapshot 2 = .ok (.invokevirtual 85, 3) := by decide +kernel
theorem dX5_takeSnapshot_5 : decode cX5_takeSnapshot 5 = .ok (.aload_n 0, 1) := by decide +kernel
theorem dX5_takeSnapshot_6 : decode cX5_takeSnapshot 6 = .ok (.getfield 12, 3) := by decide +kernel
theorem dX5_takeSnapshot_9 : decode cX5_takeSnapshot 9 = .ok (.invokevirtual 61, 3) := by decide +kernel
theorem dX5_takeSnapshot_12 : decode cX5_takeSnapshot 12 = .ok (.aload_n 0, 1) := by decide +kernel
theorem dX5_takeSnapshot_13 : decode cX5_takeSnapshot 13 = .ok (.aload_n 0, 1) := by decide +kernel
theorem dX5_takeSnapshot_14 : decode cX5_takeSnapshot 14 = .ok (.getfield 54, 3) := by decide +kernel
theorem dX5_takeSnapshot_17 : decode cX5_takeSnapshot 17 = .ok (.ifCond .ne 7, 3) := by decide +kernel
theorem dX5_takeSnapshot_20 : decode cX5_takeSnapshot 20 = .ok (.iload_n 1, 1) := by decide +kernel
theorem dX5_takeSnapshot_21 : decode cX5_takeSnapshot 21 = .ok (.ifCond .ne 7, 3) := by decide +kernel
theorem dX5_takeSnapshot_24 : decode cX5_takeSnapshot 24 = .ok (.iconst 1, 1) := by decide +kernel
theorem dX5_takeSnapshot_25 : decode cX5_takeSnapshot 25 = .ok (.goto 4, 3) := by decide +kernel
theorem dX5_takeSnapshot_28 : decode cX5_takeSnapshot 28 = .ok (.iconst 0, 1) := by decide +kernel
theorem dX5_takeSnapshot_29 : decode cX5_takeSnapshot 29 = .ok (.putfield 54, 3) := by decide +kernel
theorem dX5_takeSnapshot_32 : decode cX5_takeSnapshot 32 = .ok (.aload_n 0, 1) := by decide +kernel
theorem dX5_takeSnapshot_33 : decode cX5_takeSnapshot 33 = .ok (.aload_n 0, 1) := by decide +kernel
theorem dX5_takeSnapshot_34 : decode cX5_takeSnapshot 34 = .ok (.getfield 58, 3) := by decide +kernel
theorem dX5_takeSnapshot_37 : decode cX5_takeSnapshot 37 = .ok (.ifCond .ne 8, 3) := by decide +kernel
theorem dX5_takeSnapshot_40 : decode cX5_takeSnapshot 40 = .ok (.iload_n 1, 1) := by decide +kernel
theorem dX5_takeSnapshot_41 : decode cX5_takeSnapshot 41 = .ok (.iconst 1, 1) := by decide +kernel
theorem dX5_takeSnapshot_42 : decode cX5_takeSnapshot 42 = .ok (.if_icmp .ne 7, 3) := by decide +kernel
theorem dX5_takeSnapshot_45 : decode cX5_takeSnapshot 45 = .ok (.iconst 1, 1) := by decide +kernel
theorem dX5_takeSnapshot_46 : decode cX5_takeSnapshot 46 = .ok (.goto 4, 3) := by decide +kernel
theorem dX5_takeSnapshot_49 : decode cX5_takeSnapshot 49 = .ok (.iconst 0, 1) := by decide +kernel
theorem dX5_takeSnapshot_50 : decode cX5_takeSnapshot 50 = .ok (.putfield 58, 3) := by decide +kernel
theorem dX5_takeSnapshot_53 : decode cX5_takeSnapshot 53 = .ok (.return_, 1) := by decide +kernel
set_option maxRecDepth 20000 in
theorem ggX5_restoreSnapshot_X5_snapshotIn : GoodIn wsX5_restoreSnapshot wsX5_snapshotIn := goodIn_r _ [6, 7, 8, 30, 31, 32, 33, 34, 35, 36, 37, 38, 39] (by decide +kernel) (by decide +kernel)
set_option maxRecDepth 20000 in
theorem gX5_restoreSnapshot_X5_snapshotIn : GoodIn wsX5_restoreSnapshot (wsV RX5 85 RX5 yX5_snapshotIn wsX5_snapshotIn) := goodIn_app (goodIn_of _ (by decide +kernel)) ggX5_restoreSnapshot_X5_snapshotIn
set_option maxRecDepth 20000 in
theorem ggX5_restoreSnapshot_X0_becomeLike : GoodIn wsX5_restoreSnapshot wsX0_becomeLike := goodIn_r _ [13, 14, 15, 16, 17, 18, 19, 20, 21, 22, 23, 24, 25, 26, 27, 28, 29, 40, 41, 42, 43, 44, 45] (by decide +kernel) (by decide +kernel)
set_option maxRecDepth 20000 in
theorem gX5_restoreSnapshot_X0_becomeLike : GoodIn wsX5_restoreSnapshot (wsV RX5 61 RX0 yX0_becomeLike wsX0_becomeLike) := goodIn_app (goodIn_of _ (by decide +kernel)) ggX5_restoreSnapshot_X0_becomeLike
theorem dX5_restoreSnapshot_0 : decode cX5_restoreSnapshot 0 = .ok (.aload_n 0, 1) := by decide +kernel
theorem dX5_restoreSnapshot_1 : decode cX5_restoreSnapshot 1 = .ok (.getfield 12, 3) := by decide +kernel
theorem dX5_restoreSnapshot_4 : decode cX5_restoreSnapshot 4 = .ok (.aload_n 0, 1) := by decide +kernel
theorem dX5_restoreSnapshot_5 : decode cX5_restoreSnapshot 5 = .ok (.iload_n 1, 1) := by decide +kernel
theorem dX5_restoreSnapshot_6 : decode cX5_restoreSnapshot 6 = .ok (.invokevirtual 85, 3) := by decide +kernel
theorem dX5_restoreSnapshot_9 : decode cX5_restoreSnapshot 9 = .ok (.invokevirtual 61, 3) := by decide +kernel
theorem dX5_restoreSnapshot_12 : decode cX5_restoreSnapshot 12 = .ok (.return_, 1) := by decide +kernel
theorem dX5_snapshotIn_0 : decode cX5_snapshotIn 0 = .ok (.iload_n 1, 1) := by decide +kernel
theorem dX5_snapshotIn_1 : decode cX5_snapshotIn 1 = .ok (.ifCond .ne 10, 3) := by decide +kernel
theorem dX5_snapshotIn_4 : decode cX5_snapshotIn 4 = .ok (.aload_n 0, 1) := by decide +kernel
theorem dX5_snapshotIn_5 : decode cX5_snapshotIn 5 = .ok (.getfield 48, 3) := by decide +kernel
theorem dX5_snapshotIn_8 : decode cX5_snapshotIn 8 = .ok (.goto 7, 3) := by decide +kernel
theorem dX5_snapshotIn_11 : decode cX5_snapshotIn 11 = .ok (.aload_n 0, 1) := by decide +kernel
theorem dX5_snapshotIn_12 : decode cX5_snapshotIn 12 = .ok (.getfield 51, 3) := by decide +kernel
theorem dX5_snapshotIn_15 : decode cX5_snapshotIn 15 = .ok (.areturn, 1) := by decide +kernel
