set_option maxRecDepth 20000 in
theorem ggX2_giveBack_X5_becomeLike : GoodIn wsX2_giveBack wsX5_becomeLike := goodIn_r _ [12, 13, 14, 15, 16, 17, 18, 19, 20, 21, 22, 23, 24, 25, 26, 27, 28, 29, 30, 31, 32, 33, 34, 35, 36, 37, 38, 39, 40, 41, 42, 43, 44, 45, 46, 47, 48, 49, 50, 51, 52, 53, 57, 58, 59, 60, 61, 62, 63, 64, 65, 66, 67, 68, 69, 70, 71, 72, 73, 74, 75] (by decide +kernel) (by decide +kernel)
set_option maxRecDepth 20000 in
theorem gX2_giveBack_X5_becomeLike : GoodIn wsX2_giveBack (wsV RX2 25 RX5 yX5_becomeLike wsX5_becomeLike) := goodIn_app (goodIn_of _ (by decide +kernel)) ggX2_giveBack_X5_becomeLike
theorem dX2_giveBack_0 : decode cX2_giveBack 0 = .ok (.aload_n 0, 1) := by decide +kernel
theorem dX2_giveBack_1 : decode cX2_giveBack 1 = .ok (.aload_n 0, 1) := by decide +kernel
theorem dX2_giveBack_2 : decode cX2_giveBack 2 = .ok (.getfield 22, 3) := by decide +kernel
theorem dX2_giveBack_5 : decode cX2_giveBack 5 = .ok (.iconst 5, 1) := by decide +kernel
theorem dX2_giveBack_6 : decode cX2_giveBack 6 = .ok (.iadd, 1) := by decide +kernel
theorem dX2_giveBack_7 : decode cX2_giveBack 7 = .ok (.iconst 1, 1) := by decide +kernel
theorem dX2_giveBack_8 : decode cX2_giveBack 8 = .ok (.isub, 1) := by decide +kernel
theorem dX2_giveBack_9 : decode cX2_giveBack 9 = .ok (.iconst 5, 1) := by decide +kernel
theorem dX2_giveBack_10 : decode cX2_giveBack 10 = .ok (.irem, 1) := by decide +kernel
theorem dX2_giveBack_11 : decode cX2_giveBack 11 = .ok (.putfield 22, 3) := by decide +kernel
theorem dX2_giveBack_14 : decode cX2_giveBack 14 = .ok (.aload_n 0, 1) := by decide +kernel
theorem dX2_giveBack_15 : decode cX2_giveBack 15 = .ok (.aload_n 0, 1) := by decide +kernel
theorem dX2_giveBack_16 : decode cX2_giveBack 16 = .ok (.getfield 18, 3) := by decide +kernel
theorem dX2_giveBack_19 : decode cX2_giveBack 19 = .ok (.iconst 1, 1) := by decide +kernel
theorem dX2_giveBack_20 : decode cX2_giveBack 20 = .ok (.isub, 1) := by decide +kernel
theorem dX2_giveBack_21 : decode cX2_giveBack 21 = .ok (.iconst 0, 1) := by decide +kernel
theorem dX2_giveBack_22 : decode cX2_giveBack 22 = .ok (.invokestatic 35, 3) := by decide +kernel
theorem dX2_giveBack_25 : decode cX2_giveBack 25 = .ok (.putfield 18, 3) := by decide +kernel
theorem dX2_giveBack_28 : decode cX2_giveBack 28 = .ok (.aload_n 0, 1) := by decide +kernel
theorem dX2_giveBack_29 : decode cX2_giveBack 29 = .ok (.getfield 11, 3) := by decide +kernel
theorem dX2_giveBack_32 : decode cX2_giveBack 32 = .ok (.aload_n 0, 1) := by decide +kernel
theorem dX2_giveBack_33 : decode cX2_giveBack 33 = .ok (.getfield 22, 3) := by decide +kernel
theorem dX2_giveBack_36 : decode cX2_giveBack 36 = .ok (.aaload, 1) := by decide +kernel
theorem dX2_giveBack_37 : decode cX2_giveBack 37 = .ok (.astore_n 2, 1) := by decide +kernel
theorem dX2_giveBack_38 : decode cX2_giveBack 38 = .ok (.aload_n 2, 1) := by decide +kernel
theorem dX2_giveBack_39 : decode cX2_giveBack 39 = .ok (.ifnull 8, 3) := by decide +kernel
theorem dX2_giveBack_42 : decode cX2_giveBack 42 = .ok (.aload_n 1, 1) := by decide +kernel
theorem dX2_giveBack_43 : decode cX2_giveBack 43 = .ok (.aload_n 2, 1) := by decide +kernel
theorem dX2_giveBack_44 : decode cX2_giveBack 44 = .ok (.invokevirtual 25, 3) := by decide +kernel
theorem dX2_giveBack_47 : decode cX2_giveBack 47 = .ok (.return_, 1) := by decide +kernel
theorem dX3_init_0 : decode cX3_init 0 = .ok (.aload_n 0, 1) := by decide +kernel
theorem dX3_init_1 : decode cX3_init 1 = .ok (.invokespecial 3, 3) := by decide +kernel
theorem dX3_init_4 : decode cX3_init 4 = .ok (.aload_n 0, 1) := by decide +kernel
theorem dX3_init_5 : decode cX3_init 5 = .ok (.bipush 72, 2) := by decide +kernel
theorem dX3_init_7 : decode cX3_init 7 = .ok (.newarray .int, 2) := by decide +kernel
theorem dX3_init_9 : decode cX3_init 9 = .ok (.putfield 9, 3) := by decide +kernel
theorem dX3_init_12 : decode cX3_init 12 = .ok (.aload_n 0, 1) := by decide +kernel
theorem dX3_init_13 : decode cX3_init 13 = .ok (.iconst 0, 1) := by decide +kernel
theorem dX3_init_14 : decode cX3_init 14 = .ok (.putfield 15, 3) := by decide +kernel
theorem dX3_init_17 : decode cX3_init 17 = .ok (.aload_n 0, 1) := by decide +kernel
theorem dX3_init_18 : decode cX3_init 18 = .ok (.iconst 0, 1) := by decide +kernel
theorem dX3_init_19 : decode cX3_init 19 = .ok (.putfield 19, 3) := by decide +kernel
theorem dX3_init_22 : decode cX3_init 22 = .ok (.return_, 1) := by decide +kernel
theorem dX3_becomeLike_0 : decode cX3_becomeLike 0 = .ok (.aload_n 1, 1) := by decide +kernel
theorem dX3_becomeLike_1 : decode cX3_becomeLike 1 = .ok (.getfield 9, 3) := by decide +kernel
theorem dX3_becomeLike_4 : decode cX3_becomeLike 4 = .ok (.iconst 0, 1) := by decide +kernel
theorem dX3_becomeLike_5 : decode cX3_becomeLike 5 = .ok (.aload_n 0, 1) := by decide +kernel
theorem dX3_becomeLike_6 : decode cX3_becomeLike 6 = .ok (.getfield 9, 3) := by decide +kernel
theorem dX3_becomeLike_9 : decode cX3_becomeLike 9 = .ok (.iconst 0, 1) := by decide +kernel
theorem dX3_becomeLike_10 : decode cX3_becomeLike 10 = .ok (.bipush 72, 2) := by decide +kernel
theorem dX3_becomeLike_12 : decode cX3_becomeLike 12 = .ok (.invokestatic 22, 3) := by decide +kernel
theorem dX3_becomeLike_15 : decode cX3_becomeLike 15 = .ok (.aload_n 0, 1) := by decide +kernel
theorem dX3_becomeLike_16 : decode cX3_becomeLike 16 = .ok (.aload_n 1, 1) := by decide +kernel
theorem dX3_becomeLike_17 : decode cX3_becomeLike 17 = .ok (.getfield 15, 3) := by decide +kernel
theorem dX3_becomeLike_20 : decode cX3_becomeLike 20 = .ok (.putfield 15, 3) := by decide +kernel
theorem dX3_becomeLike_23 : decode cX3_becomeLike 23 = .ok (.aload_n 0, 1) := by decide +kernel
theorem dX3_becomeLike_24 : decode cX3_becomeLike 24 = .ok (.aload_n 1, 1) := by decide +kernel
theorem dX3_becomeLike_25 : decode cX3_becomeLike 25 = .ok (.getfield 19, 3) := by decide +kernel
theorem dX3_becomeLike_28 : decode cX3_becomeLike 28 = .ok (.putfield 19, 3) := by decide +kernel
theorem dX3_becomeLike_31 : decode cX3_becomeLike 31 = .ok (.return_, 1) := by decide +kernel
theorem dX3_size_0 : decode cX3_size 0 = .ok (.aload_n 0, 1) := by decide +kernel
theorem dX3_size_1 : decode cX3_size 1 = .ok (.getfield 15, 3) := by decide +kernel
theorem dX3_size_4 : decode cX3_size 4 = .ok (.ireturn, 1) := by decide +kernel
theorem dX3_addProof_0 : decode cX3_addProof 0 = .ok (.aload_n 0, 1) := by decide +kernel
theorem dX3_addProof_1 : decode cX3_addProof 1 = .ok (.aload_n 0, 1) := by decide +kernel
theorem dX3_addProof_2 : decode cX3_addProof 2 = .ok (.getfield 19, 3) := by decide +kernel
theorem dX3_addProof_5 : decode cX3_addProof 5 = .ok (.iconst 1, 1) := by decide +kernel
theorem dX3_addProof_6 : decode cX3_addProof 6 = .ok (.iadd, 1) := by decide +kernel
theorem dX3_addProof_7 : decode cX3_addProof 7 = .ok (.bipush 12, 2) := by decide +kernel
theorem dX3_addProof_9 : decode cX3_addProof 9 = .ok (.irem, 1) := by decide +kernel
theorem dX3_addProof_10 : decode cX3_addProof 10 = .ok (.putfield 19, 3) := by decide +kernel
theorem dX3_addProof_13 : decode cX3_addProof 13 = .ok (.aload_n 0, 1) := by decide +kernel
theorem dX3_addProof_14 : decode cX3_addProof 14 = .ok (.aload_n 0, 1) := by decide +kernel
theorem dX3_addProof_15 : decode cX3_addProof 15 = .ok (.getfield 15, 3) := by decide +kernel
theorem dX3_addProof_18 : decode cX3_addProof 18 = .ok (.iconst 1, 1) := by decide +kernel
theorem dX3_addProof_19 : decode cX3_addProof 19 = .ok (.iadd, 1) := by decide +kernel
theorem dX3_addProof_20 : decode cX3_addProof 20 = .ok (.bipush 12, 2) := by decide +kernel
theorem dX3_addProof_22 : decode cX3_addProof 22 = .ok (.invokestatic 28, 3) := by decide +kernel
theorem dX3_addProof_25 : decode cX3_addProof 25 = .ok (.putfield 15, 3) := by decide +kernel
theorem dX3_addProof_28 : decode cX3_addProof 28 = .ok (.aload_n 0, 1) := by decide +kernel
theorem dX3_addProof_29 : decode cX3_addProof 29 = .ok (.getfield 9, 3) := by decide +kernel
theorem dX3_addProof_32 : decode cX3_addProof 32 = .ok (.aload_n 0, 1) := by decide +kernel
theorem dX3_addProof_33 : decode cX3_addProof 33 = .ok (.getfield 19, 3) := by decide +kernel
theorem dX3_addProof_36 : decode cX3_addProof 36 = .ok (.bipush 6, 2) := by decide +kernel
theorem dX3_addProof_38 : decode cX3_addProof 38 = .ok (.imul, 1) := by decide +kernel
theorem dX3_addProof_39 : decode cX3_addProof 39 = .ok (.iload_n 1, 1) := by decide +kernel
theorem dX3_addProof_40 : decode cX3_addProof 40 = .ok (.iastore, 1) := by decide +kernel
theorem dX3_addProof_41 : decode cX3_addProof 41 = .ok (.aload_n 0, 1) := by decide +kernel
theorem dX3_addProof_42 : decode cX3_addProof 42 = .ok (.getfield 9, 3) := by decide +kernel
theorem dX3_addProof_45 : decode cX3_addProof 45 = .ok (.aload_n 0, 1) := by decide +kernel
theorem dX3_addProof_46 : decode cX3_addProof 46 = .ok (.getfield 19, 3) := by decide +kernel
theorem dX3_addProof_49 : decode cX3_addProof 49 = .ok (.bipush 6, 2) := by decide +kernel
theorem dX3_addProof_51 : decode cX3_addProof 51 = .ok (.imul, 1) := by decide +kernel
theorem dX3_addProof_52 : decode cX3_addProof 52 = .ok (.iconst 1, 1) := by decide +kernel
theorem dX3_addProof_53 : decode cX3_addProof 53 = .ok (.iadd, 1) := by decide +kernel
theorem dX3_addProof_54 : decode cX3_addProof 54 = .ok (.iload_n 2, 1) := by decide +kernel
theorem dX3_addProof_55 : decode cX3_addProof 55 = .ok (.bipush 8, 2) := by decide +kernel
theorem dX3_addProof_57 : decode cX3_addProof 57 = .ok (.iadd, 1) := by decide +kernel
theorem dX3_addProof_58 : decode cX3_addProof 58 = .ok (.iastore, 1) := by decide +kernel
theorem dX3_addProof_59 : decode cX3_addProof 59 = .ok (.aload_n 0, 1) := by decide +kernel
theorem dX3_addProof_60 : decode cX3_addProof 60 = .ok (.getfield 9, 3) := by decide +kernel
theorem dX3_addProof_63 : decode cX3_addProof 63 = .ok (.aload_n 0, 1) := by decide +kernel
theorem dX3_addProof_64 : decode cX3_addProof 64 = .ok (.getfield 19, 3) := by decide +kernel
theorem dX3_addProof_67 : decode cX3_addProof 67 = .ok (.bipush 6, 2) := by decide +kernel
theorem dX3_addProof_69 : decode cX3_addProof 69 = .ok (.imul, 1) := by decide +kernel
theorem dX3_addProof_70 : decode cX3_addProof 70 = .ok (.iconst 2, 1) := by decide +kernel
theorem dX3_addProof_71 : decode cX3_addProof 71 = .ok (.iadd, 1) := by decide +kernel
theorem dX3_addProof_72 : decode cX3_addProof 72 = .ok (.iload_n 3, 1) := by decide +kernel
theorem dX3_addProof_73 : decode cX3_addProof 73 = .ok (.bipush 8, 2) := by decide +kernel
theorem dX3_addProof_75 : decode cX3_addProof 75 = .ok (.iadd, 1) := by decide +kernel
theorem dX3_addProof_76 : decode cX3_addProof 76 = .ok (.iastore, 1) := by decide +kernel
theorem dX3_addProof_77 : decode cX3_addProof 77 = .ok (.return_, 1) := by decide +kernel
theorem dX3_addFaults_0 : decode cX3_addFaults 0 = .ok (.aload_n 0, 1) := by decide +kernel
theorem dX3_addFaults_1 : decode cX3_addFaults 1 = .ok (.getfield 9, 3) := by decide +kernel
theorem dX3_addFaults_4 : decode cX3_addFaults 4 = .ok (.aload_n 0, 1) := by decide +kernel
theorem dX3_addFaults_5 : decode cX3_addFaults 5 = .ok (.getfield 19, 3) := by decide +kernel
theorem dX3_addFaults_8 : decode cX3_addFaults 8 = .ok (.bipush 6, 2) := by decide +kernel
theorem dX3_addFaults_10 : decode cX3_addFaults 10 = .ok (.imul, 1) := by decide +kernel
theorem dX3_addFaults_11 : decode cX3_addFaults 11 = .ok (.iconst 3, 1) := by decide +kernel
theorem dX3_addFaults_12 : decode cX3_addFaults 12 = .ok (.iadd, 1) := by decide +kernel
theorem dX3_addFaults_13 : decode cX3_addFaults 13 = .ok (.iload_n 1, 1) := by decide +kernel
theorem dX3_addFaults_14 : decode cX3_addFaults 14 = .ok (.iastore, 1) := by decide +kernel
theorem dX3_addFaults_15 : decode cX3_addFaults 15 = .ok (.aload_n 0, 1) := by decide +kernel
theorem dX3_addFaults_16 : decode cX3_addFaults 16 = .ok (.getfield 9, 3) := by decide +kernel
theorem dX3_addFaults_19 : decode cX3_addFaults 19 = .ok (.aload_n 0, 1) := by decide +kernel
theorem dX3_addFaults_20 : decode cX3_addFaults 20 = .ok (.getfield 19, 3) := by decide +kernel
theorem dX3_addFaults_23 : decode cX3_addFaults 23 = .ok (.bipush 6, 2) := by decide +kernel
theorem dX3_addFaults_25 : decode cX3_addFaults 25 = .ok (.imul, 1) := by decide +kernel
theorem dX3_addFaults_26 : decode cX3_addFaults 26 = .ok (.iconst 4, 1) := by decide +kernel
theorem dX3_addFaults_27 : decode cX3_addFaults 27 = .ok (.iadd, 1) := by decide +kernel
theorem dX3_addFaults_28 : decode cX3_addFaults 28 = .ok (.iload_n 2, 1) := by decide +kernel
theorem dX3_addFaults_29 : decode cX3_addFaults 29 = .ok (.iastore, 1) := by decide +kernel
theorem dX3_addFaults_30 : decode cX3_addFaults 30 = .ok (.aload_n 0, 1) := by decide +kernel
theorem dX3_addFaults_31 : decode cX3_addFaults 31 = .ok (.getfield 9, 3) := by decide +kernel
theorem dX3_addFaults_34 : decode cX3_addFaults 34 = .ok (.aload_n 0, 1) := by decide +kernel
theorem dX3_addFaults_35 : decode cX3_addFaults 35 = .ok (.getfield 19, 3) := by decide +kernel
theorem dX3_addFaults_38 : decode cX3_addFaults 38 = .ok (.bipush 6, 2) := by decide +kernel
theorem dX3_addFaults_40 : decode cX3_addFaults 40 = .ok (.imul, 1) := by decide +kernel
theorem dX3_addFaults_41 : decode cX3_addFaults 41 = .ok (.iconst 5, 1) := by decide +kernel
theorem dX3_addFaults_42 : decode cX3_addFaults 42 = .ok (.iadd, 1) := by decide +kernel
theorem dX3_addFaults_43 : decode cX3_addFaults 43 = .ok (.iload_n 3, 1) := by decide +kernel
theorem dX3_addFaults_44 : decode cX3_addFaults 44 = .ok (.iastore, 1) := by decide +kernel
theorem dX3_addFaults_45 : decode cX3_addFaults 45 = .ok (.return_, 1) := by decide +kernel
set_option maxRecDepth 20000 in
theorem ggX3_partOf_X6_isWithin : GoodIn wsX3_partOf wsX6_isWithin := goodIn_r _ [5] (by decide +kernel) (by decide +kernel)
set_option maxRecDepth 20000 in
theorem gX3_partOf_X6_isWithin_n34 : GoodIn wsX3_partOf (wsX6_isWithin) := ggX3_partOf_X6_isWithin
theorem dX3_partOf_0 : decode cX3_partOf 0 = .ok (.iload_n 1, 1) := by decide +kernel
theorem dX3_partOf_1 : decode cX3_partOf 1 = .ok (.iconst 0, 1) := by decide +kernel
theorem dX3_partOf_2 : decode cX3_partOf 2 = .ok (.bipush 11, 2) := by decide +kernel
theorem dX3_partOf_4 : decode cX3_partOf 4 = .ok (.invokestatic 34, 3) := by decide +kernel
theorem dX3_partOf_7 : decode cX3_partOf 7 = .ok (.ifCond .eq 12, 3) := by decide +kernel
theorem dX3_partOf_10 : decode cX3_partOf 10 = .ok (.iload_n 2, 1) := by decide +kernel
theorem dX3_partOf_11 : decode cX3_partOf 11 = .ok (.iconst 0, 1) := by decide +kernel
theorem dX3_partOf_12 : decode cX3_partOf 12 = .ok (.iconst 5, 1) := by decide +kernel
theorem dX3_partOf_13 : decode cX3_partOf 13 = .ok (.invokestatic 34, 3) := by decide +kernel
theorem dX3_partOf_16 : decode cX3_partOf 16 = .ok (.ifCond .ne 5, 3) := by decide +kernel
theorem dX3_partOf_19 : decode cX3_partOf 19 = .ok (.iconst 0, 1) := by decide +kernel
theorem dX3_partOf_20 : decode cX3_partOf 20 = .ok (.ireturn, 1) := by decide +kernel
theorem dX3_partOf_21 : decode cX3_partOf 21 = .ok (.aload_n 0, 1) := by decide +kernel
theorem dX3_partOf_22 : decode cX3_partOf 22 = .ok (.getfield 19, 3) := by decide +kernel
theorem dX3_partOf_25 : decode cX3_partOf 25 = .ok (.bipush 12, 2) := by decide +kernel
theorem dX3_partOf_27 : decode cX3_partOf 27 = .ok (.iadd, 1) := by decide +kernel
theorem dX3_partOf_28 : decode cX3_partOf 28 = .ok (.iload_n 1, 1) := by decide +kernel
theorem dX3_partOf_29 : decode cX3_partOf 29 = .ok (.isub, 1) := by decide +kernel
theorem dX3_partOf_30 : decode cX3_partOf 30 = .ok (.bipush 12, 2) := by decide +kernel
theorem dX3_partOf_32 : decode cX3_partOf 32 = .ok (.irem, 1) := by decide +kernel
theorem dX3_partOf_33 : decode cX3_partOf 33 = .ok (.istore_n 3, 1) := by decide +kernel
theorem dX3_partOf_34 : decode cX3_partOf 34 = .ok (.aload_n 0, 1) := by decide +kernel
theorem dX3_partOf_35 : decode cX3_partOf 35 = .ok (.getfield 9, 3) := by decide +kernel
theorem dX3_partOf_38 : decode cX3_partOf 38 = .ok (.iload_n 3, 1) := by decide +kernel
theorem dX3_partOf_39 : decode cX3_partOf 39 = .ok (.bipush 6, 2) := by decide +kernel
theorem dX3_partOf_41 : decode cX3_partOf 41 = .ok (.imul, 1) := by decide +kernel
theorem dX3_partOf_42 : decode cX3_partOf 42 = .ok (.iload_n 2, 1) := by decide +kernel
theorem dX3_partOf_43 : decode cX3_partOf 43 = .ok (.iadd, 1) := by decide +kernel
theorem dX3_partOf_44 : decode cX3_partOf 44 = .ok (.iaload, 1) := by decide +kernel
theorem dX3_partOf_45 : decode cX3_partOf 45 = .ok (.ireturn, 1) := by decide +kernel
set_option maxRecDepth 20000 in
theorem ggX4_init_X1_init : GoodIn wsX4_init wsX1_init := goodIn_r _ [16, 17, 2, 3, 4, 18, 25] (by decide +kernel) (by decide +kernel)
set_option maxRecDepth 20000 in
theorem gX4_init_X1_init : GoodIn wsX4_init (wsX1_init) := ggX4_init_X1_init
theorem dX4_init_0 : decode cX4_init 0 = .ok (.aload_n 0, 1) := by decide +kernel
theorem dX4_init_1 : decode cX4_init 1 = .ok (.invokespecial 3, 3) := by decide +kernel
theorem dX4_init_4 : decode cX4_init 4 = .ok (.aload_n 0, 1) := by decide +kernel
theorem dX4_init_5 : decode cX4_init 5 = .ok (.sipush 140, 3) := by decide +kernel
theorem dX4_init_8 : decode cX4_init 8 = .ok (.newarray .int, 2) := by decide +kernel
theorem dX4_init_10 : decode cX4_init 10 = .ok (.putfield 9, 3) := by decide +kernel
theorem dX4_init_13 : decode cX4_init 13 = .ok (.aload_n 0, 1) := by decide +kernel
theorem dX4_init_14 : decode cX4_init 14 = .ok (.iconst 0, 1) := by decide +kernel
theorem dX4_init_15 : decode cX4_init 15 = .ok (.putfield 15, 3) := by decide +kernel
theorem dX4_init_18 : decode cX4_init 18 = .ok (.aload_n 0, 1) := by decide +kernel
theorem dX4_init_19 : decode cX4_init 19 = .ok (.iconst 0, 1) := by decide +kernel
theorem dX4_init_20 : decode cX4_init 20 = .ok (.putfield 19, 3) := by decide +kernel
theorem dX4_init_23 : decode cX4_init 23 = .ok (.aload_n 0, 1) := by decide +kernel
theorem dX4_init_24 : decode cX4_init 24 = .ok (.iconst (-1), 1) := by decide +kernel
theorem dX4_init_25 : decode cX4_init 25 = .ok (.putfield 22, 3) := by decide +kernel
theorem dX4_init_28 : decode cX4_init 28 = .ok (.aload_n 0, 1) := by decide +kernel
theorem dX4_init_29 : decode cX4_init 29 = .ok (.new 25, 3) := by decide +kernel
theorem dX4_init_32 : decode cX4_init 32 = .ok (.dup, 1) := by decide +kernel
theorem dX4_init_33 : decode cX4_init 33 = .ok (.invokespecial 27, 3) := by decide +kernel
theorem dX4_init_36 : decode cX4_init 36 = .ok (.putfield 28, 3) := by decide +kernel
theorem dX4_init_39 : decode cX4_init 39 = .ok (.aload_n 0, 1) := by decide +kernel
theorem dX4_init_40 : decode cX4_init 40 = .ok (.new 25, 3) := by decide +kernel
theorem dX4_init_43 : decode cX4_init 43 = .ok (.dup, 1) := by decide +kernel
theorem dX4_init_44 : decode cX4_init 44 = .ok (.invokespecial 27, 3) := by decide +kernel
theorem dX4_init_47 : decode cX4_init 47 = .ok (.putfield 32, 3) := by decide +kernel
theorem dX4_init_50 : decode cX4_init 50 = .ok (.return_, 1) := by decide +kernel
theorem dX4_length_0 : decode cX4_length 0 = .ok (.aload_n 0, 1) := by decide +kernel
theorem dX4_length_1 : decode cX4_length 1 = .ok (.getfield 15, 3) := by decide +kernel
theorem dX4_length_4 : decode cX4_length 4 = .ok (.ireturn, 1) := by decide +kernel
set_option maxRecDepth 20000 in
theorem ggX5_init_X0_init : GoodIn wsX5_init wsX0_init := goodIn_r _ [27, 28, 2, 3, 29, 30, 31, 32, 33, 34, 35, 8, 36, 37, 38, 39, 40, 41, 67, 49, 50, 51, 52, 53] (by decide +kernel) (by decide +kernel)
set_option maxRecDepth 20000 in
theorem gX5_init_X0_init : GoodIn wsX5_init (wsX0_init) := ggX5_init_X0_init
set_option maxRecDepth 20000 in
theorem ggX5_init_X3_init : GoodIn wsX5_init wsX3_init := goodIn_r _ [44, 45, 2, 3, 8, 46, 47, 48, 64, 65, 66] (by decide +kernel) (by decide +kernel)
set_option maxRecDepth 20000 in
theorem gX5_init_X3_init : GoodIn wsX5_init (wsX3_init) := ggX5_init_X3_init
theorem dX5_init_0 : decode cX5_init 0 = .ok (.aload_n 0, 1) := by decide +kernel
theorem dX5_init_1 : decode cX5_init 1 = .ok (.invokespecial 3, 3) := by decide +kernel
theorem dX5_init_4 : decode cX5_init 4 = .ok (.aload_n 0, 1) := by decide +kernel
theorem dX5_init_5 : decode cX5_init 5 = .ok (.new 9, 3) := by decide +kernel
theorem dX5_init_8 : decode cX5_init 8 = .ok (.dup, 1) := by decide +kernel
theorem dX5_init_9 : decode cX5_init 9 = .ok (.invokespecial 11, 3) := by decide +kernel
theorem dX5_init_12 : decode cX5_init 12 = .ok (.putfield 12, 3) := by decide +kernel
theorem dX5_init_15 : decode cX5_init 15 = .ok (.aload_n 0, 1) := by decide +kernel
theorem dX5_init_16 : decode cX5_init 16 = .ok (.iconst 5, 1) := by decide +kernel
theorem dX5_init_17 : decode cX5_init 17 = .ok (.newarray .int, 2) := by decide +kernel
theorem dX5_init_19 : decode cX5_init 19 = .ok (.putfield 18, 3) := by decide +kernel
theorem dX5_init_22 : decode cX5_init 22 = .ok (.getstatic 22, 3) := by decide +kernel
theorem dX5_init_25 : decode cX5_init 25 = .ok (.iconst 0, 1) := by decide +kernel
theorem dX5_init_26 : decode cX5_init 26 = .ok (.aload_n 0, 1) := by decide +kernel
theorem dX5_init_27 : decode cX5_init 27 = .ok (.getfield 18, 3) := by decide +kernel
theorem dX5_init_30 : decode cX5_init 30 = .ok (.iconst 0, 1) := by decide +kernel
theorem dX5_init_31 : decode cX5_init 31 = .ok (.iconst 5, 1) := by decide +kernel
theorem dX5_init_32 : decode cX5_init 32 = .ok (.invokestatic 25, 3) := by decide +kernel
theorem dX5_init_35 : decode cX5_init 35 = .ok (.aload_n 0, 1) := by decide +kernel
theorem dX5_init_36 : decode cX5_init 36 = .ok (.new 31, 3) := by decide +kernel
theorem dX5_init_39 : decode cX5_init 39 = .ok (.dup, 1) := by decide +kernel
theorem dX5_init_40 : decode cX5_init 40 = .ok (.invokespecial 33, 3) := by decide +kernel
theorem dX5_init_43 : decode cX5_init 43 = .ok (.putfield 34, 3) := by decide +kernel
theorem dX5_init_46 : decode cX5_init 46 = .ok (.aload_n 0, 1) := by decide +kernel
theorem dX5_init_47 : decode cX5_init 47 = .ok (.iconst 0, 1) := by decide +kernel
theorem dX5_init_48 : decode cX5_init 48 = .ok (.putfield 38, 3) := by decide +kernel
theorem dX5_init_51 : decode cX5_init 51 = .ok (.aload_n 0, 1) := by decide +kernel
theorem dX5_init_52 : decode cX5_init 52 = .ok (.iconst 0, 1) := by decide +kernel
theorem dX5_init_53 : decode cX5_init 53 = .ok (.putfield 42, 3) := by decide +kernel
theorem dX5_init_56 : decode cX5_init 56 = .ok (.aload_n 0, 1) := by decide +kernel
theorem dX5_init_57 : decode cX5_init 57 = .ok (.iconst 0, 1) := by decide +kernel
theorem dX5_init_58 : decode cX5_init 58 = .ok (.putfield 45, 3) := by decide +kernel
theorem dX5_init_61 : decode cX5_init 61 = .ok (.aload_n 0, 1) := by decide +kernel
theorem dX5_init_62 : decode cX5_init 62 = .ok (.new 9, 3) := by decide +kernel
theorem dX5_init_65 : decode cX5_init 65 = .ok (.dup, 1) := by decide +kernel
theorem dX5_init_66 : decode cX5_init 66 = .ok (.invokespecial 11, 3) := by decide +kernel
theorem dX5_init_69 : decode cX5_init 69 = .ok (.putfield 48, 3) := by decide +kernel
theorem dX5_init_72 : decode cX5_init 72 = .ok (.aload_n 0, 1) := by decide +kernel
theorem dX5_init_73 : decode cX5_init 73 = .ok (.new 9, 3) := by decide +kernel
theorem dX5_init_76 : decode cX5_init 76 = .ok (.dup, 1) := by decide +kernel
theorem dX5_init_77 : decode cX5_init 77 = .ok (.invokespecial 11, 3) := by decide +kernel
theorem dX5_init_80 : decode cX5_init 80 = .ok (.putfield 51, 3) := by decide +kernel
theorem dX5_init_83 : decode cX5_init 83 = .ok (.aload_n 0, 1) := by decide +kernel
theorem dX5_init_84 : decode cX5_init 84 = .ok (.iconst 0, 1) := by decide +kernel
theorem dX5_init_85 : decode cX5_init 85 = .ok (.putfield 54, 3) := by decide +kernel
theorem dX5_init_88 : decode cX5_init 88 = .ok (.aload_n 0, 1) := by decide +kernel
theorem dX5_init_89 : decode cX5_init 89 = .ok (.iconst 0, 1) := by decide +kernel
theorem dX5_init_90 : decode cX5_init 90 = .ok (.putfield 58, 3) := by decide +kernel
theorem dX5_init_93 : decode cX5_init 93 = .ok (.return_, 1) := by decide +kernel
set_option maxRecDepth 20000 in
theorem ggX5_becomeLike_X0_becomeLike : GoodIn wsX5_becomeLike wsX0_becomeLike := goodIn_r _ [19, 20, 21, 22, 23, 24, 25, 4, 5, 6, 26, 27, 28, 29, 30, 31, 32, 52, 53, 54, 55, 56, 57] (by decide +kernel) (by decide +kernel)
set_option maxRecDepth 20000 in
theorem gX5_becomeLike_X0_becomeLike : GoodIn wsX5_becomeLike (wsV RX5 61 RX0 yX0_becomeLike wsX0_becomeLike) := goodIn_app (goodIn_of _ (by decide +kernel)) ggX5_becomeLike_X0_becomeLike
set_option maxRecDepth 20000 in
theorem ggX5_becomeLike_X3_becomeLike : GoodIn wsX5_becomeLike wsX3_becomeLike := goodIn_r _ [37, 38, 39, 4, 5, 6, 40, 41, 58, 59, 60] (by decide +kernel) (by decide +kernel)
set_option maxRecDepth 20000 in
theorem gX5_becomeLike_X3_becomeLike : GoodIn wsX5_becomeLike (wsV RX5 65 RX3 yX3_becomeLike wsX3_becomeLike) := goodIn_app (goodIn_of _ (by decide +kernel)) ggX5_becomeLike_X3_becomeLike
theorem dX5_becomeLike_0 : decode cX5_becomeLike 0 = .ok (.aload_n 0, 1) := by decide +kernel
theorem dX5_becomeLike_1 : decode cX5_becomeLike 1 = .ok (.getfield 12, 3) := by decide +kernel
theorem dX5_becomeLike_4 : decode cX5_becomeLike 4 = .ok (.aload_n 1, 1) := by decide +kernel
theorem dX5_becomeLike_5 : decode cX5_becomeLike 5 = .ok (.getfield 12, 3) := by decide +kernel
theorem dX5_becomeLike_8 : decode cX5_becomeLike 8 = .ok (.invokevirtual 61, 3) := by decide +kernel
theorem dX5_becomeLike_11 : decode cX5_becomeLike 11 = .ok (.aload_n 1, 1) := by decide +kernel
theorem dX5_becomeLike_12 : decode cX5_becomeLike 12 = .ok (.getfield 18, 3) := by decide +kernel
theorem dX5_becomeLike_15 : decode cX5_becomeLike 15 = .ok (.iconst 0, 1) := by decide +kernel
theorem dX5_becomeLike_16 : decode cX5_becomeLike 16 = .ok (.aload_n 0, 1) := by decide +kernel
theorem dX5_becomeLike_17 : decode cX5_becomeLike 17 = .ok (.getfield 18, 3) := by decide +kernel
theorem dX5_becomeLike_20 : decode cX5_becomeLike 20 = .ok (.iconst 0, 1) := by decide +kernel
theorem dX5_becomeLike_21 : decode cX5_becomeLike 21 = .ok (.iconst 5, 1) := by decide +kernel
theorem dX5_becomeLike_22 : decode cX5_becomeLike 22 = .ok (.invokestatic 25, 3) := by decide +kernel
theorem dX5_becomeLike_25 : decode cX5_becomeLike 25 = .ok (.aload_n 0, 1) := by decide +kernel
theorem dX5_becomeLike_26 : decode cX5_becomeLike 26 = .ok (.getfield 34, 3) := by decide +kernel
theorem dX5_becomeLike_29 : decode cX5_becomeLike 29 = .ok (.aload_n 1, 1) := by decide +kernel
theorem dX5_becomeLike_30 : decode cX5_becomeLike 30 = .ok (.getfield 34, 3) := by decide +kernel
theorem dX5_becomeLike_33 : decode cX5_becomeLike 33 = .ok (.invokevirtual 65, 3) := by decide +kernel
theorem dX5_becomeLike_36 : decode cX5_becomeLike 36 = .ok (.aload_n 0, 1) := by decide +kernel
theorem dX5_becomeLike_37 : decode cX5_becomeLike 37 = .ok (.aload_n 1, 1) := by decide +kernel
theorem dX5_becomeLike_38 : decode cX5_becomeLike 38 = .ok (.getfield 38, 3) := by decide +kernel
theorem dX5_becomeLike_41 : decode cX5_becomeLike 41 = .ok (.putfield 38, 3) := by decide +kernel
theorem dX5_becomeLike_44 : decode cX5_becomeLike 44 = .ok (.aload_n 0, 1) := by decide +kernel
theorem dX5_becomeLike_45 : decode cX5_becomeLike 45 = .ok (.aload_n 1, 1) := by decide +kernel
theorem dX5_becomeLike_46 : decode cX5_becomeLike 46 = .ok (.getfield 42, 3) := by decide +kernel
theorem dX5_becomeLike_49 : decode cX5_becomeLike 49 = .ok (.putfield 42, 3) := by decide +kernel
theorem dX5_becomeLike_52 : decode cX5_becomeLike 52 = .ok (.aload_n 0, 1) := by decide +kernel
theorem dX5_becomeLike_53 : decode cX5_becomeLike 53 = .ok (.aload_n 1, 1) := by decide +kernel
theorem dX5_becomeLike_54 : decode cX5_becomeLike 54 = .ok (.getfield 45, 3) := by decide +kernel
theorem dX5_becomeLike_57 : decode cX5_becomeLike 57 = .ok (.putfield 45, 3) := by decide +kernel
theorem dX5_becomeLike_60 : decode cX5_becomeLike 60 = .ok (.aload_n 0, 1) := by decide +kernel
theorem dX5_becomeLike_61 : decode cX5_becomeLike 61 = .ok (.getfield 48, 3) := by decide +kernel
theorem dX5_becomeLike_64 : decode cX5_becomeLike 64 = .ok (.aload_n 1, 1) := by decide +kernel
theorem dX5_becomeLike_65 : decode cX5_becomeLike 65 = .ok (.getfield 48, 3) := by decide +kernel
theorem dX5_becomeLike_68 : decode cX5_becomeLike 68 = .ok (.invokevirtual 61, 3) := by decide +kernel
theorem dX5_becomeLike_71 : decode cX5_becomeLike 71 = .ok (.aload_n 0, 1) := by decide +kernel
theorem dX5_becomeLike_72 : decode cX5_becomeLike 72 = .ok (.getfield 51, 3) := by decide +kernel
theorem dX5_becomeLike_75 : decode cX5_becomeLike 75 = .ok (.aload_n 1, 1) := by decide +kernel
theorem dX5_becomeLike_76 : decode cX5_becomeLike 76 = .ok (.getfield 51, 3) := by decide +kernel
theorem dX5_becomeLike_79 : decode cX5_becomeLike 79 = .ok (.invokevirtual 61, 3) := by decide +kernel
theorem dX5_becomeLike_82 : decode cX5_becomeLike 82 = .ok (.aload_n 0, 1) := by decide +kernel
theorem dX5_becomeLike_83 : decode cX5_becomeLike 83 = .ok (.aload_n 1, 1) := by decide +kernel
theorem dX5_becomeLike_84 : decode cX5_becomeLike 84 = .ok (.getfield 54, 3) := by decide +kernel
theorem dX5_becomeLike_87 : decode cX5_becomeLike 87 = .ok (.putfield 54, 3) := by decide +kernel
theorem dX5_becomeLike_90 : decode cX5_becomeLike 90 = .ok (.aload_n 0, 1) := by decide +kernel
theorem dX5_becomeLike_91 : decode cX5_becomeLike 91 = .ok (.aload_n 1, 1) := by decide +kernel
theorem dX5_becomeLike_92 : decode cX5_becomeLike 92 = .ok (.getfield 58, 3) := by decide +kernel
theorem dX5_becomeLike_95 : decode cX5_becomeLike 95 = .ok (.putfield 58, 3) := by decide +kernel
theorem dX5_becomeLike_98 : decode cX5_becomeLike 98 = .ok (.return_, 1) := by decide +kernel
theorem dX5_hardness_0 : decode cX5_hardness 0 = .ok (.aload_n 0, 1) := by decide +kernel
theorem dX5_hardness_1 : decode cX5_hardness 1 = .ok (.getfield 18, 3) := by decide +kernel
theorem dX5_hardness_4 : decode cX5_hardness 4 = .ok (.iconst 3, 1) := by decide +kernel
theorem dX5_hardness_5 : decode cX5_hardness 5 = .ok (.iaload, 1) := by decide +kernel
theorem dX5_hardness_6 : decode cX5_hardness 6 = .ok (.ireturn, 1) := by decide +kernel
theorem dX5_driftX_0 : decode cX5_driftX 0 = .ok (.aload_n 0, 1) := by decide +kernel
theorem dX5_driftX_1 : decode cX5_driftX 1 = .ok (.getfield 18, 3) := by decide +kernel
theorem dX5_driftX_4 : decode cX5_driftX 4 = .ok (.iconst 0, 1) := by decide +kernel
theorem dX5_driftX_5 : decode cX5_driftX 5 = .ok (.iaload, 1) := by decide +kernel
theorem dX5_driftX_6 : decode cX5_driftX 6 = .ok (.bipush 50, 2) := by decide +kernel
theorem dX5_driftX_8 : decode cX5_driftX 8 = .ok (.isub, 1) := by decide +kernel
theorem dX5_driftX_9 : decode cX5_driftX 9 = .ok (.aload_n 0, 1) := by decide +kernel
theorem dX5_driftX_10 : decode cX5_driftX 10 = .ok (.getfield 18, 3) := by decide +kernel
theorem dX5_driftX_13 : decode cX5_driftX 13 = .ok (.iconst 1, 1) := by decide +kernel
theorem dX5_driftX_14 : decode cX5_driftX 14 = .ok (.iaload, 1) := by decide +kernel
theorem dX5_driftX_15 : decode cX5_driftX 15 = .ok (.imul, 1) := by decide +kernel
theorem dX5_driftX_16 : decode cX5_driftX 16 = .ok (.bipush 50, 2) := by decide +kernel
theorem dX5_driftX_18 : decode cX5_driftX 18 = .ok (.idiv, 1) := by decide +kernel
theorem dX5_driftX_19 : decode cX5_driftX 19 = .ok (.ireturn, 1) := by decide +kernel
theorem dX5_driftY_0 : decode cX5_driftY 0 = .ok (.aload_n 0, 1) := by decide +kernel
theorem dX5_driftY_1 : decode cX5_driftY 1 = .ok (.getfield 18, 3) := by decide +kernel
theorem dX5_driftY_4 : decode cX5_driftY 4 = .ok (.iconst 0, 1) := by decide +kernel
theorem dX5_driftY_5 : decode cX5_driftY 5 = .ok (.iaload, 1) := by decide +kernel
theorem dX5_driftY_6 : decode cX5_driftY 6 = .ok (.bipush 50, 2) := by decide +kernel
theorem dX5_driftY_8 : decode cX5_driftY 8 = .ok (.isub, 1) := by decide +kernel
theorem dX5_driftY_9 : decode cX5_driftY 9 = .ok (.aload_n 0, 1) := by decide +kernel
theorem dX5_driftY_10 : decode cX5_driftY 10 = .ok (.getfield 18, 3) := by decide +kernel
theorem dX5_driftY_13 : decode cX5_driftY 13 = .ok (.iconst 2, 1) := by decide +kernel
theorem dX5_driftY_14 : decode cX5_driftY 14 = .ok (.iaload, 1) := by decide +kernel
theorem dX5_driftY_15 : decode cX5_driftY 15 = .ok (.imul, 1) := by decide +kernel
theorem dX5_driftY_16 : decode cX5_driftY 16 = .ok (.bipush 50, 2) := by decide +kernel
theorem dX5_driftY_18 : decode cX5_driftY 18 = .ok (.idiv, 1) := by decide +kernel
theorem dX5_driftY_19 : decode cX5_driftY 19 = .ok (.ireturn, 1) := by decide +kernel
set_option maxRecDepth 20000 in
theorem ggX5_shiftX_X5_driftX : GoodIn wsX5_shiftX wsX5_driftX := goodIn_r _ [6, 7, 8, 9, 10, 11, 12, 13, 14, 15, 16, 17] (by decide +kernel) (by decide +kernel)
set_option maxRecDepth 20000 in
theorem gX5_shiftX_X5_driftX : GoodIn wsX5_shiftX (wsV RX5 68 RX5 yX5_driftX wsX5_driftX) := goodIn_app (goodIn_of _ (by decide +kernel)) ggX5_shiftX_X5_driftX
theorem dX5_shiftX_0 : decode cX5_shiftX 0 = .ok (.aload_n 0, 1) := by decide +kernel
theorem dX5_shiftX_1 : decode cX5_shiftX 1 = .ok (.getfield 38, 3) := by decide +kernel
theorem dX5_shiftX_4 : decode cX5_shiftX 4 = .ok (.aload_n 0, 1) := by decide +kernel
theorem dX5_shiftX_5 : decode cX5_shiftX 5 = .ok (.invokevirtual 68, 3) := by decide +kernel
theorem dX5_shiftX_8 : decode cX5_shiftX 8 = .ok (.iadd, 1) := by decide +kernel
theorem dX5_shiftX_9 : decode cX5_shiftX 9 = .ok (.ireturn, 1) := by decide +kernel
set_option maxRecDepth 20000 in
theorem ggX5_shiftY_X5_driftY : GoodIn wsX5_shiftY wsX5_driftY := goodIn_r _ [6, 7, 8, 9, 10, 11, 12, 13, 14, 15, 16, 17] (by decide +kernel) (by decide +kernel)
set_option maxRecDepth 20000 in
theorem gX5_shiftY_X5_driftY : GoodIn wsX5_shiftY (wsV RX5 72 RX5 yX5_driftY wsX5_driftY) := goodIn_app (goodIn_of _ (by decide +kernel)) ggX5_shiftY_X5_driftY
theorem dX5_shiftY_0 : decode cX5_shiftY 0 = .ok (.aload_n 0, 1) := by decide +kernel
theorem dX5_shiftY_1 : decode cX5_shiftY 1 = .ok (.getfield 42, 3) := by decide +kernel
theorem dX5_shiftY_4 : decode cX5_shiftY 4 = .ok (.aload_n 0, 1) := by decide +kernel
theorem dX5_shiftY_5 : decode cX5_shiftY 5 = .ok (.invokevirtual 72, 3) := by decide +kernel
theorem dX5_shiftY_8 : decode cX5_shiftY 8 = .ok (.iadd, 1) := by decide +kernel
theorem dX5_shiftY_9 : decode cX5_shiftY 9 = .ok (.ireturn, 1) := by decide +kernel
theorem dX5_dry_0 : decode cX5_dry 0 = .ok (.aload_n 0, 1) := by decide +kernel
theorem dX5_dry_1 : decode cX5_dry 1 = .ok (.getfield 18, 3) := by decide +kernel
theorem dX5_dry_4 : decode cX5_dry 4 = .ok (.iconst 0, 1) := by decide +kernel
theorem dX5_dry_5 : decode cX5_dry 5 = .ok (.iconst 0, 1) := by decide +kernel
theorem dX5_dry_6 : decode cX5_dry 6 = .ok (.aload_n 0, 1) := by decide +kernel
theorem dX5_dry_7 : decode cX5_dry 7 = .ok (.getfield 18, 3) := by decide +kernel
theorem dX5_dry_10 : decode cX5_dry 10 = .ok (.iconst 0, 1) := by decide +kernel
theorem dX5_dry_11 : decode cX5_dry 11 = .ok (.iaload, 1) := by decide +kernel
theorem dX5_dry_12 : decode cX5_dry 12 = .ok (.aload_n 0, 1) := by decide +kernel
theorem dX5_dry_13 : decode cX5_dry 13 = .ok (.getfield 18, 3) := by decide +kernel
theorem dX5_dry_16 : decode cX5_dry 16 = .ok (.iconst 4, 1) := by decide +kernel
theorem dX5_dry_17 : decode cX5_dry 17 = .ok (.iaload, 1) := by decide +kernel
theorem dX5_dry_18 : decode cX5_dry 18 = .ok (.isub, 1) := by decide +kernel
theorem dX5_dry_19 : decode cX5_dry 19 = .ok (.invokestatic 75, 3) := by decide +kernel
theorem dX5_dry_22 : decode cX5_dry 22 = .ok (.iastore, 1) := by decide +kernel
theorem dX5_dry_23 : decode cX5_dry 23 = .ok (.return_, 1) := by decide +kernel
theorem dX5_isTaken_0 : decode cX5_isTaken 0 = .ok (.iload_n 1, 1) := by decide +kernel
theorem dX5_isTaken_1 : decode cX5_isTaken 1 = .ok (.ifCond .ne 10, 3) := by decide +kernel
theorem dX5_isTaken_4 : decode cX5_isTaken 4 = .ok (.aload_n 0, 1) := by decide +kernel
theorem dX5_isTaken_5 : decode cX5_isTaken 5 = .ok (.getfield 54, 3) := by decide +kernel
theorem dX5_isTaken_8 : decode cX5_isTaken 8 = .ok (.goto 7, 3) := by decide +kernel
theorem dX5_isTaken_11 : decode cX5_isTaken 11 = .ok (.aload_n 0, 1) := by decide +kernel
theorem dX5_isTaken_12 : decode cX5_isTaken 12 = .ok (.getfield 58, 3) := by decide +kernel
theorem dX5_isTaken_15 : decode cX5_isTaken 15 = .ok (.ireturn, 1) := by decide +kernel
set_option maxRecDepth 20000 in
theorem ggX5_snapshots_X6_oneIf : GoodIn wsX5_snapshots wsX6_oneIf := goodIn_r _ [5] (by decide +kernel) (by decide +kernel)
set_option maxRecDepth 20000 in
theorem gX5_snapshots_X6_oneIf_n81 : GoodIn wsX5_snapshots (wsX6_oneIf) := ggX5_snapshots_X6_oneIf
theorem dX5_snapshots_0 : decode cX5_snapshots 0 = .ok (.aload_n 0, 1) := by decide +kernel
theorem dX5_snapshots_1 : decode cX5_snapshots 1 = .ok (.getfield 54, 3) := by decide +kernel
theorem dX5_snapshots_4 : decode cX5_snapshots 4 = .ok (.invokestatic 81, 3) := by decide +kernel
theorem dX5_snapshots_7 : decode cX5_snapshots 7 = .ok (.aload_n 0, 1) := by decide +kernel
theorem dX5_snapshots_8 : decode cX5_snapshots 8 = .ok (.getfield 58, 3) := by decide +kernel
theorem dX5_snapshots_11 : decode cX5_snapshots 11 = .ok (.invokestatic 81, 3) := by decide +kernel
theorem dX5_snapshots_14 : decode cX5_snapshots 14 = .ok (.iadd, 1) := by decide +kernel
theorem dX5_snapshots_15 : decode cX5_snapshots 15 = .ok (.ireturn, 1) := by decide +kernel
set_option maxRecDepth 20000 in
theorem ggX5_takeSnapshot_X5_snapshotIn : GoodIn wsX5_takeSnapshot wsX5_snapshotIn := goodIn_r _ [8, 9, 10, 32, 33, 34, 35, 36, 37, 38, 39, 40, 41] (by decide +kernel) (by decide +kernel)
set_option maxRecDepth 20000 in
theorem gX5_takeSnapshot_X5_snapshotIn : GoodIn wsX5_takeSnapshot (wsV RX5 85 RX5 yX5_snapshotIn wsX5_snapshotIn) := goodIn_app (goodIn_of _ (by decide +kernel)) ggX5_takeSnapshot_X5_snapshotIn
set_option maxRecDepth 20000 in
theorem ggX5_takeSnapshot_X0_becomeLike : GoodIn wsX5_takeSnapshot wsX0_becomeLike := goodIn_r _ [15, 16, 17, 18, 19, 20, 21, 22, 23, 24, 25, 26, 27, 28, 29, 30, 31, 42, 43, 44, 45, 46, 47] (by decide +kernel) (by decide +kernel)
set_option maxRecDepth 20000 in
theorem gX5_takeSnapshot_X0_becomeLike : GoodIn wsX5_takeSnapshot (wsV RX5 61 RX0 yX0_becomeLike wsX0_becomeLike) := goodIn_app (goodIn_of _ (by decide +kernel)) ggX5_takeSnapshot_X0_becomeLike
theorem dX5_takeSnapshot_0 : decode cX5_takeSnapshot 0 = .ok (.aload_n 0, 1) := by decide +kernel
theorem dX5_takeSnapshot_1 : decode cX5_takeSnapshot 1 = .ok (.iload_n 1, 1) := by decide +kernel
theorem dX5_takeSnapshot_2 : decode cX5_takeSnapshot 2 = .ok (.invokevirtual 85, 3) := by decide +kernel
theorem dX5_takeSnapshot_5 : decode cX5_takeSnapshot 5 = .ok (.aload_n 0, 1) := by decide +kernel
theorem dX5_takeSnapshot_6 : decode cX5_takeSnapshot 6 = .ok (.getfield 12, 3) := by decide +kernel
theorem dX5_takeSnapshot_9 : decode cX5_takeSnapshot 9 = .ok (.invokevirtual 61, 3) := by decide +kernel
theorem dX5_takeSnapshot_12 : decode cX5_takeSnapshot 12 = .ok (.aload_n 0, 1) := by decide +kernel
theorem dX5_takeSnapshot_13 : decode cX5_takeSnapshot 13 = .ok (.aload_n 0, 1) := by decide +kernel
theorem dX5_takeSnapshot_14 : decode cX5_takeSnapshot 14 = .ok (.getfield 54, 3) := by decide +kernel
theorem dX5_takeSnapshot_17 : decode cX5_takeSnapshot 17 = .ok (.ifCond .ne 7, 3) := by decide +kernel
theorem dX5_takeSnapshot_20 : decode cX5_takeSnapshot 20 = .ok (.iload_n 1, 1) := by decide +kernel
theorem dX5_takeSnapshot_21 : decode cX5_takeSnapshot 21 = .ok (.ifCond .ne 7, 3) := by decide +kernel
theorem dX5_takeSnapshot_24 : decode cX5_takeSnapshot 24 = .ok (.iconst 1, 1) := by decide +kernel
theorem dX5_takeSnapshot_25 : decode cX5_takeSnapshot 25 = .ok (.goto 4, 3) := by decide +kernel
theorem dX5_takeSnapshot_28 : decode cX5_takeSnapshot 28 = .ok (.iconst 0, 1) := by decide +kernel
theorem dX5_takeSnapshot_29 : decode cX5_takeSnapshot 29 = .ok (.putfield 54, 3) := by decide +kernel
theorem dX5_takeSnapshot_32 : decode cX5_takeSnapshot 32 = .ok (.aload_n 0, 1) := by decide +kernel
theorem dX5_takeSnapshot_33 : decode cX5_takeSnapshot 33 = .ok (.aload_n 0, 1) := by decide +kernel
theorem dX5_takeSnapshot_34 : decode cX5_takeSnapshot 34 = .ok (.getfield 58, 3) := by decide +kernel
theorem dX5_takeSnapshot_37 : decode cX5_takeSnapshot 37 = .ok (.ifCond .ne 8, 3) := by decide +kernel
theorem dX5_takeSnapshot_40 : decode cX5_takeSnapshot 40 = .ok (.iload_n 1, 1) := by decide +kernel
theorem dX5_takeSnapshot_41 : decode cX5_takeSnapshot 41 = .ok (.iconst 1, 1) := by decide +kernel
theorem dX5_takeSnapshot_42 : decode cX5_takeSnapshot 42 = .ok (.if_icmp .ne 7, 3) := by decide +kernel
theorem dX5_takeSnapshot_45 : decode cX5_takeSnapshot 45 = .ok (.iconst 1, 1) := by decide +kernel
theorem dX5_takeSnapshot_46 : decode cX5_takeSnapshot 46 = .ok (.goto 4, 3) := by decide +kernel
theorem dX5_takeSnapshot_49 : decode cX5_takeSnapshot 49 = .ok (.iconst 0, 1) := by decide +kernel
theorem dX5_takeSnapshot_50 : decode cX5_takeSnapshot 50 = .ok (.putfield 58, 3) := by decide +kernel
theorem dX5_takeSnapshot_53 : decode cX5_takeSnapshot 53 = .ok (.return_, 1) := by decide +kernel
set_option maxRecDepth 20000 in
theorem ggX5_restoreSnapshot_X5_snapshotIn : GoodIn wsX5_restoreSnapshot wsX5_snapshotIn := goodIn_r _ [6, 7, 8, 30, 31, 32, 33, 34, 35, 36, 37, 38, 39] (by decide +kernel) (by decide +kernel)
set_option maxRecDepth 20000 in
theorem gX5_restoreSnapshot_X5_snapshotIn : GoodIn wsX5_restoreSnapshot (wsV RX5 85 RX5 yX5_snapshotIn wsX5_snapshotIn) := goodIn_app (goodIn_of _ (by decide +kernel)) ggX5_restoreSnapshot_X5_snapshotIn
set_option maxRecDepth 20000 in
theorem ggX5_restoreSnapshot_X0_becomeLike : GoodIn wsX5_restoreSnapshot wsX0_becomeLike := goodIn_r _ [13, 14, 15, 16, 17, 18, 19, 20, 21, 22, 23, 24, 25, 26, 27, 28, 29, 40, 41, 42, 43, 44, 45] (by decide +kernel) (by decide +kernel)
set_option maxRecDepth 20000 in
theorem gX5_restoreSnapshot_X0_becomeLike : GoodIn wsX5_restoreSnapshot (wsV RX5 61 RX0 yX0_becomeLike wsX0_becomeLike) := goodIn_app (goodIn_of _ (by decide +kernel)) ggX5_restoreSnapshot_X0_becomeLike
theorem dX5_restoreSnapshot_0 : decode cX5_restoreSnapshot 0 = .ok (.aload_n 0, 1) := by decide +kernel
theorem dX5_restoreSnapshot_1 : decode cX5_restoreSnapshot 1 = .ok (.getfield 12, 3) := by decide +kernel
theorem dX5_restoreSnapshot_4 : decode cX5_restoreSnapshot 4 = .ok (.aload_n 0, 1) := by decide +kernel
theorem dX5_restoreSnapshot_5 : decode cX5_restoreSnapshot 5 = .ok (.iload_n 1, 1) := by decide +kernel
theorem dX5_restoreSnapshot_6 : decode cX5_restoreSnapshot 6 = .ok (.invokevirtual 85, 3) := by decide +kernel
theorem dX5_restoreSnapshot_9 : decode cX5_restoreSnapshot 9 = .ok (.invokevirtual 61, 3) := by decide +kernel
theorem dX5_restoreSnapshot_12 : decode cX5_restoreSnapshot 12 = .ok (.return_, 1) := by decide +kernel
theorem dX5_snapshotIn_0 : decode cX5_snapshotIn 0 = .ok (.iload_n 1, 1) := by decide +kernel
theorem dX5_snapshotIn_1 : decode cX5_snapshotIn 1 = .ok (.ifCond .ne 10, 3) := by decide +kernel
theorem dX5_snapshotIn_4 : decode cX5_snapshotIn 4 = .ok (.aload_n 0, 1) := by decide +kernel
theorem dX5_snapshotIn_5 : decode cX5_snapshotIn 5 = .ok (.getfield 48, 3) := by decide +kernel
theorem dX5_snapshotIn_8 : decode cX5_snapshotIn 8 = .ok (.goto 7, 3) := by decide +kernel
theorem dX5_snapshotIn_11 : decode cX5_snapshotIn 11 = .ok (.aload_n 0, 1) := by decide +kernel
theorem dX5_snapshotIn_12 : decode cX5_snapshotIn 12 = .ok (.getfield 51, 3) := by decide +kernel
theorem dX5_snapshotIn_15 : decode cX5_snapshotIn 15 = .ok (.areturn, 1) := by decide +kernel
set_option maxRecDepth 20000 in
theorem ggX6_init_X5_init : GoodIn wsX6_init wsX5_init := goodIn_r _ [23, 24, 2, 3, 25, 26, 27, 28, 29, 30, 31, 32, 33, 34, 35, 36, 37, 38, 39, 40, 41, 42, 43, 44, 45, 46, 47, 48, 49, 50, 17, 18, 51, 52, 53, 54, 55, 56, 57, 58, 59, 60, 61, 62, 63, 64, 65, 66, 67, 115, 116, 117, 118, 119, 90, 91, 92, 93, 94, 95, 96, 97, 98, 99, 120, 121, 122, 114] (by decide +kernel) (by decide +kernel)
set_option maxRecDepth 20000 in
theorem gX6_init_X5_init : GoodIn wsX6_init (wsX5_init) := ggX6_init_X5_init
set_option maxRecDepth 20000 in
theorem ggX6_init_X2_init : GoodIn wsX6_init wsX2_init := goodIn_r _ [70, 71, 2, 3, 72, 73, 5, 6, 74, 75, 76, 22, 23, 24, 25, 26, 27, 28, 29, 30, 31, 32, 33, 34, 35, 36, 37, 38, 39, 40, 41, 42, 43, 44, 45, 46, 47, 48, 49, 50, 17, 18, 51, 52, 53, 54, 55, 56, 57, 58, 59, 60, 61, 62, 63, 64, 65, 66, 67, 105, 106, 107, 90, 91, 92, 93, 94, 95, 96, 97, 98, 99, 115, 116, 117, 118, 119, 120, 121, 122, 114] (by decide +kernel) (by decide +kernel)
set_option maxRecDepth 20000 in
theorem gX6_init_X2_init : GoodIn wsX6_init (wsX2_init) := ggX6_init_X2_init
set_option maxRecDepth 20000 in
theorem ggX6_init_X4_init : GoodIn wsX6_init wsX4_init := goodIn_r _ [79, 80, 2, 3, 29, 81, 82, 83, 84, 85, 17, 18, 86, 87, 88, 57, 58, 59, 60, 108, 109, 110, 111, 112, 113, 114] (by decide +kernel) (by decide +kernel)
set_option maxRecDepth 20000 in
theorem gX6_init_X4_init : GoodIn wsX6_init (wsX4_init) := ggX6_init_X4_init
set_option maxRecDepth 20000 in
theorem ggX6_init_X1_init : GoodIn wsX6_init wsX1_init := goodIn_r _ [58, 59, 2, 3, 29, 60, 114] (by decide +kernel) (by decide +kernel)
set_option maxRecDepth 20000 in
theorem gX6_init_X1_init : GoodIn wsX6_init (wsX1_init) := ggX6_init_X1_init
theorem dX6_init_0 : decode cX6_init 0 = .ok (.aload_n 0, 1) := by decide +kernel
theorem dX6_init_1 : decode cX6_init 1 = .ok (.invokespecial 1, 3) := by decide +kernel
theorem dX6_init_4 : decode cX6_init 4 = .ok (.aload_n 0, 1) := by decide +kernel
theorem dX6_init_5 : decode cX6_init 5 = .ok (.new 7, 3) := by decide +kernel
theorem dX6_init_8 : decode cX6_init 8 = .ok (.dup, 1) := by decide +kernel
theorem dX6_init_9 : decode cX6_init 9 = .ok (.invokespecial 9, 3) := by decide +kernel
theorem dX6_init_12 : decode cX6_init 12 = .ok (.putfield 10, 3) := by decide +kernel
theorem dX6_init_15 : decode cX6_init 15 = .ok (.aload_n 0, 1) := by decide +kernel
theorem dX6_init_16 : decode cX6_init 16 = .ok (.new 16, 3) := by decide +kernel
theorem dX6_init_19 : decode cX6_init 19 = .ok (.dup, 1) := by decide +kernel
theorem dX6_init_20 : decode cX6_init 20 = .ok (.invokespecial 18, 3) := by decide +kernel
theorem dX6_init_23 : decode cX6_init 23 = .ok (.putfield 19, 3) := by decide +kernel
theorem dX6_init_26 : decode cX6_init 26 = .ok (.aload_n 0, 1) := by decide +kernel
theorem dX6_init_27 : decode cX6_init 27 = .ok (.new 23, 3) := by decide +kernel
theorem dX6_init_30 : decode cX6_init 30 = .ok (.dup, 1) := by decide +kernel
theorem dX6_init_31 : decode cX6_init 31 = .ok (.invokespecial 25, 3) := by decide +kernel
theorem dX6_init_34 : decode cX6_init 34 = .ok (.putfield 26, 3) := by decide +kernel
theorem dX6_init_37 : decode cX6_init 37 = .ok (.aload_n 0, 1) := by decide +kernel
theorem dX6_init_38 : decode cX6_init 38 = .ok (.new 30, 3) := by decide +kernel
theorem dX6_init_41 : decode cX6_init 41 = .ok (.dup, 1) := by decide +kernel
theorem dX6_init_42 : decode cX6_init 42 = .ok (.invokespecial 32, 3) := by decide +kernel
theorem dX6_init_45 : decode cX6_init 45 = .ok (.putfield 33, 3) := by decide +kernel
theorem dX6_init_48 : decode cX6_init 48 = .ok (.aload_n 0, 1) := by decide +kernel
theorem dX6_init_49 : decode cX6_init 49 = .ok (.new 30, 3) := by decide +kernel
theorem dX6_init_52 : decode cX6_init 52 = .ok (.dup, 1) := by decide +kernel
theorem dX6_init_53 : decode cX6_init 53 = .ok (.invokespecial 32, 3) := by decide +kernel
theorem dX6_init_56 : decode cX6_init 56 = .ok (.putfield 37, 3) := by decide +kernel
theorem dX6_init_59 : decode cX6_init 59 = .ok (.return_, 1) := by decide +kernel
set_option maxRecDepth 20000 in
theorem ggX6_paint_X6_isPlace : GoodIn wsX6_paint wsX6_isPlace := goodIn_r _ [7] (by decide +kernel) (by decide +kernel)
set_option maxRecDepth 20000 in
theorem gX6_paint_X6_isPlace : GoodIn wsX6_paint (va_wsS RX6 40 yX6_isPlace wsX6_isPlace) := goodIn_app (goodIn_of _ (by decide +kernel)) ggX6_paint_X6_isPlace
set_option maxRecDepth 20000 in
theorem ggX6_paint_X6_isWithin : GoodIn wsX6_paint wsX6_isWithin := goodIn_r _ [10] (by decide +kernel) (by decide +kernel)
set_option maxRecDepth 20000 in
theorem gX6_paint_X6_isWithin : GoodIn wsX6_paint (va_wsS RX6 44 yX6_isWithin wsX6_isWithin) := goodIn_app (goodIn_of _ (by decide +kernel)) ggX6_paint_X6_isWithin
set_option maxRecDepth 20000 in
theorem ggX6_paint_X2_keep : GoodIn wsX6_paint wsX2_keep := goodIn_r _ [15, 16, 17, 18, 19, 20, 21, 22, 23, 24, 25, 26, 27, 28, 29, 30, 31, 32, 33, 34, 35, 36, 37, 38, 39, 40, 41, 42, 43, 44, 45, 46, 47, 48, 49, 50, 51, 52, 53, 54, 55, 56, 57, 58, 59, 60, 61, 62, 63, 64, 65, 66, 67, 68, 102, 103, 104, 92, 93, 94, 95, 96, 97, 98, 99, 100, 101, 105, 106, 107, 108, 109, 110, 111, 112, 113] (by decide +kernel) (by decide +kernel)
set_option maxRecDepth 20000 in
theorem gX6_paint_X2_keep : GoodIn wsX6_paint (wsV RX6 48 RX2 yX2_keep wsX2_keep) := goodIn_app (goodIn_of _ (by decide +kernel)) ggX6_paint_X2_keep
set_option maxRecDepth 20000 in
theorem ggX6_paint_X0_fillArea : GoodIn wsX6_paint wsX0_fillArea := goodIn_r _ [72, 47, 48, 73, 74, 75, 45, 76, 77, 78, 79, 56, 80, 58, 5, 6, 7, 81, 82, 83, 84, 85, 86, 105, 106, 107, 108, 109, 110] (by decide +kernel) (by decide +kernel)
set_option maxRecDepth 20000 in
theorem gX6_paint_X0_fillArea : GoodIn wsX6_paint (wsV RX6 56 RX0 yX0_fillArea wsX0_fillArea) := goodIn_app (goodIn_of _ (by decide +kernel)) ggX6_paint_X0_fillArea
theorem dX6_paint_0 : decode cX6_paint 0 = .ok (.iload_n 1, 1) := by decide +kernel
theorem dX6_paint_1 : decode cX6_paint 1 = .ok (.iload_n 2, 1) := by decide +kernel
theorem dX6_paint_2 : decode cX6_paint 2 = .ok (.invokestatic 40, 3) := by decide +kernel
theorem dX6_paint_5 : decode cX6_paint 5 = .ok (.ifCond .eq 38, 3) := by decide +kernel
theorem dX6_paint_8 : decode cX6_paint 8 = .ok (.iload_n 3, 1) := by decide +kernel
theorem dX6_paint_9 : decode cX6_paint 9 = .ok (.iconst 1, 1) := by decide +kernel
theorem dX6_paint_10 : decode cX6_paint 10 = .ok (.bipush 16, 2) := by decide +kernel
theorem dX6_paint_12 : decode cX6_paint 12 = .ok (.iload_n 1, 1) := by decide +kernel
theorem dX6_paint_13 : decode cX6_paint 13 = .ok (.isub, 1) := by decide +kernel
theorem dX6_paint_14 : decode cX6_paint 14 = .ok (.invokestatic 44, 3) := by decide +kernel
theorem dX6_paint_17 : decode cX6_paint 17 = .ok (.ifCond .eq 26, 3) := by decide +kernel
theorem dX6_paint_20 : decode cX6_paint 20 = .ok (.iload 4, 2) := by decide +kernel
theorem dX6_paint_22 : decode cX6_paint 22 = .ok (.iconst 1, 1) := by decide +kernel
theorem dX6_paint_23 : decode cX6_paint 23 = .ok (.bipush 12, 2) := by decide +kernel
theorem dX6_paint_25 : decode cX6_paint 25 = .ok (.iload_n 2, 1) := by decide +kernel
theorem dX6_paint_26 : decode cX6_paint 26 = .ok (.isub, 1) := by decide +kernel
theorem dX6_paint_27 : decode cX6_paint 27 = .ok (.invokestatic 44, 3) := by decide +kernel
theorem dX6_paint_30 : decode cX6_paint 30 = .ok (.ifCond .eq 13, 3) := by decide +kernel
theorem dX6_paint_33 : decode cX6_paint 33 = .ok (.iload 5, 2) := by decide +kernel
theorem dX6_paint_35 : decode cX6_paint 35 = .ok (.iconst 0, 1) := by decide +kernel
theorem dX6_paint_36 : decode cX6_paint 36 = .ok (.iconst 2, 1) := by decide +kernel
theorem dX6_paint_37 : decode cX6_paint 37 = .ok (.invokestatic 44, 3) := by decide +kernel
theorem dX6_paint_40 : decode cX6_paint 40 = .ok (.ifCond .ne 7, 3) := by decide +kernel
theorem dX6_paint_43 : decode cX6_paint 43 = .ok (.sipush (-1001), 3) := by decide +kernel
theorem dX6_paint_46 : decode cX6_paint 46 = .ok (.ireturn, 1) := by decide +kernel
theorem dX6_paint_47 : decode cX6_paint 47 = .ok (.aload_n 0, 1) := by decide +kernel
theorem dX6_paint_48 : decode cX6_paint 48 = .ok (.getfield 19, 3) := by decide +kernel
theorem dX6_paint_51 : decode cX6_paint 51 = .ok (.aload_n 0, 1) := by decide +kernel
theorem dX6_paint_52 : decode cX6_paint 52 = .ok (.getfield 10, 3) := by decide +kernel
theorem dX6_paint_55 : decode cX6_paint 55 = .ok (.invokevirtual 48, 3) := by decide +kernel
theorem dX6_paint_58 : decode cX6_paint 58 = .ok (.aload_n 0, 1) := by decide +kernel
theorem dX6_paint_59 : decode cX6_paint 59 = .ok (.getfield 10, 3) := by decide +kernel
theorem dX6_paint_62 : decode cX6_paint 62 = .ok (.getfield 52, 3) := by decide +kernel
theorem dX6_paint_65 : decode cX6_paint 65 = .ok (.iload_n 1, 1) := by decide +kernel
theorem dX6_paint_66 : decode cX6_paint 66 = .ok (.iload_n 2, 1) := by decide +kernel
theorem dX6_paint_67 : decode cX6_paint 67 = .ok (.iload_n 3, 1) := by decide +kernel
theorem dX6_paint_68 : decode cX6_paint 68 = .ok (.iload 4, 2) := by decide +kernel
theorem dX6_paint_70 : decode cX6_paint 70 = .ok (.iload 5, 2) := by decide +kernel
theorem dX6_paint_72 : decode cX6_paint 72 = .ok (.invokevirtual 56, 3) := by decide +kernel
theorem dX6_paint_75 : decode cX6_paint 75 = .ok (.ireturn, 1) := by decide +kernel
set_option maxRecDepth 20000 in
theorem ggX6_cut_X6_isWithin : GoodIn wsX6_cut wsX6_isWithin := goodIn_r _ [8] (by decide +kernel) (by decide +kernel)
set_option maxRecDepth 20000 in
theorem gX6_cut_X6_isWithin : GoodIn wsX6_cut (va_wsS RX6 44 yX6_isWithin wsX6_isWithin) := goodIn_app (goodIn_of _ (by decide +kernel)) ggX6_cut_X6_isWithin
set_option maxRecDepth 20000 in
theorem ggX6_cut_X2_keep : GoodIn wsX6_cut wsX2_keep := goodIn_r _ [13, 14, 15, 16, 17, 18, 19, 20, 21, 22, 23, 24, 25, 26, 27, 28, 29, 30, 31, 32, 33, 34, 35, 36, 37, 38, 39, 40, 41, 42, 43, 44, 45, 46, 47, 48, 49, 50, 51, 52, 53, 54, 55, 56, 57, 58, 59, 60, 61, 62, 63, 64, 65, 66, 118, 119, 120, 103, 104, 105, 106, 107, 108, 109, 110, 111, 112, 113, 114, 115, 116, 117, 121, 122, 123, 124] (by decide +kernel) (by decide +kernel)
set_option maxRecDepth 20000 in
theorem gX6_cut_X2_keep : GoodIn wsX6_cut (wsV RX6 48 RX2 yX2_keep wsX2_keep) := goodIn_app (goodIn_of _ (by decide +kernel)) ggX6_cut_X2_keep
set_option maxRecDepth 20000 in
theorem ggX6_cut_X0_cutAnew : GoodIn wsX6_cut wsX0_cutAnew := goodIn_r _ [70, 47, 46, 49, 48, 51, 52, 53, 54, 55, 56, 57, 29, 30, 31, 71, 72, 73, 74, 75, 76, 77, 43, 78, 45, 79, 80, 81, 82, 83, 84, 85, 86, 113, 114, 115, 116, 117, 121] (by decide +kernel) (by decide +kernel)
set_option maxRecDepth 20000 in
theorem gX6_cut_X0_cutAnew : GoodIn wsX6_cut (wsV RX6 62 RX0 yX0_cutAnew wsX0_cutAnew) := goodIn_app (goodIn_of _ (by decide +kernel)) ggX6_cut_X0_cutAnew
set_option maxRecDepth 20000 in
theorem ggX6_cut_X1_size : GoodIn wsX6_cut wsX1_size := goodIn_r _ [90, 56, 91, 92, 93, 94, 95, 96, 97, 121] (by decide +kernel) (by decide +kernel)
set_option maxRecDepth 20000 in
theorem gX6_cut_X1_size : GoodIn wsX6_cut (wsV RX6 69 RX1 yX1_size wsX1_size) := goodIn_app (goodIn_of _ (by decide +kernel)) ggX6_cut_X1_size
theorem dX6_cut_0 : decode cX6_cut 0 = .ok (.iload_n 1, 1) := by decide +kernel
theorem dX6_cut_1 : decode cX6_cut 1 = .ok (.iconst 0, 1) := by decide +kernel
theorem dX6_cut_2 : decode cX6_cut 2 = .ok (.iconst 4, 1) := by decide +kernel
theorem dX6_cut_3 : decode cX6_cut 3 = .ok (.invokestatic 44, 3) := by decide +kernel
theorem dX6_cut_6 : decode cX6_cut 6 = .ok (.ifCond .ne 7, 3) := by decide +kernel
theorem dX6_cut_9 : decode cX6_cut 9 = .ok (.sipush (-1001), 3) := by decide +kernel
theorem dX6_cut_12 : decode cX6_cut 12 = .ok (.ireturn, 1) := by decide +kernel
theorem dX6_cut_13 : decode cX6_cut 13 = .ok (.aload_n 0, 1) := by decide +kernel
theorem dX6_cut_14 : decode cX6_cut 14 = .ok (.getfield 19, 3) := by decide +kernel
theorem dX6_cut_17 : decode cX6_cut 17 = .ok (.aload_n 0, 1) := by decide +kernel
theorem dX6_cut_18 : decode cX6_cut 18 = .ok (.getfield 10, 3) := by decide +kernel
theorem dX6_cut_21 : decode cX6_cut 21 = .ok (.invokevirtual 48, 3) := by decide +kernel
theorem dX6_cut_24 : decode cX6_cut 24 = .ok (.aload_n 0, 1) := by decide +kernel
theorem dX6_cut_25 : decode cX6_cut 25 = .ok (.getfield 10, 3) := by decide +kernel
theorem dX6_cut_28 : decode cX6_cut 28 = .ok (.getfield 52, 3) := by decide +kernel
theorem dX6_cut_31 : decode cX6_cut 31 = .ok (.iload_n 1, 1) := by decide +kernel
theorem dX6_cut_32 : decode cX6_cut 32 = .ok (.invokevirtual 62, 3) := by decide +kernel
theorem dX6_cut_35 : decode cX6_cut 35 = .ok (.aload_n 0, 1) := by decide +kernel
theorem dX6_cut_36 : decode cX6_cut 36 = .ok (.getfield 10, 3) := by decide +kernel
theorem dX6_cut_39 : decode cX6_cut 39 = .ok (.getfield 52, 3) := by decide +kernel
theorem dX6_cut_42 : decode cX6_cut 42 = .ok (.getfield 66, 3) := by decide +kernel
theorem dX6_cut_45 : decode cX6_cut 45 = .ok (.invokevirtual 69, 3) := by decide +kernel
theorem dX6_cut_48 : decode cX6_cut 48 = .ok (.ireturn, 1) := by decide +kernel
set_option maxRecDepth 20000 in
theorem ggX6_carve_X6_isWithin : GoodIn wsX6_carve wsX6_isWithin := goodIn_r _ [9] (by decide +kernel) (by decide +kernel)
set_option maxRecDepth 20000 in
theorem gX6_carve_X6_isWithin : GoodIn wsX6_carve (va_wsS RX6 44 yX6_isWithin wsX6_isWithin) := goodIn_app (goodIn_of _ (by decide +kernel)) ggX6_carve_X6_isWithin
set_option maxRecDepth 20000 in
theorem ggX6_carve_X6_isPlace : GoodIn wsX6_carve wsX6_isPlace := goodIn_r _ [12] (by decide +kernel) (by decide +kernel)
set_option maxRecDepth 20000 in
theorem gX6_carve_X6_isPlace : GoodIn wsX6_carve (va_wsS RX6 40 yX6_isPlace wsX6_isPlace) := goodIn_app (goodIn_of _ (by decide +kernel)) ggX6_carve_X6_isPlace
set_option maxRecDepth 20000 in
theorem ggX6_carve_X2_keep : GoodIn wsX6_carve wsX2_keep := goodIn_r _ [17, 18, 19, 20, 21, 22, 23, 24, 25, 26, 27, 28, 29, 30, 31, 32, 33, 34, 35, 36, 37, 38, 39, 40, 41, 42, 43, 44, 45, 46, 47, 48, 49, 50, 51, 52, 53, 54, 55, 56, 57, 58, 59, 60, 61, 62, 63, 64, 65, 66, 67, 68, 69, 70, 106, 107, 108, 91, 92, 93, 94, 95, 96, 97, 98, 99, 100, 101, 102, 103, 104, 105, 109, 110, 111, 112] (by decide +kernel) (by decide +kernel)
set_option maxRecDepth 20000 in
theorem gX6_carve_X2_keep : GoodIn wsX6_carve (wsV RX6 48 RX2 yX2_keep wsX2_keep) := goodIn_app (goodIn_of _ (by decide +kernel)) ggX6_carve_X2_keep
set_option maxRecDepth 20000 in
theorem ggX6_carve_X1_has : GoodIn wsX6_carve wsX1_has := goodIn_r _ [74, 60, 11, 8, 12, 109] (by decide +kernel) (by decide +kernel)
set_option maxRecDepth 20000 in
theorem gX6_carve_X1_has : GoodIn wsX6_carve (wsV RX6 76 RX1 yX1_has wsX1_has) := goodIn_app (goodIn_of _ (by decide +kernel)) ggX6_carve_X1_has
set_option maxRecDepth 20000 in
theorem ggX6_carve_X6_oneIf : GoodIn wsX6_carve wsX6_oneIf := goodIn_r _ [77] (by decide +kernel) (by decide +kernel)
set_option maxRecDepth 20000 in
theorem gX6_carve_X6_oneIf : GoodIn wsX6_carve (va_wsS RX6 79 yX6_oneIf wsX6_oneIf) := goodIn_app (goodIn_of _ (by decide +kernel)) ggX6_carve_X6_oneIf
set_option maxRecDepth 20000 in
theorem ggX6_carve_X1_put : GoodIn wsX6_carve wsX1_put := goodIn_r _ [81, 60, 11, 8, 12, 109] (by decide +kernel) (by decide +kernel)
set_option maxRecDepth 20000 in
theorem gX6_carve_X1_put : GoodIn wsX6_carve (wsV RX6 83 RX1 yX1_put wsX1_put) := goodIn_app (goodIn_of _ (by decide +kernel)) ggX6_carve_X1_put
set_option maxRecDepth 20000 in
theorem ggX6_carve_X0_clearWear : GoodIn wsX6_carve wsX0_clearWear := goodIn_r _ [85, 53, 11, 8, 12, 101, 102, 103, 104, 105] (by decide +kernel) (by decide +kernel)
set_option maxRecDepth 20000 in
theorem gX6_carve_X0_clearWear : GoodIn wsX6_carve (wsV RX6 87 RX0 yX0_clearWear wsX0_clearWear) := goodIn_app (goodIn_of _ (by decide +kernel)) ggX6_carve_X0_clearWear
theorem dX6_carve_0 : decode cX6_carve 0 = .ok (.iload_n 1, 1) := by decide +kernel
theorem dX6_carve_1 : decode cX6_carve 1 = .ok (.iconst 0, 1) := by decide +kernel
theorem dX6_carve_2 : decode cX6_carve 2 = .ok (.iconst 1, 1) := by decide +kernel
theorem dX6_carve_3 : decode cX6_carve 3 = .ok (.invokestatic 44, 3) := by decide +kernel
theorem dX6_carve_6 : decode cX6_carve 6 = .ok (.ifCond .eq 21, 3) := by decide +kernel
theorem dX6_carve_9 : decode cX6_carve 9 = .ok (.iload_n 2, 1) := by decide +kernel
theorem dX6_carve_10 : decode cX6_carve 10 = .ok (.iload_n 3, 1) := by decide +kernel
theorem dX6_carve_11 : decode cX6_carve 11 = .ok (.invokestatic 40, 3) := by decide +kernel
theorem dX6_carve_14 : decode cX6_carve 14 = .ok (.ifCond .eq 13, 3) := by decide +kernel
theorem dX6_carve_17 : decode cX6_carve 17 = .ok (.iload 4, 2) := by decide +kernel
theorem dX6_carve_19 : decode cX6_carve 19 = .ok (.iconst 0, 1) := by decide +kernel
theorem dX6_carve_20 : decode cX6_carve 20 = .ok (.iconst 1, 1) := by decide +kernel
theorem dX6_carve_21 : decode cX6_carve 21 = .ok (.invokestatic 44, 3) := by decide +kernel
theorem dX6_carve_24 : decode cX6_carve 24 = .ok (.ifCond .ne 7, 3) := by decide +kernel
theorem dX6_carve_27 : decode cX6_carve 27 = .ok (.sipush (-1001), 3) := by decide +kernel
theorem dX6_carve_30 : decode cX6_carve 30 = .ok (.ireturn, 1) := by decide +kernel
theorem dX6_carve_31 : decode cX6_carve 31 = .ok (.aload_n 0, 1) := by decide +kernel
theorem dX6_carve_32 : decode cX6_carve 32 = .ok (.getfield 19, 3) := by decide +kernel
theorem dX6_carve_35 : decode cX6_carve 35 = .ok (.aload_n 0, 1) := by decide +kernel
theorem dX6_carve_36 : decode cX6_carve 36 = .ok (.getfield 10, 3) := by decide +kernel
theorem dX6_carve_39 : decode cX6_carve 39 = .ok (.invokevirtual 48, 3) := by decide +kernel
theorem dX6_carve_42 : decode cX6_carve 42 = .ok (.iload_n 1, 1) := by decide +kernel
theorem dX6_carve_43 : decode cX6_carve 43 = .ok (.ifCond .ne 16, 3) := by decide +kernel
theorem dX6_carve_46 : decode cX6_carve 46 = .ok (.aload_n 0, 1) := by decide +kernel
theorem dX6_carve_47 : decode cX6_carve 47 = .ok (.getfield 10, 3) := by decide +kernel
theorem dX6_carve_50 : decode cX6_carve 50 = .ok (.getfield 52, 3) := by decide +kernel
theorem dX6_carve_53 : decode cX6_carve 53 = .ok (.getfield 73, 3) := by decide +kernel
theorem dX6_carve_56 : decode cX6_carve 56 = .ok (.goto 13, 3) := by decide +kernel
theorem dX6_carve_59 : decode cX6_carve 59 = .ok (.aload_n 0, 1) := by decide +kernel
theorem dX6_carve_60 : decode cX6_carve 60 = .ok (.getfield 10, 3) := by decide +kernel
theorem dX6_carve_63 : decode cX6_carve 63 = .ok (.getfield 52, 3) := by decide +kernel
theorem dX6_carve_66 : decode cX6_carve 66 = .ok (.getfield 66, 3) := by decide +kernel
theorem dX6_carve_69 : decode cX6_carve 69 = .ok (.astore 5, 2) := by decide +kernel
theorem dX6_carve_71 : decode cX6_carve 71 = .ok (.aload 5, 2) := by decide +kernel
theorem dX6_carve_73 : decode cX6_carve 73 = .ok (.iload_n 2, 1) := by decide +kernel
theorem dX6_carve_74 : decode cX6_carve 74 = .ok (.iload_n 3, 1) := by decide +kernel
theorem dX6_carve_75 : decode cX6_carve 75 = .ok (.invokevirtual 76, 3) := by decide +kernel
theorem dX6_carve_78 : decode cX6_carve 78 = .ok (.invokestatic 79, 3) := by decide +kernel
theorem dX6_carve_81 : decode cX6_carve 81 = .ok (.istore 6, 2) := by decide +kernel
theorem dX6_carve_83 : decode cX6_carve 83 = .ok (.aload 5, 2) := by decide +kernel
theorem dX6_carve_85 : decode cX6_carve 85 = .ok (.iload_n 2, 1) := by decide +kernel
theorem dX6_carve_86 : decode cX6_carve 86 = .ok (.iload_n 3, 1) := by decide +kernel
theorem dX6_carve_87 : decode cX6_carve 87 = .ok (.iload 4, 2) := by decide +kernel
theorem dX6_carve_89 : decode cX6_carve 89 = .ok (.iconst 1, 1) := by decide +kernel
theorem dX6_carve_90 : decode cX6_carve 90 = .ok (.if_icmp .ne 7, 3) := by decide +kernel
theorem dX6_carve_93 : decode cX6_carve 93 = .ok (.iconst 1, 1) := by decide +kernel
theorem dX6_carve_94 : decode cX6_carve 94 = .ok (.goto 4, 3) := by decide +kernel
theorem dX6_carve_97 : decode cX6_carve 97 = .ok (.iconst 0, 1) := by decide +kernel
theorem dX6_carve_98 : decode cX6_carve 98 = .ok (.invokevirtual 83, 3) := by decide +kernel
theorem dX6_carve_101 : decode cX6_carve 101 = .ok (.iload_n 1, 1) := by decide +kernel
theorem dX6_carve_102 : decode cX6_carve 102 = .ok (.ifCond .ne 15, 3) := by decide +kernel
theorem dX6_carve_105 : decode cX6_carve 105 = .ok (.aload_n 0, 1) := by decide +kernel
theorem dX6_carve_106 : decode cX6_carve 106 = .ok (.getfield 10, 3) := by decide +kernel
theorem dX6_carve_109 : decode cX6_carve 109 = .ok (.getfield 52, 3) := by decide +kernel
theorem dX6_carve_112 : decode cX6_carve 112 = .ok (.iload_n 2, 1) := by decide +kernel
theorem dX6_carve_113 : decode cX6_carve 113 = .ok (.iload_n 3, 1) := by decide +kernel
theorem dX6_carve_114 : decode cX6_carve 114 = .ok (.invokevirtual 87, 3) := by decide +kernel
theorem dX6_carve_117 : decode cX6_carve 117 = .ok (.iload 6, 2) := by decide +kernel
theorem dX6_carve_119 : decode cX6_carve 119 = .ok (.ireturn, 1) := by decide +kernel
set_option maxRecDepth 20000 in
theorem ggX6_plug_X6_isPlace : GoodIn wsX6_plug wsX6_isPlace := goodIn_r _ [7] (by decide +kernel) (by decide +kernel)
set_option maxRecDepth 20000 in
theorem gX6_plug_X6_isPlace : GoodIn wsX6_plug (va_wsS RX6 40 yX6_isPlace wsX6_isPlace) := goodIn_app (goodIn_of _ (by decide +kernel)) ggX6_plug_X6_isPlace
set_option maxRecDepth 20000 in
theorem ggX6_plug_X5_hardness : GoodIn wsX6_plug wsX5_hardness := goodIn_r _ [12, 13, 127, 128, 129, 130, 131, 132, 133, 134, 135, 136] (by decide +kernel) (by decide +kernel)
set_option maxRecDepth 20000 in
theorem gX6_plug_X5_hardness : GoodIn wsX6_plug (wsV RX6 91 RX5 yX5_hardness wsX5_hardness) := goodIn_app (goodIn_of _ (by decide +kernel)) ggX6_plug_X5_hardness
set_option maxRecDepth 20000 in
theorem ggX6_plug_X0_isWorn : GoodIn wsX6_plug wsX0_isWorn := goodIn_r _ [18, 19, 20, 21, 22, 23, 24, 25, 5, 6, 7, 26, 27, 28, 17, 29, 30, 137, 138, 139, 140, 141, 142] (by decide +kernel) (by decide +kernel)
set_option maxRecDepth 20000 in
theorem gX6_plug_X0_isWorn : GoodIn wsX6_plug (wsV RX6 94 RX0 yX0_isWorn wsX0_isWorn) := goodIn_app (goodIn_of _ (by decide +kernel)) ggX6_plug_X0_isWorn
set_option maxRecDepth 20000 in
theorem ggX6_plug_X2_keep : GoodIn wsX6_plug wsX2_keep := goodIn_r _ [35, 36, 37, 38, 39, 40, 41, 42, 43, 44, 45, 11, 46, 47, 13, 48, 49, 50, 51, 52, 53, 54, 55, 56, 57, 58, 59, 60, 61, 62, 17, 63, 64, 65, 19, 66, 30, 67, 68, 69, 70, 23, 71, 25, 72, 73, 74, 75, 76, 77, 78, 79, 80, 81, 143, 144, 145, 127, 128, 129, 130, 131, 132, 133, 134, 135, 136, 137, 138, 139, 140, 141, 142, 146, 147, 148] (by decide +kernel) (by decide +kernel)
set_option maxRecDepth 20000 in
theorem gX6_plug_X2_keep : GoodIn wsX6_plug (wsV RX6 48 RX2 yX2_keep wsX2_keep) := goodIn_app (goodIn_of _ (by decide +kernel)) ggX6_plug_X2_keep
set_option maxRecDepth 20000 in
theorem ggX6_plug_X0_clearWear : GoodIn wsX6_plug wsX0_clearWear := goodIn_r _ [85, 30, 5, 6, 7, 137, 138, 139, 140, 141] (by decide +kernel) (by decide +kernel)
set_option maxRecDepth 20000 in
theorem gX6_plug_X0_clearWear : GoodIn wsX6_plug (wsV RX6 87 RX0 yX0_clearWear wsX0_clearWear) := goodIn_app (goodIn_of _ (by decide +kernel)) ggX6_plug_X0_clearWear
set_option maxRecDepth 20000 in
theorem ggX6_plug_X6_wornCells : GoodIn wsX6_plug wsX6_wornCells := goodIn_r _ [89, 1, 2, 90, 91, 92, 93, 94, 6, 95, 8, 9, 10, 11, 12, 13, 96, 97, 98, 17, 99, 30, 19, 100, 101, 102, 103, 104, 23, 105, 25, 106, 107, 108, 109, 110, 111, 112, 113, 114, 115, 116, 117, 118, 119, 120, 121, 122, 123, 124, 125, 126, 127, 128, 129, 130, 131, 132, 133, 134, 135, 136, 137, 138, 139, 140, 141, 142] (by decide +kernel) (by decide +kernel)
set_option maxRecDepth 20000 in
theorem gX6_plug_X6_wornCells : GoodIn wsX6_plug (wsV RX6 97 RX6 yX6_wornCells wsX6_wornCells) := goodIn_app (goodIn_of _ (by decide +kernel)) ggX6_plug_X6_wornCells
theorem dX6_plug_0 : decode cX6_plug 0 = .ok (.iload_n 1, 1) := by decide +kernel
theorem dX6_plug_1 : decode cX6_plug 1 = .ok (.iload_n 2, 1) := by decide +kernel
theorem dX6_plug_2 : decode cX6_plug 2 = .ok (.invokestatic 40, 3) := by decide +kernel
theorem dX6_plug_5 : decode cX6_plug 5 = .ok (.ifCond .ne 7, 3) := by decide +kernel
theorem dX6_plug_8 : decode cX6_plug 8 = .ok (.sipush (-1001), 3) := by decide +kernel
theorem dX6_plug_11 : decode cX6_plug 11 = .ok (.ireturn, 1) := by decide +kernel
theorem dX6_plug_12 : decode cX6_plug 12 = .ok (.aload_n 0, 1) := by decide +kernel
theorem dX6_plug_13 : decode cX6_plug 13 = .ok (.getfield 10, 3) := by decide +kernel
theorem dX6_plug_16 : decode cX6_plug 16 = .ok (.getfield 52, 3) := by decide +kernel
theorem dX6_plug_19 : decode cX6_plug 19 = .ok (.iload_n 1, 1) := by decide +kernel
theorem dX6_plug_20 : decode cX6_plug 20 = .ok (.iload_n 2, 1) := by decide +kernel
theorem dX6_plug_21 : decode cX6_plug 21 = .ok (.aload_n 0, 1) := by decide +kernel
theorem dX6_plug_22 : decode cX6_plug 22 = .ok (.getfield 10, 3) := by decide +kernel
theorem dX6_plug_25 : decode cX6_plug 25 = .ok (.invokevirtual 91, 3) := by decide +kernel
theorem dX6_plug_28 : decode cX6_plug 28 = .ok (.invokevirtual 94, 3) := by decide +kernel
theorem dX6_plug_31 : decode cX6_plug 31 = .ok (.ifCond .ne 7, 3) := by decide +kernel
theorem dX6_plug_34 : decode cX6_plug 34 = .ok (.sipush (-1002), 3) := by decide +kernel
theorem dX6_plug_37 : decode cX6_plug 37 = .ok (.ireturn, 1) := by decide +kernel
theorem dX6_plug_38 : decode cX6_plug 38 = .ok (.aload_n 0, 1) := by decide +kernel
theorem dX6_plug_39 : decode cX6_plug 39 = .ok (.getfield 19, 3) := by decide +kernel
theorem dX6_plug_42 : decode cX6_plug 42 = .ok (.aload_n 0, 1) := by decide +kernel
theorem dX6_plug_43 : decode cX6_plug 43 = .ok (.getfield 10, 3) := by decide +kernel
theorem dX6_plug_46 : decode cX6_plug 46 = .ok (.invokevirtual 48, 3) := by decide +kernel
theorem dX6_plug_49 : decode cX6_plug 49 = .ok (.aload_n 0, 1) := by decide +kernel
theorem dX6_plug_50 : decode cX6_plug 50 = .ok (.getfield 10, 3) := by decide +kernel
theorem dX6_plug_53 : decode cX6_plug 53 = .ok (.getfield 52, 3) := by decide +kernel
theorem dX6_plug_56 : decode cX6_plug 56 = .ok (.iload_n 1, 1) := by decide +kernel
theorem dX6_plug_57 : decode cX6_plug 57 = .ok (.iload_n 2, 1) := by decide +kernel
theorem dX6_plug_58 : decode cX6_plug 58 = .ok (.invokevirtual 87, 3) := by decide +kernel
theorem dX6_plug_61 : decode cX6_plug 61 = .ok (.aload_n 0, 1) := by decide +kernel
theorem dX6_plug_62 : decode cX6_plug 62 = .ok (.invokevirtual 97, 3) := by decide +kernel
theorem dX6_plug_65 : decode cX6_plug 65 = .ok (.ireturn, 1) := by decide +kernel
set_option maxRecDepth 20000 in
theorem ggX6_setPins_X6_isWithin : GoodIn wsX6_setPins wsX6_isWithin := goodIn_r _ [8] (by decide +kernel) (by decide +kernel)
set_option maxRecDepth 20000 in
theorem gX6_setPins_X6_isWithin : GoodIn wsX6_setPins (va_wsS RX6 44 yX6_isWithin wsX6_isWithin) := goodIn_app (goodIn_of _ (by decide +kernel)) ggX6_setPins_X6_isWithin
set_option maxRecDepth 20000 in
theorem ggX6_setPins_X2_keep : GoodIn wsX6_setPins wsX2_keep := goodIn_r _ [13, 14, 15, 16, 17, 18, 19, 20, 21, 22, 23, 24, 25, 26, 27, 28, 29, 30, 31, 32, 33, 34, 35, 36, 37, 38, 39, 40, 41, 42, 43, 44, 45, 46, 47, 48, 49, 50, 51, 52, 53, 54, 55, 56, 57, 58, 59, 60, 61, 62, 63, 64, 65, 66, 144, 145, 146, 134, 135, 136, 137, 138, 139, 140, 141, 142, 143, 147, 148, 149, 150, 151, 152, 153, 154, 155] (by decide +kernel) (by decide +kernel)
set_option maxRecDepth 20000 in
theorem gX6_setPins_X2_keep : GoodIn wsX6_setPins (wsV RX6 48 RX2 yX2_keep wsX2_keep) := goodIn_app (goodIn_of _ (by decide +kernel)) ggX6_setPins_X2_keep
set_option maxRecDepth 20000 in
theorem ggX6_setPins_X6_findInk : GoodIn wsX6_setPins wsX6_findInk := goodIn_r _ [70, 2, 71, 72, 73, 74, 75, 24, 76, 27, 77, 78, 79, 43, 80, 49, 47, 81, 7, 82, 83, 84, 85, 54, 86, 56, 87, 88, 89, 90, 91, 129, 130, 131, 132, 133, 134, 135, 136, 137, 138, 139, 140, 141, 142, 143, 147, 148, 149, 150, 151, 152] (by decide +kernel) (by decide +kernel)
set_option maxRecDepth 20000 in
theorem gX6_setPins_X6_findInk : GoodIn wsX6_setPins (wsV RX6 107 RX6 yX6_findInk wsX6_findInk) := goodIn_app (goodIn_of _ (by decide +kernel)) ggX6_setPins_X6_findInk
set_option maxRecDepth 20000 in
theorem ggX6_setPins_X5_shiftX : GoodIn wsX6_setPins wsX5_shiftX := goodIn_r _ [95, 33, 96, 97, 98, 24, 99, 27, 134, 135, 136, 137, 138, 139, 140, 141, 142, 143] (by decide +kernel) (by decide +kernel)
set_option maxRecDepth 20000 in
theorem gX6_setPins_X5_shiftX : GoodIn wsX6_setPins (wsV RX6 110 RX5 yX5_shiftX wsX5_shiftX) := goodIn_app (goodIn_of _ (by decide +kernel)) ggX6_setPins_X5_shiftX
set_option maxRecDepth 20000 in
theorem ggX6_setPins_X5_shiftY : GoodIn wsX6_setPins wsX5_shiftY := goodIn_r _ [103, 34, 104, 105, 106, 24, 107, 27, 134, 135, 136, 137, 138, 139, 140, 141, 142, 143] (by decide +kernel) (by decide +kernel)
set_option maxRecDepth 20000 in
theorem gX6_setPins_X5_shiftY : GoodIn wsX6_setPins (wsV RX6 113 RX5 yX5_shiftY wsX5_shiftY) := goodIn_app (goodIn_of _ (by decide +kernel)) ggX6_setPins_X5_shiftY
set_option maxRecDepth 20000 in
theorem ggX6_setPins_X6_gapsWith : GoodIn wsX6_setPins wsX6_gapsWith := goodIn_r _ [111, 2, 71, 72, 112, 113, 114, 115, 43, 116, 45, 46, 83, 84, 85, 54, 86, 56, 117, 118, 119, 120, 91, 121, 122, 123, 124, 125, 126, 127, 128, 129, 130, 131, 132, 133, 134, 135, 136, 137, 138, 139, 140, 141, 142, 143, 147, 148, 149, 150, 151, 152] (by decide +kernel) (by decide +kernel)
set_option maxRecDepth 20000 in
theorem gX6_setPins_X6_gapsWith : GoodIn wsX6_setPins (wsV RX6 116 RX6 yX6_gapsWith wsX6_gapsWith) := goodIn_app (goodIn_of _ (by decide +kernel)) ggX6_setPins_X6_gapsWith
theorem dX6_setPins_0 : decode cX6_setPins 0 = .ok (.iload_n 1, 1) := by decide +kernel
theorem dX6_setPins_1 : decode cX6_setPins 1 = .ok (.bipush (-4), 2) := by decide +kernel
theorem dX6_setPins_3 : decode cX6_setPins 3 = .ok (.iconst 4, 1) := by decide +kernel
theorem dX6_setPins_4 : decode cX6_setPins 4 = .ok (.invokestatic 44, 3) := by decide +kernel
theorem dX6_setPins_7 : decode cX6_setPins 7 = .ok (.ifCond .eq 13, 3) := by decide +kernel
theorem dX6_setPins_10 : decode cX6_setPins 10 = .ok (.iload_n 2, 1) := by decide +kernel
theorem dX6_setPins_11 : decode cX6_setPins 11 = .ok (.bipush (-4), 2) := by decide +kernel
theorem dX6_setPins_13 : decode cX6_setPins 13 = .ok (.iconst 4, 1) := by decide +kernel
theorem dX6_setPins_14 : decode cX6_setPins 14 = .ok (.invokestatic 44, 3) := by decide +kernel
theorem dX6_setPins_17 : decode cX6_setPins 17 = .ok (.ifCond .ne 7, 3) := by decide +kernel
theorem dX6_setPins_20 : decode cX6_setPins 20 = .ok (.sipush (-1001), 3) := by decide +kernel
theorem dX6_setPins_23 : decode cX6_setPins 23 = .ok (.ireturn, 1) := by decide +kernel
theorem dX6_setPins_24 : decode cX6_setPins 24 = .ok (.aload_n 0, 1) := by decide +kernel
theorem dX6_setPins_25 : decode cX6_setPins 25 = .ok (.getfield 19, 3) := by decide +kernel
theorem dX6_setPins_28 : decode cX6_setPins 28 = .ok (.aload_n 0, 1) := by decide +kernel
theorem dX6_setPins_29 : decode cX6_setPins 29 = .ok (.getfield 10, 3) := by decide +kernel
theorem dX6_setPins_32 : decode cX6_setPins 32 = .ok (.invokevirtual 48, 3) := by decide +kernel
theorem dX6_setPins_35 : decode cX6_setPins 35 = .ok (.aload_n 0, 1) := by decide +kernel
theorem dX6_setPins_36 : decode cX6_setPins 36 = .ok (.getfield 10, 3) := by decide +kernel
theorem dX6_setPins_39 : decode cX6_setPins 39 = .ok (.iload_n 1, 1) := by decide +kernel
theorem dX6_setPins_40 : decode cX6_setPins 40 = .ok (.putfield 100, 3) := by decide +kernel
theorem dX6_setPins_43 : decode cX6_setPins 43 = .ok (.aload_n 0, 1) := by decide +kernel
theorem dX6_setPins_44 : decode cX6_setPins 44 = .ok (.getfield 10, 3) := by decide +kernel
theorem dX6_setPins_47 : decode cX6_setPins 47 = .ok (.iload_n 2, 1) := by decide +kernel
theorem dX6_setPins_48 : decode cX6_setPins 48 = .ok (.putfield 104, 3) := by decide +kernel
theorem dX6_setPins_51 : decode cX6_setPins 51 = .ok (.aload_n 0, 1) := by decide +kernel
theorem dX6_setPins_52 : decode cX6_setPins 52 = .ok (.invokevirtual 107, 3) := by decide +kernel
theorem dX6_setPins_55 : decode cX6_setPins 55 = .ok (.aload_n 0, 1) := by decide +kernel
theorem dX6_setPins_56 : decode cX6_setPins 56 = .ok (.aload_n 0, 1) := by decide +kernel
theorem dX6_setPins_57 : decode cX6_setPins 57 = .ok (.getfield 10, 3) := by decide +kernel
theorem dX6_setPins_60 : decode cX6_setPins 60 = .ok (.invokevirtual 110, 3) := by decide +kernel
theorem dX6_setPins_63 : decode cX6_setPins 63 = .ok (.aload_n 0, 1) := by decide +kernel
theorem dX6_setPins_64 : decode cX6_setPins 64 = .ok (.getfield 10, 3) := by decide +kernel
theorem dX6_setPins_67 : decode cX6_setPins 67 = .ok (.invokevirtual 113, 3) := by decide +kernel
theorem dX6_setPins_70 : decode cX6_setPins 70 = .ok (.invokevirtual 116, 3) := by decide +kernel
theorem dX6_setPins_73 : decode cX6_setPins 73 = .ok (.ireturn, 1) := by decide +kernel
set_option maxRecDepth 20000 in
theorem ggX6_set_X6_isWithin : GoodIn wsX6_set wsX6_isWithin := goodIn_r _ [9] (by decide +kernel) (by decide +kernel)
set_option maxRecDepth 20000 in
theorem gX6_set_X6_isWithin : GoodIn wsX6_set (va_wsS RX6 44 yX6_isWithin wsX6_isWithin) := goodIn_app (goodIn_of _ (by decide +kernel)) ggX6_set_X6_isWithin
set_option maxRecDepth 20000 in
theorem ggX6_set_X2_keep : GoodIn wsX6_set wsX2_keep := goodIn_r _ [14, 15, 16, 17, 18, 19, 20, 21, 22, 23, 24, 25, 26, 27, 28, 29, 30, 31, 32, 33, 34, 35, 36, 37, 38, 39, 40, 41, 42, 43, 44, 45, 46, 47, 48, 49, 50, 51, 52, 53, 54, 55, 56, 57, 58, 59, 60, 61, 62, 63, 64, 65, 66, 67, 83, 84, 85, 73, 74, 75, 76, 77, 78, 79, 80, 81, 82, 86, 87, 88, 89, 90, 91, 92, 93, 94] (by decide +kernel) (by decide +kernel)
set_option maxRecDepth 20000 in
theorem gX6_set_X2_keep : GoodIn wsX6_set (wsV RX6 48 RX2 yX2_keep wsX2_keep) := goodIn_app (goodIn_of _ (by decide +kernel)) ggX6_set_X2_keep
theorem dX6_set_0 : decode cX6_set 0 = .ok (.iload_n 1, 1) := by decide +kernel
theorem dX6_set_1 : decode cX6_set 1 = .ok (.iconst 0, 1) := by decide +kernel
theorem dX6_set_2 : decode cX6_set 2 = .ok (.iconst 4, 1) := by decide +kernel
theorem dX6_set_3 : decode cX6_set 3 = .ok (.invokestatic 44, 3) := by decide +kernel
theorem dX6_set_6 : decode cX6_set 6 = .ok (.ifCond .eq 20, 3) := by decide +kernel
theorem dX6_set_9 : decode cX6_set 9 = .ok (.iload_n 2, 1) := by decide +kernel
theorem dX6_set_10 : decode cX6_set 10 = .ok (.getstatic 120, 3) := by decide +kernel
theorem dX6_set_13 : decode cX6_set 13 = .ok (.iload_n 1, 1) := by decide +kernel
theorem dX6_set_14 : decode cX6_set 14 = .ok (.iaload, 1) := by decide +kernel
theorem dX6_set_15 : decode cX6_set 15 = .ok (.getstatic 124, 3) := by decide +kernel
theorem dX6_set_18 : decode cX6_set 18 = .ok (.iload_n 1, 1) := by decide +kernel
theorem dX6_set_19 : decode cX6_set 19 = .ok (.iaload, 1) := by decide +kernel
theorem dX6_set_20 : decode cX6_set 20 = .ok (.invokestatic 44, 3) := by decide +kernel
theorem dX6_set_23 : decode cX6_set 23 = .ok (.ifCond .ne 7, 3) := by decide +kernel
theorem dX6_set_26 : decode cX6_set 26 = .ok (.sipush (-1001), 3) := by decide +kernel
theorem dX6_set_29 : decode cX6_set 29 = .ok (.ireturn, 1) := by decide +kernel
theorem dX6_set_30 : decode cX6_set 30 = .ok (.aload_n 0, 1) := by decide +kernel
theorem dX6_set_31 : decode cX6_set 31 = .ok (.getfield 19, 3) := by decide +kernel
theorem dX6_set_34 : decode cX6_set 34 = .ok (.aload_n 0, 1) := by decide +kernel
theorem dX6_set_35 : decode cX6_set 35 = .ok (.getfield 10, 3) := by decide +kernel
theorem dX6_set_38 : decode cX6_set 38 = .ok (.invokevirtual 48, 3) := by decide +kernel
theorem dX6_set_41 : decode cX6_set 41 = .ok (.aload_n 0, 1) := by decide +kernel
theorem dX6_set_42 : decode cX6_set 42 = .ok (.getfield 10, 3) := by decide +kernel
theorem dX6_set_45 : decode cX6_set 45 = .ok (.getfield 127, 3) := by decide +kernel
theorem dX6_set_48 : decode cX6_set 48 = .ok (.iload_n 1, 1) := by decide +kernel
theorem dX6_set_49 : decode cX6_set 49 = .ok (.iaload, 1) := by decide +kernel
theorem dX6_set_50 : decode cX6_set 50 = .ok (.istore_n 3, 1) := by decide +kernel
theorem dX6_set_51 : decode cX6_set 51 = .ok (.aload_n 0, 1) := by decide +kernel
theorem dX6_set_52 : decode cX6_set 52 = .ok (.getfield 10, 3) := by decide +kernel
theorem dX6_set_55 : decode cX6_set 55 = .ok (.getfield 127, 3) := by decide +kernel
theorem dX6_set_58 : decode cX6_set 58 = .ok (.iload_n 1, 1) := by decide +kernel
theorem dX6_set_59 : decode cX6_set 59 = .ok (.iload_n 2, 1) := by decide +kernel
theorem dX6_set_60 : decode cX6_set 60 = .ok (.iastore, 1) := by decide +kernel
theorem dX6_set_61 : decode cX6_set 61 = .ok (.iload_n 3, 1) := by decide +kernel
theorem dX6_set_62 : decode cX6_set 62 = .ok (.ireturn, 1) := by decide +kernel
