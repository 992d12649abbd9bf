set_option maxRecDepth 20000 in
theorem ggX2_init_X4_squareBeside : GoodIn wsX2_init wsX4_squareBeside := goodIn_r _ [9, 10, 11, 12, 13, 8, 14] (by decide +kernel) (by decide +kernel)
set_option maxRecDepth 20000 in
theorem gX2_init_X4_squareBeside_n18 : GoodIn wsX2_init (wsX4_squareBeside) := ggX2_init_X4_squareBeside
set_option maxRecDepth 20000 in
theorem ggX2_init_X2_removeAllMen : GoodIn wsX2_init wsX2_removeAllMen := goodIn_r _ [19, 5, 30, 31] (by decide +kernel) (by decide +kernel)
set_option maxRecDepth 20000 in
theorem gX2_init_X2_removeAllMen : GoodIn wsX2_init (wsV RX2 22 RX2 yX2_removeAllMen wsX2_removeAllMen) := goodIn_app (goodIn_of _ (by decide +kernel)) ggX2_init_X2_removeAllMen
set_option maxRecDepth 20000 in
theorem ggX2_init_X2_place : GoodIn wsX2_init wsX2_place := goodIn_r _ [23, 5, 13, 8, 14, 24, 25, 26, 27, 28, 29, 30, 31] (by decide +kernel) (by decide +kernel)
set_option maxRecDepth 20000 in
theorem gX2_init_X2_place : GoodIn wsX2_init (wsV RX2 28 RX2 yX2_place wsX2_place) := goodIn_app (goodIn_of _ (by decide +kernel)) ggX2_init_X2_place
theorem dX2_init_0 : decode cX2_init 0 = .ok (.aload_n 0, 1) := by decide +kernel
theorem dX2_init_1 : decode cX2_init 1 = .ok (.invokespecial 5, 3) := by decide +kernel
theorem dX2_init_4 : decode cX2_init 4 = .ok (.aload_n 0, 1) := by decide +kernel
theorem dX2_init_5 : decode cX2_init 5 = .ok (.bipush 44, 2) := by decide +kernel
theorem dX2_init_7 : decode cX2_init 7 = .ok (.newarray .int, 2) := by decide +kernel
theorem dX2_init_9 : decode cX2_init 9 = .ok (.putfield 11, 3) := by decide +kernel
theorem dX2_init_12 : decode cX2_init 12 = .ok (.aload_n 0, 1) := by decide +kernel
theorem dX2_init_13 : decode cX2_init 13 = .ok (.sipush 200, 3) := by decide +kernel
theorem dX2_init_16 : decode cX2_init 16 = .ok (.newarray .int, 2) := by decide +kernel
theorem dX2_init_18 : decode cX2_init 18 = .ok (.putfield 15, 3) := by decide +kernel
theorem dX2_init_21 : decode cX2_init 21 = .ok (.iconst 0, 1) := by decide +kernel
theorem dX2_init_22 : decode cX2_init 22 = .ok (.istore_n 1, 1) := by decide +kernel
theorem dX2_init_23 : decode cX2_init 23 = .ok (.iload_n 1, 1) := by decide +kernel
theorem dX2_init_24 : decode cX2_init 24 = .ok (.aload_n 0, 1) := by decide +kernel
theorem dX2_init_25 : decode cX2_init 25 = .ok (.getfield 15, 3) := by decide +kernel
theorem dX2_init_28 : decode cX2_init 28 = .ok (.arraylength, 1) := by decide +kernel
theorem dX2_init_29 : decode cX2_init 29 = .ok (.if_icmp .ge 26, 3) := by decide +kernel
theorem dX2_init_32 : decode cX2_init 32 = .ok (.aload_n 0, 1) := by decide +kernel
theorem dX2_init_33 : decode cX2_init 33 = .ok (.getfield 15, 3) := by decide +kernel
theorem dX2_init_36 : decode cX2_init 36 = .ok (.iload_n 1, 1) := by decide +kernel
theorem dX2_init_37 : decode cX2_init 37 = .ok (.iload_n 1, 1) := by decide +kernel
theorem dX2_init_38 : decode cX2_init 38 = .ok (.bipush 8, 2) := by decide +kernel
theorem dX2_init_40 : decode cX2_init 40 = .ok (.idiv, 1) := by decide +kernel
theorem dX2_init_41 : decode cX2_init 41 = .ok (.iload_n 1, 1) := by decide +kernel
theorem dX2_init_42 : decode cX2_init 42 = .ok (.bipush 8, 2) := by decide +kernel
theorem dX2_init_44 : decode cX2_init 44 = .ok (.irem, 1) := by decide +kernel
theorem dX2_init_45 : decode cX2_init 45 = .ok (.invokestatic 18, 3) := by decide +kernel
theorem dX2_init_48 : decode cX2_init 48 = .ok (.iastore, 1) := by decide +kernel
theorem dX2_init_49 : decode cX2_init 49 = .ok (.iinc 1 1, 3) := by decide +kernel
theorem dX2_init_52 : decode cX2_init 52 = .ok (.goto (-29), 3) := by decide +kernel
theorem dX2_init_55 : decode cX2_init 55 = .ok (.aload_n 0, 1) := by decide +kernel
theorem dX2_init_56 : decode cX2_init 56 = .ok (.invokevirtual 22, 3) := by decide +kernel
theorem dX2_init_59 : decode cX2_init 59 = .ok (.iconst 0, 1) := by decide +kernel
theorem dX2_init_60 : decode cX2_init 60 = .ok (.istore_n 1, 1) := by decide +kernel
theorem dX2_init_61 : decode cX2_init 61 = .ok (.iload_n 1, 1) := by decide +kernel
theorem dX2_init_62 : decode cX2_init 62 = .ok (.getstatic 25, 3) := by decide +kernel
theorem dX2_init_65 : decode cX2_init 65 = .ok (.arraylength, 1) := by decide +kernel
theorem dX2_init_66 : decode cX2_init 66 = .ok (.if_icmp .ge 19, 3) := by decide +kernel
theorem dX2_init_69 : decode cX2_init 69 = .ok (.aload_n 0, 1) := by decide +kernel
theorem dX2_init_70 : decode cX2_init 70 = .ok (.iload_n 1, 1) := by decide +kernel
theorem dX2_init_71 : decode cX2_init 71 = .ok (.getstatic 25, 3) := by decide +kernel
theorem dX2_init_74 : decode cX2_init 74 = .ok (.iload_n 1, 1) := by decide +kernel
theorem dX2_init_75 : decode cX2_init 75 = .ok (.iaload, 1) := by decide +kernel
theorem dX2_init_76 : decode cX2_init 76 = .ok (.invokevirtual 28, 3) := by decide +kernel
theorem dX2_init_79 : decode cX2_init 79 = .ok (.iinc 1 1, 3) := by decide +kernel
theorem dX2_init_82 : decode cX2_init 82 = .ok (.goto (-21), 3) := by decide +kernel
theorem dX2_init_85 : decode cX2_init 85 = .ok (.return_, 1) := by decide +kernel
theorem dX2_copyTo_0 : decode cX2_copyTo 0 = .ok (.aload_n 1, 1) := by decide +kernel
theorem dX2_copyTo_1 : decode cX2_copyTo 1 = .ok (.ifnull 28, 3) := by decide +kernel
theorem dX2_copyTo_4 : decode cX2_copyTo 4 = .ok (.iload_n 2, 1) := by decide +kernel
theorem dX2_copyTo_5 : decode cX2_copyTo 5 = .ok (.ifCond .lt 24, 3) := by decide +kernel
theorem dX2_copyTo_8 : decode cX2_copyTo 8 = .ok (.iload_n 2, 1) := by decide +kernel
theorem dX2_copyTo_9 : decode cX2_copyTo 9 = .ok (.aload_n 1, 1) := by decide +kernel
theorem dX2_copyTo_10 : decode cX2_copyTo 10 = .ok (.arraylength, 1) := by decide +kernel
theorem dX2_copyTo_11 : decode cX2_copyTo 11 = .ok (.bipush 44, 2) := by decide +kernel
theorem dX2_copyTo_13 : decode cX2_copyTo 13 = .ok (.isub, 1) := by decide +kernel
theorem dX2_copyTo_14 : decode cX2_copyTo 14 = .ok (.if_icmp .gt 15, 3) := by decide +kernel
theorem dX2_copyTo_17 : decode cX2_copyTo 17 = .ok (.aload_n 0, 1) := by decide +kernel
theorem dX2_copyTo_18 : decode cX2_copyTo 18 = .ok (.getfield 11, 3) := by decide +kernel
theorem dX2_copyTo_21 : decode cX2_copyTo 21 = .ok (.iconst 0, 1) := by decide +kernel
theorem dX2_copyTo_22 : decode cX2_copyTo 22 = .ok (.aload_n 1, 1) := by decide +kernel
theorem dX2_copyTo_23 : decode cX2_copyTo 23 = .ok (.iload_n 2, 1) := by decide +kernel
theorem dX2_copyTo_24 : decode cX2_copyTo 24 = .ok (.bipush 44, 2) := by decide +kernel
theorem dX2_copyTo_26 : decode cX2_copyTo 26 = .ok (.invokestatic 32, 3) := by decide +kernel
theorem dX2_copyTo_29 : decode cX2_copyTo 29 = .ok (.return_, 1) := by decide +kernel
theorem dX2_copyFrom_0 : decode cX2_copyFrom 0 = .ok (.aload_n 1, 1) := by decide +kernel
theorem dX2_copyFrom_1 : decode cX2_copyFrom 1 = .ok (.ifnull 28, 3) := by decide +kernel
theorem dX2_copyFrom_4 : decode cX2_copyFrom 4 = .ok (.iload_n 2, 1) := by decide +kernel
theorem dX2_copyFrom_5 : decode cX2_copyFrom 5 = .ok (.ifCond .lt 24, 3) := by decide +kernel
theorem dX2_copyFrom_8 : decode cX2_copyFrom 8 = .ok (.iload_n 2, 1) := by decide +kernel
theorem dX2_copyFrom_9 : decode cX2_copyFrom 9 = .ok (.aload_n 1, 1) := by decide +kernel
theorem dX2_copyFrom_10 : decode cX2_copyFrom 10 = .ok (.arraylength, 1) := by decide +kernel
theorem dX2_copyFrom_11 : decode cX2_copyFrom 11 = .ok (.bipush 44, 2) := by decide +kernel
theorem dX2_copyFrom_13 : decode cX2_copyFrom 13 = .ok (.isub, 1) := by decide +kernel
theorem dX2_copyFrom_14 : decode cX2_copyFrom 14 = .ok (.if_icmp .gt 15, 3) := by decide +kernel
theorem dX2_copyFrom_17 : decode cX2_copyFrom 17 = .ok (.aload_n 1, 1) := by decide +kernel
theorem dX2_copyFrom_18 : decode cX2_copyFrom 18 = .ok (.iload_n 2, 1) := by decide +kernel
theorem dX2_copyFrom_19 : decode cX2_copyFrom 19 = .ok (.aload_n 0, 1) := by decide +kernel
theorem dX2_copyFrom_20 : decode cX2_copyFrom 20 = .ok (.getfield 11, 3) := by decide +kernel
theorem dX2_copyFrom_23 : decode cX2_copyFrom 23 = .ok (.iconst 0, 1) := by decide +kernel
theorem dX2_copyFrom_24 : decode cX2_copyFrom 24 = .ok (.bipush 44, 2) := by decide +kernel
theorem dX2_copyFrom_26 : decode cX2_copyFrom 26 = .ok (.invokestatic 32, 3) := by decide +kernel
theorem dX2_copyFrom_29 : decode cX2_copyFrom 29 = .ok (.return_, 1) := by decide +kernel
theorem dX2_sideToPlay_0 : decode cX2_sideToPlay 0 = .ok (.aload_n 0, 1) := by decide +kernel
theorem dX2_sideToPlay_1 : decode cX2_sideToPlay 1 = .ok (.getfield 11, 3) := by decide +kernel
theorem dX2_sideToPlay_4 : decode cX2_sideToPlay 4 = .ok (.bipush 39, 2) := by decide +kernel
theorem dX2_sideToPlay_6 : decode cX2_sideToPlay 6 = .ok (.iaload, 1) := by decide +kernel
theorem dX2_sideToPlay_7 : decode cX2_sideToPlay 7 = .ok (.ireturn, 1) := by decide +kernel
theorem dX2_setSideToPlay_0 : decode cX2_setSideToPlay 0 = .ok (.aload_n 0, 1) := by decide +kernel
theorem dX2_setSideToPlay_1 : decode cX2_setSideToPlay 1 = .ok (.getfield 11, 3) := by decide +kernel
theorem dX2_setSideToPlay_4 : decode cX2_setSideToPlay 4 = .ok (.bipush 39, 2) := by decide +kernel
theorem dX2_setSideToPlay_6 : decode cX2_setSideToPlay 6 = .ok (.iload_n 1, 1) := by decide +kernel
theorem dX2_setSideToPlay_7 : decode cX2_setSideToPlay 7 = .ok (.iastore, 1) := by decide +kernel
theorem dX2_setSideToPlay_8 : decode cX2_setSideToPlay 8 = .ok (.return_, 1) := by decide +kernel
theorem dX2_playsMade_0 : decode cX2_playsMade 0 = .ok (.aload_n 0, 1) := by decide +kernel
theorem dX2_playsMade_1 : decode cX2_playsMade 1 = .ok (.getfield 11, 3) := by decide +kernel
theorem dX2_playsMade_4 : decode cX2_playsMade 4 = .ok (.bipush 40, 2) := by decide +kernel
theorem dX2_playsMade_6 : decode cX2_playsMade 6 = .ok (.iaload, 1) := by decide +kernel
theorem dX2_playsMade_7 : decode cX2_playsMade 7 = .ok (.ireturn, 1) := by decide +kernel
theorem dX2_menTaken_0 : decode cX2_menTaken 0 = .ok (.aload_n 0, 1) := by decide +kernel
theorem dX2_menTaken_1 : decode cX2_menTaken 1 = .ok (.getfield 11, 3) := by decide +kernel
theorem dX2_menTaken_4 : decode cX2_menTaken 4 = .ok (.bipush 41, 2) := by decide +kernel
theorem dX2_menTaken_6 : decode cX2_menTaken 6 = .ok (.iaload, 1) := by decide +kernel
theorem dX2_menTaken_7 : decode cX2_menTaken 7 = .ok (.ireturn, 1) := by decide +kernel
theorem dX2_menPromoted_0 : decode cX2_menPromoted 0 = .ok (.aload_n 0, 1) := by decide +kernel
theorem dX2_menPromoted_1 : decode cX2_menPromoted 1 = .ok (.getfield 11, 3) := by decide +kernel
theorem dX2_menPromoted_4 : decode cX2_menPromoted 4 = .ok (.bipush 42, 2) := by decide +kernel
theorem dX2_menPromoted_6 : decode cX2_menPromoted 6 = .ok (.iaload, 1) := by decide +kernel
theorem dX2_menPromoted_7 : decode cX2_menPromoted 7 = .ok (.ireturn, 1) := by decide +kernel
theorem dX2_menDropped_0 : decode cX2_menDropped 0 = .ok (.aload_n 0, 1) := by decide +kernel
theorem dX2_menDropped_1 : decode cX2_menDropped 1 = .ok (.getfield 11, 3) := by decide +kernel
theorem dX2_menDropped_4 : decode cX2_menDropped 4 = .ok (.bipush 43, 2) := by decide +kernel
theorem dX2_menDropped_6 : decode cX2_menDropped 6 = .ok (.iaload, 1) := by decide +kernel
theorem dX2_menDropped_7 : decode cX2_menDropped 7 = .ok (.ireturn, 1) := by decide +kernel
theorem dX2_manOn_0 : decode cX2_manOn 0 = .ok (.iload_n 1, 1) := by decide +kernel
theorem dX2_manOn_1 : decode cX2_manOn 1 = .ok (.ifCond .lt 18, 3) := by decide +kernel
theorem dX2_manOn_4 : decode cX2_manOn 4 = .ok (.iload_n 1, 1) := by decide +kernel
theorem dX2_manOn_5 : decode cX2_manOn 5 = .ok (.bipush 25, 2) := by decide +kernel
theorem dX2_manOn_7 : decode cX2_manOn 7 = .ok (.if_icmp .ge 12, 3) := by decide +kernel
theorem dX2_manOn_10 : decode cX2_manOn 10 = .ok (.aload_n 0, 1) := by decide +kernel
theorem dX2_manOn_11 : decode cX2_manOn 11 = .ok (.getfield 11, 3) := by decide +kernel
theorem dX2_manOn_14 : decode cX2_manOn 14 = .ok (.iload_n 1, 1) := by decide +kernel
theorem dX2_manOn_15 : decode cX2_manOn 15 = .ok (.iaload, 1) := by decide +kernel
theorem dX2_manOn_16 : decode cX2_manOn 16 = .ok (.goto 5, 3) := by decide +kernel
theorem dX2_manOn_19 : decode cX2_manOn 19 = .ok (.bipush 99, 2) := by decide +kernel
theorem dX2_manOn_21 : decode cX2_manOn 21 = .ok (.ireturn, 1) := by decide +kernel
set_option maxRecDepth 20000 in
theorem ggX2_kingOf_X4_isSide : GoodIn wsX2_kingOf wsX4_isSide := goodIn_r _ [4] (by decide +kernel) (by decide +kernel)
set_option maxRecDepth 20000 in
theorem gX2_kingOf_X4_isSide_n38 : GoodIn wsX2_kingOf (wsX4_isSide) := ggX2_kingOf_X4_isSide
theorem dX2_kingOf_0 : decode cX2_kingOf 0 = .ok (.iload_n 1, 1) := by decide +kernel
theorem dX2_kingOf_1 : decode cX2_kingOf 1 = .ok (.invokestatic 38, 3) := by decide +kernel
theorem dX2_kingOf_4 : decode cX2_kingOf 4 = .ok (.ifCond .eq 15, 3) := by decide +kernel
theorem dX2_kingOf_7 : decode cX2_kingOf 7 = .ok (.aload_n 0, 1) := by decide +kernel
theorem dX2_kingOf_8 : decode cX2_kingOf 8 = .ok (.getfield 11, 3) := by decide +kernel
theorem dX2_kingOf_11 : decode cX2_kingOf 11 = .ok (.bipush 37, 2) := by decide +kernel
theorem dX2_kingOf_13 : decode cX2_kingOf 13 = .ok (.iload_n 1, 1) := by decide +kernel
theorem dX2_kingOf_14 : decode cX2_kingOf 14 = .ok (.iadd, 1) := by decide +kernel
theorem dX2_kingOf_15 : decode cX2_kingOf 15 = .ok (.iaload, 1) := by decide +kernel
theorem dX2_kingOf_16 : decode cX2_kingOf 16 = .ok (.goto 4, 3) := by decide +kernel
theorem dX2_kingOf_19 : decode cX2_kingOf 19 = .ok (.iconst (-1), 1) := by decide +kernel
theorem dX2_kingOf_20 : decode cX2_kingOf 20 = .ok (.ireturn, 1) := by decide +kernel
set_option maxRecDepth 20000 in
theorem ggX2_place_X4_isSquare : GoodIn wsX2_place wsX4_isSquare := goodIn_r _ [4] (by decide +kernel) (by decide +kernel)
set_option maxRecDepth 20000 in
theorem gX2_place_X4_isSquare_n42 : GoodIn wsX2_place (wsX4_isSquare) := ggX2_place_X4_isSquare
set_option maxRecDepth 20000 in
theorem ggX2_place_X4_isMan : GoodIn wsX2_place wsX4_isMan := goodIn_r _ [6] (by decide +kernel) (by decide +kernel)
set_option maxRecDepth 20000 in
theorem gX2_place_X4_isMan_n45 : GoodIn wsX2_place (wsX4_isMan) := ggX2_place_X4_isMan
set_option maxRecDepth 20000 in
theorem ggX2_place_X4_kindOf : GoodIn wsX2_place wsX4_kindOf := goodIn_r _ [8] (by decide +kernel) (by decide +kernel)
set_option maxRecDepth 20000 in
theorem gX2_place_X4_kindOf_n48 : GoodIn wsX2_place (wsX4_kindOf) := ggX2_place_X4_kindOf
set_option maxRecDepth 20000 in
theorem ggX2_place_X4_sideOf : GoodIn wsX2_place wsX4_sideOf := goodIn_r _ [10] (by decide +kernel) (by decide +kernel)
set_option maxRecDepth 20000 in
theorem gX2_place_X4_sideOf_n52 : GoodIn wsX2_place (wsX4_sideOf) := ggX2_place_X4_sideOf
theorem dX2_place_0 : decode cX2_place 0 = .ok (.iload_n 1, 1) := by decide +kernel
theorem dX2_place_1 : decode cX2_place 1 = .ok (.invokestatic 42, 3) := by decide +kernel
theorem dX2_place_4 : decode cX2_place 4 = .ok (.ifCond .ne 4, 3) := by decide +kernel
theorem dX2_place_7 : decode cX2_place 7 = .ok (.return_, 1) := by decide +kernel
theorem dX2_place_8 : decode cX2_place 8 = .ok (.aload_n 0, 1) := by decide +kernel
theorem dX2_place_9 : decode cX2_place 9 = .ok (.getfield 11, 3) := by decide +kernel
theorem dX2_place_12 : decode cX2_place 12 = .ok (.iload_n 1, 1) := by decide +kernel
theorem dX2_place_13 : decode cX2_place 13 = .ok (.iaload, 1) := by decide +kernel
theorem dX2_place_14 : decode cX2_place 14 = .ok (.istore_n 3, 1) := by decide +kernel
theorem dX2_place_15 : decode cX2_place 15 = .ok (.iload_n 3, 1) := by decide +kernel
theorem dX2_place_16 : decode cX2_place 16 = .ok (.invokestatic 45, 3) := by decide +kernel
theorem dX2_place_19 : decode cX2_place 19 = .ok (.ifCond .eq 23, 3) := by decide +kernel
theorem dX2_place_22 : decode cX2_place 22 = .ok (.iload_n 3, 1) := by decide +kernel
theorem dX2_place_23 : decode cX2_place 23 = .ok (.invokestatic 48, 3) := by decide +kernel
theorem dX2_place_26 : decode cX2_place 26 = .ok (.ifCond .ne 16, 3) := by decide +kernel
theorem dX2_place_29 : decode cX2_place 29 = .ok (.aload_n 0, 1) := by decide +kernel
theorem dX2_place_30 : decode cX2_place 30 = .ok (.getfield 11, 3) := by decide +kernel
theorem dX2_place_33 : decode cX2_place 33 = .ok (.bipush 37, 2) := by decide +kernel
theorem dX2_place_35 : decode cX2_place 35 = .ok (.iload_n 3, 1) := by decide +kernel
theorem dX2_place_36 : decode cX2_place 36 = .ok (.invokestatic 52, 3) := by decide +kernel
theorem dX2_place_39 : decode cX2_place 39 = .ok (.iadd, 1) := by decide +kernel
theorem dX2_place_40 : decode cX2_place 40 = .ok (.iconst (-1), 1) := by decide +kernel
theorem dX2_place_41 : decode cX2_place 41 = .ok (.iastore, 1) := by decide +kernel
theorem dX2_place_42 : decode cX2_place 42 = .ok (.aload_n 0, 1) := by decide +kernel
theorem dX2_place_43 : decode cX2_place 43 = .ok (.getfield 11, 3) := by decide +kernel
theorem dX2_place_46 : decode cX2_place 46 = .ok (.iload_n 1, 1) := by decide +kernel
theorem dX2_place_47 : decode cX2_place 47 = .ok (.iload_n 2, 1) := by decide +kernel
theorem dX2_place_48 : decode cX2_place 48 = .ok (.iastore, 1) := by decide +kernel
theorem dX2_place_49 : decode cX2_place 49 = .ok (.iload_n 2, 1) := by decide +kernel
theorem dX2_place_50 : decode cX2_place 50 = .ok (.invokestatic 45, 3) := by decide +kernel
theorem dX2_place_53 : decode cX2_place 53 = .ok (.ifCond .eq 23, 3) := by decide +kernel
theorem dX2_place_56 : decode cX2_place 56 = .ok (.iload_n 2, 1) := by decide +kernel
theorem dX2_place_57 : decode cX2_place 57 = .ok (.invokestatic 48, 3) := by decide +kernel
theorem dX2_place_60 : decode cX2_place 60 = .ok (.ifCond .ne 16, 3) := by decide +kernel
theorem dX2_place_63 : decode cX2_place 63 = .ok (.aload_n 0, 1) := by decide +kernel
theorem dX2_place_64 : decode cX2_place 64 = .ok (.getfield 11, 3) := by decide +kernel
theorem dX2_place_67 : decode cX2_place 67 = .ok (.bipush 37, 2) := by decide +kernel
theorem dX2_place_69 : decode cX2_place 69 = .ok (.iload_n 2, 1) := by decide +kernel
theorem dX2_place_70 : decode cX2_place 70 = .ok (.invokestatic 52, 3) := by decide +kernel
theorem dX2_place_73 : decode cX2_place 73 = .ok (.iadd, 1) := by decide +kernel
theorem dX2_place_74 : decode cX2_place 74 = .ok (.iload_n 1, 1) := by decide +kernel
theorem dX2_place_75 : decode cX2_place 75 = .ok (.iastore, 1) := by decide +kernel
theorem dX2_place_76 : decode cX2_place 76 = .ok (.return_, 1) := by decide +kernel
theorem dX2_removeAllMen_0 : decode cX2_removeAllMen 0 = .ok (.iconst 0, 1) := by decide +kernel
theorem dX2_removeAllMen_1 : decode cX2_removeAllMen 1 = .ok (.istore_n 1, 1) := by decide +kernel
theorem dX2_removeAllMen_2 : decode cX2_removeAllMen 2 = .ok (.iload_n 1, 1) := by decide +kernel
theorem dX2_removeAllMen_3 : decode cX2_removeAllMen 3 = .ok (.bipush 25, 2) := by decide +kernel
theorem dX2_removeAllMen_5 : decode cX2_removeAllMen 5 = .ok (.if_icmp .ge 17, 3) := by decide +kernel
theorem dX2_removeAllMen_8 : decode cX2_removeAllMen 8 = .ok (.aload_n 0, 1) := by decide +kernel
theorem dX2_removeAllMen_9 : decode cX2_removeAllMen 9 = .ok (.getfield 11, 3) := by decide +kernel
theorem dX2_removeAllMen_12 : decode cX2_removeAllMen 12 = .ok (.iload_n 1, 1) := by decide +kernel
theorem dX2_removeAllMen_13 : decode cX2_removeAllMen 13 = .ok (.bipush 99, 2) := by decide +kernel
theorem dX2_removeAllMen_15 : decode cX2_removeAllMen 15 = .ok (.iastore, 1) := by decide +kernel
theorem dX2_removeAllMen_16 : decode cX2_removeAllMen 16 = .ok (.iinc 1 1, 3) := by decide +kernel
theorem dX2_removeAllMen_19 : decode cX2_removeAllMen 19 = .ok (.goto (-17), 3) := by decide +kernel
theorem dX2_removeAllMen_22 : decode cX2_removeAllMen 22 = .ok (.bipush 25, 2) := by decide +kernel
theorem dX2_removeAllMen_24 : decode cX2_removeAllMen 24 = .ok (.istore_n 1, 1) := by decide +kernel
theorem dX2_removeAllMen_25 : decode cX2_removeAllMen 25 = .ok (.iload_n 1, 1) := by decide +kernel
theorem dX2_removeAllMen_26 : decode cX2_removeAllMen 26 = .ok (.bipush 37, 2) := by decide +kernel
theorem dX2_removeAllMen_28 : decode cX2_removeAllMen 28 = .ok (.if_icmp .ge 16, 3) := by decide +kernel
theorem dX2_removeAllMen_31 : decode cX2_removeAllMen 31 = .ok (.aload_n 0, 1) := by decide +kernel
theorem dX2_removeAllMen_32 : decode cX2_removeAllMen 32 = .ok (.getfield 11, 3) := by decide +kernel
theorem dX2_removeAllMen_35 : decode cX2_removeAllMen 35 = .ok (.iload_n 1, 1) := by decide +kernel
theorem dX2_removeAllMen_36 : decode cX2_removeAllMen 36 = .ok (.iconst 0, 1) := by decide +kernel
theorem dX2_removeAllMen_37 : decode cX2_removeAllMen 37 = .ok (.iastore, 1) := by decide +kernel
theorem dX2_removeAllMen_38 : decode cX2_removeAllMen 38 = .ok (.iinc 1 1, 3) := by decide +kernel
theorem dX2_removeAllMen_41 : decode cX2_removeAllMen 41 = .ok (.goto (-16), 3) := by decide +kernel
theorem dX2_removeAllMen_44 : decode cX2_removeAllMen 44 = .ok (.iconst 0, 1) := by decide +kernel
theorem dX2_removeAllMen_45 : decode cX2_removeAllMen 45 = .ok (.istore_n 1, 1) := by decide +kernel
theorem dX2_removeAllMen_46 : decode cX2_removeAllMen 46 = .ok (.iload_n 1, 1) := by decide +kernel
theorem dX2_removeAllMen_47 : decode cX2_removeAllMen 47 = .ok (.iconst 2, 1) := by decide +kernel
theorem dX2_removeAllMen_48 : decode cX2_removeAllMen 48 = .ok (.if_icmp .ge 19, 3) := by decide +kernel
theorem dX2_removeAllMen_51 : decode cX2_removeAllMen 51 = .ok (.aload_n 0, 1) := by decide +kernel
theorem dX2_removeAllMen_52 : decode cX2_removeAllMen 52 = .ok (.getfield 11, 3) := by decide +kernel
theorem dX2_removeAllMen_55 : decode cX2_removeAllMen 55 = .ok (.bipush 37, 2) := by decide +kernel
theorem dX2_removeAllMen_57 : decode cX2_removeAllMen 57 = .ok (.iload_n 1, 1) := by decide +kernel
theorem dX2_removeAllMen_58 : decode cX2_removeAllMen 58 = .ok (.iadd, 1) := by decide +kernel
theorem dX2_removeAllMen_59 : decode cX2_removeAllMen 59 = .ok (.iconst (-1), 1) := by decide +kernel
theorem dX2_removeAllMen_60 : decode cX2_removeAllMen 60 = .ok (.iastore, 1) := by decide +kernel
theorem dX2_removeAllMen_61 : decode cX2_removeAllMen 61 = .ok (.iinc 1 1, 3) := by decide +kernel
theorem dX2_removeAllMen_64 : decode cX2_removeAllMen 64 = .ok (.goto (-18), 3) := by decide +kernel
theorem dX2_removeAllMen_67 : decode cX2_removeAllMen 67 = .ok (.return_, 1) := by decide +kernel
set_option maxRecDepth 20000 in
theorem ggX2_inHand_X4_isSide : GoodIn wsX2_inHand wsX4_isSide := goodIn_r _ [4] (by decide +kernel) (by decide +kernel)
set_option maxRecDepth 20000 in
theorem gX2_inHand_X4_isSide_n38 : GoodIn wsX2_inHand (wsX4_isSide) := ggX2_inHand_X4_isSide
set_option maxRecDepth 20000 in
theorem ggX2_inHand_X4_isHandKind : GoodIn wsX2_inHand wsX4_isHandKind := goodIn_r _ [6] (by decide +kernel) (by decide +kernel)
set_option maxRecDepth 20000 in
theorem gX2_inHand_X4_isHandKind_n55 : GoodIn wsX2_inHand (wsX4_isHandKind) := ggX2_inHand_X4_isHandKind
theorem dX2_inHand_0 : decode cX2_inHand 0 = .ok (.iload_n 1, 1) := by decide +kernel
theorem dX2_inHand_1 : decode cX2_inHand 1 = .ok (.invokestatic 38, 3) := by decide +kernel
theorem dX2_inHand_4 : decode cX2_inHand 4 = .ok (.ifCond .eq 27, 3) := by decide +kernel
theorem dX2_inHand_7 : decode cX2_inHand 7 = .ok (.iload_n 2, 1) := by decide +kernel
theorem dX2_inHand_8 : decode cX2_inHand 8 = .ok (.invokestatic 55, 3) := by decide +kernel
theorem dX2_inHand_11 : decode cX2_inHand 11 = .ok (.ifCond .eq 20, 3) := by decide +kernel
theorem dX2_inHand_14 : decode cX2_inHand 14 = .ok (.aload_n 0, 1) := by decide +kernel
theorem dX2_inHand_15 : decode cX2_inHand 15 = .ok (.getfield 11, 3) := by decide +kernel
theorem dX2_inHand_18 : decode cX2_inHand 18 = .ok (.bipush 25, 2) := by decide +kernel
theorem dX2_inHand_20 : decode cX2_inHand 20 = .ok (.iload_n 1, 1) := by decide +kernel
theorem dX2_inHand_21 : decode cX2_inHand 21 = .ok (.bipush 6, 2) := by decide +kernel
theorem dX2_inHand_23 : decode cX2_inHand 23 = .ok (.imul, 1) := by decide +kernel
theorem dX2_inHand_24 : decode cX2_inHand 24 = .ok (.iadd, 1) := by decide +kernel
theorem dX2_inHand_25 : decode cX2_inHand 25 = .ok (.iload_n 2, 1) := by decide +kernel
theorem dX2_inHand_26 : decode cX2_inHand 26 = .ok (.iadd, 1) := by decide +kernel
theorem dX2_inHand_27 : decode cX2_inHand 27 = .ok (.iaload, 1) := by decide +kernel
theorem dX2_inHand_28 : decode cX2_inHand 28 = .ok (.goto 4, 3) := by decide +kernel
theorem dX2_inHand_31 : decode cX2_inHand 31 = .ok (.iconst 0, 1) := by decide +kernel
theorem dX2_inHand_32 : decode cX2_inHand 32 = .ok (.ireturn, 1) := by decide +kernel
set_option maxRecDepth 20000 in
theorem ggX2_setInHand_X4_isSide : GoodIn wsX2_setInHand wsX4_isSide := goodIn_r _ [4] (by decide +kernel) (by decide +kernel)
set_option maxRecDepth 20000 in
theorem gX2_setInHand_X4_isSide_n38 : GoodIn wsX2_setInHand (wsX4_isSide) := ggX2_setInHand_X4_isSide
set_option maxRecDepth 20000 in
theorem ggX2_setInHand_X4_isHandKind : GoodIn wsX2_setInHand wsX4_isHandKind := goodIn_r _ [6] (by decide +kernel) (by decide +kernel)
set_option maxRecDepth 20000 in
theorem gX2_setInHand_X4_isHandKind_n55 : GoodIn wsX2_setInHand (wsX4_isHandKind) := ggX2_setInHand_X4_isHandKind
theorem dX2_setInHand_0 : decode cX2_setInHand 0 = .ok (.iload_n 1, 1) := by decide +kernel
theorem dX2_setInHand_1 : decode cX2_setInHand 1 = .ok (.invokestatic 38, 3) := by decide +kernel
theorem dX2_setInHand_4 : decode cX2_setInHand 4 = .ok (.ifCond .eq 25, 3) := by decide +kernel
theorem dX2_setInHand_7 : decode cX2_setInHand 7 = .ok (.iload_n 2, 1) := by decide +kernel
theorem dX2_setInHand_8 : decode cX2_setInHand 8 = .ok (.invokestatic 55, 3) := by decide +kernel
theorem dX2_setInHand_11 : decode cX2_setInHand 11 = .ok (.ifCond .eq 18, 3) := by decide +kernel
theorem dX2_setInHand_14 : decode cX2_setInHand 14 = .ok (.aload_n 0, 1) := by decide +kernel
theorem dX2_setInHand_15 : decode cX2_setInHand 15 = .ok (.getfield 11, 3) := by decide +kernel
theorem dX2_setInHand_18 : decode cX2_setInHand 18 = .ok (.bipush 25, 2) := by decide +kernel
theorem dX2_setInHand_20 : decode cX2_setInHand 20 = .ok (.iload_n 1, 1) := by decide +kernel
theorem dX2_setInHand_21 : decode cX2_setInHand 21 = .ok (.bipush 6, 2) := by decide +kernel
theorem dX2_setInHand_23 : decode cX2_setInHand 23 = .ok (.imul, 1) := by decide +kernel
theorem dX2_setInHand_24 : decode cX2_setInHand 24 = .ok (.iadd, 1) := by decide +kernel
theorem dX2_setInHand_25 : decode cX2_setInHand 25 = .ok (.iload_n 2, 1) := by decide +kernel
theorem dX2_setInHand_26 : decode cX2_setInHand 26 = .ok (.iadd, 1) := by decide +kernel
theorem dX2_setInHand_27 : decode cX2_setInHand 27 = .ok (.iload_n 3, 1) := by decide +kernel
theorem dX2_setInHand_28 : decode cX2_setInHand 28 = .ok (.iastore, 1) := by decide +kernel
theorem dX2_setInHand_29 : decode cX2_setInHand 29 = .ok (.return_, 1) := by decide +kernel
theorem dX2_menOnBoard_0 : decode cX2_menOnBoard 0 = .ok (.iconst 0, 1) := by decide +kernel
theorem dX2_menOnBoard_1 : decode cX2_menOnBoard 1 = .ok (.istore_n 1, 1) := by decide +kernel
theorem dX2_menOnBoard_2 : decode cX2_menOnBoard 2 = .ok (.iconst 0, 1) := by decide +kernel
theorem dX2_menOnBoard_3 : decode cX2_menOnBoard 3 = .ok (.istore_n 2, 1) := by decide +kernel
theorem dX2_menOnBoard_4 : decode cX2_menOnBoard 4 = .ok (.iload_n 2, 1) := by decide +kernel
theorem dX2_menOnBoard_5 : decode cX2_menOnBoard 5 = .ok (.bipush 25, 2) := by decide +kernel
theorem dX2_menOnBoard_7 : decode cX2_menOnBoard 7 = .ok (.if_icmp .ge 23, 3) := by decide +kernel
theorem dX2_menOnBoard_10 : decode cX2_menOnBoard 10 = .ok (.aload_n 0, 1) := by decide +kernel
theorem dX2_menOnBoard_11 : decode cX2_menOnBoard 11 = .ok (.getfield 11, 3) := by decide +kernel
theorem dX2_menOnBoard_14 : decode cX2_menOnBoard 14 = .ok (.iload_n 2, 1) := by decide +kernel
theorem dX2_menOnBoard_15 : decode cX2_menOnBoard 15 = .ok (.iaload, 1) := by decide +kernel
theorem dX2_menOnBoard_16 : decode cX2_menOnBoard 16 = .ok (.bipush 99, 2) := by decide +kernel
theorem dX2_menOnBoard_18 : decode cX2_menOnBoard 18 = .ok (.if_icmp .eq 6, 3) := by decide +kernel
theorem dX2_menOnBoard_21 : decode cX2_menOnBoard 21 = .ok (.iinc 1 1, 3) := by decide +kernel
theorem dX2_menOnBoard_24 : decode cX2_menOnBoard 24 = .ok (.iinc 2 1, 3) := by decide +kernel
theorem dX2_menOnBoard_27 : decode cX2_menOnBoard 27 = .ok (.goto (-23), 3) := by decide +kernel
theorem dX2_menOnBoard_30 : decode cX2_menOnBoard 30 = .ok (.iload_n 1, 1) := by decide +kernel
theorem dX2_menOnBoard_31 : decode cX2_menOnBoard 31 = .ok (.ireturn, 1) := by decide +kernel
set_option maxRecDepth 20000 in
theorem ggX2_menInHand_X2_inHand : GoodIn wsX2_menInHand wsX2_inHand := goodIn_r _ [5, 6, 7, 8, 9, 10, 11, 12, 13] (by decide +kernel) (by decide +kernel)
set_option maxRecDepth 20000 in
theorem gX2_menInHand_X2_inHand : GoodIn wsX2_menInHand (wsV RX2 58 RX2 yX2_inHand wsX2_inHand) := goodIn_app (goodIn_of _ (by decide +kernel)) ggX2_menInHand_X2_inHand
theorem dX2_menInHand_0 : decode cX2_menInHand 0 = .ok (.iconst 0, 1) := by decide +kernel
theorem dX2_menInHand_1 : decode cX2_menInHand 1 = .ok (.istore_n 2, 1) := by decide +kernel
theorem dX2_menInHand_2 : decode cX2_menInHand 2 = .ok (.iconst 1, 1) := by decide +kernel
theorem dX2_menInHand_3 : decode cX2_menInHand 3 = .ok (.istore_n 3, 1) := by decide +kernel
theorem dX2_menInHand_4 : decode cX2_menInHand 4 = .ok (.iload_n 3, 1) := by decide +kernel
theorem dX2_menInHand_5 : decode cX2_menInHand 5 = .ok (.iconst 5, 1) := by decide +kernel
theorem dX2_menInHand_6 : decode cX2_menInHand 6 = .ok (.if_icmp .gt 18, 3) := by decide +kernel
theorem dX2_menInHand_9 : decode cX2_menInHand 9 = .ok (.iload_n 2, 1) := by decide +kernel
theorem dX2_menInHand_10 : decode cX2_menInHand 10 = .ok (.aload_n 0, 1) := by decide +kernel
theorem dX2_menInHand_11 : decode cX2_menInHand 11 = .ok (.iload_n 1, 1) := by decide +kernel
theorem dX2_menInHand_12 : decode cX2_menInHand 12 = .ok (.iload_n 3, 1) := by decide +kernel
theorem dX2_menInHand_13 : decode cX2_menInHand 13 = .ok (.invokevirtual 58, 3) := by decide +kernel
theorem dX2_menInHand_16 : decode cX2_menInHand 16 = .ok (.iadd, 1) := by decide +kernel
theorem dX2_menInHand_17 : decode cX2_menInHand 17 = .ok (.istore_n 2, 1) := by decide +kernel
theorem dX2_menInHand_18 : decode cX2_menInHand 18 = .ok (.iinc 3 1, 3) := by decide +kernel
theorem dX2_menInHand_21 : decode cX2_menInHand 21 = .ok (.goto (-17), 3) := by decide +kernel
theorem dX2_menInHand_24 : decode cX2_menInHand 24 = .ok (.iload_n 2, 1) := by decide +kernel
theorem dX2_menInHand_25 : decode cX2_menInHand 25 = .ok (.ireturn, 1) := by decide +kernel
set_option maxRecDepth 20000 in
theorem ggX2_worthFor_X4_kindOf : GoodIn wsX2_worthFor wsX4_kindOf := goodIn_r _ [4] (by decide +kernel) (by decide +kernel)
set_option maxRecDepth 20000 in
theorem gX2_worthFor_X4_kindOf_n48 : GoodIn wsX2_worthFor (wsX4_kindOf) := ggX2_worthFor_X4_kindOf
set_option maxRecDepth 20000 in
theorem ggX2_worthFor_X4_sideOf : GoodIn wsX2_worthFor wsX4_sideOf := goodIn_r _ [6] (by decide +kernel) (by decide +kernel)
set_option maxRecDepth 20000 in
theorem gX2_worthFor_X4_sideOf_n52 : GoodIn wsX2_worthFor (wsX4_sideOf) := ggX2_worthFor_X4_sideOf
set_option maxRecDepth 20000 in
theorem ggX2_worthFor_X2_inHand : GoodIn wsX2_worthFor wsX2_inHand := goodIn_r _ [11, 1, 12, 3, 13, 14, 15, 16, 17] (by decide +kernel) (by decide +kernel)
set_option maxRecDepth 20000 in
theorem gX2_worthFor_X2_inHand : GoodIn wsX2_worthFor (wsV RX2 58 RX2 yX2_inHand wsX2_inHand) := goodIn_app (goodIn_of _ (by decide +kernel)) ggX2_worthFor_X2_inHand
theorem dX2_worthFor_0 : decode cX2_worthFor 0 = .ok (.iconst 0, 1) := by decide +kernel
theorem dX2_worthFor_1 : decode cX2_worthFor 1 = .ok (.istore_n 2, 1) := by decide +kernel
theorem dX2_worthFor_2 : decode cX2_worthFor 2 = .ok (.iconst 0, 1) := by decide +kernel
theorem dX2_worthFor_3 : decode cX2_worthFor 3 = .ok (.istore_n 3, 1) := by decide +kernel
theorem dX2_worthFor_4 : decode cX2_worthFor 4 = .ok (.iload_n 3, 1) := by decide +kernel
theorem dX2_worthFor_5 : decode cX2_worthFor 5 = .ok (.bipush 25, 2) := by decide +kernel
theorem dX2_worthFor_7 : decode cX2_worthFor 7 = .ok (.if_icmp .ge 73, 3) := by decide +kernel
theorem dX2_worthFor_10 : decode cX2_worthFor 10 = .ok (.aload_n 0, 1) := by decide +kernel
theorem dX2_worthFor_11 : decode cX2_worthFor 11 = .ok (.getfield 11, 3) := by decide +kernel
theorem dX2_worthFor_14 : decode cX2_worthFor 14 = .ok (.iload_n 3, 1) := by decide +kernel
theorem dX2_worthFor_15 : decode cX2_worthFor 15 = .ok (.iaload, 1) := by decide +kernel
theorem dX2_worthFor_16 : decode cX2_worthFor 16 = .ok (.istore 4, 2) := by decide +kernel
theorem dX2_worthFor_18 : decode cX2_worthFor 18 = .ok (.iload 4, 2) := by decide +kernel
theorem dX2_worthFor_20 : decode cX2_worthFor 20 = .ok (.invokestatic 48, 3) := by decide +kernel
theorem dX2_worthFor_23 : decode cX2_worthFor 23 = .ok (.istore 5, 2) := by decide +kernel
theorem dX2_worthFor_25 : decode cX2_worthFor 25 = .ok (.iload 4, 2) := by decide +kernel
theorem dX2_worthFor_27 : decode cX2_worthFor 27 = .ok (.bipush 99, 2) := by decide +kernel
theorem dX2_worthFor_29 : decode cX2_worthFor 29 = .ok (.if_icmp .eq 45, 3) := by decide +kernel
theorem dX2_worthFor_32 : decode cX2_worthFor 32 = .ok (.iload 5, 2) := by decide +kernel
theorem dX2_worthFor_34 : decode cX2_worthFor 34 = .ok (.ifCond .lt 40, 3) := by decide +kernel
theorem dX2_worthFor_37 : decode cX2_worthFor 37 = .ok (.iload 5, 2) := by decide +kernel
theorem dX2_worthFor_39 : decode cX2_worthFor 39 = .ok (.getstatic 61, 3) := by decide +kernel
theorem dX2_worthFor_42 : decode cX2_worthFor 42 = .ok (.arraylength, 1) := by decide +kernel
theorem dX2_worthFor_43 : decode cX2_worthFor 43 = .ok (.if_icmp .ge 31, 3) := by decide +kernel
theorem dX2_worthFor_46 : decode cX2_worthFor 46 = .ok (.iload_n 2, 1) := by decide +kernel
theorem dX2_worthFor_47 : decode cX2_worthFor 47 = .ok (.iload 4, 2) := by decide +kernel
theorem dX2_worthFor_49 : decode cX2_worthFor 49 = .ok (.invokestatic 52, 3) := by decide +kernel
theorem dX2_worthFor_52 : decode cX2_worthFor 52 = .ok (.iload_n 1, 1) := by decide +kernel
theorem dX2_worthFor_53 : decode cX2_worthFor 53 = .ok (.if_icmp .ne 12, 3) := by decide +kernel
theorem dX2_worthFor_56 : decode cX2_worthFor 56 = .ok (.getstatic 61, 3) := by decide +kernel
theorem dX2_worthFor_59 : decode cX2_worthFor 59 = .ok (.iload 5, 2) := by decide +kernel
theorem dX2_worthFor_61 : decode cX2_worthFor 61 = .ok (.iaload, 1) := by decide +kernel
theorem dX2_worthFor_62 : decode cX2_worthFor 62 = .ok (.goto 10, 3) := by decide +kernel
theorem dX2_worthFor_65 : decode cX2_worthFor 65 = .ok (.getstatic 61, 3) := by decide +kernel
theorem dX2_worthFor_68 : decode cX2_worthFor 68 = .ok (.iload 5, 2) := by decide +kernel
theorem dX2_worthFor_70 : decode cX2_worthFor 70 = .ok (.iaload, 1) := by decide +kernel
theorem dX2_worthFor_71 : decode cX2_worthFor 71 = .ok (.ineg, 1) := by decide +kernel
theorem dX2_worthFor_72 : decode cX2_worthFor 72 = .ok (.iadd, 1) := by decide +kernel
theorem dX2_worthFor_73 : decode cX2_worthFor 73 = .ok (.istore_n 2, 1) := by decide +kernel
theorem dX2_worthFor_74 : decode cX2_worthFor 74 = .ok (.iinc 3 1, 3) := by decide +kernel
theorem dX2_worthFor_77 : decode cX2_worthFor 77 = .ok (.goto (-73), 3) := by decide +kernel
theorem dX2_worthFor_80 : decode cX2_worthFor 80 = .ok (.iconst 1, 1) := by decide +kernel
theorem dX2_worthFor_81 : decode cX2_worthFor 81 = .ok (.istore_n 3, 1) := by decide +kernel
theorem dX2_worthFor_82 : decode cX2_worthFor 82 = .ok (.iload_n 3, 1) := by decide +kernel
theorem dX2_worthFor_83 : decode cX2_worthFor 83 = .ok (.iconst 5, 1) := by decide +kernel
theorem dX2_worthFor_84 : decode cX2_worthFor 84 = .ok (.if_icmp .gt 43, 3) := by decide +kernel
theorem dX2_worthFor_87 : decode cX2_worthFor 87 = .ok (.iload_n 3, 1) := by decide +kernel
theorem dX2_worthFor_88 : decode cX2_worthFor 88 = .ok (.getstatic 61, 3) := by decide +kernel
theorem dX2_worthFor_91 : decode cX2_worthFor 91 = .ok (.arraylength, 1) := by decide +kernel
theorem dX2_worthFor_92 : decode cX2_worthFor 92 = .ok (.if_icmp .ge 35, 3) := by decide +kernel
theorem dX2_worthFor_95 : decode cX2_worthFor 95 = .ok (.iload_n 2, 1) := by decide +kernel
theorem dX2_worthFor_96 : decode cX2_worthFor 96 = .ok (.aload_n 0, 1) := by decide +kernel
theorem dX2_worthFor_97 : decode cX2_worthFor 97 = .ok (.iload_n 1, 1) := by decide +kernel
theorem dX2_worthFor_98 : decode cX2_worthFor 98 = .ok (.iload_n 3, 1) := by decide +kernel
theorem dX2_worthFor_99 : decode cX2_worthFor 99 = .ok (.invokevirtual 58, 3) := by decide +kernel
theorem dX2_worthFor_102 : decode cX2_worthFor 102 = .ok (.aload_n 0, 1) := by decide +kernel
theorem dX2_worthFor_103 : decode cX2_worthFor 103 = .ok (.iconst 1, 1) := by decide +kernel
theorem dX2_worthFor_104 : decode cX2_worthFor 104 = .ok (.iload_n 1, 1) := by decide +kernel
theorem dX2_worthFor_105 : decode cX2_worthFor 105 = .ok (.isub, 1) := by decide +kernel
theorem dX2_worthFor_106 : decode cX2_worthFor 106 = .ok (.iload_n 3, 1) := by decide +kernel
theorem dX2_worthFor_107 : decode cX2_worthFor 107 = .ok (.invokevirtual 58, 3) := by decide +kernel
theorem dX2_worthFor_110 : decode cX2_worthFor 110 = .ok (.isub, 1) := by decide +kernel
theorem dX2_worthFor_111 : decode cX2_worthFor 111 = .ok (.getstatic 61, 3) := by decide +kernel
theorem dX2_worthFor_114 : decode cX2_worthFor 114 = .ok (.iload_n 3, 1) := by decide +kernel
theorem dX2_worthFor_115 : decode cX2_worthFor 115 = .ok (.iaload, 1) := by decide +kernel
theorem dX2_worthFor_116 : decode cX2_worthFor 116 = .ok (.iconst 1, 1) := by decide +kernel
theorem dX2_worthFor_117 : decode cX2_worthFor 117 = .ok (.iadd, 1) := by decide +kernel
theorem dX2_worthFor_118 : decode cX2_worthFor 118 = .ok (.imul, 1) := by decide +kernel
theorem dX2_worthFor_119 : decode cX2_worthFor 119 = .ok (.iadd, 1) := by decide +kernel
theorem dX2_worthFor_120 : decode cX2_worthFor 120 = .ok (.istore_n 2, 1) := by decide +kernel
theorem dX2_worthFor_121 : decode cX2_worthFor 121 = .ok (.iinc 3 1, 3) := by decide +kernel
theorem dX2_worthFor_124 : decode cX2_worthFor 124 = .ok (.goto (-42), 3) := by decide +kernel
theorem dX2_worthFor_127 : decode cX2_worthFor 127 = .ok (.iload_n 2, 1) := by decide +kernel
theorem dX2_worthFor_128 : decode cX2_worthFor 128 = .ok (.ireturn, 1) := by decide +kernel
set_option maxRecDepth 20000 in
theorem ggX2_attackedFrom_X2_manOn : GoodIn wsX2_attackedFrom wsX2_manOn := goodIn_r _ [7, 2, 8, 9] (by decide +kernel) (by decide +kernel)
set_option maxRecDepth 20000 in
theorem gX2_attackedFrom_X2_manOn : GoodIn wsX2_attackedFrom (wsV RX2 64 RX2 yX2_manOn wsX2_manOn) := goodIn_app (goodIn_of _ (by decide +kernel)) ggX2_attackedFrom_X2_manOn
theorem dX2_attackedFrom_0 : decode cX2_attackedFrom 0 = .ok (.aload_n 0, 1) := by decide +kernel
theorem dX2_attackedFrom_1 : decode cX2_attackedFrom 1 = .ok (.iload_n 1, 1) := by decide +kernel
theorem dX2_attackedFrom_2 : decode cX2_attackedFrom 2 = .ok (.invokevirtual 64, 3) := by decide +kernel
theorem dX2_attackedFrom_5 : decode cX2_attackedFrom 5 = .ok (.istore_n 2, 1) := by decide +kernel
theorem dX2_attackedFrom_6 : decode cX2_attackedFrom 6 = .ok (.iload_n 2, 1) := by decide +kernel
theorem dX2_attackedFrom_7 : decode cX2_attackedFrom 7 = .ok (.ifCond .lt 19, 3) := by decide +kernel
theorem dX2_attackedFrom_10 : decode cX2_attackedFrom 10 = .ok (.iload_n 2, 1) := by decide +kernel
theorem dX2_attackedFrom_11 : decode cX2_attackedFrom 11 = .ok (.getstatic 67, 3) := by decide +kernel
theorem dX2_attackedFrom_14 : decode cX2_attackedFrom 14 = .ok (.arraylength, 1) := by decide +kernel
theorem dX2_attackedFrom_15 : decode cX2_attackedFrom 15 = .ok (.if_icmp .ge 11, 3) := by decide +kernel
theorem dX2_attackedFrom_18 : decode cX2_attackedFrom 18 = .ok (.iload_n 2, 1) := by decide +kernel
theorem dX2_attackedFrom_19 : decode cX2_attackedFrom 19 = .ok (.getstatic 70, 3) := by decide +kernel
theorem dX2_attackedFrom_22 : decode cX2_attackedFrom 22 = .ok (.arraylength, 1) := by decide +kernel
theorem dX2_attackedFrom_23 : decode cX2_attackedFrom 23 = .ok (.if_icmp .lt 5, 3) := by decide +kernel
theorem dX2_attackedFrom_26 : decode cX2_attackedFrom 26 = .ok (.iconst 0, 1) := by decide +kernel
theorem dX2_attackedFrom_27 : decode cX2_attackedFrom 27 = .ok (.ireturn, 1) := by decide +kernel
theorem dX2_attackedFrom_28 : decode cX2_attackedFrom 28 = .ok (.iconst 0, 1) := by decide +kernel
theorem dX2_attackedFrom_29 : decode cX2_attackedFrom 29 = .ok (.istore_n 3, 1) := by decide +kernel
theorem dX2_attackedFrom_30 : decode cX2_attackedFrom 30 = .ok (.iconst 0, 1) := by decide +kernel
theorem dX2_attackedFrom_31 : decode cX2_attackedFrom 31 = .ok (.istore 4, 2) := by decide +kernel
theorem dX2_attackedFrom_33 : decode cX2_attackedFrom 33 = .ok (.iload 4, 2) := by decide +kernel
theorem dX2_attackedFrom_35 : decode cX2_attackedFrom 35 = .ok (.bipush 8, 2) := by decide +kernel
theorem dX2_attackedFrom_37 : decode cX2_attackedFrom 37 = .ok (.if_icmp .ge 132, 3) := by decide +kernel
theorem dX2_attackedFrom_40 : decode cX2_attackedFrom 40 = .ok (.iload_n 1, 1) := by decide +kernel
theorem dX2_attackedFrom_41 : decode cX2_attackedFrom 41 = .ok (.istore 5, 2) := by decide +kernel
theorem dX2_attackedFrom_43 : decode cX2_attackedFrom 43 = .ok (.iconst 1, 1) := by decide +kernel
theorem dX2_attackedFrom_44 : decode cX2_attackedFrom 44 = .ok (.istore 6, 2) := by decide +kernel
theorem dX2_attackedFrom_46 : decode cX2_attackedFrom 46 = .ok (.iload 6, 2) := by decide +kernel
theorem dX2_attackedFrom_48 : decode cX2_attackedFrom 48 = .ok (.iconst 5, 1) := by decide +kernel
theorem dX2_attackedFrom_49 : decode cX2_attackedFrom 49 = .ok (.if_icmp .ge 114, 3) := by decide +kernel
theorem dX2_attackedFrom_52 : decode cX2_attackedFrom 52 = .ok (.iload 6, 2) := by decide +kernel
theorem dX2_attackedFrom_54 : decode cX2_attackedFrom 54 = .ok (.iconst 1, 1) := by decide +kernel
theorem dX2_attackedFrom_55 : decode cX2_attackedFrom 55 = .ok (.if_icmp .ne 11, 3) := by decide +kernel
theorem dX2_attackedFrom_58 : decode cX2_attackedFrom 58 = .ok (.getstatic 67, 3) := by decide +kernel
theorem dX2_attackedFrom_61 : decode cX2_attackedFrom 61 = .ok (.iload_n 2, 1) := by decide +kernel
theorem dX2_attackedFrom_62 : decode cX2_attackedFrom 62 = .ok (.iaload, 1) := by decide +kernel
theorem dX2_attackedFrom_63 : decode cX2_attackedFrom 63 = .ok (.goto 8, 3) := by decide +kernel
theorem dX2_attackedFrom_66 : decode cX2_attackedFrom 66 = .ok (.getstatic 70, 3) := by decide +kernel
theorem dX2_attackedFrom_69 : decode cX2_attackedFrom 69 = .ok (.iload_n 2, 1) := by decide +kernel
theorem dX2_attackedFrom_70 : decode cX2_attackedFrom 70 = .ok (.iaload, 1) := by decide +kernel
theorem dX2_attackedFrom_71 : decode cX2_attackedFrom 71 = .ok (.istore 7, 2) := by decide +kernel
theorem dX2_attackedFrom_73 : decode cX2_attackedFrom 73 = .ok (.iload 5, 2) := by decide +kernel
theorem dX2_attackedFrom_75 : decode cX2_attackedFrom 75 = .ok (.bipush 8, 2) := by decide +kernel
theorem dX2_attackedFrom_77 : decode cX2_attackedFrom 77 = .ok (.imul, 1) := by decide +kernel
theorem dX2_attackedFrom_78 : decode cX2_attackedFrom 78 = .ok (.iload 4, 2) := by decide +kernel
theorem dX2_attackedFrom_80 : decode cX2_attackedFrom 80 = .ok (.iadd, 1) := by decide +kernel
theorem dX2_attackedFrom_81 : decode cX2_attackedFrom 81 = .ok (.istore 8, 2) := by decide +kernel
theorem dX2_attackedFrom_83 : decode cX2_attackedFrom 83 = .ok (.iload 7, 2) := by decide +kernel
theorem dX2_attackedFrom_85 : decode cX2_attackedFrom 85 = .ok (.iload 4, 2) := by decide +kernel
theorem dX2_attackedFrom_87 : decode cX2_attackedFrom 87 = .ok (.ishr, 1) := by decide +kernel
theorem dX2_attackedFrom_88 : decode cX2_attackedFrom 88 = .ok (.iconst 1, 1) := by decide +kernel
theorem dX2_attackedFrom_89 : decode cX2_attackedFrom 89 = .ok (.iand, 1) := by decide +kernel
theorem dX2_attackedFrom_90 : decode cX2_attackedFrom 90 = .ok (.ifCond .eq 73, 3) := by decide +kernel
theorem dX2_attackedFrom_93 : decode cX2_attackedFrom 93 = .ok (.iload 8, 2) := by decide +kernel
theorem dX2_attackedFrom_95 : decode cX2_attackedFrom 95 = .ok (.ifCond .lt 68, 3) := by decide +kernel
theorem dX2_attackedFrom_98 : decode cX2_attackedFrom 98 = .ok (.iload 8, 2) := by decide +kernel
theorem dX2_attackedFrom_100 : decode cX2_attackedFrom 100 = .ok (.aload_n 0, 1) := by decide +kernel
theorem dX2_attackedFrom_101 : decode cX2_attackedFrom 101 = .ok (.getfield 15, 3) := by decide +kernel
theorem dX2_attackedFrom_104 : decode cX2_attackedFrom 104 = .ok (.arraylength, 1) := by decide +kernel
theorem dX2_attackedFrom_105 : decode cX2_attackedFrom 105 = .ok (.if_icmp .lt 6, 3) := by decide +kernel
theorem dX2_attackedFrom_108 : decode cX2_attackedFrom 108 = .ok (.goto 55, 3) := by decide +kernel
theorem dX2_attackedFrom_111 : decode cX2_attackedFrom 111 = .ok (.aload_n 0, 1) := by decide +kernel
theorem dX2_attackedFrom_112 : decode cX2_attackedFrom 112 = .ok (.getfield 15, 3) := by decide +kernel
theorem dX2_attackedFrom_115 : decode cX2_attackedFrom 115 = .ok (.iload 8, 2) := by decide +kernel
theorem dX2_attackedFrom_117 : decode cX2_attackedFrom 117 = .ok (.iaload, 1) := by decide +kernel
theorem dX2_attackedFrom_118 : decode cX2_attackedFrom 118 = .ok (.istore 5, 2) := by decide +kernel
theorem dX2_attackedFrom_120 : decode cX2_attackedFrom 120 = .ok (.iload 5, 2) := by decide +kernel
theorem dX2_attackedFrom_122 : decode cX2_attackedFrom 122 = .ok (.ifCond .lt 41, 3) := by decide +kernel
theorem dX2_attackedFrom_125 : decode cX2_attackedFrom 125 = .ok (.iload 5, 2) := by decide +kernel
theorem dX2_attackedFrom_127 : decode cX2_attackedFrom 127 = .ok (.bipush 25, 2) := by decide +kernel
theorem dX2_attackedFrom_129 : decode cX2_attackedFrom 129 = .ok (.if_icmp .lt 6, 3) := by decide +kernel
theorem dX2_attackedFrom_132 : decode cX2_attackedFrom 132 = .ok (.goto 31, 3) := by decide +kernel
theorem dX2_attackedFrom_135 : decode cX2_attackedFrom 135 = .ok (.iload_n 3, 1) := by decide +kernel
theorem dX2_attackedFrom_136 : decode cX2_attackedFrom 136 = .ok (.iconst 1, 1) := by decide +kernel
theorem dX2_attackedFrom_137 : decode cX2_attackedFrom 137 = .ok (.iload 5, 2) := by decide +kernel
theorem dX2_attackedFrom_139 : decode cX2_attackedFrom 139 = .ok (.ishl, 1) := by decide +kernel
theorem dX2_attackedFrom_140 : decode cX2_attackedFrom 140 = .ok (.ior, 1) := by decide +kernel
theorem dX2_attackedFrom_141 : decode cX2_attackedFrom 141 = .ok (.istore_n 3, 1) := by decide +kernel
theorem dX2_attackedFrom_142 : decode cX2_attackedFrom 142 = .ok (.aload_n 0, 1) := by decide +kernel
theorem dX2_attackedFrom_143 : decode cX2_attackedFrom 143 = .ok (.getfield 11, 3) := by decide +kernel
theorem dX2_attackedFrom_146 : decode cX2_attackedFrom 146 = .ok (.iload 5, 2) := by decide +kernel
theorem dX2_attackedFrom_148 : decode cX2_attackedFrom 148 = .ok (.iaload, 1) := by decide +kernel
theorem dX2_attackedFrom_149 : decode cX2_attackedFrom 149 = .ok (.bipush 99, 2) := by decide +kernel
theorem dX2_attackedFrom_151 : decode cX2_attackedFrom 151 = .ok (.if_icmp .eq 6, 3) := by decide +kernel
theorem dX2_attackedFrom_154 : decode cX2_attackedFrom 154 = .ok (.goto 9, 3) := by decide +kernel
theorem dX2_attackedFrom_157 : decode cX2_attackedFrom 157 = .ok (.iinc 6 1, 3) := by decide +kernel
theorem dX2_attackedFrom_160 : decode cX2_attackedFrom 160 = .ok (.goto (-114), 3) := by decide +kernel
theorem dX2_attackedFrom_163 : decode cX2_attackedFrom 163 = .ok (.iinc 4 1, 3) := by decide +kernel
theorem dX2_attackedFrom_166 : decode cX2_attackedFrom 166 = .ok (.goto (-133), 3) := by decide +kernel
theorem dX2_attackedFrom_169 : decode cX2_attackedFrom 169 = .ok (.iload_n 3, 1) := by decide +kernel
theorem dX2_attackedFrom_170 : decode cX2_attackedFrom 170 = .ok (.ireturn, 1) := by decide +kernel
theorem dX2_countAttackers_0 : decode cX2_countAttackers 0 = .ok (.iconst 0, 1) := by decide +kernel
theorem dX2_countAttackers_1 : decode cX2_countAttackers 1 = .ok (.istore_n 3, 1) := by decide +kernel
theorem dX2_countAttackers_2 : decode cX2_countAttackers 2 = .ok (.iconst 0, 1) := by decide +kernel
theorem dX2_countAttackers_3 : decode cX2_countAttackers 3 = .ok (.istore 4, 2) := by decide +kernel
theorem dX2_countAttackers_5 : decode cX2_countAttackers 5 = .ok (.iload 4, 2) := by decide +kernel
theorem dX2_countAttackers_7 : decode cX2_countAttackers 7 = .ok (.bipush 8, 2) := by decide +kernel
theorem dX2_countAttackers_9 : decode cX2_countAttackers 9 = .ok (.if_icmp .ge 170, 3) := by decide +kernel
theorem dX2_countAttackers_12 : decode cX2_countAttackers 12 = .ok (.bipush 7, 2) := by decide +kernel
theorem dX2_countAttackers_14 : decode cX2_countAttackers 14 = .ok (.iload 4, 2) := by decide +kernel
theorem dX2_countAttackers_16 : decode cX2_countAttackers 16 = .ok (.isub, 1) := by decide +kernel
theorem dX2_countAttackers_17 : decode cX2_countAttackers 17 = .ok (.istore 5, 2) := by decide +kernel
theorem dX2_countAttackers_19 : decode cX2_countAttackers 19 = .ok (.iload_n 2, 1) := by decide +kernel
theorem dX2_countAttackers_20 : decode cX2_countAttackers 20 = .ok (.istore 6, 2) := by decide +kernel
theorem dX2_countAttackers_22 : decode cX2_countAttackers 22 = .ok (.iconst 1, 1) := by decide +kernel
theorem dX2_countAttackers_23 : decode cX2_countAttackers 23 = .ok (.istore 7, 2) := by decide +kernel
theorem dX2_countAttackers_25 : decode cX2_countAttackers 25 = .ok (.iload 7, 2) := by decide +kernel
theorem dX2_countAttackers_27 : decode cX2_countAttackers 27 = .ok (.iconst 5, 1) := by decide +kernel
theorem dX2_countAttackers_28 : decode cX2_countAttackers 28 = .ok (.if_icmp .ge 145, 3) := by decide +kernel
theorem dX2_countAttackers_31 : decode cX2_countAttackers 31 = .ok (.iload 6, 2) := by decide +kernel
theorem dX2_countAttackers_33 : decode cX2_countAttackers 33 = .ok (.bipush 8, 2) := by decide +kernel
theorem dX2_countAttackers_35 : decode cX2_countAttackers 35 = .ok (.imul, 1) := by decide +kernel
theorem dX2_countAttackers_36 : decode cX2_countAttackers 36 = .ok (.iload 4, 2) := by decide +kernel
theorem dX2_countAttackers_38 : decode cX2_countAttackers 38 = .ok (.iadd, 1) := by decide +kernel
theorem dX2_countAttackers_39 : decode cX2_countAttackers 39 = .ok (.istore 8, 2) := by decide +kernel
theorem dX2_countAttackers_41 : decode cX2_countAttackers 41 = .ok (.iload 8, 2) := by decide +kernel
theorem dX2_countAttackers_43 : decode cX2_countAttackers 43 = .ok (.ifCond .lt 23, 3) := by decide +kernel
theorem dX2_countAttackers_46 : decode cX2_countAttackers 46 = .ok (.iload 8, 2) := by decide +kernel
theorem dX2_countAttackers_48 : decode cX2_countAttackers 48 = .ok (.aload_n 0, 1) := by decide +kernel
theorem dX2_countAttackers_49 : decode cX2_countAttackers 49 = .ok (.getfield 15, 3) := by decide +kernel
theorem dX2_countAttackers_52 : decode cX2_countAttackers 52 = .ok (.arraylength, 1) := by decide +kernel
theorem dX2_countAttackers_53 : decode cX2_countAttackers 53 = .ok (.if_icmp .ge 13, 3) := by decide +kernel
theorem dX2_countAttackers_56 : decode cX2_countAttackers 56 = .ok (.aload_n 0, 1) := by decide +kernel
theorem dX2_countAttackers_57 : decode cX2_countAttackers 57 = .ok (.getfield 15, 3) := by decide +kernel
theorem dX2_countAttackers_60 : decode cX2_countAttackers 60 = .ok (.iload 8, 2) := by decide +kernel
theorem dX2_countAttackers_62 : decode cX2_countAttackers 62 = .ok (.iaload, 1) := by decide +kernel
theorem dX2_countAttackers_63 : decode cX2_countAttackers 63 = .ok (.goto 4, 3) := by decide +kernel
theorem dX2_countAttackers_66 : decode cX2_countAttackers 66 = .ok (.iconst (-1), 1) := by decide +kernel
theorem dX2_countAttackers_67 : decode cX2_countAttackers 67 = .ok (.istore 6, 2) := by decide +kernel
theorem dX2_countAttackers_69 : decode cX2_countAttackers 69 = .ok (.iload 6, 2) := by decide +kernel
theorem dX2_countAttackers_71 : decode cX2_countAttackers 71 = .ok (.ifCond .lt 102, 3) := by decide +kernel
theorem dX2_countAttackers_74 : decode cX2_countAttackers 74 = .ok (.iload 6, 2) := by decide +kernel
theorem dX2_countAttackers_76 : decode cX2_countAttackers 76 = .ok (.bipush 25, 2) := by decide +kernel
theorem dX2_countAttackers_78 : decode cX2_countAttackers 78 = .ok (.if_icmp .lt 6, 3) := by decide +kernel
theorem dX2_countAttackers_81 : decode cX2_countAttackers 81 = .ok (.goto 92, 3) := by decide +kernel
theorem dX2_countAttackers_84 : decode cX2_countAttackers 84 = .ok (.aload_n 0, 1) := by decide +kernel
theorem dX2_countAttackers_85 : decode cX2_countAttackers 85 = .ok (.getfield 11, 3) := by decide +kernel
theorem dX2_countAttackers_88 : decode cX2_countAttackers 88 = .ok (.iload 6, 2) := by decide +kernel
theorem dX2_countAttackers_90 : decode cX2_countAttackers 90 = .ok (.iaload, 1) := by decide +kernel
theorem dX2_countAttackers_91 : decode cX2_countAttackers 91 = .ok (.istore 9, 2) := by decide +kernel
theorem dX2_countAttackers_93 : decode cX2_countAttackers 93 = .ok (.iload 9, 2) := by decide +kernel
theorem dX2_countAttackers_95 : decode cX2_countAttackers 95 = .ok (.ifCond .lt 72, 3) := by decide +kernel
theorem dX2_countAttackers_98 : decode cX2_countAttackers 98 = .ok (.iload 9, 2) := by decide +kernel
theorem dX2_countAttackers_100 : decode cX2_countAttackers 100 = .ok (.getstatic 67, 3) := by decide +kernel
theorem dX2_countAttackers_103 : decode cX2_countAttackers 103 = .ok (.arraylength, 1) := by decide +kernel
theorem dX2_countAttackers_104 : decode cX2_countAttackers 104 = .ok (.if_icmp .ge 63, 3) := by decide +kernel
theorem dX2_countAttackers_107 : decode cX2_countAttackers 107 = .ok (.iload 9, 2) := by decide +kernel
theorem dX2_countAttackers_109 : decode cX2_countAttackers 109 = .ok (.getstatic 70, 3) := by decide +kernel
theorem dX2_countAttackers_112 : decode cX2_countAttackers 112 = .ok (.arraylength, 1) := by decide +kernel
theorem dX2_countAttackers_113 : decode cX2_countAttackers 113 = .ok (.if_icmp .lt 6, 3) := by decide +kernel
theorem dX2_countAttackers_116 : decode cX2_countAttackers 116 = .ok (.goto 51, 3) := by decide +kernel
theorem dX2_countAttackers_119 : decode cX2_countAttackers 119 = .ok (.iload 7, 2) := by decide +kernel
theorem dX2_countAttackers_121 : decode cX2_countAttackers 121 = .ok (.iconst 1, 1) := by decide +kernel
theorem dX2_countAttackers_122 : decode cX2_countAttackers 122 = .ok (.if_icmp .ne 12, 3) := by decide +kernel
theorem dX2_countAttackers_125 : decode cX2_countAttackers 125 = .ok (.getstatic 67, 3) := by decide +kernel
theorem dX2_countAttackers_128 : decode cX2_countAttackers 128 = .ok (.iload 9, 2) := by decide +kernel
theorem dX2_countAttackers_130 : decode cX2_countAttackers 130 = .ok (.iaload, 1) := by decide +kernel
theorem dX2_countAttackers_131 : decode cX2_countAttackers 131 = .ok (.goto 9, 3) := by decide +kernel
theorem dX2_countAttackers_134 : decode cX2_countAttackers 134 = .ok (.getstatic 70, 3) := by decide +kernel
theorem dX2_countAttackers_137 : decode cX2_countAttackers 137 = .ok (.iload 9, 2) := by decide +kernel
theorem dX2_countAttackers_139 : decode cX2_countAttackers 139 = .ok (.iaload, 1) := by decide +kernel
theorem dX2_countAttackers_140 : decode cX2_countAttackers 140 = .ok (.istore 10, 2) := by decide +kernel
theorem dX2_countAttackers_142 : decode cX2_countAttackers 142 = .ok (.iload 9, 2) := by decide +kernel
theorem dX2_countAttackers_144 : decode cX2_countAttackers 144 = .ok (.bipush 10, 2) := by decide +kernel
theorem dX2_countAttackers_146 : decode cX2_countAttackers 146 = .ok (.idiv, 1) := by decide +kernel
theorem dX2_countAttackers_147 : decode cX2_countAttackers 147 = .ok (.iload_n 1, 1) := by decide +kernel
theorem dX2_countAttackers_148 : decode cX2_countAttackers 148 = .ok (.if_icmp .ne 25, 3) := by decide +kernel
theorem dX2_countAttackers_151 : decode cX2_countAttackers 151 = .ok (.iload 10, 2) := by decide +kernel
theorem dX2_countAttackers_153 : decode cX2_countAttackers 153 = .ok (.iload 5, 2) := by decide +kernel
theorem dX2_countAttackers_155 : decode cX2_countAttackers 155 = .ok (.ishr, 1) := by decide +kernel
theorem dX2_countAttackers_156 : decode cX2_countAttackers 156 = .ok (.iconst 1, 1) := by decide +kernel
theorem dX2_countAttackers_157 : decode cX2_countAttackers 157 = .ok (.iand, 1) := by decide +kernel
theorem dX2_countAttackers_158 : decode cX2_countAttackers 158 = .ok (.ifCond .eq 15, 3) := by decide +kernel
theorem dX2_countAttackers_161 : decode cX2_countAttackers 161 = .ok (.iinc 3 1, 3) := by decide +kernel
theorem dX2_countAttackers_164 : decode cX2_countAttackers 164 = .ok (.goto 9, 3) := by decide +kernel
theorem dX2_countAttackers_167 : decode cX2_countAttackers 167 = .ok (.iinc 7 1, 3) := by decide +kernel
theorem dX2_countAttackers_170 : decode cX2_countAttackers 170 = .ok (.goto (-145), 3) := by decide +kernel
theorem dX2_countAttackers_173 : decode cX2_countAttackers 173 = .ok (.iinc 4 1, 3) := by decide +kernel
theorem dX2_countAttackers_176 : decode cX2_countAttackers 176 = .ok (.goto (-171), 3) := by decide +kernel
theorem dX2_countAttackers_179 : decode cX2_countAttackers 179 = .ok (.iload_n 3, 1) := by decide +kernel
theorem dX2_countAttackers_180 : decode cX2_countAttackers 180 = .ok (.ireturn, 1) := by decide +kernel
set_option maxRecDepth 20000 in
theorem ggX2_play_X2_apply : GoodIn wsX2_play wsX2_apply := goodIn_r _ [6, 7, 8, 9, 5, 10, 1, 11, 12, 13, 14, 15, 16, 17, 18, 19, 20, 21, 22, 23, 24, 25, 26, 27, 28, 29, 30, 31, 32, 33, 34, 35, 36, 37, 38, 39, 40, 41, 42, 43, 44, 45, 46, 47, 48, 49, 50, 51] (by decide +kernel) (by decide +kernel)
set_option maxRecDepth 20000 in
theorem gX2_play_X2_apply : GoodIn wsX2_play (wsV RX2 73 RX2 yX2_apply wsX2_apply) := goodIn_app (goodIn_of _ (by decide +kernel)) ggX2_play_X2_apply
theorem dX2_play_0 : decode cX2_play 0 = .ok (.aload_n 0, 1) := by decide +kernel
theorem dX2_play_1 : decode cX2_play 1 = .ok (.iload_n 1, 1) := by decide +kernel
theorem dX2_play_2 : decode cX2_play 2 = .ok (.invokevirtual 73, 3) := by decide +kernel
theorem dX2_play_5 : decode cX2_play 5 = .ok (.istore_n 2, 1) := by decide +kernel
theorem dX2_play_6 : decode cX2_play 6 = .ok (.aload_n 0, 1) := by decide +kernel
theorem dX2_play_7 : decode cX2_play 7 = .ok (.getfield 11, 3) := by decide +kernel
theorem dX2_play_10 : decode cX2_play 10 = .ok (.bipush 40, 2) := by decide +kernel
theorem dX2_play_12 : decode cX2_play 12 = .ok (.dup2, 1) := by decide +kernel
theorem dX2_play_13 : decode cX2_play 13 = .ok (.iaload, 1) := by decide +kernel
theorem dX2_play_14 : decode cX2_play 14 = .ok (.iconst 1, 1) := by decide +kernel
theorem dX2_play_15 : decode cX2_play 15 = .ok (.iadd, 1) := by decide +kernel
theorem dX2_play_16 : decode cX2_play 16 = .ok (.iastore, 1) := by decide +kernel
theorem dX2_play_17 : decode cX2_play 17 = .ok (.iload_n 2, 1) := by decide +kernel
theorem dX2_play_18 : decode cX2_play 18 = .ok (.bipush 99, 2) := by decide +kernel
theorem dX2_play_20 : decode cX2_play 20 = .ok (.if_icmp .eq 14, 3) := by decide +kernel
theorem dX2_play_23 : decode cX2_play 23 = .ok (.aload_n 0, 1) := by decide +kernel
theorem dX2_play_24 : decode cX2_play 24 = .ok (.getfield 11, 3) := by decide +kernel
theorem dX2_play_27 : decode cX2_play 27 = .ok (.bipush 41, 2) := by decide +kernel
theorem dX2_play_29 : decode cX2_play 29 = .ok (.dup2, 1) := by decide +kernel
theorem dX2_play_30 : decode cX2_play 30 = .ok (.iaload, 1) := by decide +kernel
theorem dX2_play_31 : decode cX2_play 31 = .ok (.iconst 1, 1) := by decide +kernel
theorem dX2_play_32 : decode cX2_play 32 = .ok (.iadd, 1) := by decide +kernel
theorem dX2_play_33 : decode cX2_play 33 = .ok (.iastore, 1) := by decide +kernel
theorem dX2_play_34 : decode cX2_play 34 = .ok (.iload_n 1, 1) := by decide +kernel
theorem dX2_play_35 : decode cX2_play 35 = .ok (.sipush 20000, 3) := by decide +kernel
theorem dX2_play_38 : decode cX2_play 38 = .ok (.if_icmp .lt 17, 3) := by decide +kernel
theorem dX2_play_41 : decode cX2_play 41 = .ok (.aload_n 0, 1) := by decide +kernel
theorem dX2_play_42 : decode cX2_play 42 = .ok (.getfield 11, 3) := by decide +kernel
theorem dX2_play_45 : decode cX2_play 45 = .ok (.bipush 43, 2) := by decide +kernel
theorem dX2_play_47 : decode cX2_play 47 = .ok (.dup2, 1) := by decide +kernel
theorem dX2_play_48 : decode cX2_play 48 = .ok (.iaload, 1) := by decide +kernel
theorem dX2_play_49 : decode cX2_play 49 = .ok (.iconst 1, 1) := by decide +kernel
theorem dX2_play_50 : decode cX2_play 50 = .ok (.iadd, 1) := by decide +kernel
theorem dX2_play_51 : decode cX2_play 51 = .ok (.iastore, 1) := by decide +kernel
theorem dX2_play_52 : decode cX2_play 52 = .ok (.goto 21, 3) := by decide +kernel
theorem dX2_play_55 : decode cX2_play 55 = .ok (.iload_n 1, 1) := by decide +kernel
theorem dX2_play_56 : decode cX2_play 56 = .ok (.sipush 10000, 3) := by decide +kernel
theorem dX2_play_59 : decode cX2_play 59 = .ok (.if_icmp .lt 14, 3) := by decide +kernel
theorem dX2_play_62 : decode cX2_play 62 = .ok (.aload_n 0, 1) := by decide +kernel
theorem dX2_play_63 : decode cX2_play 63 = .ok (.getfield 11, 3) := by decide +kernel
theorem dX2_play_66 : decode cX2_play 66 = .ok (.bipush 42, 2) := by decide +kernel
theorem dX2_play_68 : decode cX2_play 68 = .ok (.dup2, 1) := by decide +kernel
theorem dX2_play_69 : decode cX2_play 69 = .ok (.iaload, 1) := by decide +kernel
theorem dX2_play_70 : decode cX2_play 70 = .ok (.iconst 1, 1) := by decide +kernel
theorem dX2_play_71 : decode cX2_play 71 = .ok (.iadd, 1) := by decide +kernel
theorem dX2_play_72 : decode cX2_play 72 = .ok (.iastore, 1) := by decide +kernel
theorem dX2_play_73 : decode cX2_play 73 = .ok (.iload_n 2, 1) := by decide +kernel
theorem dX2_play_74 : decode cX2_play 74 = .ok (.ireturn, 1) := by decide +kernel
set_option maxRecDepth 20000 in
theorem ggX2_apply_X2_sideToPlay : GoodIn wsX2_apply wsX2_sideToPlay := goodIn_r _ [5, 6, 46, 47] (by decide +kernel) (by decide +kernel)
set_option maxRecDepth 20000 in
theorem gX2_apply_X2_sideToPlay : GoodIn wsX2_apply (wsV RX2 76 RX2 yX2_sideToPlay wsX2_sideToPlay) := goodIn_app (goodIn_of _ (by decide +kernel)) ggX2_apply_X2_sideToPlay
set_option maxRecDepth 20000 in
theorem ggX2_apply_X2_setSideToPlay : GoodIn wsX2_apply wsX2_setSideToPlay := goodIn_r _ [10, 6, 46, 47] (by decide +kernel) (by decide +kernel)
set_option maxRecDepth 20000 in
theorem gX2_apply_X2_setSideToPlay : GoodIn wsX2_apply (wsV RX2 80 RX2 yX2_setSideToPlay wsX2_setSideToPlay) := goodIn_app (goodIn_of _ (by decide +kernel)) ggX2_apply_X2_setSideToPlay
set_option maxRecDepth 20000 in
theorem ggX2_apply_X2_inHand : GoodIn wsX2_apply wsX2_inHand := goodIn_r _ [14, 6, 15, 16, 17, 18, 19, 46, 47] (by decide +kernel) (by decide +kernel)
set_option maxRecDepth 20000 in
theorem gX2_apply_X2_inHand : GoodIn wsX2_apply (wsV RX2 58 RX2 yX2_inHand wsX2_inHand) := goodIn_app (goodIn_of _ (by decide +kernel)) ggX2_apply_X2_inHand
set_option maxRecDepth 20000 in
theorem ggX2_apply_X2_setInHand : GoodIn wsX2_apply wsX2_setInHand := goodIn_r _ [23, 6, 15, 16, 17, 18, 19, 46, 47] (by decide +kernel) (by decide +kernel)
set_option maxRecDepth 20000 in
theorem gX2_apply_X2_setInHand : GoodIn wsX2_apply (wsV RX2 84 RX2 yX2_setInHand wsX2_setInHand) := goodIn_app (goodIn_of _ (by decide +kernel)) ggX2_apply_X2_setInHand
set_option maxRecDepth 20000 in
theorem ggX2_apply_X4_manOf : GoodIn wsX2_apply wsX4_manOf := goodIn_r _ [25] (by decide +kernel) (by decide +kernel)
set_option maxRecDepth 20000 in
theorem gX2_apply_X4_manOf_n88 : GoodIn wsX2_apply (wsX4_manOf) := ggX2_apply_X4_manOf
set_option maxRecDepth 20000 in
theorem ggX2_apply_X2_place : GoodIn wsX2_apply wsX2_place := goodIn_r _ [29, 6, 30, 16, 31, 32, 33, 34, 35, 36, 37, 46, 47] (by decide +kernel) (by decide +kernel)
set_option maxRecDepth 20000 in
theorem gX2_apply_X2_place : GoodIn wsX2_apply (wsV RX2 28 RX2 yX2_place wsX2_place) := goodIn_app (goodIn_of _ (by decide +kernel)) ggX2_apply_X2_place
set_option maxRecDepth 20000 in
theorem ggX2_apply_X2_manOn : GoodIn wsX2_apply wsX2_manOn := goodIn_r _ [41, 6, 46, 47] (by decide +kernel) (by decide +kernel)
set_option maxRecDepth 20000 in
theorem gX2_apply_X2_manOn : GoodIn wsX2_apply (wsV RX2 64 RX2 yX2_manOn wsX2_manOn) := goodIn_app (goodIn_of _ (by decide +kernel)) ggX2_apply_X2_manOn
set_option maxRecDepth 20000 in
theorem ggX2_apply_X2_changeHandForTaken : GoodIn wsX2_apply wsX2_changeHandForTaken := goodIn_r _ [45, 34, 16, 35, 11, 12, 13, 4, 14, 6, 15, 17, 18, 19, 20, 21, 22, 23, 46, 47] (by decide +kernel) (by decide +kernel)
set_option maxRecDepth 20000 in
theorem gX2_apply_X2_changeHandForTaken : GoodIn wsX2_apply (wsV RX2 91 RX2 yX2_changeHandForTaken wsX2_changeHandForTaken) := goodIn_app (goodIn_of _ (by decide +kernel)) ggX2_apply_X2_changeHandForTaken
theorem dX2_apply_0 : decode cX2_apply 0 = .ok (.aload_n 0, 1) := by decide +kernel
theorem dX2_apply_1 : decode cX2_apply 1 = .ok (.invokevirtual 76, 3) := by decide +kernel
theorem dX2_apply_4 : decode cX2_apply 4 = .ok (.istore_n 2, 1) := by decide +kernel
theorem dX2_apply_5 : decode cX2_apply 5 = .ok (.iload_n 1, 1) := by decide +kernel
theorem dX2_apply_6 : decode cX2_apply 6 = .ok (.bipush 100, 2) := by decide +kernel
theorem dX2_apply_8 : decode cX2_apply 8 = .ok (.irem, 1) := by decide +kernel
theorem dX2_apply_9 : decode cX2_apply 9 = .ok (.istore_n 3, 1) := by decide +kernel
theorem dX2_apply_10 : decode cX2_apply 10 = .ok (.aload_n 0, 1) := by decide +kernel
theorem dX2_apply_11 : decode cX2_apply 11 = .ok (.iconst 1, 1) := by decide +kernel
theorem dX2_apply_12 : decode cX2_apply 12 = .ok (.iload_n 2, 1) := by decide +kernel
theorem dX2_apply_13 : decode cX2_apply 13 = .ok (.isub, 1) := by decide +kernel
theorem dX2_apply_14 : decode cX2_apply 14 = .ok (.invokevirtual 80, 3) := by decide +kernel
theorem dX2_apply_17 : decode cX2_apply 17 = .ok (.iload_n 1, 1) := by decide +kernel
theorem dX2_apply_18 : decode cX2_apply 18 = .ok (.sipush 20000, 3) := by decide +kernel
theorem dX2_apply_21 : decode cX2_apply 21 = .ok (.if_icmp .lt 43, 3) := by decide +kernel
theorem dX2_apply_24 : decode cX2_apply 24 = .ok (.iload_n 1, 1) := by decide +kernel
theorem dX2_apply_25 : decode cX2_apply 25 = .ok (.sipush 20000, 3) := by decide +kernel
theorem dX2_apply_28 : decode cX2_apply 28 = .ok (.isub, 1) := by decide +kernel
theorem dX2_apply_29 : decode cX2_apply 29 = .ok (.bipush 100, 2) := by decide +kernel
theorem dX2_apply_31 : decode cX2_apply 31 = .ok (.idiv, 1) := by decide +kernel
theorem dX2_apply_32 : decode cX2_apply 32 = .ok (.istore 4, 2) := by decide +kernel
theorem dX2_apply_34 : decode cX2_apply 34 = .ok (.aload_n 0, 1) := by decide +kernel
theorem dX2_apply_35 : decode cX2_apply 35 = .ok (.iload_n 2, 1) := by decide +kernel
theorem dX2_apply_36 : decode cX2_apply 36 = .ok (.iload 4, 2) := by decide +kernel
theorem dX2_apply_38 : decode cX2_apply 38 = .ok (.aload_n 0, 1) := by decide +kernel
theorem dX2_apply_39 : decode cX2_apply 39 = .ok (.iload_n 2, 1) := by decide +kernel
theorem dX2_apply_40 : decode cX2_apply 40 = .ok (.iload 4, 2) := by decide +kernel
theorem dX2_apply_42 : decode cX2_apply 42 = .ok (.invokevirtual 58, 3) := by decide +kernel
theorem dX2_apply_45 : decode cX2_apply 45 = .ok (.iconst 1, 1) := by decide +kernel
theorem dX2_apply_46 : decode cX2_apply 46 = .ok (.isub, 1) := by decide +kernel
theorem dX2_apply_47 : decode cX2_apply 47 = .ok (.invokevirtual 84, 3) := by decide +kernel
theorem dX2_apply_50 : decode cX2_apply 50 = .ok (.aload_n 0, 1) := by decide +kernel
theorem dX2_apply_51 : decode cX2_apply 51 = .ok (.iload_n 3, 1) := by decide +kernel
theorem dX2_apply_52 : decode cX2_apply 52 = .ok (.iload_n 2, 1) := by decide +kernel
theorem dX2_apply_53 : decode cX2_apply 53 = .ok (.iload 4, 2) := by decide +kernel
theorem dX2_apply_55 : decode cX2_apply 55 = .ok (.invokestatic 88, 3) := by decide +kernel
theorem dX2_apply_58 : decode cX2_apply 58 = .ok (.invokevirtual 28, 3) := by decide +kernel
theorem dX2_apply_61 : decode cX2_apply 61 = .ok (.bipush 99, 2) := by decide +kernel
theorem dX2_apply_63 : decode cX2_apply 63 = .ok (.ireturn, 1) := by decide +kernel
theorem dX2_apply_64 : decode cX2_apply 64 = .ok (.iload_n 1, 1) := by decide +kernel
theorem dX2_apply_65 : decode cX2_apply 65 = .ok (.sipush 10000, 3) := by decide +kernel
theorem dX2_apply_68 : decode cX2_apply 68 = .ok (.irem, 1) := by decide +kernel
theorem dX2_apply_69 : decode cX2_apply 69 = .ok (.bipush 100, 2) := by decide +kernel
theorem dX2_apply_71 : decode cX2_apply 71 = .ok (.idiv, 1) := by decide +kernel
theorem dX2_apply_72 : decode cX2_apply 72 = .ok (.istore 4, 2) := by decide +kernel
theorem dX2_apply_74 : decode cX2_apply 74 = .ok (.aload_n 0, 1) := by decide +kernel
theorem dX2_apply_75 : decode cX2_apply 75 = .ok (.iload 4, 2) := by decide +kernel
theorem dX2_apply_77 : decode cX2_apply 77 = .ok (.invokevirtual 64, 3) := by decide +kernel
theorem dX2_apply_80 : decode cX2_apply 80 = .ok (.istore 5, 2) := by decide +kernel
theorem dX2_apply_82 : decode cX2_apply 82 = .ok (.aload_n 0, 1) := by decide +kernel
theorem dX2_apply_83 : decode cX2_apply 83 = .ok (.iload_n 3, 1) := by decide +kernel
theorem dX2_apply_84 : decode cX2_apply 84 = .ok (.invokevirtual 64, 3) := by decide +kernel
theorem dX2_apply_87 : decode cX2_apply 87 = .ok (.istore 6, 2) := by decide +kernel
theorem dX2_apply_89 : decode cX2_apply 89 = .ok (.aload_n 0, 1) := by decide +kernel
theorem dX2_apply_90 : decode cX2_apply 90 = .ok (.iload_n 2, 1) := by decide +kernel
theorem dX2_apply_91 : decode cX2_apply 91 = .ok (.iload 6, 2) := by decide +kernel
theorem dX2_apply_93 : decode cX2_apply 93 = .ok (.iconst 1, 1) := by decide +kernel
theorem dX2_apply_94 : decode cX2_apply 94 = .ok (.invokevirtual 91, 3) := by decide +kernel
theorem dX2_apply_97 : decode cX2_apply 97 = .ok (.aload_n 0, 1) := by decide +kernel
theorem dX2_apply_98 : decode cX2_apply 98 = .ok (.iload 4, 2) := by decide +kernel
theorem dX2_apply_100 : decode cX2_apply 100 = .ok (.bipush 99, 2) := by decide +kernel
theorem dX2_apply_102 : decode cX2_apply 102 = .ok (.invokevirtual 28, 3) := by decide +kernel
theorem dX2_apply_105 : decode cX2_apply 105 = .ok (.aload_n 0, 1) := by decide +kernel
theorem dX2_apply_106 : decode cX2_apply 106 = .ok (.iload_n 3, 1) := by decide +kernel
theorem dX2_apply_107 : decode cX2_apply 107 = .ok (.iload_n 1, 1) := by decide +kernel
theorem dX2_apply_108 : decode cX2_apply 108 = .ok (.sipush 10000, 3) := by decide +kernel
theorem dX2_apply_111 : decode cX2_apply 111 = .ok (.if_icmp .lt 10, 3) := by decide +kernel
theorem dX2_apply_114 : decode cX2_apply 114 = .ok (.iload 5, 2) := by decide +kernel
theorem dX2_apply_116 : decode cX2_apply 116 = .ok (.iconst 4, 1) := by decide +kernel
theorem dX2_apply_117 : decode cX2_apply 117 = .ok (.iadd, 1) := by decide +kernel
theorem dX2_apply_118 : decode cX2_apply 118 = .ok (.goto 5, 3) := by decide +kernel
theorem dX2_apply_121 : decode cX2_apply 121 = .ok (.iload 5, 2) := by decide +kernel
theorem dX2_apply_123 : decode cX2_apply 123 = .ok (.invokevirtual 28, 3) := by decide +kernel
theorem dX2_apply_126 : decode cX2_apply 126 = .ok (.iload 6, 2) := by decide +kernel
theorem dX2_apply_128 : decode cX2_apply 128 = .ok (.ireturn, 1) := by decide +kernel
set_option maxRecDepth 20000 in
theorem ggX2_takeBack_X2_sideToPlay : GoodIn wsX2_takeBack wsX2_sideToPlay := goodIn_r _ [5, 6, 44, 45] (by decide +kernel) (by decide +kernel)
set_option maxRecDepth 20000 in
theorem gX2_takeBack_X2_sideToPlay : GoodIn wsX2_takeBack (wsV RX2 76 RX2 yX2_sideToPlay wsX2_sideToPlay) := goodIn_app (goodIn_of _ (by decide +kernel)) ggX2_takeBack_X2_sideToPlay
set_option maxRecDepth 20000 in
theorem ggX2_takeBack_X2_setSideToPlay : GoodIn wsX2_takeBack wsX2_setSideToPlay := goodIn_r _ [10, 6, 44, 45] (by decide +kernel) (by decide +kernel)
set_option maxRecDepth 20000 in
theorem gX2_takeBack_X2_setSideToPlay : GoodIn wsX2_takeBack (wsV RX2 80 RX2 yX2_setSideToPlay wsX2_setSideToPlay) := goodIn_app (goodIn_of _ (by decide +kernel)) ggX2_takeBack_X2_setSideToPlay
set_option maxRecDepth 20000 in
theorem ggX2_takeBack_X2_place : GoodIn wsX2_takeBack wsX2_place := goodIn_r _ [14, 6, 15, 16, 17, 18, 19, 20, 21, 22, 23, 44, 45] (by decide +kernel) (by decide +kernel)
set_option maxRecDepth 20000 in
theorem gX2_takeBack_X2_place : GoodIn wsX2_takeBack (wsV RX2 28 RX2 yX2_place wsX2_place) := goodIn_app (goodIn_of _ (by decide +kernel)) ggX2_takeBack_X2_place
set_option maxRecDepth 20000 in
theorem ggX2_takeBack_X2_inHand : GoodIn wsX2_takeBack wsX2_inHand := goodIn_r _ [27, 6, 28, 16, 29, 30, 31, 44, 45] (by decide +kernel) (by decide +kernel)
set_option maxRecDepth 20000 in
theorem gX2_takeBack_X2_inHand : GoodIn wsX2_takeBack (wsV RX2 58 RX2 yX2_inHand wsX2_inHand) := goodIn_app (goodIn_of _ (by decide +kernel)) ggX2_takeBack_X2_inHand
set_option maxRecDepth 20000 in
theorem ggX2_takeBack_X2_setInHand : GoodIn wsX2_takeBack wsX2_setInHand := goodIn_r _ [35, 6, 28, 16, 29, 30, 31, 44, 45] (by decide +kernel) (by decide +kernel)
set_option maxRecDepth 20000 in
theorem gX2_takeBack_X2_setInHand : GoodIn wsX2_takeBack (wsV RX2 84 RX2 yX2_setInHand wsX2_setInHand) := goodIn_app (goodIn_of _ (by decide +kernel)) ggX2_takeBack_X2_setInHand
set_option maxRecDepth 20000 in
theorem ggX2_takeBack_X2_manOn : GoodIn wsX2_takeBack wsX2_manOn := goodIn_r _ [39, 6, 44, 45] (by decide +kernel) (by decide +kernel)
set_option maxRecDepth 20000 in
theorem gX2_takeBack_X2_manOn : GoodIn wsX2_takeBack (wsV RX2 64 RX2 yX2_manOn wsX2_manOn) := goodIn_app (goodIn_of _ (by decide +kernel)) ggX2_takeBack_X2_manOn
set_option maxRecDepth 20000 in
theorem ggX2_takeBack_X2_changeHandForTaken : GoodIn wsX2_takeBack wsX2_changeHandForTaken := goodIn_r _ [43, 20, 16, 21, 24, 25, 26, 4, 27, 6, 28, 29, 30, 31, 32, 33, 34, 35, 44, 45] (by decide +kernel) (by decide +kernel)
set_option maxRecDepth 20000 in
theorem gX2_takeBack_X2_changeHandForTaken : GoodIn wsX2_takeBack (wsV RX2 91 RX2 yX2_changeHandForTaken wsX2_changeHandForTaken) := goodIn_app (goodIn_of _ (by decide +kernel)) ggX2_takeBack_X2_changeHandForTaken
theorem dX2_takeBack_0 : decode cX2_takeBack 0 = .ok (.iconst 1, 1) := by decide +kernel
theorem dX2_takeBack_1 : decode cX2_takeBack 1 = .ok (.aload_n 0, 1) := by decide +kernel
theorem dX2_takeBack_2 : decode cX2_takeBack 2 = .ok (.invokevirtual 76, 3) := by decide +kernel
theorem dX2_takeBack_5 : decode cX2_takeBack 5 = .ok (.isub, 1) := by decide +kernel
theorem dX2_takeBack_6 : decode cX2_takeBack 6 = .ok (.istore_n 3, 1) := by decide +kernel
theorem dX2_takeBack_7 : decode cX2_takeBack 7 = .ok (.iload_n 1, 1) := by decide +kernel
theorem dX2_takeBack_8 : decode cX2_takeBack 8 = .ok (.bipush 100, 2) := by decide +kernel
theorem dX2_takeBack_10 : decode cX2_takeBack 10 = .ok (.irem, 1) := by decide +kernel
theorem dX2_takeBack_11 : decode cX2_takeBack 11 = .ok (.istore 4, 2) := by decide +kernel
theorem dX2_takeBack_13 : decode cX2_takeBack 13 = .ok (.aload_n 0, 1) := by decide +kernel
theorem dX2_takeBack_14 : decode cX2_takeBack 14 = .ok (.iload_n 3, 1) := by decide +kernel
theorem dX2_takeBack_15 : decode cX2_takeBack 15 = .ok (.invokevirtual 80, 3) := by decide +kernel
theorem dX2_takeBack_18 : decode cX2_takeBack 18 = .ok (.iload_n 1, 1) := by decide +kernel
theorem dX2_takeBack_19 : decode cX2_takeBack 19 = .ok (.sipush 20000, 3) := by decide +kernel
theorem dX2_takeBack_22 : decode cX2_takeBack 22 = .ok (.if_icmp .lt 38, 3) := by decide +kernel
theorem dX2_takeBack_25 : decode cX2_takeBack 25 = .ok (.iload_n 1, 1) := by decide +kernel
theorem dX2_takeBack_26 : decode cX2_takeBack 26 = .ok (.sipush 20000, 3) := by decide +kernel
theorem dX2_takeBack_29 : decode cX2_takeBack 29 = .ok (.isub, 1) := by decide +kernel
theorem dX2_takeBack_30 : decode cX2_takeBack 30 = .ok (.bipush 100, 2) := by decide +kernel
theorem dX2_takeBack_32 : decode cX2_takeBack 32 = .ok (.idiv, 1) := by decide +kernel
theorem dX2_takeBack_33 : decode cX2_takeBack 33 = .ok (.istore 5, 2) := by decide +kernel
theorem dX2_takeBack_35 : decode cX2_takeBack 35 = .ok (.aload_n 0, 1) := by decide +kernel
theorem dX2_takeBack_36 : decode cX2_takeBack 36 = .ok (.iload 4, 2) := by decide +kernel
theorem dX2_takeBack_38 : decode cX2_takeBack 38 = .ok (.bipush 99, 2) := by decide +kernel
theorem dX2_takeBack_40 : decode cX2_takeBack 40 = .ok (.invokevirtual 28, 3) := by decide +kernel
theorem dX2_takeBack_43 : decode cX2_takeBack 43 = .ok (.aload_n 0, 1) := by decide +kernel
theorem dX2_takeBack_44 : decode cX2_takeBack 44 = .ok (.iload_n 3, 1) := by decide +kernel
theorem dX2_takeBack_45 : decode cX2_takeBack 45 = .ok (.iload 5, 2) := by decide +kernel
theorem dX2_takeBack_47 : decode cX2_takeBack 47 = .ok (.aload_n 0, 1) := by decide +kernel
theorem dX2_takeBack_48 : decode cX2_takeBack 48 = .ok (.iload_n 3, 1) := by decide +kernel
theorem dX2_takeBack_49 : decode cX2_takeBack 49 = .ok (.iload 5, 2) := by decide +kernel
theorem dX2_takeBack_51 : decode cX2_takeBack 51 = .ok (.invokevirtual 58, 3) := by decide +kernel
theorem dX2_takeBack_54 : decode cX2_takeBack 54 = .ok (.iconst 1, 1) := by decide +kernel
theorem dX2_takeBack_55 : decode cX2_takeBack 55 = .ok (.iadd, 1) := by decide +kernel
theorem dX2_takeBack_56 : decode cX2_takeBack 56 = .ok (.invokevirtual 84, 3) := by decide +kernel
theorem dX2_takeBack_59 : decode cX2_takeBack 59 = .ok (.return_, 1) := by decide +kernel
theorem dX2_takeBack_60 : decode cX2_takeBack 60 = .ok (.aload_n 0, 1) := by decide +kernel
theorem dX2_takeBack_61 : decode cX2_takeBack 61 = .ok (.iload 4, 2) := by decide +kernel
theorem dX2_takeBack_63 : decode cX2_takeBack 63 = .ok (.invokevirtual 64, 3) := by decide +kernel
theorem dX2_takeBack_66 : decode cX2_takeBack 66 = .ok (.istore 5, 2) := by decide +kernel
theorem dX2_takeBack_68 : decode cX2_takeBack 68 = .ok (.aload_n 0, 1) := by decide +kernel
theorem dX2_takeBack_69 : decode cX2_takeBack 69 = .ok (.iload 4, 2) := by decide +kernel
theorem dX2_takeBack_71 : decode cX2_takeBack 71 = .ok (.iload_n 2, 1) := by decide +kernel
theorem dX2_takeBack_72 : decode cX2_takeBack 72 = .ok (.invokevirtual 28, 3) := by decide +kernel
theorem dX2_takeBack_75 : decode cX2_takeBack 75 = .ok (.aload_n 0, 1) := by decide +kernel
theorem dX2_takeBack_76 : decode cX2_takeBack 76 = .ok (.iload_n 1, 1) := by decide +kernel
theorem dX2_takeBack_77 : decode cX2_takeBack 77 = .ok (.sipush 10000, 3) := by decide +kernel
theorem dX2_takeBack_80 : decode cX2_takeBack 80 = .ok (.irem, 1) := by decide +kernel
theorem dX2_takeBack_81 : decode cX2_takeBack 81 = .ok (.bipush 100, 2) := by decide +kernel
theorem dX2_takeBack_83 : decode cX2_takeBack 83 = .ok (.idiv, 1) := by decide +kernel
theorem dX2_takeBack_84 : decode cX2_takeBack 84 = .ok (.iload_n 1, 1) := by decide +kernel
theorem dX2_takeBack_85 : decode cX2_takeBack 85 = .ok (.sipush 10000, 3) := by decide +kernel
theorem dX2_takeBack_88 : decode cX2_takeBack 88 = .ok (.if_icmp .lt 10, 3) := by decide +kernel
theorem dX2_takeBack_91 : decode cX2_takeBack 91 = .ok (.iload 5, 2) := by decide +kernel
theorem dX2_takeBack_93 : decode cX2_takeBack 93 = .ok (.iconst 4, 1) := by decide +kernel
theorem dX2_takeBack_94 : decode cX2_takeBack 94 = .ok (.isub, 1) := by decide +kernel
theorem dX2_takeBack_95 : decode cX2_takeBack 95 = .ok (.goto 5, 3) := by decide +kernel
theorem dX2_takeBack_98 : decode cX2_takeBack 98 = .ok (.iload 5, 2) := by decide +kernel
theorem dX2_takeBack_100 : decode cX2_takeBack 100 = .ok (.invokevirtual 28, 3) := by decide +kernel
theorem dX2_takeBack_103 : decode cX2_takeBack 103 = .ok (.aload_n 0, 1) := by decide +kernel
theorem dX2_takeBack_104 : decode cX2_takeBack 104 = .ok (.iload_n 3, 1) := by decide +kernel
theorem dX2_takeBack_105 : decode cX2_takeBack 105 = .ok (.iload_n 2, 1) := by decide +kernel
theorem dX2_takeBack_106 : decode cX2_takeBack 106 = .ok (.iconst (-1), 1) := by decide +kernel
theorem dX2_takeBack_107 : decode cX2_takeBack 107 = .ok (.invokevirtual 91, 3) := by decide +kernel
theorem dX2_takeBack_110 : decode cX2_takeBack 110 = .ok (.return_, 1) := by decide +kernel
set_option maxRecDepth 20000 in
theorem ggX2_changeHandForTaken_X4_kindOf : GoodIn wsX2_changeHandForTaken wsX4_kindOf := goodIn_r _ [3] (by decide +kernel) (by decide +kernel)
set_option maxRecDepth 20000 in
theorem gX2_changeHandForTaken_X4_kindOf_n48 : GoodIn wsX2_changeHandForTaken (wsX4_kindOf) := ggX2_changeHandForTaken_X4_kindOf
set_option maxRecDepth 20000 in
theorem ggX2_changeHandForTaken_X2_inHand : GoodIn wsX2_changeHandForTaken wsX2_inHand := goodIn_r _ [8, 9, 10, 2, 11, 12, 13, 18, 19] (by decide +kernel) (by decide +kernel)
set_option maxRecDepth 20000 in
theorem gX2_changeHandForTaken_X2_inHand : GoodIn wsX2_changeHandForTaken (wsV RX2 58 RX2 yX2_inHand wsX2_inHand) := goodIn_app (goodIn_of _ (by decide +kernel)) ggX2_changeHandForTaken_X2_inHand
set_option maxRecDepth 20000 in
theorem ggX2_changeHandForTaken_X2_setInHand : GoodIn wsX2_changeHandForTaken wsX2_setInHand := goodIn_r _ [17, 9, 10, 2, 11, 12, 13, 18, 19] (by decide +kernel) (by decide +kernel)
set_option maxRecDepth 20000 in
theorem gX2_changeHandForTaken_X2_setInHand : GoodIn wsX2_changeHandForTaken (wsV RX2 84 RX2 yX2_setInHand wsX2_setInHand) := goodIn_app (goodIn_of _ (by decide +kernel)) ggX2_changeHandForTaken_X2_setInHand
theorem dX2_changeHandForTaken_0 : decode cX2_changeHandForTaken 0 = .ok (.iload_n 2, 1) := by decide +kernel
theorem dX2_changeHandForTaken_1 : decode cX2_changeHandForTaken 1 = .ok (.bipush 99, 2) := by decide +kernel
theorem dX2_changeHandForTaken_3 : decode cX2_changeHandForTaken 3 = .ok (.if_icmp .ne 4, 3) := by decide +kernel
theorem dX2_changeHandForTaken_6 : decode cX2_changeHandForTaken 6 = .ok (.return_, 1) := by decide +kernel
theorem dX2_changeHandForTaken_7 : decode cX2_changeHandForTaken 7 = .ok (.iload_n 2, 1) := by decide +kernel
theorem dX2_changeHandForTaken_8 : decode cX2_changeHandForTaken 8 = .ok (.invokestatic 48, 3) := by decide +kernel
theorem dX2_changeHandForTaken_11 : decode cX2_changeHandForTaken 11 = .ok (.istore 4, 2) := by decide +kernel
theorem dX2_changeHandForTaken_13 : decode cX2_changeHandForTaken 13 = .ok (.iload 4, 2) := by decide +kernel
theorem dX2_changeHandForTaken_15 : decode cX2_changeHandForTaken 15 = .ok (.iconst 5, 1) := by decide +kernel
theorem dX2_changeHandForTaken_16 : decode cX2_changeHandForTaken 16 = .ok (.if_icmp .le 10, 3) := by decide +kernel
theorem dX2_changeHandForTaken_19 : decode cX2_changeHandForTaken 19 = .ok (.iload 4, 2) := by decide +kernel
theorem dX2_changeHandForTaken_21 : decode cX2_changeHandForTaken 21 = .ok (.iconst 4, 1) := by decide +kernel
theorem dX2_changeHandForTaken_22 : decode cX2_changeHandForTaken 22 = .ok (.isub, 1) := by decide +kernel
theorem dX2_changeHandForTaken_23 : decode cX2_changeHandForTaken 23 = .ok (.goto 5, 3) := by decide +kernel
theorem dX2_changeHandForTaken_26 : decode cX2_changeHandForTaken 26 = .ok (.iload 4, 2) := by decide +kernel
theorem dX2_changeHandForTaken_28 : decode cX2_changeHandForTaken 28 = .ok (.istore 5, 2) := by decide +kernel
theorem dX2_changeHandForTaken_30 : decode cX2_changeHandForTaken 30 = .ok (.aload_n 0, 1) := by decide +kernel
theorem dX2_changeHandForTaken_31 : decode cX2_changeHandForTaken 31 = .ok (.iload_n 1, 1) := by decide +kernel
theorem dX2_changeHandForTaken_32 : decode cX2_changeHandForTaken 32 = .ok (.iload 5, 2) := by decide +kernel
theorem dX2_changeHandForTaken_34 : decode cX2_changeHandForTaken 34 = .ok (.aload_n 0, 1) := by decide +kernel
theorem dX2_changeHandForTaken_35 : decode cX2_changeHandForTaken 35 = .ok (.iload_n 1, 1) := by decide +kernel
theorem dX2_changeHandForTaken_36 : decode cX2_changeHandForTaken 36 = .ok (.iload 5, 2) := by decide +kernel
theorem dX2_changeHandForTaken_38 : decode cX2_changeHandForTaken 38 = .ok (.invokevirtual 58, 3) := by decide +kernel
theorem dX2_changeHandForTaken_41 : decode cX2_changeHandForTaken 41 = .ok (.iload_n 3, 1) := by decide +kernel
theorem dX2_changeHandForTaken_42 : decode cX2_changeHandForTaken 42 = .ok (.iadd, 1) := by decide +kernel
theorem dX2_changeHandForTaken_43 : decode cX2_changeHandForTaken 43 = .ok (.invokevirtual 84, 3) := by decide +kernel
theorem dX2_changeHandForTaken_46 : decode cX2_changeHandForTaken 46 = .ok (.return_, 1) := by decide +kernel
