set_option maxRecDepth 20000 in
theorem ggX4_init_X2_init : GoodIn wsX4_init wsX2_init := goodIn_r _ [26, 27, 2, 3, 20, 28, 29, 30, 31, 32, 33, 34, 35, 36, 37, 38, 39, 40, 6, 41, 42, 43, 44, 45, 46, 47, 48, 49, 50, 51, 76, 77] (by decide +kernel) (by decide +kernel)
set_option maxRecDepth 20000 in
theorem gX4_init_X2_init : GoodIn wsX4_init (wsX2_init) := ggX4_init_X2_init
set_option maxRecDepth 20000 in
theorem ggX4_init_X3_init : GoodIn wsX4_init wsX3_init := goodIn_r _ [54, 55, 2, 3, 20, 56, 57, 58, 59, 60, 61, 85, 86, 87, 88, 89, 90] (by decide +kernel) (by decide +kernel)
set_option maxRecDepth 20000 in
theorem gX4_init_X3_init : GoodIn wsX4_init (wsX3_init) := ggX4_init_X3_init
set_option maxRecDepth 20000 in
theorem ggX4_init_X0_init : GoodIn wsX4_init wsX0_init := goodIn_r _ [63, 64, 2, 3, 20, 65, 66, 91, 92] (by decide +kernel) (by decide +kernel)
set_option maxRecDepth 20000 in
theorem gX4_init_X0_init_n27 : GoodIn wsX4_init (wsX0_init) := ggX4_init_X0_init
set_option maxRecDepth 20000 in
theorem ggX4_init_X1_init : GoodIn wsX4_init wsX1_init := goodIn_r _ [68, 69, 2, 3, 70, 71, 72, 20, 73, 74, 75, 93, 94, 95, 96, 97] (by decide +kernel) (by decide +kernel)
set_option maxRecDepth 20000 in
theorem gX4_init_X1_init_n34 : GoodIn wsX4_init (wsX1_init) := ggX4_init_X1_init
theorem dX4_init_0 : decode cX4_init 0 = .ok (.aload_n 0, 1) := by decide +kernel
theorem dX4_init_1 : decode cX4_init 1 = .ok (.invokespecial 3, 3) := by decide +kernel
theorem dX4_init_4 : decode cX4_init 4 = .ok (.aload_n 0, 1) := by decide +kernel
theorem dX4_init_5 : decode cX4_init 5 = .ok (.new 9, 3) := by decide +kernel
theorem dX4_init_8 : decode cX4_init 8 = .ok (.dup, 1) := by decide +kernel
theorem dX4_init_9 : decode cX4_init 9 = .ok (.invokespecial 11, 3) := by decide +kernel
theorem dX4_init_12 : decode cX4_init 12 = .ok (.putfield 12, 3) := by decide +kernel
theorem dX4_init_15 : decode cX4_init 15 = .ok (.aload_n 0, 1) := by decide +kernel
theorem dX4_init_16 : decode cX4_init 16 = .ok (.new 16, 3) := by decide +kernel
theorem dX4_init_19 : decode cX4_init 19 = .ok (.dup, 1) := by decide +kernel
theorem dX4_init_20 : decode cX4_init 20 = .ok (.aload_n 0, 1) := by decide +kernel
theorem dX4_init_21 : decode cX4_init 21 = .ok (.getfield 12, 3) := by decide +kernel
theorem dX4_init_24 : decode cX4_init 24 = .ok (.invokespecial 18, 3) := by decide +kernel
theorem dX4_init_27 : decode cX4_init 27 = .ok (.putfield 21, 3) := by decide +kernel
theorem dX4_init_30 : decode cX4_init 30 = .ok (.aload_n 0, 1) := by decide +kernel
theorem dX4_init_31 : decode cX4_init 31 = .ok (.new 25, 3) := by decide +kernel
theorem dX4_init_34 : decode cX4_init 34 = .ok (.dup, 1) := by decide +kernel
theorem dX4_init_35 : decode cX4_init 35 = .ok (.invokespecial 27, 3) := by decide +kernel
theorem dX4_init_38 : decode cX4_init 38 = .ok (.putfield 28, 3) := by decide +kernel
theorem dX4_init_41 : decode cX4_init 41 = .ok (.aload_n 0, 1) := by decide +kernel
theorem dX4_init_42 : decode cX4_init 42 = .ok (.new 32, 3) := by decide +kernel
theorem dX4_init_45 : decode cX4_init 45 = .ok (.dup, 1) := by decide +kernel
theorem dX4_init_46 : decode cX4_init 46 = .ok (.invokespecial 34, 3) := by decide +kernel
theorem dX4_init_49 : decode cX4_init 49 = .ok (.putfield 35, 3) := by decide +kernel
theorem dX4_init_52 : decode cX4_init 52 = .ok (.aload_n 0, 1) := by decide +kernel
theorem dX4_init_53 : decode cX4_init 53 = .ok (.bipush 44, 2) := by decide +kernel
theorem dX4_init_55 : decode cX4_init 55 = .ok (.newarray .int, 2) := by decide +kernel
theorem dX4_init_57 : decode cX4_init 57 = .ok (.putfield 39, 3) := by decide +kernel
theorem dX4_init_60 : decode cX4_init 60 = .ok (.aload_n 0, 1) := by decide +kernel
theorem dX4_init_61 : decode cX4_init 61 = .ok (.bipush 44, 2) := by decide +kernel
theorem dX4_init_63 : decode cX4_init 63 = .ok (.newarray .int, 2) := by decide +kernel
theorem dX4_init_65 : decode cX4_init 65 = .ok (.putfield 43, 3) := by decide +kernel
theorem dX4_init_68 : decode cX4_init 68 = .ok (.aload_n 0, 1) := by decide +kernel
theorem dX4_init_69 : decode cX4_init 69 = .ok (.iconst 0, 1) := by decide +kernel
theorem dX4_init_70 : decode cX4_init 70 = .ok (.putfield 46, 3) := by decide +kernel
theorem dX4_init_73 : decode cX4_init 73 = .ok (.return_, 1) := by decide +kernel
set_option maxRecDepth 20000 in
theorem ggX4_make_X3_allows : GoodIn wsX4_make wsX3_allows := goodIn_r _ [7, 8, 9, 10, 11, 12, 13, 14, 15, 6, 16, 17, 18, 19, 20, 21, 22, 23, 24, 25, 26, 27, 28, 29, 30, 31, 32, 33, 34, 35, 36, 37, 38, 39, 40, 41, 42, 43, 44, 45, 46, 47, 48, 49, 50, 51, 52, 53, 54, 55, 56, 57, 58, 59, 60, 61, 62, 63, 64, 65, 66, 67, 68, 69, 70, 71, 72, 73, 74, 75, 76, 77, 78, 79, 80, 81, 82, 83, 84, 85, 86, 87, 88, 89, 90, 91, 92, 93, 94, 95, 96, 97, 98, 99, 100, 101, 102, 103, 104, 105, 106, 107, 108, 109, 110, 111, 112, 113, 114, 115, 116, 117, 118, 119, 120, 121, 122, 123, 124, 125, 126, 127, 128, 129, 130, 131, 132, 133, 134, 135, 136, 137, 176, 177, 178, 179, 180, 181, 182, 183] (by decide +kernel) (by decide +kernel)
set_option maxRecDepth 20000 in
theorem gX4_make_X3_allows : GoodIn wsX4_make (wsV RX4 85 RX3 yX3_allows wsX3_allows) := goodIn_app (goodIn_of _ (by decide +kernel)) ggX4_make_X3_allows
set_option maxRecDepth 20000 in
theorem ggX4_make_X4_recordChange : GoodIn wsX4_make wsX4_recordChange := goodIn_r _ [141, 2, 142, 143, 144, 145, 146, 21, 147, 23, 148, 149, 150, 151, 152, 153, 154, 155, 156, 157, 158, 159, 169, 170, 171, 172, 173, 174, 175, 182, 183, 184, 185] (by decide +kernel) (by decide +kernel)
set_option maxRecDepth 20000 in
theorem gX4_make_X4_recordChange : GoodIn wsX4_make (wsV RX4 58 RX4 yX4_recordChange wsX4_recordChange) := goodIn_app (goodIn_of _ (by decide +kernel)) ggX4_make_X4_recordChange
set_option maxRecDepth 20000 in
theorem ggX4_make_X2_play : GoodIn wsX4_make wsX2_play := goodIn_r _ [163, 23, 164, 78, 79, 21, 80, 81, 19, 20, 22, 82, 83, 84, 85, 86, 25, 26, 27, 28, 9, 29, 11, 12, 87, 88, 89, 90, 44, 45, 91, 60, 61, 62, 8, 10, 63, 64, 65, 66, 67, 68, 92, 31, 32, 33, 93, 94, 95, 96, 182, 183] (by decide +kernel) (by decide +kernel)
set_option maxRecDepth 20000 in
theorem gX4_make_X2_play : GoodIn wsX4_make (wsV RX4 64 RX2 yX2_play wsX2_play) := goodIn_app (goodIn_of _ (by decide +kernel)) ggX4_make_X2_play
set_option maxRecDepth 20000 in
theorem ggX4_make_X3_isInCheck : GoodIn wsX4_make wsX3_isInCheck := goodIn_r _ [100, 17, 18, 19, 20, 21, 22, 23, 50, 51, 52, 53, 28, 9, 29, 54, 55, 56, 57, 58, 176, 177, 178, 179, 180, 181, 182, 183] (by decide +kernel) (by decide +kernel)
set_option maxRecDepth 20000 in
theorem gX4_make_X3_isInCheck : GoodIn wsX4_make (wsV RX4 88 RX3 yX3_isInCheck wsX3_isInCheck) := goodIn_app (goodIn_of _ (by decide +kernel)) ggX4_make_X3_isInCheck
set_option maxRecDepth 20000 in
theorem ggX4_make_X4_asNumber : GoodIn wsX4_make wsX4_asNumber := goodIn_r _ [168] (by decide +kernel) (by decide +kernel)
set_option maxRecDepth 20000 in
theorem gX4_make_X4_asNumber : GoodIn wsX4_make (va_wsS RX4 92 yX4_asNumber wsX4_asNumber) := goodIn_app (goodIn_of _ (by decide +kernel)) ggX4_make_X4_asNumber
theorem dX4_make_0 : decode cX4_make 0 = .ok (.aload_n 0, 1) := by decide +kernel
theorem dX4_make_1 : decode cX4_make 1 = .ok (.getfield 21, 3) := by decide +kernel
theorem dX4_make_4 : decode cX4_make 4 = .ok (.iload_n 1, 1) := by decide +kernel
theorem dX4_make_5 : decode cX4_make 5 = .ok (.invokevirtual 85, 3) := by decide +kernel
theorem dX4_make_8 : decode cX4_make 8 = .ok (.ifCond .ne 7, 3) := by decide +kernel
theorem dX4_make_11 : decode cX4_make 11 = .ok (.sipush (-1004), 3) := by decide +kernel
theorem dX4_make_14 : decode cX4_make 14 = .ok (.ireturn, 1) := by decide +kernel
theorem dX4_make_15 : decode cX4_make 15 = .ok (.aload_n 0, 1) := by decide +kernel
theorem dX4_make_16 : decode cX4_make 16 = .ok (.invokevirtual 58, 3) := by decide +kernel
theorem dX4_make_19 : decode cX4_make 19 = .ok (.aload_n 0, 1) := by decide +kernel
theorem dX4_make_20 : decode cX4_make 20 = .ok (.getfield 12, 3) := by decide +kernel
theorem dX4_make_23 : decode cX4_make 23 = .ok (.iload_n 1, 1) := by decide +kernel
theorem dX4_make_24 : decode cX4_make 24 = .ok (.invokevirtual 64, 3) := by decide +kernel
theorem dX4_make_27 : decode cX4_make 27 = .ok (.pop, 1) := by decide +kernel
theorem dX4_make_28 : decode cX4_make 28 = .ok (.aload_n 0, 1) := by decide +kernel
theorem dX4_make_29 : decode cX4_make 29 = .ok (.getfield 21, 3) := by decide +kernel
theorem dX4_make_32 : decode cX4_make 32 = .ok (.invokevirtual 88, 3) := by decide +kernel
theorem dX4_make_35 : decode cX4_make 35 = .ok (.invokestatic 92, 3) := by decide +kernel
theorem dX4_make_38 : decode cX4_make 38 = .ok (.ireturn, 1) := by decide +kernel
set_option maxRecDepth 20000 in
theorem ggX4_put_X4_isSquare : GoodIn wsX4_put wsX4_isSquare := goodIn_r _ [5] (by decide +kernel) (by decide +kernel)
set_option maxRecDepth 20000 in
theorem gX4_put_X4_isSquare : GoodIn wsX4_put (va_wsS RX4 50 yX4_isSquare wsX4_isSquare) := goodIn_app (goodIn_of _ (by decide +kernel)) ggX4_put_X4_isSquare
set_option maxRecDepth 20000 in
theorem ggX4_put_X4_isMan : GoodIn wsX4_put wsX4_isMan := goodIn_r _ [8] (by decide +kernel) (by decide +kernel)
set_option maxRecDepth 20000 in
theorem gX4_put_X4_isMan : GoodIn wsX4_put (va_wsS RX4 96 yX4_isMan wsX4_isMan) := goodIn_app (goodIn_of _ (by decide +kernel)) ggX4_put_X4_isMan
set_option maxRecDepth 20000 in
theorem ggX4_put_X4_sideOf : GoodIn wsX4_put wsX4_sideOf := goodIn_r _ [11] (by decide +kernel) (by decide +kernel)
set_option maxRecDepth 20000 in
theorem gX4_put_X4_sideOf : GoodIn wsX4_put (va_wsS RX4 99 yX4_sideOf wsX4_sideOf) := goodIn_app (goodIn_of _ (by decide +kernel)) ggX4_put_X4_sideOf
set_option maxRecDepth 20000 in
theorem ggX4_put_X2_kingOf : GoodIn wsX4_put wsX2_kingOf := goodIn_r _ [16, 17, 18, 4, 19, 64, 65] (by decide +kernel) (by decide +kernel)
set_option maxRecDepth 20000 in
theorem gX4_put_X2_kingOf : GoodIn wsX4_put (wsV RX4 102 RX2 yX2_kingOf wsX2_kingOf) := goodIn_app (goodIn_of _ (by decide +kernel)) ggX4_put_X2_kingOf
set_option maxRecDepth 20000 in
theorem ggX4_put_X4_kindOf : GoodIn wsX4_put wsX4_kindOf := goodIn_r _ [22] (by decide +kernel) (by decide +kernel)
set_option maxRecDepth 20000 in
theorem gX4_put_X4_kindOf : GoodIn wsX4_put (va_wsS RX4 105 yX4_kindOf wsX4_kindOf) := goodIn_app (goodIn_of _ (by decide +kernel)) ggX4_put_X4_kindOf
set_option maxRecDepth 20000 in
theorem ggX4_put_X2_manOn : GoodIn wsX4_put wsX2_manOn := goodIn_r _ [26, 17, 64, 65] (by decide +kernel) (by decide +kernel)
set_option maxRecDepth 20000 in
theorem gX4_put_X2_manOn : GoodIn wsX4_put (wsV RX4 108 RX2 yX2_manOn wsX2_manOn) := goodIn_app (goodIn_of _ (by decide +kernel)) ggX4_put_X2_manOn
set_option maxRecDepth 20000 in
theorem ggX4_put_X4_recordChange : GoodIn wsX4_put wsX4_recordChange := goodIn_r _ [30, 1, 31, 32, 33, 34, 35, 15, 36, 17, 37, 38, 39, 40, 41, 42, 43, 44, 45, 46, 47, 48, 57, 58, 59, 60, 61, 62, 63, 64, 65, 66, 67] (by decide +kernel) (by decide +kernel)
set_option maxRecDepth 20000 in
theorem gX4_put_X4_recordChange : GoodIn wsX4_put (wsV RX4 58 RX4 yX4_recordChange wsX4_recordChange) := goodIn_app (goodIn_of _ (by decide +kernel)) ggX4_put_X4_recordChange
set_option maxRecDepth 20000 in
theorem ggX4_put_X2_place : GoodIn wsX4_put wsX2_place := goodIn_r _ [52, 17, 3, 4, 5, 7, 8, 21, 22, 10, 11, 64, 65] (by decide +kernel) (by decide +kernel)
set_option maxRecDepth 20000 in
theorem gX4_put_X2_place : GoodIn wsX4_put (wsV RX4 111 RX2 yX2_place wsX2_place) := goodIn_app (goodIn_of _ (by decide +kernel)) ggX4_put_X2_place
set_option maxRecDepth 20000 in
theorem ggX4_put_X2_menOnBoard : GoodIn wsX4_put wsX2_menOnBoard := goodIn_r _ [56, 17, 64, 65] (by decide +kernel) (by decide +kernel)
set_option maxRecDepth 20000 in
theorem gX4_put_X2_menOnBoard : GoodIn wsX4_put (wsV RX4 115 RX2 yX2_menOnBoard wsX2_menOnBoard) := goodIn_app (goodIn_of _ (by decide +kernel)) ggX4_put_X2_menOnBoard
theorem dX4_put_0 : decode cX4_put 0 = .ok (.iload_n 1, 1) := by decide +kernel
theorem dX4_put_1 : decode cX4_put 1 = .ok (.invokestatic 50, 3) := by decide +kernel
theorem dX4_put_4 : decode cX4_put 4 = .ok (.ifCond .eq 10, 3) := by decide +kernel
theorem dX4_put_7 : decode cX4_put 7 = .ok (.iload_n 2, 1) := by decide +kernel
theorem dX4_put_8 : decode cX4_put 8 = .ok (.invokestatic 96, 3) := by decide +kernel
theorem dX4_put_11 : decode cX4_put 11 = .ok (.ifCond .ne 7, 3) := by decide +kernel
theorem dX4_put_14 : decode cX4_put 14 = .ok (.sipush (-1001), 3) := by decide +kernel
theorem dX4_put_17 : decode cX4_put 17 = .ok (.ireturn, 1) := by decide +kernel
theorem dX4_put_18 : decode cX4_put 18 = .ok (.aload_n 0, 1) := by decide +kernel
theorem dX4_put_19 : decode cX4_put 19 = .ok (.getfield 12, 3) := by decide +kernel
theorem dX4_put_22 : decode cX4_put 22 = .ok (.iload_n 2, 1) := by decide +kernel
theorem dX4_put_23 : decode cX4_put 23 = .ok (.invokestatic 99, 3) := by decide +kernel
theorem dX4_put_26 : decode cX4_put 26 = .ok (.invokevirtual 102, 3) := by decide +kernel
theorem dX4_put_29 : decode cX4_put 29 = .ok (.istore_n 3, 1) := by decide +kernel
theorem dX4_put_30 : decode cX4_put 30 = .ok (.iload_n 2, 1) := by decide +kernel
theorem dX4_put_31 : decode cX4_put 31 = .ok (.invokestatic 105, 3) := by decide +kernel
theorem dX4_put_34 : decode cX4_put 34 = .ok (.ifCond .ne 17, 3) := by decide +kernel
theorem dX4_put_37 : decode cX4_put 37 = .ok (.iload_n 3, 1) := by decide +kernel
theorem dX4_put_38 : decode cX4_put 38 = .ok (.iconst (-1), 1) := by decide +kernel
theorem dX4_put_39 : decode cX4_put 39 = .ok (.if_icmp .eq 12, 3) := by decide +kernel
theorem dX4_put_42 : decode cX4_put 42 = .ok (.iload_n 3, 1) := by decide +kernel
theorem dX4_put_43 : decode cX4_put 43 = .ok (.iload_n 1, 1) := by decide +kernel
theorem dX4_put_44 : decode cX4_put 44 = .ok (.if_icmp .eq 7, 3) := by decide +kernel
theorem dX4_put_47 : decode cX4_put 47 = .ok (.sipush (-1004), 3) := by decide +kernel
theorem dX4_put_50 : decode cX4_put 50 = .ok (.ireturn, 1) := by decide +kernel
theorem dX4_put_51 : decode cX4_put 51 = .ok (.aload_n 0, 1) := by decide +kernel
theorem dX4_put_52 : decode cX4_put 52 = .ok (.getfield 12, 3) := by decide +kernel
theorem dX4_put_55 : decode cX4_put 55 = .ok (.iload_n 1, 1) := by decide +kernel
theorem dX4_put_56 : decode cX4_put 56 = .ok (.invokevirtual 108, 3) := by decide +kernel
theorem dX4_put_59 : decode cX4_put 59 = .ok (.iload_n 2, 1) := by decide +kernel
theorem dX4_put_60 : decode cX4_put 60 = .ok (.if_icmp .ne 7, 3) := by decide +kernel
theorem dX4_put_63 : decode cX4_put 63 = .ok (.sipush (-1005), 3) := by decide +kernel
theorem dX4_put_66 : decode cX4_put 66 = .ok (.ireturn, 1) := by decide +kernel
theorem dX4_put_67 : decode cX4_put 67 = .ok (.aload_n 0, 1) := by decide +kernel
theorem dX4_put_68 : decode cX4_put 68 = .ok (.invokevirtual 58, 3) := by decide +kernel
theorem dX4_put_71 : decode cX4_put 71 = .ok (.aload_n 0, 1) := by decide +kernel
theorem dX4_put_72 : decode cX4_put 72 = .ok (.getfield 12, 3) := by decide +kernel
theorem dX4_put_75 : decode cX4_put 75 = .ok (.iload_n 1, 1) := by decide +kernel
theorem dX4_put_76 : decode cX4_put 76 = .ok (.iload_n 2, 1) := by decide +kernel
theorem dX4_put_77 : decode cX4_put 77 = .ok (.invokevirtual 111, 3) := by decide +kernel
theorem dX4_put_80 : decode cX4_put 80 = .ok (.aload_n 0, 1) := by decide +kernel
theorem dX4_put_81 : decode cX4_put 81 = .ok (.getfield 12, 3) := by decide +kernel
theorem dX4_put_84 : decode cX4_put 84 = .ok (.invokevirtual 115, 3) := by decide +kernel
theorem dX4_put_87 : decode cX4_put 87 = .ok (.ireturn, 1) := by decide +kernel
set_option maxRecDepth 20000 in
theorem ggX4_takeOff_X4_isSquare : GoodIn wsX4_takeOff wsX4_isSquare := goodIn_r _ [5] (by decide +kernel) (by decide +kernel)
set_option maxRecDepth 20000 in
theorem gX4_takeOff_X4_isSquare : GoodIn wsX4_takeOff (va_wsS RX4 50 yX4_isSquare wsX4_isSquare) := goodIn_app (goodIn_of _ (by decide +kernel)) ggX4_takeOff_X4_isSquare
set_option maxRecDepth 20000 in
theorem ggX4_takeOff_X2_manOn : GoodIn wsX4_takeOff wsX2_manOn := goodIn_r _ [10, 11, 51, 52] (by decide +kernel) (by decide +kernel)
set_option maxRecDepth 20000 in
theorem gX4_takeOff_X2_manOn : GoodIn wsX4_takeOff (wsV RX4 108 RX2 yX2_manOn wsX2_manOn) := goodIn_app (goodIn_of _ (by decide +kernel)) ggX4_takeOff_X2_manOn
set_option maxRecDepth 20000 in
theorem ggX4_takeOff_X4_recordChange : GoodIn wsX4_takeOff wsX4_recordChange := goodIn_r _ [15, 1, 16, 17, 18, 19, 20, 9, 21, 11, 22, 23, 24, 25, 26, 27, 28, 29, 30, 31, 32, 33, 44, 45, 46, 47, 48, 49, 50, 51, 52, 53, 54] (by decide +kernel) (by decide +kernel)
set_option maxRecDepth 20000 in
theorem gX4_takeOff_X4_recordChange : GoodIn wsX4_takeOff (wsV RX4 58 RX4 yX4_recordChange wsX4_recordChange) := goodIn_app (goodIn_of _ (by decide +kernel)) ggX4_takeOff_X4_recordChange
set_option maxRecDepth 20000 in
theorem ggX4_takeOff_X2_place : GoodIn wsX4_takeOff wsX2_place := goodIn_r _ [37, 11, 3, 4, 5, 38, 39, 40, 41, 42, 43, 51, 52] (by decide +kernel) (by decide +kernel)
set_option maxRecDepth 20000 in
theorem gX4_takeOff_X2_place : GoodIn wsX4_takeOff (wsV RX4 111 RX2 yX2_place wsX2_place) := goodIn_app (goodIn_of _ (by decide +kernel)) ggX4_takeOff_X2_place
theorem dX4_takeOff_0 : decode cX4_takeOff 0 = .ok (.iload_n 1, 1) := by decide +kernel
theorem dX4_takeOff_1 : decode cX4_takeOff 1 = .ok (.invokestatic 50, 3) := by decide +kernel
theorem dX4_takeOff_4 : decode cX4_takeOff 4 = .ok (.ifCond .ne 7, 3) := by decide +kernel
theorem dX4_takeOff_7 : decode cX4_takeOff 7 = .ok (.sipush (-1001), 3) := by decide +kernel
theorem dX4_takeOff_10 : decode cX4_takeOff 10 = .ok (.ireturn, 1) := by decide +kernel
theorem dX4_takeOff_11 : decode cX4_takeOff 11 = .ok (.aload_n 0, 1) := by decide +kernel
theorem dX4_takeOff_12 : decode cX4_takeOff 12 = .ok (.getfield 12, 3) := by decide +kernel
theorem dX4_takeOff_15 : decode cX4_takeOff 15 = .ok (.iload_n 1, 1) := by decide +kernel
theorem dX4_takeOff_16 : decode cX4_takeOff 16 = .ok (.invokevirtual 108, 3) := by decide +kernel
theorem dX4_takeOff_19 : decode cX4_takeOff 19 = .ok (.istore_n 2, 1) := by decide +kernel
theorem dX4_takeOff_20 : decode cX4_takeOff 20 = .ok (.iload_n 2, 1) := by decide +kernel
theorem dX4_takeOff_21 : decode cX4_takeOff 21 = .ok (.bipush 99, 2) := by decide +kernel
theorem dX4_takeOff_23 : decode cX4_takeOff 23 = .ok (.if_icmp .ne 7, 3) := by decide +kernel
theorem dX4_takeOff_26 : decode cX4_takeOff 26 = .ok (.sipush (-1005), 3) := by decide +kernel
theorem dX4_takeOff_29 : decode cX4_takeOff 29 = .ok (.ireturn, 1) := by decide +kernel
theorem dX4_takeOff_30 : decode cX4_takeOff 30 = .ok (.aload_n 0, 1) := by decide +kernel
theorem dX4_takeOff_31 : decode cX4_takeOff 31 = .ok (.invokevirtual 58, 3) := by decide +kernel
theorem dX4_takeOff_34 : decode cX4_takeOff 34 = .ok (.aload_n 0, 1) := by decide +kernel
theorem dX4_takeOff_35 : decode cX4_takeOff 35 = .ok (.getfield 12, 3) := by decide +kernel
theorem dX4_takeOff_38 : decode cX4_takeOff 38 = .ok (.iload_n 1, 1) := by decide +kernel
theorem dX4_takeOff_39 : decode cX4_takeOff 39 = .ok (.bipush 99, 2) := by decide +kernel
theorem dX4_takeOff_41 : decode cX4_takeOff 41 = .ok (.invokevirtual 111, 3) := by decide +kernel
theorem dX4_takeOff_44 : decode cX4_takeOff 44 = .ok (.iload_n 2, 1) := by decide +kernel
theorem dX4_takeOff_45 : decode cX4_takeOff 45 = .ok (.ireturn, 1) := by decide +kernel
set_option maxRecDepth 20000 in
theorem ggX4_setHand_X4_isSide : GoodIn wsX4_setHand wsX4_isSide := goodIn_r _ [5] (by decide +kernel) (by decide +kernel)
set_option maxRecDepth 20000 in
theorem gX4_setHand_X4_isSide : GoodIn wsX4_setHand (va_wsS RX4 118 yX4_isSide wsX4_isSide) := goodIn_app (goodIn_of _ (by decide +kernel)) ggX4_setHand_X4_isSide
set_option maxRecDepth 20000 in
theorem ggX4_setHand_X4_isHandKind : GoodIn wsX4_setHand wsX4_isHandKind := goodIn_r _ [8] (by decide +kernel) (by decide +kernel)
set_option maxRecDepth 20000 in
theorem gX4_setHand_X4_isHandKind : GoodIn wsX4_setHand (va_wsS RX4 68 yX4_isHandKind wsX4_isHandKind) := goodIn_app (goodIn_of _ (by decide +kernel)) ggX4_setHand_X4_isHandKind
set_option maxRecDepth 20000 in
theorem ggX4_setHand_X2_inHand : GoodIn wsX4_setHand wsX2_inHand := goodIn_r _ [13, 14, 3, 4, 5, 7, 8, 48, 49] (by decide +kernel) (by decide +kernel)
set_option maxRecDepth 20000 in
theorem gX4_setHand_X2_inHand : GoodIn wsX4_setHand (wsV RX4 82 RX2 yX2_inHand wsX2_inHand) := goodIn_app (goodIn_of _ (by decide +kernel)) ggX4_setHand_X2_inHand
set_option maxRecDepth 20000 in
theorem ggX4_setHand_X4_recordChange : GoodIn wsX4_setHand wsX4_recordChange := goodIn_r _ [18, 1, 19, 20, 21, 22, 23, 12, 24, 14, 25, 26, 27, 28, 29, 30, 31, 32, 33, 34, 35, 36, 41, 42, 43, 44, 45, 46, 47, 48, 49, 50, 51] (by decide +kernel) (by decide +kernel)
set_option maxRecDepth 20000 in
theorem gX4_setHand_X4_recordChange : GoodIn wsX4_setHand (wsV RX4 58 RX4 yX4_recordChange wsX4_recordChange) := goodIn_app (goodIn_of _ (by decide +kernel)) ggX4_setHand_X4_recordChange
set_option maxRecDepth 20000 in
theorem ggX4_setHand_X2_setInHand : GoodIn wsX4_setHand wsX2_setInHand := goodIn_r _ [40, 14, 3, 4, 5, 7, 8, 48, 49] (by decide +kernel) (by decide +kernel)
set_option maxRecDepth 20000 in
theorem gX4_setHand_X2_setInHand : GoodIn wsX4_setHand (wsV RX4 121 RX2 yX2_setInHand wsX2_setInHand) := goodIn_app (goodIn_of _ (by decide +kernel)) ggX4_setHand_X2_setInHand
theorem dX4_setHand_0 : decode cX4_setHand 0 = .ok (.iload_n 1, 1) := by decide +kernel
theorem dX4_setHand_1 : decode cX4_setHand 1 = .ok (.invokestatic 118, 3) := by decide +kernel
theorem dX4_setHand_4 : decode cX4_setHand 4 = .ok (.ifCond .eq 10, 3) := by decide +kernel
theorem dX4_setHand_7 : decode cX4_setHand 7 = .ok (.iload_n 2, 1) := by decide +kernel
theorem dX4_setHand_8 : decode cX4_setHand 8 = .ok (.invokestatic 68, 3) := by decide +kernel
theorem dX4_setHand_11 : decode cX4_setHand 11 = .ok (.ifCond .ne 7, 3) := by decide +kernel
theorem dX4_setHand_14 : decode cX4_setHand 14 = .ok (.sipush (-1001), 3) := by decide +kernel
theorem dX4_setHand_17 : decode cX4_setHand 17 = .ok (.ireturn, 1) := by decide +kernel
theorem dX4_setHand_18 : decode cX4_setHand 18 = .ok (.iload_n 3, 1) := by decide +kernel
theorem dX4_setHand_19 : decode cX4_setHand 19 = .ok (.ifCond .lt 8, 3) := by decide +kernel
theorem dX4_setHand_22 : decode cX4_setHand 22 = .ok (.iload_n 3, 1) := by decide +kernel
theorem dX4_setHand_23 : decode cX4_setHand 23 = .ok (.iconst 4, 1) := by decide +kernel
theorem dX4_setHand_24 : decode cX4_setHand 24 = .ok (.if_icmp .le 7, 3) := by decide +kernel
theorem dX4_setHand_27 : decode cX4_setHand 27 = .ok (.sipush (-1002), 3) := by decide +kernel
theorem dX4_setHand_30 : decode cX4_setHand 30 = .ok (.ireturn, 1) := by decide +kernel
theorem dX4_setHand_31 : decode cX4_setHand 31 = .ok (.aload_n 0, 1) := by decide +kernel
theorem dX4_setHand_32 : decode cX4_setHand 32 = .ok (.getfield 12, 3) := by decide +kernel
theorem dX4_setHand_35 : decode cX4_setHand 35 = .ok (.iload_n 1, 1) := by decide +kernel
theorem dX4_setHand_36 : decode cX4_setHand 36 = .ok (.iload_n 2, 1) := by decide +kernel
theorem dX4_setHand_37 : decode cX4_setHand 37 = .ok (.invokevirtual 82, 3) := by decide +kernel
theorem dX4_setHand_40 : decode cX4_setHand 40 = .ok (.istore 4, 2) := by decide +kernel
theorem dX4_setHand_42 : decode cX4_setHand 42 = .ok (.iload 4, 2) := by decide +kernel
theorem dX4_setHand_44 : decode cX4_setHand 44 = .ok (.iload_n 3, 1) := by decide +kernel
theorem dX4_setHand_45 : decode cX4_setHand 45 = .ok (.if_icmp .ne 7, 3) := by decide +kernel
theorem dX4_setHand_48 : decode cX4_setHand 48 = .ok (.sipush (-1005), 3) := by decide +kernel
theorem dX4_setHand_51 : decode cX4_setHand 51 = .ok (.ireturn, 1) := by decide +kernel
theorem dX4_setHand_52 : decode cX4_setHand 52 = .ok (.aload_n 0, 1) := by decide +kernel
theorem dX4_setHand_53 : decode cX4_setHand 53 = .ok (.invokevirtual 58, 3) := by decide +kernel
theorem dX4_setHand_56 : decode cX4_setHand 56 = .ok (.aload_n 0, 1) := by decide +kernel
theorem dX4_setHand_57 : decode cX4_setHand 57 = .ok (.getfield 12, 3) := by decide +kernel
theorem dX4_setHand_60 : decode cX4_setHand 60 = .ok (.iload_n 1, 1) := by decide +kernel
theorem dX4_setHand_61 : decode cX4_setHand 61 = .ok (.iload_n 2, 1) := by decide +kernel
theorem dX4_setHand_62 : decode cX4_setHand 62 = .ok (.iload_n 3, 1) := by decide +kernel
theorem dX4_setHand_63 : decode cX4_setHand 63 = .ok (.invokevirtual 121, 3) := by decide +kernel
theorem dX4_setHand_66 : decode cX4_setHand 66 = .ok (.iload 4, 2) := by decide +kernel
theorem dX4_setHand_68 : decode cX4_setHand 68 = .ok (.ireturn, 1) := by decide +kernel
set_option maxRecDepth 20000 in
theorem ggX4_setSide_X4_isSide : GoodIn wsX4_setSide wsX4_isSide := goodIn_r _ [6] (by decide +kernel) (by decide +kernel)
set_option maxRecDepth 20000 in
theorem gX4_setSide_X4_isSide : GoodIn wsX4_setSide (va_wsS RX4 118 yX4_isSide wsX4_isSide) := goodIn_app (goodIn_of _ (by decide +kernel)) ggX4_setSide_X4_isSide
set_option maxRecDepth 20000 in
theorem ggX4_setSide_X2_sideToPlay : GoodIn wsX4_setSide wsX2_sideToPlay := goodIn_r _ [11, 12, 172, 173] (by decide +kernel) (by decide +kernel)
set_option maxRecDepth 20000 in
theorem gX4_setSide_X2_sideToPlay : GoodIn wsX4_setSide (wsV RX4 75 RX2 yX2_sideToPlay wsX2_sideToPlay) := goodIn_app (goodIn_of _ (by decide +kernel)) ggX4_setSide_X2_sideToPlay
set_option maxRecDepth 20000 in
theorem ggX4_setSide_X4_recordChange : GoodIn wsX4_setSide wsX4_recordChange := goodIn_r _ [16, 1, 17, 18, 19, 20, 21, 10, 22, 12, 23, 24, 25, 26, 27, 28, 29, 30, 31, 32, 33, 34, 165, 166, 167, 168, 169, 170, 171, 172, 173, 174, 175] (by decide +kernel) (by decide +kernel)
set_option maxRecDepth 20000 in
theorem gX4_setSide_X4_recordChange : GoodIn wsX4_setSide (wsV RX4 58 RX4 yX4_recordChange wsX4_recordChange) := goodIn_app (goodIn_of _ (by decide +kernel)) ggX4_setSide_X4_recordChange
set_option maxRecDepth 20000 in
theorem ggX4_setSide_X2_setSideToPlay : GoodIn wsX4_setSide wsX2_setSideToPlay := goodIn_r _ [38, 12, 172, 173] (by decide +kernel) (by decide +kernel)
set_option maxRecDepth 20000 in
theorem gX4_setSide_X2_setSideToPlay : GoodIn wsX4_setSide (wsV RX4 131 RX2 yX2_setSideToPlay wsX2_setSideToPlay) := goodIn_app (goodIn_of _ (by decide +kernel)) ggX4_setSide_X2_setSideToPlay
set_option maxRecDepth 20000 in
theorem ggX4_setSide_X3_findPlays : GoodIn wsX4_setSide wsX3_findPlays := goodIn_r _ [43, 44, 45, 46, 47, 48, 8, 9, 10, 11, 12, 49, 50, 51, 52, 53, 5, 54, 55, 56, 57, 42, 58, 59, 60, 61, 62, 63, 64, 65, 66, 67, 68, 69, 70, 71, 72, 73, 74, 75, 76, 77, 78, 79, 80, 81, 82, 83, 84, 4, 6, 85, 86, 87, 88, 89, 90, 91, 92, 93, 94, 95, 96, 97, 98, 99, 100, 101, 102, 103, 104, 105, 106, 107, 108, 109, 110, 111, 112, 113, 114, 115, 116, 117, 118, 119, 120, 121, 122, 123, 124, 125, 126, 127, 128, 129, 130, 131, 132, 133, 134, 135, 136, 137, 138, 139, 140, 141, 142, 36, 37, 38, 143, 144, 145, 146, 147, 148, 149, 150, 151, 152, 153, 154, 155, 156, 157, 158, 159, 160, 161, 162, 163, 164, 176, 177, 178, 179, 180, 181, 172, 173] (by decide +kernel) (by decide +kernel)
set_option maxRecDepth 20000 in
theorem gX4_setSide_X3_findPlays : GoodIn wsX4_setSide (wsV RX4 135 RX3 yX3_findPlays wsX3_findPlays) := goodIn_app (goodIn_of _ (by decide +kernel)) ggX4_setSide_X3_findPlays
theorem dX4_setSide_0 : decode cX4_setSide 0 = .ok (.iload_n 1, 1) := by decide +kernel
theorem dX4_setSide_1 : decode cX4_setSide 1 = .ok (.invokestatic 118, 3) := by decide +kernel
theorem dX4_setSide_4 : decode cX4_setSide 4 = .ok (.ifCond .ne 7, 3) := by decide +kernel
theorem dX4_setSide_7 : decode cX4_setSide 7 = .ok (.sipush (-1001), 3) := by decide +kernel
theorem dX4_setSide_10 : decode cX4_setSide 10 = .ok (.ireturn, 1) := by decide +kernel
theorem dX4_setSide_11 : decode cX4_setSide 11 = .ok (.aload_n 0, 1) := by decide +kernel
theorem dX4_setSide_12 : decode cX4_setSide 12 = .ok (.getfield 12, 3) := by decide +kernel
theorem dX4_setSide_15 : decode cX4_setSide 15 = .ok (.invokevirtual 75, 3) := by decide +kernel
theorem dX4_setSide_18 : decode cX4_setSide 18 = .ok (.iload_n 1, 1) := by decide +kernel
theorem dX4_setSide_19 : decode cX4_setSide 19 = .ok (.if_icmp .ne 7, 3) := by decide +kernel
theorem dX4_setSide_22 : decode cX4_setSide 22 = .ok (.sipush (-1005), 3) := by decide +kernel
theorem dX4_setSide_25 : decode cX4_setSide 25 = .ok (.ireturn, 1) := by decide +kernel
theorem dX4_setSide_26 : decode cX4_setSide 26 = .ok (.aload_n 0, 1) := by decide +kernel
theorem dX4_setSide_27 : decode cX4_setSide 27 = .ok (.invokevirtual 58, 3) := by decide +kernel
theorem dX4_setSide_30 : decode cX4_setSide 30 = .ok (.aload_n 0, 1) := by decide +kernel
theorem dX4_setSide_31 : decode cX4_setSide 31 = .ok (.getfield 12, 3) := by decide +kernel
theorem dX4_setSide_34 : decode cX4_setSide 34 = .ok (.iload_n 1, 1) := by decide +kernel
theorem dX4_setSide_35 : decode cX4_setSide 35 = .ok (.invokevirtual 131, 3) := by decide +kernel
theorem dX4_setSide_38 : decode cX4_setSide 38 = .ok (.aload_n 0, 1) := by decide +kernel
theorem dX4_setSide_39 : decode cX4_setSide 39 = .ok (.getfield 21, 3) := by decide +kernel
theorem dX4_setSide_42 : decode cX4_setSide 42 = .ok (.invokevirtual 135, 3) := by decide +kernel
theorem dX4_setSide_45 : decode cX4_setSide 45 = .ok (.ireturn, 1) := by decide +kernel
set_option maxRecDepth 20000 in
theorem ggX4_undo_X0_size : GoodIn wsX4_undo wsX0_size := goodIn_r _ [7, 8, 31, 32] (by decide +kernel) (by decide +kernel)
set_option maxRecDepth 20000 in
theorem gX4_undo_X0_size : GoodIn wsX4_undo (wsV RX4 171 RX0 yX0_size wsX0_size) := goodIn_app (goodIn_of _ (by decide +kernel)) ggX4_undo_X0_size
set_option maxRecDepth 20000 in
theorem ggX4_undo_X0_popInto : GoodIn wsX4_undo wsX0_popInto := goodIn_r _ [12, 8, 13, 14, 15, 16, 17, 18, 19, 20, 21, 22, 23, 31, 32, 33, 34] (by decide +kernel) (by decide +kernel)
set_option maxRecDepth 20000 in
theorem gX4_undo_X0_popInto : GoodIn wsX4_undo (wsV RX4 172 RX0 yX0_popInto wsX0_popInto) := goodIn_app (goodIn_of _ (by decide +kernel)) ggX4_undo_X0_popInto
theorem dX4_undo_0 : decode cX4_undo 0 = .ok (.aload_n 0, 1) := by decide +kernel
theorem dX4_undo_1 : decode cX4_undo 1 = .ok (.getfield 28, 3) := by decide +kernel
theorem dX4_undo_4 : decode cX4_undo 4 = .ok (.invokevirtual 171, 3) := by decide +kernel
theorem dX4_undo_7 : decode cX4_undo 7 = .ok (.ifCond .ne 7, 3) := by decide +kernel
theorem dX4_undo_10 : decode cX4_undo 10 = .ok (.sipush (-1005), 3) := by decide +kernel
theorem dX4_undo_13 : decode cX4_undo 13 = .ok (.ireturn, 1) := by decide +kernel
theorem dX4_undo_14 : decode cX4_undo 14 = .ok (.aload_n 0, 1) := by decide +kernel
theorem dX4_undo_15 : decode cX4_undo 15 = .ok (.getfield 28, 3) := by decide +kernel
theorem dX4_undo_18 : decode cX4_undo 18 = .ok (.aload_n 0, 1) := by decide +kernel
theorem dX4_undo_19 : decode cX4_undo 19 = .ok (.getfield 12, 3) := by decide +kernel
theorem dX4_undo_22 : decode cX4_undo 22 = .ok (.invokevirtual 172, 3) := by decide +kernel
theorem dX4_undo_25 : decode cX4_undo 25 = .ok (.aload_n 0, 1) := by decide +kernel
theorem dX4_undo_26 : decode cX4_undo 26 = .ok (.getfield 28, 3) := by decide +kernel
theorem dX4_undo_29 : decode cX4_undo 29 = .ok (.invokevirtual 171, 3) := by decide +kernel
theorem dX4_undo_32 : decode cX4_undo 32 = .ok (.ireturn, 1) := by decide +kernel
set_option maxRecDepth 20000 in
theorem ggX4_restore_X4_recordChange : GoodIn wsX4_restore wsX4_recordChange := goodIn_r _ [8, 2, 9, 10, 11, 12, 13, 14, 15, 16, 17, 18, 19, 20, 21, 22, 23, 24, 25, 26, 27, 28, 37, 38, 39, 40, 41, 42, 43, 44, 45, 46, 47] (by decide +kernel) (by decide +kernel)
set_option maxRecDepth 20000 in
theorem gX4_restore_X4_recordChange : GoodIn wsX4_restore (wsV RX4 58 RX4 yX4_recordChange wsX4_recordChange) := goodIn_app (goodIn_of _ (by decide +kernel)) ggX4_restore_X4_recordChange
set_option maxRecDepth 20000 in
theorem ggX4_restore_X2_copyFrom : GoodIn wsX4_restore wsX2_copyFrom := goodIn_r _ [32, 16, 17, 18, 19, 20, 44, 45] (by decide +kernel) (by decide +kernel)
set_option maxRecDepth 20000 in
theorem gX4_restore_X2_copyFrom : GoodIn wsX4_restore (wsV RX4 164 RX2 yX2_copyFrom wsX2_copyFrom) := goodIn_app (goodIn_of _ (by decide +kernel)) ggX4_restore_X2_copyFrom
set_option maxRecDepth 20000 in
theorem ggX4_restore_X2_menOnBoard : GoodIn wsX4_restore wsX2_menOnBoard := goodIn_r _ [36, 16, 44, 45] (by decide +kernel) (by decide +kernel)
set_option maxRecDepth 20000 in
theorem gX4_restore_X2_menOnBoard : GoodIn wsX4_restore (wsV RX4 115 RX2 yX2_menOnBoard wsX2_menOnBoard) := goodIn_app (goodIn_of _ (by decide +kernel)) ggX4_restore_X2_menOnBoard
theorem dX4_restore_0 : decode cX4_restore 0 = .ok (.aload_n 0, 1) := by decide +kernel
theorem dX4_restore_1 : decode cX4_restore 1 = .ok (.getfield 46, 3) := by decide +kernel
theorem dX4_restore_4 : decode cX4_restore 4 = .ok (.ifCond .ne 7, 3) := by decide +kernel
theorem dX4_restore_7 : decode cX4_restore 7 = .ok (.sipush (-1005), 3) := by decide +kernel
theorem dX4_restore_10 : decode cX4_restore 10 = .ok (.ireturn, 1) := by decide +kernel
theorem dX4_restore_11 : decode cX4_restore 11 = .ok (.aload_n 0, 1) := by decide +kernel
theorem dX4_restore_12 : decode cX4_restore 12 = .ok (.invokevirtual 58, 3) := by decide +kernel
theorem dX4_restore_15 : decode cX4_restore 15 = .ok (.aload_n 0, 1) := by decide +kernel
theorem dX4_restore_16 : decode cX4_restore 16 = .ok (.getfield 12, 3) := by decide +kernel
theorem dX4_restore_19 : decode cX4_restore 19 = .ok (.aload_n 0, 1) := by decide +kernel
theorem dX4_restore_20 : decode cX4_restore 20 = .ok (.getfield 43, 3) := by decide +kernel
theorem dX4_restore_23 : decode cX4_restore 23 = .ok (.iconst 0, 1) := by decide +kernel
theorem dX4_restore_24 : decode cX4_restore 24 = .ok (.invokevirtual 164, 3) := by decide +kernel
theorem dX4_restore_27 : decode cX4_restore 27 = .ok (.aload_n 0, 1) := by decide +kernel
theorem dX4_restore_28 : decode cX4_restore 28 = .ok (.getfield 12, 3) := by decide +kernel
theorem dX4_restore_31 : decode cX4_restore 31 = .ok (.invokevirtual 115, 3) := by decide +kernel
theorem dX4_restore_34 : decode cX4_restore 34 = .ok (.ireturn, 1) := by decide +kernel
set_option maxRecDepth 20000 in
theorem ggX4_man_X4_isSquare : GoodIn wsX4_man wsX4_isSquare := goodIn_r _ [5] (by decide +kernel) (by decide +kernel)
set_option maxRecDepth 20000 in
theorem gX4_man_X4_isSquare : GoodIn wsX4_man (va_wsS RX4 50 yX4_isSquare wsX4_isSquare) := goodIn_app (goodIn_of _ (by decide +kernel)) ggX4_man_X4_isSquare
set_option maxRecDepth 20000 in
theorem ggX4_man_X2_manOn : GoodIn wsX4_man wsX2_manOn := goodIn_r _ [10, 11, 19, 20] (by decide +kernel) (by decide +kernel)
set_option maxRecDepth 20000 in
theorem gX4_man_X2_manOn : GoodIn wsX4_man (wsV RX4 108 RX2 yX2_manOn wsX2_manOn) := goodIn_app (goodIn_of _ (by decide +kernel)) ggX4_man_X2_manOn
theorem dX4_man_0 : decode cX4_man 0 = .ok (.iload_n 1, 1) := by decide +kernel
theorem dX4_man_1 : decode cX4_man 1 = .ok (.invokestatic 50, 3) := by decide +kernel
theorem dX4_man_4 : decode cX4_man 4 = .ok (.ifCond .ne 7, 3) := by decide +kernel
theorem dX4_man_7 : decode cX4_man 7 = .ok (.sipush (-1001), 3) := by decide +kernel
theorem dX4_man_10 : decode cX4_man 10 = .ok (.ireturn, 1) := by decide +kernel
theorem dX4_man_11 : decode cX4_man 11 = .ok (.aload_n 0, 1) := by decide +kernel
theorem dX4_man_12 : decode cX4_man 12 = .ok (.getfield 12, 3) := by decide +kernel
theorem dX4_man_15 : decode cX4_man 15 = .ok (.iload_n 1, 1) := by decide +kernel
theorem dX4_man_16 : decode cX4_man 16 = .ok (.invokevirtual 108, 3) := by decide +kernel
theorem dX4_man_19 : decode cX4_man 19 = .ok (.istore_n 2, 1) := by decide +kernel
theorem dX4_man_20 : decode cX4_man 20 = .ok (.iload_n 2, 1) := by decide +kernel
theorem dX4_man_21 : decode cX4_man 21 = .ok (.bipush 99, 2) := by decide +kernel
theorem dX4_man_23 : decode cX4_man 23 = .ok (.if_icmp .ne 9, 3) := by decide +kernel
theorem dX4_man_26 : decode cX4_man 26 = .ok (.sipush (-1005), 3) := by decide +kernel
theorem dX4_man_29 : decode cX4_man 29 = .ok (.goto 4, 3) := by decide +kernel
theorem dX4_man_32 : decode cX4_man 32 = .ok (.iload_n 2, 1) := by decide +kernel
theorem dX4_man_33 : decode cX4_man 33 = .ok (.ireturn, 1) := by decide +kernel
set_option maxRecDepth 20000 in
theorem ggX4_hand_X4_isSide : GoodIn wsX4_hand wsX4_isSide := goodIn_r _ [5] (by decide +kernel) (by decide +kernel)
set_option maxRecDepth 20000 in
theorem gX4_hand_X4_isSide : GoodIn wsX4_hand (va_wsS RX4 118 yX4_isSide wsX4_isSide) := goodIn_app (goodIn_of _ (by decide +kernel)) ggX4_hand_X4_isSide
set_option maxRecDepth 20000 in
theorem ggX4_hand_X4_isHandKind : GoodIn wsX4_hand wsX4_isHandKind := goodIn_r _ [8] (by decide +kernel) (by decide +kernel)
set_option maxRecDepth 20000 in
theorem gX4_hand_X4_isHandKind : GoodIn wsX4_hand (va_wsS RX4 68 yX4_isHandKind wsX4_isHandKind) := goodIn_app (goodIn_of _ (by decide +kernel)) ggX4_hand_X4_isHandKind
set_option maxRecDepth 20000 in
theorem ggX4_hand_X2_inHand : GoodIn wsX4_hand wsX2_inHand := goodIn_r _ [13, 14, 3, 4, 5, 7, 8, 22, 23] (by decide +kernel) (by decide +kernel)
set_option maxRecDepth 20000 in
theorem gX4_hand_X2_inHand : GoodIn wsX4_hand (wsV RX4 82 RX2 yX2_inHand wsX2_inHand) := goodIn_app (goodIn_of _ (by decide +kernel)) ggX4_hand_X2_inHand
theorem dX4_hand_0 : decode cX4_hand 0 = .ok (.iload_n 1, 1) := by decide +kernel
theorem dX4_hand_1 : decode cX4_hand 1 = .ok (.invokestatic 118, 3) := by decide +kernel
theorem dX4_hand_4 : decode cX4_hand 4 = .ok (.ifCond .eq 10, 3) := by decide +kernel
theorem dX4_hand_7 : decode cX4_hand 7 = .ok (.iload_n 2, 1) := by decide +kernel
theorem dX4_hand_8 : decode cX4_hand 8 = .ok (.invokestatic 68, 3) := by decide +kernel
theorem dX4_hand_11 : decode cX4_hand 11 = .ok (.ifCond .ne 7, 3) := by decide +kernel
theorem dX4_hand_14 : decode cX4_hand 14 = .ok (.sipush (-1001), 3) := by decide +kernel
theorem dX4_hand_17 : decode cX4_hand 17 = .ok (.ireturn, 1) := by decide +kernel
theorem dX4_hand_18 : decode cX4_hand 18 = .ok (.aload_n 0, 1) := by decide +kernel
theorem dX4_hand_19 : decode cX4_hand 19 = .ok (.getfield 12, 3) := by decide +kernel
theorem dX4_hand_22 : decode cX4_hand 22 = .ok (.iload_n 1, 1) := by decide +kernel
theorem dX4_hand_23 : decode cX4_hand 23 = .ok (.iload_n 2, 1) := by decide +kernel
theorem dX4_hand_24 : decode cX4_hand 24 = .ok (.invokevirtual 82, 3) := by decide +kernel
theorem dX4_hand_27 : decode cX4_hand 27 = .ok (.ireturn, 1) := by decide +kernel
set_option maxRecDepth 20000 in
theorem ggX4_attackers_X4_isSide : GoodIn wsX4_attackers wsX4_isSide := goodIn_r _ [5] (by decide +kernel) (by decide +kernel)
set_option maxRecDepth 20000 in
theorem gX4_attackers_X4_isSide : GoodIn wsX4_attackers (va_wsS RX4 118 yX4_isSide wsX4_isSide) := goodIn_app (goodIn_of _ (by decide +kernel)) ggX4_attackers_X4_isSide
set_option maxRecDepth 20000 in
theorem ggX4_attackers_X4_isSquare : GoodIn wsX4_attackers wsX4_isSquare := goodIn_r _ [8] (by decide +kernel) (by decide +kernel)
set_option maxRecDepth 20000 in
theorem gX4_attackers_X4_isSquare : GoodIn wsX4_attackers (va_wsS RX4 50 yX4_isSquare wsX4_isSquare) := goodIn_app (goodIn_of _ (by decide +kernel)) ggX4_attackers_X4_isSquare
set_option maxRecDepth 20000 in
theorem ggX4_attackers_X2_countAttackers : GoodIn wsX4_attackers wsX2_countAttackers := goodIn_r _ [13, 14, 15, 23, 24] (by decide +kernel) (by decide +kernel)
set_option maxRecDepth 20000 in
theorem gX4_attackers_X2_countAttackers : GoodIn wsX4_attackers (wsV RX4 175 RX2 yX2_countAttackers wsX2_countAttackers) := goodIn_app (goodIn_of _ (by decide +kernel)) ggX4_attackers_X2_countAttackers
theorem dX4_attackers_0 : decode cX4_attackers 0 = .ok (.iload_n 1, 1) := by decide +kernel
theorem dX4_attackers_1 : decode cX4_attackers 1 = .ok (.invokestatic 118, 3) := by decide +kernel
theorem dX4_attackers_4 : decode cX4_attackers 4 = .ok (.ifCond .eq 10, 3) := by decide +kernel
theorem dX4_attackers_7 : decode cX4_attackers 7 = .ok (.iload_n 2, 1) := by decide +kernel
theorem dX4_attackers_8 : decode cX4_attackers 8 = .ok (.invokestatic 50, 3) := by decide +kernel
theorem dX4_attackers_11 : decode cX4_attackers 11 = .ok (.ifCond .ne 7, 3) := by decide +kernel
theorem dX4_attackers_14 : decode cX4_attackers 14 = .ok (.sipush (-1001), 3) := by decide +kernel
theorem dX4_attackers_17 : decode cX4_attackers 17 = .ok (.ireturn, 1) := by decide +kernel
theorem dX4_attackers_18 : decode cX4_attackers 18 = .ok (.aload_n 0, 1) := by decide +kernel
theorem dX4_attackers_19 : decode cX4_attackers 19 = .ok (.getfield 12, 3) := by decide +kernel
theorem dX4_attackers_22 : decode cX4_attackers 22 = .ok (.iload_n 1, 1) := by decide +kernel
theorem dX4_attackers_23 : decode cX4_attackers 23 = .ok (.iload_n 2, 1) := by decide +kernel
theorem dX4_attackers_24 : decode cX4_attackers 24 = .ok (.invokevirtual 175, 3) := by decide +kernel
theorem dX4_attackers_27 : decode cX4_attackers 27 = .ok (.ireturn, 1) := by decide +kernel
set_option maxRecDepth 20000 in
theorem ggX4_attacked_X4_isSquare : GoodIn wsX4_attacked wsX4_isSquare := goodIn_r _ [5] (by decide +kernel) (by decide +kernel)
set_option maxRecDepth 20000 in
theorem gX4_attacked_X4_isSquare : GoodIn wsX4_attacked (va_wsS RX4 50 yX4_isSquare wsX4_isSquare) := goodIn_app (goodIn_of _ (by decide +kernel)) ggX4_attacked_X4_isSquare
set_option maxRecDepth 20000 in
theorem ggX4_attacked_X2_manOn : GoodIn wsX4_attacked wsX2_manOn := goodIn_r _ [10, 11, 25, 26] (by decide +kernel) (by decide +kernel)
set_option maxRecDepth 20000 in
theorem gX4_attacked_X2_manOn : GoodIn wsX4_attacked (wsV RX4 108 RX2 yX2_manOn wsX2_manOn) := goodIn_app (goodIn_of _ (by decide +kernel)) ggX4_attacked_X2_manOn
set_option maxRecDepth 20000 in
theorem ggX4_attacked_X2_attackedFrom : GoodIn wsX4_attacked wsX2_attackedFrom := goodIn_r _ [15, 16, 11, 17, 7, 8, 9, 10, 25, 26] (by decide +kernel) (by decide +kernel)
set_option maxRecDepth 20000 in
theorem gX4_attacked_X2_attackedFrom : GoodIn wsX4_attacked (wsV RX4 178 RX2 yX2_attackedFrom wsX2_attackedFrom) := goodIn_app (goodIn_of _ (by decide +kernel)) ggX4_attacked_X2_attackedFrom
theorem dX4_attacked_0 : decode cX4_attacked 0 = .ok (.iload_n 1, 1) := by decide +kernel
theorem dX4_attacked_1 : decode cX4_attacked 1 = .ok (.invokestatic 50, 3) := by decide +kernel
theorem dX4_attacked_4 : decode cX4_attacked 4 = .ok (.ifCond .ne 7, 3) := by decide +kernel
theorem dX4_attacked_7 : decode cX4_attacked 7 = .ok (.sipush (-1001), 3) := by decide +kernel
theorem dX4_attacked_10 : decode cX4_attacked 10 = .ok (.ireturn, 1) := by decide +kernel
theorem dX4_attacked_11 : decode cX4_attacked 11 = .ok (.aload_n 0, 1) := by decide +kernel
theorem dX4_attacked_12 : decode cX4_attacked 12 = .ok (.getfield 12, 3) := by decide +kernel
theorem dX4_attacked_15 : decode cX4_attacked 15 = .ok (.iload_n 1, 1) := by decide +kernel
theorem dX4_attacked_16 : decode cX4_attacked 16 = .ok (.invokevirtual 108, 3) := by decide +kernel
theorem dX4_attacked_19 : decode cX4_attacked 19 = .ok (.bipush 99, 2) := by decide +kernel
theorem dX4_attacked_21 : decode cX4_attacked 21 = .ok (.if_icmp .ne 9, 3) := by decide +kernel
theorem dX4_attacked_24 : decode cX4_attacked 24 = .ok (.sipush (-1005), 3) := by decide +kernel
theorem dX4_attacked_27 : decode cX4_attacked 27 = .ok (.goto 11, 3) := by decide +kernel
theorem dX4_attacked_30 : decode cX4_attacked 30 = .ok (.aload_n 0, 1) := by decide +kernel
theorem dX4_attacked_31 : decode cX4_attacked 31 = .ok (.getfield 12, 3) := by decide +kernel
theorem dX4_attacked_34 : decode cX4_attacked 34 = .ok (.iload_n 1, 1) := by decide +kernel
theorem dX4_attacked_35 : decode cX4_attacked 35 = .ok (.invokevirtual 178, 3) := by decide +kernel
theorem dX4_attacked_38 : decode cX4_attacked 38 = .ok (.ireturn, 1) := by decide +kernel
set_option maxRecDepth 20000 in
theorem ggX4_total_X2_sideToPlay : GoodIn wsX4_total wsX2_sideToPlay := goodIn_r _ [9, 10, 195, 196] (by decide +kernel) (by decide +kernel)
set_option maxRecDepth 20000 in
theorem gX4_total_X2_sideToPlay : GoodIn wsX4_total (wsV RX4 75 RX2 yX2_sideToPlay wsX2_sideToPlay) := goodIn_app (goodIn_of _ (by decide +kernel)) ggX4_total_X2_sideToPlay
set_option maxRecDepth 20000 in
theorem ggX4_total_X2_menOnBoard : GoodIn wsX4_total wsX2_menOnBoard := goodIn_r _ [14, 10, 195, 196] (by decide +kernel) (by decide +kernel)
set_option maxRecDepth 20000 in
theorem gX4_total_X2_menOnBoard : GoodIn wsX4_total (wsV RX4 115 RX2 yX2_menOnBoard wsX2_menOnBoard) := goodIn_app (goodIn_of _ (by decide +kernel)) ggX4_total_X2_menOnBoard
set_option maxRecDepth 20000 in
theorem ggX4_total_X2_menInHand : GoodIn wsX4_total wsX2_menInHand := goodIn_r _ [18, 19, 20, 21, 8, 22, 10, 23, 24, 25, 26, 27, 195, 196] (by decide +kernel) (by decide +kernel)
set_option maxRecDepth 20000 in
theorem gX4_total_X2_menInHand : GoodIn wsX4_total (wsV RX4 125 RX2 yX2_menInHand wsX2_menInHand) := goodIn_app (goodIn_of _ (by decide +kernel)) ggX4_total_X2_menInHand
set_option maxRecDepth 20000 in
theorem ggX4_total_X3_isInCheck : GoodIn wsX4_total wsX3_isInCheck := goodIn_r _ [32, 33, 34, 6, 7, 8, 9, 10, 35, 36, 37, 38, 23, 24, 25, 39, 40, 41, 42, 43, 197, 198, 199, 200, 201, 202, 195, 196] (by decide +kernel) (by decide +kernel)
set_option maxRecDepth 20000 in
theorem gX4_total_X3_isInCheck : GoodIn wsX4_total (wsV RX4 88 RX3 yX3_isInCheck wsX3_isInCheck) := goodIn_app (goodIn_of _ (by decide +kernel)) ggX4_total_X3_isInCheck
set_option maxRecDepth 20000 in
theorem ggX4_total_X4_asNumber : GoodIn wsX4_total wsX4_asNumber := goodIn_r _ [46] (by decide +kernel) (by decide +kernel)
set_option maxRecDepth 20000 in
theorem gX4_total_X4_asNumber : GoodIn wsX4_total (va_wsS RX4 92 yX4_asNumber wsX4_asNumber) := goodIn_app (goodIn_of _ (by decide +kernel)) ggX4_total_X4_asNumber
set_option maxRecDepth 20000 in
theorem ggX4_total_X3_isMated : GoodIn wsX4_total wsX3_isMated := goodIn_r _ [50, 51, 29, 30, 31, 32, 33, 34, 6, 7, 8, 9, 10, 35, 36, 37, 38, 23, 24, 25, 39, 40, 41, 42, 43, 52, 53, 54, 55, 56, 57, 58, 59, 60, 61, 62, 63, 64, 65, 66, 67, 68, 69, 70, 71, 72, 73, 74, 75, 76, 77, 78, 79, 80, 81, 82, 83, 84, 85, 86, 87, 88, 89, 90, 91, 92, 93, 94, 95, 96, 97, 98, 99, 100, 101, 102, 103, 104, 105, 106, 107, 108, 109, 110, 111, 112, 113, 114, 115, 116, 117, 118, 119, 120, 121, 20, 21, 22, 26, 27, 122, 123, 124, 125, 126, 127, 128, 129, 130, 131, 132, 133, 134, 135, 136, 137, 138, 139, 140, 141, 19, 142, 143, 144, 145, 146, 147, 148, 149, 150, 151, 152, 153, 154, 155, 156, 157, 158, 197, 198, 199, 200, 201, 202, 195, 196] (by decide +kernel) (by decide +kernel)
set_option maxRecDepth 20000 in
theorem gX4_total_X3_isMated : GoodIn wsX4_total (wsV RX4 181 RX3 yX3_isMated wsX3_isMated) := goodIn_app (goodIn_of _ (by decide +kernel)) ggX4_total_X3_isMated
set_option maxRecDepth 20000 in
theorem ggX4_total_X3_findPlays : GoodIn wsX4_total wsX3_findPlays := goodIn_r _ [55, 33, 56, 57, 58, 34, 6, 7, 8, 9, 10, 59, 60, 61, 62, 63, 24, 64, 65, 66, 67, 31, 68, 69, 70, 71, 72, 43, 73, 74, 75, 76, 77, 78, 79, 80, 81, 82, 83, 84, 85, 86, 87, 88, 89, 35, 36, 37, 38, 23, 25, 39, 40, 41, 42, 90, 91, 92, 93, 94, 95, 96, 97, 98, 99, 100, 101, 102, 103, 104, 105, 106, 107, 108, 109, 110, 111, 112, 113, 114, 115, 116, 117, 118, 119, 120, 121, 20, 21, 22, 26, 27, 122, 123, 124, 125, 126, 127, 128, 129, 130, 131, 132, 133, 134, 135, 136, 137, 138, 139, 140, 141, 19, 142, 143, 144, 145, 146, 147, 148, 149, 150, 51, 29, 30, 32, 151, 152, 153, 154, 155, 156, 157, 158, 197, 198, 199, 200, 201, 202, 195, 196] (by decide +kernel) (by decide +kernel)
set_option maxRecDepth 20000 in
theorem gX4_total_X3_findPlays : GoodIn wsX4_total (wsV RX4 135 RX3 yX3_findPlays wsX3_findPlays) := goodIn_app (goodIn_of _ (by decide +kernel)) ggX4_total_X3_findPlays
set_option maxRecDepth 20000 in
theorem ggX4_total_X2_playsMade : GoodIn wsX4_total wsX2_playsMade := goodIn_r _ [163, 10, 195, 196] (by decide +kernel) (by decide +kernel)
set_option maxRecDepth 20000 in
theorem gX4_total_X2_playsMade : GoodIn wsX4_total (wsV RX4 184 RX2 yX2_playsMade wsX2_playsMade) := goodIn_app (goodIn_of _ (by decide +kernel)) ggX4_total_X2_playsMade
set_option maxRecDepth 20000 in
theorem ggX4_total_X2_menTaken : GoodIn wsX4_total wsX2_menTaken := goodIn_r _ [167, 10, 195, 196] (by decide +kernel) (by decide +kernel)
set_option maxRecDepth 20000 in
theorem gX4_total_X2_menTaken : GoodIn wsX4_total (wsV RX4 187 RX2 yX2_menTaken wsX2_menTaken) := goodIn_app (goodIn_of _ (by decide +kernel)) ggX4_total_X2_menTaken
set_option maxRecDepth 20000 in
theorem ggX4_total_X2_menPromoted : GoodIn wsX4_total wsX2_menPromoted := goodIn_r _ [171, 10, 195, 196] (by decide +kernel) (by decide +kernel)
set_option maxRecDepth 20000 in
theorem gX4_total_X2_menPromoted : GoodIn wsX4_total (wsV RX4 190 RX2 yX2_menPromoted wsX2_menPromoted) := goodIn_app (goodIn_of _ (by decide +kernel)) ggX4_total_X2_menPromoted
set_option maxRecDepth 20000 in
theorem ggX4_total_X2_menDropped : GoodIn wsX4_total wsX2_menDropped := goodIn_r _ [175, 10, 195, 196] (by decide +kernel) (by decide +kernel)
set_option maxRecDepth 20000 in
theorem gX4_total_X2_menDropped : GoodIn wsX4_total (wsV RX4 193 RX2 yX2_menDropped wsX2_menDropped) := goodIn_app (goodIn_of _ (by decide +kernel)) ggX4_total_X2_menDropped
set_option maxRecDepth 20000 in
theorem ggX4_total_X0_size : GoodIn wsX4_total wsX0_size := goodIn_r _ [180, 181, 203, 204] (by decide +kernel) (by decide +kernel)
set_option maxRecDepth 20000 in
theorem gX4_total_X0_size : GoodIn wsX4_total (wsV RX4 171 RX0 yX0_size wsX0_size) := goodIn_app (goodIn_of _ (by decide +kernel)) ggX4_total_X0_size
set_option maxRecDepth 20000 in
theorem ggX4_total_X1_size : GoodIn wsX4_total wsX1_size := goodIn_r _ [186, 187, 205, 206, 207, 208, 209] (by decide +kernel) (by decide +kernel)
set_option maxRecDepth 20000 in
theorem gX4_total_X1_size : GoodIn wsX4_total (wsV RX4 145 RX1 yX1_size wsX1_size) := goodIn_app (goodIn_of _ (by decide +kernel)) ggX4_total_X1_size
theorem dX4_total_0 : decode cX4_total 0 = .ok (.iload_n 1, 1) := by decide +kernel
theorem dX4_total_1 : decode cX4_total 1 = .ok (.tableswitch 202 0 13 #[71, 79, 87, 96, 105, 116, 127, 146, 154, 162, 170, 178, 186, 194], 71) := by decide +kernel
theorem dX4_total_72 : decode cX4_total 72 = .ok (.aload_n 0, 1) := by decide +kernel
theorem dX4_total_73 : decode cX4_total 73 = .ok (.getfield 12, 3) := by decide +kernel
theorem dX4_total_76 : decode cX4_total 76 = .ok (.invokevirtual 75, 3) := by decide +kernel
theorem dX4_total_79 : decode cX4_total 79 = .ok (.ireturn, 1) := by decide +kernel
theorem dX4_total_80 : decode cX4_total 80 = .ok (.aload_n 0, 1) := by decide +kernel
theorem dX4_total_81 : decode cX4_total 81 = .ok (.getfield 12, 3) := by decide +kernel
theorem dX4_total_84 : decode cX4_total 84 = .ok (.invokevirtual 115, 3) := by decide +kernel
theorem dX4_total_87 : decode cX4_total 87 = .ok (.ireturn, 1) := by decide +kernel
theorem dX4_total_88 : decode cX4_total 88 = .ok (.aload_n 0, 1) := by decide +kernel
theorem dX4_total_89 : decode cX4_total 89 = .ok (.getfield 12, 3) := by decide +kernel
theorem dX4_total_92 : decode cX4_total 92 = .ok (.iconst 0, 1) := by decide +kernel
theorem dX4_total_93 : decode cX4_total 93 = .ok (.invokevirtual 125, 3) := by decide +kernel
theorem dX4_total_96 : decode cX4_total 96 = .ok (.ireturn, 1) := by decide +kernel
theorem dX4_total_97 : decode cX4_total 97 = .ok (.aload_n 0, 1) := by decide +kernel
theorem dX4_total_98 : decode cX4_total 98 = .ok (.getfield 12, 3) := by decide +kernel
theorem dX4_total_101 : decode cX4_total 101 = .ok (.iconst 1, 1) := by decide +kernel
theorem dX4_total_102 : decode cX4_total 102 = .ok (.invokevirtual 125, 3) := by decide +kernel
theorem dX4_total_105 : decode cX4_total 105 = .ok (.ireturn, 1) := by decide +kernel
theorem dX4_total_106 : decode cX4_total 106 = .ok (.aload_n 0, 1) := by decide +kernel
theorem dX4_total_107 : decode cX4_total 107 = .ok (.getfield 21, 3) := by decide +kernel
theorem dX4_total_110 : decode cX4_total 110 = .ok (.invokevirtual 88, 3) := by decide +kernel
theorem dX4_total_113 : decode cX4_total 113 = .ok (.invokestatic 92, 3) := by decide +kernel
theorem dX4_total_116 : decode cX4_total 116 = .ok (.ireturn, 1) := by decide +kernel
theorem dX4_total_117 : decode cX4_total 117 = .ok (.aload_n 0, 1) := by decide +kernel
theorem dX4_total_118 : decode cX4_total 118 = .ok (.getfield 21, 3) := by decide +kernel
theorem dX4_total_121 : decode cX4_total 121 = .ok (.invokevirtual 181, 3) := by decide +kernel
theorem dX4_total_124 : decode cX4_total 124 = .ok (.invokestatic 92, 3) := by decide +kernel
theorem dX4_total_127 : decode cX4_total 127 = .ok (.ireturn, 1) := by decide +kernel
theorem dX4_total_128 : decode cX4_total 128 = .ok (.aload_n 0, 1) := by decide +kernel
theorem dX4_total_129 : decode cX4_total 129 = .ok (.getfield 21, 3) := by decide +kernel
theorem dX4_total_132 : decode cX4_total 132 = .ok (.invokevirtual 135, 3) := by decide +kernel
theorem dX4_total_135 : decode cX4_total 135 = .ok (.ifCond .ne 7, 3) := by decide +kernel
theorem dX4_total_138 : decode cX4_total 138 = .ok (.iconst 1, 1) := by decide +kernel
theorem dX4_total_139 : decode cX4_total 139 = .ok (.goto 4, 3) := by decide +kernel
theorem dX4_total_142 : decode cX4_total 142 = .ok (.iconst 0, 1) := by decide +kernel
theorem dX4_total_143 : decode cX4_total 143 = .ok (.invokestatic 92, 3) := by decide +kernel
theorem dX4_total_146 : decode cX4_total 146 = .ok (.ireturn, 1) := by decide +kernel
theorem dX4_total_147 : decode cX4_total 147 = .ok (.aload_n 0, 1) := by decide +kernel
theorem dX4_total_148 : decode cX4_total 148 = .ok (.getfield 21, 3) := by decide +kernel
theorem dX4_total_151 : decode cX4_total 151 = .ok (.invokevirtual 135, 3) := by decide +kernel
theorem dX4_total_154 : decode cX4_total 154 = .ok (.ireturn, 1) := by decide +kernel
theorem dX4_total_155 : decode cX4_total 155 = .ok (.aload_n 0, 1) := by decide +kernel
theorem dX4_total_156 : decode cX4_total 156 = .ok (.getfield 12, 3) := by decide +kernel
theorem dX4_total_159 : decode cX4_total 159 = .ok (.invokevirtual 184, 3) := by decide +kernel
theorem dX4_total_162 : decode cX4_total 162 = .ok (.ireturn, 1) := by decide +kernel
theorem dX4_total_163 : decode cX4_total 163 = .ok (.aload_n 0, 1) := by decide +kernel
theorem dX4_total_164 : decode cX4_total 164 = .ok (.getfield 12, 3) := by decide +kernel
theorem dX4_total_167 : decode cX4_total 167 = .ok (.invokevirtual 187, 3) := by decide +kernel
theorem dX4_total_170 : decode cX4_total 170 = .ok (.ireturn, 1) := by decide +kernel
theorem dX4_total_171 : decode cX4_total 171 = .ok (.aload_n 0, 1) := by decide +kernel
theorem dX4_total_172 : decode cX4_total 172 = .ok (.getfield 12, 3) := by decide +kernel
theorem dX4_total_175 : decode cX4_total 175 = .ok (.invokevirtual 190, 3) := by decide +kernel
theorem dX4_total_178 : decode cX4_total 178 = .ok (.ireturn, 1) := by decide +kernel
theorem dX4_total_179 : decode cX4_total 179 = .ok (.aload_n 0, 1) := by decide +kernel
theorem dX4_total_180 : decode cX4_total 180 = .ok (.getfield 12, 3) := by decide +kernel
theorem dX4_total_183 : decode cX4_total 183 = .ok (.invokevirtual 193, 3) := by decide +kernel
theorem dX4_total_186 : decode cX4_total 186 = .ok (.ireturn, 1) := by decide +kernel
theorem dX4_total_187 : decode cX4_total 187 = .ok (.aload_n 0, 1) := by decide +kernel
theorem dX4_total_188 : decode cX4_total 188 = .ok (.getfield 28, 3) := by decide +kernel
theorem dX4_total_191 : decode cX4_total 191 = .ok (.invokevirtual 171, 3) := by decide +kernel
theorem dX4_total_194 : decode cX4_total 194 = .ok (.ireturn, 1) := by decide +kernel
theorem dX4_total_195 : decode cX4_total 195 = .ok (.aload_n 0, 1) := by decide +kernel
theorem dX4_total_196 : decode cX4_total 196 = .ok (.getfield 35, 3) := by decide +kernel
theorem dX4_total_199 : decode cX4_total 199 = .ok (.invokevirtual 145, 3) := by decide +kernel
theorem dX4_total_202 : decode cX4_total 202 = .ok (.ireturn, 1) := by decide +kernel
theorem dX4_total_203 : decode cX4_total 203 = .ok (.sipush (-1002), 3) := by decide +kernel
theorem dX4_total_206 : decode cX4_total 206 = .ok (.ireturn, 1) := by decide +kernel
set_option maxRecDepth 20000 in
theorem ggX4_worth_X4_isSide : GoodIn wsX4_worth wsX4_isSide := goodIn_r _ [5] (by decide +kernel) (by decide +kernel)
set_option maxRecDepth 20000 in
theorem gX4_worth_X4_isSide : GoodIn wsX4_worth (va_wsS RX4 118 yX4_isSide wsX4_isSide) := goodIn_app (goodIn_of _ (by decide +kernel)) ggX4_worth_X4_isSide
set_option maxRecDepth 20000 in
theorem ggX4_worth_X2_worthFor : GoodIn wsX4_worth wsX2_worthFor := goodIn_r _ [10, 11, 12, 4, 13, 14, 15, 16, 17, 18, 9, 19, 3, 5, 20, 21, 29, 30] (by decide +kernel) (by decide +kernel)
set_option maxRecDepth 20000 in
theorem gX4_worth_X2_worthFor : GoodIn wsX4_worth (wsV RX4 196 RX2 yX2_worthFor wsX2_worthFor) := goodIn_app (goodIn_of _ (by decide +kernel)) ggX4_worth_X2_worthFor
theorem dX4_worth_0 : decode cX4_worth 0 = .ok (.iload_n 1, 1) := by decide +kernel
theorem dX4_worth_1 : decode cX4_worth 1 = .ok (.invokestatic 118, 3) := by decide +kernel
theorem dX4_worth_4 : decode cX4_worth 4 = .ok (.ifCond .ne 7, 3) := by decide +kernel
theorem dX4_worth_7 : decode cX4_worth 7 = .ok (.sipush (-1001), 3) := by decide +kernel
theorem dX4_worth_10 : decode cX4_worth 10 = .ok (.ireturn, 1) := by decide +kernel
theorem dX4_worth_11 : decode cX4_worth 11 = .ok (.aload_n 0, 1) := by decide +kernel
theorem dX4_worth_12 : decode cX4_worth 12 = .ok (.getfield 12, 3) := by decide +kernel
theorem dX4_worth_15 : decode cX4_worth 15 = .ok (.iload_n 1, 1) := by decide +kernel
theorem dX4_worth_16 : decode cX4_worth 16 = .ok (.invokevirtual 196, 3) := by decide +kernel
theorem dX4_worth_19 : decode cX4_worth 19 = .ok (.ireturn, 1) := by decide +kernel
set_option maxRecDepth 20000 in
theorem ggX4_dropReason_X4_isHandKind : GoodIn wsX4_dropReason wsX4_isHandKind := goodIn_r _ [5] (by decide +kernel) (by decide +kernel)
set_option maxRecDepth 20000 in
theorem gX4_dropReason_X4_isHandKind : GoodIn wsX4_dropReason (va_wsS RX4 68 yX4_isHandKind wsX4_isHandKind) := goodIn_app (goodIn_of _ (by decide +kernel)) ggX4_dropReason_X4_isHandKind
set_option maxRecDepth 20000 in
theorem ggX4_dropReason_X4_isSquare : GoodIn wsX4_dropReason wsX4_isSquare := goodIn_r _ [8] (by decide +kernel) (by decide +kernel)
set_option maxRecDepth 20000 in
theorem gX4_dropReason_X4_isSquare : GoodIn wsX4_dropReason (va_wsS RX4 50 yX4_isSquare wsX4_isSquare) := goodIn_app (goodIn_of _ (by decide +kernel)) ggX4_dropReason_X4_isSquare
set_option maxRecDepth 20000 in
theorem ggX4_dropReason_X3_whyNoDrop : GoodIn wsX4_dropReason wsX3_whyNoDrop := goodIn_r _ [13, 14, 15, 16, 17, 18, 19, 20, 21, 22, 23, 24, 25, 4, 26, 3, 5, 27, 28, 29, 30, 31, 32, 33, 34, 35, 36, 37, 38, 12, 39, 40, 41, 42, 43, 44, 45, 46, 47, 48, 49, 50, 51, 52, 53, 54, 55, 56, 57, 58, 59, 7, 8, 60, 61, 62, 63, 64, 65, 66, 67, 68, 69, 70, 71, 72, 73, 74, 75, 76, 77, 78, 79, 80, 81, 82, 83, 84, 85, 86, 87, 88, 89, 90, 91, 92, 93, 94, 95, 96, 97, 98, 99, 100, 101, 102, 103, 104, 105, 106, 107, 108, 109, 110, 111, 112, 113, 114, 115, 116, 117, 118, 119, 120, 121, 129, 130, 131, 132, 133, 134, 135, 136] (by decide +kernel) (by decide +kernel)
set_option maxRecDepth 20000 in
theorem gX4_dropReason_X3_whyNoDrop : GoodIn wsX4_dropReason (wsV RX4 71 RX3 yX3_whyNoDrop wsX3_whyNoDrop) := goodIn_app (goodIn_of _ (by decide +kernel)) ggX4_dropReason_X3_whyNoDrop
theorem dX4_dropReason_0 : decode cX4_dropReason 0 = .ok (.iload_n 1, 1) := by decide +kernel
theorem dX4_dropReason_1 : decode cX4_dropReason 1 = .ok (.invokestatic 68, 3) := by decide +kernel
theorem dX4_dropReason_4 : decode cX4_dropReason 4 = .ok (.ifCond .eq 10, 3) := by decide +kernel
theorem dX4_dropReason_7 : decode cX4_dropReason 7 = .ok (.iload_n 2, 1) := by decide +kernel
theorem dX4_dropReason_8 : decode cX4_dropReason 8 = .ok (.invokestatic 50, 3) := by decide +kernel
theorem dX4_dropReason_11 : decode cX4_dropReason 11 = .ok (.ifCond .ne 7, 3) := by decide +kernel
theorem dX4_dropReason_14 : decode cX4_dropReason 14 = .ok (.sipush (-1001), 3) := by decide +kernel
theorem dX4_dropReason_17 : decode cX4_dropReason 17 = .ok (.ireturn, 1) := by decide +kernel
theorem dX4_dropReason_18 : decode cX4_dropReason 18 = .ok (.aload_n 0, 1) := by decide +kernel
theorem dX4_dropReason_19 : decode cX4_dropReason 19 = .ok (.getfield 21, 3) := by decide +kernel
theorem dX4_dropReason_22 : decode cX4_dropReason 22 = .ok (.iload_n 1, 1) := by decide +kernel
theorem dX4_dropReason_23 : decode cX4_dropReason 23 = .ok (.iload_n 2, 1) := by decide +kernel
theorem dX4_dropReason_24 : decode cX4_dropReason 24 = .ok (.invokevirtual 71, 3) := by decide +kernel
theorem dX4_dropReason_27 : decode cX4_dropReason 27 = .ok (.ireturn, 1) := by decide +kernel
set_option maxRecDepth 20000 in
theorem ggX4_playAt_X3_findPlays : GoodIn wsX4_playAt wsX3_findPlays := goodIn_r _ [6, 7, 8, 9, 10, 11, 12, 13, 14, 15, 16, 17, 18, 19, 20, 21, 22, 23, 24, 25, 26, 5, 27, 28, 29, 30, 31, 32, 33, 34, 35, 36, 37, 38, 39, 40, 41, 42, 43, 44, 45, 46, 47, 48, 49, 50, 51, 52, 53, 54, 55, 56, 57, 58, 59, 60, 61, 62, 63, 64, 65, 66, 67, 68, 69, 70, 71, 72, 73, 74, 75, 76, 77, 78, 79, 80, 81, 82, 83, 84, 85, 86, 87, 88, 89, 90, 91, 92, 93, 94, 95, 96, 97, 98, 99, 100, 101, 102, 103, 104, 105, 106, 107, 108, 109, 110, 111, 112, 113, 114, 115, 116, 117, 118, 119, 120, 121, 122, 123, 124, 125, 126, 127, 128, 129, 130, 131, 132, 133, 134, 135, 136, 137, 138, 162, 163, 164, 165, 166, 167, 168, 169] (by decide +kernel) (by decide +kernel)
set_option maxRecDepth 20000 in
theorem gX4_playAt_X3_findPlays : GoodIn wsX4_playAt (wsV RX4 135 RX3 yX3_findPlays wsX3_findPlays) := goodIn_app (goodIn_of _ (by decide +kernel)) ggX4_playAt_X3_findPlays
set_option maxRecDepth 20000 in
theorem ggX4_playAt_X3_listPlays : GoodIn wsX4_playAt wsX3_listPlays := goodIn_r _ [142, 143, 8, 9, 10, 144, 22, 145, 146, 147, 148, 5, 149, 150, 34, 35, 106, 107, 162, 163, 164, 165, 166, 167] (by decide +kernel) (by decide +kernel)
set_option maxRecDepth 20000 in
theorem gX4_playAt_X3_listPlays : GoodIn wsX4_playAt (wsV RX4 199 RX3 yX3_listPlays wsX3_listPlays) := goodIn_app (goodIn_of _ (by decide +kernel)) ggX4_playAt_X3_listPlays
set_option maxRecDepth 20000 in
theorem ggX4_playAt_X3_listed : GoodIn wsX4_playAt wsX3_listed := goodIn_r _ [154, 143, 150, 162, 163, 164, 165, 166, 167] (by decide +kernel) (by decide +kernel)
set_option maxRecDepth 20000 in
theorem gX4_playAt_X3_listed : GoodIn wsX4_playAt (wsV RX4 202 RX3 yX3_listed wsX3_listed) := goodIn_app (goodIn_of _ (by decide +kernel)) ggX4_playAt_X3_listed
theorem dX4_playAt_0 : decode cX4_playAt 0 = .ok (.iload_n 1, 1) := by decide +kernel
theorem dX4_playAt_1 : decode cX4_playAt 1 = .ok (.ifCond .ge 7, 3) := by decide +kernel
theorem dX4_playAt_4 : decode cX4_playAt 4 = .ok (.sipush (-1002), 3) := by decide +kernel
theorem dX4_playAt_7 : decode cX4_playAt 7 = .ok (.ireturn, 1) := by decide +kernel
theorem dX4_playAt_8 : decode cX4_playAt 8 = .ok (.aload_n 0, 1) := by decide +kernel
theorem dX4_playAt_9 : decode cX4_playAt 9 = .ok (.getfield 21, 3) := by decide +kernel
theorem dX4_playAt_12 : decode cX4_playAt 12 = .ok (.invokevirtual 135, 3) := by decide +kernel
theorem dX4_playAt_15 : decode cX4_playAt 15 = .ok (.pop, 1) := by decide +kernel
theorem dX4_playAt_16 : decode cX4_playAt 16 = .ok (.iload_n 1, 1) := by decide +kernel
theorem dX4_playAt_17 : decode cX4_playAt 17 = .ok (.aload_n 0, 1) := by decide +kernel
theorem dX4_playAt_18 : decode cX4_playAt 18 = .ok (.getfield 21, 3) := by decide +kernel
theorem dX4_playAt_21 : decode cX4_playAt 21 = .ok (.invokevirtual 199, 3) := by decide +kernel
theorem dX4_playAt_24 : decode cX4_playAt 24 = .ok (.if_icmp .ge 14, 3) := by decide +kernel
theorem dX4_playAt_27 : decode cX4_playAt 27 = .ok (.aload_n 0, 1) := by decide +kernel
theorem dX4_playAt_28 : decode cX4_playAt 28 = .ok (.getfield 21, 3) := by decide +kernel
theorem dX4_playAt_31 : decode cX4_playAt 31 = .ok (.iload_n 1, 1) := by decide +kernel
theorem dX4_playAt_32 : decode cX4_playAt 32 = .ok (.invokevirtual 202, 3) := by decide +kernel
theorem dX4_playAt_35 : decode cX4_playAt 35 = .ok (.goto 6, 3) := by decide +kernel
theorem dX4_playAt_38 : decode cX4_playAt 38 = .ok (.sipush (-1005), 3) := by decide +kernel
theorem dX4_playAt_41 : decode cX4_playAt 41 = .ok (.ireturn, 1) := by decide +kernel
set_option maxRecDepth 20000 in
theorem ggX4_drops_X4_isHandKind : GoodIn wsX4_drops wsX4_isHandKind := goodIn_r _ [5] (by decide +kernel) (by decide +kernel)
set_option maxRecDepth 20000 in
theorem gX4_drops_X4_isHandKind : GoodIn wsX4_drops (va_wsS RX4 68 yX4_isHandKind wsX4_isHandKind) := goodIn_app (goodIn_of _ (by decide +kernel)) ggX4_drops_X4_isHandKind
set_option maxRecDepth 20000 in
theorem ggX4_drops_X3_findPlays : GoodIn wsX4_drops wsX3_findPlays := goodIn_r _ [10, 11, 12, 13, 14, 15, 16, 17, 18, 19, 20, 21, 22, 23, 24, 25, 4, 26, 27, 28, 29, 9, 30, 31, 32, 33, 34, 35, 36, 37, 38, 39, 40, 41, 42, 43, 44, 45, 46, 47, 48, 49, 50, 51, 52, 53, 54, 55, 56, 57, 58, 59, 60, 61, 62, 63, 64, 65, 66, 67, 68, 69, 70, 71, 72, 73, 74, 75, 76, 77, 78, 79, 80, 81, 82, 83, 84, 85, 86, 87, 88, 89, 90, 91, 92, 93, 94, 95, 96, 97, 3, 5, 98, 99, 100, 101, 102, 103, 104, 105, 106, 107, 108, 109, 110, 111, 112, 113, 114, 115, 116, 117, 118, 119, 120, 121, 122, 123, 124, 125, 126, 127, 128, 129, 130, 131, 132, 133, 134, 135, 136, 137, 138, 139, 151, 152, 153, 154, 155, 156, 157, 158] (by decide +kernel) (by decide +kernel)
set_option maxRecDepth 20000 in
theorem gX4_drops_X3_findPlays : GoodIn wsX4_drops (wsV RX4 135 RX3 yX3_findPlays wsX3_findPlays) := goodIn_app (goodIn_of _ (by decide +kernel)) ggX4_drops_X3_findPlays
set_option maxRecDepth 20000 in
theorem ggX4_drops_X3_dropSquares : GoodIn wsX4_drops wsX3_dropSquares := goodIn_r _ [143, 14, 151, 152, 153, 154, 155, 156] (by decide +kernel) (by decide +kernel)
set_option maxRecDepth 20000 in
theorem gX4_drops_X3_dropSquares : GoodIn wsX4_drops (wsV RX4 205 RX3 yX3_dropSquares wsX3_dropSquares) := goodIn_app (goodIn_of _ (by decide +kernel)) ggX4_drops_X3_dropSquares
theorem dX4_drops_0 : decode cX4_drops 0 = .ok (.iload_n 1, 1) := by decide +kernel
theorem dX4_drops_1 : decode cX4_drops 1 = .ok (.invokestatic 68, 3) := by decide +kernel
theorem dX4_drops_4 : decode cX4_drops 4 = .ok (.ifCond .ne 7, 3) := by decide +kernel
theorem dX4_drops_7 : decode cX4_drops 7 = .ok (.sipush (-1001), 3) := by decide +kernel
theorem dX4_drops_10 : decode cX4_drops 10 = .ok (.ireturn, 1) := by decide +kernel
theorem dX4_drops_11 : decode cX4_drops 11 = .ok (.aload_n 0, 1) := by decide +kernel
theorem dX4_drops_12 : decode cX4_drops 12 = .ok (.getfield 21, 3) := by decide +kernel
theorem dX4_drops_15 : decode cX4_drops 15 = .ok (.invokevirtual 135, 3) := by decide +kernel
theorem dX4_drops_18 : decode cX4_drops 18 = .ok (.pop, 1) := by decide +kernel
theorem dX4_drops_19 : decode cX4_drops 19 = .ok (.aload_n 0, 1) := by decide +kernel
theorem dX4_drops_20 : decode cX4_drops 20 = .ok (.getfield 21, 3) := by decide +kernel
theorem dX4_drops_23 : decode cX4_drops 23 = .ok (.iload_n 1, 1) := by decide +kernel
theorem dX4_drops_24 : decode cX4_drops 24 = .ok (.invokevirtual 205, 3) := by decide +kernel
theorem dX4_drops_27 : decode cX4_drops 27 = .ok (.ireturn, 1) := by decide +kernel
set_option maxRecDepth 20000 in
theorem ggX4_mate_X3_findPlays : GoodIn wsX4_mate wsX3_findPlays := goodIn_r _ [7, 8, 9, 10, 11, 12, 13, 14, 15, 16, 17, 18, 19, 20, 21, 22, 23, 24, 25, 26, 27, 6, 28, 29, 30, 31, 32, 33, 34, 35, 36, 37, 38, 39, 40, 41, 42, 43, 44, 45, 46, 47, 48, 49, 50, 51, 52, 53, 54, 55, 56, 57, 58, 59, 60, 61, 62, 63, 64, 65, 66, 67, 68, 69, 70, 71, 72, 73, 74, 75, 76, 77, 78, 79, 80, 81, 82, 83, 84, 85, 86, 87, 88, 89, 90, 91, 92, 93, 94, 95, 96, 97, 98, 99, 100, 101, 102, 103, 104, 105, 106, 107, 108, 109, 110, 111, 112, 113, 114, 115, 116, 117, 118, 119, 120, 121, 122, 123, 124, 125, 126, 127, 128, 129, 130, 131, 132, 133, 134, 135, 136, 137, 138, 139, 170, 171, 172, 173, 174, 175, 176, 177] (by decide +kernel) (by decide +kernel)
set_option maxRecDepth 20000 in
theorem gX4_mate_X3_findPlays : GoodIn wsX4_mate (wsV RX4 135 RX3 yX3_findPlays wsX3_findPlays) := goodIn_app (goodIn_of _ (by decide +kernel)) ggX4_mate_X3_findPlays
set_option maxRecDepth 20000 in
theorem ggX4_mate_X3_listPlays : GoodIn wsX4_mate wsX3_listPlays := goodIn_r _ [143, 144, 9, 10, 11, 145, 23, 146, 147, 148, 149, 6, 150, 151, 35, 36, 107, 108, 170, 171, 172, 173, 174, 175] (by decide +kernel) (by decide +kernel)
set_option maxRecDepth 20000 in
theorem gX4_mate_X3_listPlays : GoodIn wsX4_mate (wsV RX4 199 RX3 yX3_listPlays wsX3_listPlays) := goodIn_app (goodIn_of _ (by decide +kernel)) ggX4_mate_X3_listPlays
set_option maxRecDepth 20000 in
theorem ggX4_mate_X3_listed : GoodIn wsX4_mate wsX3_listed := goodIn_r _ [155, 144, 151, 170, 171, 172, 173, 174, 175] (by decide +kernel) (by decide +kernel)
set_option maxRecDepth 20000 in
theorem gX4_mate_X3_listed : GoodIn wsX4_mate (wsV RX4 202 RX3 yX3_listed wsX3_listed) := goodIn_app (goodIn_of _ (by decide +kernel)) ggX4_mate_X3_listed
set_option maxRecDepth 20000 in
theorem ggX4_mate_X2_apply : GoodIn wsX4_mate wsX2_apply := goodIn_r _ [112, 113, 13, 14, 15, 16, 17, 114, 115, 116, 117, 118, 93, 94, 95, 55, 23, 56, 96, 97, 119, 120, 121, 122, 86, 87, 123, 44, 45, 46, 47, 48, 49, 50, 41, 42, 22, 24, 34, 19, 20, 21, 124, 125, 126, 127, 176, 177] (by decide +kernel) (by decide +kernel)
set_option maxRecDepth 20000 in
theorem gX4_mate_X2_apply : GoodIn wsX4_mate (wsV RX4 208 RX2 yX2_apply wsX2_apply) := goodIn_app (goodIn_of _ (by decide +kernel)) ggX4_mate_X2_apply
set_option maxRecDepth 20000 in
theorem ggX4_mate_X3_isMated : GoodIn wsX4_mate wsX3_isMated := goodIn_r _ [160, 128, 129, 130, 6, 131, 8, 12, 13, 14, 15, 16, 17, 51, 52, 53, 54, 55, 23, 56, 57, 58, 59, 60, 33, 161, 4, 5, 7, 9, 10, 11, 18, 19, 20, 21, 22, 24, 25, 26, 27, 28, 29, 30, 31, 32, 34, 35, 36, 37, 38, 39, 40, 41, 42, 43, 44, 45, 46, 47, 48, 49, 50, 61, 62, 63, 64, 65, 66, 67, 68, 69, 70, 71, 72, 73, 74, 75, 76, 77, 78, 79, 80, 81, 82, 83, 84, 85, 86, 87, 88, 89, 90, 91, 92, 93, 94, 95, 96, 97, 98, 99, 100, 101, 102, 103, 104, 105, 106, 107, 108, 109, 110, 111, 112, 113, 114, 115, 116, 117, 118, 119, 120, 121, 122, 123, 124, 125, 126, 127, 132, 133, 134, 135, 136, 137, 138, 139, 170, 171, 172, 173, 174, 175, 176, 177] (by decide +kernel) (by decide +kernel)
set_option maxRecDepth 20000 in
theorem gX4_mate_X3_isMated : GoodIn wsX4_mate (wsV RX4 181 RX3 yX3_isMated wsX3_isMated) := goodIn_app (goodIn_of _ (by decide +kernel)) ggX4_mate_X3_isMated
set_option maxRecDepth 20000 in
theorem ggX4_mate_X2_takeBack : GoodIn wsX4_mate wsX2_takeBack := goodIn_r _ [139, 113, 13, 14, 15, 16, 17, 114, 115, 116, 117, 123, 44, 45, 46, 47, 23, 48, 49, 50, 41, 42, 22, 24, 118, 93, 94, 95, 55, 56, 96, 97, 119, 120, 121, 122, 34, 19, 20, 21, 124, 125, 126, 127, 176, 177] (by decide +kernel) (by decide +kernel)
set_option maxRecDepth 20000 in
theorem gX4_mate_X2_takeBack : GoodIn wsX4_mate (wsV RX4 211 RX2 yX2_takeBack wsX2_takeBack) := goodIn_app (goodIn_of _ (by decide +kernel)) ggX4_mate_X2_takeBack
theorem dX4_mate_0 : decode cX4_mate 0 = .ok (.aload_n 0, 1) := by decide +kernel
theorem dX4_mate_1 : decode cX4_mate 1 = .ok (.getfield 21, 3) := by decide +kernel
theorem dX4_mate_4 : decode cX4_mate 4 = .ok (.invokevirtual 135, 3) := by decide +kernel
theorem dX4_mate_7 : decode cX4_mate 7 = .ok (.pop, 1) := by decide +kernel
theorem dX4_mate_8 : decode cX4_mate 8 = .ok (.aload_n 0, 1) := by decide +kernel
theorem dX4_mate_9 : decode cX4_mate 9 = .ok (.getfield 21, 3) := by decide +kernel
theorem dX4_mate_12 : decode cX4_mate 12 = .ok (.invokevirtual 199, 3) := by decide +kernel
theorem dX4_mate_15 : decode cX4_mate 15 = .ok (.istore_n 1, 1) := by decide +kernel
theorem dX4_mate_16 : decode cX4_mate 16 = .ok (.iconst 0, 1) := by decide +kernel
theorem dX4_mate_17 : decode cX4_mate 17 = .ok (.istore_n 2, 1) := by decide +kernel
theorem dX4_mate_18 : decode cX4_mate 18 = .ok (.iload_n 2, 1) := by decide +kernel
theorem dX4_mate_19 : decode cX4_mate 19 = .ok (.iload_n 1, 1) := by decide +kernel
theorem dX4_mate_20 : decode cX4_mate 20 = .ok (.if_icmp .ge 54, 3) := by decide +kernel
theorem dX4_mate_23 : decode cX4_mate 23 = .ok (.aload_n 0, 1) := by decide +kernel
theorem dX4_mate_24 : decode cX4_mate 24 = .ok (.getfield 21, 3) := by decide +kernel
theorem dX4_mate_27 : decode cX4_mate 27 = .ok (.iload_n 2, 1) := by decide +kernel
theorem dX4_mate_28 : decode cX4_mate 28 = .ok (.invokevirtual 202, 3) := by decide +kernel
theorem dX4_mate_31 : decode cX4_mate 31 = .ok (.istore_n 3, 1) := by decide +kernel
theorem dX4_mate_32 : decode cX4_mate 32 = .ok (.aload_n 0, 1) := by decide +kernel
theorem dX4_mate_33 : decode cX4_mate 33 = .ok (.getfield 12, 3) := by decide +kernel
theorem dX4_mate_36 : decode cX4_mate 36 = .ok (.iload_n 3, 1) := by decide +kernel
theorem dX4_mate_37 : decode cX4_mate 37 = .ok (.invokevirtual 208, 3) := by decide +kernel
theorem dX4_mate_40 : decode cX4_mate 40 = .ok (.istore 4, 2) := by decide +kernel
theorem dX4_mate_42 : decode cX4_mate 42 = .ok (.aload_n 0, 1) := by decide +kernel
theorem dX4_mate_43 : decode cX4_mate 43 = .ok (.getfield 21, 3) := by decide +kernel
theorem dX4_mate_46 : decode cX4_mate 46 = .ok (.invokevirtual 181, 3) := by decide +kernel
theorem dX4_mate_49 : decode cX4_mate 49 = .ok (.istore 5, 2) := by decide +kernel
theorem dX4_mate_51 : decode cX4_mate 51 = .ok (.aload_n 0, 1) := by decide +kernel
theorem dX4_mate_52 : decode cX4_mate 52 = .ok (.getfield 12, 3) := by decide +kernel
theorem dX4_mate_55 : decode cX4_mate 55 = .ok (.iload_n 3, 1) := by decide +kernel
theorem dX4_mate_56 : decode cX4_mate 56 = .ok (.iload 4, 2) := by decide +kernel
theorem dX4_mate_58 : decode cX4_mate 58 = .ok (.invokevirtual 211, 3) := by decide +kernel
theorem dX4_mate_61 : decode cX4_mate 61 = .ok (.iload 5, 2) := by decide +kernel
theorem dX4_mate_63 : decode cX4_mate 63 = .ok (.ifCond .eq 5, 3) := by decide +kernel
theorem dX4_mate_66 : decode cX4_mate 66 = .ok (.iload_n 3, 1) := by decide +kernel
theorem dX4_mate_67 : decode cX4_mate 67 = .ok (.ireturn, 1) := by decide +kernel
theorem dX4_mate_68 : decode cX4_mate 68 = .ok (.iinc 2 1, 3) := by decide +kernel
theorem dX4_mate_71 : decode cX4_mate 71 = .ok (.goto (-53), 3) := by decide +kernel
theorem dX4_mate_74 : decode cX4_mate 74 = .ok (.sipush (-1005), 3) := by decide +kernel
theorem dX4_mate_77 : decode cX4_mate 77 = .ok (.ireturn, 1) := by decide +kernel
set_option maxRecDepth 20000 in
theorem ggX4_tightest_X3_findPlays : GoodIn wsX4_tightest wsX3_findPlays := goodIn_r _ [7, 8, 9, 10, 11, 12, 13, 14, 15, 16, 17, 18, 19, 20, 21, 22, 23, 24, 25, 26, 27, 6, 28, 29, 30, 31, 32, 33, 34, 35, 36, 37, 38, 39, 40, 41, 42, 43, 44, 45, 46, 47, 48, 49, 50, 51, 52, 53, 54, 55, 56, 57, 58, 59, 60, 61, 62, 63, 64, 65, 66, 67, 68, 69, 70, 71, 72, 73, 74, 75, 76, 77, 78, 79, 80, 81, 82, 83, 84, 85, 86, 87, 88, 89, 90, 91, 92, 93, 94, 95, 96, 97, 98, 99, 100, 101, 102, 103, 104, 105, 106, 107, 108, 109, 110, 111, 112, 113, 114, 115, 116, 117, 118, 119, 120, 121, 122, 123, 124, 125, 126, 127, 128, 129, 130, 131, 132, 133, 134, 135, 136, 137, 138, 139, 170, 171, 172, 173, 174, 175, 176, 177] (by decide +kernel) (by decide +kernel)
set_option maxRecDepth 20000 in
theorem gX4_tightest_X3_findPlays : GoodIn wsX4_tightest (wsV RX4 135 RX3 yX3_findPlays wsX3_findPlays) := goodIn_app (goodIn_of _ (by decide +kernel)) ggX4_tightest_X3_findPlays
set_option maxRecDepth 20000 in
theorem ggX4_tightest_X3_listPlays : GoodIn wsX4_tightest wsX3_listPlays := goodIn_r _ [143, 144, 9, 10, 11, 145, 23, 146, 147, 148, 149, 6, 150, 151, 35, 36, 107, 108, 170, 171, 172, 173, 174, 175] (by decide +kernel) (by decide +kernel)
set_option maxRecDepth 20000 in
theorem gX4_tightest_X3_listPlays : GoodIn wsX4_tightest (wsV RX4 199 RX3 yX3_listPlays wsX3_listPlays) := goodIn_app (goodIn_of _ (by decide +kernel)) ggX4_tightest_X3_listPlays
set_option maxRecDepth 20000 in
theorem ggX4_tightest_X2_sideToPlay : GoodIn wsX4_tightest wsX2_sideToPlay := goodIn_r _ [16, 17, 176, 177] (by decide +kernel) (by decide +kernel)
set_option maxRecDepth 20000 in
theorem gX4_tightest_X2_sideToPlay : GoodIn wsX4_tightest (wsV RX4 75 RX2 yX2_sideToPlay wsX2_sideToPlay) := goodIn_app (goodIn_of _ (by decide +kernel)) ggX4_tightest_X2_sideToPlay
set_option maxRecDepth 20000 in
theorem ggX4_tightest_X3_listed : GoodIn wsX4_tightest wsX3_listed := goodIn_r _ [156, 144, 151, 170, 171, 172, 173, 174, 175] (by decide +kernel) (by decide +kernel)
set_option maxRecDepth 20000 in
theorem gX4_tightest_X3_listed : GoodIn wsX4_tightest (wsV RX4 202 RX3 yX3_listed wsX3_listed) := goodIn_app (goodIn_of _ (by decide +kernel)) ggX4_tightest_X3_listed
set_option maxRecDepth 20000 in
theorem ggX4_tightest_X2_apply : GoodIn wsX4_tightest wsX2_apply := goodIn_r _ [112, 113, 13, 14, 15, 16, 17, 114, 115, 116, 117, 118, 93, 94, 95, 55, 23, 56, 96, 97, 119, 120, 121, 122, 86, 87, 123, 44, 45, 46, 47, 48, 49, 50, 41, 42, 22, 24, 34, 19, 20, 21, 124, 125, 126, 127, 176, 177] (by decide +kernel) (by decide +kernel)
set_option maxRecDepth 20000 in
theorem gX4_tightest_X2_apply : GoodIn wsX4_tightest (wsV RX4 208 RX2 yX2_apply wsX2_apply) := goodIn_app (goodIn_of _ (by decide +kernel)) ggX4_tightest_X2_apply
set_option maxRecDepth 20000 in
theorem ggX4_tightest_X2_worthFor : GoodIn wsX4_tightest wsX2_worthFor := goodIn_r _ [161, 17, 41, 23, 42, 22, 24, 118, 93, 94, 15, 95, 55, 56, 96, 97, 176, 177] (by decide +kernel) (by decide +kernel)
set_option maxRecDepth 20000 in
theorem gX4_tightest_X2_worthFor : GoodIn wsX4_tightest (wsV RX4 196 RX2 yX2_worthFor wsX2_worthFor) := goodIn_app (goodIn_of _ (by decide +kernel)) ggX4_tightest_X2_worthFor
set_option maxRecDepth 20000 in
theorem ggX4_tightest_X2_takeBack : GoodIn wsX4_tightest wsX2_takeBack := goodIn_r _ [139, 113, 13, 14, 15, 16, 17, 114, 115, 116, 117, 123, 44, 45, 46, 47, 23, 48, 49, 50, 41, 42, 22, 24, 118, 93, 94, 95, 55, 56, 96, 97, 119, 120, 121, 122, 34, 19, 20, 21, 124, 125, 126, 127, 176, 177] (by decide +kernel) (by decide +kernel)
set_option maxRecDepth 20000 in
theorem gX4_tightest_X2_takeBack : GoodIn wsX4_tightest (wsV RX4 211 RX2 yX2_takeBack wsX2_takeBack) := goodIn_app (goodIn_of _ (by decide +kernel)) ggX4_tightest_X2_takeBack
theorem dX4_tightest_0 : decode cX4_tightest 0 = .ok (.aload_n 0, 1) := by decide +kernel
theorem dX4_tightest_1 : decode cX4_tightest 1 = .ok (.getfield 21, 3) := by decide +kernel
theorem dX4_tightest_4 : decode cX4_tightest 4 = .ok (.invokevirtual 135, 3) := by decide +kernel
theorem dX4_tightest_7 : decode cX4_tightest 7 = .ok (.pop, 1) := by decide +kernel
theorem dX4_tightest_8 : decode cX4_tightest 8 = .ok (.aload_n 0, 1) := by decide +kernel
theorem dX4_tightest_9 : decode cX4_tightest 9 = .ok (.getfield 21, 3) := by decide +kernel
theorem dX4_tightest_12 : decode cX4_tightest 12 = .ok (.invokevirtual 199, 3) := by decide +kernel
theorem dX4_tightest_15 : decode cX4_tightest 15 = .ok (.istore_n 1, 1) := by decide +kernel
theorem dX4_tightest_16 : decode cX4_tightest 16 = .ok (.aload_n 0, 1) := by decide +kernel
theorem dX4_tightest_17 : decode cX4_tightest 17 = .ok (.getfield 12, 3) := by decide +kernel
theorem dX4_tightest_20 : decode cX4_tightest 20 = .ok (.invokevirtual 75, 3) := by decide +kernel
theorem dX4_tightest_23 : decode cX4_tightest 23 = .ok (.istore_n 2, 1) := by decide +kernel
theorem dX4_tightest_24 : decode cX4_tightest 24 = .ok (.sipush (-1005), 3) := by decide +kernel
theorem dX4_tightest_27 : decode cX4_tightest 27 = .ok (.istore_n 3, 1) := by decide +kernel
theorem dX4_tightest_28 : decode cX4_tightest 28 = .ok (.iconst 0, 1) := by decide +kernel
theorem dX4_tightest_29 : decode cX4_tightest 29 = .ok (.istore 4, 2) := by decide +kernel
theorem dX4_tightest_31 : decode cX4_tightest 31 = .ok (.iconst 0, 1) := by decide +kernel
theorem dX4_tightest_32 : decode cX4_tightest 32 = .ok (.istore 5, 2) := by decide +kernel
theorem dX4_tightest_34 : decode cX4_tightest 34 = .ok (.iconst 0, 1) := by decide +kernel
theorem dX4_tightest_35 : decode cX4_tightest 35 = .ok (.istore 6, 2) := by decide +kernel
theorem dX4_tightest_37 : decode cX4_tightest 37 = .ok (.iload 6, 2) := by decide +kernel
theorem dX4_tightest_39 : decode cX4_tightest 39 = .ok (.iload_n 1, 1) := by decide +kernel
theorem dX4_tightest_40 : decode cX4_tightest 40 = .ok (.if_icmp .ge 100, 3) := by decide +kernel
theorem dX4_tightest_43 : decode cX4_tightest 43 = .ok (.aload_n 0, 1) := by decide +kernel
theorem dX4_tightest_44 : decode cX4_tightest 44 = .ok (.getfield 21, 3) := by decide +kernel
theorem dX4_tightest_47 : decode cX4_tightest 47 = .ok (.iload 6, 2) := by decide +kernel
theorem dX4_tightest_49 : decode cX4_tightest 49 = .ok (.invokevirtual 202, 3) := by decide +kernel
theorem dX4_tightest_52 : decode cX4_tightest 52 = .ok (.istore 7, 2) := by decide +kernel
theorem dX4_tightest_54 : decode cX4_tightest 54 = .ok (.aload_n 0, 1) := by decide +kernel
theorem dX4_tightest_55 : decode cX4_tightest 55 = .ok (.getfield 12, 3) := by decide +kernel
theorem dX4_tightest_58 : decode cX4_tightest 58 = .ok (.iload 7, 2) := by decide +kernel
theorem dX4_tightest_60 : decode cX4_tightest 60 = .ok (.invokevirtual 208, 3) := by decide +kernel
theorem dX4_tightest_63 : decode cX4_tightest 63 = .ok (.istore 8, 2) := by decide +kernel
theorem dX4_tightest_65 : decode cX4_tightest 65 = .ok (.aload_n 0, 1) := by decide +kernel
theorem dX4_tightest_66 : decode cX4_tightest 66 = .ok (.getfield 21, 3) := by decide +kernel
theorem dX4_tightest_69 : decode cX4_tightest 69 = .ok (.invokevirtual 135, 3) := by decide +kernel
theorem dX4_tightest_72 : decode cX4_tightest 72 = .ok (.istore 9, 2) := by decide +kernel
theorem dX4_tightest_74 : decode cX4_tightest 74 = .ok (.aload_n 0, 1) := by decide +kernel
theorem dX4_tightest_75 : decode cX4_tightest 75 = .ok (.getfield 12, 3) := by decide +kernel
theorem dX4_tightest_78 : decode cX4_tightest 78 = .ok (.iload_n 2, 1) := by decide +kernel
theorem dX4_tightest_79 : decode cX4_tightest 79 = .ok (.invokevirtual 196, 3) := by decide +kernel
theorem dX4_tightest_82 : decode cX4_tightest 82 = .ok (.istore 10, 2) := by decide +kernel
theorem dX4_tightest_84 : decode cX4_tightest 84 = .ok (.aload_n 0, 1) := by decide +kernel
theorem dX4_tightest_85 : decode cX4_tightest 85 = .ok (.getfield 12, 3) := by decide +kernel
theorem dX4_tightest_88 : decode cX4_tightest 88 = .ok (.iload 7, 2) := by decide +kernel
theorem dX4_tightest_90 : decode cX4_tightest 90 = .ok (.iload 8, 2) := by decide +kernel
theorem dX4_tightest_92 : decode cX4_tightest 92 = .ok (.invokevirtual 211, 3) := by decide +kernel
theorem dX4_tightest_95 : decode cX4_tightest 95 = .ok (.iload_n 3, 1) := by decide +kernel
theorem dX4_tightest_96 : decode cX4_tightest 96 = .ok (.sipush (-1005), 3) := by decide +kernel
theorem dX4_tightest_99 : decode cX4_tightest 99 = .ok (.if_icmp .eq 24, 3) := by decide +kernel
theorem dX4_tightest_102 : decode cX4_tightest 102 = .ok (.iload 9, 2) := by decide +kernel
theorem dX4_tightest_104 : decode cX4_tightest 104 = .ok (.iload 4, 2) := by decide +kernel
theorem dX4_tightest_106 : decode cX4_tightest 106 = .ok (.if_icmp .lt 17, 3) := by decide +kernel
theorem dX4_tightest_109 : decode cX4_tightest 109 = .ok (.iload 9, 2) := by decide +kernel
theorem dX4_tightest_111 : decode cX4_tightest 111 = .ok (.iload 4, 2) := by decide +kernel
theorem dX4_tightest_113 : decode cX4_tightest 113 = .ok (.if_icmp .ne 21, 3) := by decide +kernel
theorem dX4_tightest_116 : decode cX4_tightest 116 = .ok (.iload 10, 2) := by decide +kernel
theorem dX4_tightest_118 : decode cX4_tightest 118 = .ok (.iload 5, 2) := by decide +kernel
theorem dX4_tightest_120 : decode cX4_tightest 120 = .ok (.if_icmp .le 14, 3) := by decide +kernel
theorem dX4_tightest_123 : decode cX4_tightest 123 = .ok (.iload 7, 2) := by decide +kernel
theorem dX4_tightest_125 : decode cX4_tightest 125 = .ok (.istore_n 3, 1) := by decide +kernel
theorem dX4_tightest_126 : decode cX4_tightest 126 = .ok (.iload 9, 2) := by decide +kernel
theorem dX4_tightest_128 : decode cX4_tightest 128 = .ok (.istore 4, 2) := by decide +kernel
theorem dX4_tightest_130 : decode cX4_tightest 130 = .ok (.iload 10, 2) := by decide +kernel
theorem dX4_tightest_132 : decode cX4_tightest 132 = .ok (.istore 5, 2) := by decide +kernel
theorem dX4_tightest_134 : decode cX4_tightest 134 = .ok (.iinc 6 1, 3) := by decide +kernel
theorem dX4_tightest_137 : decode cX4_tightest 137 = .ok (.goto (-100), 3) := by decide +kernel
theorem dX4_tightest_140 : decode cX4_tightest 140 = .ok (.iload_n 3, 1) := by decide +kernel
theorem dX4_tightest_141 : decode cX4_tightest 141 = .ok (.ireturn, 1) := by decide +kernel
set_option maxRecDepth 20000 in
theorem ggX4_recordChange_X2_copyTo : GoodIn wsX4_recordChange wsX2_copyTo := goodIn_r _ [8, 9, 10, 11, 12, 13, 29, 30] (by decide +kernel) (by decide +kernel)
set_option maxRecDepth 20000 in
theorem gX4_recordChange_X2_copyTo : GoodIn wsX4_recordChange (wsV RX4 154 RX2 yX2_copyTo wsX2_copyTo) := goodIn_app (goodIn_of _ (by decide +kernel)) ggX4_recordChange_X2_copyTo
set_option maxRecDepth 20000 in
theorem ggX4_recordChange_X0_push : GoodIn wsX4_recordChange wsX0_push := goodIn_r _ [18, 19, 20, 21, 11, 12, 13, 31, 32] (by decide +kernel) (by decide +kernel)
set_option maxRecDepth 20000 in
theorem gX4_recordChange_X0_push : GoodIn wsX4_recordChange (wsV RX4 167 RX0 yX0_push wsX0_push) := goodIn_app (goodIn_of _ (by decide +kernel)) ggX4_recordChange_X0_push
theorem dX4_recordChange_0 : decode cX4_recordChange 0 = .ok (.aload_n 0, 1) := by decide +kernel
theorem dX4_recordChange_1 : decode cX4_recordChange 1 = .ok (.getfield 12, 3) := by decide +kernel
theorem dX4_recordChange_4 : decode cX4_recordChange 4 = .ok (.aload_n 0, 1) := by decide +kernel
theorem dX4_recordChange_5 : decode cX4_recordChange 5 = .ok (.getfield 39, 3) := by decide +kernel
theorem dX4_recordChange_8 : decode cX4_recordChange 8 = .ok (.iconst 0, 1) := by decide +kernel
theorem dX4_recordChange_9 : decode cX4_recordChange 9 = .ok (.invokevirtual 154, 3) := by decide +kernel
theorem dX4_recordChange_12 : decode cX4_recordChange 12 = .ok (.aload_n 0, 1) := by decide +kernel
theorem dX4_recordChange_13 : decode cX4_recordChange 13 = .ok (.getfield 28, 3) := by decide +kernel
theorem dX4_recordChange_16 : decode cX4_recordChange 16 = .ok (.aload_n 0, 1) := by decide +kernel
theorem dX4_recordChange_17 : decode cX4_recordChange 17 = .ok (.getfield 39, 3) := by decide +kernel
theorem dX4_recordChange_20 : decode cX4_recordChange 20 = .ok (.invokevirtual 167, 3) := by decide +kernel
theorem dX4_recordChange_23 : decode cX4_recordChange 23 = .ok (.return_, 1) := by decide +kernel
theorem dX4_asNumber_0 : decode cX4_asNumber 0 = .ok (.iload_n 0, 1) := by decide +kernel
theorem dX4_asNumber_1 : decode cX4_asNumber 1 = .ok (.ifCond .eq 7, 3) := by decide +kernel
theorem dX4_asNumber_4 : decode cX4_asNumber 4 = .ok (.iconst 1, 1) := by decide +kernel
theorem dX4_asNumber_5 : decode cX4_asNumber 5 = .ok (.goto 4, 3) := by decide +kernel
theorem dX4_asNumber_8 : decode cX4_asNumber 8 = .ok (.iconst 0, 1) := by decide +kernel
theorem dX4_asNumber_9 : decode cX4_asNumber 9 = .ok (.ireturn, 1) := by decide +kernel
theorem dX4_isSquare_0 : decode cX4_isSquare 0 = .ok (.iload_n 0, 1) := by decide +kernel
theorem dX4_isSquare_1 : decode cX4_isSquare 1 = .ok (.ifCond .lt 13, 3) := by decide +kernel
theorem dX4_isSquare_4 : decode cX4_isSquare 4 = .ok (.iload_n 0, 1) := by decide +kernel
theorem dX4_isSquare_5 : decode cX4_isSquare 5 = .ok (.bipush 25, 2) := by decide +kernel
theorem dX4_isSquare_7 : decode cX4_isSquare 7 = .ok (.if_icmp .ge 7, 3) := by decide +kernel
theorem dX4_isSquare_10 : decode cX4_isSquare 10 = .ok (.iconst 1, 1) := by decide +kernel
theorem dX4_isSquare_11 : decode cX4_isSquare 11 = .ok (.goto 4, 3) := by decide +kernel
theorem dX4_isSquare_14 : decode cX4_isSquare 14 = .ok (.iconst 0, 1) := by decide +kernel
theorem dX4_isSquare_15 : decode cX4_isSquare 15 = .ok (.ireturn, 1) := by decide +kernel
theorem dX4_isSide_0 : decode cX4_isSide 0 = .ok (.iload_n 0, 1) := by decide +kernel
theorem dX4_isSide_1 : decode cX4_isSide 1 = .ok (.ifCond .lt 12, 3) := by decide +kernel
theorem dX4_isSide_4 : decode cX4_isSide 4 = .ok (.iload_n 0, 1) := by decide +kernel
theorem dX4_isSide_5 : decode cX4_isSide 5 = .ok (.iconst 2, 1) := by decide +kernel
theorem dX4_isSide_6 : decode cX4_isSide 6 = .ok (.if_icmp .ge 7, 3) := by decide +kernel
theorem dX4_isSide_9 : decode cX4_isSide 9 = .ok (.iconst 1, 1) := by decide +kernel
theorem dX4_isSide_10 : decode cX4_isSide 10 = .ok (.goto 4, 3) := by decide +kernel
theorem dX4_isSide_13 : decode cX4_isSide 13 = .ok (.iconst 0, 1) := by decide +kernel
theorem dX4_isSide_14 : decode cX4_isSide 14 = .ok (.ireturn, 1) := by decide +kernel
theorem dX4_isMan_0 : decode cX4_isMan 0 = .ok (.iload_n 0, 1) := by decide +kernel
theorem dX4_isMan_1 : decode cX4_isMan 1 = .ok (.ifCond .lt 13, 3) := by decide +kernel
theorem dX4_isMan_4 : decode cX4_isMan 4 = .ok (.iload_n 0, 1) := by decide +kernel
theorem dX4_isMan_5 : decode cX4_isMan 5 = .ok (.bipush 20, 2) := by decide +kernel
theorem dX4_isMan_7 : decode cX4_isMan 7 = .ok (.if_icmp .ge 7, 3) := by decide +kernel
theorem dX4_isMan_10 : decode cX4_isMan 10 = .ok (.iconst 1, 1) := by decide +kernel
theorem dX4_isMan_11 : decode cX4_isMan 11 = .ok (.goto 4, 3) := by decide +kernel
theorem dX4_isMan_14 : decode cX4_isMan 14 = .ok (.iconst 0, 1) := by decide +kernel
theorem dX4_isMan_15 : decode cX4_isMan 15 = .ok (.ireturn, 1) := by decide +kernel
theorem dX4_isHandKind_0 : decode cX4_isHandKind 0 = .ok (.iload_n 0, 1) := by decide +kernel
theorem dX4_isHandKind_1 : decode cX4_isHandKind 1 = .ok (.iconst 1, 1) := by decide +kernel
theorem dX4_isHandKind_2 : decode cX4_isHandKind 2 = .ok (.if_icmp .lt 12, 3) := by decide +kernel
theorem dX4_isHandKind_5 : decode cX4_isHandKind 5 = .ok (.iload_n 0, 1) := by decide +kernel
theorem dX4_isHandKind_6 : decode cX4_isHandKind 6 = .ok (.iconst 5, 1) := by decide +kernel
theorem dX4_isHandKind_7 : decode cX4_isHandKind 7 = .ok (.if_icmp .gt 7, 3) := by decide +kernel
theorem dX4_isHandKind_10 : decode cX4_isHandKind 10 = .ok (.iconst 1, 1) := by decide +kernel
theorem dX4_isHandKind_11 : decode cX4_isHandKind 11 = .ok (.goto 4, 3) := by decide +kernel
theorem dX4_isHandKind_14 : decode cX4_isHandKind 14 = .ok (.iconst 0, 1) := by decide +kernel
theorem dX4_isHandKind_15 : decode cX4_isHandKind 15 = .ok (.ireturn, 1) := by decide +kernel
theorem dX4_sideOf_0 : decode cX4_sideOf 0 = .ok (.iload_n 0, 1) := by decide +kernel
theorem dX4_sideOf_1 : decode cX4_sideOf 1 = .ok (.bipush 10, 2) := by decide +kernel
theorem dX4_sideOf_3 : decode cX4_sideOf 3 = .ok (.idiv, 1) := by decide +kernel
theorem dX4_sideOf_4 : decode cX4_sideOf 4 = .ok (.ireturn, 1) := by decide +kernel
theorem dX4_kindOf_0 : decode cX4_kindOf 0 = .ok (.iload_n 0, 1) := by decide +kernel
theorem dX4_kindOf_1 : decode cX4_kindOf 1 = .ok (.bipush 10, 2) := by decide +kernel
theorem dX4_kindOf_3 : decode cX4_kindOf 3 = .ok (.irem, 1) := by decide +kernel
theorem dX4_kindOf_4 : decode cX4_kindOf 4 = .ok (.ireturn, 1) := by decide +kernel
theorem dX4_manOf_0 : decode cX4_manOf 0 = .ok (.iload_n 0, 1) := by decide +kernel
theorem dX4_manOf_1 : decode cX4_manOf 1 = .ok (.bipush 10, 2) := by decide +kernel
theorem dX4_manOf_3 : decode cX4_manOf 3 = .ok (.imul, 1) := by decide +kernel
theorem dX4_manOf_4 : decode cX4_manOf 4 = .ok (.iload_n 1, 1) := by decide +kernel
theorem dX4_manOf_5 : decode cX4_manOf 5 = .ok (.iadd, 1) := by decide +kernel
theorem dX4_manOf_6 : decode cX4_manOf 6 = .ok (.ireturn, 1) := by decide +kernel
theorem dX4_bit_0 : decode cX4_bit 0 = .ok (.iconst 1, 1) := by decide +kernel
theorem dX4_bit_1 : decode cX4_bit 1 = .ok (.iload_n 0, 1) := by decide +kernel
theorem dX4_bit_2 : decode cX4_bit 2 = .ok (.ishl, 1) := by decide +kernel
theorem dX4_bit_3 : decode cX4_bit 3 = .ok (.ireturn, 1) := by decide +kernel
theorem dX4_has_0 : decode cX4_has 0 = .ok (.iload_n 0, 1) := by decide +kernel
theorem dX4_has_1 : decode cX4_has 1 = .ok (.iload_n 1, 1) := by decide +kernel
theorem dX4_has_2 : decode cX4_has 2 = .ok (.ishr, 1) := by decide +kernel
theorem dX4_has_3 : decode cX4_has 3 = .ok (.iconst 1, 1) := by decide +kernel
theorem dX4_has_4 : decode cX4_has 4 = .ok (.iand, 1) := by decide +kernel
theorem dX4_has_5 : decode cX4_has 5 = .ok (.ifCond .eq 7, 3) := by decide +kernel
theorem dX4_has_8 : decode cX4_has 8 = .ok (.iconst 1, 1) := by decide +kernel
theorem dX4_has_9 : decode cX4_has 9 = .ok (.goto 4, 3) := by decide +kernel
theorem dX4_has_12 : decode cX4_has 12 = .ok (.iconst 0, 1) := by decide +kernel
theorem dX4_has_13 : decode cX4_has 13 = .ok (.ireturn, 1) := by decide +kernel
theorem dX4_lastRow_0 : decode cX4_lastRow 0 = .ok (.iload_n 0, 1) := by decide +kernel
theorem dX4_lastRow_1 : decode cX4_lastRow 1 = .ok (.ifCond .ne 8, 3) := by decide +kernel
theorem dX4_lastRow_4 : decode cX4_lastRow 4 = .ok (.bipush 31, 2) := by decide +kernel
theorem dX4_lastRow_6 : decode cX4_lastRow 6 = .ok (.goto 5, 3) := by decide +kernel
theorem dX4_lastRow_9 : decode cX4_lastRow 9 = .ok (.ldc 214, 2) := by decide +kernel
theorem dX4_lastRow_11 : decode cX4_lastRow 11 = .ok (.ireturn, 1) := by decide +kernel
theorem dX4_moveNumber_0 : decode cX4_moveNumber 0 = .ok (.bipush 100, 2) := by decide +kernel
theorem dX4_moveNumber_2 : decode cX4_moveNumber 2 = .ok (.iload_n 0, 1) := by decide +kernel
theorem dX4_moveNumber_3 : decode cX4_moveNumber 3 = .ok (.imul, 1) := by decide +kernel
theorem dX4_moveNumber_4 : decode cX4_moveNumber 4 = .ok (.iload_n 1, 1) := by decide +kernel
theorem dX4_moveNumber_5 : decode cX4_moveNumber 5 = .ok (.iadd, 1) := by decide +kernel
theorem dX4_moveNumber_6 : decode cX4_moveNumber 6 = .ok (.iload_n 2, 1) := by decide +kernel
theorem dX4_moveNumber_7 : decode cX4_moveNumber 7 = .ok (.ifCond .eq 9, 3) := by decide +kernel
theorem dX4_moveNumber_10 : decode cX4_moveNumber 10 = .ok (.sipush 10000, 3) := by decide +kernel
theorem dX4_moveNumber_13 : decode cX4_moveNumber 13 = .ok (.goto 4, 3) := by decide +kernel
theorem dX4_moveNumber_16 : decode cX4_moveNumber 16 = .ok (.iconst 0, 1) := by decide +kernel
theorem dX4_moveNumber_17 : decode cX4_moveNumber 17 = .ok (.iadd, 1) := by decide +kernel
theorem dX4_moveNumber_18 : decode cX4_moveNumber 18 = .ok (.ireturn, 1) := by decide +kernel
theorem dX4_dropNumber_0 : decode cX4_dropNumber 0 = .ok (.sipush 20000, 3) := by decide +kernel
theorem dX4_dropNumber_3 : decode cX4_dropNumber 3 = .ok (.bipush 100, 2) := by decide +kernel
theorem dX4_dropNumber_5 : decode cX4_dropNumber 5 = .ok (.iload_n 0, 1) := by decide +kernel
theorem dX4_dropNumber_6 : decode cX4_dropNumber 6 = .ok (.imul, 1) := by decide +kernel
theorem dX4_dropNumber_7 : decode cX4_dropNumber 7 = .ok (.iadd, 1) := by decide +kernel
theorem dX4_dropNumber_8 : decode cX4_dropNumber 8 = .ok (.iload_n 1, 1) := by decide +kernel
theorem dX4_dropNumber_9 : decode cX4_dropNumber 9 = .ok (.iadd, 1) := by decide +kernel
theorem dX4_dropNumber_10 : decode cX4_dropNumber 10 = .ok (.ireturn, 1) := by decide +kernel
set_option maxRecDepth 20000 in
theorem ggX4_squareBeside_X4_isSquare : GoodIn wsX4_squareBeside wsX4_isSquare := goodIn_r _ [6] (by decide +kernel) (by decide +kernel)
set_option maxRecDepth 20000 in
theorem gX4_squareBeside_X4_isSquare : GoodIn wsX4_squareBeside (va_wsS RX4 50 yX4_isSquare wsX4_isSquare) := goodIn_app (goodIn_of _ (by decide +kernel)) ggX4_squareBeside_X4_isSquare
theorem dX4_squareBeside_0 : decode cX4_squareBeside 0 = .ok (.iload_n 0, 1) := by decide +kernel
theorem dX4_squareBeside_1 : decode cX4_squareBeside 1 = .ok (.invokestatic 50, 3) := by decide +kernel
theorem dX4_squareBeside_4 : decode cX4_squareBeside 4 = .ok (.ifCond .eq 23, 3) := by decide +kernel
theorem dX4_squareBeside_7 : decode cX4_squareBeside 7 = .ok (.iload_n 1, 1) := by decide +kernel
theorem dX4_squareBeside_8 : decode cX4_squareBeside 8 = .ok (.ifCond .lt 19, 3) := by decide +kernel
theorem dX4_squareBeside_11 : decode cX4_squareBeside 11 = .ok (.iload_n 1, 1) := by decide +kernel
theorem dX4_squareBeside_12 : decode cX4_squareBeside 12 = .ok (.getstatic 215, 3) := by decide +kernel
theorem dX4_squareBeside_15 : decode cX4_squareBeside 15 = .ok (.arraylength, 1) := by decide +kernel
theorem dX4_squareBeside_16 : decode cX4_squareBeside 16 = .ok (.if_icmp .ge 11, 3) := by decide +kernel
theorem dX4_squareBeside_19 : decode cX4_squareBeside 19 = .ok (.iload_n 1, 1) := by decide +kernel
theorem dX4_squareBeside_20 : decode cX4_squareBeside 20 = .ok (.getstatic 218, 3) := by decide +kernel
theorem dX4_squareBeside_23 : decode cX4_squareBeside 23 = .ok (.arraylength, 1) := by decide +kernel
theorem dX4_squareBeside_24 : decode cX4_squareBeside 24 = .ok (.if_icmp .lt 5, 3) := by decide +kernel
theorem dX4_squareBeside_27 : decode cX4_squareBeside 27 = .ok (.iconst (-1), 1) := by decide +kernel
theorem dX4_squareBeside_28 : decode cX4_squareBeside 28 = .ok (.ireturn, 1) := by decide +kernel
theorem dX4_squareBeside_29 : decode cX4_squareBeside 29 = .ok (.iload_n 0, 1) := by decide +kernel
theorem dX4_squareBeside_30 : decode cX4_squareBeside 30 = .ok (.iconst 5, 1) := by decide +kernel
theorem dX4_squareBeside_31 : decode cX4_squareBeside 31 = .ok (.idiv, 1) := by decide +kernel
theorem dX4_squareBeside_32 : decode cX4_squareBeside 32 = .ok (.getstatic 215, 3) := by decide +kernel
theorem dX4_squareBeside_35 : decode cX4_squareBeside 35 = .ok (.iload_n 1, 1) := by decide +kernel
theorem dX4_squareBeside_36 : decode cX4_squareBeside 36 = .ok (.iaload, 1) := by decide +kernel
theorem dX4_squareBeside_37 : decode cX4_squareBeside 37 = .ok (.iadd, 1) := by decide +kernel
theorem dX4_squareBeside_38 : decode cX4_squareBeside 38 = .ok (.istore_n 2, 1) := by decide +kernel
theorem dX4_squareBeside_39 : decode cX4_squareBeside 39 = .ok (.iload_n 0, 1) := by decide +kernel
theorem dX4_squareBeside_40 : decode cX4_squareBeside 40 = .ok (.iconst 5, 1) := by decide +kernel
theorem dX4_squareBeside_41 : decode cX4_squareBeside 41 = .ok (.irem, 1) := by decide +kernel
theorem dX4_squareBeside_42 : decode cX4_squareBeside 42 = .ok (.getstatic 218, 3) := by decide +kernel
theorem dX4_squareBeside_45 : decode cX4_squareBeside 45 = .ok (.iload_n 1, 1) := by decide +kernel
theorem dX4_squareBeside_46 : decode cX4_squareBeside 46 = .ok (.iaload, 1) := by decide +kernel
theorem dX4_squareBeside_47 : decode cX4_squareBeside 47 = .ok (.iadd, 1) := by decide +kernel
theorem dX4_squareBeside_48 : decode cX4_squareBeside 48 = .ok (.istore_n 3, 1) := by decide +kernel
theorem dX4_squareBeside_49 : decode cX4_squareBeside 49 = .ok (.iload_n 2, 1) := by decide +kernel
theorem dX4_squareBeside_50 : decode cX4_squareBeside 50 = .ok (.ifCond .lt 21, 3) := by decide +kernel
theorem dX4_squareBeside_53 : decode cX4_squareBeside 53 = .ok (.iload_n 2, 1) := by decide +kernel
theorem dX4_squareBeside_54 : decode cX4_squareBeside 54 = .ok (.iconst 5, 1) := by decide +kernel
theorem dX4_squareBeside_55 : decode cX4_squareBeside 55 = .ok (.if_icmp .ge 16, 3) := by decide +kernel
theorem dX4_squareBeside_58 : decode cX4_squareBeside 58 = .ok (.iload_n 3, 1) := by decide +kernel
theorem dX4_squareBeside_59 : decode cX4_squareBeside 59 = .ok (.ifCond .lt 12, 3) := by decide +kernel
theorem dX4_squareBeside_62 : decode cX4_squareBeside 62 = .ok (.iload_n 3, 1) := by decide +kernel
theorem dX4_squareBeside_63 : decode cX4_squareBeside 63 = .ok (.iconst 5, 1) := by decide +kernel
theorem dX4_squareBeside_64 : decode cX4_squareBeside 64 = .ok (.if_icmp .ge 7, 3) := by decide +kernel
theorem dX4_squareBeside_67 : decode cX4_squareBeside 67 = .ok (.iconst 1, 1) := by decide +kernel
theorem dX4_squareBeside_68 : decode cX4_squareBeside 68 = .ok (.goto 4, 3) := by decide +kernel
theorem dX4_squareBeside_71 : decode cX4_squareBeside 71 = .ok (.iconst 0, 1) := by decide +kernel
theorem dX4_squareBeside_72 : decode cX4_squareBeside 72 = .ok (.istore 4, 2) := by decide +kernel
theorem dX4_squareBeside_74 : decode cX4_squareBeside 74 = .ok (.iload 4, 2) := by decide +kernel
theorem dX4_squareBeside_76 : decode cX4_squareBeside 76 = .ok (.ifCond .eq 11, 3) := by decide +kernel
theorem dX4_squareBeside_79 : decode cX4_squareBeside 79 = .ok (.iload_n 2, 1) := by decide +kernel
theorem dX4_squareBeside_80 : decode cX4_squareBeside 80 = .ok (.iconst 5, 1) := by decide +kernel
theorem dX4_squareBeside_81 : decode cX4_squareBeside 81 = .ok (.imul, 1) := by decide +kernel
theorem dX4_squareBeside_82 : decode cX4_squareBeside 82 = .ok (.iload_n 3, 1) := by decide +kernel
theorem dX4_squareBeside_83 : decode cX4_squareBeside 83 = .ok (.iadd, 1) := by decide +kernel
theorem dX4_squareBeside_84 : decode cX4_squareBeside 84 = .ok (.goto 4, 3) := by decide +kernel
theorem dX4_squareBeside_87 : decode cX4_squareBeside 87 = .ok (.iconst (-1), 1) := by decide +kernel
theorem dX4_squareBeside_88 : decode cX4_squareBeside 88 = .ok (.ireturn, 1) := by decide +kernel
