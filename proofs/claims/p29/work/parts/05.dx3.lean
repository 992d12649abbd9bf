theorem dX3_init_0 : decode cX3_init 0 = .ok (.aload_n 0, 1) := by decide +kernel
theorem dX3_init_1 : decode cX3_init 1 = .ok (.invokespecial 3, 3) := by decide +kernel
theorem dX3_init_4 : decode cX3_init 4 = .ok (.aload_n 0, 1) := by decide +kernel
theorem dX3_init_5 : decode cX3_init 5 = .ok (.bipush 25, 2) := by decide +kernel
theorem dX3_init_7 : decode cX3_init 7 = .ok (.newarray .int, 2) := by decide +kernel
theorem dX3_init_9 : decode cX3_init 9 = .ok (.putfield 9, 3) := by decide +kernel
theorem dX3_init_12 : decode cX3_init 12 = .ok (.aload_n 0, 1) := by decide +kernel
theorem dX3_init_13 : decode cX3_init 13 = .ok (.bipush 25, 2) := by decide +kernel
theorem dX3_init_15 : decode cX3_init 15 = .ok (.newarray .int, 2) := by decide +kernel
theorem dX3_init_17 : decode cX3_init 17 = .ok (.putfield 15, 3) := by decide +kernel
theorem dX3_init_20 : decode cX3_init 20 = .ok (.aload_n 0, 1) := by decide +kernel
theorem dX3_init_21 : decode cX3_init 21 = .ok (.bipush 6, 2) := by decide +kernel
theorem dX3_init_23 : decode cX3_init 23 = .ok (.newarray .int, 2) := by decide +kernel
theorem dX3_init_25 : decode cX3_init 25 = .ok (.putfield 18, 3) := by decide +kernel
theorem dX3_init_28 : decode cX3_init 28 = .ok (.aload_n 0, 1) := by decide +kernel
theorem dX3_init_29 : decode cX3_init 29 = .ok (.sipush 525, 3) := by decide +kernel
theorem dX3_init_32 : decode cX3_init 32 = .ok (.newarray .int, 2) := by decide +kernel
theorem dX3_init_34 : decode cX3_init 34 = .ok (.putfield 21, 3) := by decide +kernel
theorem dX3_init_37 : decode cX3_init 37 = .ok (.aload_n 0, 1) := by decide +kernel
theorem dX3_init_38 : decode cX3_init 38 = .ok (.iconst 0, 1) := by decide +kernel
theorem dX3_init_39 : decode cX3_init 39 = .ok (.putfield 24, 3) := by decide +kernel
theorem dX3_init_42 : decode cX3_init 42 = .ok (.aload_n 0, 1) := by decide +kernel
theorem dX3_init_43 : decode cX3_init 43 = .ok (.aload_n 1, 1) := by decide +kernel
theorem dX3_init_44 : decode cX3_init 44 = .ok (.putfield 28, 3) := by decide +kernel
theorem dX3_init_47 : decode cX3_init 47 = .ok (.return_, 1) := by decide +kernel
set_option maxRecDepth 20000 in
theorem ggX3_isInCheck_X2_sideToPlay : GoodIn wsX3_isInCheck wsX2_sideToPlay := goodIn_r _ [6, 7, 26, 27] (by decide +kernel) (by decide +kernel)
set_option maxRecDepth 20000 in
theorem gX3_isInCheck_X2_sideToPlay : GoodIn wsX3_isInCheck (wsV RX3 32 RX2 yX2_sideToPlay wsX2_sideToPlay) := goodIn_app (goodIn_of _ (by decide +kernel)) ggX3_isInCheck_X2_sideToPlay
set_option maxRecDepth 20000 in
theorem ggX3_isInCheck_X2_kingOf : GoodIn wsX3_isInCheck wsX2_kingOf := goodIn_r _ [11, 7, 12, 13, 14, 26, 27] (by decide +kernel) (by decide +kernel)
set_option maxRecDepth 20000 in
theorem gX3_isInCheck_X2_kingOf : GoodIn wsX3_isInCheck (wsV RX3 38 RX2 yX2_kingOf wsX2_kingOf) := goodIn_app (goodIn_of _ (by decide +kernel)) ggX3_isInCheck_X2_kingOf
set_option maxRecDepth 20000 in
theorem ggX3_isInCheck_X2_countAttackers : GoodIn wsX3_isInCheck wsX2_countAttackers := goodIn_r _ [18, 19, 7, 26, 27] (by decide +kernel) (by decide +kernel)
set_option maxRecDepth 20000 in
theorem gX3_isInCheck_X2_countAttackers : GoodIn wsX3_isInCheck (wsV RX3 42 RX2 yX2_countAttackers wsX2_countAttackers) := goodIn_app (goodIn_of _ (by decide +kernel)) ggX3_isInCheck_X2_countAttackers
theorem dX3_isInCheck_0 : decode cX3_isInCheck 0 = .ok (.aload_n 0, 1) := by decide +kernel
theorem dX3_isInCheck_1 : decode cX3_isInCheck 1 = .ok (.getfield 28, 3) := by decide +kernel
theorem dX3_isInCheck_4 : decode cX3_isInCheck 4 = .ok (.invokevirtual 32, 3) := by decide +kernel
theorem dX3_isInCheck_7 : decode cX3_isInCheck 7 = .ok (.istore_n 1, 1) := by decide +kernel
theorem dX3_isInCheck_8 : decode cX3_isInCheck 8 = .ok (.aload_n 0, 1) := by decide +kernel
theorem dX3_isInCheck_9 : decode cX3_isInCheck 9 = .ok (.getfield 28, 3) := by decide +kernel
theorem dX3_isInCheck_12 : decode cX3_isInCheck 12 = .ok (.iconst 1, 1) := by decide +kernel
theorem dX3_isInCheck_13 : decode cX3_isInCheck 13 = .ok (.iload_n 1, 1) := by decide +kernel
theorem dX3_isInCheck_14 : decode cX3_isInCheck 14 = .ok (.isub, 1) := by decide +kernel
theorem dX3_isInCheck_15 : decode cX3_isInCheck 15 = .ok (.aload_n 0, 1) := by decide +kernel
theorem dX3_isInCheck_16 : decode cX3_isInCheck 16 = .ok (.getfield 28, 3) := by decide +kernel
theorem dX3_isInCheck_19 : decode cX3_isInCheck 19 = .ok (.iload_n 1, 1) := by decide +kernel
theorem dX3_isInCheck_20 : decode cX3_isInCheck 20 = .ok (.invokevirtual 38, 3) := by decide +kernel
theorem dX3_isInCheck_23 : decode cX3_isInCheck 23 = .ok (.invokevirtual 42, 3) := by decide +kernel
theorem dX3_isInCheck_26 : decode cX3_isInCheck 26 = .ok (.ifCond .le 7, 3) := by decide +kernel
theorem dX3_isInCheck_29 : decode cX3_isInCheck 29 = .ok (.iconst 1, 1) := by decide +kernel
theorem dX3_isInCheck_30 : decode cX3_isInCheck 30 = .ok (.goto 4, 3) := by decide +kernel
theorem dX3_isInCheck_33 : decode cX3_isInCheck 33 = .ok (.iconst 0, 1) := by decide +kernel
theorem dX3_isInCheck_34 : decode cX3_isInCheck 34 = .ok (.ireturn, 1) := by decide +kernel
set_option maxRecDepth 20000 in
theorem ggX3_isMated_X3_isInCheck : GoodIn wsX3_isMated wsX3_isInCheck := goodIn_r _ [5, 6, 7, 8, 9, 10, 11, 12, 13, 14, 15, 16, 17, 18, 19, 20, 21, 22, 23, 24, 138, 139, 140, 141, 142, 143, 144, 145] (by decide +kernel) (by decide +kernel)
set_option maxRecDepth 20000 in
theorem gX3_isMated_X3_isInCheck : GoodIn wsX3_isMated (wsV RX3 46 RX3 yX3_isInCheck wsX3_isInCheck) := goodIn_app (goodIn_of _ (by decide +kernel)) ggX3_isMated_X3_isInCheck
set_option maxRecDepth 20000 in
theorem ggX3_isMated_X3_findPlays : GoodIn wsX3_isMated wsX3_findPlays := goodIn_r _ [28, 6, 29, 30, 31, 7, 8, 9, 10, 11, 12, 32, 33, 34, 35, 36, 18, 37, 38, 39, 40, 4, 41, 42, 43, 44, 45, 24, 46, 47, 48, 49, 50, 51, 52, 53, 54, 55, 56, 57, 58, 59, 60, 61, 62, 13, 14, 15, 16, 17, 19, 20, 21, 22, 23, 63, 64, 65, 66, 67, 68, 69, 70, 71, 72, 73, 74, 75, 76, 77, 78, 79, 80, 81, 82, 83, 84, 85, 86, 87, 88, 89, 90, 91, 92, 93, 94, 95, 96, 97, 98, 99, 100, 101, 102, 103, 104, 105, 106, 107, 108, 109, 110, 111, 112, 113, 114, 115, 116, 117, 118, 119, 120, 121, 122, 123, 124, 125, 126, 127, 128, 129, 1, 2, 3, 5, 130, 131, 132, 133, 134, 135, 136, 137, 138, 139, 140, 141, 142, 143, 144, 145] (by decide +kernel) (by decide +kernel)
set_option maxRecDepth 20000 in
theorem gX3_isMated_X3_findPlays : GoodIn wsX3_isMated (wsV RX3 50 RX3 yX3_findPlays wsX3_findPlays) := goodIn_app (goodIn_of _ (by decide +kernel)) ggX3_isMated_X3_findPlays
theorem dX3_isMated_0 : decode cX3_isMated 0 = .ok (.aload_n 0, 1) := by decide +kernel
theorem dX3_isMated_1 : decode cX3_isMated 1 = .ok (.invokevirtual 46, 3) := by decide +kernel
theorem dX3_isMated_4 : decode cX3_isMated 4 = .ok (.ifCond .eq 14, 3) := by decide +kernel
theorem dX3_isMated_7 : decode cX3_isMated 7 = .ok (.aload_n 0, 1) := by decide +kernel
theorem dX3_isMated_8 : decode cX3_isMated 8 = .ok (.invokevirtual 50, 3) := by decide +kernel
theorem dX3_isMated_11 : decode cX3_isMated 11 = .ok (.ifCond .ne 7, 3) := by decide +kernel
theorem dX3_isMated_14 : decode cX3_isMated 14 = .ok (.iconst 1, 1) := by decide +kernel
theorem dX3_isMated_15 : decode cX3_isMated 15 = .ok (.goto 4, 3) := by decide +kernel
theorem dX3_isMated_18 : decode cX3_isMated 18 = .ok (.iconst 0, 1) := by decide +kernel
theorem dX3_isMated_19 : decode cX3_isMated 19 = .ok (.ireturn, 1) := by decide +kernel
set_option maxRecDepth 20000 in
theorem ggX3_allows_X4_isSquare : GoodIn wsX3_allows wsX4_isSquare := goodIn_r _ [3] (by decide +kernel) (by decide +kernel)
set_option maxRecDepth 20000 in
theorem gX3_allows_X4_isSquare_n53 : GoodIn wsX3_allows (wsX4_isSquare) := ggX3_allows_X4_isSquare
set_option maxRecDepth 20000 in
theorem ggX3_allows_X4_isHandKind : GoodIn wsX3_allows wsX4_isHandKind := goodIn_r _ [5] (by decide +kernel) (by decide +kernel)
set_option maxRecDepth 20000 in
theorem gX3_allows_X4_isHandKind_n57 : GoodIn wsX3_allows (wsX4_isHandKind) := ggX3_allows_X4_isHandKind
set_option maxRecDepth 20000 in
theorem ggX3_allows_X3_whyNoDrop : GoodIn wsX3_allows wsX3_whyNoDrop := goodIn_r _ [10, 11, 12, 13, 14, 15, 16, 17, 18, 19, 20, 21, 22, 2, 23, 4, 5, 24, 25, 26, 27, 28, 29, 30, 31, 32, 33, 34, 35, 9, 36, 37, 38, 39, 40, 41, 42, 43, 44, 45, 46, 47, 48, 49, 50, 51, 52, 53, 54, 55, 56, 1, 3, 57, 58, 59, 60, 61, 62, 63, 64, 65, 66, 67, 68, 69, 70, 71, 72, 73, 74, 75, 76, 77, 78, 79, 80, 81, 82, 83, 84, 85, 86, 87, 88, 89, 90, 91, 92, 93, 94, 95, 96, 97, 98, 99, 100, 101, 102, 103, 104, 105, 106, 107, 108, 109, 110, 111, 112, 113, 114, 115, 116, 117, 118, 132, 133, 134, 135, 136, 137, 138, 139] (by decide +kernel) (by decide +kernel)
set_option maxRecDepth 20000 in
theorem gX3_allows_X3_whyNoDrop : GoodIn wsX3_allows (wsV RX3 60 RX3 yX3_whyNoDrop wsX3_whyNoDrop) := goodIn_app (goodIn_of _ (by decide +kernel)) ggX3_allows_X3_whyNoDrop
set_option maxRecDepth 20000 in
theorem ggX3_allows_X3_whyNoMove : GoodIn wsX3_allows wsX3_whyNoMove := goodIn_r _ [122, 11, 12, 13, 14, 15, 16, 17, 24, 25, 26, 27, 61, 2, 62, 103, 104, 105, 106, 52, 86, 31, 32, 107, 108, 109, 9, 110, 59, 60, 123, 124, 125, 126, 127, 28, 29, 30, 128, 129, 130, 131, 99, 100, 101, 102, 53, 54, 55, 56, 1, 3, 57, 58, 44, 45, 46, 47, 22, 23, 48, 49, 50, 51, 63, 64, 132, 133, 134, 135, 136, 137, 138, 139] (by decide +kernel) (by decide +kernel)
set_option maxRecDepth 20000 in
theorem gX3_allows_X3_whyNoMove : GoodIn wsX3_allows (wsV RX3 63 RX3 yX3_whyNoMove wsX3_whyNoMove) := goodIn_app (goodIn_of _ (by decide +kernel)) ggX3_allows_X3_whyNoMove
theorem dX3_allows_0 : decode cX3_allows 0 = .ok (.iload_n 1, 1) := by decide +kernel
theorem dX3_allows_1 : decode cX3_allows 1 = .ok (.bipush 100, 2) := by decide +kernel
theorem dX3_allows_3 : decode cX3_allows 3 = .ok (.irem, 1) := by decide +kernel
theorem dX3_allows_4 : decode cX3_allows 4 = .ok (.istore_n 2, 1) := by decide +kernel
theorem dX3_allows_5 : decode cX3_allows 5 = .ok (.iload_n 1, 1) := by decide +kernel
theorem dX3_allows_6 : decode cX3_allows 6 = .ok (.ifCond .lt 10, 3) := by decide +kernel
theorem dX3_allows_9 : decode cX3_allows 9 = .ok (.iload_n 2, 1) := by decide +kernel
theorem dX3_allows_10 : decode cX3_allows 10 = .ok (.invokestatic 53, 3) := by decide +kernel
theorem dX3_allows_13 : decode cX3_allows 13 = .ok (.ifCond .ne 5, 3) := by decide +kernel
theorem dX3_allows_16 : decode cX3_allows 16 = .ok (.iconst 0, 1) := by decide +kernel
theorem dX3_allows_17 : decode cX3_allows 17 = .ok (.ireturn, 1) := by decide +kernel
theorem dX3_allows_18 : decode cX3_allows 18 = .ok (.iload_n 1, 1) := by decide +kernel
theorem dX3_allows_19 : decode cX3_allows 19 = .ok (.sipush 20000, 3) := by decide +kernel
theorem dX3_allows_22 : decode cX3_allows 22 = .ok (.if_icmp .lt 34, 3) := by decide +kernel
theorem dX3_allows_25 : decode cX3_allows 25 = .ok (.iload_n 1, 1) := by decide +kernel
theorem dX3_allows_26 : decode cX3_allows 26 = .ok (.sipush 20000, 3) := by decide +kernel
theorem dX3_allows_29 : decode cX3_allows 29 = .ok (.isub, 1) := by decide +kernel
theorem dX3_allows_30 : decode cX3_allows 30 = .ok (.bipush 100, 2) := by decide +kernel
theorem dX3_allows_32 : decode cX3_allows 32 = .ok (.idiv, 1) := by decide +kernel
theorem dX3_allows_33 : decode cX3_allows 33 = .ok (.istore_n 3, 1) := by decide +kernel
theorem dX3_allows_34 : decode cX3_allows 34 = .ok (.iload_n 3, 1) := by decide +kernel
theorem dX3_allows_35 : decode cX3_allows 35 = .ok (.invokestatic 57, 3) := by decide +kernel
theorem dX3_allows_38 : decode cX3_allows 38 = .ok (.ifCond .eq 16, 3) := by decide +kernel
theorem dX3_allows_41 : decode cX3_allows 41 = .ok (.aload_n 0, 1) := by decide +kernel
theorem dX3_allows_42 : decode cX3_allows 42 = .ok (.iload_n 3, 1) := by decide +kernel
theorem dX3_allows_43 : decode cX3_allows 43 = .ok (.iload_n 2, 1) := by decide +kernel
theorem dX3_allows_44 : decode cX3_allows 44 = .ok (.invokevirtual 60, 3) := by decide +kernel
theorem dX3_allows_47 : decode cX3_allows 47 = .ok (.ifCond .ne 7, 3) := by decide +kernel
theorem dX3_allows_50 : decode cX3_allows 50 = .ok (.iconst 1, 1) := by decide +kernel
theorem dX3_allows_51 : decode cX3_allows 51 = .ok (.goto 4, 3) := by decide +kernel
theorem dX3_allows_54 : decode cX3_allows 54 = .ok (.iconst 0, 1) := by decide +kernel
theorem dX3_allows_55 : decode cX3_allows 55 = .ok (.ireturn, 1) := by decide +kernel
theorem dX3_allows_56 : decode cX3_allows 56 = .ok (.iload_n 1, 1) := by decide +kernel
theorem dX3_allows_57 : decode cX3_allows 57 = .ok (.sipush 10000, 3) := by decide +kernel
theorem dX3_allows_60 : decode cX3_allows 60 = .ok (.irem, 1) := by decide +kernel
theorem dX3_allows_61 : decode cX3_allows 61 = .ok (.bipush 100, 2) := by decide +kernel
theorem dX3_allows_63 : decode cX3_allows 63 = .ok (.idiv, 1) := by decide +kernel
theorem dX3_allows_64 : decode cX3_allows 64 = .ok (.istore_n 3, 1) := by decide +kernel
theorem dX3_allows_65 : decode cX3_allows 65 = .ok (.iload_n 3, 1) := by decide +kernel
theorem dX3_allows_66 : decode cX3_allows 66 = .ok (.invokestatic 53, 3) := by decide +kernel
theorem dX3_allows_69 : decode cX3_allows 69 = .ok (.ifCond .eq 28, 3) := by decide +kernel
theorem dX3_allows_72 : decode cX3_allows 72 = .ok (.aload_n 0, 1) := by decide +kernel
theorem dX3_allows_73 : decode cX3_allows 73 = .ok (.iload_n 3, 1) := by decide +kernel
theorem dX3_allows_74 : decode cX3_allows 74 = .ok (.iload_n 2, 1) := by decide +kernel
theorem dX3_allows_75 : decode cX3_allows 75 = .ok (.iload_n 1, 1) := by decide +kernel
theorem dX3_allows_76 : decode cX3_allows 76 = .ok (.sipush 10000, 3) := by decide +kernel
theorem dX3_allows_79 : decode cX3_allows 79 = .ok (.if_icmp .lt 7, 3) := by decide +kernel
theorem dX3_allows_82 : decode cX3_allows 82 = .ok (.iconst 1, 1) := by decide +kernel
theorem dX3_allows_83 : decode cX3_allows 83 = .ok (.goto 4, 3) := by decide +kernel
theorem dX3_allows_86 : decode cX3_allows 86 = .ok (.iconst 0, 1) := by decide +kernel
theorem dX3_allows_87 : decode cX3_allows 87 = .ok (.invokevirtual 63, 3) := by decide +kernel
theorem dX3_allows_90 : decode cX3_allows 90 = .ok (.ifCond .ne 7, 3) := by decide +kernel
theorem dX3_allows_93 : decode cX3_allows 93 = .ok (.iconst 1, 1) := by decide +kernel
theorem dX3_allows_94 : decode cX3_allows 94 = .ok (.goto 4, 3) := by decide +kernel
theorem dX3_allows_97 : decode cX3_allows 97 = .ok (.iconst 0, 1) := by decide +kernel
theorem dX3_allows_98 : decode cX3_allows 98 = .ok (.ireturn, 1) := by decide +kernel
set_option maxRecDepth 20000 in
theorem ggX3_whyNoMove_X2_sideToPlay : GoodIn wsX3_whyNoMove wsX2_sideToPlay := goodIn_r _ [6, 7, 72, 73] (by decide +kernel) (by decide +kernel)
set_option maxRecDepth 20000 in
theorem gX3_whyNoMove_X2_sideToPlay : GoodIn wsX3_whyNoMove (wsV RX3 32 RX2 yX2_sideToPlay wsX2_sideToPlay) := goodIn_app (goodIn_of _ (by decide +kernel)) ggX3_whyNoMove_X2_sideToPlay
set_option maxRecDepth 20000 in
theorem ggX3_whyNoMove_X2_manOn : GoodIn wsX3_whyNoMove wsX2_manOn := goodIn_r _ [11, 7, 72, 73] (by decide +kernel) (by decide +kernel)
set_option maxRecDepth 20000 in
theorem gX3_whyNoMove_X2_manOn : GoodIn wsX3_whyNoMove (wsV RX3 67 RX2 yX2_manOn wsX2_manOn) := goodIn_app (goodIn_of _ (by decide +kernel)) ggX3_whyNoMove_X2_manOn
set_option maxRecDepth 20000 in
theorem ggX3_whyNoMove_X4_sideOf : GoodIn wsX3_whyNoMove wsX4_sideOf := goodIn_r _ [14] (by decide +kernel) (by decide +kernel)
set_option maxRecDepth 20000 in
theorem gX3_whyNoMove_X4_sideOf_n70 : GoodIn wsX3_whyNoMove (wsX4_sideOf) := ggX3_whyNoMove_X4_sideOf
set_option maxRecDepth 20000 in
theorem ggX3_whyNoMove_X2_attackedFrom : GoodIn wsX3_whyNoMove wsX2_attackedFrom := goodIn_r _ [18, 19, 7, 20, 9, 10, 5, 11, 72, 73] (by decide +kernel) (by decide +kernel)
set_option maxRecDepth 20000 in
theorem gX3_whyNoMove_X2_attackedFrom : GoodIn wsX3_whyNoMove (wsV RX3 73 RX2 yX2_attackedFrom wsX2_attackedFrom) := goodIn_app (goodIn_of _ (by decide +kernel)) ggX3_whyNoMove_X2_attackedFrom
set_option maxRecDepth 20000 in
theorem ggX3_whyNoMove_X4_has : GoodIn wsX3_whyNoMove wsX4_has := goodIn_r _ [22] (by decide +kernel) (by decide +kernel)
set_option maxRecDepth 20000 in
theorem gX3_whyNoMove_X4_has_n76 : GoodIn wsX3_whyNoMove (wsX4_has) := ggX3_whyNoMove_X4_has
set_option maxRecDepth 20000 in
theorem ggX3_whyNoMove_X3_canEnter : GoodIn wsX3_whyNoMove wsX3_canEnter := goodIn_r _ [27, 1, 8, 9, 10, 5, 11, 7, 12, 13, 14, 28, 29, 66, 67, 68, 69, 70, 71, 72, 73] (by decide +kernel) (by decide +kernel)
set_option maxRecDepth 20000 in
theorem gX3_whyNoMove_X3_canEnter : GoodIn wsX3_whyNoMove (wsV RX3 80 RX3 yX3_canEnter wsX3_canEnter) := goodIn_app (goodIn_of _ (by decide +kernel)) ggX3_whyNoMove_X3_canEnter
set_option maxRecDepth 20000 in
theorem ggX3_whyNoMove_X3_promotingSquares : GoodIn wsX3_whyNoMove wsX3_promotingSquares := goodIn_r _ [33, 1, 34, 8, 9, 10, 5, 11, 7, 28, 13, 29, 12, 14, 35, 36, 37, 21, 22, 66, 67, 68, 69, 70, 71, 72, 73] (by decide +kernel) (by decide +kernel)
set_option maxRecDepth 20000 in
theorem gX3_whyNoMove_X3_promotingSquares : GoodIn wsX3_whyNoMove (wsV RX3 83 RX3 yX3_promotingSquares wsX3_promotingSquares) := goodIn_app (goodIn_of _ (by decide +kernel)) ggX3_whyNoMove_X3_promotingSquares
set_option maxRecDepth 20000 in
theorem ggX3_whyNoMove_X3_forcingSquares : GoodIn wsX3_whyNoMove wsX3_forcingSquares := goodIn_r _ [41, 1, 8, 9, 10, 5, 11, 7, 28, 13, 29, 12, 14, 35, 36, 37, 66, 67, 68, 69, 70, 71, 72, 73] (by decide +kernel) (by decide +kernel)
set_option maxRecDepth 20000 in
theorem gX3_whyNoMove_X3_forcingSquares : GoodIn wsX3_whyNoMove (wsV RX3 86 RX3 yX3_forcingSquares wsX3_forcingSquares) := goodIn_app (goodIn_of _ (by decide +kernel)) ggX3_whyNoMove_X3_forcingSquares
set_option maxRecDepth 20000 in
theorem ggX3_whyNoMove_X3_safeTargets : GoodIn wsX3_whyNoMove wsX3_safeTargets := goodIn_r _ [45, 1, 8, 9, 10, 5, 11, 7, 12, 13, 14, 15, 16, 17, 18, 19, 20, 21, 22, 23, 24, 25, 26, 27, 28, 29, 46, 47, 48, 49, 50, 51, 52, 53, 54, 55, 56, 57, 58, 59, 60, 61, 62, 63, 64, 65, 66, 67, 68, 69, 70, 71, 72, 73] (by decide +kernel) (by decide +kernel)
set_option maxRecDepth 20000 in
theorem gX3_whyNoMove_X3_safeTargets : GoodIn wsX3_whyNoMove (wsV RX3 89 RX3 yX3_safeTargets wsX3_safeTargets) := goodIn_app (goodIn_of _ (by decide +kernel)) ggX3_whyNoMove_X3_safeTargets
theorem dX3_whyNoMove_0 : decode cX3_whyNoMove 0 = .ok (.aload_n 0, 1) := by decide +kernel
theorem dX3_whyNoMove_1 : decode cX3_whyNoMove 1 = .ok (.getfield 28, 3) := by decide +kernel
theorem dX3_whyNoMove_4 : decode cX3_whyNoMove 4 = .ok (.invokevirtual 32, 3) := by decide +kernel
theorem dX3_whyNoMove_7 : decode cX3_whyNoMove 7 = .ok (.istore 4, 2) := by decide +kernel
theorem dX3_whyNoMove_9 : decode cX3_whyNoMove 9 = .ok (.aload_n 0, 1) := by decide +kernel
theorem dX3_whyNoMove_10 : decode cX3_whyNoMove 10 = .ok (.getfield 28, 3) := by decide +kernel
theorem dX3_whyNoMove_13 : decode cX3_whyNoMove 13 = .ok (.iload_n 1, 1) := by decide +kernel
theorem dX3_whyNoMove_14 : decode cX3_whyNoMove 14 = .ok (.invokevirtual 67, 3) := by decide +kernel
theorem dX3_whyNoMove_17 : decode cX3_whyNoMove 17 = .ok (.invokestatic 70, 3) := by decide +kernel
theorem dX3_whyNoMove_20 : decode cX3_whyNoMove 20 = .ok (.iload 4, 2) := by decide +kernel
theorem dX3_whyNoMove_22 : decode cX3_whyNoMove 22 = .ok (.if_icmp .eq 5, 3) := by decide +kernel
theorem dX3_whyNoMove_25 : decode cX3_whyNoMove 25 = .ok (.iconst 1, 1) := by decide +kernel
theorem dX3_whyNoMove_26 : decode cX3_whyNoMove 26 = .ok (.ireturn, 1) := by decide +kernel
theorem dX3_whyNoMove_27 : decode cX3_whyNoMove 27 = .ok (.aload_n 0, 1) := by decide +kernel
theorem dX3_whyNoMove_28 : decode cX3_whyNoMove 28 = .ok (.getfield 28, 3) := by decide +kernel
theorem dX3_whyNoMove_31 : decode cX3_whyNoMove 31 = .ok (.iload_n 1, 1) := by decide +kernel
theorem dX3_whyNoMove_32 : decode cX3_whyNoMove 32 = .ok (.invokevirtual 73, 3) := by decide +kernel
theorem dX3_whyNoMove_35 : decode cX3_whyNoMove 35 = .ok (.iload_n 2, 1) := by decide +kernel
theorem dX3_whyNoMove_36 : decode cX3_whyNoMove 36 = .ok (.invokestatic 76, 3) := by decide +kernel
theorem dX3_whyNoMove_39 : decode cX3_whyNoMove 39 = .ok (.ifCond .ne 5, 3) := by decide +kernel
theorem dX3_whyNoMove_42 : decode cX3_whyNoMove 42 = .ok (.iconst 2, 1) := by decide +kernel
theorem dX3_whyNoMove_43 : decode cX3_whyNoMove 43 = .ok (.ireturn, 1) := by decide +kernel
theorem dX3_whyNoMove_44 : decode cX3_whyNoMove 44 = .ok (.aload_n 0, 1) := by decide +kernel
theorem dX3_whyNoMove_45 : decode cX3_whyNoMove 45 = .ok (.iload 4, 2) := by decide +kernel
theorem dX3_whyNoMove_47 : decode cX3_whyNoMove 47 = .ok (.iload_n 2, 1) := by decide +kernel
theorem dX3_whyNoMove_48 : decode cX3_whyNoMove 48 = .ok (.invokevirtual 80, 3) := by decide +kernel
theorem dX3_whyNoMove_51 : decode cX3_whyNoMove 51 = .ok (.ifCond .ne 5, 3) := by decide +kernel
theorem dX3_whyNoMove_54 : decode cX3_whyNoMove 54 = .ok (.iconst 3, 1) := by decide +kernel
theorem dX3_whyNoMove_55 : decode cX3_whyNoMove 55 = .ok (.ireturn, 1) := by decide +kernel
theorem dX3_whyNoMove_56 : decode cX3_whyNoMove 56 = .ok (.iload_n 3, 1) := by decide +kernel
theorem dX3_whyNoMove_57 : decode cX3_whyNoMove 57 = .ok (.ifCond .eq 17, 3) := by decide +kernel
theorem dX3_whyNoMove_60 : decode cX3_whyNoMove 60 = .ok (.aload_n 0, 1) := by decide +kernel
theorem dX3_whyNoMove_61 : decode cX3_whyNoMove 61 = .ok (.iload_n 1, 1) := by decide +kernel
theorem dX3_whyNoMove_62 : decode cX3_whyNoMove 62 = .ok (.invokevirtual 83, 3) := by decide +kernel
theorem dX3_whyNoMove_65 : decode cX3_whyNoMove 65 = .ok (.iload_n 2, 1) := by decide +kernel
theorem dX3_whyNoMove_66 : decode cX3_whyNoMove 66 = .ok (.invokestatic 76, 3) := by decide +kernel
theorem dX3_whyNoMove_69 : decode cX3_whyNoMove 69 = .ok (.ifCond .ne 5, 3) := by decide +kernel
theorem dX3_whyNoMove_72 : decode cX3_whyNoMove 72 = .ok (.iconst 4, 1) := by decide +kernel
theorem dX3_whyNoMove_73 : decode cX3_whyNoMove 73 = .ok (.ireturn, 1) := by decide +kernel
theorem dX3_whyNoMove_74 : decode cX3_whyNoMove 74 = .ok (.iload_n 3, 1) := by decide +kernel
theorem dX3_whyNoMove_75 : decode cX3_whyNoMove 75 = .ok (.ifCond .ne 17, 3) := by decide +kernel
theorem dX3_whyNoMove_78 : decode cX3_whyNoMove 78 = .ok (.aload_n 0, 1) := by decide +kernel
theorem dX3_whyNoMove_79 : decode cX3_whyNoMove 79 = .ok (.iload_n 1, 1) := by decide +kernel
theorem dX3_whyNoMove_80 : decode cX3_whyNoMove 80 = .ok (.invokevirtual 86, 3) := by decide +kernel
theorem dX3_whyNoMove_83 : decode cX3_whyNoMove 83 = .ok (.iload_n 2, 1) := by decide +kernel
theorem dX3_whyNoMove_84 : decode cX3_whyNoMove 84 = .ok (.invokestatic 76, 3) := by decide +kernel
theorem dX3_whyNoMove_87 : decode cX3_whyNoMove 87 = .ok (.ifCond .eq 5, 3) := by decide +kernel
theorem dX3_whyNoMove_90 : decode cX3_whyNoMove 90 = .ok (.iconst 5, 1) := by decide +kernel
theorem dX3_whyNoMove_91 : decode cX3_whyNoMove 91 = .ok (.ireturn, 1) := by decide +kernel
theorem dX3_whyNoMove_92 : decode cX3_whyNoMove 92 = .ok (.aload_n 0, 1) := by decide +kernel
theorem dX3_whyNoMove_93 : decode cX3_whyNoMove 93 = .ok (.iload_n 1, 1) := by decide +kernel
theorem dX3_whyNoMove_94 : decode cX3_whyNoMove 94 = .ok (.invokevirtual 89, 3) := by decide +kernel
theorem dX3_whyNoMove_97 : decode cX3_whyNoMove 97 = .ok (.iload_n 2, 1) := by decide +kernel
theorem dX3_whyNoMove_98 : decode cX3_whyNoMove 98 = .ok (.invokestatic 76, 3) := by decide +kernel
theorem dX3_whyNoMove_101 : decode cX3_whyNoMove 101 = .ok (.ifCond .eq 7, 3) := by decide +kernel
theorem dX3_whyNoMove_104 : decode cX3_whyNoMove 104 = .ok (.iconst 0, 1) := by decide +kernel
theorem dX3_whyNoMove_105 : decode cX3_whyNoMove 105 = .ok (.goto 5, 3) := by decide +kernel
theorem dX3_whyNoMove_108 : decode cX3_whyNoMove 108 = .ok (.bipush 6, 2) := by decide +kernel
theorem dX3_whyNoMove_110 : decode cX3_whyNoMove 110 = .ok (.ireturn, 1) := by decide +kernel
set_option maxRecDepth 20000 in
theorem ggX3_whyNoDrop_X2_sideToPlay : GoodIn wsX3_whyNoDrop wsX2_sideToPlay := goodIn_r _ [6, 7, 121, 122] (by decide +kernel) (by decide +kernel)
set_option maxRecDepth 20000 in
theorem gX3_whyNoDrop_X2_sideToPlay : GoodIn wsX3_whyNoDrop (wsV RX3 32 RX2 yX2_sideToPlay wsX2_sideToPlay) := goodIn_app (goodIn_of _ (by decide +kernel)) ggX3_whyNoDrop_X2_sideToPlay
set_option maxRecDepth 20000 in
theorem ggX3_whyNoDrop_X2_inHand : GoodIn wsX3_whyNoDrop wsX2_inHand := goodIn_r _ [11, 7, 12, 13, 14, 15, 16, 121, 122] (by decide +kernel) (by decide +kernel)
set_option maxRecDepth 20000 in
theorem gX3_whyNoDrop_X2_inHand : GoodIn wsX3_whyNoDrop (wsV RX3 92 RX2 yX2_inHand wsX2_inHand) := goodIn_app (goodIn_of _ (by decide +kernel)) ggX3_whyNoDrop_X2_inHand
set_option maxRecDepth 20000 in
theorem ggX3_whyNoDrop_X2_manOn : GoodIn wsX3_whyNoDrop wsX2_manOn := goodIn_r _ [20, 7, 121, 122] (by decide +kernel) (by decide +kernel)
set_option maxRecDepth 20000 in
theorem gX3_whyNoDrop_X2_manOn : GoodIn wsX3_whyNoDrop (wsV RX3 67 RX2 yX2_manOn wsX2_manOn) := goodIn_app (goodIn_of _ (by decide +kernel)) ggX3_whyNoDrop_X2_manOn
set_option maxRecDepth 20000 in
theorem ggX3_whyNoDrop_X4_lastRow : GoodIn wsX3_whyNoDrop wsX4_lastRow := goodIn_r _ [22, 23] (by decide +kernel) (by decide +kernel)
set_option maxRecDepth 20000 in
theorem gX3_whyNoDrop_X4_lastRow_n95 : GoodIn wsX3_whyNoDrop (wsX4_lastRow) := ggX3_whyNoDrop_X4_lastRow
set_option maxRecDepth 20000 in
theorem ggX3_whyNoDrop_X4_has : GoodIn wsX3_whyNoDrop wsX4_has := goodIn_r _ [25] (by decide +kernel) (by decide +kernel)
set_option maxRecDepth 20000 in
theorem gX3_whyNoDrop_X4_has_n76 : GoodIn wsX3_whyNoDrop (wsX4_has) := ggX3_whyNoDrop_X4_has
set_option maxRecDepth 20000 in
theorem ggX3_whyNoDrop_X3_pawnColumns : GoodIn wsX3_whyNoDrop wsX3_pawnColumns := goodIn_r _ [30, 1, 31, 17, 18, 19, 5, 20, 7, 32, 13, 33, 115, 116, 117, 118, 119, 120, 121, 122] (by decide +kernel) (by decide +kernel)
set_option maxRecDepth 20000 in
theorem gX3_whyNoDrop_X3_pawnColumns : GoodIn wsX3_whyNoDrop (wsV RX3 98 RX3 yX3_pawnColumns wsX3_pawnColumns) := goodIn_app (goodIn_of _ (by decide +kernel)) ggX3_whyNoDrop_X3_pawnColumns
set_option maxRecDepth 20000 in
theorem ggX3_whyNoDrop_X3_safeDrops : GoodIn wsX3_whyNoDrop wsX3_safeDrops := goodIn_r _ [37, 1, 2, 3, 4, 5, 6, 7, 38, 39, 40, 41, 12, 13, 14, 42, 43, 44, 45, 46, 17, 18, 19, 20, 32, 33, 47, 48, 49, 50, 51, 52, 53, 54, 55, 56, 57, 58, 59, 60, 115, 116, 117, 118, 119, 120, 121, 122] (by decide +kernel) (by decide +kernel)
set_option maxRecDepth 20000 in
theorem gX3_whyNoDrop_X3_safeDrops : GoodIn wsX3_whyNoDrop (wsV RX3 101 RX3 yX3_safeDrops wsX3_safeDrops) := goodIn_app (goodIn_of _ (by decide +kernel)) ggX3_whyNoDrop_X3_safeDrops
set_option maxRecDepth 20000 in
theorem ggX3_whyNoDrop_X4_bit : GoodIn wsX3_whyNoDrop wsX4_bit := goodIn_r _ [60] (by decide +kernel) (by decide +kernel)
set_option maxRecDepth 20000 in
theorem gX3_whyNoDrop_X4_bit_n104 : GoodIn wsX3_whyNoDrop (wsX4_bit) := ggX3_whyNoDrop_X4_bit
set_option maxRecDepth 20000 in
theorem ggX3_whyNoDrop_X3_withoutMates : GoodIn wsX3_whyNoDrop wsX3_withoutMates := goodIn_r _ [64, 1, 24, 13, 25, 65, 66, 67, 68, 69, 5, 70, 71, 3, 4, 6, 7, 72, 73, 74, 75, 76, 9, 10, 11, 12, 14, 15, 16, 77, 78, 79, 80, 32, 33, 81, 48, 49, 50, 51, 52, 53, 54, 55, 56, 57, 58, 82, 18, 19, 20, 83, 84, 85, 86, 87, 88, 89, 29, 90, 2, 38, 39, 40, 41, 42, 43, 44, 45, 46, 91, 92, 93, 94, 17, 95, 96, 97, 98, 99, 100, 101, 102, 103, 104, 105, 106, 47, 59, 60, 34, 35, 36, 37, 107, 108, 109, 110, 8, 21, 22, 23, 26, 27, 28, 30, 31, 111, 112, 113, 114, 115, 116, 117, 118, 119, 120, 121, 122] (by decide +kernel) (by decide +kernel)
set_option maxRecDepth 20000 in
theorem gX3_whyNoDrop_X3_withoutMates : GoodIn wsX3_whyNoDrop (wsV RX3 107 RX3 yX3_withoutMates wsX3_withoutMates) := goodIn_app (goodIn_of _ (by decide +kernel)) ggX3_whyNoDrop_X3_withoutMates
theorem dX3_whyNoDrop_0 : decode cX3_whyNoDrop 0 = .ok (.aload_n 0, 1) := by decide +kernel
theorem dX3_whyNoDrop_1 : decode cX3_whyNoDrop 1 = .ok (.getfield 28, 3) := by decide +kernel
theorem dX3_whyNoDrop_4 : decode cX3_whyNoDrop 4 = .ok (.invokevirtual 32, 3) := by decide +kernel
theorem dX3_whyNoDrop_7 : decode cX3_whyNoDrop 7 = .ok (.istore_n 3, 1) := by decide +kernel
theorem dX3_whyNoDrop_8 : decode cX3_whyNoDrop 8 = .ok (.aload_n 0, 1) := by decide +kernel
theorem dX3_whyNoDrop_9 : decode cX3_whyNoDrop 9 = .ok (.getfield 28, 3) := by decide +kernel
theorem dX3_whyNoDrop_12 : decode cX3_whyNoDrop 12 = .ok (.iload_n 3, 1) := by decide +kernel
theorem dX3_whyNoDrop_13 : decode cX3_whyNoDrop 13 = .ok (.iload_n 1, 1) := by decide +kernel
theorem dX3_whyNoDrop_14 : decode cX3_whyNoDrop 14 = .ok (.invokevirtual 92, 3) := by decide +kernel
theorem dX3_whyNoDrop_17 : decode cX3_whyNoDrop 17 = .ok (.ifCond .ne 5, 3) := by decide +kernel
theorem dX3_whyNoDrop_20 : decode cX3_whyNoDrop 20 = .ok (.iconst 1, 1) := by decide +kernel
theorem dX3_whyNoDrop_21 : decode cX3_whyNoDrop 21 = .ok (.ireturn, 1) := by decide +kernel
theorem dX3_whyNoDrop_22 : decode cX3_whyNoDrop 22 = .ok (.aload_n 0, 1) := by decide +kernel
theorem dX3_whyNoDrop_23 : decode cX3_whyNoDrop 23 = .ok (.getfield 28, 3) := by decide +kernel
theorem dX3_whyNoDrop_26 : decode cX3_whyNoDrop 26 = .ok (.iload_n 2, 1) := by decide +kernel
theorem dX3_whyNoDrop_27 : decode cX3_whyNoDrop 27 = .ok (.invokevirtual 67, 3) := by decide +kernel
theorem dX3_whyNoDrop_30 : decode cX3_whyNoDrop 30 = .ok (.bipush 99, 2) := by decide +kernel
theorem dX3_whyNoDrop_32 : decode cX3_whyNoDrop 32 = .ok (.if_icmp .eq 5, 3) := by decide +kernel
theorem dX3_whyNoDrop_35 : decode cX3_whyNoDrop 35 = .ok (.iconst 2, 1) := by decide +kernel
theorem dX3_whyNoDrop_36 : decode cX3_whyNoDrop 36 = .ok (.ireturn, 1) := by decide +kernel
theorem dX3_whyNoDrop_37 : decode cX3_whyNoDrop 37 = .ok (.iload_n 1, 1) := by decide +kernel
theorem dX3_whyNoDrop_38 : decode cX3_whyNoDrop 38 = .ok (.iconst 5, 1) := by decide +kernel
theorem dX3_whyNoDrop_39 : decode cX3_whyNoDrop 39 = .ok (.if_icmp .ne 16, 3) := by decide +kernel
theorem dX3_whyNoDrop_42 : decode cX3_whyNoDrop 42 = .ok (.iload_n 3, 1) := by decide +kernel
theorem dX3_whyNoDrop_43 : decode cX3_whyNoDrop 43 = .ok (.invokestatic 95, 3) := by decide +kernel
theorem dX3_whyNoDrop_46 : decode cX3_whyNoDrop 46 = .ok (.iload_n 2, 1) := by decide +kernel
theorem dX3_whyNoDrop_47 : decode cX3_whyNoDrop 47 = .ok (.invokestatic 76, 3) := by decide +kernel
theorem dX3_whyNoDrop_50 : decode cX3_whyNoDrop 50 = .ok (.ifCond .eq 5, 3) := by decide +kernel
theorem dX3_whyNoDrop_53 : decode cX3_whyNoDrop 53 = .ok (.iconst 3, 1) := by decide +kernel
theorem dX3_whyNoDrop_54 : decode cX3_whyNoDrop 54 = .ok (.ireturn, 1) := by decide +kernel
theorem dX3_whyNoDrop_55 : decode cX3_whyNoDrop 55 = .ok (.iload_n 1, 1) := by decide +kernel
theorem dX3_whyNoDrop_56 : decode cX3_whyNoDrop 56 = .ok (.iconst 5, 1) := by decide +kernel
theorem dX3_whyNoDrop_57 : decode cX3_whyNoDrop 57 = .ok (.if_icmp .ne 17, 3) := by decide +kernel
theorem dX3_whyNoDrop_60 : decode cX3_whyNoDrop 60 = .ok (.aload_n 0, 1) := by decide +kernel
theorem dX3_whyNoDrop_61 : decode cX3_whyNoDrop 61 = .ok (.iload_n 3, 1) := by decide +kernel
theorem dX3_whyNoDrop_62 : decode cX3_whyNoDrop 62 = .ok (.invokevirtual 98, 3) := by decide +kernel
theorem dX3_whyNoDrop_65 : decode cX3_whyNoDrop 65 = .ok (.iload_n 2, 1) := by decide +kernel
theorem dX3_whyNoDrop_66 : decode cX3_whyNoDrop 66 = .ok (.invokestatic 76, 3) := by decide +kernel
theorem dX3_whyNoDrop_69 : decode cX3_whyNoDrop 69 = .ok (.ifCond .eq 5, 3) := by decide +kernel
theorem dX3_whyNoDrop_72 : decode cX3_whyNoDrop 72 = .ok (.iconst 4, 1) := by decide +kernel
theorem dX3_whyNoDrop_73 : decode cX3_whyNoDrop 73 = .ok (.ireturn, 1) := by decide +kernel
theorem dX3_whyNoDrop_74 : decode cX3_whyNoDrop 74 = .ok (.aload_n 0, 1) := by decide +kernel
theorem dX3_whyNoDrop_75 : decode cX3_whyNoDrop 75 = .ok (.invokevirtual 101, 3) := by decide +kernel
theorem dX3_whyNoDrop_78 : decode cX3_whyNoDrop 78 = .ok (.iload_n 2, 1) := by decide +kernel
theorem dX3_whyNoDrop_79 : decode cX3_whyNoDrop 79 = .ok (.invokestatic 76, 3) := by decide +kernel
theorem dX3_whyNoDrop_82 : decode cX3_whyNoDrop 82 = .ok (.ifCond .ne 5, 3) := by decide +kernel
theorem dX3_whyNoDrop_85 : decode cX3_whyNoDrop 85 = .ok (.iconst 5, 1) := by decide +kernel
theorem dX3_whyNoDrop_86 : decode cX3_whyNoDrop 86 = .ok (.ireturn, 1) := by decide +kernel
theorem dX3_whyNoDrop_87 : decode cX3_whyNoDrop 87 = .ok (.iload_n 1, 1) := by decide +kernel
theorem dX3_whyNoDrop_88 : decode cX3_whyNoDrop 88 = .ok (.iconst 5, 1) := by decide +kernel
theorem dX3_whyNoDrop_89 : decode cX3_whyNoDrop 89 = .ok (.if_icmp .ne 19, 3) := by decide +kernel
theorem dX3_whyNoDrop_92 : decode cX3_whyNoDrop 92 = .ok (.aload_n 0, 1) := by decide +kernel
theorem dX3_whyNoDrop_93 : decode cX3_whyNoDrop 93 = .ok (.iload_n 2, 1) := by decide +kernel
theorem dX3_whyNoDrop_94 : decode cX3_whyNoDrop 94 = .ok (.invokestatic 104, 3) := by decide +kernel
theorem dX3_whyNoDrop_97 : decode cX3_whyNoDrop 97 = .ok (.invokevirtual 107, 3) := by decide +kernel
theorem dX3_whyNoDrop_100 : decode cX3_whyNoDrop 100 = .ok (.ifCond .ne 8, 3) := by decide +kernel
theorem dX3_whyNoDrop_103 : decode cX3_whyNoDrop 103 = .ok (.bipush 6, 2) := by decide +kernel
theorem dX3_whyNoDrop_105 : decode cX3_whyNoDrop 105 = .ok (.goto 4, 3) := by decide +kernel
theorem dX3_whyNoDrop_108 : decode cX3_whyNoDrop 108 = .ok (.iconst 0, 1) := by decide +kernel
theorem dX3_whyNoDrop_109 : decode cX3_whyNoDrop 109 = .ok (.ireturn, 1) := by decide +kernel
set_option maxRecDepth 20000 in
theorem ggX3_listPlays_X4_moveNumber : GoodIn wsX3_listPlays wsX4_moveNumber := goodIn_r _ [7] (by decide +kernel) (by decide +kernel)
set_option maxRecDepth 20000 in
theorem gX3_listPlays_X4_moveNumber_n110 : GoodIn wsX3_listPlays (wsX4_moveNumber) := ggX3_listPlays_X4_moveNumber
set_option maxRecDepth 20000 in
theorem ggX3_listPlays_X3_addPlays : GoodIn wsX3_listPlays wsX3_addPlays := goodIn_r _ [12, 1, 13, 14, 6, 15, 18, 19, 20, 21, 22, 23] (by decide +kernel) (by decide +kernel)
set_option maxRecDepth 20000 in
theorem gX3_listPlays_X3_addPlays : GoodIn wsX3_listPlays (wsV RX3 113 RX3 yX3_addPlays wsX3_addPlays) := goodIn_app (goodIn_of _ (by decide +kernel)) ggX3_listPlays_X3_addPlays
set_option maxRecDepth 20000 in
theorem ggX3_listPlays_X4_dropNumber : GoodIn wsX3_listPlays wsX4_dropNumber := goodIn_r _ [17] (by decide +kernel) (by decide +kernel)
set_option maxRecDepth 20000 in
theorem gX3_listPlays_X4_dropNumber_n117 : GoodIn wsX3_listPlays (wsX4_dropNumber) := ggX3_listPlays_X4_dropNumber
theorem dX3_listPlays_0 : decode cX3_listPlays 0 = .ok (.aload_n 0, 1) := by decide +kernel
theorem dX3_listPlays_1 : decode cX3_listPlays 1 = .ok (.iconst 0, 1) := by decide +kernel
theorem dX3_listPlays_2 : decode cX3_listPlays 2 = .ok (.putfield 24, 3) := by decide +kernel
theorem dX3_listPlays_5 : decode cX3_listPlays 5 = .ok (.iconst 0, 1) := by decide +kernel
theorem dX3_listPlays_6 : decode cX3_listPlays 6 = .ok (.istore_n 1, 1) := by decide +kernel
theorem dX3_listPlays_7 : decode cX3_listPlays 7 = .ok (.iload_n 1, 1) := by decide +kernel
theorem dX3_listPlays_8 : decode cX3_listPlays 8 = .ok (.bipush 25, 2) := by decide +kernel
theorem dX3_listPlays_10 : decode cX3_listPlays 10 = .ok (.if_icmp .ge 25, 3) := by decide +kernel
theorem dX3_listPlays_13 : decode cX3_listPlays 13 = .ok (.aload_n 0, 1) := by decide +kernel
theorem dX3_listPlays_14 : decode cX3_listPlays 14 = .ok (.aload_n 0, 1) := by decide +kernel
theorem dX3_listPlays_15 : decode cX3_listPlays 15 = .ok (.getfield 9, 3) := by decide +kernel
theorem dX3_listPlays_18 : decode cX3_listPlays 18 = .ok (.iload_n 1, 1) := by decide +kernel
theorem dX3_listPlays_19 : decode cX3_listPlays 19 = .ok (.iaload, 1) := by decide +kernel
theorem dX3_listPlays_20 : decode cX3_listPlays 20 = .ok (.iload_n 1, 1) := by decide +kernel
theorem dX3_listPlays_21 : decode cX3_listPlays 21 = .ok (.iconst 0, 1) := by decide +kernel
theorem dX3_listPlays_22 : decode cX3_listPlays 22 = .ok (.iconst 0, 1) := by decide +kernel
theorem dX3_listPlays_23 : decode cX3_listPlays 23 = .ok (.invokestatic 110, 3) := by decide +kernel
theorem dX3_listPlays_26 : decode cX3_listPlays 26 = .ok (.invokevirtual 113, 3) := by decide +kernel
theorem dX3_listPlays_29 : decode cX3_listPlays 29 = .ok (.iinc 1 1, 3) := by decide +kernel
theorem dX3_listPlays_32 : decode cX3_listPlays 32 = .ok (.goto (-25), 3) := by decide +kernel
theorem dX3_listPlays_35 : decode cX3_listPlays 35 = .ok (.iconst 0, 1) := by decide +kernel
theorem dX3_listPlays_36 : decode cX3_listPlays 36 = .ok (.istore_n 1, 1) := by decide +kernel
theorem dX3_listPlays_37 : decode cX3_listPlays 37 = .ok (.iload_n 1, 1) := by decide +kernel
theorem dX3_listPlays_38 : decode cX3_listPlays 38 = .ok (.bipush 25, 2) := by decide +kernel
theorem dX3_listPlays_40 : decode cX3_listPlays 40 = .ok (.if_icmp .ge 25, 3) := by decide +kernel
theorem dX3_listPlays_43 : decode cX3_listPlays 43 = .ok (.aload_n 0, 1) := by decide +kernel
theorem dX3_listPlays_44 : decode cX3_listPlays 44 = .ok (.aload_n 0, 1) := by decide +kernel
theorem dX3_listPlays_45 : decode cX3_listPlays 45 = .ok (.getfield 15, 3) := by decide +kernel
theorem dX3_listPlays_48 : decode cX3_listPlays 48 = .ok (.iload_n 1, 1) := by decide +kernel
theorem dX3_listPlays_49 : decode cX3_listPlays 49 = .ok (.iaload, 1) := by decide +kernel
theorem dX3_listPlays_50 : decode cX3_listPlays 50 = .ok (.iload_n 1, 1) := by decide +kernel
theorem dX3_listPlays_51 : decode cX3_listPlays 51 = .ok (.iconst 0, 1) := by decide +kernel
theorem dX3_listPlays_52 : decode cX3_listPlays 52 = .ok (.iconst 1, 1) := by decide +kernel
theorem dX3_listPlays_53 : decode cX3_listPlays 53 = .ok (.invokestatic 110, 3) := by decide +kernel
theorem dX3_listPlays_56 : decode cX3_listPlays 56 = .ok (.invokevirtual 113, 3) := by decide +kernel
theorem dX3_listPlays_59 : decode cX3_listPlays 59 = .ok (.iinc 1 1, 3) := by decide +kernel
theorem dX3_listPlays_62 : decode cX3_listPlays 62 = .ok (.goto (-25), 3) := by decide +kernel
theorem dX3_listPlays_65 : decode cX3_listPlays 65 = .ok (.iconst 1, 1) := by decide +kernel
theorem dX3_listPlays_66 : decode cX3_listPlays 66 = .ok (.istore_n 1, 1) := by decide +kernel
theorem dX3_listPlays_67 : decode cX3_listPlays 67 = .ok (.iload_n 1, 1) := by decide +kernel
theorem dX3_listPlays_68 : decode cX3_listPlays 68 = .ok (.iconst 5, 1) := by decide +kernel
theorem dX3_listPlays_69 : decode cX3_listPlays 69 = .ok (.if_icmp .gt 24, 3) := by decide +kernel
theorem dX3_listPlays_72 : decode cX3_listPlays 72 = .ok (.aload_n 0, 1) := by decide +kernel
theorem dX3_listPlays_73 : decode cX3_listPlays 73 = .ok (.aload_n 0, 1) := by decide +kernel
theorem dX3_listPlays_74 : decode cX3_listPlays 74 = .ok (.getfield 18, 3) := by decide +kernel
theorem dX3_listPlays_77 : decode cX3_listPlays 77 = .ok (.iload_n 1, 1) := by decide +kernel
theorem dX3_listPlays_78 : decode cX3_listPlays 78 = .ok (.iaload, 1) := by decide +kernel
theorem dX3_listPlays_79 : decode cX3_listPlays 79 = .ok (.iload_n 1, 1) := by decide +kernel
theorem dX3_listPlays_80 : decode cX3_listPlays 80 = .ok (.iconst 0, 1) := by decide +kernel
theorem dX3_listPlays_81 : decode cX3_listPlays 81 = .ok (.invokestatic 117, 3) := by decide +kernel
theorem dX3_listPlays_84 : decode cX3_listPlays 84 = .ok (.invokevirtual 113, 3) := by decide +kernel
theorem dX3_listPlays_87 : decode cX3_listPlays 87 = .ok (.iinc 1 1, 3) := by decide +kernel
theorem dX3_listPlays_90 : decode cX3_listPlays 90 = .ok (.goto (-23), 3) := by decide +kernel
theorem dX3_listPlays_93 : decode cX3_listPlays 93 = .ok (.aload_n 0, 1) := by decide +kernel
theorem dX3_listPlays_94 : decode cX3_listPlays 94 = .ok (.getfield 24, 3) := by decide +kernel
theorem dX3_listPlays_97 : decode cX3_listPlays 97 = .ok (.ireturn, 1) := by decide +kernel
theorem dX3_listed_0 : decode cX3_listed 0 = .ok (.iload_n 1, 1) := by decide +kernel
theorem dX3_listed_1 : decode cX3_listed 1 = .ok (.ifCond .lt 29, 3) := by decide +kernel
theorem dX3_listed_4 : decode cX3_listed 4 = .ok (.iload_n 1, 1) := by decide +kernel
theorem dX3_listed_5 : decode cX3_listed 5 = .ok (.aload_n 0, 1) := by decide +kernel
theorem dX3_listed_6 : decode cX3_listed 6 = .ok (.getfield 24, 3) := by decide +kernel
theorem dX3_listed_9 : decode cX3_listed 9 = .ok (.if_icmp .ge 21, 3) := by decide +kernel
theorem dX3_listed_12 : decode cX3_listed 12 = .ok (.iload_n 1, 1) := by decide +kernel
theorem dX3_listed_13 : decode cX3_listed 13 = .ok (.aload_n 0, 1) := by decide +kernel
theorem dX3_listed_14 : decode cX3_listed 14 = .ok (.getfield 21, 3) := by decide +kernel
theorem dX3_listed_17 : decode cX3_listed 17 = .ok (.arraylength, 1) := by decide +kernel
theorem dX3_listed_18 : decode cX3_listed 18 = .ok (.if_icmp .ge 12, 3) := by decide +kernel
theorem dX3_listed_21 : decode cX3_listed 21 = .ok (.aload_n 0, 1) := by decide +kernel
theorem dX3_listed_22 : decode cX3_listed 22 = .ok (.getfield 21, 3) := by decide +kernel
theorem dX3_listed_25 : decode cX3_listed 25 = .ok (.iload_n 1, 1) := by decide +kernel
theorem dX3_listed_26 : decode cX3_listed 26 = .ok (.iaload, 1) := by decide +kernel
theorem dX3_listed_27 : decode cX3_listed 27 = .ok (.goto 6, 3) := by decide +kernel
theorem dX3_listed_30 : decode cX3_listed 30 = .ok (.sipush (-1005), 3) := by decide +kernel
theorem dX3_listed_33 : decode cX3_listed 33 = .ok (.ireturn, 1) := by decide +kernel
set_option maxRecDepth 20000 in
theorem ggX3_addPlays_X4_has : GoodIn wsX3_addPlays wsX4_has := goodIn_r _ [5] (by decide +kernel) (by decide +kernel)
set_option maxRecDepth 20000 in
theorem gX3_addPlays_X4_has_n76 : GoodIn wsX3_addPlays (wsX4_has) := ggX3_addPlays_X4_has
theorem dX3_addPlays_0 : decode cX3_addPlays 0 = .ok (.iconst 0, 1) := by decide +kernel
theorem dX3_addPlays_1 : decode cX3_addPlays 1 = .ok (.istore_n 3, 1) := by decide +kernel
theorem dX3_addPlays_2 : decode cX3_addPlays 2 = .ok (.iload_n 3, 1) := by decide +kernel
theorem dX3_addPlays_3 : decode cX3_addPlays 3 = .ok (.bipush 25, 2) := by decide +kernel
theorem dX3_addPlays_5 : decode cX3_addPlays 5 = .ok (.if_icmp .ge 58, 3) := by decide +kernel
theorem dX3_addPlays_8 : decode cX3_addPlays 8 = .ok (.iload_n 1, 1) := by decide +kernel
theorem dX3_addPlays_9 : decode cX3_addPlays 9 = .ok (.iload_n 3, 1) := by decide +kernel
theorem dX3_addPlays_10 : decode cX3_addPlays 10 = .ok (.invokestatic 76, 3) := by decide +kernel
theorem dX3_addPlays_13 : decode cX3_addPlays 13 = .ok (.ifCond .eq 44, 3) := by decide +kernel
theorem dX3_addPlays_16 : decode cX3_addPlays 16 = .ok (.aload_n 0, 1) := by decide +kernel
theorem dX3_addPlays_17 : decode cX3_addPlays 17 = .ok (.getfield 24, 3) := by decide +kernel
theorem dX3_addPlays_20 : decode cX3_addPlays 20 = .ok (.ifCond .lt 37, 3) := by decide +kernel
theorem dX3_addPlays_23 : decode cX3_addPlays 23 = .ok (.aload_n 0, 1) := by decide +kernel
theorem dX3_addPlays_24 : decode cX3_addPlays 24 = .ok (.getfield 24, 3) := by decide +kernel
theorem dX3_addPlays_27 : decode cX3_addPlays 27 = .ok (.aload_n 0, 1) := by decide +kernel
theorem dX3_addPlays_28 : decode cX3_addPlays 28 = .ok (.getfield 21, 3) := by decide +kernel
theorem dX3_addPlays_31 : decode cX3_addPlays 31 = .ok (.arraylength, 1) := by decide +kernel
theorem dX3_addPlays_32 : decode cX3_addPlays 32 = .ok (.if_icmp .ge 25, 3) := by decide +kernel
theorem dX3_addPlays_35 : decode cX3_addPlays 35 = .ok (.aload_n 0, 1) := by decide +kernel
theorem dX3_addPlays_36 : decode cX3_addPlays 36 = .ok (.getfield 21, 3) := by decide +kernel
theorem dX3_addPlays_39 : decode cX3_addPlays 39 = .ok (.aload_n 0, 1) := by decide +kernel
theorem dX3_addPlays_40 : decode cX3_addPlays 40 = .ok (.getfield 24, 3) := by decide +kernel
theorem dX3_addPlays_43 : decode cX3_addPlays 43 = .ok (.iload_n 2, 1) := by decide +kernel
theorem dX3_addPlays_44 : decode cX3_addPlays 44 = .ok (.iload_n 3, 1) := by decide +kernel
theorem dX3_addPlays_45 : decode cX3_addPlays 45 = .ok (.iadd, 1) := by decide +kernel
theorem dX3_addPlays_46 : decode cX3_addPlays 46 = .ok (.iastore, 1) := by decide +kernel
theorem dX3_addPlays_47 : decode cX3_addPlays 47 = .ok (.aload_n 0, 1) := by decide +kernel
theorem dX3_addPlays_48 : decode cX3_addPlays 48 = .ok (.dup, 1) := by decide +kernel
theorem dX3_addPlays_49 : decode cX3_addPlays 49 = .ok (.getfield 24, 3) := by decide +kernel
theorem dX3_addPlays_52 : decode cX3_addPlays 52 = .ok (.iconst 1, 1) := by decide +kernel
theorem dX3_addPlays_53 : decode cX3_addPlays 53 = .ok (.iadd, 1) := by decide +kernel
theorem dX3_addPlays_54 : decode cX3_addPlays 54 = .ok (.putfield 24, 3) := by decide +kernel
theorem dX3_addPlays_57 : decode cX3_addPlays 57 = .ok (.iinc 3 1, 3) := by decide +kernel
theorem dX3_addPlays_60 : decode cX3_addPlays 60 = .ok (.goto (-58), 3) := by decide +kernel
theorem dX3_addPlays_63 : decode cX3_addPlays 63 = .ok (.return_, 1) := by decide +kernel
set_option maxRecDepth 20000 in
theorem ggX3_findPlays_X2_sideToPlay : GoodIn wsX3_findPlays wsX2_sideToPlay := goodIn_r _ [9, 10, 140, 141] (by decide +kernel) (by decide +kernel)
set_option maxRecDepth 20000 in
theorem gX3_findPlays_X2_sideToPlay : GoodIn wsX3_findPlays (wsV RX3 32 RX2 yX2_sideToPlay wsX2_sideToPlay) := goodIn_app (goodIn_of _ (by decide +kernel)) ggX3_findPlays_X2_sideToPlay
set_option maxRecDepth 20000 in
theorem ggX3_findPlays_X2_manOn : GoodIn wsX3_findPlays wsX2_manOn := goodIn_r _ [14, 10, 140, 141] (by decide +kernel) (by decide +kernel)
set_option maxRecDepth 20000 in
theorem gX3_findPlays_X2_manOn : GoodIn wsX3_findPlays (wsV RX3 67 RX2 yX2_manOn wsX2_manOn) := goodIn_app (goodIn_of _ (by decide +kernel)) ggX3_findPlays_X2_manOn
set_option maxRecDepth 20000 in
theorem ggX3_findPlays_X4_sideOf : GoodIn wsX3_findPlays wsX4_sideOf := goodIn_r _ [17] (by decide +kernel) (by decide +kernel)
set_option maxRecDepth 20000 in
theorem gX3_findPlays_X4_sideOf_n70 : GoodIn wsX3_findPlays (wsX4_sideOf) := ggX3_findPlays_X4_sideOf
set_option maxRecDepth 20000 in
theorem ggX3_findPlays_X3_safeTargets : GoodIn wsX3_findPlays wsX3_safeTargets := goodIn_r _ [22, 1, 11, 12, 13, 8, 14, 10, 15, 16, 17, 23, 24, 25, 26, 27, 28, 29, 30, 31, 32, 33, 21, 34, 35, 36, 37, 38, 39, 40, 41, 42, 43, 44, 45, 46, 47, 48, 49, 50, 51, 52, 53, 54, 55, 56, 134, 135, 136, 137, 138, 139, 140, 141] (by decide +kernel) (by decide +kernel)
set_option maxRecDepth 20000 in
theorem gX3_findPlays_X3_safeTargets : GoodIn wsX3_findPlays (wsV RX3 89 RX3 yX3_safeTargets wsX3_safeTargets) := goodIn_app (goodIn_of _ (by decide +kernel)) ggX3_findPlays_X3_safeTargets
set_option maxRecDepth 20000 in
theorem ggX3_findPlays_X3_forcingSquares : GoodIn wsX3_findPlays wsX3_forcingSquares := goodIn_r _ [60, 1, 11, 12, 13, 8, 14, 10, 35, 16, 36, 15, 17, 61, 62, 63, 134, 135, 136, 137, 138, 139, 140, 141] (by decide +kernel) (by decide +kernel)
set_option maxRecDepth 20000 in
theorem gX3_findPlays_X3_forcingSquares : GoodIn wsX3_findPlays (wsV RX3 86 RX3 yX3_forcingSquares wsX3_forcingSquares) := goodIn_app (goodIn_of _ (by decide +kernel)) ggX3_findPlays_X3_forcingSquares
set_option maxRecDepth 20000 in
theorem ggX3_findPlays_X3_promotingSquares : GoodIn wsX3_findPlays wsX3_promotingSquares := goodIn_r _ [67, 1, 68, 11, 12, 13, 8, 14, 10, 35, 16, 36, 15, 17, 61, 62, 63, 29, 30, 134, 135, 136, 137, 138, 139, 140, 141] (by decide +kernel) (by decide +kernel)
set_option maxRecDepth 20000 in
theorem gX3_findPlays_X3_promotingSquares : GoodIn wsX3_findPlays (wsV RX3 83 RX3 yX3_promotingSquares wsX3_promotingSquares) := goodIn_app (goodIn_of _ (by decide +kernel)) ggX3_findPlays_X3_promotingSquares
set_option maxRecDepth 20000 in
theorem ggX3_findPlays_J6_bitCount_0f7a4 : GoodIn wsX3_findPlays wsJ6_bitCount_0f7a4 := goodIn_r _ [72, 73, 74, 75] (by decide +kernel) (by decide +kernel)
set_option maxRecDepth 20000 in
theorem gX3_findPlays_J6_bitCount_0f7a4 : GoodIn wsX3_findPlays (va_wsS RX3 120 yJ6_bitCount_0f7a4 wsJ6_bitCount_0f7a4) := goodIn_app (goodIn_of _ (by decide +kernel)) ggX3_findPlays_J6_bitCount_0f7a4
set_option maxRecDepth 20000 in
theorem ggX3_findPlays_X3_safeDrops : GoodIn wsX3_findPlays wsX3_safeDrops := goodIn_r _ [79, 1, 5, 6, 7, 8, 9, 10, 45, 46, 47, 48, 49, 16, 50, 51, 52, 53, 54, 27, 11, 12, 13, 14, 80, 81, 37, 38, 39, 40, 41, 42, 43, 44, 35, 36, 15, 17, 55, 56, 134, 135, 136, 137, 138, 139, 140, 141] (by decide +kernel) (by decide +kernel)
set_option maxRecDepth 20000 in
theorem gX3_findPlays_X3_safeDrops : GoodIn wsX3_findPlays (wsV RX3 101 RX3 yX3_safeDrops wsX3_safeDrops) := goodIn_app (goodIn_of _ (by decide +kernel)) ggX3_findPlays_X3_safeDrops
set_option maxRecDepth 20000 in
theorem ggX3_findPlays_X3_openToDrops : GoodIn wsX3_findPlays wsX3_openToDrops := goodIn_r _ [85, 1, 5, 6, 7, 8, 9, 10, 86, 87, 88, 89, 49, 16, 50, 90, 91, 61, 62, 63, 92, 93, 94, 21, 95, 96, 11, 12, 13, 14, 80, 81, 134, 135, 136, 137, 138, 139, 140, 141] (by decide +kernel) (by decide +kernel)
set_option maxRecDepth 20000 in
theorem gX3_findPlays_X3_openToDrops : GoodIn wsX3_findPlays (wsV RX3 125 RX3 yX3_openToDrops wsX3_openToDrops) := goodIn_app (goodIn_of _ (by decide +kernel)) ggX3_findPlays_X3_openToDrops
set_option maxRecDepth 20000 in
theorem ggX3_findPlays_X3_withoutMates : GoodIn wsX3_findPlays wsX3_withoutMates := goodIn_r _ [100, 1, 29, 16, 30, 101, 102, 103, 104, 105, 8, 106, 107, 6, 7, 9, 10, 108, 109, 110, 111, 112, 87, 88, 89, 49, 50, 90, 91, 113, 114, 115, 116, 80, 81, 117, 38, 39, 40, 41, 42, 43, 44, 35, 36, 15, 17, 28, 12, 13, 14, 118, 119, 120, 121, 122, 123, 124, 21, 125, 5, 45, 46, 47, 48, 51, 52, 53, 54, 27, 126, 127, 128, 129, 11, 18, 19, 20, 22, 23, 24, 25, 26, 31, 32, 33, 34, 37, 55, 56, 76, 77, 78, 79, 82, 83, 84, 85, 86, 61, 62, 63, 92, 93, 94, 95, 96, 130, 131, 132, 133, 134, 135, 136, 137, 138, 139, 140, 141] (by decide +kernel) (by decide +kernel)
set_option maxRecDepth 20000 in
theorem gX3_findPlays_X3_withoutMates : GoodIn wsX3_findPlays (wsV RX3 107 RX3 yX3_withoutMates wsX3_withoutMates) := goodIn_app (goodIn_of _ (by decide +kernel)) ggX3_findPlays_X3_withoutMates
theorem dX3_findPlays_0 : decode cX3_findPlays 0 = .ok (.aload_n 0, 1) := by decide +kernel
theorem dX3_findPlays_1 : decode cX3_findPlays 1 = .ok (.getfield 28, 3) := by decide +kernel
theorem dX3_findPlays_4 : decode cX3_findPlays 4 = .ok (.invokevirtual 32, 3) := by decide +kernel
theorem dX3_findPlays_7 : decode cX3_findPlays 7 = .ok (.istore_n 1, 1) := by decide +kernel
theorem dX3_findPlays_8 : decode cX3_findPlays 8 = .ok (.iconst 0, 1) := by decide +kernel
theorem dX3_findPlays_9 : decode cX3_findPlays 9 = .ok (.istore_n 2, 1) := by decide +kernel
theorem dX3_findPlays_10 : decode cX3_findPlays 10 = .ok (.iconst 0, 1) := by decide +kernel
theorem dX3_findPlays_11 : decode cX3_findPlays 11 = .ok (.istore_n 3, 1) := by decide +kernel
theorem dX3_findPlays_12 : decode cX3_findPlays 12 = .ok (.iload_n 3, 1) := by decide +kernel
theorem dX3_findPlays_13 : decode cX3_findPlays 13 = .ok (.bipush 25, 2) := by decide +kernel
theorem dX3_findPlays_15 : decode cX3_findPlays 15 = .ok (.if_icmp .ge 99, 3) := by decide +kernel
theorem dX3_findPlays_18 : decode cX3_findPlays 18 = .ok (.aload_n 0, 1) := by decide +kernel
theorem dX3_findPlays_19 : decode cX3_findPlays 19 = .ok (.getfield 28, 3) := by decide +kernel
theorem dX3_findPlays_22 : decode cX3_findPlays 22 = .ok (.iload_n 3, 1) := by decide +kernel
theorem dX3_findPlays_23 : decode cX3_findPlays 23 = .ok (.invokevirtual 67, 3) := by decide +kernel
theorem dX3_findPlays_26 : decode cX3_findPlays 26 = .ok (.invokestatic 70, 3) := by decide +kernel
theorem dX3_findPlays_29 : decode cX3_findPlays 29 = .ok (.iload_n 1, 1) := by decide +kernel
theorem dX3_findPlays_30 : decode cX3_findPlays 30 = .ok (.if_icmp .ne 7, 3) := by decide +kernel
theorem dX3_findPlays_33 : decode cX3_findPlays 33 = .ok (.iconst 1, 1) := by decide +kernel
theorem dX3_findPlays_34 : decode cX3_findPlays 34 = .ok (.goto 4, 3) := by decide +kernel
theorem dX3_findPlays_37 : decode cX3_findPlays 37 = .ok (.iconst 0, 1) := by decide +kernel
theorem dX3_findPlays_38 : decode cX3_findPlays 38 = .ok (.istore 4, 2) := by decide +kernel
theorem dX3_findPlays_40 : decode cX3_findPlays 40 = .ok (.iload 4, 2) := by decide +kernel
theorem dX3_findPlays_42 : decode cX3_findPlays 42 = .ok (.ifCond .eq 11, 3) := by decide +kernel
theorem dX3_findPlays_45 : decode cX3_findPlays 45 = .ok (.aload_n 0, 1) := by decide +kernel
theorem dX3_findPlays_46 : decode cX3_findPlays 46 = .ok (.iload_n 3, 1) := by decide +kernel
theorem dX3_findPlays_47 : decode cX3_findPlays 47 = .ok (.invokevirtual 89, 3) := by decide +kernel
theorem dX3_findPlays_50 : decode cX3_findPlays 50 = .ok (.goto 4, 3) := by decide +kernel
theorem dX3_findPlays_53 : decode cX3_findPlays 53 = .ok (.iconst 0, 1) := by decide +kernel
theorem dX3_findPlays_54 : decode cX3_findPlays 54 = .ok (.istore 5, 2) := by decide +kernel
theorem dX3_findPlays_56 : decode cX3_findPlays 56 = .ok (.aload_n 0, 1) := by decide +kernel
theorem dX3_findPlays_57 : decode cX3_findPlays 57 = .ok (.getfield 9, 3) := by decide +kernel
theorem dX3_findPlays_60 : decode cX3_findPlays 60 = .ok (.iload_n 3, 1) := by decide +kernel
theorem dX3_findPlays_61 : decode cX3_findPlays 61 = .ok (.iload 5, 2) := by decide +kernel
theorem dX3_findPlays_63 : decode cX3_findPlays 63 = .ok (.aload_n 0, 1) := by decide +kernel
theorem dX3_findPlays_64 : decode cX3_findPlays 64 = .ok (.iload_n 3, 1) := by decide +kernel
theorem dX3_findPlays_65 : decode cX3_findPlays 65 = .ok (.invokevirtual 86, 3) := by decide +kernel
theorem dX3_findPlays_68 : decode cX3_findPlays 68 = .ok (.iconst (-1), 1) := by decide +kernel
theorem dX3_findPlays_69 : decode cX3_findPlays 69 = .ok (.ixor, 1) := by decide +kernel
theorem dX3_findPlays_70 : decode cX3_findPlays 70 = .ok (.iand, 1) := by decide +kernel
theorem dX3_findPlays_71 : decode cX3_findPlays 71 = .ok (.iastore, 1) := by decide +kernel
theorem dX3_findPlays_72 : decode cX3_findPlays 72 = .ok (.aload_n 0, 1) := by decide +kernel
theorem dX3_findPlays_73 : decode cX3_findPlays 73 = .ok (.getfield 15, 3) := by decide +kernel
theorem dX3_findPlays_76 : decode cX3_findPlays 76 = .ok (.iload_n 3, 1) := by decide +kernel
theorem dX3_findPlays_77 : decode cX3_findPlays 77 = .ok (.iload 5, 2) := by decide +kernel
theorem dX3_findPlays_79 : decode cX3_findPlays 79 = .ok (.aload_n 0, 1) := by decide +kernel
theorem dX3_findPlays_80 : decode cX3_findPlays 80 = .ok (.iload_n 3, 1) := by decide +kernel
theorem dX3_findPlays_81 : decode cX3_findPlays 81 = .ok (.invokevirtual 83, 3) := by decide +kernel
theorem dX3_findPlays_84 : decode cX3_findPlays 84 = .ok (.iand, 1) := by decide +kernel
theorem dX3_findPlays_85 : decode cX3_findPlays 85 = .ok (.iastore, 1) := by decide +kernel
theorem dX3_findPlays_86 : decode cX3_findPlays 86 = .ok (.iload_n 2, 1) := by decide +kernel
theorem dX3_findPlays_87 : decode cX3_findPlays 87 = .ok (.aload_n 0, 1) := by decide +kernel
theorem dX3_findPlays_88 : decode cX3_findPlays 88 = .ok (.getfield 9, 3) := by decide +kernel
theorem dX3_findPlays_91 : decode cX3_findPlays 91 = .ok (.iload_n 3, 1) := by decide +kernel
theorem dX3_findPlays_92 : decode cX3_findPlays 92 = .ok (.iaload, 1) := by decide +kernel
theorem dX3_findPlays_93 : decode cX3_findPlays 93 = .ok (.invokestatic 120, 3) := by decide +kernel
theorem dX3_findPlays_96 : decode cX3_findPlays 96 = .ok (.aload_n 0, 1) := by decide +kernel
theorem dX3_findPlays_97 : decode cX3_findPlays 97 = .ok (.getfield 15, 3) := by decide +kernel
theorem dX3_findPlays_100 : decode cX3_findPlays 100 = .ok (.iload_n 3, 1) := by decide +kernel
theorem dX3_findPlays_101 : decode cX3_findPlays 101 = .ok (.iaload, 1) := by decide +kernel
theorem dX3_findPlays_102 : decode cX3_findPlays 102 = .ok (.invokestatic 120, 3) := by decide +kernel
theorem dX3_findPlays_105 : decode cX3_findPlays 105 = .ok (.iadd, 1) := by decide +kernel
theorem dX3_findPlays_106 : decode cX3_findPlays 106 = .ok (.iadd, 1) := by decide +kernel
theorem dX3_findPlays_107 : decode cX3_findPlays 107 = .ok (.istore_n 2, 1) := by decide +kernel
theorem dX3_findPlays_108 : decode cX3_findPlays 108 = .ok (.iinc 3 1, 3) := by decide +kernel
theorem dX3_findPlays_111 : decode cX3_findPlays 111 = .ok (.goto (-99), 3) := by decide +kernel
theorem dX3_findPlays_114 : decode cX3_findPlays 114 = .ok (.aload_n 0, 1) := by decide +kernel
theorem dX3_findPlays_115 : decode cX3_findPlays 115 = .ok (.invokevirtual 101, 3) := by decide +kernel
theorem dX3_findPlays_118 : decode cX3_findPlays 118 = .ok (.istore_n 3, 1) := by decide +kernel
theorem dX3_findPlays_119 : decode cX3_findPlays 119 = .ok (.iconst 1, 1) := by decide +kernel
theorem dX3_findPlays_120 : decode cX3_findPlays 120 = .ok (.istore 4, 2) := by decide +kernel
theorem dX3_findPlays_122 : decode cX3_findPlays 122 = .ok (.iload 4, 2) := by decide +kernel
theorem dX3_findPlays_124 : decode cX3_findPlays 124 = .ok (.iconst 5, 1) := by decide +kernel
theorem dX3_findPlays_125 : decode cX3_findPlays 125 = .ok (.if_icmp .gt 55, 3) := by decide +kernel
theorem dX3_findPlays_128 : decode cX3_findPlays 128 = .ok (.aload_n 0, 1) := by decide +kernel
theorem dX3_findPlays_129 : decode cX3_findPlays 129 = .ok (.iload 4, 2) := by decide +kernel
theorem dX3_findPlays_131 : decode cX3_findPlays 131 = .ok (.iload_n 3, 1) := by decide +kernel
theorem dX3_findPlays_132 : decode cX3_findPlays 132 = .ok (.invokevirtual 125, 3) := by decide +kernel
theorem dX3_findPlays_135 : decode cX3_findPlays 135 = .ok (.istore 5, 2) := by decide +kernel
theorem dX3_findPlays_137 : decode cX3_findPlays 137 = .ok (.aload_n 0, 1) := by decide +kernel
theorem dX3_findPlays_138 : decode cX3_findPlays 138 = .ok (.getfield 18, 3) := by decide +kernel
theorem dX3_findPlays_141 : decode cX3_findPlays 141 = .ok (.iload 4, 2) := by decide +kernel
theorem dX3_findPlays_143 : decode cX3_findPlays 143 = .ok (.iload 4, 2) := by decide +kernel
theorem dX3_findPlays_145 : decode cX3_findPlays 145 = .ok (.iconst 5, 1) := by decide +kernel
theorem dX3_findPlays_146 : decode cX3_findPlays 146 = .ok (.if_icmp .ne 12, 3) := by decide +kernel
theorem dX3_findPlays_149 : decode cX3_findPlays 149 = .ok (.aload_n 0, 1) := by decide +kernel
theorem dX3_findPlays_150 : decode cX3_findPlays 150 = .ok (.iload 5, 2) := by decide +kernel
theorem dX3_findPlays_152 : decode cX3_findPlays 152 = .ok (.invokevirtual 107, 3) := by decide +kernel
theorem dX3_findPlays_155 : decode cX3_findPlays 155 = .ok (.goto 5, 3) := by decide +kernel
theorem dX3_findPlays_158 : decode cX3_findPlays 158 = .ok (.iload 5, 2) := by decide +kernel
theorem dX3_findPlays_160 : decode cX3_findPlays 160 = .ok (.iastore, 1) := by decide +kernel
theorem dX3_findPlays_161 : decode cX3_findPlays 161 = .ok (.iload_n 2, 1) := by decide +kernel
theorem dX3_findPlays_162 : decode cX3_findPlays 162 = .ok (.aload_n 0, 1) := by decide +kernel
theorem dX3_findPlays_163 : decode cX3_findPlays 163 = .ok (.getfield 18, 3) := by decide +kernel
theorem dX3_findPlays_166 : decode cX3_findPlays 166 = .ok (.iload 4, 2) := by decide +kernel
theorem dX3_findPlays_168 : decode cX3_findPlays 168 = .ok (.iaload, 1) := by decide +kernel
theorem dX3_findPlays_169 : decode cX3_findPlays 169 = .ok (.invokestatic 120, 3) := by decide +kernel
theorem dX3_findPlays_172 : decode cX3_findPlays 172 = .ok (.iadd, 1) := by decide +kernel
theorem dX3_findPlays_173 : decode cX3_findPlays 173 = .ok (.istore_n 2, 1) := by decide +kernel
theorem dX3_findPlays_174 : decode cX3_findPlays 174 = .ok (.iinc 4 1, 3) := by decide +kernel
theorem dX3_findPlays_177 : decode cX3_findPlays 177 = .ok (.goto (-55), 3) := by decide +kernel
theorem dX3_findPlays_180 : decode cX3_findPlays 180 = .ok (.iload_n 2, 1) := by decide +kernel
theorem dX3_findPlays_181 : decode cX3_findPlays 181 = .ok (.ireturn, 1) := by decide +kernel
theorem dX3_dropSquares_0 : decode cX3_dropSquares 0 = .ok (.iload_n 1, 1) := by decide +kernel
theorem dX3_dropSquares_1 : decode cX3_dropSquares 1 = .ok (.ifCond .lt 21, 3) := by decide +kernel
theorem dX3_dropSquares_4 : decode cX3_dropSquares 4 = .ok (.iload_n 1, 1) := by decide +kernel
theorem dX3_dropSquares_5 : decode cX3_dropSquares 5 = .ok (.aload_n 0, 1) := by decide +kernel
theorem dX3_dropSquares_6 : decode cX3_dropSquares 6 = .ok (.getfield 18, 3) := by decide +kernel
theorem dX3_dropSquares_9 : decode cX3_dropSquares 9 = .ok (.arraylength, 1) := by decide +kernel
theorem dX3_dropSquares_10 : decode cX3_dropSquares 10 = .ok (.if_icmp .ge 12, 3) := by decide +kernel
theorem dX3_dropSquares_13 : decode cX3_dropSquares 13 = .ok (.aload_n 0, 1) := by decide +kernel
theorem dX3_dropSquares_14 : decode cX3_dropSquares 14 = .ok (.getfield 18, 3) := by decide +kernel
theorem dX3_dropSquares_17 : decode cX3_dropSquares 17 = .ok (.iload_n 1, 1) := by decide +kernel
theorem dX3_dropSquares_18 : decode cX3_dropSquares 18 = .ok (.iaload, 1) := by decide +kernel
theorem dX3_dropSquares_19 : decode cX3_dropSquares 19 = .ok (.goto 4, 3) := by decide +kernel
theorem dX3_dropSquares_22 : decode cX3_dropSquares 22 = .ok (.iconst 0, 1) := by decide +kernel
theorem dX3_dropSquares_23 : decode cX3_dropSquares 23 = .ok (.ireturn, 1) := by decide +kernel
set_option maxRecDepth 20000 in
theorem ggX3_canEnter_X2_manOn : GoodIn wsX3_canEnter wsX2_manOn := goodIn_r _ [6, 7, 19, 20] (by decide +kernel) (by decide +kernel)
set_option maxRecDepth 20000 in
theorem gX3_canEnter_X2_manOn : GoodIn wsX3_canEnter (wsV RX3 67 RX2 yX2_manOn wsX2_manOn) := goodIn_app (goodIn_of _ (by decide +kernel)) ggX3_canEnter_X2_manOn
set_option maxRecDepth 20000 in
theorem ggX3_canEnter_X4_sideOf : GoodIn wsX3_canEnter wsX4_sideOf := goodIn_r _ [10] (by decide +kernel) (by decide +kernel)
set_option maxRecDepth 20000 in
theorem gX3_canEnter_X4_sideOf_n70 : GoodIn wsX3_canEnter (wsX4_sideOf) := ggX3_canEnter_X4_sideOf
set_option maxRecDepth 20000 in
theorem ggX3_canEnter_X4_kindOf : GoodIn wsX3_canEnter wsX4_kindOf := goodIn_r _ [12] (by decide +kernel) (by decide +kernel)
set_option maxRecDepth 20000 in
theorem gX3_canEnter_X4_kindOf_n128 : GoodIn wsX3_canEnter (wsX4_kindOf) := ggX3_canEnter_X4_kindOf
theorem dX3_canEnter_0 : decode cX3_canEnter 0 = .ok (.aload_n 0, 1) := by decide +kernel
theorem dX3_canEnter_1 : decode cX3_canEnter 1 = .ok (.getfield 28, 3) := by decide +kernel
theorem dX3_canEnter_4 : decode cX3_canEnter 4 = .ok (.iload_n 2, 1) := by decide +kernel
theorem dX3_canEnter_5 : decode cX3_canEnter 5 = .ok (.invokevirtual 67, 3) := by decide +kernel
theorem dX3_canEnter_8 : decode cX3_canEnter 8 = .ok (.istore_n 3, 1) := by decide +kernel
theorem dX3_canEnter_9 : decode cX3_canEnter 9 = .ok (.iload_n 3, 1) := by decide +kernel
theorem dX3_canEnter_10 : decode cX3_canEnter 10 = .ok (.bipush 99, 2) := by decide +kernel
theorem dX3_canEnter_12 : decode cX3_canEnter 12 = .ok (.if_icmp .eq 18, 3) := by decide +kernel
theorem dX3_canEnter_15 : decode cX3_canEnter 15 = .ok (.iload_n 3, 1) := by decide +kernel
theorem dX3_canEnter_16 : decode cX3_canEnter 16 = .ok (.invokestatic 70, 3) := by decide +kernel
theorem dX3_canEnter_19 : decode cX3_canEnter 19 = .ok (.iload_n 1, 1) := by decide +kernel
theorem dX3_canEnter_20 : decode cX3_canEnter 20 = .ok (.if_icmp .eq 14, 3) := by decide +kernel
theorem dX3_canEnter_23 : decode cX3_canEnter 23 = .ok (.iload_n 3, 1) := by decide +kernel
theorem dX3_canEnter_24 : decode cX3_canEnter 24 = .ok (.invokestatic 128, 3) := by decide +kernel
theorem dX3_canEnter_27 : decode cX3_canEnter 27 = .ok (.ifCond .eq 7, 3) := by decide +kernel
theorem dX3_canEnter_30 : decode cX3_canEnter 30 = .ok (.iconst 1, 1) := by decide +kernel
theorem dX3_canEnter_31 : decode cX3_canEnter 31 = .ok (.goto 4, 3) := by decide +kernel
theorem dX3_canEnter_34 : decode cX3_canEnter 34 = .ok (.iconst 0, 1) := by decide +kernel
theorem dX3_canEnter_35 : decode cX3_canEnter 35 = .ok (.ireturn, 1) := by decide +kernel
set_option maxRecDepth 20000 in
theorem ggX3_promotingSquares_X2_manOn : GoodIn wsX3_promotingSquares wsX2_manOn := goodIn_r _ [7, 8, 25, 26] (by decide +kernel) (by decide +kernel)
set_option maxRecDepth 20000 in
theorem gX3_promotingSquares_X2_manOn : GoodIn wsX3_promotingSquares (wsV RX3 67 RX2 yX2_manOn wsX2_manOn) := goodIn_app (goodIn_of _ (by decide +kernel)) ggX3_promotingSquares_X2_manOn
set_option maxRecDepth 20000 in
theorem ggX3_promotingSquares_X4_kindOf : GoodIn wsX3_promotingSquares wsX4_kindOf := goodIn_r _ [11] (by decide +kernel) (by decide +kernel)
set_option maxRecDepth 20000 in
theorem gX3_promotingSquares_X4_kindOf_n128 : GoodIn wsX3_promotingSquares (wsX4_kindOf) := ggX3_promotingSquares_X4_kindOf
set_option maxRecDepth 20000 in
theorem ggX3_promotingSquares_X4_sideOf : GoodIn wsX3_promotingSquares wsX4_sideOf := goodIn_r _ [13] (by decide +kernel) (by decide +kernel)
set_option maxRecDepth 20000 in
theorem gX3_promotingSquares_X4_sideOf_n70 : GoodIn wsX3_promotingSquares (wsX4_sideOf) := ggX3_promotingSquares_X4_sideOf
set_option maxRecDepth 20000 in
theorem ggX3_promotingSquares_X4_lastRow : GoodIn wsX3_promotingSquares wsX4_lastRow := goodIn_r _ [15, 16] (by decide +kernel) (by decide +kernel)
set_option maxRecDepth 20000 in
theorem gX3_promotingSquares_X4_lastRow_n95 : GoodIn wsX3_promotingSquares (wsX4_lastRow) := ggX3_promotingSquares_X4_lastRow
set_option maxRecDepth 20000 in
theorem ggX3_promotingSquares_X4_has : GoodIn wsX3_promotingSquares wsX4_has := goodIn_r _ [18] (by decide +kernel) (by decide +kernel)
set_option maxRecDepth 20000 in
theorem gX3_promotingSquares_X4_has_n76 : GoodIn wsX3_promotingSquares (wsX4_has) := ggX3_promotingSquares_X4_has
theorem dX3_promotingSquares_0 : decode cX3_promotingSquares 0 = .ok (.aload_n 0, 1) := by decide +kernel
theorem dX3_promotingSquares_1 : decode cX3_promotingSquares 1 = .ok (.getfield 28, 3) := by decide +kernel
theorem dX3_promotingSquares_4 : decode cX3_promotingSquares 4 = .ok (.iload_n 1, 1) := by decide +kernel
theorem dX3_promotingSquares_5 : decode cX3_promotingSquares 5 = .ok (.invokevirtual 67, 3) := by decide +kernel
theorem dX3_promotingSquares_8 : decode cX3_promotingSquares 8 = .ok (.istore_n 2, 1) := by decide +kernel
theorem dX3_promotingSquares_9 : decode cX3_promotingSquares 9 = .ok (.iload_n 2, 1) := by decide +kernel
theorem dX3_promotingSquares_10 : decode cX3_promotingSquares 10 = .ok (.bipush 99, 2) := by decide +kernel
theorem dX3_promotingSquares_12 : decode cX3_promotingSquares 12 = .ok (.if_icmp .eq 19, 3) := by decide +kernel
theorem dX3_promotingSquares_15 : decode cX3_promotingSquares 15 = .ok (.iload_n 2, 1) := by decide +kernel
theorem dX3_promotingSquares_16 : decode cX3_promotingSquares 16 = .ok (.invokestatic 128, 3) := by decide +kernel
theorem dX3_promotingSquares_19 : decode cX3_promotingSquares 19 = .ok (.iconst 2, 1) := by decide +kernel
theorem dX3_promotingSquares_20 : decode cX3_promotingSquares 20 = .ok (.if_icmp .lt 11, 3) := by decide +kernel
theorem dX3_promotingSquares_23 : decode cX3_promotingSquares 23 = .ok (.iload_n 2, 1) := by decide +kernel
theorem dX3_promotingSquares_24 : decode cX3_promotingSquares 24 = .ok (.invokestatic 128, 3) := by decide +kernel
theorem dX3_promotingSquares_27 : decode cX3_promotingSquares 27 = .ok (.iconst 5, 1) := by decide +kernel
theorem dX3_promotingSquares_28 : decode cX3_promotingSquares 28 = .ok (.if_icmp .le 5, 3) := by decide +kernel
theorem dX3_promotingSquares_31 : decode cX3_promotingSquares 31 = .ok (.iconst 0, 1) := by decide +kernel
theorem dX3_promotingSquares_32 : decode cX3_promotingSquares 32 = .ok (.ireturn, 1) := by decide +kernel
theorem dX3_promotingSquares_33 : decode cX3_promotingSquares 33 = .ok (.iload_n 2, 1) := by decide +kernel
theorem dX3_promotingSquares_34 : decode cX3_promotingSquares 34 = .ok (.invokestatic 70, 3) := by decide +kernel
theorem dX3_promotingSquares_37 : decode cX3_promotingSquares 37 = .ok (.invokestatic 95, 3) := by decide +kernel
theorem dX3_promotingSquares_40 : decode cX3_promotingSquares 40 = .ok (.istore_n 3, 1) := by decide +kernel
theorem dX3_promotingSquares_41 : decode cX3_promotingSquares 41 = .ok (.iload_n 3, 1) := by decide +kernel
theorem dX3_promotingSquares_42 : decode cX3_promotingSquares 42 = .ok (.iload_n 1, 1) := by decide +kernel
theorem dX3_promotingSquares_43 : decode cX3_promotingSquares 43 = .ok (.invokestatic 76, 3) := by decide +kernel
theorem dX3_promotingSquares_46 : decode cX3_promotingSquares 46 = .ok (.ifCond .eq 8, 3) := by decide +kernel
theorem dX3_promotingSquares_49 : decode cX3_promotingSquares 49 = .ok (.ldc 131, 2) := by decide +kernel
theorem dX3_promotingSquares_51 : decode cX3_promotingSquares 51 = .ok (.goto 4, 3) := by decide +kernel
theorem dX3_promotingSquares_54 : decode cX3_promotingSquares 54 = .ok (.iload_n 3, 1) := by decide +kernel
theorem dX3_promotingSquares_55 : decode cX3_promotingSquares 55 = .ok (.ireturn, 1) := by decide +kernel
set_option maxRecDepth 20000 in
theorem ggX3_forcingSquares_X2_manOn : GoodIn wsX3_forcingSquares wsX2_manOn := goodIn_r _ [6, 7, 22, 23] (by decide +kernel) (by decide +kernel)
set_option maxRecDepth 20000 in
theorem gX3_forcingSquares_X2_manOn : GoodIn wsX3_forcingSquares (wsV RX3 67 RX2 yX2_manOn wsX2_manOn) := goodIn_app (goodIn_of _ (by decide +kernel)) ggX3_forcingSquares_X2_manOn
set_option maxRecDepth 20000 in
theorem ggX3_forcingSquares_X4_kindOf : GoodIn wsX3_forcingSquares wsX4_kindOf := goodIn_r _ [10] (by decide +kernel) (by decide +kernel)
set_option maxRecDepth 20000 in
theorem gX3_forcingSquares_X4_kindOf_n128 : GoodIn wsX3_forcingSquares (wsX4_kindOf) := ggX3_forcingSquares_X4_kindOf
set_option maxRecDepth 20000 in
theorem ggX3_forcingSquares_X4_sideOf : GoodIn wsX3_forcingSquares wsX4_sideOf := goodIn_r _ [12] (by decide +kernel) (by decide +kernel)
set_option maxRecDepth 20000 in
theorem gX3_forcingSquares_X4_sideOf_n70 : GoodIn wsX3_forcingSquares (wsX4_sideOf) := ggX3_forcingSquares_X4_sideOf
set_option maxRecDepth 20000 in
theorem ggX3_forcingSquares_X4_lastRow : GoodIn wsX3_forcingSquares wsX4_lastRow := goodIn_r _ [14, 15] (by decide +kernel) (by decide +kernel)
set_option maxRecDepth 20000 in
theorem gX3_forcingSquares_X4_lastRow_n95 : GoodIn wsX3_forcingSquares (wsX4_lastRow) := ggX3_forcingSquares_X4_lastRow
theorem dX3_forcingSquares_0 : decode cX3_forcingSquares 0 = .ok (.aload_n 0, 1) := by decide +kernel
theorem dX3_forcingSquares_1 : decode cX3_forcingSquares 1 = .ok (.getfield 28, 3) := by decide +kernel
theorem dX3_forcingSquares_4 : decode cX3_forcingSquares 4 = .ok (.iload_n 1, 1) := by decide +kernel
theorem dX3_forcingSquares_5 : decode cX3_forcingSquares 5 = .ok (.invokevirtual 67, 3) := by decide +kernel
theorem dX3_forcingSquares_8 : decode cX3_forcingSquares 8 = .ok (.istore_n 2, 1) := by decide +kernel
theorem dX3_forcingSquares_9 : decode cX3_forcingSquares 9 = .ok (.iload_n 2, 1) := by decide +kernel
theorem dX3_forcingSquares_10 : decode cX3_forcingSquares 10 = .ok (.bipush 99, 2) := by decide +kernel
theorem dX3_forcingSquares_12 : decode cX3_forcingSquares 12 = .ok (.if_icmp .eq 21, 3) := by decide +kernel
theorem dX3_forcingSquares_15 : decode cX3_forcingSquares 15 = .ok (.iload_n 2, 1) := by decide +kernel
theorem dX3_forcingSquares_16 : decode cX3_forcingSquares 16 = .ok (.invokestatic 128, 3) := by decide +kernel
theorem dX3_forcingSquares_19 : decode cX3_forcingSquares 19 = .ok (.iconst 5, 1) := by decide +kernel
theorem dX3_forcingSquares_20 : decode cX3_forcingSquares 20 = .ok (.if_icmp .ne 13, 3) := by decide +kernel
theorem dX3_forcingSquares_23 : decode cX3_forcingSquares 23 = .ok (.iload_n 2, 1) := by decide +kernel
theorem dX3_forcingSquares_24 : decode cX3_forcingSquares 24 = .ok (.invokestatic 70, 3) := by decide +kernel
theorem dX3_forcingSquares_27 : decode cX3_forcingSquares 27 = .ok (.invokestatic 95, 3) := by decide +kernel
theorem dX3_forcingSquares_30 : decode cX3_forcingSquares 30 = .ok (.goto 4, 3) := by decide +kernel
theorem dX3_forcingSquares_33 : decode cX3_forcingSquares 33 = .ok (.iconst 0, 1) := by decide +kernel
theorem dX3_forcingSquares_34 : decode cX3_forcingSquares 34 = .ok (.ireturn, 1) := by decide +kernel
set_option maxRecDepth 20000 in
theorem ggX3_safeTargets_X2_manOn : GoodIn wsX3_safeTargets wsX2_manOn := goodIn_r _ [6, 7, 52, 53] (by decide +kernel) (by decide +kernel)
set_option maxRecDepth 20000 in
theorem gX3_safeTargets_X2_manOn : GoodIn wsX3_safeTargets (wsV RX3 67 RX2 yX2_manOn wsX2_manOn) := goodIn_app (goodIn_of _ (by decide +kernel)) ggX3_safeTargets_X2_manOn
set_option maxRecDepth 20000 in
theorem ggX3_safeTargets_X4_sideOf : GoodIn wsX3_safeTargets wsX4_sideOf := goodIn_r _ [10] (by decide +kernel) (by decide +kernel)
set_option maxRecDepth 20000 in
theorem gX3_safeTargets_X4_sideOf_n70 : GoodIn wsX3_safeTargets (wsX4_sideOf) := ggX3_safeTargets_X4_sideOf
set_option maxRecDepth 20000 in
theorem ggX3_safeTargets_X2_attackedFrom : GoodIn wsX3_safeTargets wsX2_attackedFrom := goodIn_r _ [14, 15, 7, 16, 3, 4, 5, 6, 52, 53] (by decide +kernel) (by decide +kernel)
set_option maxRecDepth 20000 in
theorem gX3_safeTargets_X2_attackedFrom : GoodIn wsX3_safeTargets (wsV RX3 73 RX2 yX2_attackedFrom wsX2_attackedFrom) := goodIn_app (goodIn_of _ (by decide +kernel)) ggX3_safeTargets_X2_attackedFrom
set_option maxRecDepth 20000 in
theorem ggX3_safeTargets_X4_has : GoodIn wsX3_safeTargets wsX4_has := goodIn_r _ [18] (by decide +kernel) (by decide +kernel)
set_option maxRecDepth 20000 in
theorem gX3_safeTargets_X4_has_n76 : GoodIn wsX3_safeTargets (wsX4_has) := ggX3_safeTargets_X4_has
set_option maxRecDepth 20000 in
theorem ggX3_safeTargets_X3_canEnter : GoodIn wsX3_safeTargets wsX3_canEnter := goodIn_r _ [23, 1, 2, 3, 4, 5, 6, 7, 8, 9, 10, 24, 25, 46, 47, 48, 49, 50, 51, 52, 53] (by decide +kernel) (by decide +kernel)
set_option maxRecDepth 20000 in
theorem gX3_safeTargets_X3_canEnter : GoodIn wsX3_safeTargets (wsV RX3 80 RX3 yX3_canEnter wsX3_canEnter) := goodIn_app (goodIn_of _ (by decide +kernel)) ggX3_safeTargets_X3_canEnter
set_option maxRecDepth 20000 in
theorem ggX3_safeTargets_X2_place : GoodIn wsX3_safeTargets wsX2_place := goodIn_r _ [29, 7, 30, 9, 31, 32, 33, 24, 25, 8, 10, 52, 53] (by decide +kernel) (by decide +kernel)
set_option maxRecDepth 20000 in
theorem gX3_safeTargets_X2_place : GoodIn wsX3_safeTargets (wsV RX3 132 RX2 yX2_place wsX2_place) := goodIn_app (goodIn_of _ (by decide +kernel)) ggX3_safeTargets_X2_place
set_option maxRecDepth 20000 in
theorem ggX3_safeTargets_X2_kingOf : GoodIn wsX3_safeTargets wsX2_kingOf := goodIn_r _ [37, 7, 38, 9, 39, 52, 53] (by decide +kernel) (by decide +kernel)
set_option maxRecDepth 20000 in
theorem gX3_safeTargets_X2_kingOf : GoodIn wsX3_safeTargets (wsV RX3 38 RX2 yX2_kingOf wsX2_kingOf) := goodIn_app (goodIn_of _ (by decide +kernel)) ggX3_safeTargets_X2_kingOf
set_option maxRecDepth 20000 in
theorem ggX3_safeTargets_X2_countAttackers : GoodIn wsX3_safeTargets wsX2_countAttackers := goodIn_r _ [43, 15, 7, 52, 53] (by decide +kernel) (by decide +kernel)
set_option maxRecDepth 20000 in
theorem gX3_safeTargets_X2_countAttackers : GoodIn wsX3_safeTargets (wsV RX3 42 RX2 yX2_countAttackers wsX2_countAttackers) := goodIn_app (goodIn_of _ (by decide +kernel)) ggX3_safeTargets_X2_countAttackers
set_option maxRecDepth 20000 in
theorem ggX3_safeTargets_X4_bit : GoodIn wsX3_safeTargets wsX4_bit := goodIn_r _ [45] (by decide +kernel) (by decide +kernel)
set_option maxRecDepth 20000 in
theorem gX3_safeTargets_X4_bit_n104 : GoodIn wsX3_safeTargets (wsX4_bit) := ggX3_safeTargets_X4_bit
theorem dX3_safeTargets_0 : decode cX3_safeTargets 0 = .ok (.aload_n 0, 1) := by decide +kernel
theorem dX3_safeTargets_1 : decode cX3_safeTargets 1 = .ok (.getfield 28, 3) := by decide +kernel
theorem dX3_safeTargets_4 : decode cX3_safeTargets 4 = .ok (.iload_n 1, 1) := by decide +kernel
theorem dX3_safeTargets_5 : decode cX3_safeTargets 5 = .ok (.invokevirtual 67, 3) := by decide +kernel
theorem dX3_safeTargets_8 : decode cX3_safeTargets 8 = .ok (.istore_n 2, 1) := by decide +kernel
theorem dX3_safeTargets_9 : decode cX3_safeTargets 9 = .ok (.iload_n 2, 1) := by decide +kernel
theorem dX3_safeTargets_10 : decode cX3_safeTargets 10 = .ok (.invokestatic 70, 3) := by decide +kernel
theorem dX3_safeTargets_13 : decode cX3_safeTargets 13 = .ok (.istore_n 3, 1) := by decide +kernel
theorem dX3_safeTargets_14 : decode cX3_safeTargets 14 = .ok (.aload_n 0, 1) := by decide +kernel
theorem dX3_safeTargets_15 : decode cX3_safeTargets 15 = .ok (.getfield 28, 3) := by decide +kernel
theorem dX3_safeTargets_18 : decode cX3_safeTargets 18 = .ok (.iload_n 1, 1) := by decide +kernel
theorem dX3_safeTargets_19 : decode cX3_safeTargets 19 = .ok (.invokevirtual 73, 3) := by decide +kernel
theorem dX3_safeTargets_22 : decode cX3_safeTargets 22 = .ok (.istore 4, 2) := by decide +kernel
theorem dX3_safeTargets_24 : decode cX3_safeTargets 24 = .ok (.iconst 0, 1) := by decide +kernel
theorem dX3_safeTargets_25 : decode cX3_safeTargets 25 = .ok (.istore 5, 2) := by decide +kernel
theorem dX3_safeTargets_27 : decode cX3_safeTargets 27 = .ok (.iconst 0, 1) := by decide +kernel
theorem dX3_safeTargets_28 : decode cX3_safeTargets 28 = .ok (.istore 6, 2) := by decide +kernel
theorem dX3_safeTargets_30 : decode cX3_safeTargets 30 = .ok (.iload 6, 2) := by decide +kernel
theorem dX3_safeTargets_32 : decode cX3_safeTargets 32 = .ok (.bipush 25, 2) := by decide +kernel
theorem dX3_safeTargets_34 : decode cX3_safeTargets 34 = .ok (.if_icmp .ge 114, 3) := by decide +kernel
theorem dX3_safeTargets_37 : decode cX3_safeTargets 37 = .ok (.iload 4, 2) := by decide +kernel
theorem dX3_safeTargets_39 : decode cX3_safeTargets 39 = .ok (.iload 6, 2) := by decide +kernel
theorem dX3_safeTargets_41 : decode cX3_safeTargets 41 = .ok (.invokestatic 76, 3) := by decide +kernel
theorem dX3_safeTargets_44 : decode cX3_safeTargets 44 = .ok (.ifCond .eq 98, 3) := by decide +kernel
theorem dX3_safeTargets_47 : decode cX3_safeTargets 47 = .ok (.aload_n 0, 1) := by decide +kernel
theorem dX3_safeTargets_48 : decode cX3_safeTargets 48 = .ok (.iload_n 3, 1) := by decide +kernel
theorem dX3_safeTargets_49 : decode cX3_safeTargets 49 = .ok (.iload 6, 2) := by decide +kernel
theorem dX3_safeTargets_51 : decode cX3_safeTargets 51 = .ok (.invokevirtual 80, 3) := by decide +kernel
theorem dX3_safeTargets_54 : decode cX3_safeTargets 54 = .ok (.ifCond .ne 6, 3) := by decide +kernel
theorem dX3_safeTargets_57 : decode cX3_safeTargets 57 = .ok (.goto 85, 3) := by decide +kernel
theorem dX3_safeTargets_60 : decode cX3_safeTargets 60 = .ok (.aload_n 0, 1) := by decide +kernel
theorem dX3_safeTargets_61 : decode cX3_safeTargets 61 = .ok (.getfield 28, 3) := by decide +kernel
theorem dX3_safeTargets_64 : decode cX3_safeTargets 64 = .ok (.iload 6, 2) := by decide +kernel
theorem dX3_safeTargets_66 : decode cX3_safeTargets 66 = .ok (.invokevirtual 67, 3) := by decide +kernel
theorem dX3_safeTargets_69 : decode cX3_safeTargets 69 = .ok (.istore 7, 2) := by decide +kernel
theorem dX3_safeTargets_71 : decode cX3_safeTargets 71 = .ok (.aload_n 0, 1) := by decide +kernel
theorem dX3_safeTargets_72 : decode cX3_safeTargets 72 = .ok (.getfield 28, 3) := by decide +kernel
theorem dX3_safeTargets_75 : decode cX3_safeTargets 75 = .ok (.iload_n 1, 1) := by decide +kernel
theorem dX3_safeTargets_76 : decode cX3_safeTargets 76 = .ok (.bipush 99, 2) := by decide +kernel
theorem dX3_safeTargets_78 : decode cX3_safeTargets 78 = .ok (.invokevirtual 132, 3) := by decide +kernel
theorem dX3_safeTargets_81 : decode cX3_safeTargets 81 = .ok (.aload_n 0, 1) := by decide +kernel
theorem dX3_safeTargets_82 : decode cX3_safeTargets 82 = .ok (.getfield 28, 3) := by decide +kernel
theorem dX3_safeTargets_85 : decode cX3_safeTargets 85 = .ok (.iload 6, 2) := by decide +kernel
theorem dX3_safeTargets_87 : decode cX3_safeTargets 87 = .ok (.iload_n 2, 1) := by decide +kernel
theorem dX3_safeTargets_88 : decode cX3_safeTargets 88 = .ok (.invokevirtual 132, 3) := by decide +kernel
theorem dX3_safeTargets_91 : decode cX3_safeTargets 91 = .ok (.aload_n 0, 1) := by decide +kernel
theorem dX3_safeTargets_92 : decode cX3_safeTargets 92 = .ok (.getfield 28, 3) := by decide +kernel
theorem dX3_safeTargets_95 : decode cX3_safeTargets 95 = .ok (.iconst 1, 1) := by decide +kernel
theorem dX3_safeTargets_96 : decode cX3_safeTargets 96 = .ok (.iload_n 3, 1) := by decide +kernel
theorem dX3_safeTargets_97 : decode cX3_safeTargets 97 = .ok (.isub, 1) := by decide +kernel
theorem dX3_safeTargets_98 : decode cX3_safeTargets 98 = .ok (.aload_n 0, 1) := by decide +kernel
theorem dX3_safeTargets_99 : decode cX3_safeTargets 99 = .ok (.getfield 28, 3) := by decide +kernel
theorem dX3_safeTargets_102 : decode cX3_safeTargets 102 = .ok (.iload_n 3, 1) := by decide +kernel
theorem dX3_safeTargets_103 : decode cX3_safeTargets 103 = .ok (.invokevirtual 38, 3) := by decide +kernel
theorem dX3_safeTargets_106 : decode cX3_safeTargets 106 = .ok (.invokevirtual 42, 3) := by decide +kernel
theorem dX3_safeTargets_109 : decode cX3_safeTargets 109 = .ok (.ifCond .ne 13, 3) := by decide +kernel
theorem dX3_safeTargets_112 : decode cX3_safeTargets 112 = .ok (.iload 5, 2) := by decide +kernel
theorem dX3_safeTargets_114 : decode cX3_safeTargets 114 = .ok (.iload 6, 2) := by decide +kernel
theorem dX3_safeTargets_116 : decode cX3_safeTargets 116 = .ok (.invokestatic 104, 3) := by decide +kernel
theorem dX3_safeTargets_119 : decode cX3_safeTargets 119 = .ok (.ior, 1) := by decide +kernel
theorem dX3_safeTargets_120 : decode cX3_safeTargets 120 = .ok (.istore 5, 2) := by decide +kernel
theorem dX3_safeTargets_122 : decode cX3_safeTargets 122 = .ok (.aload_n 0, 1) := by decide +kernel
theorem dX3_safeTargets_123 : decode cX3_safeTargets 123 = .ok (.getfield 28, 3) := by decide +kernel
theorem dX3_safeTargets_126 : decode cX3_safeTargets 126 = .ok (.iload 6, 2) := by decide +kernel
theorem dX3_safeTargets_128 : decode cX3_safeTargets 128 = .ok (.iload 7, 2) := by decide +kernel
theorem dX3_safeTargets_130 : decode cX3_safeTargets 130 = .ok (.invokevirtual 132, 3) := by decide +kernel
theorem dX3_safeTargets_133 : decode cX3_safeTargets 133 = .ok (.aload_n 0, 1) := by decide +kernel
theorem dX3_safeTargets_134 : decode cX3_safeTargets 134 = .ok (.getfield 28, 3) := by decide +kernel
theorem dX3_safeTargets_137 : decode cX3_safeTargets 137 = .ok (.iload_n 1, 1) := by decide +kernel
theorem dX3_safeTargets_138 : decode cX3_safeTargets 138 = .ok (.iload_n 2, 1) := by decide +kernel
theorem dX3_safeTargets_139 : decode cX3_safeTargets 139 = .ok (.invokevirtual 132, 3) := by decide +kernel
theorem dX3_safeTargets_142 : decode cX3_safeTargets 142 = .ok (.iinc 6 1, 3) := by decide +kernel
theorem dX3_safeTargets_145 : decode cX3_safeTargets 145 = .ok (.goto (-115), 3) := by decide +kernel
theorem dX3_safeTargets_148 : decode cX3_safeTargets 148 = .ok (.iload 5, 2) := by decide +kernel
theorem dX3_safeTargets_150 : decode cX3_safeTargets 150 = .ok (.ireturn, 1) := by decide +kernel
set_option maxRecDepth 20000 in
theorem ggX3_safeDrops_X2_sideToPlay : GoodIn wsX3_safeDrops wsX2_sideToPlay := goodIn_r _ [6, 7, 46, 47] (by decide +kernel) (by decide +kernel)
set_option maxRecDepth 20000 in
theorem gX3_safeDrops_X2_sideToPlay : GoodIn wsX3_safeDrops (wsV RX3 32 RX2 yX2_sideToPlay wsX2_sideToPlay) := goodIn_app (goodIn_of _ (by decide +kernel)) ggX3_safeDrops_X2_sideToPlay
set_option maxRecDepth 20000 in
theorem ggX3_safeDrops_X2_kingOf : GoodIn wsX3_safeDrops wsX2_kingOf := goodIn_r _ [11, 7, 12, 13, 14, 46, 47] (by decide +kernel) (by decide +kernel)
set_option maxRecDepth 20000 in
theorem gX3_safeDrops_X2_kingOf : GoodIn wsX3_safeDrops (wsV RX3 38 RX2 yX2_kingOf wsX2_kingOf) := goodIn_app (goodIn_of _ (by decide +kernel)) ggX3_safeDrops_X2_kingOf
set_option maxRecDepth 20000 in
theorem ggX3_safeDrops_X2_countAttackers : GoodIn wsX3_safeDrops wsX2_countAttackers := goodIn_r _ [18, 19, 7, 46, 47] (by decide +kernel) (by decide +kernel)
set_option maxRecDepth 20000 in
theorem gX3_safeDrops_X2_countAttackers : GoodIn wsX3_safeDrops (wsV RX3 42 RX2 yX2_countAttackers wsX2_countAttackers) := goodIn_app (goodIn_of _ (by decide +kernel)) ggX3_safeDrops_X2_countAttackers
set_option maxRecDepth 20000 in
theorem ggX3_safeDrops_X2_manOn : GoodIn wsX3_safeDrops wsX2_manOn := goodIn_r _ [23, 7, 46, 47] (by decide +kernel) (by decide +kernel)
set_option maxRecDepth 20000 in
theorem gX3_safeDrops_X2_manOn : GoodIn wsX3_safeDrops (wsV RX3 67 RX2 yX2_manOn wsX2_manOn) := goodIn_app (goodIn_of _ (by decide +kernel)) ggX3_safeDrops_X2_manOn
set_option maxRecDepth 20000 in
theorem ggX3_safeDrops_X4_manOf : GoodIn wsX3_safeDrops wsX4_manOf := goodIn_r _ [25] (by decide +kernel) (by decide +kernel)
set_option maxRecDepth 20000 in
theorem gX3_safeDrops_X4_manOf_n135 : GoodIn wsX3_safeDrops (wsX4_manOf) := ggX3_safeDrops_X4_manOf
set_option maxRecDepth 20000 in
theorem ggX3_safeDrops_X2_place : GoodIn wsX3_safeDrops wsX2_place := goodIn_r _ [29, 7, 30, 13, 31, 32, 33, 34, 35, 36, 37, 46, 47] (by decide +kernel) (by decide +kernel)
set_option maxRecDepth 20000 in
theorem gX3_safeDrops_X2_place : GoodIn wsX3_safeDrops (wsV RX3 132 RX2 yX2_place wsX2_place) := goodIn_app (goodIn_of _ (by decide +kernel)) ggX3_safeDrops_X2_place
set_option maxRecDepth 20000 in
theorem ggX3_safeDrops_X4_bit : GoodIn wsX3_safeDrops wsX4_bit := goodIn_r _ [39] (by decide +kernel) (by decide +kernel)
set_option maxRecDepth 20000 in
theorem gX3_safeDrops_X4_bit_n104 : GoodIn wsX3_safeDrops (wsX4_bit) := ggX3_safeDrops_X4_bit
theorem dX3_safeDrops_0 : decode cX3_safeDrops 0 = .ok (.aload_n 0, 1) := by decide +kernel
theorem dX3_safeDrops_1 : decode cX3_safeDrops 1 = .ok (.getfield 28, 3) := by decide +kernel
theorem dX3_safeDrops_4 : decode cX3_safeDrops 4 = .ok (.invokevirtual 32, 3) := by decide +kernel
theorem dX3_safeDrops_7 : decode cX3_safeDrops 7 = .ok (.istore_n 1, 1) := by decide +kernel
theorem dX3_safeDrops_8 : decode cX3_safeDrops 8 = .ok (.aload_n 0, 1) := by decide +kernel
theorem dX3_safeDrops_9 : decode cX3_safeDrops 9 = .ok (.getfield 28, 3) := by decide +kernel
theorem dX3_safeDrops_12 : decode cX3_safeDrops 12 = .ok (.iload_n 1, 1) := by decide +kernel
theorem dX3_safeDrops_13 : decode cX3_safeDrops 13 = .ok (.invokevirtual 38, 3) := by decide +kernel
theorem dX3_safeDrops_16 : decode cX3_safeDrops 16 = .ok (.istore_n 2, 1) := by decide +kernel
theorem dX3_safeDrops_17 : decode cX3_safeDrops 17 = .ok (.aload_n 0, 1) := by decide +kernel
theorem dX3_safeDrops_18 : decode cX3_safeDrops 18 = .ok (.getfield 28, 3) := by decide +kernel
theorem dX3_safeDrops_21 : decode cX3_safeDrops 21 = .ok (.iconst 1, 1) := by decide +kernel
theorem dX3_safeDrops_22 : decode cX3_safeDrops 22 = .ok (.iload_n 1, 1) := by decide +kernel
theorem dX3_safeDrops_23 : decode cX3_safeDrops 23 = .ok (.isub, 1) := by decide +kernel
theorem dX3_safeDrops_24 : decode cX3_safeDrops 24 = .ok (.iload_n 2, 1) := by decide +kernel
theorem dX3_safeDrops_25 : decode cX3_safeDrops 25 = .ok (.invokevirtual 42, 3) := by decide +kernel
theorem dX3_safeDrops_28 : decode cX3_safeDrops 28 = .ok (.ifCond .ne 7, 3) := by decide +kernel
theorem dX3_safeDrops_31 : decode cX3_safeDrops 31 = .ok (.iconst 1, 1) := by decide +kernel
theorem dX3_safeDrops_32 : decode cX3_safeDrops 32 = .ok (.goto 4, 3) := by decide +kernel
theorem dX3_safeDrops_35 : decode cX3_safeDrops 35 = .ok (.iconst 0, 1) := by decide +kernel
theorem dX3_safeDrops_36 : decode cX3_safeDrops 36 = .ok (.istore_n 3, 1) := by decide +kernel
theorem dX3_safeDrops_37 : decode cX3_safeDrops 37 = .ok (.iconst 0, 1) := by decide +kernel
theorem dX3_safeDrops_38 : decode cX3_safeDrops 38 = .ok (.istore 4, 2) := by decide +kernel
theorem dX3_safeDrops_40 : decode cX3_safeDrops 40 = .ok (.iconst 0, 1) := by decide +kernel
theorem dX3_safeDrops_41 : decode cX3_safeDrops 41 = .ok (.istore 5, 2) := by decide +kernel
theorem dX3_safeDrops_43 : decode cX3_safeDrops 43 = .ok (.iload 5, 2) := by decide +kernel
theorem dX3_safeDrops_45 : decode cX3_safeDrops 45 = .ok (.bipush 25, 2) := by decide +kernel
theorem dX3_safeDrops_47 : decode cX3_safeDrops 47 = .ok (.if_icmp .ge 79, 3) := by decide +kernel
theorem dX3_safeDrops_50 : decode cX3_safeDrops 50 = .ok (.aload_n 0, 1) := by decide +kernel
theorem dX3_safeDrops_51 : decode cX3_safeDrops 51 = .ok (.getfield 28, 3) := by decide +kernel
theorem dX3_safeDrops_54 : decode cX3_safeDrops 54 = .ok (.iload 5, 2) := by decide +kernel
theorem dX3_safeDrops_56 : decode cX3_safeDrops 56 = .ok (.invokevirtual 67, 3) := by decide +kernel
theorem dX3_safeDrops_59 : decode cX3_safeDrops 59 = .ok (.bipush 99, 2) := by decide +kernel
theorem dX3_safeDrops_61 : decode cX3_safeDrops 61 = .ok (.if_icmp .eq 6, 3) := by decide +kernel
theorem dX3_safeDrops_64 : decode cX3_safeDrops 64 = .ok (.goto 56, 3) := by decide +kernel
theorem dX3_safeDrops_67 : decode cX3_safeDrops 67 = .ok (.aload_n 0, 1) := by decide +kernel
theorem dX3_safeDrops_68 : decode cX3_safeDrops 68 = .ok (.getfield 28, 3) := by decide +kernel
theorem dX3_safeDrops_71 : decode cX3_safeDrops 71 = .ok (.iload 5, 2) := by decide +kernel
theorem dX3_safeDrops_73 : decode cX3_safeDrops 73 = .ok (.iload_n 1, 1) := by decide +kernel
theorem dX3_safeDrops_74 : decode cX3_safeDrops 74 = .ok (.iconst 1, 1) := by decide +kernel
theorem dX3_safeDrops_75 : decode cX3_safeDrops 75 = .ok (.invokestatic 135, 3) := by decide +kernel
theorem dX3_safeDrops_78 : decode cX3_safeDrops 78 = .ok (.invokevirtual 132, 3) := by decide +kernel
theorem dX3_safeDrops_81 : decode cX3_safeDrops 81 = .ok (.iload_n 3, 1) := by decide +kernel
theorem dX3_safeDrops_82 : decode cX3_safeDrops 82 = .ok (.ifCond .ne 17, 3) := by decide +kernel
theorem dX3_safeDrops_85 : decode cX3_safeDrops 85 = .ok (.aload_n 0, 1) := by decide +kernel
theorem dX3_safeDrops_86 : decode cX3_safeDrops 86 = .ok (.getfield 28, 3) := by decide +kernel
theorem dX3_safeDrops_89 : decode cX3_safeDrops 89 = .ok (.iconst 1, 1) := by decide +kernel
theorem dX3_safeDrops_90 : decode cX3_safeDrops 90 = .ok (.iload_n 1, 1) := by decide +kernel
theorem dX3_safeDrops_91 : decode cX3_safeDrops 91 = .ok (.isub, 1) := by decide +kernel
theorem dX3_safeDrops_92 : decode cX3_safeDrops 92 = .ok (.iload_n 2, 1) := by decide +kernel
theorem dX3_safeDrops_93 : decode cX3_safeDrops 93 = .ok (.invokevirtual 42, 3) := by decide +kernel
theorem dX3_safeDrops_96 : decode cX3_safeDrops 96 = .ok (.ifCond .ne 13, 3) := by decide +kernel
theorem dX3_safeDrops_99 : decode cX3_safeDrops 99 = .ok (.iload 4, 2) := by decide +kernel
theorem dX3_safeDrops_101 : decode cX3_safeDrops 101 = .ok (.iload 5, 2) := by decide +kernel
theorem dX3_safeDrops_103 : decode cX3_safeDrops 103 = .ok (.invokestatic 104, 3) := by decide +kernel
theorem dX3_safeDrops_106 : decode cX3_safeDrops 106 = .ok (.ior, 1) := by decide +kernel
theorem dX3_safeDrops_107 : decode cX3_safeDrops 107 = .ok (.istore 4, 2) := by decide +kernel
theorem dX3_safeDrops_109 : decode cX3_safeDrops 109 = .ok (.aload_n 0, 1) := by decide +kernel
theorem dX3_safeDrops_110 : decode cX3_safeDrops 110 = .ok (.getfield 28, 3) := by decide +kernel
theorem dX3_safeDrops_113 : decode cX3_safeDrops 113 = .ok (.iload 5, 2) := by decide +kernel
theorem dX3_safeDrops_115 : decode cX3_safeDrops 115 = .ok (.bipush 99, 2) := by decide +kernel
theorem dX3_safeDrops_117 : decode cX3_safeDrops 117 = .ok (.invokevirtual 132, 3) := by decide +kernel
theorem dX3_safeDrops_120 : decode cX3_safeDrops 120 = .ok (.iinc 5 1, 3) := by decide +kernel
theorem dX3_safeDrops_123 : decode cX3_safeDrops 123 = .ok (.goto (-80), 3) := by decide +kernel
theorem dX3_safeDrops_126 : decode cX3_safeDrops 126 = .ok (.iload 4, 2) := by decide +kernel
theorem dX3_safeDrops_128 : decode cX3_safeDrops 128 = .ok (.ireturn, 1) := by decide +kernel
set_option maxRecDepth 20000 in
theorem ggX3_openToDrops_X2_sideToPlay : GoodIn wsX3_openToDrops wsX2_sideToPlay := goodIn_r _ [6, 7, 38, 39] (by decide +kernel) (by decide +kernel)
set_option maxRecDepth 20000 in
theorem gX3_openToDrops_X2_sideToPlay : GoodIn wsX3_openToDrops (wsV RX3 32 RX2 yX2_sideToPlay wsX2_sideToPlay) := goodIn_app (goodIn_of _ (by decide +kernel)) ggX3_openToDrops_X2_sideToPlay
set_option maxRecDepth 20000 in
theorem ggX3_openToDrops_X2_inHand : GoodIn wsX3_openToDrops wsX2_inHand := goodIn_r _ [11, 7, 12, 13, 14, 15, 16, 38, 39] (by decide +kernel) (by decide +kernel)
set_option maxRecDepth 20000 in
theorem gX3_openToDrops_X2_inHand : GoodIn wsX3_openToDrops (wsV RX3 92 RX2 yX2_inHand wsX2_inHand) := goodIn_app (goodIn_of _ (by decide +kernel)) ggX3_openToDrops_X2_inHand
set_option maxRecDepth 20000 in
theorem ggX3_openToDrops_X4_lastRow : GoodIn wsX3_openToDrops wsX4_lastRow := goodIn_r _ [18, 19] (by decide +kernel) (by decide +kernel)
set_option maxRecDepth 20000 in
theorem gX3_openToDrops_X4_lastRow_n95 : GoodIn wsX3_openToDrops (wsX4_lastRow) := ggX3_openToDrops_X4_lastRow
set_option maxRecDepth 20000 in
theorem ggX3_openToDrops_X3_pawnColumns : GoodIn wsX3_openToDrops wsX3_pawnColumns := goodIn_r _ [24, 1, 25, 26, 27, 28, 5, 29, 7, 30, 13, 31, 32, 33, 34, 35, 36, 37, 38, 39] (by decide +kernel) (by decide +kernel)
set_option maxRecDepth 20000 in
theorem gX3_openToDrops_X3_pawnColumns : GoodIn wsX3_openToDrops (wsV RX3 98 RX3 yX3_pawnColumns wsX3_pawnColumns) := goodIn_app (goodIn_of _ (by decide +kernel)) ggX3_openToDrops_X3_pawnColumns
theorem dX3_openToDrops_0 : decode cX3_openToDrops 0 = .ok (.aload_n 0, 1) := by decide +kernel
theorem dX3_openToDrops_1 : decode cX3_openToDrops 1 = .ok (.getfield 28, 3) := by decide +kernel
theorem dX3_openToDrops_4 : decode cX3_openToDrops 4 = .ok (.invokevirtual 32, 3) := by decide +kernel
theorem dX3_openToDrops_7 : decode cX3_openToDrops 7 = .ok (.istore_n 3, 1) := by decide +kernel
theorem dX3_openToDrops_8 : decode cX3_openToDrops 8 = .ok (.aload_n 0, 1) := by decide +kernel
theorem dX3_openToDrops_9 : decode cX3_openToDrops 9 = .ok (.getfield 28, 3) := by decide +kernel
theorem dX3_openToDrops_12 : decode cX3_openToDrops 12 = .ok (.iload_n 3, 1) := by decide +kernel
theorem dX3_openToDrops_13 : decode cX3_openToDrops 13 = .ok (.iload_n 1, 1) := by decide +kernel
theorem dX3_openToDrops_14 : decode cX3_openToDrops 14 = .ok (.invokevirtual 92, 3) := by decide +kernel
theorem dX3_openToDrops_17 : decode cX3_openToDrops 17 = .ok (.ifCond .ne 5, 3) := by decide +kernel
theorem dX3_openToDrops_20 : decode cX3_openToDrops 20 = .ok (.iconst 0, 1) := by decide +kernel
theorem dX3_openToDrops_21 : decode cX3_openToDrops 21 = .ok (.ireturn, 1) := by decide +kernel
theorem dX3_openToDrops_22 : decode cX3_openToDrops 22 = .ok (.iload_n 1, 1) := by decide +kernel
theorem dX3_openToDrops_23 : decode cX3_openToDrops 23 = .ok (.iconst 5, 1) := by decide +kernel
theorem dX3_openToDrops_24 : decode cX3_openToDrops 24 = .ok (.if_icmp .ne 22, 3) := by decide +kernel
theorem dX3_openToDrops_27 : decode cX3_openToDrops 27 = .ok (.iload_n 2, 1) := by decide +kernel
theorem dX3_openToDrops_28 : decode cX3_openToDrops 28 = .ok (.iload_n 3, 1) := by decide +kernel
theorem dX3_openToDrops_29 : decode cX3_openToDrops 29 = .ok (.invokestatic 95, 3) := by decide +kernel
theorem dX3_openToDrops_32 : decode cX3_openToDrops 32 = .ok (.iconst (-1), 1) := by decide +kernel
theorem dX3_openToDrops_33 : decode cX3_openToDrops 33 = .ok (.ixor, 1) := by decide +kernel
theorem dX3_openToDrops_34 : decode cX3_openToDrops 34 = .ok (.iand, 1) := by decide +kernel
theorem dX3_openToDrops_35 : decode cX3_openToDrops 35 = .ok (.aload_n 0, 1) := by decide +kernel
theorem dX3_openToDrops_36 : decode cX3_openToDrops 36 = .ok (.iload_n 3, 1) := by decide +kernel
theorem dX3_openToDrops_37 : decode cX3_openToDrops 37 = .ok (.invokevirtual 98, 3) := by decide +kernel
theorem dX3_openToDrops_40 : decode cX3_openToDrops 40 = .ok (.iconst (-1), 1) := by decide +kernel
theorem dX3_openToDrops_41 : decode cX3_openToDrops 41 = .ok (.ixor, 1) := by decide +kernel
theorem dX3_openToDrops_42 : decode cX3_openToDrops 42 = .ok (.iand, 1) := by decide +kernel
theorem dX3_openToDrops_43 : decode cX3_openToDrops 43 = .ok (.goto 4, 3) := by decide +kernel
theorem dX3_openToDrops_46 : decode cX3_openToDrops 46 = .ok (.iload_n 2, 1) := by decide +kernel
theorem dX3_openToDrops_47 : decode cX3_openToDrops 47 = .ok (.ireturn, 1) := by decide +kernel
set_option maxRecDepth 20000 in
theorem ggX3_pawnColumns_X2_manOn : GoodIn wsX3_pawnColumns wsX2_manOn := goodIn_r _ [7, 8, 18, 19] (by decide +kernel) (by decide +kernel)
set_option maxRecDepth 20000 in
theorem gX3_pawnColumns_X2_manOn : GoodIn wsX3_pawnColumns (wsV RX3 67 RX2 yX2_manOn wsX2_manOn) := goodIn_app (goodIn_of _ (by decide +kernel)) ggX3_pawnColumns_X2_manOn
set_option maxRecDepth 20000 in
theorem ggX3_pawnColumns_X4_manOf : GoodIn wsX3_pawnColumns wsX4_manOf := goodIn_r _ [11] (by decide +kernel) (by decide +kernel)
set_option maxRecDepth 20000 in
theorem gX3_pawnColumns_X4_manOf_n135 : GoodIn wsX3_pawnColumns (wsX4_manOf) := ggX3_pawnColumns_X4_manOf
theorem dX3_pawnColumns_0 : decode cX3_pawnColumns 0 = .ok (.iconst 0, 1) := by decide +kernel
theorem dX3_pawnColumns_1 : decode cX3_pawnColumns 1 = .ok (.istore_n 2, 1) := by decide +kernel
theorem dX3_pawnColumns_2 : decode cX3_pawnColumns 2 = .ok (.iconst 0, 1) := by decide +kernel
theorem dX3_pawnColumns_3 : decode cX3_pawnColumns 3 = .ok (.istore_n 3, 1) := by decide +kernel
theorem dX3_pawnColumns_4 : decode cX3_pawnColumns 4 = .ok (.iload_n 3, 1) := by decide +kernel
theorem dX3_pawnColumns_5 : decode cX3_pawnColumns 5 = .ok (.bipush 25, 2) := by decide +kernel
theorem dX3_pawnColumns_7 : decode cX3_pawnColumns 7 = .ok (.if_icmp .ge 34, 3) := by decide +kernel
theorem dX3_pawnColumns_10 : decode cX3_pawnColumns 10 = .ok (.aload_n 0, 1) := by decide +kernel
theorem dX3_pawnColumns_11 : decode cX3_pawnColumns 11 = .ok (.getfield 28, 3) := by decide +kernel
theorem dX3_pawnColumns_14 : decode cX3_pawnColumns 14 = .ok (.iload_n 3, 1) := by decide +kernel
theorem dX3_pawnColumns_15 : decode cX3_pawnColumns 15 = .ok (.invokevirtual 67, 3) := by decide +kernel
theorem dX3_pawnColumns_18 : decode cX3_pawnColumns 18 = .ok (.iload_n 1, 1) := by decide +kernel
theorem dX3_pawnColumns_19 : decode cX3_pawnColumns 19 = .ok (.iconst 5, 1) := by decide +kernel
theorem dX3_pawnColumns_20 : decode cX3_pawnColumns 20 = .ok (.invokestatic 135, 3) := by decide +kernel
theorem dX3_pawnColumns_23 : decode cX3_pawnColumns 23 = .ok (.if_icmp .ne 12, 3) := by decide +kernel
theorem dX3_pawnColumns_26 : decode cX3_pawnColumns 26 = .ok (.iload_n 2, 1) := by decide +kernel
theorem dX3_pawnColumns_27 : decode cX3_pawnColumns 27 = .ok (.ldc 138, 2) := by decide +kernel
theorem dX3_pawnColumns_29 : decode cX3_pawnColumns 29 = .ok (.iload_n 3, 1) := by decide +kernel
theorem dX3_pawnColumns_30 : decode cX3_pawnColumns 30 = .ok (.iconst 5, 1) := by decide +kernel
theorem dX3_pawnColumns_31 : decode cX3_pawnColumns 31 = .ok (.irem, 1) := by decide +kernel
theorem dX3_pawnColumns_32 : decode cX3_pawnColumns 32 = .ok (.ishl, 1) := by decide +kernel
theorem dX3_pawnColumns_33 : decode cX3_pawnColumns 33 = .ok (.ior, 1) := by decide +kernel
theorem dX3_pawnColumns_34 : decode cX3_pawnColumns 34 = .ok (.istore_n 2, 1) := by decide +kernel
theorem dX3_pawnColumns_35 : decode cX3_pawnColumns 35 = .ok (.iinc 3 1, 3) := by decide +kernel
theorem dX3_pawnColumns_38 : decode cX3_pawnColumns 38 = .ok (.goto (-34), 3) := by decide +kernel
theorem dX3_pawnColumns_41 : decode cX3_pawnColumns 41 = .ok (.iload_n 2, 1) := by decide +kernel
theorem dX3_pawnColumns_42 : decode cX3_pawnColumns 42 = .ok (.ireturn, 1) := by decide +kernel
set_option maxRecDepth 20000 in
theorem ggX3_withoutMates_X4_has : GoodIn wsX3_withoutMates wsX4_has := goodIn_r _ [4] (by decide +kernel) (by decide +kernel)
set_option maxRecDepth 20000 in
theorem gX3_withoutMates_X4_has_n76 : GoodIn wsX3_withoutMates (wsX4_has) := ggX3_withoutMates_X4_has
set_option maxRecDepth 20000 in
theorem ggX3_withoutMates_X4_dropNumber : GoodIn wsX3_withoutMates wsX4_dropNumber := goodIn_r _ [6] (by decide +kernel) (by decide +kernel)
set_option maxRecDepth 20000 in
theorem gX3_withoutMates_X4_dropNumber_n117 : GoodIn wsX3_withoutMates (wsX4_dropNumber) := ggX3_withoutMates_X4_dropNumber
set_option maxRecDepth 20000 in
theorem ggX3_withoutMates_X2_apply : GoodIn wsX3_withoutMates wsX2_apply := goodIn_r _ [11, 12, 13, 14, 10, 15, 16, 17, 18, 19, 20, 21, 22, 23, 24, 25, 3, 26, 27, 28, 29, 30, 31, 32, 33, 34, 35, 36, 37, 38, 39, 40, 41, 42, 43, 44, 45, 46, 47, 48, 49, 50, 51, 52, 53, 54, 117, 118] (by decide +kernel) (by decide +kernel)
set_option maxRecDepth 20000 in
theorem gX3_withoutMates_X2_apply : GoodIn wsX3_withoutMates (wsV RX3 139 RX2 yX2_apply wsX2_apply) := goodIn_app (goodIn_of _ (by decide +kernel)) ggX3_withoutMates_X2_apply
set_option maxRecDepth 20000 in
theorem ggX3_withoutMates_X3_isInCheck : GoodIn wsX3_withoutMates wsX3_isInCheck := goodIn_r _ [59, 1, 60, 13, 14, 10, 15, 16, 61, 62, 63, 64, 25, 3, 26, 65, 66, 67, 68, 69, 111, 112, 113, 114, 115, 116, 117, 118] (by decide +kernel) (by decide +kernel)
set_option maxRecDepth 20000 in
theorem gX3_withoutMates_X3_isInCheck : GoodIn wsX3_withoutMates (wsV RX3 46 RX3 yX3_isInCheck wsX3_isInCheck) := goodIn_app (goodIn_of _ (by decide +kernel)) ggX3_withoutMates_X3_isInCheck
set_option maxRecDepth 20000 in
theorem ggX3_withoutMates_X3_canReply : GoodIn wsX3_withoutMates wsX3_canReply := goodIn_r _ [73, 1, 60, 13, 14, 10, 15, 16, 74, 48, 49, 50, 45, 3, 46, 75, 76, 77, 58, 78, 79, 80, 81, 82, 69, 47, 2, 4, 83, 84, 85, 86, 43, 44, 87, 36, 37, 38, 39, 40, 41, 42, 61, 62, 63, 64, 25, 26, 65, 66, 67, 68, 88, 89, 90, 91, 92, 93, 33, 34, 94, 95, 96, 97, 98, 22, 23, 24, 27, 28, 99, 100, 101, 102, 103, 104, 105, 106, 111, 112, 113, 114, 115, 116, 117, 118] (by decide +kernel) (by decide +kernel)
set_option maxRecDepth 20000 in
theorem gX3_withoutMates_X3_canReply : GoodIn wsX3_withoutMates (wsV RX3 142 RX3 yX3_canReply wsX3_canReply) := goodIn_app (goodIn_of _ (by decide +kernel)) ggX3_withoutMates_X3_canReply
set_option maxRecDepth 20000 in
theorem ggX3_withoutMates_X4_bit : GoodIn wsX3_withoutMates wsX4_bit := goodIn_r _ [89] (by decide +kernel) (by decide +kernel)
set_option maxRecDepth 20000 in
theorem gX3_withoutMates_X4_bit_n104 : GoodIn wsX3_withoutMates (wsX4_bit) := ggX3_withoutMates_X4_bit
set_option maxRecDepth 20000 in
theorem ggX3_withoutMates_X2_takeBack : GoodIn wsX3_withoutMates wsX2_takeBack := goodIn_r _ [110, 12, 13, 14, 10, 15, 16, 17, 18, 19, 20, 35, 36, 37, 38, 39, 3, 40, 41, 42, 43, 44, 45, 46, 21, 22, 23, 24, 25, 26, 27, 28, 29, 30, 31, 32, 47, 48, 49, 50, 51, 52, 53, 54, 117, 118] (by decide +kernel) (by decide +kernel)
set_option maxRecDepth 20000 in
theorem gX3_withoutMates_X2_takeBack : GoodIn wsX3_withoutMates (wsV RX3 145 RX2 yX2_takeBack wsX2_takeBack) := goodIn_app (goodIn_of _ (by decide +kernel)) ggX3_withoutMates_X2_takeBack
theorem dX3_withoutMates_0 : decode cX3_withoutMates 0 = .ok (.iload_n 1, 1) := by decide +kernel
theorem dX3_withoutMates_1 : decode cX3_withoutMates 1 = .ok (.istore_n 2, 1) := by decide +kernel
theorem dX3_withoutMates_2 : decode cX3_withoutMates 2 = .ok (.iconst 0, 1) := by decide +kernel
theorem dX3_withoutMates_3 : decode cX3_withoutMates 3 = .ok (.istore_n 3, 1) := by decide +kernel
theorem dX3_withoutMates_4 : decode cX3_withoutMates 4 = .ok (.iload_n 3, 1) := by decide +kernel
theorem dX3_withoutMates_5 : decode cX3_withoutMates 5 = .ok (.bipush 25, 2) := by decide +kernel
theorem dX3_withoutMates_7 : decode cX3_withoutMates 7 = .ok (.if_icmp .ge 72, 3) := by decide +kernel
theorem dX3_withoutMates_10 : decode cX3_withoutMates 10 = .ok (.iload_n 1, 1) := by decide +kernel
theorem dX3_withoutMates_11 : decode cX3_withoutMates 11 = .ok (.iload_n 3, 1) := by decide +kernel
theorem dX3_withoutMates_12 : decode cX3_withoutMates 12 = .ok (.invokestatic 76, 3) := by decide +kernel
theorem dX3_withoutMates_15 : decode cX3_withoutMates 15 = .ok (.ifCond .ne 6, 3) := by decide +kernel
theorem dX3_withoutMates_18 : decode cX3_withoutMates 18 = .ok (.goto 55, 3) := by decide +kernel
theorem dX3_withoutMates_21 : decode cX3_withoutMates 21 = .ok (.iconst 5, 1) := by decide +kernel
theorem dX3_withoutMates_22 : decode cX3_withoutMates 22 = .ok (.iload_n 3, 1) := by decide +kernel
theorem dX3_withoutMates_23 : decode cX3_withoutMates 23 = .ok (.invokestatic 117, 3) := by decide +kernel
theorem dX3_withoutMates_26 : decode cX3_withoutMates 26 = .ok (.istore 4, 2) := by decide +kernel
theorem dX3_withoutMates_28 : decode cX3_withoutMates 28 = .ok (.aload_n 0, 1) := by decide +kernel
theorem dX3_withoutMates_29 : decode cX3_withoutMates 29 = .ok (.getfield 28, 3) := by decide +kernel
theorem dX3_withoutMates_32 : decode cX3_withoutMates 32 = .ok (.iload 4, 2) := by decide +kernel
theorem dX3_withoutMates_34 : decode cX3_withoutMates 34 = .ok (.invokevirtual 139, 3) := by decide +kernel
theorem dX3_withoutMates_37 : decode cX3_withoutMates 37 = .ok (.istore 5, 2) := by decide +kernel
theorem dX3_withoutMates_39 : decode cX3_withoutMates 39 = .ok (.aload_n 0, 1) := by decide +kernel
theorem dX3_withoutMates_40 : decode cX3_withoutMates 40 = .ok (.invokevirtual 46, 3) := by decide +kernel
theorem dX3_withoutMates_43 : decode cX3_withoutMates 43 = .ok (.ifCond .eq 19, 3) := by decide +kernel
theorem dX3_withoutMates_46 : decode cX3_withoutMates 46 = .ok (.aload_n 0, 1) := by decide +kernel
theorem dX3_withoutMates_47 : decode cX3_withoutMates 47 = .ok (.invokevirtual 142, 3) := by decide +kernel
theorem dX3_withoutMates_50 : decode cX3_withoutMates 50 = .ok (.ifCond .ne 12, 3) := by decide +kernel
theorem dX3_withoutMates_53 : decode cX3_withoutMates 53 = .ok (.iload_n 2, 1) := by decide +kernel
theorem dX3_withoutMates_54 : decode cX3_withoutMates 54 = .ok (.iload_n 3, 1) := by decide +kernel
theorem dX3_withoutMates_55 : decode cX3_withoutMates 55 = .ok (.invokestatic 104, 3) := by decide +kernel
theorem dX3_withoutMates_58 : decode cX3_withoutMates 58 = .ok (.iconst (-1), 1) := by decide +kernel
theorem dX3_withoutMates_59 : decode cX3_withoutMates 59 = .ok (.ixor, 1) := by decide +kernel
theorem dX3_withoutMates_60 : decode cX3_withoutMates 60 = .ok (.iand, 1) := by decide +kernel
theorem dX3_withoutMates_61 : decode cX3_withoutMates 61 = .ok (.istore_n 2, 1) := by decide +kernel
theorem dX3_withoutMates_62 : decode cX3_withoutMates 62 = .ok (.aload_n 0, 1) := by decide +kernel
theorem dX3_withoutMates_63 : decode cX3_withoutMates 63 = .ok (.getfield 28, 3) := by decide +kernel
theorem dX3_withoutMates_66 : decode cX3_withoutMates 66 = .ok (.iload 4, 2) := by decide +kernel
theorem dX3_withoutMates_68 : decode cX3_withoutMates 68 = .ok (.iload 5, 2) := by decide +kernel
theorem dX3_withoutMates_70 : decode cX3_withoutMates 70 = .ok (.invokevirtual 145, 3) := by decide +kernel
theorem dX3_withoutMates_73 : decode cX3_withoutMates 73 = .ok (.iinc 3 1, 3) := by decide +kernel
theorem dX3_withoutMates_76 : decode cX3_withoutMates 76 = .ok (.goto (-72), 3) := by decide +kernel
theorem dX3_withoutMates_79 : decode cX3_withoutMates 79 = .ok (.iload_n 2, 1) := by decide +kernel
theorem dX3_withoutMates_80 : decode cX3_withoutMates 80 = .ok (.ireturn, 1) := by decide +kernel
set_option maxRecDepth 20000 in
theorem ggX3_canReply_X2_sideToPlay : GoodIn wsX3_canReply wsX2_sideToPlay := goodIn_r _ [6, 7, 84, 85] (by decide +kernel) (by decide +kernel)
set_option maxRecDepth 20000 in
theorem gX3_canReply_X2_sideToPlay : GoodIn wsX3_canReply (wsV RX3 32 RX2 yX2_sideToPlay wsX2_sideToPlay) := goodIn_app (goodIn_of _ (by decide +kernel)) ggX3_canReply_X2_sideToPlay
set_option maxRecDepth 20000 in
theorem ggX3_canReply_X2_manOn : GoodIn wsX3_canReply wsX2_manOn := goodIn_r _ [11, 7, 84, 85] (by decide +kernel) (by decide +kernel)
set_option maxRecDepth 20000 in
theorem gX3_canReply_X2_manOn : GoodIn wsX3_canReply (wsV RX3 67 RX2 yX2_manOn wsX2_manOn) := goodIn_app (goodIn_of _ (by decide +kernel)) ggX3_canReply_X2_manOn
set_option maxRecDepth 20000 in
theorem ggX3_canReply_X4_sideOf : GoodIn wsX3_canReply wsX4_sideOf := goodIn_r _ [14] (by decide +kernel) (by decide +kernel)
set_option maxRecDepth 20000 in
theorem gX3_canReply_X4_sideOf_n70 : GoodIn wsX3_canReply (wsX4_sideOf) := ggX3_canReply_X4_sideOf
set_option maxRecDepth 20000 in
theorem ggX3_canReply_X3_safeTargets : GoodIn wsX3_canReply wsX3_safeTargets := goodIn_r _ [19, 1, 8, 9, 10, 5, 11, 7, 12, 13, 14, 20, 21, 22, 23, 24, 25, 26, 27, 28, 29, 30, 18, 31, 32, 33, 34, 35, 36, 37, 38, 39, 40, 41, 42, 43, 44, 45, 46, 47, 48, 49, 50, 51, 52, 53, 78, 79, 80, 81, 82, 83, 84, 85] (by decide +kernel) (by decide +kernel)
set_option maxRecDepth 20000 in
theorem gX3_canReply_X3_safeTargets : GoodIn wsX3_canReply (wsV RX3 89 RX3 yX3_safeTargets wsX3_safeTargets) := goodIn_app (goodIn_of _ (by decide +kernel)) ggX3_canReply_X3_safeTargets
set_option maxRecDepth 20000 in
theorem ggX3_canReply_X3_safeDrops : GoodIn wsX3_canReply wsX3_safeDrops := goodIn_r _ [57, 1, 2, 3, 4, 5, 6, 7, 42, 43, 44, 45, 46, 13, 47, 48, 49, 50, 51, 24, 8, 9, 10, 11, 58, 59, 34, 35, 36, 37, 38, 39, 40, 41, 32, 33, 12, 14, 52, 53, 78, 79, 80, 81, 82, 83, 84, 85] (by decide +kernel) (by decide +kernel)
set_option maxRecDepth 20000 in
theorem gX3_canReply_X3_safeDrops : GoodIn wsX3_canReply (wsV RX3 101 RX3 yX3_safeDrops wsX3_safeDrops) := goodIn_app (goodIn_of _ (by decide +kernel)) ggX3_canReply_X3_safeDrops
set_option maxRecDepth 20000 in
theorem ggX3_canReply_X3_openToDrops : GoodIn wsX3_canReply wsX3_openToDrops := goodIn_r _ [63, 1, 2, 3, 4, 5, 6, 7, 64, 65, 66, 67, 46, 13, 47, 68, 69, 70, 71, 72, 73, 74, 75, 18, 76, 77, 8, 9, 10, 11, 58, 59, 78, 79, 80, 81, 82, 83, 84, 85] (by decide +kernel) (by decide +kernel)
set_option maxRecDepth 20000 in
theorem gX3_canReply_X3_openToDrops : GoodIn wsX3_canReply (wsV RX3 125 RX3 yX3_openToDrops wsX3_openToDrops) := goodIn_app (goodIn_of _ (by decide +kernel)) ggX3_canReply_X3_openToDrops
theorem dX3_canReply_0 : decode cX3_canReply 0 = .ok (.aload_n 0, 1) := by decide +kernel
theorem dX3_canReply_1 : decode cX3_canReply 1 = .ok (.getfield 28, 3) := by decide +kernel
theorem dX3_canReply_4 : decode cX3_canReply 4 = .ok (.invokevirtual 32, 3) := by decide +kernel
theorem dX3_canReply_7 : decode cX3_canReply 7 = .ok (.istore_n 1, 1) := by decide +kernel
theorem dX3_canReply_8 : decode cX3_canReply 8 = .ok (.iconst 0, 1) := by decide +kernel
theorem dX3_canReply_9 : decode cX3_canReply 9 = .ok (.istore_n 2, 1) := by decide +kernel
theorem dX3_canReply_10 : decode cX3_canReply 10 = .ok (.iload_n 2, 1) := by decide +kernel
theorem dX3_canReply_11 : decode cX3_canReply 11 = .ok (.bipush 25, 2) := by decide +kernel
theorem dX3_canReply_13 : decode cX3_canReply 13 = .ok (.if_icmp .ge 34, 3) := by decide +kernel
theorem dX3_canReply_16 : decode cX3_canReply 16 = .ok (.aload_n 0, 1) := by decide +kernel
theorem dX3_canReply_17 : decode cX3_canReply 17 = .ok (.getfield 28, 3) := by decide +kernel
theorem dX3_canReply_20 : decode cX3_canReply 20 = .ok (.iload_n 2, 1) := by decide +kernel
theorem dX3_canReply_21 : decode cX3_canReply 21 = .ok (.invokevirtual 67, 3) := by decide +kernel
theorem dX3_canReply_24 : decode cX3_canReply 24 = .ok (.invokestatic 70, 3) := by decide +kernel
theorem dX3_canReply_27 : decode cX3_canReply 27 = .ok (.iload_n 1, 1) := by decide +kernel
theorem dX3_canReply_28 : decode cX3_canReply 28 = .ok (.if_icmp .ne 13, 3) := by decide +kernel
theorem dX3_canReply_31 : decode cX3_canReply 31 = .ok (.aload_n 0, 1) := by decide +kernel
theorem dX3_canReply_32 : decode cX3_canReply 32 = .ok (.iload_n 2, 1) := by decide +kernel
theorem dX3_canReply_33 : decode cX3_canReply 33 = .ok (.invokevirtual 89, 3) := by decide +kernel
theorem dX3_canReply_36 : decode cX3_canReply 36 = .ok (.ifCond .eq 5, 3) := by decide +kernel
theorem dX3_canReply_39 : decode cX3_canReply 39 = .ok (.iconst 1, 1) := by decide +kernel
theorem dX3_canReply_40 : decode cX3_canReply 40 = .ok (.ireturn, 1) := by decide +kernel
theorem dX3_canReply_41 : decode cX3_canReply 41 = .ok (.iinc 2 1, 3) := by decide +kernel
theorem dX3_canReply_44 : decode cX3_canReply 44 = .ok (.goto (-34), 3) := by decide +kernel
theorem dX3_canReply_47 : decode cX3_canReply 47 = .ok (.aload_n 0, 1) := by decide +kernel
theorem dX3_canReply_48 : decode cX3_canReply 48 = .ok (.invokevirtual 101, 3) := by decide +kernel
theorem dX3_canReply_51 : decode cX3_canReply 51 = .ok (.istore_n 2, 1) := by decide +kernel
theorem dX3_canReply_52 : decode cX3_canReply 52 = .ok (.iconst 1, 1) := by decide +kernel
theorem dX3_canReply_53 : decode cX3_canReply 53 = .ok (.istore_n 3, 1) := by decide +kernel
theorem dX3_canReply_54 : decode cX3_canReply 54 = .ok (.iload_n 3, 1) := by decide +kernel
theorem dX3_canReply_55 : decode cX3_canReply 55 = .ok (.iconst 5, 1) := by decide +kernel
theorem dX3_canReply_56 : decode cX3_canReply 56 = .ok (.if_icmp .gt 20, 3) := by decide +kernel
theorem dX3_canReply_59 : decode cX3_canReply 59 = .ok (.aload_n 0, 1) := by decide +kernel
theorem dX3_canReply_60 : decode cX3_canReply 60 = .ok (.iload_n 3, 1) := by decide +kernel
theorem dX3_canReply_61 : decode cX3_canReply 61 = .ok (.iload_n 2, 1) := by decide +kernel
theorem dX3_canReply_62 : decode cX3_canReply 62 = .ok (.invokevirtual 125, 3) := by decide +kernel
theorem dX3_canReply_65 : decode cX3_canReply 65 = .ok (.ifCond .eq 5, 3) := by decide +kernel
theorem dX3_canReply_68 : decode cX3_canReply 68 = .ok (.iconst 1, 1) := by decide +kernel
theorem dX3_canReply_69 : decode cX3_canReply 69 = .ok (.ireturn, 1) := by decide +kernel
theorem dX3_canReply_70 : decode cX3_canReply 70 = .ok (.iinc 3 1, 3) := by decide +kernel
theorem dX3_canReply_73 : decode cX3_canReply 73 = .ok (.goto (-19), 3) := by decide +kernel
theorem dX3_canReply_76 : decode cX3_canReply 76 = .ok (.iconst 0, 1) := by decide +kernel
theorem dX3_canReply_77 : decode cX3_canReply 77 = .ok (.ireturn, 1) := by decide +kernel
