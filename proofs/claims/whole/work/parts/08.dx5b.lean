theorem dX5_hasKingElsewhere_32 : decode cX5_hasKingElsewhere 32 = .ok (.imul, 1) := by decide +kernel
theorem dX5_hasKingElsewhere_33 : decode cX5_hasKingElsewhere 33 = .ok (.iconst 0, 1) := by decide +kernel
theorem dX5_hasKingElsewhere_34 : decode cX5_hasKingElsewhere 34 = .ok (.iadd, 1) := by decide +kernel
theorem dX5_hasKingElsewhere_35 : decode cX5_hasKingElsewhere 35 = .ok (.if_icmp .ne 7, 3) := by decide +kernel
theorem dX5_hasKingElsewhere_38 : decode cX5_hasKingElsewhere 38 = .ok (.iconst 1, 1) := by decide +kernel
theorem dX5_hasKingElsewhere_39 : decode cX5_hasKingElsewhere 39 = .ok (.goto 4, 3) := by decide +kernel
theorem dX5_hasKingElsewhere_42 : decode cX5_hasKingElsewhere 42 = .ok (.iconst 0, 1) := by decide +kernel
theorem dX5_hasKingElsewhere_43 : decode cX5_hasKingElsewhere 43 = .ok (.istore_n 3, 1) := by decide +kernel
theorem dX5_hasKingElsewhere_44 : decode cX5_hasKingElsewhere 44 = .ok (.iinc 4 1, 3) := by decide +kernel
theorem dX5_hasKingElsewhere_47 : decode cX5_hasKingElsewhere 47 = .ok (.goto (-42), 3) := by decide +kernel
theorem dX5_hasKingElsewhere_50 : decode cX5_hasKingElsewhere 50 = .ok (.iload_n 3, 1) := by decide +kernel
theorem dX5_hasKingElsewhere_51 : decode cX5_hasKingElsewhere 51 = .ok (.ireturn, 1) := by decide +kernel
set_option maxRecDepth 20000 in
theorem ggX5_put_X5_isSquare : GoodIn wsX5_put wsX5_isSquare := goodIn_r _ [5, 6, 7, 4, 8] (by decide +kernel) (by decide +kernel)
set_option maxRecDepth 20000 in
theorem gX5_put_X5_isSquare : GoodIn wsX5_put (va_wsS RX5 113 yX5_isSquare wsX5_isSquare) := goodIn_app (goodIn_of _ (by decide +kernel)) ggX5_put_X5_isSquare
set_option maxRecDepth 20000 in
theorem ggX5_put_X5_in : GoodIn wsX5_put wsX5_in := goodIn_r _ [8] (by decide +kernel) (by decide +kernel)
set_option maxRecDepth 20000 in
theorem gX5_put_X5_in : GoodIn wsX5_put (va_wsS RX5 25 yX5_in wsX5_in) := goodIn_app (goodIn_of _ (by decide +kernel)) ggX5_put_X5_in
set_option maxRecDepth 20000 in
theorem ggX5_put_X5_hasKingElsewhere : GoodIn wsX5_put wsX5_hasKingElsewhere := goodIn_r _ [12, 13, 14, 15, 4, 16, 1, 27, 28, 29, 30, 31, 32, 33, 34] (by decide +kernel) (by decide +kernel)
set_option maxRecDepth 20000 in
theorem gX5_put_X5_hasKingElsewhere : GoodIn wsX5_put (wsV RX5 116 RX5 yX5_hasKingElsewhere wsX5_hasKingElsewhere) := goodIn_app (goodIn_of _ (by decide +kernel)) ggX5_put_X5_hasKingElsewhere
set_option maxRecDepth 20000 in
theorem ggX5_put_X5_manAt : GoodIn wsX5_put wsX5_manAt := goodIn_r _ [16, 1, 27, 28, 29, 30, 31, 32, 33, 34] (by decide +kernel) (by decide +kernel)
set_option maxRecDepth 20000 in
theorem gX5_put_X5_manAt : GoodIn wsX5_put (wsV RX5 33 RX5 yX5_manAt wsX5_manAt) := goodIn_app (goodIn_of _ (by decide +kernel)) ggX5_put_X5_manAt
set_option maxRecDepth 20000 in
theorem ggX5_put_X5_remembers : GoodIn wsX5_put wsX5_remembers := goodIn_r _ [20, 21, 22, 1, 27, 28, 29, 30, 31, 32, 33, 34] (by decide +kernel) (by decide +kernel)
set_option maxRecDepth 20000 in
theorem gX5_put_X5_remembers : GoodIn wsX5_put (wsV RX5 104 RX5 yX5_remembers wsX5_remembers) := goodIn_app (goodIn_of _ (by decide +kernel)) ggX5_put_X5_remembers
set_option maxRecDepth 20000 in
theorem ggX5_put_X5_onBoard : GoodIn wsX5_put wsX5_onBoard := goodIn_r _ [26, 1, 27, 28, 29, 30, 31, 32, 33, 34] (by decide +kernel) (by decide +kernel)
set_option maxRecDepth 20000 in
theorem gX5_put_X5_onBoard : GoodIn wsX5_put (wsV RX5 119 RX5 yX5_onBoard wsX5_onBoard) := goodIn_app (goodIn_of _ (by decide +kernel)) ggX5_put_X5_onBoard
theorem dX5_put_0 : decode cX5_put 0 = .ok (.iload_n 1, 1) := by decide +kernel
theorem dX5_put_1 : decode cX5_put 1 = .ok (.invokestatic 113, 3) := by decide +kernel
theorem dX5_put_4 : decode cX5_put 4 = .ok (.ifCond .eq 13, 3) := by decide +kernel
theorem dX5_put_7 : decode cX5_put 7 = .ok (.iload_n 2, 1) := by decide +kernel
theorem dX5_put_8 : decode cX5_put 8 = .ok (.iconst 0, 1) := by decide +kernel
theorem dX5_put_9 : decode cX5_put 9 = .ok (.bipush 19, 2) := by decide +kernel
theorem dX5_put_11 : decode cX5_put 11 = .ok (.invokestatic 25, 3) := by decide +kernel
theorem dX5_put_14 : decode cX5_put 14 = .ok (.ifCond .ne 7, 3) := by decide +kernel
theorem dX5_put_17 : decode cX5_put 17 = .ok (.sipush (-1001), 3) := by decide +kernel
theorem dX5_put_20 : decode cX5_put 20 = .ok (.ireturn, 1) := by decide +kernel
theorem dX5_put_21 : decode cX5_put 21 = .ok (.iload_n 2, 1) := by decide +kernel
theorem dX5_put_22 : decode cX5_put 22 = .ok (.bipush 10, 2) := by decide +kernel
theorem dX5_put_24 : decode cX5_put 24 = .ok (.irem, 1) := by decide +kernel
theorem dX5_put_25 : decode cX5_put 25 = .ok (.ifCond .ne 19, 3) := by decide +kernel
theorem dX5_put_28 : decode cX5_put 28 = .ok (.aload_n 0, 1) := by decide +kernel
theorem dX5_put_29 : decode cX5_put 29 = .ok (.iload_n 2, 1) := by decide +kernel
theorem dX5_put_30 : decode cX5_put 30 = .ok (.bipush 10, 2) := by decide +kernel
theorem dX5_put_32 : decode cX5_put 32 = .ok (.idiv, 1) := by decide +kernel
theorem dX5_put_33 : decode cX5_put 33 = .ok (.iload_n 1, 1) := by decide +kernel
theorem dX5_put_34 : decode cX5_put 34 = .ok (.invokevirtual 116, 3) := by decide +kernel
theorem dX5_put_37 : decode cX5_put 37 = .ok (.ifCond .eq 7, 3) := by decide +kernel
theorem dX5_put_40 : decode cX5_put 40 = .ok (.sipush (-1004), 3) := by decide +kernel
theorem dX5_put_43 : decode cX5_put 43 = .ok (.ireturn, 1) := by decide +kernel
theorem dX5_put_44 : decode cX5_put 44 = .ok (.aload_n 0, 1) := by decide +kernel
theorem dX5_put_45 : decode cX5_put 45 = .ok (.iconst 0, 1) := by decide +kernel
theorem dX5_put_46 : decode cX5_put 46 = .ok (.iload_n 1, 1) := by decide +kernel
theorem dX5_put_47 : decode cX5_put 47 = .ok (.invokevirtual 33, 3) := by decide +kernel
theorem dX5_put_50 : decode cX5_put 50 = .ok (.iload_n 2, 1) := by decide +kernel
theorem dX5_put_51 : decode cX5_put 51 = .ok (.if_icmp .ne 7, 3) := by decide +kernel
theorem dX5_put_54 : decode cX5_put 54 = .ok (.sipush (-1005), 3) := by decide +kernel
theorem dX5_put_57 : decode cX5_put 57 = .ok (.ireturn, 1) := by decide +kernel
theorem dX5_put_58 : decode cX5_put 58 = .ok (.aload_n 0, 1) := by decide +kernel
theorem dX5_put_59 : decode cX5_put 59 = .ok (.invokevirtual 104, 3) := by decide +kernel
theorem dX5_put_62 : decode cX5_put 62 = .ok (.aload_n 0, 1) := by decide +kernel
theorem dX5_put_63 : decode cX5_put 63 = .ok (.getfield 7, 3) := by decide +kernel
theorem dX5_put_66 : decode cX5_put 66 = .ok (.iload_n 1, 1) := by decide +kernel
theorem dX5_put_67 : decode cX5_put 67 = .ok (.iload_n 2, 1) := by decide +kernel
theorem dX5_put_68 : decode cX5_put 68 = .ok (.iconst 1, 1) := by decide +kernel
theorem dX5_put_69 : decode cX5_put 69 = .ok (.iadd, 1) := by decide +kernel
theorem dX5_put_70 : decode cX5_put 70 = .ok (.iastore, 1) := by decide +kernel
theorem dX5_put_71 : decode cX5_put 71 = .ok (.aload_n 0, 1) := by decide +kernel
theorem dX5_put_72 : decode cX5_put 72 = .ok (.invokevirtual 119, 3) := by decide +kernel
theorem dX5_put_75 : decode cX5_put 75 = .ok (.ireturn, 1) := by decide +kernel
set_option maxRecDepth 20000 in
theorem ggX5_takeOff_X5_isSquare : GoodIn wsX5_takeOff wsX5_isSquare := goodIn_r _ [5, 6, 7, 4, 8] (by decide +kernel) (by decide +kernel)
set_option maxRecDepth 20000 in
theorem gX5_takeOff_X5_isSquare : GoodIn wsX5_takeOff (va_wsS RX5 113 yX5_isSquare wsX5_isSquare) := goodIn_app (goodIn_of _ (by decide +kernel)) ggX5_takeOff_X5_isSquare
set_option maxRecDepth 20000 in
theorem ggX5_takeOff_X5_manAt : GoodIn wsX5_takeOff wsX5_manAt := goodIn_r _ [12, 1, 19, 20, 21, 22, 23, 24, 25, 26] (by decide +kernel) (by decide +kernel)
set_option maxRecDepth 20000 in
theorem gX5_takeOff_X5_manAt : GoodIn wsX5_takeOff (wsV RX5 33 RX5 yX5_manAt wsX5_manAt) := goodIn_app (goodIn_of _ (by decide +kernel)) ggX5_takeOff_X5_manAt
set_option maxRecDepth 20000 in
theorem ggX5_takeOff_X5_remembers : GoodIn wsX5_takeOff wsX5_remembers := goodIn_r _ [16, 17, 18, 1, 19, 20, 21, 22, 23, 24, 25, 26] (by decide +kernel) (by decide +kernel)
set_option maxRecDepth 20000 in
theorem gX5_takeOff_X5_remembers : GoodIn wsX5_takeOff (wsV RX5 104 RX5 yX5_remembers wsX5_remembers) := goodIn_app (goodIn_of _ (by decide +kernel)) ggX5_takeOff_X5_remembers
theorem dX5_takeOff_0 : decode cX5_takeOff 0 = .ok (.iload_n 1, 1) := by decide +kernel
theorem dX5_takeOff_1 : decode cX5_takeOff 1 = .ok (.invokestatic 113, 3) := by decide +kernel
theorem dX5_takeOff_4 : decode cX5_takeOff 4 = .ok (.ifCond .ne 7, 3) := by decide +kernel
theorem dX5_takeOff_7 : decode cX5_takeOff 7 = .ok (.sipush (-1001), 3) := by decide +kernel
theorem dX5_takeOff_10 : decode cX5_takeOff 10 = .ok (.ireturn, 1) := by decide +kernel
theorem dX5_takeOff_11 : decode cX5_takeOff 11 = .ok (.aload_n 0, 1) := by decide +kernel
theorem dX5_takeOff_12 : decode cX5_takeOff 12 = .ok (.iconst 0, 1) := by decide +kernel
theorem dX5_takeOff_13 : decode cX5_takeOff 13 = .ok (.iload_n 1, 1) := by decide +kernel
theorem dX5_takeOff_14 : decode cX5_takeOff 14 = .ok (.invokevirtual 33, 3) := by decide +kernel
theorem dX5_takeOff_17 : decode cX5_takeOff 17 = .ok (.istore_n 2, 1) := by decide +kernel
theorem dX5_takeOff_18 : decode cX5_takeOff 18 = .ok (.iload_n 2, 1) := by decide +kernel
theorem dX5_takeOff_19 : decode cX5_takeOff 19 = .ok (.ifCond .ge 7, 3) := by decide +kernel
theorem dX5_takeOff_22 : decode cX5_takeOff 22 = .ok (.sipush (-1005), 3) := by decide +kernel
theorem dX5_takeOff_25 : decode cX5_takeOff 25 = .ok (.ireturn, 1) := by decide +kernel
theorem dX5_takeOff_26 : decode cX5_takeOff 26 = .ok (.aload_n 0, 1) := by decide +kernel
theorem dX5_takeOff_27 : decode cX5_takeOff 27 = .ok (.invokevirtual 104, 3) := by decide +kernel
theorem dX5_takeOff_30 : decode cX5_takeOff 30 = .ok (.aload_n 0, 1) := by decide +kernel
theorem dX5_takeOff_31 : decode cX5_takeOff 31 = .ok (.getfield 7, 3) := by decide +kernel
theorem dX5_takeOff_34 : decode cX5_takeOff 34 = .ok (.iload_n 1, 1) := by decide +kernel
theorem dX5_takeOff_35 : decode cX5_takeOff 35 = .ok (.iconst 0, 1) := by decide +kernel
theorem dX5_takeOff_36 : decode cX5_takeOff 36 = .ok (.iastore, 1) := by decide +kernel
theorem dX5_takeOff_37 : decode cX5_takeOff 37 = .ok (.iload_n 2, 1) := by decide +kernel
theorem dX5_takeOff_38 : decode cX5_takeOff 38 = .ok (.ireturn, 1) := by decide +kernel
set_option maxRecDepth 20000 in
theorem ggX5_setHand_X5_isSide : GoodIn wsX5_setHand wsX5_isSide := goodIn_r _ [5, 6, 7, 4, 8] (by decide +kernel) (by decide +kernel)
set_option maxRecDepth 20000 in
theorem gX5_setHand_X5_isSide : GoodIn wsX5_setHand (va_wsS RX5 123 yX5_isSide wsX5_isSide) := goodIn_app (goodIn_of _ (by decide +kernel)) ggX5_setHand_X5_isSide
set_option maxRecDepth 20000 in
theorem ggX5_setHand_X5_isInHand : GoodIn wsX5_setHand wsX5_isInHand := goodIn_r _ [11, 6, 7, 4, 8] (by decide +kernel) (by decide +kernel)
set_option maxRecDepth 20000 in
theorem gX5_setHand_X5_isInHand : GoodIn wsX5_setHand (va_wsS RX5 126 yX5_isInHand wsX5_isInHand) := goodIn_app (goodIn_of _ (by decide +kernel)) ggX5_setHand_X5_isInHand
set_option maxRecDepth 20000 in
theorem ggX5_setHand_X5_in : GoodIn wsX5_setHand wsX5_in := goodIn_r _ [8] (by decide +kernel) (by decide +kernel)
set_option maxRecDepth 20000 in
theorem gX5_setHand_X5_in : GoodIn wsX5_setHand (va_wsS RX5 25 yX5_in wsX5_in) := goodIn_app (goodIn_of _ (by decide +kernel)) ggX5_setHand_X5_in
set_option maxRecDepth 20000 in
theorem ggX5_setHand_X5_remembers : GoodIn wsX5_setHand wsX5_remembers := goodIn_r _ [15, 16, 17, 1, 18, 19, 20, 21, 22, 23, 24, 25] (by decide +kernel) (by decide +kernel)
set_option maxRecDepth 20000 in
theorem gX5_setHand_X5_remembers : GoodIn wsX5_setHand (wsV RX5 104 RX5 yX5_remembers wsX5_remembers) := goodIn_app (goodIn_of _ (by decide +kernel)) ggX5_setHand_X5_remembers
theorem dX5_setHand_0 : decode cX5_setHand 0 = .ok (.iload_n 1, 1) := by decide +kernel
theorem dX5_setHand_1 : decode cX5_setHand 1 = .ok (.invokestatic 123, 3) := by decide +kernel
theorem dX5_setHand_4 : decode cX5_setHand 4 = .ok (.ifCond .eq 10, 3) := by decide +kernel
theorem dX5_setHand_7 : decode cX5_setHand 7 = .ok (.iload_n 2, 1) := by decide +kernel
theorem dX5_setHand_8 : decode cX5_setHand 8 = .ok (.invokestatic 126, 3) := by decide +kernel
theorem dX5_setHand_11 : decode cX5_setHand 11 = .ok (.ifCond .ne 7, 3) := by decide +kernel
theorem dX5_setHand_14 : decode cX5_setHand 14 = .ok (.sipush (-1001), 3) := by decide +kernel
theorem dX5_setHand_17 : decode cX5_setHand 17 = .ok (.ireturn, 1) := by decide +kernel
theorem dX5_setHand_18 : decode cX5_setHand 18 = .ok (.iload_n 3, 1) := by decide +kernel
theorem dX5_setHand_19 : decode cX5_setHand 19 = .ok (.iconst 0, 1) := by decide +kernel
theorem dX5_setHand_20 : decode cX5_setHand 20 = .ok (.iconst 4, 1) := by decide +kernel
theorem dX5_setHand_21 : decode cX5_setHand 21 = .ok (.invokestatic 25, 3) := by decide +kernel
theorem dX5_setHand_24 : decode cX5_setHand 24 = .ok (.ifCond .ne 7, 3) := by decide +kernel
theorem dX5_setHand_27 : decode cX5_setHand 27 = .ok (.sipush (-1002), 3) := by decide +kernel
theorem dX5_setHand_30 : decode cX5_setHand 30 = .ok (.ireturn, 1) := by decide +kernel
theorem dX5_setHand_31 : decode cX5_setHand 31 = .ok (.aload_n 0, 1) := by decide +kernel
theorem dX5_setHand_32 : decode cX5_setHand 32 = .ok (.getfield 7, 3) := by decide +kernel
theorem dX5_setHand_35 : decode cX5_setHand 35 = .ok (.bipush 25, 2) := by decide +kernel
theorem dX5_setHand_37 : decode cX5_setHand 37 = .ok (.iconst 5, 1) := by decide +kernel
theorem dX5_setHand_38 : decode cX5_setHand 38 = .ok (.iload_n 1, 1) := by decide +kernel
theorem dX5_setHand_39 : decode cX5_setHand 39 = .ok (.imul, 1) := by decide +kernel
theorem dX5_setHand_40 : decode cX5_setHand 40 = .ok (.iadd, 1) := by decide +kernel
theorem dX5_setHand_41 : decode cX5_setHand 41 = .ok (.iload_n 2, 1) := by decide +kernel
theorem dX5_setHand_42 : decode cX5_setHand 42 = .ok (.iadd, 1) := by decide +kernel
theorem dX5_setHand_43 : decode cX5_setHand 43 = .ok (.iconst 1, 1) := by decide +kernel
theorem dX5_setHand_44 : decode cX5_setHand 44 = .ok (.isub, 1) := by decide +kernel
theorem dX5_setHand_45 : decode cX5_setHand 45 = .ok (.iaload, 1) := by decide +kernel
theorem dX5_setHand_46 : decode cX5_setHand 46 = .ok (.istore 4, 2) := by decide +kernel
theorem dX5_setHand_48 : decode cX5_setHand 48 = .ok (.iload 4, 2) := by decide +kernel
theorem dX5_setHand_50 : decode cX5_setHand 50 = .ok (.iload_n 3, 1) := by decide +kernel
theorem dX5_setHand_51 : decode cX5_setHand 51 = .ok (.if_icmp .ne 7, 3) := by decide +kernel
theorem dX5_setHand_54 : decode cX5_setHand 54 = .ok (.sipush (-1005), 3) := by decide +kernel
theorem dX5_setHand_57 : decode cX5_setHand 57 = .ok (.ireturn, 1) := by decide +kernel
theorem dX5_setHand_58 : decode cX5_setHand 58 = .ok (.aload_n 0, 1) := by decide +kernel
theorem dX5_setHand_59 : decode cX5_setHand 59 = .ok (.invokevirtual 104, 3) := by decide +kernel
theorem dX5_setHand_62 : decode cX5_setHand 62 = .ok (.aload_n 0, 1) := by decide +kernel
theorem dX5_setHand_63 : decode cX5_setHand 63 = .ok (.getfield 7, 3) := by decide +kernel
theorem dX5_setHand_66 : decode cX5_setHand 66 = .ok (.bipush 25, 2) := by decide +kernel
theorem dX5_setHand_68 : decode cX5_setHand 68 = .ok (.iconst 5, 1) := by decide +kernel
theorem dX5_setHand_69 : decode cX5_setHand 69 = .ok (.iload_n 1, 1) := by decide +kernel
theorem dX5_setHand_70 : decode cX5_setHand 70 = .ok (.imul, 1) := by decide +kernel
theorem dX5_setHand_71 : decode cX5_setHand 71 = .ok (.iadd, 1) := by decide +kernel
theorem dX5_setHand_72 : decode cX5_setHand 72 = .ok (.iload_n 2, 1) := by decide +kernel
theorem dX5_setHand_73 : decode cX5_setHand 73 = .ok (.iadd, 1) := by decide +kernel
theorem dX5_setHand_74 : decode cX5_setHand 74 = .ok (.iconst 1, 1) := by decide +kernel
theorem dX5_setHand_75 : decode cX5_setHand 75 = .ok (.isub, 1) := by decide +kernel
theorem dX5_setHand_76 : decode cX5_setHand 76 = .ok (.iload_n 3, 1) := by decide +kernel
theorem dX5_setHand_77 : decode cX5_setHand 77 = .ok (.iastore, 1) := by decide +kernel
theorem dX5_setHand_78 : decode cX5_setHand 78 = .ok (.iload 4, 2) := by decide +kernel
theorem dX5_setHand_80 : decode cX5_setHand 80 = .ok (.ireturn, 1) := by decide +kernel
set_option maxRecDepth 20000 in
theorem ggX5_clearAll_X5_onBoard : GoodIn wsX5_clearAll wsX5_onBoard := goodIn_r _ [6, 1, 17, 18, 19, 20, 21, 22, 23, 24] (by decide +kernel) (by decide +kernel)
set_option maxRecDepth 20000 in
theorem gX5_clearAll_X5_onBoard : GoodIn wsX5_clearAll (wsV RX5 119 RX5 yX5_onBoard wsX5_onBoard) := goodIn_app (goodIn_of _ (by decide +kernel)) ggX5_clearAll_X5_onBoard
set_option maxRecDepth 20000 in
theorem ggX5_clearAll_X5_inHand : GoodIn wsX5_clearAll wsX5_inHand := goodIn_r _ [10, 1, 17, 18, 19, 20, 21, 22, 23, 24] (by decide +kernel) (by decide +kernel)
set_option maxRecDepth 20000 in
theorem gX5_clearAll_X5_inHand : GoodIn wsX5_clearAll (wsV RX5 129 RX5 yX5_inHand wsX5_inHand) := goodIn_app (goodIn_of _ (by decide +kernel)) ggX5_clearAll_X5_inHand
set_option maxRecDepth 20000 in
theorem ggX5_clearAll_X5_remembers : GoodIn wsX5_clearAll wsX5_remembers := goodIn_r _ [14, 15, 16, 1, 17, 18, 19, 20, 21, 22, 23, 24] (by decide +kernel) (by decide +kernel)
set_option maxRecDepth 20000 in
theorem gX5_clearAll_X5_remembers : GoodIn wsX5_clearAll (wsV RX5 104 RX5 yX5_remembers wsX5_remembers) := goodIn_app (goodIn_of _ (by decide +kernel)) ggX5_clearAll_X5_remembers
theorem dX5_clearAll_0 : decode cX5_clearAll 0 = .ok (.aload_n 0, 1) := by decide +kernel
theorem dX5_clearAll_1 : decode cX5_clearAll 1 = .ok (.invokevirtual 119, 3) := by decide +kernel
theorem dX5_clearAll_4 : decode cX5_clearAll 4 = .ok (.aload_n 0, 1) := by decide +kernel
theorem dX5_clearAll_5 : decode cX5_clearAll 5 = .ok (.iconst 0, 1) := by decide +kernel
theorem dX5_clearAll_6 : decode cX5_clearAll 6 = .ok (.invokevirtual 129, 3) := by decide +kernel
theorem dX5_clearAll_9 : decode cX5_clearAll 9 = .ok (.iadd, 1) := by decide +kernel
theorem dX5_clearAll_10 : decode cX5_clearAll 10 = .ok (.aload_n 0, 1) := by decide +kernel
theorem dX5_clearAll_11 : decode cX5_clearAll 11 = .ok (.iconst 1, 1) := by decide +kernel
theorem dX5_clearAll_12 : decode cX5_clearAll 12 = .ok (.invokevirtual 129, 3) := by decide +kernel
theorem dX5_clearAll_15 : decode cX5_clearAll 15 = .ok (.iadd, 1) := by decide +kernel
theorem dX5_clearAll_16 : decode cX5_clearAll 16 = .ok (.istore_n 1, 1) := by decide +kernel
theorem dX5_clearAll_17 : decode cX5_clearAll 17 = .ok (.iload_n 1, 1) := by decide +kernel
theorem dX5_clearAll_18 : decode cX5_clearAll 18 = .ok (.ifCond .ne 7, 3) := by decide +kernel
theorem dX5_clearAll_21 : decode cX5_clearAll 21 = .ok (.sipush (-1005), 3) := by decide +kernel
theorem dX5_clearAll_24 : decode cX5_clearAll 24 = .ok (.ireturn, 1) := by decide +kernel
theorem dX5_clearAll_25 : decode cX5_clearAll 25 = .ok (.aload_n 0, 1) := by decide +kernel
theorem dX5_clearAll_26 : decode cX5_clearAll 26 = .ok (.invokevirtual 104, 3) := by decide +kernel
theorem dX5_clearAll_29 : decode cX5_clearAll 29 = .ok (.iconst 0, 1) := by decide +kernel
theorem dX5_clearAll_30 : decode cX5_clearAll 30 = .ok (.istore_n 2, 1) := by decide +kernel
theorem dX5_clearAll_31 : decode cX5_clearAll 31 = .ok (.iload_n 2, 1) := by decide +kernel
theorem dX5_clearAll_32 : decode cX5_clearAll 32 = .ok (.bipush 35, 2) := by decide +kernel
theorem dX5_clearAll_34 : decode cX5_clearAll 34 = .ok (.if_icmp .ge 16, 3) := by decide +kernel
theorem dX5_clearAll_37 : decode cX5_clearAll 37 = .ok (.aload_n 0, 1) := by decide +kernel
theorem dX5_clearAll_38 : decode cX5_clearAll 38 = .ok (.getfield 7, 3) := by decide +kernel
theorem dX5_clearAll_41 : decode cX5_clearAll 41 = .ok (.iload_n 2, 1) := by decide +kernel
theorem dX5_clearAll_42 : decode cX5_clearAll 42 = .ok (.iconst 0, 1) := by decide +kernel
theorem dX5_clearAll_43 : decode cX5_clearAll 43 = .ok (.iastore, 1) := by decide +kernel
theorem dX5_clearAll_44 : decode cX5_clearAll 44 = .ok (.iinc 2 1, 3) := by decide +kernel
theorem dX5_clearAll_47 : decode cX5_clearAll 47 = .ok (.goto (-16), 3) := by decide +kernel
theorem dX5_clearAll_50 : decode cX5_clearAll 50 = .ok (.iload_n 1, 1) := by decide +kernel
theorem dX5_clearAll_51 : decode cX5_clearAll 51 = .ok (.ireturn, 1) := by decide +kernel
set_option maxRecDepth 20000 in
theorem ggX5_setSide_X5_isSide : GoodIn wsX5_setSide wsX5_isSide := goodIn_r _ [5, 6, 7, 4, 8] (by decide +kernel) (by decide +kernel)
set_option maxRecDepth 20000 in
theorem gX5_setSide_X5_isSide : GoodIn wsX5_setSide (va_wsS RX5 123 yX5_isSide wsX5_isSide) := goodIn_app (goodIn_of _ (by decide +kernel)) ggX5_setSide_X5_isSide
set_option maxRecDepth 20000 in
theorem ggX5_setSide_X5_remembers : GoodIn wsX5_setSide wsX5_remembers := goodIn_r _ [12, 13, 14, 1, 90, 91, 92, 93, 94, 95, 96, 97] (by decide +kernel) (by decide +kernel)
set_option maxRecDepth 20000 in
theorem gX5_setSide_X5_remembers : GoodIn wsX5_setSide (wsV RX5 104 RX5 yX5_remembers wsX5_remembers) := goodIn_app (goodIn_of _ (by decide +kernel)) ggX5_setSide_X5_remembers
set_option maxRecDepth 20000 in
theorem ggX5_setSide_X5_plays : GoodIn wsX5_setSide wsX5_plays := goodIn_r _ [18, 19, 20, 21, 4, 22, 1, 23, 24, 25, 26, 27, 28, 29, 30, 31, 32, 33, 34, 35, 36, 37, 38, 39, 40, 41, 42, 43, 44, 45, 46, 47, 48, 49, 50, 51, 52, 53, 54, 55, 6, 7, 8, 56, 57, 58, 59, 60, 61, 62, 63, 64, 65, 66, 67, 68, 69, 70, 71, 72, 73, 74, 75, 76, 77, 78, 79, 80, 81, 82, 83, 84, 85, 86, 87, 88, 89, 90, 91, 92, 93, 94, 95, 96, 97] (by decide +kernel) (by decide +kernel)
set_option maxRecDepth 20000 in
theorem gX5_setSide_X5_plays : GoodIn wsX5_setSide (wsV RX5 97 RX5 yX5_plays wsX5_plays) := goodIn_app (goodIn_of _ (by decide +kernel)) ggX5_setSide_X5_plays
theorem dX5_setSide_0 : decode cX5_setSide 0 = .ok (.iload_n 1, 1) := by decide +kernel
theorem dX5_setSide_1 : decode cX5_setSide 1 = .ok (.invokestatic 123, 3) := by decide +kernel
theorem dX5_setSide_4 : decode cX5_setSide 4 = .ok (.ifCond .ne 7, 3) := by decide +kernel
theorem dX5_setSide_7 : decode cX5_setSide 7 = .ok (.sipush (-1001), 3) := by decide +kernel
theorem dX5_setSide_10 : decode cX5_setSide 10 = .ok (.ireturn, 1) := by decide +kernel
theorem dX5_setSide_11 : decode cX5_setSide 11 = .ok (.aload_n 0, 1) := by decide +kernel
theorem dX5_setSide_12 : decode cX5_setSide 12 = .ok (.getfield 7, 3) := by decide +kernel
theorem dX5_setSide_15 : decode cX5_setSide 15 = .ok (.bipush 35, 2) := by decide +kernel
theorem dX5_setSide_17 : decode cX5_setSide 17 = .ok (.iaload, 1) := by decide +kernel
theorem dX5_setSide_18 : decode cX5_setSide 18 = .ok (.iload_n 1, 1) := by decide +kernel
theorem dX5_setSide_19 : decode cX5_setSide 19 = .ok (.if_icmp .ne 7, 3) := by decide +kernel
theorem dX5_setSide_22 : decode cX5_setSide 22 = .ok (.sipush (-1005), 3) := by decide +kernel
theorem dX5_setSide_25 : decode cX5_setSide 25 = .ok (.ireturn, 1) := by decide +kernel
theorem dX5_setSide_26 : decode cX5_setSide 26 = .ok (.aload_n 0, 1) := by decide +kernel
theorem dX5_setSide_27 : decode cX5_setSide 27 = .ok (.invokevirtual 104, 3) := by decide +kernel
theorem dX5_setSide_30 : decode cX5_setSide 30 = .ok (.aload_n 0, 1) := by decide +kernel
theorem dX5_setSide_31 : decode cX5_setSide 31 = .ok (.getfield 7, 3) := by decide +kernel
theorem dX5_setSide_34 : decode cX5_setSide 34 = .ok (.bipush 35, 2) := by decide +kernel
theorem dX5_setSide_36 : decode cX5_setSide 36 = .ok (.iload_n 1, 1) := by decide +kernel
theorem dX5_setSide_37 : decode cX5_setSide 37 = .ok (.iastore, 1) := by decide +kernel
theorem dX5_setSide_38 : decode cX5_setSide 38 = .ok (.aload_n 0, 1) := by decide +kernel
theorem dX5_setSide_39 : decode cX5_setSide 39 = .ok (.iconst 0, 1) := by decide +kernel
theorem dX5_setSide_40 : decode cX5_setSide 40 = .ok (.invokevirtual 97, 3) := by decide +kernel
theorem dX5_setSide_43 : decode cX5_setSide 43 = .ok (.ireturn, 1) := by decide +kernel
theorem dX5_type_0 : decode cX5_type 0 = .ok (.aload_n 0, 1) := by decide +kernel
theorem dX5_type_1 : decode cX5_type 1 = .ok (.getfield 132, 3) := by decide +kernel
theorem dX5_type_4 : decode cX5_type 4 = .ok (.bipush 60, 2) := by decide +kernel
theorem dX5_type_6 : decode cX5_type 6 = .ok (.if_icmp .ne 7, 3) := by decide +kernel
theorem dX5_type_9 : decode cX5_type 9 = .ok (.sipush (-1003), 3) := by decide +kernel
theorem dX5_type_12 : decode cX5_type 12 = .ok (.ireturn, 1) := by decide +kernel
theorem dX5_type_13 : decode cX5_type 13 = .ok (.aload_n 0, 1) := by decide +kernel
theorem dX5_type_14 : decode cX5_type 14 = .ok (.getfield 22, 3) := by decide +kernel
theorem dX5_type_17 : decode cX5_type 17 = .ok (.aload_n 0, 1) := by decide +kernel
theorem dX5_type_18 : decode cX5_type 18 = .ok (.getfield 132, 3) := by decide +kernel
theorem dX5_type_21 : decode cX5_type 21 = .ok (.iload_n 1, 1) := by decide +kernel
theorem dX5_type_22 : decode cX5_type 22 = .ok (.iastore, 1) := by decide +kernel
theorem dX5_type_23 : decode cX5_type 23 = .ok (.aload_n 0, 1) := by decide +kernel
theorem dX5_type_24 : decode cX5_type 24 = .ok (.dup, 1) := by decide +kernel
theorem dX5_type_25 : decode cX5_type 25 = .ok (.getfield 132, 3) := by decide +kernel
theorem dX5_type_28 : decode cX5_type 28 = .ok (.iconst 1, 1) := by decide +kernel
theorem dX5_type_29 : decode cX5_type 29 = .ok (.iadd, 1) := by decide +kernel
theorem dX5_type_30 : decode cX5_type 30 = .ok (.putfield 132, 3) := by decide +kernel
theorem dX5_type_33 : decode cX5_type 33 = .ok (.aload_n 0, 1) := by decide +kernel
theorem dX5_type_34 : decode cX5_type 34 = .ok (.getfield 132, 3) := by decide +kernel
theorem dX5_type_37 : decode cX5_type 37 = .ok (.ireturn, 1) := by decide +kernel
theorem dX5_clearText_0 : decode cX5_clearText 0 = .ok (.aload_n 0, 1) := by decide +kernel
theorem dX5_clearText_1 : decode cX5_clearText 1 = .ok (.getfield 132, 3) := by decide +kernel
theorem dX5_clearText_4 : decode cX5_clearText 4 = .ok (.istore_n 1, 1) := by decide +kernel
theorem dX5_clearText_5 : decode cX5_clearText 5 = .ok (.aload_n 0, 1) := by decide +kernel
theorem dX5_clearText_6 : decode cX5_clearText 6 = .ok (.iconst 0, 1) := by decide +kernel
theorem dX5_clearText_7 : decode cX5_clearText 7 = .ok (.putfield 132, 3) := by decide +kernel
theorem dX5_clearText_10 : decode cX5_clearText 10 = .ok (.iload_n 1, 1) := by decide +kernel
theorem dX5_clearText_11 : decode cX5_clearText 11 = .ok (.ireturn, 1) := by decide +kernel
theorem dX5_sign_0 : decode cX5_sign 0 = .ok (.iload_n 1, 1) := by decide +kernel
theorem dX5_sign_1 : decode cX5_sign 1 = .ok (.aload_n 0, 1) := by decide +kernel
theorem dX5_sign_2 : decode cX5_sign 2 = .ok (.getfield 132, 3) := by decide +kernel
theorem dX5_sign_5 : decode cX5_sign 5 = .ok (.if_icmp .ge 12, 3) := by decide +kernel
theorem dX5_sign_8 : decode cX5_sign 8 = .ok (.aload_n 0, 1) := by decide +kernel
theorem dX5_sign_9 : decode cX5_sign 9 = .ok (.getfield 22, 3) := by decide +kernel
theorem dX5_sign_12 : decode cX5_sign 12 = .ok (.iload_n 1, 1) := by decide +kernel
theorem dX5_sign_13 : decode cX5_sign 13 = .ok (.iaload, 1) := by decide +kernel
theorem dX5_sign_14 : decode cX5_sign 14 = .ok (.goto 4, 3) := by decide +kernel
theorem dX5_sign_17 : decode cX5_sign 17 = .ok (.iconst (-1), 1) := by decide +kernel
theorem dX5_sign_18 : decode cX5_sign 18 = .ok (.ireturn, 1) := by decide +kernel
theorem dX5_kindOfLetter_0 : decode cX5_kindOfLetter 0 = .ok (.iload_n 0, 1) := by decide +kernel
theorem dX5_kindOfLetter_1 : decode cX5_kindOfLetter 1 = .ok (.lookupswitch 61 #[(98, 55), (103, 51), (112, 59), (114, 57), (115, 53)], 51) := by decide +kernel
theorem dX5_kindOfLetter_52 : decode cX5_kindOfLetter 52 = .ok (.iconst 1, 1) := by decide +kernel
theorem dX5_kindOfLetter_53 : decode cX5_kindOfLetter 53 = .ok (.ireturn, 1) := by decide +kernel
theorem dX5_kindOfLetter_54 : decode cX5_kindOfLetter 54 = .ok (.iconst 2, 1) := by decide +kernel
theorem dX5_kindOfLetter_55 : decode cX5_kindOfLetter 55 = .ok (.ireturn, 1) := by decide +kernel
theorem dX5_kindOfLetter_56 : decode cX5_kindOfLetter 56 = .ok (.iconst 3, 1) := by decide +kernel
theorem dX5_kindOfLetter_57 : decode cX5_kindOfLetter 57 = .ok (.ireturn, 1) := by decide +kernel
theorem dX5_kindOfLetter_58 : decode cX5_kindOfLetter 58 = .ok (.iconst 4, 1) := by decide +kernel
theorem dX5_kindOfLetter_59 : decode cX5_kindOfLetter 59 = .ok (.ireturn, 1) := by decide +kernel
theorem dX5_kindOfLetter_60 : decode cX5_kindOfLetter 60 = .ok (.iconst 5, 1) := by decide +kernel
theorem dX5_kindOfLetter_61 : decode cX5_kindOfLetter 61 = .ok (.ireturn, 1) := by decide +kernel
theorem dX5_kindOfLetter_62 : decode cX5_kindOfLetter 62 = .ok (.iconst 0, 1) := by decide +kernel
theorem dX5_kindOfLetter_63 : decode cX5_kindOfLetter 63 = .ok (.ireturn, 1) := by decide +kernel
set_option maxRecDepth 20000 in
theorem ggX5_squareEnd_X5_sign : GoodIn wsX5_squareEnd wsX5_sign := goodIn_r _ [5, 6, 7, 11, 12, 13, 14, 15, 16, 17, 18] (by decide +kernel) (by decide +kernel)
set_option maxRecDepth 20000 in
theorem gX5_squareEnd_X5_sign : GoodIn wsX5_squareEnd (wsV RX5 135 RX5 yX5_sign wsX5_sign) := goodIn_app (goodIn_of _ (by decide +kernel)) ggX5_squareEnd_X5_sign
set_option maxRecDepth 20000 in
theorem ggX5_squareEnd_X5_in : GoodIn wsX5_squareEnd wsX5_in := goodIn_r _ [10] (by decide +kernel) (by decide +kernel)
set_option maxRecDepth 20000 in
theorem gX5_squareEnd_X5_in : GoodIn wsX5_squareEnd (va_wsS RX5 25 yX5_in wsX5_in) := goodIn_app (goodIn_of _ (by decide +kernel)) ggX5_squareEnd_X5_in
theorem dX5_squareEnd_0 : decode cX5_squareEnd 0 = .ok (.iload_n 1, 1) := by decide +kernel
theorem dX5_squareEnd_1 : decode cX5_squareEnd 1 = .ok (.ifCond .ge 5, 3) := by decide +kernel
theorem dX5_squareEnd_4 : decode cX5_squareEnd 4 = .ok (.iload_n 1, 1) := by decide +kernel
theorem dX5_squareEnd_5 : decode cX5_squareEnd 5 = .ok (.ireturn, 1) := by decide +kernel
theorem dX5_squareEnd_6 : decode cX5_squareEnd 6 = .ok (.aload_n 0, 1) := by decide +kernel
theorem dX5_squareEnd_7 : decode cX5_squareEnd 7 = .ok (.iload_n 1, 1) := by decide +kernel
theorem dX5_squareEnd_8 : decode cX5_squareEnd 8 = .ok (.invokevirtual 135, 3) := by decide +kernel
theorem dX5_squareEnd_11 : decode cX5_squareEnd 11 = .ok (.bipush 48, 2) := by decide +kernel
theorem dX5_squareEnd_13 : decode cX5_squareEnd 13 = .ok (.bipush 52, 2) := by decide +kernel
theorem dX5_squareEnd_15 : decode cX5_squareEnd 15 = .ok (.invokestatic 25, 3) := by decide +kernel
theorem dX5_squareEnd_18 : decode cX5_squareEnd 18 = .ok (.ifCond .ne 7, 3) := by decide +kernel
theorem dX5_squareEnd_21 : decode cX5_squareEnd 21 = .ok (.iconst (-1), 1) := by decide +kernel
theorem dX5_squareEnd_22 : decode cX5_squareEnd 22 = .ok (.iload_n 1, 1) := by decide +kernel
theorem dX5_squareEnd_23 : decode cX5_squareEnd 23 = .ok (.isub, 1) := by decide +kernel
theorem dX5_squareEnd_24 : decode cX5_squareEnd 24 = .ok (.ireturn, 1) := by decide +kernel
theorem dX5_squareEnd_25 : decode cX5_squareEnd 25 = .ok (.aload_n 0, 1) := by decide +kernel
theorem dX5_squareEnd_26 : decode cX5_squareEnd 26 = .ok (.iload_n 1, 1) := by decide +kernel
theorem dX5_squareEnd_27 : decode cX5_squareEnd 27 = .ok (.iconst 1, 1) := by decide +kernel
theorem dX5_squareEnd_28 : decode cX5_squareEnd 28 = .ok (.iadd, 1) := by decide +kernel
theorem dX5_squareEnd_29 : decode cX5_squareEnd 29 = .ok (.invokevirtual 135, 3) := by decide +kernel
theorem dX5_squareEnd_32 : decode cX5_squareEnd 32 = .ok (.bipush 48, 2) := by decide +kernel
theorem dX5_squareEnd_34 : decode cX5_squareEnd 34 = .ok (.bipush 52, 2) := by decide +kernel
theorem dX5_squareEnd_36 : decode cX5_squareEnd 36 = .ok (.invokestatic 25, 3) := by decide +kernel
theorem dX5_squareEnd_39 : decode cX5_squareEnd 39 = .ok (.ifCond .eq 9, 3) := by decide +kernel
theorem dX5_squareEnd_42 : decode cX5_squareEnd 42 = .ok (.iload_n 1, 1) := by decide +kernel
theorem dX5_squareEnd_43 : decode cX5_squareEnd 43 = .ok (.iconst 2, 1) := by decide +kernel
theorem dX5_squareEnd_44 : decode cX5_squareEnd 44 = .ok (.iadd, 1) := by decide +kernel
theorem dX5_squareEnd_45 : decode cX5_squareEnd 45 = .ok (.goto 7, 3) := by decide +kernel
theorem dX5_squareEnd_48 : decode cX5_squareEnd 48 = .ok (.bipush (-2), 2) := by decide +kernel
theorem dX5_squareEnd_50 : decode cX5_squareEnd 50 = .ok (.iload_n 1, 1) := by decide +kernel
theorem dX5_squareEnd_51 : decode cX5_squareEnd 51 = .ok (.isub, 1) := by decide +kernel
theorem dX5_squareEnd_52 : decode cX5_squareEnd 52 = .ok (.ireturn, 1) := by decide +kernel
set_option maxRecDepth 20000 in
theorem ggX5_behind_X5_sign : GoodIn wsX5_behind wsX5_sign := goodIn_r _ [5, 6, 7, 8, 9, 10, 11, 12, 13, 14, 15] (by decide +kernel) (by decide +kernel)
set_option maxRecDepth 20000 in
theorem gX5_behind_X5_sign : GoodIn wsX5_behind (wsV RX5 135 RX5 yX5_sign wsX5_sign) := goodIn_app (goodIn_of _ (by decide +kernel)) ggX5_behind_X5_sign
theorem dX5_behind_0 : decode cX5_behind 0 = .ok (.iload_n 1, 1) := by decide +kernel
theorem dX5_behind_1 : decode cX5_behind 1 = .ok (.ifCond .ge 7, 3) := by decide +kernel
theorem dX5_behind_4 : decode cX5_behind 4 = .ok (.iload_n 1, 1) := by decide +kernel
theorem dX5_behind_5 : decode cX5_behind 5 = .ok (.goto 21, 3) := by decide +kernel
theorem dX5_behind_8 : decode cX5_behind 8 = .ok (.aload_n 0, 1) := by decide +kernel
theorem dX5_behind_9 : decode cX5_behind 9 = .ok (.iload_n 1, 1) := by decide +kernel
theorem dX5_behind_10 : decode cX5_behind 10 = .ok (.invokevirtual 135, 3) := by decide +kernel
theorem dX5_behind_13 : decode cX5_behind 13 = .ok (.iload_n 2, 1) := by decide +kernel
theorem dX5_behind_14 : decode cX5_behind 14 = .ok (.if_icmp .ne 9, 3) := by decide +kernel
theorem dX5_behind_17 : decode cX5_behind 17 = .ok (.iload_n 1, 1) := by decide +kernel
theorem dX5_behind_18 : decode cX5_behind 18 = .ok (.iconst 1, 1) := by decide +kernel
theorem dX5_behind_19 : decode cX5_behind 19 = .ok (.iadd, 1) := by decide +kernel
theorem dX5_behind_20 : decode cX5_behind 20 = .ok (.goto 6, 3) := by decide +kernel
theorem dX5_behind_23 : decode cX5_behind 23 = .ok (.iconst (-1), 1) := by decide +kernel
theorem dX5_behind_24 : decode cX5_behind 24 = .ok (.iload_n 1, 1) := by decide +kernel
theorem dX5_behind_25 : decode cX5_behind 25 = .ok (.isub, 1) := by decide +kernel
theorem dX5_behind_26 : decode cX5_behind 26 = .ok (.ireturn, 1) := by decide +kernel
set_option maxRecDepth 20000 in
theorem ggX5_playEnd_X5_sign : GoodIn wsX5_playEnd wsX5_sign := goodIn_r _ [5, 6, 7, 22, 23, 24, 25, 26, 27, 28, 29] (by decide +kernel) (by decide +kernel)
set_option maxRecDepth 20000 in
theorem gX5_playEnd_X5_sign : GoodIn wsX5_playEnd (wsV RX5 135 RX5 yX5_sign wsX5_sign) := goodIn_app (goodIn_of _ (by decide +kernel)) ggX5_playEnd_X5_sign
set_option maxRecDepth 20000 in
theorem ggX5_playEnd_X5_kindOfLetter : GoodIn wsX5_playEnd wsX5_kindOfLetter := goodIn_r _ [10] (by decide +kernel) (by decide +kernel)
set_option maxRecDepth 20000 in
theorem gX5_playEnd_X5_kindOfLetter : GoodIn wsX5_playEnd (va_wsS RX5 138 yX5_kindOfLetter wsX5_kindOfLetter) := goodIn_app (goodIn_of _ (by decide +kernel)) ggX5_playEnd_X5_kindOfLetter
set_option maxRecDepth 20000 in
theorem ggX5_playEnd_X5_behind : GoodIn wsX5_playEnd wsX5_behind := goodIn_r _ [14, 1, 2, 3, 4, 5, 6, 7, 22, 23, 24, 25, 26, 27, 28, 29] (by decide +kernel) (by decide +kernel)
set_option maxRecDepth 20000 in
theorem gX5_playEnd_X5_behind : GoodIn wsX5_playEnd (wsV RX5 141 RX5 yX5_behind wsX5_behind) := goodIn_app (goodIn_of _ (by decide +kernel)) ggX5_playEnd_X5_behind
set_option maxRecDepth 20000 in
theorem ggX5_playEnd_X5_squareEnd : GoodIn wsX5_playEnd wsX5_squareEnd := goodIn_r _ [18, 1, 2, 3, 4, 5, 6, 7, 19, 20, 21, 22, 23, 24, 25, 26, 27, 28, 29] (by decide +kernel) (by decide +kernel)
set_option maxRecDepth 20000 in
theorem gX5_playEnd_X5_squareEnd : GoodIn wsX5_playEnd (wsV RX5 144 RX5 yX5_squareEnd wsX5_squareEnd) := goodIn_app (goodIn_of _ (by decide +kernel)) ggX5_playEnd_X5_squareEnd
theorem dX5_playEnd_0 : decode cX5_playEnd 0 = .ok (.aload_n 0, 1) := by decide +kernel
theorem dX5_playEnd_1 : decode cX5_playEnd 1 = .ok (.iload_n 1, 1) := by decide +kernel
theorem dX5_playEnd_2 : decode cX5_playEnd 2 = .ok (.invokevirtual 135, 3) := by decide +kernel
theorem dX5_playEnd_5 : decode cX5_playEnd 5 = .ok (.invokestatic 138, 3) := by decide +kernel
theorem dX5_playEnd_8 : decode cX5_playEnd 8 = .ok (.ifCond .le 17, 3) := by decide +kernel
theorem dX5_playEnd_11 : decode cX5_playEnd 11 = .ok (.aload_n 0, 1) := by decide +kernel
theorem dX5_playEnd_12 : decode cX5_playEnd 12 = .ok (.aload_n 0, 1) := by decide +kernel
theorem dX5_playEnd_13 : decode cX5_playEnd 13 = .ok (.iload_n 1, 1) := by decide +kernel
theorem dX5_playEnd_14 : decode cX5_playEnd 14 = .ok (.iconst 1, 1) := by decide +kernel
theorem dX5_playEnd_15 : decode cX5_playEnd 15 = .ok (.iadd, 1) := by decide +kernel
theorem dX5_playEnd_16 : decode cX5_playEnd 16 = .ok (.bipush 42, 2) := by decide +kernel
theorem dX5_playEnd_18 : decode cX5_playEnd 18 = .ok (.invokevirtual 141, 3) := by decide +kernel
theorem dX5_playEnd_21 : decode cX5_playEnd 21 = .ok (.invokevirtual 144, 3) := by decide +kernel
theorem dX5_playEnd_24 : decode cX5_playEnd 24 = .ok (.ireturn, 1) := by decide +kernel
theorem dX5_playEnd_25 : decode cX5_playEnd 25 = .ok (.aload_n 0, 1) := by decide +kernel
theorem dX5_playEnd_26 : decode cX5_playEnd 26 = .ok (.aload_n 0, 1) := by decide +kernel
theorem dX5_playEnd_27 : decode cX5_playEnd 27 = .ok (.aload_n 0, 1) := by decide +kernel
theorem dX5_playEnd_28 : decode cX5_playEnd 28 = .ok (.iload_n 1, 1) := by decide +kernel
theorem dX5_playEnd_29 : decode cX5_playEnd 29 = .ok (.invokevirtual 144, 3) := by decide +kernel
theorem dX5_playEnd_32 : decode cX5_playEnd 32 = .ok (.bipush 45, 2) := by decide +kernel
theorem dX5_playEnd_34 : decode cX5_playEnd 34 = .ok (.invokevirtual 141, 3) := by decide +kernel
theorem dX5_playEnd_37 : decode cX5_playEnd 37 = .ok (.invokevirtual 144, 3) := by decide +kernel
theorem dX5_playEnd_40 : decode cX5_playEnd 40 = .ok (.istore_n 2, 1) := by decide +kernel
theorem dX5_playEnd_41 : decode cX5_playEnd 41 = .ok (.iload_n 2, 1) := by decide +kernel
theorem dX5_playEnd_42 : decode cX5_playEnd 42 = .ok (.ifCond .le 19, 3) := by decide +kernel
theorem dX5_playEnd_45 : decode cX5_playEnd 45 = .ok (.aload_n 0, 1) := by decide +kernel
theorem dX5_playEnd_46 : decode cX5_playEnd 46 = .ok (.iload_n 2, 1) := by decide +kernel
theorem dX5_playEnd_47 : decode cX5_playEnd 47 = .ok (.invokevirtual 135, 3) := by decide +kernel
theorem dX5_playEnd_50 : decode cX5_playEnd 50 = .ok (.bipush 43, 2) := by decide +kernel
theorem dX5_playEnd_52 : decode cX5_playEnd 52 = .ok (.if_icmp .ne 9, 3) := by decide +kernel
theorem dX5_playEnd_55 : decode cX5_playEnd 55 = .ok (.iload_n 2, 1) := by decide +kernel
theorem dX5_playEnd_56 : decode cX5_playEnd 56 = .ok (.iconst 1, 1) := by decide +kernel
theorem dX5_playEnd_57 : decode cX5_playEnd 57 = .ok (.iadd, 1) := by decide +kernel
theorem dX5_playEnd_58 : decode cX5_playEnd 58 = .ok (.goto 4, 3) := by decide +kernel
theorem dX5_playEnd_61 : decode cX5_playEnd 61 = .ok (.iload_n 2, 1) := by decide +kernel
theorem dX5_playEnd_62 : decode cX5_playEnd 62 = .ok (.ireturn, 1) := by decide +kernel
set_option maxRecDepth 20000 in
theorem ggX5_fault_X5_playEnd : GoodIn wsX5_fault wsX5_playEnd := goodIn_r _ [6, 7, 8, 9, 5, 10, 1, 11, 12, 13, 14, 15, 16, 17, 18, 19, 20, 21, 22, 23, 24, 25, 26, 27, 28, 29, 30, 31, 32, 33] (by decide +kernel) (by decide +kernel)
set_option maxRecDepth 20000 in
theorem gX5_fault_X5_playEnd : GoodIn wsX5_fault (wsV RX5 147 RX5 yX5_playEnd wsX5_playEnd) := goodIn_app (goodIn_of _ (by decide +kernel)) ggX5_fault_X5_playEnd
set_option maxRecDepth 20000 in
theorem ggX5_fault_X5_sign : GoodIn wsX5_fault wsX5_sign := goodIn_r _ [10, 1, 11, 26, 27, 28, 29, 30, 31, 32, 33] (by decide +kernel) (by decide +kernel)
set_option maxRecDepth 20000 in
theorem gX5_fault_X5_sign : GoodIn wsX5_fault (wsV RX5 135 RX5 yX5_sign wsX5_sign) := goodIn_app (goodIn_of _ (by decide +kernel)) ggX5_fault_X5_sign
theorem dX5_fault_0 : decode cX5_fault 0 = .ok (.iconst 0, 1) := by decide +kernel
theorem dX5_fault_1 : decode cX5_fault 1 = .ok (.istore_n 1, 1) := by decide +kernel
theorem dX5_fault_2 : decode cX5_fault 2 = .ok (.iconst 0, 1) := by decide +kernel
theorem dX5_fault_3 : decode cX5_fault 3 = .ok (.istore_n 2, 1) := by decide +kernel
theorem dX5_fault_4 : decode cX5_fault 4 = .ok (.iload_n 2, 1) := by decide +kernel
theorem dX5_fault_5 : decode cX5_fault 5 = .ok (.bipush 60, 2) := by decide +kernel
theorem dX5_fault_7 : decode cX5_fault 7 = .ok (.if_icmp .ge 51, 3) := by decide +kernel
theorem dX5_fault_10 : decode cX5_fault 10 = .ok (.aload_n 0, 1) := by decide +kernel
theorem dX5_fault_11 : decode cX5_fault 11 = .ok (.iload_n 1, 1) := by decide +kernel
theorem dX5_fault_12 : decode cX5_fault 12 = .ok (.invokevirtual 147, 3) := by decide +kernel
theorem dX5_fault_15 : decode cX5_fault 15 = .ok (.istore_n 3, 1) := by decide +kernel
theorem dX5_fault_16 : decode cX5_fault 16 = .ok (.iload_n 3, 1) := by decide +kernel
theorem dX5_fault_17 : decode cX5_fault 17 = .ok (.ifCond .ge 7, 3) := by decide +kernel
theorem dX5_fault_20 : decode cX5_fault 20 = .ok (.iconst (-1), 1) := by decide +kernel
theorem dX5_fault_21 : decode cX5_fault 21 = .ok (.iload_n 3, 1) := by decide +kernel
theorem dX5_fault_22 : decode cX5_fault 22 = .ok (.isub, 1) := by decide +kernel
theorem dX5_fault_23 : decode cX5_fault 23 = .ok (.ireturn, 1) := by decide +kernel
theorem dX5_fault_24 : decode cX5_fault 24 = .ok (.iload_n 3, 1) := by decide +kernel
theorem dX5_fault_25 : decode cX5_fault 25 = .ok (.aload_n 0, 1) := by decide +kernel
theorem dX5_fault_26 : decode cX5_fault 26 = .ok (.getfield 132, 3) := by decide +kernel
theorem dX5_fault_29 : decode cX5_fault 29 = .ok (.if_icmp .ne 7, 3) := by decide +kernel
theorem dX5_fault_32 : decode cX5_fault 32 = .ok (.sipush (-1005), 3) := by decide +kernel
theorem dX5_fault_35 : decode cX5_fault 35 = .ok (.ireturn, 1) := by decide +kernel
theorem dX5_fault_36 : decode cX5_fault 36 = .ok (.aload_n 0, 1) := by decide +kernel
theorem dX5_fault_37 : decode cX5_fault 37 = .ok (.iload_n 3, 1) := by decide +kernel
theorem dX5_fault_38 : decode cX5_fault 38 = .ok (.invokevirtual 135, 3) := by decide +kernel
theorem dX5_fault_41 : decode cX5_fault 41 = .ok (.bipush 59, 2) := by decide +kernel
theorem dX5_fault_43 : decode cX5_fault 43 = .ok (.if_icmp .eq 5, 3) := by decide +kernel
theorem dX5_fault_46 : decode cX5_fault 46 = .ok (.iload_n 3, 1) := by decide +kernel
theorem dX5_fault_47 : decode cX5_fault 47 = .ok (.ireturn, 1) := by decide +kernel
theorem dX5_fault_48 : decode cX5_fault 48 = .ok (.iload_n 3, 1) := by decide +kernel
theorem dX5_fault_49 : decode cX5_fault 49 = .ok (.iconst 1, 1) := by decide +kernel
theorem dX5_fault_50 : decode cX5_fault 50 = .ok (.iadd, 1) := by decide +kernel
theorem dX5_fault_51 : decode cX5_fault 51 = .ok (.istore_n 1, 1) := by decide +kernel
theorem dX5_fault_52 : decode cX5_fault 52 = .ok (.iinc 2 1, 3) := by decide +kernel
theorem dX5_fault_55 : decode cX5_fault 55 = .ok (.goto (-51), 3) := by decide +kernel
theorem dX5_fault_58 : decode cX5_fault 58 = .ok (.sipush (-1005), 3) := by decide +kernel
theorem dX5_fault_61 : decode cX5_fault 61 = .ok (.ireturn, 1) := by decide +kernel
set_option maxRecDepth 20000 in
theorem ggX5_squareIn_X5_sign : GoodIn wsX5_squareIn wsX5_sign := goodIn_r _ [5, 6, 7, 8, 9, 10, 11, 12, 13, 14, 15] (by decide +kernel) (by decide +kernel)
set_option maxRecDepth 20000 in
theorem gX5_squareIn_X5_sign : GoodIn wsX5_squareIn (wsV RX5 135 RX5 yX5_sign wsX5_sign) := goodIn_app (goodIn_of _ (by decide +kernel)) ggX5_squareIn_X5_sign
theorem dX5_squareIn_0 : decode cX5_squareIn 0 = .ok (.iconst 5, 1) := by decide +kernel
theorem dX5_squareIn_1 : decode cX5_squareIn 1 = .ok (.aload_n 0, 1) := by decide +kernel
theorem dX5_squareIn_2 : decode cX5_squareIn 2 = .ok (.iload_n 1, 1) := by decide +kernel
theorem dX5_squareIn_3 : decode cX5_squareIn 3 = .ok (.invokevirtual 135, 3) := by decide +kernel
theorem dX5_squareIn_6 : decode cX5_squareIn 6 = .ok (.bipush 48, 2) := by decide +kernel
theorem dX5_squareIn_8 : decode cX5_squareIn 8 = .ok (.isub, 1) := by decide +kernel
theorem dX5_squareIn_9 : decode cX5_squareIn 9 = .ok (.imul, 1) := by decide +kernel
theorem dX5_squareIn_10 : decode cX5_squareIn 10 = .ok (.aload_n 0, 1) := by decide +kernel
theorem dX5_squareIn_11 : decode cX5_squareIn 11 = .ok (.iload_n 1, 1) := by decide +kernel
theorem dX5_squareIn_12 : decode cX5_squareIn 12 = .ok (.iconst 1, 1) := by decide +kernel
theorem dX5_squareIn_13 : decode cX5_squareIn 13 = .ok (.iadd, 1) := by decide +kernel
theorem dX5_squareIn_14 : decode cX5_squareIn 14 = .ok (.invokevirtual 135, 3) := by decide +kernel
theorem dX5_squareIn_17 : decode cX5_squareIn 17 = .ok (.iadd, 1) := by decide +kernel
theorem dX5_squareIn_18 : decode cX5_squareIn 18 = .ok (.bipush 48, 2) := by decide +kernel
theorem dX5_squareIn_20 : decode cX5_squareIn 20 = .ok (.isub, 1) := by decide +kernel
theorem dX5_squareIn_21 : decode cX5_squareIn 21 = .ok (.ireturn, 1) := by decide +kernel
set_option maxRecDepth 20000 in
theorem ggX5_codeIn_X5_sign : GoodIn wsX5_codeIn wsX5_sign := goodIn_r _ [5, 6, 7, 15, 16, 17, 18, 19, 20, 21, 22] (by decide +kernel) (by decide +kernel)
set_option maxRecDepth 20000 in
theorem gX5_codeIn_X5_sign : GoodIn wsX5_codeIn (wsV RX5 135 RX5 yX5_sign wsX5_sign) := goodIn_app (goodIn_of _ (by decide +kernel)) ggX5_codeIn_X5_sign
set_option maxRecDepth 20000 in
theorem ggX5_codeIn_X5_kindOfLetter : GoodIn wsX5_codeIn wsX5_kindOfLetter := goodIn_r _ [10] (by decide +kernel) (by decide +kernel)
set_option maxRecDepth 20000 in
theorem gX5_codeIn_X5_kindOfLetter : GoodIn wsX5_codeIn (va_wsS RX5 138 yX5_kindOfLetter wsX5_kindOfLetter) := goodIn_app (goodIn_of _ (by decide +kernel)) ggX5_codeIn_X5_kindOfLetter
set_option maxRecDepth 20000 in
theorem ggX5_codeIn_X5_squareIn : GoodIn wsX5_codeIn wsX5_squareIn := goodIn_r _ [14, 1, 2, 3, 4, 5, 6, 7, 15, 16, 17, 18, 19, 20, 21, 22] (by decide +kernel) (by decide +kernel)
set_option maxRecDepth 20000 in
theorem gX5_codeIn_X5_squareIn : GoodIn wsX5_codeIn (wsV RX5 150 RX5 yX5_squareIn wsX5_squareIn) := goodIn_app (goodIn_of _ (by decide +kernel)) ggX5_codeIn_X5_squareIn
theorem dX5_codeIn_0 : decode cX5_codeIn 0 = .ok (.aload_n 0, 1) := by decide +kernel
theorem dX5_codeIn_1 : decode cX5_codeIn 1 = .ok (.iload_n 1, 1) := by decide +kernel
theorem dX5_codeIn_2 : decode cX5_codeIn 2 = .ok (.invokevirtual 135, 3) := by decide +kernel
theorem dX5_codeIn_5 : decode cX5_codeIn 5 = .ok (.invokestatic 138, 3) := by decide +kernel
theorem dX5_codeIn_8 : decode cX5_codeIn 8 = .ok (.istore_n 2, 1) := by decide +kernel
theorem dX5_codeIn_9 : decode cX5_codeIn 9 = .ok (.iload_n 2, 1) := by decide +kernel
theorem dX5_codeIn_10 : decode cX5_codeIn 10 = .ok (.ifCond .le 22, 3) := by decide +kernel
theorem dX5_codeIn_13 : decode cX5_codeIn 13 = .ok (.sipush 1250, 3) := by decide +kernel
theorem dX5_codeIn_16 : decode cX5_codeIn 16 = .ok (.bipush 25, 2) := by decide +kernel
theorem dX5_codeIn_18 : decode cX5_codeIn 18 = .ok (.iload_n 2, 1) := by decide +kernel
theorem dX5_codeIn_19 : decode cX5_codeIn 19 = .ok (.iconst 1, 1) := by decide +kernel
theorem dX5_codeIn_20 : decode cX5_codeIn 20 = .ok (.isub, 1) := by decide +kernel
theorem dX5_codeIn_21 : decode cX5_codeIn 21 = .ok (.imul, 1) := by decide +kernel
theorem dX5_codeIn_22 : decode cX5_codeIn 22 = .ok (.iadd, 1) := by decide +kernel
theorem dX5_codeIn_23 : decode cX5_codeIn 23 = .ok (.aload_n 0, 1) := by decide +kernel
theorem dX5_codeIn_24 : decode cX5_codeIn 24 = .ok (.iload_n 1, 1) := by decide +kernel
theorem dX5_codeIn_25 : decode cX5_codeIn 25 = .ok (.iconst 2, 1) := by decide +kernel
theorem dX5_codeIn_26 : decode cX5_codeIn 26 = .ok (.iadd, 1) := by decide +kernel
theorem dX5_codeIn_27 : decode cX5_codeIn 27 = .ok (.invokevirtual 150, 3) := by decide +kernel
theorem dX5_codeIn_30 : decode cX5_codeIn 30 = .ok (.iadd, 1) := by decide +kernel
theorem dX5_codeIn_31 : decode cX5_codeIn 31 = .ok (.ireturn, 1) := by decide +kernel
theorem dX5_codeIn_32 : decode cX5_codeIn 32 = .ok (.aload_n 0, 1) := by decide +kernel
theorem dX5_codeIn_33 : decode cX5_codeIn 33 = .ok (.iload_n 1, 1) := by decide +kernel
theorem dX5_codeIn_34 : decode cX5_codeIn 34 = .ok (.iconst 5, 1) := by decide +kernel
theorem dX5_codeIn_35 : decode cX5_codeIn 35 = .ok (.iadd, 1) := by decide +kernel
theorem dX5_codeIn_36 : decode cX5_codeIn 36 = .ok (.invokevirtual 135, 3) := by decide +kernel
theorem dX5_codeIn_39 : decode cX5_codeIn 39 = .ok (.bipush 43, 2) := by decide +kernel
theorem dX5_codeIn_41 : decode cX5_codeIn 41 = .ok (.if_icmp .ne 9, 3) := by decide +kernel
theorem dX5_codeIn_44 : decode cX5_codeIn 44 = .ok (.sipush 625, 3) := by decide +kernel
theorem dX5_codeIn_47 : decode cX5_codeIn 47 = .ok (.goto 4, 3) := by decide +kernel
theorem dX5_codeIn_50 : decode cX5_codeIn 50 = .ok (.iconst 0, 1) := by decide +kernel
theorem dX5_codeIn_51 : decode cX5_codeIn 51 = .ok (.bipush 25, 2) := by decide +kernel
theorem dX5_codeIn_53 : decode cX5_codeIn 53 = .ok (.aload_n 0, 1) := by decide +kernel
theorem dX5_codeIn_54 : decode cX5_codeIn 54 = .ok (.iload_n 1, 1) := by decide +kernel
theorem dX5_codeIn_55 : decode cX5_codeIn 55 = .ok (.invokevirtual 150, 3) := by decide +kernel
theorem dX5_codeIn_58 : decode cX5_codeIn 58 = .ok (.imul, 1) := by decide +kernel
theorem dX5_codeIn_59 : decode cX5_codeIn 59 = .ok (.iadd, 1) := by decide +kernel
theorem dX5_codeIn_60 : decode cX5_codeIn 60 = .ok (.aload_n 0, 1) := by decide +kernel
theorem dX5_codeIn_61 : decode cX5_codeIn 61 = .ok (.iload_n 1, 1) := by decide +kernel
theorem dX5_codeIn_62 : decode cX5_codeIn 62 = .ok (.iconst 3, 1) := by decide +kernel
theorem dX5_codeIn_63 : decode cX5_codeIn 63 = .ok (.iadd, 1) := by decide +kernel
theorem dX5_codeIn_64 : decode cX5_codeIn 64 = .ok (.invokevirtual 150, 3) := by decide +kernel
theorem dX5_codeIn_67 : decode cX5_codeIn 67 = .ok (.iadd, 1) := by decide +kernel
theorem dX5_codeIn_68 : decode cX5_codeIn 68 = .ok (.ireturn, 1) := by decide +kernel
set_option maxRecDepth 20000 in
theorem ggX5_perform_X5_fault : GoodIn wsX5_perform wsX5_fault := goodIn_r _ [8, 3, 9, 10, 11, 7, 12, 13, 14, 15, 16, 17, 18, 19, 20, 21, 22, 23, 24, 25, 26, 27, 28, 29, 30, 31, 121, 122, 123, 124, 125, 126, 127, 128] (by decide +kernel) (by decide +kernel)
set_option maxRecDepth 20000 in
theorem gX5_perform_X5_fault : GoodIn wsX5_perform (wsV RX5 153 RX5 yX5_fault wsX5_fault) := goodIn_app (goodIn_of _ (by decide +kernel)) ggX5_perform_X5_fault
set_option maxRecDepth 20000 in
theorem ggX5_perform_X5_codeIn : GoodIn wsX5_perform wsX5_codeIn := goodIn_r _ [35, 13, 14, 15, 7, 16, 3, 17, 18, 19, 20, 36, 37, 38, 39, 121, 122, 123, 124, 125, 126, 127, 128] (by decide +kernel) (by decide +kernel)
set_option maxRecDepth 20000 in
theorem gX5_perform_X5_codeIn : GoodIn wsX5_perform (wsV RX5 156 RX5 yX5_codeIn wsX5_codeIn) := goodIn_app (goodIn_of _ (by decide +kernel)) ggX5_perform_X5_codeIn
set_option maxRecDepth 20000 in
theorem ggX5_perform_X5_reason : GoodIn wsX5_perform wsX5_reason := goodIn_r _ [43, 2, 44, 45, 46, 7, 47, 48, 49, 50, 51, 52, 53, 54, 55, 56, 57, 58, 59, 60, 61, 62, 63, 64, 65, 66, 67, 68, 69, 70, 71, 72, 73, 74, 75, 76, 29, 30, 31, 77, 78, 79, 80, 81, 82, 83, 84, 85, 86, 87, 88, 89, 90, 91, 92, 93, 94, 95, 96, 97, 98, 99, 100, 101, 102, 103, 104, 105, 106, 107, 108, 109, 110, 121, 122, 123, 124, 125, 126, 127, 128] (by decide +kernel) (by decide +kernel)
set_option maxRecDepth 20000 in
theorem gX5_perform_X5_reason : GoodIn wsX5_perform (wsV RX5 94 RX5 yX5_reason wsX5_reason) := goodIn_app (goodIn_of _ (by decide +kernel)) ggX5_perform_X5_reason
set_option maxRecDepth 20000 in
theorem ggX5_perform_X5_makes : GoodIn wsX5_perform wsX5_makes := goodIn_r _ [98, 2, 59, 60, 61, 7, 62, 84, 85, 86, 52, 53, 54, 121, 122, 123, 124, 125, 126, 127, 128] (by decide +kernel) (by decide +kernel)
set_option maxRecDepth 20000 in
theorem gX5_perform_X5_makes : GoodIn wsX5_perform (wsV RX5 76 RX5 yX5_makes wsX5_makes) := goodIn_app (goodIn_of _ (by decide +kernel)) ggX5_perform_X5_makes
set_option maxRecDepth 20000 in
theorem ggX5_perform_X5_playEnd : GoodIn wsX5_perform wsX5_playEnd := goodIn_r _ [12, 13, 14, 15, 7, 16, 3, 17, 18, 19, 20, 21, 22, 23, 24, 25, 26, 27, 28, 29, 30, 31, 121, 122, 123, 124, 125, 126, 127, 128] (by decide +kernel) (by decide +kernel)
set_option maxRecDepth 20000 in
theorem gX5_perform_X5_playEnd : GoodIn wsX5_perform (wsV RX5 147 RX5 yX5_playEnd wsX5_playEnd) := goodIn_app (goodIn_of _ (by decide +kernel)) ggX5_perform_X5_playEnd
set_option maxRecDepth 20000 in
theorem ggX5_perform_X5_exchanges : GoodIn wsX5_perform wsX5_exchanges := goodIn_r _ [114, 2, 1, 121, 122, 123, 124, 125, 126, 127, 128] (by decide +kernel) (by decide +kernel)
set_option maxRecDepth 20000 in
theorem gX5_perform_X5_exchanges : GoodIn wsX5_perform (wsV RX5 159 RX5 yX5_exchanges wsX5_exchanges) := goodIn_app (goodIn_of _ (by decide +kernel)) ggX5_perform_X5_exchanges
set_option maxRecDepth 20000 in
theorem ggX5_perform_X5_remembers : GoodIn wsX5_perform wsX5_remembers := goodIn_r _ [118, 119, 120, 2, 121, 122, 123, 124, 125, 126, 127, 128] (by decide +kernel) (by decide +kernel)
set_option maxRecDepth 20000 in
theorem gX5_perform_X5_remembers : GoodIn wsX5_perform (wsV RX5 104 RX5 yX5_remembers wsX5_remembers) := goodIn_app (goodIn_of _ (by decide +kernel)) ggX5_perform_X5_remembers
theorem dX5_perform_0 : decode cX5_perform 0 = .ok (.aload_n 0, 1) := by decide +kernel
theorem dX5_perform_1 : decode cX5_perform 1 = .ok (.invokevirtual 153, 3) := by decide +kernel
theorem dX5_perform_4 : decode cX5_perform 4 = .ok (.istore_n 1, 1) := by decide +kernel
theorem dX5_perform_5 : decode cX5_perform 5 = .ok (.iload_n 1, 1) := by decide +kernel
theorem dX5_perform_6 : decode cX5_perform 6 = .ok (.sipush (-1005), 3) := by decide +kernel
theorem dX5_perform_9 : decode cX5_perform 9 = .ok (.if_icmp .eq 9, 3) := by decide +kernel
theorem dX5_perform_12 : decode cX5_perform 12 = .ok (.sipush (-2000), 3) := by decide +kernel
theorem dX5_perform_15 : decode cX5_perform 15 = .ok (.iload_n 1, 1) := by decide +kernel
theorem dX5_perform_16 : decode cX5_perform 16 = .ok (.isub, 1) := by decide +kernel
theorem dX5_perform_17 : decode cX5_perform 17 = .ok (.ireturn, 1) := by decide +kernel
theorem dX5_perform_18 : decode cX5_perform 18 = .ok (.iconst 0, 1) := by decide +kernel
theorem dX5_perform_19 : decode cX5_perform 19 = .ok (.istore_n 2, 1) := by decide +kernel
theorem dX5_perform_20 : decode cX5_perform 20 = .ok (.iload_n 2, 1) := by decide +kernel
theorem dX5_perform_21 : decode cX5_perform 21 = .ok (.bipush 40, 2) := by decide +kernel
theorem dX5_perform_23 : decode cX5_perform 23 = .ok (.if_icmp .ge 21, 3) := by decide +kernel
theorem dX5_perform_26 : decode cX5_perform 26 = .ok (.aload_n 0, 1) := by decide +kernel
theorem dX5_perform_27 : decode cX5_perform 27 = .ok (.getfield 13, 3) := by decide +kernel
theorem dX5_perform_30 : decode cX5_perform 30 = .ok (.iload_n 2, 1) := by decide +kernel
theorem dX5_perform_31 : decode cX5_perform 31 = .ok (.aload_n 0, 1) := by decide +kernel
theorem dX5_perform_32 : decode cX5_perform 32 = .ok (.getfield 7, 3) := by decide +kernel
theorem dX5_perform_35 : decode cX5_perform 35 = .ok (.iload_n 2, 1) := by decide +kernel
theorem dX5_perform_36 : decode cX5_perform 36 = .ok (.iaload, 1) := by decide +kernel
theorem dX5_perform_37 : decode cX5_perform 37 = .ok (.iastore, 1) := by decide +kernel
theorem dX5_perform_38 : decode cX5_perform 38 = .ok (.iinc 2 1, 3) := by decide +kernel
theorem dX5_perform_41 : decode cX5_perform 41 = .ok (.goto (-21), 3) := by decide +kernel
theorem dX5_perform_44 : decode cX5_perform 44 = .ok (.iconst 0, 1) := by decide +kernel
theorem dX5_perform_45 : decode cX5_perform 45 = .ok (.istore_n 2, 1) := by decide +kernel
theorem dX5_perform_46 : decode cX5_perform 46 = .ok (.iconst 0, 1) := by decide +kernel
theorem dX5_perform_47 : decode cX5_perform 47 = .ok (.istore_n 3, 1) := by decide +kernel
theorem dX5_perform_48 : decode cX5_perform 48 = .ok (.iconst 1, 1) := by decide +kernel
theorem dX5_perform_49 : decode cX5_perform 49 = .ok (.istore 4, 2) := by decide +kernel
theorem dX5_perform_51 : decode cX5_perform 51 = .ok (.iload_n 3, 1) := by decide +kernel
theorem dX5_perform_52 : decode cX5_perform 52 = .ok (.aload_n 0, 1) := by decide +kernel
theorem dX5_perform_53 : decode cX5_perform 53 = .ok (.getfield 132, 3) := by decide +kernel
theorem dX5_perform_56 : decode cX5_perform 56 = .ok (.if_icmp .ge 64, 3) := by decide +kernel
theorem dX5_perform_59 : decode cX5_perform 59 = .ok (.iload 4, 2) := by decide +kernel
theorem dX5_perform_61 : decode cX5_perform 61 = .ok (.ifCond .eq 59, 3) := by decide +kernel
theorem dX5_perform_64 : decode cX5_perform 64 = .ok (.aload_n 0, 1) := by decide +kernel
theorem dX5_perform_65 : decode cX5_perform 65 = .ok (.iload_n 3, 1) := by decide +kernel
theorem dX5_perform_66 : decode cX5_perform 66 = .ok (.invokevirtual 156, 3) := by decide +kernel
theorem dX5_perform_69 : decode cX5_perform 69 = .ok (.istore 5, 2) := by decide +kernel
theorem dX5_perform_71 : decode cX5_perform 71 = .ok (.aload_n 0, 1) := by decide +kernel
theorem dX5_perform_72 : decode cX5_perform 72 = .ok (.iconst 0, 1) := by decide +kernel
theorem dX5_perform_73 : decode cX5_perform 73 = .ok (.iload 5, 2) := by decide +kernel
theorem dX5_perform_75 : decode cX5_perform 75 = .ok (.invokevirtual 94, 3) := by decide +kernel
theorem dX5_perform_78 : decode cX5_perform 78 = .ok (.ifCond .ne 7, 3) := by decide +kernel
theorem dX5_perform_81 : decode cX5_perform 81 = .ok (.iconst 1, 1) := by decide +kernel
theorem dX5_perform_82 : decode cX5_perform 82 = .ok (.goto 4, 3) := by decide +kernel
theorem dX5_perform_85 : decode cX5_perform 85 = .ok (.iconst 0, 1) := by decide +kernel
theorem dX5_perform_86 : decode cX5_perform 86 = .ok (.istore 4, 2) := by decide +kernel
theorem dX5_perform_88 : decode cX5_perform 88 = .ok (.iload 4, 2) := by decide +kernel
theorem dX5_perform_90 : decode cX5_perform 90 = .ok (.ifCond .eq 13, 3) := by decide +kernel
theorem dX5_perform_93 : decode cX5_perform 93 = .ok (.aload_n 0, 1) := by decide +kernel
theorem dX5_perform_94 : decode cX5_perform 94 = .ok (.iconst 0, 1) := by decide +kernel
theorem dX5_perform_95 : decode cX5_perform 95 = .ok (.iload 5, 2) := by decide +kernel
theorem dX5_perform_97 : decode cX5_perform 97 = .ok (.invokevirtual 76, 3) := by decide +kernel
theorem dX5_perform_100 : decode cX5_perform 100 = .ok (.goto 4, 3) := by decide +kernel
theorem dX5_perform_103 : decode cX5_perform 103 = .ok (.iconst (-1), 1) := by decide +kernel
theorem dX5_perform_104 : decode cX5_perform 104 = .ok (.istore 6, 2) := by decide +kernel
theorem dX5_perform_106 : decode cX5_perform 106 = .ok (.iinc 2 1, 3) := by decide +kernel
theorem dX5_perform_109 : decode cX5_perform 109 = .ok (.aload_n 0, 1) := by decide +kernel
theorem dX5_perform_110 : decode cX5_perform 110 = .ok (.iload_n 3, 1) := by decide +kernel
theorem dX5_perform_111 : decode cX5_perform 111 = .ok (.invokevirtual 147, 3) := by decide +kernel
theorem dX5_perform_114 : decode cX5_perform 114 = .ok (.iconst 1, 1) := by decide +kernel
theorem dX5_perform_115 : decode cX5_perform 115 = .ok (.iadd, 1) := by decide +kernel
theorem dX5_perform_116 : decode cX5_perform 116 = .ok (.istore_n 3, 1) := by decide +kernel
theorem dX5_perform_117 : decode cX5_perform 117 = .ok (.goto (-66), 3) := by decide +kernel
theorem dX5_perform_120 : decode cX5_perform 120 = .ok (.iload 4, 2) := by decide +kernel
theorem dX5_perform_122 : decode cX5_perform 122 = .ok (.ifCond .eq 18, 3) := by decide +kernel
theorem dX5_perform_125 : decode cX5_perform 125 = .ok (.aload_n 0, 1) := by decide +kernel
theorem dX5_perform_126 : decode cX5_perform 126 = .ok (.invokevirtual 159, 3) := by decide +kernel
theorem dX5_perform_129 : decode cX5_perform 129 = .ok (.aload_n 0, 1) := by decide +kernel
theorem dX5_perform_130 : decode cX5_perform 130 = .ok (.invokevirtual 104, 3) := by decide +kernel
theorem dX5_perform_133 : decode cX5_perform 133 = .ok (.aload_n 0, 1) := by decide +kernel
theorem dX5_perform_134 : decode cX5_perform 134 = .ok (.invokevirtual 159, 3) := by decide +kernel
theorem dX5_perform_137 : decode cX5_perform 137 = .ok (.goto 7, 3) := by decide +kernel
theorem dX5_perform_140 : decode cX5_perform 140 = .ok (.aload_n 0, 1) := by decide +kernel
theorem dX5_perform_141 : decode cX5_perform 141 = .ok (.invokevirtual 159, 3) := by decide +kernel
theorem dX5_perform_144 : decode cX5_perform 144 = .ok (.iload 4, 2) := by decide +kernel
theorem dX5_perform_146 : decode cX5_perform 146 = .ok (.ifCond .eq 7, 3) := by decide +kernel
theorem dX5_perform_149 : decode cX5_perform 149 = .ok (.iload_n 2, 1) := by decide +kernel
theorem dX5_perform_150 : decode cX5_perform 150 = .ok (.goto 6, 3) := by decide +kernel
theorem dX5_perform_153 : decode cX5_perform 153 = .ok (.sipush (-1004), 3) := by decide +kernel
theorem dX5_perform_156 : decode cX5_perform 156 = .ok (.ireturn, 1) := by decide +kernel
theorem dX5_exchanges_0 : decode cX5_exchanges 0 = .ok (.iconst 0, 1) := by decide +kernel
theorem dX5_exchanges_1 : decode cX5_exchanges 1 = .ok (.istore_n 1, 1) := by decide +kernel
theorem dX5_exchanges_2 : decode cX5_exchanges 2 = .ok (.iload_n 1, 1) := by decide +kernel
theorem dX5_exchanges_3 : decode cX5_exchanges 3 = .ok (.bipush 40, 2) := by decide +kernel
theorem dX5_exchanges_5 : decode cX5_exchanges 5 = .ok (.if_icmp .ge 35, 3) := by decide +kernel
theorem dX5_exchanges_8 : decode cX5_exchanges 8 = .ok (.aload_n 0, 1) := by decide +kernel
theorem dX5_exchanges_9 : decode cX5_exchanges 9 = .ok (.getfield 7, 3) := by decide +kernel
theorem dX5_exchanges_12 : decode cX5_exchanges 12 = .ok (.iload_n 1, 1) := by decide +kernel
theorem dX5_exchanges_13 : decode cX5_exchanges 13 = .ok (.iaload, 1) := by decide +kernel
theorem dX5_exchanges_14 : decode cX5_exchanges 14 = .ok (.istore_n 2, 1) := by decide +kernel
theorem dX5_exchanges_15 : decode cX5_exchanges 15 = .ok (.aload_n 0, 1) := by decide +kernel
theorem dX5_exchanges_16 : decode cX5_exchanges 16 = .ok (.getfield 7, 3) := by decide +kernel
theorem dX5_exchanges_19 : decode cX5_exchanges 19 = .ok (.iload_n 1, 1) := by decide +kernel
theorem dX5_exchanges_20 : decode cX5_exchanges 20 = .ok (.aload_n 0, 1) := by decide +kernel
theorem dX5_exchanges_21 : decode cX5_exchanges 21 = .ok (.getfield 13, 3) := by decide +kernel
theorem dX5_exchanges_24 : decode cX5_exchanges 24 = .ok (.iload_n 1, 1) := by decide +kernel
theorem dX5_exchanges_25 : decode cX5_exchanges 25 = .ok (.iaload, 1) := by decide +kernel
theorem dX5_exchanges_26 : decode cX5_exchanges 26 = .ok (.iastore, 1) := by decide +kernel
theorem dX5_exchanges_27 : decode cX5_exchanges 27 = .ok (.aload_n 0, 1) := by decide +kernel
theorem dX5_exchanges_28 : decode cX5_exchanges 28 = .ok (.getfield 13, 3) := by decide +kernel
theorem dX5_exchanges_31 : decode cX5_exchanges 31 = .ok (.iload_n 1, 1) := by decide +kernel
theorem dX5_exchanges_32 : decode cX5_exchanges 32 = .ok (.iload_n 2, 1) := by decide +kernel
theorem dX5_exchanges_33 : decode cX5_exchanges 33 = .ok (.iastore, 1) := by decide +kernel
theorem dX5_exchanges_34 : decode cX5_exchanges 34 = .ok (.iinc 1 1, 3) := by decide +kernel
theorem dX5_exchanges_37 : decode cX5_exchanges 37 = .ok (.goto (-35), 3) := by decide +kernel
theorem dX5_exchanges_40 : decode cX5_exchanges 40 = .ok (.return_, 1) := by decide +kernel
theorem dX5_undo_0 : decode cX5_undo 0 = .ok (.aload_n 0, 1) := by decide +kernel
theorem dX5_undo_1 : decode cX5_undo 1 = .ok (.getfield 29, 3) := by decide +kernel
theorem dX5_undo_4 : decode cX5_undo 4 = .ok (.ifCond .ne 7, 3) := by decide +kernel
theorem dX5_undo_7 : decode cX5_undo 7 = .ok (.sipush (-1005), 3) := by decide +kernel
theorem dX5_undo_10 : decode cX5_undo 10 = .ok (.ireturn, 1) := by decide +kernel
theorem dX5_undo_11 : decode cX5_undo 11 = .ok (.aload_n 0, 1) := by decide +kernel
theorem dX5_undo_12 : decode cX5_undo 12 = .ok (.dup, 1) := by decide +kernel
theorem dX5_undo_13 : decode cX5_undo 13 = .ok (.getfield 29, 3) := by decide +kernel
theorem dX5_undo_16 : decode cX5_undo 16 = .ok (.iconst 1, 1) := by decide +kernel
theorem dX5_undo_17 : decode cX5_undo 17 = .ok (.isub, 1) := by decide +kernel
theorem dX5_undo_18 : decode cX5_undo 18 = .ok (.putfield 29, 3) := by decide +kernel
theorem dX5_undo_21 : decode cX5_undo 21 = .ok (.iconst 0, 1) := by decide +kernel
theorem dX5_undo_22 : decode cX5_undo 22 = .ok (.istore_n 1, 1) := by decide +kernel
theorem dX5_undo_23 : decode cX5_undo 23 = .ok (.iload_n 1, 1) := by decide +kernel
theorem dX5_undo_24 : decode cX5_undo 24 = .ok (.bipush 40, 2) := by decide +kernel
theorem dX5_undo_26 : decode cX5_undo 26 = .ok (.if_icmp .ge 29, 3) := by decide +kernel
theorem dX5_undo_29 : decode cX5_undo 29 = .ok (.aload_n 0, 1) := by decide +kernel
theorem dX5_undo_30 : decode cX5_undo 30 = .ok (.getfield 7, 3) := by decide +kernel
theorem dX5_undo_33 : decode cX5_undo 33 = .ok (.iload_n 1, 1) := by decide +kernel
theorem dX5_undo_34 : decode cX5_undo 34 = .ok (.aload_n 0, 1) := by decide +kernel
theorem dX5_undo_35 : decode cX5_undo 35 = .ok (.getfield 16, 3) := by decide +kernel
theorem dX5_undo_38 : decode cX5_undo 38 = .ok (.bipush 40, 2) := by decide +kernel
theorem dX5_undo_40 : decode cX5_undo 40 = .ok (.aload_n 0, 1) := by decide +kernel
theorem dX5_undo_41 : decode cX5_undo 41 = .ok (.getfield 29, 3) := by decide +kernel
theorem dX5_undo_44 : decode cX5_undo 44 = .ok (.imul, 1) := by decide +kernel
theorem dX5_undo_45 : decode cX5_undo 45 = .ok (.iload_n 1, 1) := by decide +kernel
theorem dX5_undo_46 : decode cX5_undo 46 = .ok (.iadd, 1) := by decide +kernel
theorem dX5_undo_47 : decode cX5_undo 47 = .ok (.iaload, 1) := by decide +kernel
theorem dX5_undo_48 : decode cX5_undo 48 = .ok (.iastore, 1) := by decide +kernel
theorem dX5_undo_49 : decode cX5_undo 49 = .ok (.iinc 1 1, 3) := by decide +kernel
theorem dX5_undo_52 : decode cX5_undo 52 = .ok (.goto (-29), 3) := by decide +kernel
theorem dX5_undo_55 : decode cX5_undo 55 = .ok (.aload_n 0, 1) := by decide +kernel
theorem dX5_undo_56 : decode cX5_undo 56 = .ok (.getfield 29, 3) := by decide +kernel
theorem dX5_undo_59 : decode cX5_undo 59 = .ok (.ireturn, 1) := by decide +kernel
set_option maxRecDepth 20000 in
theorem ggX5_keep_X5_onBoard : GoodIn wsX5_keep wsX5_onBoard := goodIn_r _ [8, 2, 9, 10, 11, 12, 13, 14, 15, 16] (by decide +kernel) (by decide +kernel)
set_option maxRecDepth 20000 in
theorem gX5_keep_X5_onBoard : GoodIn wsX5_keep (wsV RX5 119 RX5 yX5_onBoard wsX5_onBoard) := goodIn_app (goodIn_of _ (by decide +kernel)) ggX5_keep_X5_onBoard
theorem dX5_keep_0 : decode cX5_keep 0 = .ok (.iconst 0, 1) := by decide +kernel
theorem dX5_keep_1 : decode cX5_keep 1 = .ok (.istore_n 1, 1) := by decide +kernel
theorem dX5_keep_2 : decode cX5_keep 2 = .ok (.iload_n 1, 1) := by decide +kernel
theorem dX5_keep_3 : decode cX5_keep 3 = .ok (.bipush 40, 2) := by decide +kernel
theorem dX5_keep_5 : decode cX5_keep 5 = .ok (.if_icmp .ge 21, 3) := by decide +kernel
theorem dX5_keep_8 : decode cX5_keep 8 = .ok (.aload_n 0, 1) := by decide +kernel
theorem dX5_keep_9 : decode cX5_keep 9 = .ok (.getfield 19, 3) := by decide +kernel
theorem dX5_keep_12 : decode cX5_keep 12 = .ok (.iload_n 1, 1) := by decide +kernel
theorem dX5_keep_13 : decode cX5_keep 13 = .ok (.aload_n 0, 1) := by decide +kernel
theorem dX5_keep_14 : decode cX5_keep 14 = .ok (.getfield 7, 3) := by decide +kernel
theorem dX5_keep_17 : decode cX5_keep 17 = .ok (.iload_n 1, 1) := by decide +kernel
theorem dX5_keep_18 : decode cX5_keep 18 = .ok (.iaload, 1) := by decide +kernel
theorem dX5_keep_19 : decode cX5_keep 19 = .ok (.iastore, 1) := by decide +kernel
theorem dX5_keep_20 : decode cX5_keep 20 = .ok (.iinc 1 1, 3) := by decide +kernel
theorem dX5_keep_23 : decode cX5_keep 23 = .ok (.goto (-21), 3) := by decide +kernel
theorem dX5_keep_26 : decode cX5_keep 26 = .ok (.aload_n 0, 1) := by decide +kernel
theorem dX5_keep_27 : decode cX5_keep 27 = .ok (.iconst 1, 1) := by decide +kernel
theorem dX5_keep_28 : decode cX5_keep 28 = .ok (.putfield 162, 3) := by decide +kernel
theorem dX5_keep_31 : decode cX5_keep 31 = .ok (.aload_n 0, 1) := by decide +kernel
theorem dX5_keep_32 : decode cX5_keep 32 = .ok (.invokevirtual 119, 3) := by decide +kernel
theorem dX5_keep_35 : decode cX5_keep 35 = .ok (.ireturn, 1) := by decide +kernel
set_option maxRecDepth 20000 in
theorem ggX5_restore_X5_remembers : GoodIn wsX5_restore wsX5_remembers := goodIn_r _ [8, 9, 10, 2, 15, 16, 17, 18, 19, 20, 21, 22] (by decide +kernel) (by decide +kernel)
set_option maxRecDepth 20000 in
theorem gX5_restore_X5_remembers : GoodIn wsX5_restore (wsV RX5 104 RX5 yX5_remembers wsX5_remembers) := goodIn_app (goodIn_of _ (by decide +kernel)) ggX5_restore_X5_remembers
set_option maxRecDepth 20000 in
theorem ggX5_restore_X5_onBoard : GoodIn wsX5_restore wsX5_onBoard := goodIn_r _ [14, 2, 15, 16, 17, 18, 19, 20, 21, 22] (by decide +kernel) (by decide +kernel)
set_option maxRecDepth 20000 in
theorem gX5_restore_X5_onBoard : GoodIn wsX5_restore (wsV RX5 119 RX5 yX5_onBoard wsX5_onBoard) := goodIn_app (goodIn_of _ (by decide +kernel)) ggX5_restore_X5_onBoard
theorem dX5_restore_0 : decode cX5_restore 0 = .ok (.aload_n 0, 1) := by decide +kernel
theorem dX5_restore_1 : decode cX5_restore 1 = .ok (.getfield 162, 3) := by decide +kernel
theorem dX5_restore_4 : decode cX5_restore 4 = .ok (.ifCond .ne 7, 3) := by decide +kernel
theorem dX5_restore_7 : decode cX5_restore 7 = .ok (.sipush (-1005), 3) := by decide +kernel
theorem dX5_restore_10 : decode cX5_restore 10 = .ok (.ireturn, 1) := by decide +kernel
theorem dX5_restore_11 : decode cX5_restore 11 = .ok (.aload_n 0, 1) := by decide +kernel
theorem dX5_restore_12 : decode cX5_restore 12 = .ok (.invokevirtual 104, 3) := by decide +kernel
theorem dX5_restore_15 : decode cX5_restore 15 = .ok (.iconst 0, 1) := by decide +kernel
theorem dX5_restore_16 : decode cX5_restore 16 = .ok (.istore_n 1, 1) := by decide +kernel
theorem dX5_restore_17 : decode cX5_restore 17 = .ok (.iload_n 1, 1) := by decide +kernel
theorem dX5_restore_18 : decode cX5_restore 18 = .ok (.bipush 40, 2) := by decide +kernel
theorem dX5_restore_20 : decode cX5_restore 20 = .ok (.if_icmp .ge 21, 3) := by decide +kernel
theorem dX5_restore_23 : decode cX5_restore 23 = .ok (.aload_n 0, 1) := by decide +kernel
theorem dX5_restore_24 : decode cX5_restore 24 = .ok (.getfield 7, 3) := by decide +kernel
theorem dX5_restore_27 : decode cX5_restore 27 = .ok (.iload_n 1, 1) := by decide +kernel
theorem dX5_restore_28 : decode cX5_restore 28 = .ok (.aload_n 0, 1) := by decide +kernel
theorem dX5_restore_29 : decode cX5_restore 29 = .ok (.getfield 19, 3) := by decide +kernel
theorem dX5_restore_32 : decode cX5_restore 32 = .ok (.iload_n 1, 1) := by decide +kernel
theorem dX5_restore_33 : decode cX5_restore 33 = .ok (.iaload, 1) := by decide +kernel
theorem dX5_restore_34 : decode cX5_restore 34 = .ok (.iastore, 1) := by decide +kernel
theorem dX5_restore_35 : decode cX5_restore 35 = .ok (.iinc 1 1, 3) := by decide +kernel
theorem dX5_restore_38 : decode cX5_restore 38 = .ok (.goto (-21), 3) := by decide +kernel
theorem dX5_restore_41 : decode cX5_restore 41 = .ok (.aload_n 0, 1) := by decide +kernel
theorem dX5_restore_42 : decode cX5_restore 42 = .ok (.invokevirtual 119, 3) := by decide +kernel
theorem dX5_restore_45 : decode cX5_restore 45 = .ok (.ireturn, 1) := by decide +kernel
set_option maxRecDepth 20000 in
theorem ggX5_man_X5_isSquare : GoodIn wsX5_man wsX5_isSquare := goodIn_r _ [5, 6, 7, 4, 8] (by decide +kernel) (by decide +kernel)
set_option maxRecDepth 20000 in
theorem gX5_man_X5_isSquare : GoodIn wsX5_man (va_wsS RX5 113 yX5_isSquare wsX5_isSquare) := goodIn_app (goodIn_of _ (by decide +kernel)) ggX5_man_X5_isSquare
set_option maxRecDepth 20000 in
theorem ggX5_man_X5_manAt : GoodIn wsX5_man wsX5_manAt := goodIn_r _ [12, 1, 13, 14, 15, 16, 17, 18, 19, 20] (by decide +kernel) (by decide +kernel)
set_option maxRecDepth 20000 in
theorem gX5_man_X5_manAt : GoodIn wsX5_man (wsV RX5 33 RX5 yX5_manAt wsX5_manAt) := goodIn_app (goodIn_of _ (by decide +kernel)) ggX5_man_X5_manAt
theorem dX5_man_0 : decode cX5_man 0 = .ok (.iload_n 1, 1) := by decide +kernel
theorem dX5_man_1 : decode cX5_man 1 = .ok (.invokestatic 113, 3) := by decide +kernel
theorem dX5_man_4 : decode cX5_man 4 = .ok (.ifCond .ne 9, 3) := by decide +kernel
theorem dX5_man_7 : decode cX5_man 7 = .ok (.sipush (-1001), 3) := by decide +kernel
theorem dX5_man_10 : decode cX5_man 10 = .ok (.goto 24, 3) := by decide +kernel
theorem dX5_man_13 : decode cX5_man 13 = .ok (.aload_n 0, 1) := by decide +kernel
theorem dX5_man_14 : decode cX5_man 14 = .ok (.getfield 7, 3) := by decide +kernel
theorem dX5_man_17 : decode cX5_man 17 = .ok (.iload_n 1, 1) := by decide +kernel
theorem dX5_man_18 : decode cX5_man 18 = .ok (.iaload, 1) := by decide +kernel
theorem dX5_man_19 : decode cX5_man 19 = .ok (.ifCond .ne 9, 3) := by decide +kernel
theorem dX5_man_22 : decode cX5_man 22 = .ok (.sipush (-1005), 3) := by decide +kernel
theorem dX5_man_25 : decode cX5_man 25 = .ok (.goto 9, 3) := by decide +kernel
theorem dX5_man_28 : decode cX5_man 28 = .ok (.aload_n 0, 1) := by decide +kernel
theorem dX5_man_29 : decode cX5_man 29 = .ok (.iconst 0, 1) := by decide +kernel
theorem dX5_man_30 : decode cX5_man 30 = .ok (.iload_n 1, 1) := by decide +kernel
theorem dX5_man_31 : decode cX5_man 31 = .ok (.invokevirtual 33, 3) := by decide +kernel
theorem dX5_man_34 : decode cX5_man 34 = .ok (.ireturn, 1) := by decide +kernel
set_option maxRecDepth 20000 in
theorem ggX5_hand_X5_isSide : GoodIn wsX5_hand wsX5_isSide := goodIn_r _ [5, 6, 7, 4, 8] (by decide +kernel) (by decide +kernel)
set_option maxRecDepth 20000 in
theorem gX5_hand_X5_isSide : GoodIn wsX5_hand (va_wsS RX5 123 yX5_isSide wsX5_isSide) := goodIn_app (goodIn_of _ (by decide +kernel)) ggX5_hand_X5_isSide
set_option maxRecDepth 20000 in
theorem ggX5_hand_X5_isInHand : GoodIn wsX5_hand wsX5_isInHand := goodIn_r _ [11, 6, 7, 4, 8] (by decide +kernel) (by decide +kernel)
set_option maxRecDepth 20000 in
theorem gX5_hand_X5_isInHand : GoodIn wsX5_hand (va_wsS RX5 126 yX5_isInHand wsX5_isInHand) := goodIn_app (goodIn_of _ (by decide +kernel)) ggX5_hand_X5_isInHand
theorem dX5_hand_0 : decode cX5_hand 0 = .ok (.iload_n 1, 1) := by decide +kernel
theorem dX5_hand_1 : decode cX5_hand 1 = .ok (.invokestatic 123, 3) := by decide +kernel
theorem dX5_hand_4 : decode cX5_hand 4 = .ok (.ifCond .eq 28, 3) := by decide +kernel
theorem dX5_hand_7 : decode cX5_hand 7 = .ok (.iload_n 2, 1) := by decide +kernel
theorem dX5_hand_8 : decode cX5_hand 8 = .ok (.invokestatic 126, 3) := by decide +kernel
theorem dX5_hand_11 : decode cX5_hand 11 = .ok (.ifCond .eq 21, 3) := by decide +kernel
theorem dX5_hand_14 : decode cX5_hand 14 = .ok (.aload_n 0, 1) := by decide +kernel
theorem dX5_hand_15 : decode cX5_hand 15 = .ok (.getfield 7, 3) := by decide +kernel
theorem dX5_hand_18 : decode cX5_hand 18 = .ok (.bipush 25, 2) := by decide +kernel
theorem dX5_hand_20 : decode cX5_hand 20 = .ok (.iconst 5, 1) := by decide +kernel
theorem dX5_hand_21 : decode cX5_hand 21 = .ok (.iload_n 1, 1) := by decide +kernel
theorem dX5_hand_22 : decode cX5_hand 22 = .ok (.imul, 1) := by decide +kernel
theorem dX5_hand_23 : decode cX5_hand 23 = .ok (.iadd, 1) := by decide +kernel
theorem dX5_hand_24 : decode cX5_hand 24 = .ok (.iload_n 2, 1) := by decide +kernel
theorem dX5_hand_25 : decode cX5_hand 25 = .ok (.iadd, 1) := by decide +kernel
theorem dX5_hand_26 : decode cX5_hand 26 = .ok (.iconst 1, 1) := by decide +kernel
theorem dX5_hand_27 : decode cX5_hand 27 = .ok (.isub, 1) := by decide +kernel
theorem dX5_hand_28 : decode cX5_hand 28 = .ok (.iaload, 1) := by decide +kernel
theorem dX5_hand_29 : decode cX5_hand 29 = .ok (.goto 6, 3) := by decide +kernel
theorem dX5_hand_32 : decode cX5_hand 32 = .ok (.sipush (-1001), 3) := by decide +kernel
theorem dX5_hand_35 : decode cX5_hand 35 = .ok (.ireturn, 1) := by decide +kernel
set_option maxRecDepth 20000 in
theorem ggX5_attackers_X5_isSide : GoodIn wsX5_attackers wsX5_isSide := goodIn_r _ [4, 5, 6, 3, 7] (by decide +kernel) (by decide +kernel)
set_option maxRecDepth 20000 in
theorem gX5_attackers_X5_isSide : GoodIn wsX5_attackers (va_wsS RX5 123 yX5_isSide wsX5_isSide) := goodIn_app (goodIn_of _ (by decide +kernel)) ggX5_attackers_X5_isSide
set_option maxRecDepth 20000 in
theorem ggX5_attackers_X5_isSquare : GoodIn wsX5_attackers wsX5_isSquare := goodIn_r _ [10, 5, 6, 3, 7] (by decide +kernel) (by decide +kernel)
set_option maxRecDepth 20000 in
theorem gX5_attackers_X5_isSquare : GoodIn wsX5_attackers (va_wsS RX5 113 yX5_isSquare wsX5_isSquare) := goodIn_app (goodIn_of _ (by decide +kernel)) ggX5_attackers_X5_isSquare
set_option maxRecDepth 20000 in
theorem ggX5_attackers_X5_attackersOf : GoodIn wsX5_attackers wsX5_attackersOf := goodIn_r _ [14, 15, 16, 17, 3, 18, 19, 20, 21, 22, 23, 24, 25, 26, 27, 28, 29, 30, 31, 32, 33, 34, 35, 36, 37, 5, 6, 7, 38, 39, 40, 41, 42, 43, 44, 45] (by decide +kernel) (by decide +kernel)
set_option maxRecDepth 20000 in
theorem gX5_attackers_X5_attackersOf : GoodIn wsX5_attackers (wsV RX5 53 RX5 yX5_attackersOf wsX5_attackersOf) := goodIn_app (goodIn_of _ (by decide +kernel)) ggX5_attackers_X5_attackersOf
theorem dX5_attackers_0 : decode cX5_attackers 0 = .ok (.iload_n 1, 1) := by decide +kernel
theorem dX5_attackers_1 : decode cX5_attackers 1 = .ok (.invokestatic 123, 3) := by decide +kernel
theorem dX5_attackers_4 : decode cX5_attackers 4 = .ok (.ifCond .eq 20, 3) := by decide +kernel
theorem dX5_attackers_7 : decode cX5_attackers 7 = .ok (.iload_n 2, 1) := by decide +kernel
theorem dX5_attackers_8 : decode cX5_attackers 8 = .ok (.invokestatic 113, 3) := by decide +kernel
theorem dX5_attackers_11 : decode cX5_attackers 11 = .ok (.ifCond .eq 13, 3) := by decide +kernel
theorem dX5_attackers_14 : decode cX5_attackers 14 = .ok (.aload_n 0, 1) := by decide +kernel
theorem dX5_attackers_15 : decode cX5_attackers 15 = .ok (.iconst 0, 1) := by decide +kernel
theorem dX5_attackers_16 : decode cX5_attackers 16 = .ok (.iload_n 1, 1) := by decide +kernel
theorem dX5_attackers_17 : decode cX5_attackers 17 = .ok (.iload_n 2, 1) := by decide +kernel
theorem dX5_attackers_18 : decode cX5_attackers 18 = .ok (.invokevirtual 53, 3) := by decide +kernel
theorem dX5_attackers_21 : decode cX5_attackers 21 = .ok (.goto 6, 3) := by decide +kernel
theorem dX5_attackers_24 : decode cX5_attackers 24 = .ok (.sipush (-1001), 3) := by decide +kernel
theorem dX5_attackers_27 : decode cX5_attackers 27 = .ok (.ireturn, 1) := by decide +kernel
set_option maxRecDepth 20000 in
theorem ggX5_attacked_X5_isSquare : GoodIn wsX5_attacked wsX5_isSquare := goodIn_r _ [5, 6, 7, 4, 8] (by decide +kernel) (by decide +kernel)
set_option maxRecDepth 20000 in
theorem gX5_attacked_X5_isSquare : GoodIn wsX5_attacked (va_wsS RX5 113 yX5_isSquare wsX5_isSquare) := goodIn_app (goodIn_of _ (by decide +kernel)) ggX5_attacked_X5_isSquare
set_option maxRecDepth 20000 in
theorem ggX5_attacked_X5_attacksOf : GoodIn wsX5_attacked wsX5_attacksOf := goodIn_r _ [12, 1, 13, 14, 15, 4, 16, 17, 18, 19, 20, 21, 22, 23, 24, 25, 26, 6, 7, 8, 27, 28, 29, 30, 31, 32, 33, 34] (by decide +kernel) (by decide +kernel)
set_option maxRecDepth 20000 in
theorem gX5_attacked_X5_attacksOf : GoodIn wsX5_attacked (wsV RX5 50 RX5 yX5_attacksOf wsX5_attacksOf) := goodIn_app (goodIn_of _ (by decide +kernel)) ggX5_attacked_X5_attacksOf
theorem dX5_attacked_0 : decode cX5_attacked 0 = .ok (.iload_n 1, 1) := by decide +kernel
theorem dX5_attacked_1 : decode cX5_attacked 1 = .ok (.invokestatic 113, 3) := by decide +kernel
theorem dX5_attacked_4 : decode cX5_attacked 4 = .ok (.ifCond .ne 9, 3) := by decide +kernel
theorem dX5_attacked_7 : decode cX5_attacked 7 = .ok (.sipush (-1001), 3) := by decide +kernel
theorem dX5_attacked_10 : decode cX5_attacked 10 = .ok (.goto 24, 3) := by decide +kernel
theorem dX5_attacked_13 : decode cX5_attacked 13 = .ok (.aload_n 0, 1) := by decide +kernel
theorem dX5_attacked_14 : decode cX5_attacked 14 = .ok (.getfield 7, 3) := by decide +kernel
theorem dX5_attacked_17 : decode cX5_attacked 17 = .ok (.iload_n 1, 1) := by decide +kernel
theorem dX5_attacked_18 : decode cX5_attacked 18 = .ok (.iaload, 1) := by decide +kernel
theorem dX5_attacked_19 : decode cX5_attacked 19 = .ok (.ifCond .ne 9, 3) := by decide +kernel
theorem dX5_attacked_22 : decode cX5_attacked 22 = .ok (.sipush (-1005), 3) := by decide +kernel
theorem dX5_attacked_25 : decode cX5_attacked 25 = .ok (.goto 9, 3) := by decide +kernel
theorem dX5_attacked_28 : decode cX5_attacked 28 = .ok (.aload_n 0, 1) := by decide +kernel
theorem dX5_attacked_29 : decode cX5_attacked 29 = .ok (.iconst 0, 1) := by decide +kernel
theorem dX5_attacked_30 : decode cX5_attacked 30 = .ok (.iload_n 1, 1) := by decide +kernel
theorem dX5_attacked_31 : decode cX5_attacked 31 = .ok (.invokevirtual 50, 3) := by decide +kernel
theorem dX5_attacked_34 : decode cX5_attacked 34 = .ok (.ireturn, 1) := by decide +kernel
set_option maxRecDepth 20000 in
theorem ggX5_total_X5_onBoard : GoodIn wsX5_total wsX5_onBoard := goodIn_r _ [8, 1, 95, 96, 97, 98, 99, 100, 101, 102] (by decide +kernel) (by decide +kernel)
set_option maxRecDepth 20000 in
theorem gX5_total_X5_onBoard : GoodIn wsX5_total (wsV RX5 119 RX5 yX5_onBoard wsX5_onBoard) := goodIn_app (goodIn_of _ (by decide +kernel)) ggX5_total_X5_onBoard
set_option maxRecDepth 20000 in
theorem ggX5_total_X5_inHand : GoodIn wsX5_total wsX5_inHand := goodIn_r _ [12, 1, 95, 96, 97, 98, 99, 100, 101, 102] (by decide +kernel) (by decide +kernel)
set_option maxRecDepth 20000 in
theorem gX5_total_X5_inHand : GoodIn wsX5_total (wsV RX5 129 RX5 yX5_inHand wsX5_inHand) := goodIn_app (goodIn_of _ (by decide +kernel)) ggX5_total_X5_inHand
set_option maxRecDepth 20000 in
theorem ggX5_total_X5_isInCheck : GoodIn wsX5_total wsX5_isInCheck := goodIn_r _ [16, 1, 17, 18, 19, 7, 20, 21, 22, 23, 24, 25, 26, 27, 28, 29, 30, 31, 32, 33, 34, 35, 36, 37, 38, 39, 40, 41, 42, 43, 44, 45, 95, 96, 97, 98, 99, 100, 101, 102] (by decide +kernel) (by decide +kernel)
set_option maxRecDepth 20000 in
theorem gX5_total_X5_isInCheck : GoodIn wsX5_total (wsV RX5 86 RX5 yX5_isInCheck wsX5_isInCheck) := goodIn_app (goodIn_of _ (by decide +kernel)) ggX5_total_X5_isInCheck
set_option maxRecDepth 20000 in
theorem ggX5_total_X5_isMated : GoodIn wsX5_total wsX5_isMated := goodIn_r _ [49, 1, 13, 14, 15, 7, 16, 17, 18, 19, 20, 21, 22, 23, 24, 25, 26, 27, 28, 29, 30, 31, 32, 33, 34, 35, 36, 37, 38, 39, 40, 41, 42, 43, 44, 45, 50, 51, 52, 53, 54, 55, 56, 57, 58, 59, 60, 61, 62, 63, 64, 65, 66, 67, 68, 69, 70, 71, 72, 73, 74, 75, 76, 77, 78, 79, 80, 81, 82, 83, 84, 85, 86, 87, 88, 89, 90, 91, 92, 93, 94, 95, 96, 97, 98, 99, 100, 101, 102] (by decide +kernel) (by decide +kernel)
set_option maxRecDepth 20000 in
theorem gX5_total_X5_isMated : GoodIn wsX5_total (wsV RX5 166 RX5 yX5_isMated wsX5_isMated) := goodIn_app (goodIn_of _ (by decide +kernel)) ggX5_total_X5_isMated
set_option maxRecDepth 20000 in
theorem ggX5_total_X5_plays : GoodIn wsX5_total wsX5_plays := goodIn_r _ [53, 54, 55, 56, 7, 57, 1, 58, 59, 60, 61, 62, 63, 64, 65, 66, 67, 68, 21, 22, 23, 24, 25, 26, 27, 28, 29, 30, 31, 32, 33, 34, 35, 36, 37, 38, 39, 40, 41, 42, 43, 44, 45, 69, 70, 71, 72, 73, 74, 75, 76, 77, 78, 79, 80, 81, 82, 83, 84, 85, 86, 87, 88, 89, 90, 13, 14, 15, 16, 17, 18, 19, 20, 91, 92, 93, 94, 95, 96, 97, 98, 99, 100, 101, 102] (by decide +kernel) (by decide +kernel)
set_option maxRecDepth 20000 in
theorem gX5_total_X5_plays : GoodIn wsX5_total (wsV RX5 97 RX5 yX5_plays wsX5_plays) := goodIn_app (goodIn_of _ (by decide +kernel)) ggX5_total_X5_plays
theorem dX5_total_0 : decode cX5_total 0 = .ok (.iload_n 1, 1) := by decide +kernel
theorem dX5_total_1 : decode cX5_total 1 = .ok (.tableswitch 170 0 13 #[71, 79, 84, 84, 92, 113, 127, 141, 147, 147, 147, 147, 160, 165], 71) := by decide +kernel
theorem dX5_total_72 : decode cX5_total 72 = .ok (.aload_n 0, 1) := by decide +kernel
theorem dX5_total_73 : decode cX5_total 73 = .ok (.getfield 7, 3) := by decide +kernel
theorem dX5_total_76 : decode cX5_total 76 = .ok (.bipush 35, 2) := by decide +kernel
theorem dX5_total_78 : decode cX5_total 78 = .ok (.iaload, 1) := by decide +kernel
theorem dX5_total_79 : decode cX5_total 79 = .ok (.ireturn, 1) := by decide +kernel
theorem dX5_total_80 : decode cX5_total 80 = .ok (.aload_n 0, 1) := by decide +kernel
theorem dX5_total_81 : decode cX5_total 81 = .ok (.invokevirtual 119, 3) := by decide +kernel
theorem dX5_total_84 : decode cX5_total 84 = .ok (.ireturn, 1) := by decide +kernel
theorem dX5_total_85 : decode cX5_total 85 = .ok (.aload_n 0, 1) := by decide +kernel
theorem dX5_total_86 : decode cX5_total 86 = .ok (.iload_n 1, 1) := by decide +kernel
theorem dX5_total_87 : decode cX5_total 87 = .ok (.iconst 2, 1) := by decide +kernel
theorem dX5_total_88 : decode cX5_total 88 = .ok (.isub, 1) := by decide +kernel
theorem dX5_total_89 : decode cX5_total 89 = .ok (.invokevirtual 129, 3) := by decide +kernel
theorem dX5_total_92 : decode cX5_total 92 = .ok (.ireturn, 1) := by decide +kernel
theorem dX5_total_93 : decode cX5_total 93 = .ok (.aload_n 0, 1) := by decide +kernel
theorem dX5_total_94 : decode cX5_total 94 = .ok (.iconst 0, 1) := by decide +kernel
theorem dX5_total_95 : decode cX5_total 95 = .ok (.aload_n 0, 1) := by decide +kernel
theorem dX5_total_96 : decode cX5_total 96 = .ok (.getfield 7, 3) := by decide +kernel
theorem dX5_total_99 : decode cX5_total 99 = .ok (.bipush 35, 2) := by decide +kernel
theorem dX5_total_101 : decode cX5_total 101 = .ok (.iaload, 1) := by decide +kernel
theorem dX5_total_102 : decode cX5_total 102 = .ok (.invokevirtual 86, 3) := by decide +kernel
theorem dX5_total_105 : decode cX5_total 105 = .ok (.ifCond .eq 7, 3) := by decide +kernel
theorem dX5_total_108 : decode cX5_total 108 = .ok (.iconst 1, 1) := by decide +kernel
theorem dX5_total_109 : decode cX5_total 109 = .ok (.goto 4, 3) := by decide +kernel
theorem dX5_total_112 : decode cX5_total 112 = .ok (.iconst 0, 1) := by decide +kernel
theorem dX5_total_113 : decode cX5_total 113 = .ok (.ireturn, 1) := by decide +kernel
theorem dX5_total_114 : decode cX5_total 114 = .ok (.aload_n 0, 1) := by decide +kernel
theorem dX5_total_115 : decode cX5_total 115 = .ok (.iconst 0, 1) := by decide +kernel
theorem dX5_total_116 : decode cX5_total 116 = .ok (.invokevirtual 166, 3) := by decide +kernel
theorem dX5_total_119 : decode cX5_total 119 = .ok (.ifCond .eq 7, 3) := by decide +kernel
theorem dX5_total_122 : decode cX5_total 122 = .ok (.iconst 1, 1) := by decide +kernel
theorem dX5_total_123 : decode cX5_total 123 = .ok (.goto 4, 3) := by decide +kernel
theorem dX5_total_126 : decode cX5_total 126 = .ok (.iconst 0, 1) := by decide +kernel
theorem dX5_total_127 : decode cX5_total 127 = .ok (.ireturn, 1) := by decide +kernel
theorem dX5_total_128 : decode cX5_total 128 = .ok (.aload_n 0, 1) := by decide +kernel
theorem dX5_total_129 : decode cX5_total 129 = .ok (.iconst 0, 1) := by decide +kernel
theorem dX5_total_130 : decode cX5_total 130 = .ok (.invokevirtual 97, 3) := by decide +kernel
theorem dX5_total_133 : decode cX5_total 133 = .ok (.ifCond .ne 7, 3) := by decide +kernel
theorem dX5_total_136 : decode cX5_total 136 = .ok (.iconst 1, 1) := by decide +kernel
theorem dX5_total_137 : decode cX5_total 137 = .ok (.goto 4, 3) := by decide +kernel
theorem dX5_total_140 : decode cX5_total 140 = .ok (.iconst 0, 1) := by decide +kernel
theorem dX5_total_141 : decode cX5_total 141 = .ok (.ireturn, 1) := by decide +kernel
theorem dX5_total_142 : decode cX5_total 142 = .ok (.aload_n 0, 1) := by decide +kernel
theorem dX5_total_143 : decode cX5_total 143 = .ok (.iconst 0, 1) := by decide +kernel
theorem dX5_total_144 : decode cX5_total 144 = .ok (.invokevirtual 97, 3) := by decide +kernel
theorem dX5_total_147 : decode cX5_total 147 = .ok (.ireturn, 1) := by decide +kernel
theorem dX5_total_148 : decode cX5_total 148 = .ok (.aload_n 0, 1) := by decide +kernel
theorem dX5_total_149 : decode cX5_total 149 = .ok (.getfield 7, 3) := by decide +kernel
theorem dX5_total_152 : decode cX5_total 152 = .ok (.bipush 36, 2) := by decide +kernel
theorem dX5_total_154 : decode cX5_total 154 = .ok (.iload_n 1, 1) := by decide +kernel
theorem dX5_total_155 : decode cX5_total 155 = .ok (.iadd, 1) := by decide +kernel
theorem dX5_total_156 : decode cX5_total 156 = .ok (.bipush 8, 2) := by decide +kernel
theorem dX5_total_158 : decode cX5_total 158 = .ok (.isub, 1) := by decide +kernel
theorem dX5_total_159 : decode cX5_total 159 = .ok (.iaload, 1) := by decide +kernel
theorem dX5_total_160 : decode cX5_total 160 = .ok (.ireturn, 1) := by decide +kernel
theorem dX5_total_161 : decode cX5_total 161 = .ok (.aload_n 0, 1) := by decide +kernel
theorem dX5_total_162 : decode cX5_total 162 = .ok (.getfield 29, 3) := by decide +kernel
theorem dX5_total_165 : decode cX5_total 165 = .ok (.ireturn, 1) := by decide +kernel
theorem dX5_total_166 : decode cX5_total 166 = .ok (.aload_n 0, 1) := by decide +kernel
theorem dX5_total_167 : decode cX5_total 167 = .ok (.getfield 132, 3) := by decide +kernel
theorem dX5_total_170 : decode cX5_total 170 = .ok (.ireturn, 1) := by decide +kernel
theorem dX5_total_171 : decode cX5_total 171 = .ok (.sipush (-1002), 3) := by decide +kernel
theorem dX5_total_174 : decode cX5_total 174 = .ok (.ireturn, 1) := by decide +kernel
theorem dX5_worthOf_0 : decode cX5_worthOf 0 = .ok (.iload_n 0, 1) := by decide +kernel
theorem dX5_worthOf_1 : decode cX5_worthOf 1 = .ok (.tableswitch 75 0 9 #[55, 75, 57, 59, 62, 65, 75, 67, 70, 73], 55) := by decide +kernel
theorem dX5_worthOf_56 : decode cX5_worthOf 56 = .ok (.iconst 0, 1) := by decide +kernel
theorem dX5_worthOf_57 : decode cX5_worthOf 57 = .ok (.ireturn, 1) := by decide +kernel
theorem dX5_worthOf_58 : decode cX5_worthOf 58 = .ok (.iconst 5, 1) := by decide +kernel
theorem dX5_worthOf_59 : decode cX5_worthOf 59 = .ok (.ireturn, 1) := by decide +kernel
theorem dX5_worthOf_60 : decode cX5_worthOf 60 = .ok (.bipush 8, 2) := by decide +kernel
theorem dX5_worthOf_62 : decode cX5_worthOf 62 = .ok (.ireturn, 1) := by decide +kernel
theorem dX5_worthOf_63 : decode cX5_worthOf 63 = .ok (.bipush 10, 2) := by decide +kernel
theorem dX5_worthOf_65 : decode cX5_worthOf 65 = .ok (.ireturn, 1) := by decide +kernel
theorem dX5_worthOf_66 : decode cX5_worthOf 66 = .ok (.iconst 1, 1) := by decide +kernel
theorem dX5_worthOf_67 : decode cX5_worthOf 67 = .ok (.ireturn, 1) := by decide +kernel
theorem dX5_worthOf_68 : decode cX5_worthOf 68 = .ok (.bipush 11, 2) := by decide +kernel
theorem dX5_worthOf_70 : decode cX5_worthOf 70 = .ok (.ireturn, 1) := by decide +kernel
theorem dX5_worthOf_71 : decode cX5_worthOf 71 = .ok (.bipush 13, 2) := by decide +kernel
theorem dX5_worthOf_73 : decode cX5_worthOf 73 = .ok (.ireturn, 1) := by decide +kernel
theorem dX5_worthOf_74 : decode cX5_worthOf 74 = .ok (.iconst 4, 1) := by decide +kernel
theorem dX5_worthOf_75 : decode cX5_worthOf 75 = .ok (.ireturn, 1) := by decide +kernel
theorem dX5_worthOf_76 : decode cX5_worthOf 76 = .ok (.bipush 6, 2) := by decide +kernel
theorem dX5_worthOf_78 : decode cX5_worthOf 78 = .ok (.ireturn, 1) := by decide +kernel
set_option maxRecDepth 20000 in
theorem ggX5_worthIn_X5_sideOn : GoodIn wsX5_worthIn wsX5_sideOn := goodIn_r _ [6, 1, 7, 8, 9, 5, 10, 14, 15, 16, 17, 18, 19, 20, 21] (by decide +kernel) (by decide +kernel)
set_option maxRecDepth 20000 in
theorem gX5_worthIn_X5_sideOn : GoodIn wsX5_worthIn (wsV RX5 47 RX5 yX5_sideOn wsX5_sideOn) := goodIn_app (goodIn_of _ (by decide +kernel)) ggX5_worthIn_X5_sideOn
set_option maxRecDepth 20000 in
theorem ggX5_worthIn_X5_manAt : GoodIn wsX5_worthIn wsX5_manAt := goodIn_r _ [10, 1, 14, 15, 16, 17, 18, 19, 20, 21] (by decide +kernel) (by decide +kernel)
set_option maxRecDepth 20000 in
theorem gX5_worthIn_X5_manAt : GoodIn wsX5_worthIn (wsV RX5 33 RX5 yX5_manAt wsX5_manAt) := goodIn_app (goodIn_of _ (by decide +kernel)) ggX5_worthIn_X5_manAt
set_option maxRecDepth 20000 in
theorem ggX5_worthIn_X5_worthOf : GoodIn wsX5_worthIn wsX5_worthOf := goodIn_r _ [13] (by decide +kernel) (by decide +kernel)
set_option maxRecDepth 20000 in
theorem gX5_worthIn_X5_worthOf : GoodIn wsX5_worthIn (va_wsS RX5 169 yX5_worthOf wsX5_worthOf) := goodIn_app (goodIn_of _ (by decide +kernel)) ggX5_worthIn_X5_worthOf
theorem dX5_worthIn_0 : decode cX5_worthIn 0 = .ok (.iconst 0, 1) := by decide +kernel
theorem dX5_worthIn_1 : decode cX5_worthIn 1 = .ok (.istore_n 3, 1) := by decide +kernel
theorem dX5_worthIn_2 : decode cX5_worthIn 2 = .ok (.iconst 0, 1) := by decide +kernel
theorem dX5_worthIn_3 : decode cX5_worthIn 3 = .ok (.istore 4, 2) := by decide +kernel
theorem dX5_worthIn_5 : decode cX5_worthIn 5 = .ok (.iload 4, 2) := by decide +kernel
theorem dX5_worthIn_7 : decode cX5_worthIn 7 = .ok (.bipush 25, 2) := by decide +kernel
theorem dX5_worthIn_9 : decode cX5_worthIn 9 = .ok (.if_icmp .ge 66, 3) := by decide +kernel
theorem dX5_worthIn_12 : decode cX5_worthIn 12 = .ok (.aload_n 0, 1) := by decide +kernel
theorem dX5_worthIn_13 : decode cX5_worthIn 13 = .ok (.iload_n 1, 1) := by decide +kernel
theorem dX5_worthIn_14 : decode cX5_worthIn 14 = .ok (.iload 4, 2) := by decide +kernel
theorem dX5_worthIn_16 : decode cX5_worthIn 16 = .ok (.invokevirtual 47, 3) := by decide +kernel
theorem dX5_worthIn_19 : decode cX5_worthIn 19 = .ok (.istore 5, 2) := by decide +kernel
theorem dX5_worthIn_21 : decode cX5_worthIn 21 = .ok (.iload_n 3, 1) := by decide +kernel
theorem dX5_worthIn_22 : decode cX5_worthIn 22 = .ok (.iload 5, 2) := by decide +kernel
theorem dX5_worthIn_24 : decode cX5_worthIn 24 = .ok (.ifCond .ge 7, 3) := by decide +kernel
theorem dX5_worthIn_27 : decode cX5_worthIn 27 = .ok (.iconst 0, 1) := by decide +kernel
theorem dX5_worthIn_28 : decode cX5_worthIn 28 = .ok (.goto 39, 3) := by decide +kernel
theorem dX5_worthIn_31 : decode cX5_worthIn 31 = .ok (.iload 5, 2) := by decide +kernel
theorem dX5_worthIn_33 : decode cX5_worthIn 33 = .ok (.iload_n 2, 1) := by decide +kernel
theorem dX5_worthIn_34 : decode cX5_worthIn 34 = .ok (.if_icmp .ne 19, 3) := by decide +kernel
theorem dX5_worthIn_37 : decode cX5_worthIn 37 = .ok (.aload_n 0, 1) := by decide +kernel
theorem dX5_worthIn_38 : decode cX5_worthIn 38 = .ok (.iload_n 1, 1) := by decide +kernel
theorem dX5_worthIn_39 : decode cX5_worthIn 39 = .ok (.iload 4, 2) := by decide +kernel
theorem dX5_worthIn_41 : decode cX5_worthIn 41 = .ok (.invokevirtual 33, 3) := by decide +kernel
theorem dX5_worthIn_44 : decode cX5_worthIn 44 = .ok (.bipush 10, 2) := by decide +kernel
theorem dX5_worthIn_46 : decode cX5_worthIn 46 = .ok (.irem, 1) := by decide +kernel
theorem dX5_worthIn_47 : decode cX5_worthIn 47 = .ok (.invokestatic 169, 3) := by decide +kernel
theorem dX5_worthIn_50 : decode cX5_worthIn 50 = .ok (.goto 17, 3) := by decide +kernel
theorem dX5_worthIn_53 : decode cX5_worthIn 53 = .ok (.aload_n 0, 1) := by decide +kernel
theorem dX5_worthIn_54 : decode cX5_worthIn 54 = .ok (.iload_n 1, 1) := by decide +kernel
theorem dX5_worthIn_55 : decode cX5_worthIn 55 = .ok (.iload 4, 2) := by decide +kernel
theorem dX5_worthIn_57 : decode cX5_worthIn 57 = .ok (.invokevirtual 33, 3) := by decide +kernel
theorem dX5_worthIn_60 : decode cX5_worthIn 60 = .ok (.bipush 10, 2) := by decide +kernel
theorem dX5_worthIn_62 : decode cX5_worthIn 62 = .ok (.irem, 1) := by decide +kernel
theorem dX5_worthIn_63 : decode cX5_worthIn 63 = .ok (.invokestatic 169, 3) := by decide +kernel
theorem dX5_worthIn_66 : decode cX5_worthIn 66 = .ok (.ineg, 1) := by decide +kernel
theorem dX5_worthIn_67 : decode cX5_worthIn 67 = .ok (.iadd, 1) := by decide +kernel
theorem dX5_worthIn_68 : decode cX5_worthIn 68 = .ok (.istore_n 3, 1) := by decide +kernel
theorem dX5_worthIn_69 : decode cX5_worthIn 69 = .ok (.iinc 4 1, 3) := by decide +kernel
theorem dX5_worthIn_72 : decode cX5_worthIn 72 = .ok (.goto (-67), 3) := by decide +kernel
theorem dX5_worthIn_75 : decode cX5_worthIn 75 = .ok (.iconst 0, 1) := by decide +kernel
theorem dX5_worthIn_76 : decode cX5_worthIn 76 = .ok (.istore 4, 2) := by decide +kernel
theorem dX5_worthIn_78 : decode cX5_worthIn 78 = .ok (.iload 4, 2) := by decide +kernel
theorem dX5_worthIn_80 : decode cX5_worthIn 80 = .ok (.bipush 10, 2) := by decide +kernel
theorem dX5_worthIn_82 : decode cX5_worthIn 82 = .ok (.if_icmp .ge 54, 3) := by decide +kernel
theorem dX5_worthIn_85 : decode cX5_worthIn 85 = .ok (.aload_n 0, 1) := by decide +kernel
theorem dX5_worthIn_86 : decode cX5_worthIn 86 = .ok (.getfield 7, 3) := by decide +kernel
theorem dX5_worthIn_89 : decode cX5_worthIn 89 = .ok (.iload_n 1, 1) := by decide +kernel
theorem dX5_worthIn_90 : decode cX5_worthIn 90 = .ok (.bipush 25, 2) := by decide +kernel
theorem dX5_worthIn_92 : decode cX5_worthIn 92 = .ok (.iadd, 1) := by decide +kernel
theorem dX5_worthIn_93 : decode cX5_worthIn 93 = .ok (.iload 4, 2) := by decide +kernel
theorem dX5_worthIn_95 : decode cX5_worthIn 95 = .ok (.iadd, 1) := by decide +kernel
theorem dX5_worthIn_96 : decode cX5_worthIn 96 = .ok (.iaload, 1) := by decide +kernel
theorem dX5_worthIn_97 : decode cX5_worthIn 97 = .ok (.iload 4, 2) := by decide +kernel
theorem dX5_worthIn_99 : decode cX5_worthIn 99 = .ok (.iconst 5, 1) := by decide +kernel
theorem dX5_worthIn_100 : decode cX5_worthIn 100 = .ok (.irem, 1) := by decide +kernel
theorem dX5_worthIn_101 : decode cX5_worthIn 101 = .ok (.iconst 1, 1) := by decide +kernel
theorem dX5_worthIn_102 : decode cX5_worthIn 102 = .ok (.iadd, 1) := by decide +kernel
theorem dX5_worthIn_103 : decode cX5_worthIn 103 = .ok (.invokestatic 169, 3) := by decide +kernel
theorem dX5_worthIn_106 : decode cX5_worthIn 106 = .ok (.iconst 1, 1) := by decide +kernel
theorem dX5_worthIn_107 : decode cX5_worthIn 107 = .ok (.iadd, 1) := by decide +kernel
theorem dX5_worthIn_108 : decode cX5_worthIn 108 = .ok (.imul, 1) := by decide +kernel
theorem dX5_worthIn_109 : decode cX5_worthIn 109 = .ok (.istore 5, 2) := by decide +kernel
theorem dX5_worthIn_111 : decode cX5_worthIn 111 = .ok (.iload_n 3, 1) := by decide +kernel
theorem dX5_worthIn_112 : decode cX5_worthIn 112 = .ok (.iload 4, 2) := by decide +kernel
theorem dX5_worthIn_114 : decode cX5_worthIn 114 = .ok (.iconst 5, 1) := by decide +kernel
theorem dX5_worthIn_115 : decode cX5_worthIn 115 = .ok (.idiv, 1) := by decide +kernel
theorem dX5_worthIn_116 : decode cX5_worthIn 116 = .ok (.iload_n 2, 1) := by decide +kernel
theorem dX5_worthIn_117 : decode cX5_worthIn 117 = .ok (.if_icmp .ne 8, 3) := by decide +kernel
theorem dX5_worthIn_120 : decode cX5_worthIn 120 = .ok (.iload 5, 2) := by decide +kernel
theorem dX5_worthIn_122 : decode cX5_worthIn 122 = .ok (.goto 6, 3) := by decide +kernel
theorem dX5_worthIn_125 : decode cX5_worthIn 125 = .ok (.iload 5, 2) := by decide +kernel
theorem dX5_worthIn_127 : decode cX5_worthIn 127 = .ok (.ineg, 1) := by decide +kernel
theorem dX5_worthIn_128 : decode cX5_worthIn 128 = .ok (.iadd, 1) := by decide +kernel
theorem dX5_worthIn_129 : decode cX5_worthIn 129 = .ok (.istore_n 3, 1) := by decide +kernel
theorem dX5_worthIn_130 : decode cX5_worthIn 130 = .ok (.iinc 4 1, 3) := by decide +kernel
theorem dX5_worthIn_133 : decode cX5_worthIn 133 = .ok (.goto (-55), 3) := by decide +kernel
theorem dX5_worthIn_136 : decode cX5_worthIn 136 = .ok (.iload_n 3, 1) := by decide +kernel
theorem dX5_worthIn_137 : decode cX5_worthIn 137 = .ok (.ireturn, 1) := by decide +kernel
set_option maxRecDepth 20000 in
theorem ggX5_worth_X5_isSide : GoodIn wsX5_worth wsX5_isSide := goodIn_r _ [4, 5, 6, 3, 7] (by decide +kernel) (by decide +kernel)
set_option maxRecDepth 20000 in
theorem gX5_worth_X5_isSide : GoodIn wsX5_worth (va_wsS RX5 123 yX5_isSide wsX5_isSide) := goodIn_app (goodIn_of _ (by decide +kernel)) ggX5_worth_X5_isSide
set_option maxRecDepth 20000 in
theorem ggX5_worth_X5_worthIn : GoodIn wsX5_worth wsX5_worthIn := goodIn_r _ [11, 12, 13, 14, 15, 3, 16, 17, 18, 19, 20, 21, 22, 23, 24, 25, 26, 27, 28, 29, 30, 31] (by decide +kernel) (by decide +kernel)
set_option maxRecDepth 20000 in
theorem gX5_worth_X5_worthIn : GoodIn wsX5_worth (wsV RX5 172 RX5 yX5_worthIn wsX5_worthIn) := goodIn_app (goodIn_of _ (by decide +kernel)) ggX5_worth_X5_worthIn
theorem dX5_worth_0 : decode cX5_worth 0 = .ok (.iload_n 1, 1) := by decide +kernel
theorem dX5_worth_1 : decode cX5_worth 1 = .ok (.invokestatic 123, 3) := by decide +kernel
theorem dX5_worth_4 : decode cX5_worth 4 = .ok (.ifCond .eq 12, 3) := by decide +kernel
theorem dX5_worth_7 : decode cX5_worth 7 = .ok (.aload_n 0, 1) := by decide +kernel
theorem dX5_worth_8 : decode cX5_worth 8 = .ok (.iconst 0, 1) := by decide +kernel
theorem dX5_worth_9 : decode cX5_worth 9 = .ok (.iload_n 1, 1) := by decide +kernel
theorem dX5_worth_10 : decode cX5_worth 10 = .ok (.invokevirtual 172, 3) := by decide +kernel
theorem dX5_worth_13 : decode cX5_worth 13 = .ok (.goto 6, 3) := by decide +kernel
theorem dX5_worth_16 : decode cX5_worth 16 = .ok (.sipush (-1001), 3) := by decide +kernel
theorem dX5_worth_19 : decode cX5_worth 19 = .ok (.ireturn, 1) := by decide +kernel
set_option maxRecDepth 20000 in
theorem ggX5_moveReason_X5_isSquare : GoodIn wsX5_moveReason wsX5_isSquare := goodIn_r _ [4, 5, 6, 3, 7] (by decide +kernel) (by decide +kernel)
set_option maxRecDepth 20000 in
theorem gX5_moveReason_X5_isSquare : GoodIn wsX5_moveReason (va_wsS RX5 113 yX5_isSquare wsX5_isSquare) := goodIn_app (goodIn_of _ (by decide +kernel)) ggX5_moveReason_X5_isSquare
set_option maxRecDepth 20000 in
theorem ggX5_moveReason_X5_reason : GoodIn wsX5_moveReason wsX5_reason := goodIn_r _ [11, 12, 13, 14, 15, 3, 16, 17, 18, 19, 20, 21, 22, 23, 24, 25, 26, 27, 28, 29, 30, 31, 32, 33, 34, 35, 36, 37, 38, 39, 40, 41, 42, 43, 44, 45, 5, 6, 7, 46, 47, 48, 49, 50, 51, 52, 53, 54, 55, 56, 57, 58, 59, 60, 61, 62, 63, 64, 65, 66, 67, 68, 69, 70, 71, 72, 73, 74, 75, 76, 77, 78, 79, 80, 81, 82, 83, 84, 85, 86, 87] (by decide +kernel) (by decide +kernel)
set_option maxRecDepth 20000 in
theorem gX5_moveReason_X5_reason : GoodIn wsX5_moveReason (wsV RX5 94 RX5 yX5_reason wsX5_reason) := goodIn_app (goodIn_of _ (by decide +kernel)) ggX5_moveReason_X5_reason
theorem dX5_moveReason_0 : decode cX5_moveReason 0 = .ok (.iload_n 1, 1) := by decide +kernel
theorem dX5_moveReason_1 : decode cX5_moveReason 1 = .ok (.invokestatic 113, 3) := by decide +kernel
theorem dX5_moveReason_4 : decode cX5_moveReason 4 = .ok (.ifCond .eq 14, 3) := by decide +kernel
theorem dX5_moveReason_7 : decode cX5_moveReason 7 = .ok (.iload_n 2, 1) := by decide +kernel
theorem dX5_moveReason_8 : decode cX5_moveReason 8 = .ok (.invokestatic 113, 3) := by decide +kernel
theorem dX5_moveReason_11 : decode cX5_moveReason 11 = .ok (.ifCond .eq 7, 3) := by decide +kernel
theorem dX5_moveReason_14 : decode cX5_moveReason 14 = .ok (.iconst 1, 1) := by decide +kernel
theorem dX5_moveReason_15 : decode cX5_moveReason 15 = .ok (.goto 4, 3) := by decide +kernel
theorem dX5_moveReason_18 : decode cX5_moveReason 18 = .ok (.iconst 0, 1) := by decide +kernel
theorem dX5_moveReason_19 : decode cX5_moveReason 19 = .ok (.istore 4, 2) := by decide +kernel
theorem dX5_moveReason_21 : decode cX5_moveReason 21 = .ok (.iload 4, 2) := by decide +kernel
theorem dX5_moveReason_23 : decode cX5_moveReason 23 = .ok (.ifCond .eq 29, 3) := by decide +kernel
theorem dX5_moveReason_26 : decode cX5_moveReason 26 = .ok (.aload_n 0, 1) := by decide +kernel
theorem dX5_moveReason_27 : decode cX5_moveReason 27 = .ok (.iconst 0, 1) := by decide +kernel
theorem dX5_moveReason_28 : decode cX5_moveReason 28 = .ok (.iload_n 3, 1) := by decide +kernel
theorem dX5_moveReason_29 : decode cX5_moveReason 29 = .ok (.ifCond .eq 9, 3) := by decide +kernel
theorem dX5_moveReason_32 : decode cX5_moveReason 32 = .ok (.sipush 625, 3) := by decide +kernel
theorem dX5_moveReason_35 : decode cX5_moveReason 35 = .ok (.goto 4, 3) := by decide +kernel
theorem dX5_moveReason_38 : decode cX5_moveReason 38 = .ok (.iconst 0, 1) := by decide +kernel
theorem dX5_moveReason_39 : decode cX5_moveReason 39 = .ok (.bipush 25, 2) := by decide +kernel
theorem dX5_moveReason_41 : decode cX5_moveReason 41 = .ok (.iload_n 1, 1) := by decide +kernel
theorem dX5_moveReason_42 : decode cX5_moveReason 42 = .ok (.imul, 1) := by decide +kernel
theorem dX5_moveReason_43 : decode cX5_moveReason 43 = .ok (.iadd, 1) := by decide +kernel
theorem dX5_moveReason_44 : decode cX5_moveReason 44 = .ok (.iload_n 2, 1) := by decide +kernel
theorem dX5_moveReason_45 : decode cX5_moveReason 45 = .ok (.iadd, 1) := by decide +kernel
theorem dX5_moveReason_46 : decode cX5_moveReason 46 = .ok (.invokevirtual 94, 3) := by decide +kernel
theorem dX5_moveReason_49 : decode cX5_moveReason 49 = .ok (.goto 6, 3) := by decide +kernel
theorem dX5_moveReason_52 : decode cX5_moveReason 52 = .ok (.sipush (-1001), 3) := by decide +kernel
theorem dX5_moveReason_55 : decode cX5_moveReason 55 = .ok (.ireturn, 1) := by decide +kernel
set_option maxRecDepth 20000 in
theorem ggX5_dropReason_X5_isInHand : GoodIn wsX5_dropReason wsX5_isInHand := goodIn_r _ [4, 5, 6, 3, 7] (by decide +kernel) (by decide +kernel)
set_option maxRecDepth 20000 in
theorem gX5_dropReason_X5_isInHand : GoodIn wsX5_dropReason (va_wsS RX5 126 yX5_isInHand wsX5_isInHand) := goodIn_app (goodIn_of _ (by decide +kernel)) ggX5_dropReason_X5_isInHand
set_option maxRecDepth 20000 in
theorem ggX5_dropReason_X5_isSquare : GoodIn wsX5_dropReason wsX5_isSquare := goodIn_r _ [10, 5, 6, 3, 7] (by decide +kernel) (by decide +kernel)
set_option maxRecDepth 20000 in
theorem gX5_dropReason_X5_isSquare : GoodIn wsX5_dropReason (va_wsS RX5 113 yX5_isSquare wsX5_isSquare) := goodIn_app (goodIn_of _ (by decide +kernel)) ggX5_dropReason_X5_isSquare
set_option maxRecDepth 20000 in
theorem ggX5_dropReason_X5_reason : GoodIn wsX5_dropReason wsX5_reason := goodIn_r _ [14, 15, 16, 17, 18, 3, 19, 20, 21, 22, 23, 24, 25, 26, 27, 28, 29, 30, 31, 32, 33, 34, 35, 36, 37, 38, 39, 40, 41, 42, 43, 44, 45, 46, 47, 48, 5, 6, 7, 49, 50, 51, 52, 53, 54, 55, 56, 57, 58, 59, 60, 61, 62, 63, 64, 65, 66, 67, 68, 69, 70, 71, 72, 73, 74, 75, 76, 77, 78, 79, 80, 81, 82, 83, 84, 85, 86, 87, 88, 89, 90] (by decide +kernel) (by decide +kernel)
set_option maxRecDepth 20000 in
theorem gX5_dropReason_X5_reason : GoodIn wsX5_dropReason (wsV RX5 94 RX5 yX5_reason wsX5_reason) := goodIn_app (goodIn_of _ (by decide +kernel)) ggX5_dropReason_X5_reason
theorem dX5_dropReason_0 : decode cX5_dropReason 0 = .ok (.iload_n 1, 1) := by decide +kernel
theorem dX5_dropReason_1 : decode cX5_dropReason 1 = .ok (.invokestatic 126, 3) := by decide +kernel
theorem dX5_dropReason_4 : decode cX5_dropReason 4 = .ok (.ifCond .eq 30, 3) := by decide +kernel
theorem dX5_dropReason_7 : decode cX5_dropReason 7 = .ok (.iload_n 2, 1) := by decide +kernel
theorem dX5_dropReason_8 : decode cX5_dropReason 8 = .ok (.invokestatic 113, 3) := by decide +kernel
theorem dX5_dropReason_11 : decode cX5_dropReason 11 = .ok (.ifCond .eq 23, 3) := by decide +kernel
theorem dX5_dropReason_14 : decode cX5_dropReason 14 = .ok (.aload_n 0, 1) := by decide +kernel
theorem dX5_dropReason_15 : decode cX5_dropReason 15 = .ok (.iconst 0, 1) := by decide +kernel
theorem dX5_dropReason_16 : decode cX5_dropReason 16 = .ok (.sipush 1250, 3) := by decide +kernel
theorem dX5_dropReason_19 : decode cX5_dropReason 19 = .ok (.bipush 25, 2) := by decide +kernel
theorem dX5_dropReason_21 : decode cX5_dropReason 21 = .ok (.iload_n 1, 1) := by decide +kernel
theorem dX5_dropReason_22 : decode cX5_dropReason 22 = .ok (.iconst 1, 1) := by decide +kernel
theorem dX5_dropReason_23 : decode cX5_dropReason 23 = .ok (.isub, 1) := by decide +kernel
theorem dX5_dropReason_24 : decode cX5_dropReason 24 = .ok (.imul, 1) := by decide +kernel
theorem dX5_dropReason_25 : decode cX5_dropReason 25 = .ok (.iadd, 1) := by decide +kernel
theorem dX5_dropReason_26 : decode cX5_dropReason 26 = .ok (.iload_n 2, 1) := by decide +kernel
theorem dX5_dropReason_27 : decode cX5_dropReason 27 = .ok (.iadd, 1) := by decide +kernel
theorem dX5_dropReason_28 : decode cX5_dropReason 28 = .ok (.invokevirtual 94, 3) := by decide +kernel
theorem dX5_dropReason_31 : decode cX5_dropReason 31 = .ok (.goto 6, 3) := by decide +kernel
theorem dX5_dropReason_34 : decode cX5_dropReason 34 = .ok (.sipush (-1001), 3) := by decide +kernel
theorem dX5_dropReason_37 : decode cX5_dropReason 37 = .ok (.ireturn, 1) := by decide +kernel
set_option maxRecDepth 20000 in
theorem ggX5_playAt_X5_reason : GoodIn wsX5_playAt wsX5_reason := goodIn_r _ [5, 6, 7, 8, 9, 4, 10, 11, 12, 13, 14, 15, 16, 17, 18, 19, 20, 21, 22, 23, 24, 25, 26, 27, 28, 29, 30, 31, 32, 33, 34, 35, 36, 37, 38, 39, 40, 41, 42, 43, 44, 45, 46, 47, 48, 49, 50, 51, 52, 53, 54, 55, 56, 57, 58, 59, 60, 61, 62, 63, 64, 65, 66, 67, 68, 69, 70, 71, 72, 73, 74, 75, 76, 80, 81, 82, 83, 84, 85, 86, 87] (by decide +kernel) (by decide +kernel)
set_option maxRecDepth 20000 in
theorem gX5_playAt_X5_reason : GoodIn wsX5_playAt (wsV RX5 94 RX5 yX5_reason wsX5_reason) := goodIn_app (goodIn_of _ (by decide +kernel)) ggX5_playAt_X5_reason
set_option maxRecDepth 20000 in
theorem ggX5_playAt_X5_told : GoodIn wsX5_playAt wsX5_told := goodIn_r _ [79, 15, 16, 4, 17, 50, 51, 52] (by decide +kernel) (by decide +kernel)
set_option maxRecDepth 20000 in
theorem gX5_playAt_X5_told : GoodIn wsX5_playAt (va_wsS RX5 110 yX5_told wsX5_told) := goodIn_app (goodIn_of _ (by decide +kernel)) ggX5_playAt_X5_told
theorem dX5_playAt_0 : decode cX5_playAt 0 = .ok (.iload_n 1, 1) := by decide +kernel
theorem dX5_playAt_1 : decode cX5_playAt 1 = .ok (.ifCond .ge 7, 3) := by decide +kernel
theorem dX5_playAt_4 : decode cX5_playAt 4 = .ok (.sipush (-1002), 3) := by decide +kernel
theorem dX5_playAt_7 : decode cX5_playAt 7 = .ok (.ireturn, 1) := by decide +kernel
theorem dX5_playAt_8 : decode cX5_playAt 8 = .ok (.iload_n 1, 1) := by decide +kernel
theorem dX5_playAt_9 : decode cX5_playAt 9 = .ok (.istore_n 2, 1) := by decide +kernel
theorem dX5_playAt_10 : decode cX5_playAt 10 = .ok (.iconst 0, 1) := by decide +kernel
theorem dX5_playAt_11 : decode cX5_playAt 11 = .ok (.istore_n 3, 1) := by decide +kernel
theorem dX5_playAt_12 : decode cX5_playAt 12 = .ok (.iload_n 3, 1) := by decide +kernel
theorem dX5_playAt_13 : decode cX5_playAt 13 = .ok (.sipush 1375, 3) := by decide +kernel
theorem dX5_playAt_16 : decode cX5_playAt 16 = .ok (.if_icmp .ge 30, 3) := by decide +kernel
theorem dX5_playAt_19 : decode cX5_playAt 19 = .ok (.aload_n 0, 1) := by decide +kernel
theorem dX5_playAt_20 : decode cX5_playAt 20 = .ok (.iconst 0, 1) := by decide +kernel
theorem dX5_playAt_21 : decode cX5_playAt 21 = .ok (.iload_n 3, 1) := by decide +kernel
theorem dX5_playAt_22 : decode cX5_playAt 22 = .ok (.invokevirtual 94, 3) := by decide +kernel
theorem dX5_playAt_25 : decode cX5_playAt 25 = .ok (.ifCond .ne 15, 3) := by decide +kernel
theorem dX5_playAt_28 : decode cX5_playAt 28 = .ok (.iload_n 2, 1) := by decide +kernel
theorem dX5_playAt_29 : decode cX5_playAt 29 = .ok (.ifCond .ne 8, 3) := by decide +kernel
theorem dX5_playAt_32 : decode cX5_playAt 32 = .ok (.iload_n 3, 1) := by decide +kernel
theorem dX5_playAt_33 : decode cX5_playAt 33 = .ok (.invokestatic 110, 3) := by decide +kernel
theorem dX5_playAt_36 : decode cX5_playAt 36 = .ok (.ireturn, 1) := by decide +kernel
theorem dX5_playAt_37 : decode cX5_playAt 37 = .ok (.iinc 2 (-1), 3) := by decide +kernel
theorem dX5_playAt_40 : decode cX5_playAt 40 = .ok (.iinc 3 1, 3) := by decide +kernel
theorem dX5_playAt_43 : decode cX5_playAt 43 = .ok (.goto (-31), 3) := by decide +kernel
theorem dX5_playAt_46 : decode cX5_playAt 46 = .ok (.sipush (-1005), 3) := by decide +kernel
theorem dX5_playAt_49 : decode cX5_playAt 49 = .ok (.ireturn, 1) := by decide +kernel
set_option maxRecDepth 20000 in
theorem ggX5_drops_X5_isInHand : GoodIn wsX5_drops wsX5_isInHand := goodIn_r _ [4, 5, 6, 3, 7] (by decide +kernel) (by decide +kernel)
set_option maxRecDepth 20000 in
theorem gX5_drops_X5_isInHand : GoodIn wsX5_drops (va_wsS RX5 126 yX5_isInHand wsX5_isInHand) := goodIn_app (goodIn_of _ (by decide +kernel)) ggX5_drops_X5_isInHand
set_option maxRecDepth 20000 in
theorem ggX5_drops_X5_reason : GoodIn wsX5_drops wsX5_reason := goodIn_r _ [11, 12, 13, 14, 15, 3, 16, 17, 18, 19, 20, 21, 22, 23, 24, 25, 26, 27, 28, 29, 30, 31, 32, 33, 34, 35, 36, 37, 38, 39, 40, 41, 42, 43, 44, 45, 5, 6, 7, 46, 47, 48, 49, 50, 51, 52, 53, 54, 55, 56, 57, 58, 59, 60, 61, 62, 63, 64, 65, 66, 67, 68, 69, 70, 71, 72, 73, 74, 75, 76, 77, 78, 79, 80, 81, 82, 83, 84, 85, 86, 87] (by decide +kernel) (by decide +kernel)
set_option maxRecDepth 20000 in
theorem gX5_drops_X5_reason : GoodIn wsX5_drops (wsV RX5 94 RX5 yX5_reason wsX5_reason) := goodIn_app (goodIn_of _ (by decide +kernel)) ggX5_drops_X5_reason
theorem dX5_drops_0 : decode cX5_drops 0 = .ok (.iload_n 1, 1) := by decide +kernel
theorem dX5_drops_1 : decode cX5_drops 1 = .ok (.invokestatic 126, 3) := by decide +kernel
theorem dX5_drops_4 : decode cX5_drops 4 = .ok (.ifCond .ne 7, 3) := by decide +kernel
theorem dX5_drops_7 : decode cX5_drops 7 = .ok (.sipush (-1001), 3) := by decide +kernel
theorem dX5_drops_10 : decode cX5_drops 10 = .ok (.ireturn, 1) := by decide +kernel
theorem dX5_drops_11 : decode cX5_drops 11 = .ok (.iconst 0, 1) := by decide +kernel
theorem dX5_drops_12 : decode cX5_drops 12 = .ok (.istore_n 2, 1) := by decide +kernel
theorem dX5_drops_13 : decode cX5_drops 13 = .ok (.iconst 0, 1) := by decide +kernel
theorem dX5_drops_14 : decode cX5_drops 14 = .ok (.istore_n 3, 1) := by decide +kernel
theorem dX5_drops_15 : decode cX5_drops 15 = .ok (.iload_n 3, 1) := by decide +kernel
theorem dX5_drops_16 : decode cX5_drops 16 = .ok (.bipush 25, 2) := by decide +kernel
theorem dX5_drops_18 : decode cX5_drops 18 = .ok (.if_icmp .ge 39, 3) := by decide +kernel
theorem dX5_drops_21 : decode cX5_drops 21 = .ok (.iload_n 2, 1) := by decide +kernel
theorem dX5_drops_22 : decode cX5_drops 22 = .ok (.aload_n 0, 1) := by decide +kernel
theorem dX5_drops_23 : decode cX5_drops 23 = .ok (.iconst 0, 1) := by decide +kernel
theorem dX5_drops_24 : decode cX5_drops 24 = .ok (.sipush 1250, 3) := by decide +kernel
theorem dX5_drops_27 : decode cX5_drops 27 = .ok (.bipush 25, 2) := by decide +kernel
theorem dX5_drops_29 : decode cX5_drops 29 = .ok (.iload_n 1, 1) := by decide +kernel
theorem dX5_drops_30 : decode cX5_drops 30 = .ok (.iconst 1, 1) := by decide +kernel
theorem dX5_drops_31 : decode cX5_drops 31 = .ok (.isub, 1) := by decide +kernel
theorem dX5_drops_32 : decode cX5_drops 32 = .ok (.imul, 1) := by decide +kernel
theorem dX5_drops_33 : decode cX5_drops 33 = .ok (.iadd, 1) := by decide +kernel
theorem dX5_drops_34 : decode cX5_drops 34 = .ok (.iload_n 3, 1) := by decide +kernel
theorem dX5_drops_35 : decode cX5_drops 35 = .ok (.iadd, 1) := by decide +kernel
theorem dX5_drops_36 : decode cX5_drops 36 = .ok (.invokevirtual 94, 3) := by decide +kernel
theorem dX5_drops_39 : decode cX5_drops 39 = .ok (.ifCond .ne 9, 3) := by decide +kernel
theorem dX5_drops_42 : decode cX5_drops 42 = .ok (.iconst 1, 1) := by decide +kernel
theorem dX5_drops_43 : decode cX5_drops 43 = .ok (.iload_n 3, 1) := by decide +kernel
theorem dX5_drops_44 : decode cX5_drops 44 = .ok (.ishl, 1) := by decide +kernel
theorem dX5_drops_45 : decode cX5_drops 45 = .ok (.goto 4, 3) := by decide +kernel
theorem dX5_drops_48 : decode cX5_drops 48 = .ok (.iconst 0, 1) := by decide +kernel
theorem dX5_drops_49 : decode cX5_drops 49 = .ok (.ior, 1) := by decide +kernel
theorem dX5_drops_50 : decode cX5_drops 50 = .ok (.istore_n 2, 1) := by decide +kernel
theorem dX5_drops_51 : decode cX5_drops 51 = .ok (.iinc 3 1, 3) := by decide +kernel
theorem dX5_drops_54 : decode cX5_drops 54 = .ok (.goto (-39), 3) := by decide +kernel
theorem dX5_drops_57 : decode cX5_drops 57 = .ok (.iload_n 2, 1) := by decide +kernel
theorem dX5_drops_58 : decode cX5_drops 58 = .ok (.ireturn, 1) := by decide +kernel
set_option maxRecDepth 20000 in
theorem ggX5_mate_X5_reason : GoodIn wsX5_mate wsX5_reason := goodIn_r _ [5, 6, 7, 8, 9, 4, 10, 11, 12, 13, 14, 15, 16, 17, 18, 19, 20, 21, 22, 23, 24, 25, 26, 27, 28, 29, 30, 31, 32, 33, 34, 35, 36, 37, 38, 39, 40, 41, 42, 43, 44, 45, 46, 47, 48, 49, 50, 51, 52, 53, 54, 55, 56, 57, 58, 59, 60, 61, 62, 63, 64, 65, 66, 67, 68, 69, 70, 71, 72, 73, 74, 75, 76, 88, 89, 90, 91, 92, 93, 94, 95] (by decide +kernel) (by decide +kernel)
set_option maxRecDepth 20000 in
theorem gX5_mate_X5_reason : GoodIn wsX5_mate (wsV RX5 94 RX5 yX5_reason wsX5_reason) := goodIn_app (goodIn_of _ (by decide +kernel)) ggX5_mate_X5_reason
set_option maxRecDepth 20000 in
theorem ggX5_mate_X5_isMated : GoodIn wsX5_mate wsX5_isMated := goodIn_r _ [80, 6, 65, 66, 67, 4, 68, 69, 70, 71, 72, 18, 19, 20, 21, 22, 23, 24, 25, 26, 27, 28, 29, 30, 31, 32, 33, 34, 35, 36, 37, 38, 39, 40, 41, 42, 81, 82, 83, 84, 1, 2, 3, 5, 7, 8, 9, 10, 11, 12, 13, 14, 15, 16, 17, 43, 44, 45, 46, 47, 48, 49, 50, 51, 52, 53, 54, 55, 56, 57, 58, 59, 60, 61, 62, 63, 64, 73, 74, 75, 76, 88, 89, 90, 91, 92, 93, 94, 95] (by decide +kernel) (by decide +kernel)
set_option maxRecDepth 20000 in
theorem gX5_mate_X5_isMated : GoodIn wsX5_mate (wsV RX5 166 RX5 yX5_isMated wsX5_isMated) := goodIn_app (goodIn_of _ (by decide +kernel)) ggX5_mate_X5_isMated
set_option maxRecDepth 20000 in
theorem ggX5_mate_X5_told : GoodIn wsX5_mate wsX5_told := goodIn_r _ [87, 15, 16, 4, 17, 50, 51, 52] (by decide +kernel) (by decide +kernel)
set_option maxRecDepth 20000 in
theorem gX5_mate_X5_told : GoodIn wsX5_mate (va_wsS RX5 110 yX5_told wsX5_told) := goodIn_app (goodIn_of _ (by decide +kernel)) ggX5_mate_X5_told
theorem dX5_mate_0 : decode cX5_mate 0 = .ok (.iconst 0, 1) := by decide +kernel
theorem dX5_mate_1 : decode cX5_mate 1 = .ok (.istore_n 1, 1) := by decide +kernel
theorem dX5_mate_2 : decode cX5_mate 2 = .ok (.iload_n 1, 1) := by decide +kernel
theorem dX5_mate_3 : decode cX5_mate 3 = .ok (.sipush 1375, 3) := by decide +kernel
theorem dX5_mate_6 : decode cX5_mate 6 = .ok (.if_icmp .ge 32, 3) := by decide +kernel
theorem dX5_mate_9 : decode cX5_mate 9 = .ok (.aload_n 0, 1) := by decide +kernel
theorem dX5_mate_10 : decode cX5_mate 10 = .ok (.iconst 0, 1) := by decide +kernel
theorem dX5_mate_11 : decode cX5_mate 11 = .ok (.iload_n 1, 1) := by decide +kernel
theorem dX5_mate_12 : decode cX5_mate 12 = .ok (.invokevirtual 94, 3) := by decide +kernel
theorem dX5_mate_15 : decode cX5_mate 15 = .ok (.ifCond .ne 17, 3) := by decide +kernel
theorem dX5_mate_18 : decode cX5_mate 18 = .ok (.aload_n 0, 1) := by decide +kernel
theorem dX5_mate_19 : decode cX5_mate 19 = .ok (.bipush 40, 2) := by decide +kernel
theorem dX5_mate_21 : decode cX5_mate 21 = .ok (.invokevirtual 166, 3) := by decide +kernel
theorem dX5_mate_24 : decode cX5_mate 24 = .ok (.ifCond .eq 8, 3) := by decide +kernel
theorem dX5_mate_27 : decode cX5_mate 27 = .ok (.iload_n 1, 1) := by decide +kernel
theorem dX5_mate_28 : decode cX5_mate 28 = .ok (.invokestatic 110, 3) := by decide +kernel
theorem dX5_mate_31 : decode cX5_mate 31 = .ok (.ireturn, 1) := by decide +kernel
theorem dX5_mate_32 : decode cX5_mate 32 = .ok (.iinc 1 1, 3) := by decide +kernel
theorem dX5_mate_35 : decode cX5_mate 35 = .ok (.goto (-33), 3) := by decide +kernel
theorem dX5_mate_38 : decode cX5_mate 38 = .ok (.sipush (-1005), 3) := by decide +kernel
theorem dX5_mate_41 : decode cX5_mate 41 = .ok (.ireturn, 1) := by decide +kernel
set_option maxRecDepth 20000 in
theorem ggX5_tightest_X5_reason : GoodIn wsX5_tightest wsX5_reason := goodIn_r _ [6, 1, 7, 8, 9, 5, 10, 11, 12, 13, 14, 15, 16, 17, 18, 19, 20, 21, 22, 23, 24, 25, 26, 27, 28, 29, 30, 31, 32, 33, 34, 35, 36, 37, 38, 39, 40, 41, 42, 43, 44, 45, 46, 47, 48, 49, 50, 51, 52, 53, 54, 55, 56, 57, 58, 59, 60, 61, 62, 63, 64, 65, 66, 67, 68, 69, 70, 71, 72, 73, 74, 75, 76, 91, 92, 93, 94, 95, 96, 97, 98] (by decide +kernel) (by decide +kernel)
set_option maxRecDepth 20000 in
theorem gX5_tightest_X5_reason : GoodIn wsX5_tightest (wsV RX5 94 RX5 yX5_reason wsX5_reason) := goodIn_app (goodIn_of _ (by decide +kernel)) ggX5_tightest_X5_reason
set_option maxRecDepth 20000 in
theorem ggX5_tightest_X5_plays : GoodIn wsX5_tightest wsX5_plays := goodIn_r _ [80, 2, 3, 4, 5, 6, 1, 7, 8, 9, 10, 11, 12, 13, 14, 15, 16, 17, 18, 19, 20, 21, 22, 23, 24, 25, 26, 27, 28, 29, 30, 31, 32, 33, 34, 35, 36, 37, 38, 39, 40, 41, 42, 43, 44, 45, 46, 47, 48, 49, 50, 51, 52, 53, 54, 55, 56, 57, 58, 59, 60, 61, 62, 63, 64, 65, 66, 67, 68, 69, 70, 71, 72, 73, 74, 75, 76, 91, 92, 93, 94, 95, 96, 97, 98] (by decide +kernel) (by decide +kernel)
set_option maxRecDepth 20000 in
theorem gX5_tightest_X5_plays : GoodIn wsX5_tightest (wsV RX5 97 RX5 yX5_plays wsX5_plays) := goodIn_app (goodIn_of _ (by decide +kernel)) ggX5_tightest_X5_plays
set_option maxRecDepth 20000 in
theorem ggX5_tightest_X5_worthIn : GoodIn wsX5_tightest wsX5_worthIn := goodIn_r _ [84, 1, 18, 19, 20, 5, 21, 22, 23, 24, 25, 85, 86, 87, 91, 92, 93, 94, 95, 96, 97, 98] (by decide +kernel) (by decide +kernel)
set_option maxRecDepth 20000 in
theorem gX5_tightest_X5_worthIn : GoodIn wsX5_tightest (wsV RX5 172 RX5 yX5_worthIn wsX5_worthIn) := goodIn_app (goodIn_of _ (by decide +kernel)) ggX5_tightest_X5_worthIn
set_option maxRecDepth 20000 in
theorem ggX5_tightest_X5_told : GoodIn wsX5_tightest wsX5_told := goodIn_r _ [90, 15, 16, 5, 17, 50, 51, 52] (by decide +kernel) (by decide +kernel)
set_option maxRecDepth 20000 in
theorem gX5_tightest_X5_told : GoodIn wsX5_tightest (va_wsS RX5 110 yX5_told wsX5_told) := goodIn_app (goodIn_of _ (by decide +kernel)) ggX5_tightest_X5_told
theorem dX5_tightest_0 : decode cX5_tightest 0 = .ok (.sipush (-1005), 3) := by decide +kernel
theorem dX5_tightest_3 : decode cX5_tightest 3 = .ok (.istore_n 1, 1) := by decide +kernel
theorem dX5_tightest_4 : decode cX5_tightest 4 = .ok (.iconst 0, 1) := by decide +kernel
theorem dX5_tightest_5 : decode cX5_tightest 5 = .ok (.istore_n 2, 1) := by decide +kernel
theorem dX5_tightest_6 : decode cX5_tightest 6 = .ok (.iconst 0, 1) := by decide +kernel
theorem dX5_tightest_7 : decode cX5_tightest 7 = .ok (.istore_n 3, 1) := by decide +kernel
theorem dX5_tightest_8 : decode cX5_tightest 8 = .ok (.iconst 0, 1) := by decide +kernel
theorem dX5_tightest_9 : decode cX5_tightest 9 = .ok (.istore 4, 2) := by decide +kernel
theorem dX5_tightest_11 : decode cX5_tightest 11 = .ok (.iload 4, 2) := by decide +kernel
theorem dX5_tightest_13 : decode cX5_tightest 13 = .ok (.sipush 1375, 3) := by decide +kernel
theorem dX5_tightest_16 : decode cX5_tightest 16 = .ok (.if_icmp .ge 113, 3) := by decide +kernel
theorem dX5_tightest_19 : decode cX5_tightest 19 = .ok (.aload_n 0, 1) := by decide +kernel
theorem dX5_tightest_20 : decode cX5_tightest 20 = .ok (.iconst 0, 1) := by decide +kernel
theorem dX5_tightest_21 : decode cX5_tightest 21 = .ok (.iload 4, 2) := by decide +kernel
theorem dX5_tightest_23 : decode cX5_tightest 23 = .ok (.invokevirtual 94, 3) := by decide +kernel
theorem dX5_tightest_26 : decode cX5_tightest 26 = .ok (.ifCond .ne 97, 3) := by decide +kernel
theorem dX5_tightest_29 : decode cX5_tightest 29 = .ok (.aload_n 0, 1) := by decide +kernel
theorem dX5_tightest_30 : decode cX5_tightest 30 = .ok (.bipush 40, 2) := by decide +kernel
theorem dX5_tightest_32 : decode cX5_tightest 32 = .ok (.invokevirtual 97, 3) := by decide +kernel
theorem dX5_tightest_35 : decode cX5_tightest 35 = .ok (.istore 5, 2) := by decide +kernel
theorem dX5_tightest_37 : decode cX5_tightest 37 = .ok (.aload_n 0, 1) := by decide +kernel
theorem dX5_tightest_38 : decode cX5_tightest 38 = .ok (.bipush 40, 2) := by decide +kernel
theorem dX5_tightest_40 : decode cX5_tightest 40 = .ok (.aload_n 0, 1) := by decide +kernel
theorem dX5_tightest_41 : decode cX5_tightest 41 = .ok (.getfield 7, 3) := by decide +kernel
theorem dX5_tightest_44 : decode cX5_tightest 44 = .ok (.bipush 35, 2) := by decide +kernel
theorem dX5_tightest_46 : decode cX5_tightest 46 = .ok (.iaload, 1) := by decide +kernel
theorem dX5_tightest_47 : decode cX5_tightest 47 = .ok (.invokevirtual 172, 3) := by decide +kernel
theorem dX5_tightest_50 : decode cX5_tightest 50 = .ok (.istore 6, 2) := by decide +kernel
theorem dX5_tightest_52 : decode cX5_tightest 52 = .ok (.iload_n 1, 1) := by decide +kernel
theorem dX5_tightest_53 : decode cX5_tightest 53 = .ok (.sipush (-1005), 3) := by decide +kernel
theorem dX5_tightest_56 : decode cX5_tightest 56 = .ok (.if_icmp .eq 21, 3) := by decide +kernel
theorem dX5_tightest_59 : decode cX5_tightest 59 = .ok (.iload 5, 2) := by decide +kernel
theorem dX5_tightest_61 : decode cX5_tightest 61 = .ok (.iload_n 2, 1) := by decide +kernel
theorem dX5_tightest_62 : decode cX5_tightest 62 = .ok (.if_icmp .lt 15, 3) := by decide +kernel
theorem dX5_tightest_65 : decode cX5_tightest 65 = .ok (.iload 5, 2) := by decide +kernel
theorem dX5_tightest_67 : decode cX5_tightest 67 = .ok (.iload_n 2, 1) := by decide +kernel
theorem dX5_tightest_68 : decode cX5_tightest 68 = .ok (.if_icmp .ne 13, 3) := by decide +kernel
theorem dX5_tightest_71 : decode cX5_tightest 71 = .ok (.iload 6, 2) := by decide +kernel
theorem dX5_tightest_73 : decode cX5_tightest 73 = .ok (.iload_n 3, 1) := by decide +kernel
theorem dX5_tightest_74 : decode cX5_tightest 74 = .ok (.if_icmp .le 7, 3) := by decide +kernel
theorem dX5_tightest_77 : decode cX5_tightest 77 = .ok (.iconst 1, 1) := by decide +kernel
theorem dX5_tightest_78 : decode cX5_tightest 78 = .ok (.goto 4, 3) := by decide +kernel
theorem dX5_tightest_81 : decode cX5_tightest 81 = .ok (.iconst 0, 1) := by decide +kernel
theorem dX5_tightest_82 : decode cX5_tightest 82 = .ok (.istore 7, 2) := by decide +kernel
theorem dX5_tightest_84 : decode cX5_tightest 84 = .ok (.iload 7, 2) := by decide +kernel
theorem dX5_tightest_86 : decode cX5_tightest 86 = .ok (.ifCond .eq 11, 3) := by decide +kernel
theorem dX5_tightest_89 : decode cX5_tightest 89 = .ok (.iload 4, 2) := by decide +kernel
theorem dX5_tightest_91 : decode cX5_tightest 91 = .ok (.invokestatic 110, 3) := by decide +kernel
theorem dX5_tightest_94 : decode cX5_tightest 94 = .ok (.goto 4, 3) := by decide +kernel
theorem dX5_tightest_97 : decode cX5_tightest 97 = .ok (.iload_n 1, 1) := by decide +kernel
theorem dX5_tightest_98 : decode cX5_tightest 98 = .ok (.istore_n 1, 1) := by decide +kernel
theorem dX5_tightest_99 : decode cX5_tightest 99 = .ok (.iload 7, 2) := by decide +kernel
theorem dX5_tightest_101 : decode cX5_tightest 101 = .ok (.ifCond .eq 8, 3) := by decide +kernel
theorem dX5_tightest_104 : decode cX5_tightest 104 = .ok (.iload 5, 2) := by decide +kernel
theorem dX5_tightest_106 : decode cX5_tightest 106 = .ok (.goto 4, 3) := by decide +kernel
theorem dX5_tightest_109 : decode cX5_tightest 109 = .ok (.iload_n 2, 1) := by decide +kernel
theorem dX5_tightest_110 : decode cX5_tightest 110 = .ok (.istore_n 2, 1) := by decide +kernel
theorem dX5_tightest_111 : decode cX5_tightest 111 = .ok (.iload 7, 2) := by decide +kernel
theorem dX5_tightest_113 : decode cX5_tightest 113 = .ok (.ifCond .eq 8, 3) := by decide +kernel
theorem dX5_tightest_116 : decode cX5_tightest 116 = .ok (.iload 6, 2) := by decide +kernel
theorem dX5_tightest_118 : decode cX5_tightest 118 = .ok (.goto 4, 3) := by decide +kernel
theorem dX5_tightest_121 : decode cX5_tightest 121 = .ok (.iload_n 3, 1) := by decide +kernel
theorem dX5_tightest_122 : decode cX5_tightest 122 = .ok (.istore_n 3, 1) := by decide +kernel
theorem dX5_tightest_123 : decode cX5_tightest 123 = .ok (.iinc 4 1, 3) := by decide +kernel
theorem dX5_tightest_126 : decode cX5_tightest 126 = .ok (.goto (-115), 3) := by decide +kernel
theorem dX5_tightest_129 : decode cX5_tightest 129 = .ok (.iload_n 1, 1) := by decide +kernel
theorem dX5_tightest_130 : decode cX5_tightest 130 = .ok (.ireturn, 1) := by decide +kernel
