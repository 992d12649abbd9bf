theorem dX5_init_0 : decode cX5_init 0 = .ok (.aload_n 0, 1) := by decide +kernel
theorem dX5_init_1 : decode cX5_init 1 = .ok (.invokespecial 1, 3) := by decide +kernel
theorem dX5_init_4 : decode cX5_init 4 = .ok (.aload_n 0, 1) := by decide +kernel
theorem dX5_init_5 : decode cX5_init 5 = .ok (.sipush 160, 3) := by decide +kernel
theorem dX5_init_8 : decode cX5_init 8 = .ok (.newarray .int, 2) := by decide +kernel
theorem dX5_init_10 : decode cX5_init 10 = .ok (.putfield 7, 3) := by decide +kernel
theorem dX5_init_13 : decode cX5_init 13 = .ok (.aload_n 0, 1) := by decide +kernel
theorem dX5_init_14 : decode cX5_init 14 = .ok (.bipush 40, 2) := by decide +kernel
theorem dX5_init_16 : decode cX5_init 16 = .ok (.newarray .int, 2) := by decide +kernel
theorem dX5_init_18 : decode cX5_init 18 = .ok (.putfield 13, 3) := by decide +kernel
theorem dX5_init_21 : decode cX5_init 21 = .ok (.aload_n 0, 1) := by decide +kernel
theorem dX5_init_22 : decode cX5_init 22 = .ok (.sipush 160, 3) := by decide +kernel
theorem dX5_init_25 : decode cX5_init 25 = .ok (.newarray .int, 2) := by decide +kernel
theorem dX5_init_27 : decode cX5_init 27 = .ok (.putfield 16, 3) := by decide +kernel
theorem dX5_init_30 : decode cX5_init 30 = .ok (.aload_n 0, 1) := by decide +kernel
theorem dX5_init_31 : decode cX5_init 31 = .ok (.bipush 40, 2) := by decide +kernel
theorem dX5_init_33 : decode cX5_init 33 = .ok (.newarray .int, 2) := by decide +kernel
theorem dX5_init_35 : decode cX5_init 35 = .ok (.putfield 19, 3) := by decide +kernel
theorem dX5_init_38 : decode cX5_init 38 = .ok (.aload_n 0, 1) := by decide +kernel
theorem dX5_init_39 : decode cX5_init 39 = .ok (.bipush 60, 2) := by decide +kernel
theorem dX5_init_41 : decode cX5_init 41 = .ok (.newarray .int, 2) := by decide +kernel
theorem dX5_init_43 : decode cX5_init 43 = .ok (.putfield 22, 3) := by decide +kernel
theorem dX5_init_46 : decode cX5_init 46 = .ok (.iconst 0, 1) := by decide +kernel
theorem dX5_init_47 : decode cX5_init 47 = .ok (.istore_n 1, 1) := by decide +kernel
theorem dX5_init_48 : decode cX5_init 48 = .ok (.iload_n 1, 1) := by decide +kernel
theorem dX5_init_49 : decode cX5_init 49 = .ok (.iconst 5, 1) := by decide +kernel
theorem dX5_init_50 : decode cX5_init 50 = .ok (.if_icmp .ge 31, 3) := by decide +kernel
theorem dX5_init_53 : decode cX5_init 53 = .ok (.aload_n 0, 1) := by decide +kernel
theorem dX5_init_54 : decode cX5_init 54 = .ok (.getfield 7, 3) := by decide +kernel
theorem dX5_init_57 : decode cX5_init 57 = .ok (.bipush 20, 2) := by decide +kernel
theorem dX5_init_59 : decode cX5_init 59 = .ok (.iload_n 1, 1) := by decide +kernel
theorem dX5_init_60 : decode cX5_init 60 = .ok (.iadd, 1) := by decide +kernel
theorem dX5_init_61 : decode cX5_init 61 = .ok (.iconst 1, 1) := by decide +kernel
theorem dX5_init_62 : decode cX5_init 62 = .ok (.iload_n 1, 1) := by decide +kernel
theorem dX5_init_63 : decode cX5_init 63 = .ok (.iadd, 1) := by decide +kernel
theorem dX5_init_64 : decode cX5_init 64 = .ok (.iastore, 1) := by decide +kernel
theorem dX5_init_65 : decode cX5_init 65 = .ok (.aload_n 0, 1) := by decide +kernel
theorem dX5_init_66 : decode cX5_init 66 = .ok (.getfield 7, 3) := by decide +kernel
theorem dX5_init_69 : decode cX5_init 69 = .ok (.iload_n 1, 1) := by decide +kernel
theorem dX5_init_70 : decode cX5_init 70 = .ok (.bipush 15, 2) := by decide +kernel
theorem dX5_init_72 : decode cX5_init 72 = .ok (.iload_n 1, 1) := by decide +kernel
theorem dX5_init_73 : decode cX5_init 73 = .ok (.isub, 1) := by decide +kernel
theorem dX5_init_74 : decode cX5_init 74 = .ok (.iastore, 1) := by decide +kernel
theorem dX5_init_75 : decode cX5_init 75 = .ok (.iinc 1 1, 3) := by decide +kernel
theorem dX5_init_78 : decode cX5_init 78 = .ok (.goto (-30), 3) := by decide +kernel
theorem dX5_init_81 : decode cX5_init 81 = .ok (.aload_n 0, 1) := by decide +kernel
theorem dX5_init_82 : decode cX5_init 82 = .ok (.getfield 7, 3) := by decide +kernel
theorem dX5_init_85 : decode cX5_init 85 = .ok (.bipush 15, 2) := by decide +kernel
theorem dX5_init_87 : decode cX5_init 87 = .ok (.bipush 6, 2) := by decide +kernel
theorem dX5_init_89 : decode cX5_init 89 = .ok (.iastore, 1) := by decide +kernel
theorem dX5_init_90 : decode cX5_init 90 = .ok (.aload_n 0, 1) := by decide +kernel
theorem dX5_init_91 : decode cX5_init 91 = .ok (.getfield 7, 3) := by decide +kernel
theorem dX5_init_94 : decode cX5_init 94 = .ok (.bipush 9, 2) := by decide +kernel
theorem dX5_init_96 : decode cX5_init 96 = .ok (.bipush 16, 2) := by decide +kernel
theorem dX5_init_98 : decode cX5_init 98 = .ok (.iastore, 1) := by decide +kernel
theorem dX5_init_99 : decode cX5_init 99 = .ok (.return_, 1) := by decide +kernel
theorem dX5_in_0 : decode cX5_in 0 = .ok (.iload_n 0, 1) := by decide +kernel
theorem dX5_in_1 : decode cX5_in 1 = .ok (.iload_n 1, 1) := by decide +kernel
theorem dX5_in_2 : decode cX5_in 2 = .ok (.if_icmp .lt 12, 3) := by decide +kernel
theorem dX5_in_5 : decode cX5_in 5 = .ok (.iload_n 0, 1) := by decide +kernel
theorem dX5_in_6 : decode cX5_in 6 = .ok (.iload_n 2, 1) := by decide +kernel
theorem dX5_in_7 : decode cX5_in 7 = .ok (.if_icmp .gt 7, 3) := by decide +kernel
theorem dX5_in_10 : decode cX5_in 10 = .ok (.iconst 1, 1) := by decide +kernel
theorem dX5_in_11 : decode cX5_in 11 = .ok (.goto 4, 3) := by decide +kernel
theorem dX5_in_14 : decode cX5_in 14 = .ok (.iconst 0, 1) := by decide +kernel
theorem dX5_in_15 : decode cX5_in 15 = .ok (.ireturn, 1) := by decide +kernel
set_option maxRecDepth 20000 in
theorem ggX5_isSquare_X5_in : GoodIn wsX5_isSquare wsX5_in := goodIn_r _ [4] (by decide +kernel) (by decide +kernel)
set_option maxRecDepth 20000 in
theorem gX5_isSquare_X5_in : GoodIn wsX5_isSquare (va_wsS RX5 25 yX5_in wsX5_in) := goodIn_app (goodIn_of _ (by decide +kernel)) ggX5_isSquare_X5_in
theorem dX5_isSquare_0 : decode cX5_isSquare 0 = .ok (.iload_n 0, 1) := by decide +kernel
theorem dX5_isSquare_1 : decode cX5_isSquare 1 = .ok (.iconst 0, 1) := by decide +kernel
theorem dX5_isSquare_2 : decode cX5_isSquare 2 = .ok (.bipush 24, 2) := by decide +kernel
theorem dX5_isSquare_4 : decode cX5_isSquare 4 = .ok (.invokestatic 25, 3) := by decide +kernel
theorem dX5_isSquare_7 : decode cX5_isSquare 7 = .ok (.ireturn, 1) := by decide +kernel
set_option maxRecDepth 20000 in
theorem ggX5_isSide_X5_in : GoodIn wsX5_isSide wsX5_in := goodIn_r _ [4] (by decide +kernel) (by decide +kernel)
set_option maxRecDepth 20000 in
theorem gX5_isSide_X5_in : GoodIn wsX5_isSide (va_wsS RX5 25 yX5_in wsX5_in) := goodIn_app (goodIn_of _ (by decide +kernel)) ggX5_isSide_X5_in
theorem dX5_isSide_0 : decode cX5_isSide 0 = .ok (.iload_n 0, 1) := by decide +kernel
theorem dX5_isSide_1 : decode cX5_isSide 1 = .ok (.iconst 0, 1) := by decide +kernel
theorem dX5_isSide_2 : decode cX5_isSide 2 = .ok (.iconst 1, 1) := by decide +kernel
theorem dX5_isSide_3 : decode cX5_isSide 3 = .ok (.invokestatic 25, 3) := by decide +kernel
theorem dX5_isSide_6 : decode cX5_isSide 6 = .ok (.ireturn, 1) := by decide +kernel
set_option maxRecDepth 20000 in
theorem ggX5_isInHand_X5_in : GoodIn wsX5_isInHand wsX5_in := goodIn_r _ [4] (by decide +kernel) (by decide +kernel)
set_option maxRecDepth 20000 in
theorem gX5_isInHand_X5_in : GoodIn wsX5_isInHand (va_wsS RX5 25 yX5_in wsX5_in) := goodIn_app (goodIn_of _ (by decide +kernel)) ggX5_isInHand_X5_in
theorem dX5_isInHand_0 : decode cX5_isInHand 0 = .ok (.iload_n 0, 1) := by decide +kernel
theorem dX5_isInHand_1 : decode cX5_isInHand 1 = .ok (.iconst 1, 1) := by decide +kernel
theorem dX5_isInHand_2 : decode cX5_isInHand 2 = .ok (.iconst 5, 1) := by decide +kernel
theorem dX5_isInHand_3 : decode cX5_isInHand 3 = .ok (.invokestatic 25, 3) := by decide +kernel
theorem dX5_isInHand_6 : decode cX5_isInHand 6 = .ok (.ireturn, 1) := by decide +kernel
theorem dX5_remembers_0 : decode cX5_remembers 0 = .ok (.aload_n 0, 1) := by decide +kernel
theorem dX5_remembers_1 : decode cX5_remembers 1 = .ok (.getfield 29, 3) := by decide +kernel
theorem dX5_remembers_4 : decode cX5_remembers 4 = .ok (.iconst 4, 1) := by decide +kernel
theorem dX5_remembers_5 : decode cX5_remembers 5 = .ok (.if_icmp .ne 42, 3) := by decide +kernel
theorem dX5_remembers_8 : decode cX5_remembers 8 = .ok (.iconst 0, 1) := by decide +kernel
theorem dX5_remembers_9 : decode cX5_remembers 9 = .ok (.istore_n 1, 1) := by decide +kernel
theorem dX5_remembers_10 : decode cX5_remembers 10 = .ok (.iload_n 1, 1) := by decide +kernel
theorem dX5_remembers_11 : decode cX5_remembers 11 = .ok (.bipush 120, 2) := by decide +kernel
theorem dX5_remembers_13 : decode cX5_remembers 13 = .ok (.if_icmp .ge 24, 3) := by decide +kernel
theorem dX5_remembers_16 : decode cX5_remembers 16 = .ok (.aload_n 0, 1) := by decide +kernel
theorem dX5_remembers_17 : decode cX5_remembers 17 = .ok (.getfield 16, 3) := by decide +kernel
theorem dX5_remembers_20 : decode cX5_remembers 20 = .ok (.iload_n 1, 1) := by decide +kernel
theorem dX5_remembers_21 : decode cX5_remembers 21 = .ok (.aload_n 0, 1) := by decide +kernel
theorem dX5_remembers_22 : decode cX5_remembers 22 = .ok (.getfield 16, 3) := by decide +kernel
theorem dX5_remembers_25 : decode cX5_remembers 25 = .ok (.bipush 40, 2) := by decide +kernel
theorem dX5_remembers_27 : decode cX5_remembers 27 = .ok (.iload_n 1, 1) := by decide +kernel
theorem dX5_remembers_28 : decode cX5_remembers 28 = .ok (.iadd, 1) := by decide +kernel
theorem dX5_remembers_29 : decode cX5_remembers 29 = .ok (.iaload, 1) := by decide +kernel
theorem dX5_remembers_30 : decode cX5_remembers 30 = .ok (.iastore, 1) := by decide +kernel
theorem dX5_remembers_31 : decode cX5_remembers 31 = .ok (.iinc 1 1, 3) := by decide +kernel
theorem dX5_remembers_34 : decode cX5_remembers 34 = .ok (.goto (-24), 3) := by decide +kernel
theorem dX5_remembers_37 : decode cX5_remembers 37 = .ok (.aload_n 0, 1) := by decide +kernel
theorem dX5_remembers_38 : decode cX5_remembers 38 = .ok (.dup, 1) := by decide +kernel
theorem dX5_remembers_39 : decode cX5_remembers 39 = .ok (.getfield 29, 3) := by decide +kernel
theorem dX5_remembers_42 : decode cX5_remembers 42 = .ok (.iconst 1, 1) := by decide +kernel
theorem dX5_remembers_43 : decode cX5_remembers 43 = .ok (.isub, 1) := by decide +kernel
theorem dX5_remembers_44 : decode cX5_remembers 44 = .ok (.putfield 29, 3) := by decide +kernel
theorem dX5_remembers_47 : decode cX5_remembers 47 = .ok (.iconst 0, 1) := by decide +kernel
theorem dX5_remembers_48 : decode cX5_remembers 48 = .ok (.istore_n 1, 1) := by decide +kernel
theorem dX5_remembers_49 : decode cX5_remembers 49 = .ok (.iload_n 1, 1) := by decide +kernel
theorem dX5_remembers_50 : decode cX5_remembers 50 = .ok (.bipush 40, 2) := by decide +kernel
theorem dX5_remembers_52 : decode cX5_remembers 52 = .ok (.if_icmp .ge 29, 3) := by decide +kernel
theorem dX5_remembers_55 : decode cX5_remembers 55 = .ok (.aload_n 0, 1) := by decide +kernel
theorem dX5_remembers_56 : decode cX5_remembers 56 = .ok (.getfield 16, 3) := by decide +kernel
theorem dX5_remembers_59 : decode cX5_remembers 59 = .ok (.bipush 40, 2) := by decide +kernel
theorem dX5_remembers_61 : decode cX5_remembers 61 = .ok (.aload_n 0, 1) := by decide +kernel
theorem dX5_remembers_62 : decode cX5_remembers 62 = .ok (.getfield 29, 3) := by decide +kernel
theorem dX5_remembers_65 : decode cX5_remembers 65 = .ok (.imul, 1) := by decide +kernel
theorem dX5_remembers_66 : decode cX5_remembers 66 = .ok (.iload_n 1, 1) := by decide +kernel
theorem dX5_remembers_67 : decode cX5_remembers 67 = .ok (.iadd, 1) := by decide +kernel
theorem dX5_remembers_68 : decode cX5_remembers 68 = .ok (.aload_n 0, 1) := by decide +kernel
theorem dX5_remembers_69 : decode cX5_remembers 69 = .ok (.getfield 7, 3) := by decide +kernel
theorem dX5_remembers_72 : decode cX5_remembers 72 = .ok (.iload_n 1, 1) := by decide +kernel
theorem dX5_remembers_73 : decode cX5_remembers 73 = .ok (.iaload, 1) := by decide +kernel
theorem dX5_remembers_74 : decode cX5_remembers 74 = .ok (.iastore, 1) := by decide +kernel
theorem dX5_remembers_75 : decode cX5_remembers 75 = .ok (.iinc 1 1, 3) := by decide +kernel
theorem dX5_remembers_78 : decode cX5_remembers 78 = .ok (.goto (-29), 3) := by decide +kernel
theorem dX5_remembers_81 : decode cX5_remembers 81 = .ok (.aload_n 0, 1) := by decide +kernel
theorem dX5_remembers_82 : decode cX5_remembers 82 = .ok (.dup, 1) := by decide +kernel
theorem dX5_remembers_83 : decode cX5_remembers 83 = .ok (.getfield 29, 3) := by decide +kernel
theorem dX5_remembers_86 : decode cX5_remembers 86 = .ok (.iconst 1, 1) := by decide +kernel
theorem dX5_remembers_87 : decode cX5_remembers 87 = .ok (.iadd, 1) := by decide +kernel
theorem dX5_remembers_88 : decode cX5_remembers 88 = .ok (.putfield 29, 3) := by decide +kernel
theorem dX5_remembers_91 : decode cX5_remembers 91 = .ok (.return_, 1) := by decide +kernel
theorem dX5_manAt_0 : decode cX5_manAt 0 = .ok (.aload_n 0, 1) := by decide +kernel
theorem dX5_manAt_1 : decode cX5_manAt 1 = .ok (.getfield 7, 3) := by decide +kernel
theorem dX5_manAt_4 : decode cX5_manAt 4 = .ok (.iload_n 1, 1) := by decide +kernel
theorem dX5_manAt_5 : decode cX5_manAt 5 = .ok (.iload_n 2, 1) := by decide +kernel
theorem dX5_manAt_6 : decode cX5_manAt 6 = .ok (.iadd, 1) := by decide +kernel
theorem dX5_manAt_7 : decode cX5_manAt 7 = .ok (.iaload, 1) := by decide +kernel
theorem dX5_manAt_8 : decode cX5_manAt 8 = .ok (.iconst 1, 1) := by decide +kernel
theorem dX5_manAt_9 : decode cX5_manAt 9 = .ok (.isub, 1) := by decide +kernel
theorem dX5_manAt_10 : decode cX5_manAt 10 = .ok (.ireturn, 1) := by decide +kernel
set_option maxRecDepth 20000 in
theorem ggX5_sideOn_X5_manAt : GoodIn wsX5_sideOn wsX5_manAt := goodIn_r _ [6, 1, 7, 8, 9, 10, 11, 12, 13, 14] (by decide +kernel) (by decide +kernel)
set_option maxRecDepth 20000 in
theorem gX5_sideOn_X5_manAt : GoodIn wsX5_sideOn (wsV RX5 33 RX5 yX5_manAt wsX5_manAt) := goodIn_app (goodIn_of _ (by decide +kernel)) ggX5_sideOn_X5_manAt
theorem dX5_sideOn_0 : decode cX5_sideOn 0 = .ok (.aload_n 0, 1) := by decide +kernel
theorem dX5_sideOn_1 : decode cX5_sideOn 1 = .ok (.getfield 7, 3) := by decide +kernel
theorem dX5_sideOn_4 : decode cX5_sideOn 4 = .ok (.iload_n 1, 1) := by decide +kernel
theorem dX5_sideOn_5 : decode cX5_sideOn 5 = .ok (.iload_n 2, 1) := by decide +kernel
theorem dX5_sideOn_6 : decode cX5_sideOn 6 = .ok (.iadd, 1) := by decide +kernel
theorem dX5_sideOn_7 : decode cX5_sideOn 7 = .ok (.iaload, 1) := by decide +kernel
theorem dX5_sideOn_8 : decode cX5_sideOn 8 = .ok (.ifCond .ne 7, 3) := by decide +kernel
theorem dX5_sideOn_11 : decode cX5_sideOn 11 = .ok (.iconst (-1), 1) := by decide +kernel
theorem dX5_sideOn_12 : decode cX5_sideOn 12 = .ok (.goto 12, 3) := by decide +kernel
theorem dX5_sideOn_15 : decode cX5_sideOn 15 = .ok (.aload_n 0, 1) := by decide +kernel
theorem dX5_sideOn_16 : decode cX5_sideOn 16 = .ok (.iload_n 1, 1) := by decide +kernel
theorem dX5_sideOn_17 : decode cX5_sideOn 17 = .ok (.iload_n 2, 1) := by decide +kernel
theorem dX5_sideOn_18 : decode cX5_sideOn 18 = .ok (.invokevirtual 33, 3) := by decide +kernel
theorem dX5_sideOn_21 : decode cX5_sideOn 21 = .ok (.bipush 10, 2) := by decide +kernel
theorem dX5_sideOn_23 : decode cX5_sideOn 23 = .ok (.idiv, 1) := by decide +kernel
theorem dX5_sideOn_24 : decode cX5_sideOn 24 = .ok (.ireturn, 1) := by decide +kernel
theorem dX5_lastRow_0 : decode cX5_lastRow 0 = .ok (.iload_n 0, 1) := by decide +kernel
theorem dX5_lastRow_1 : decode cX5_lastRow 1 = .ok (.ifCond .ne 7, 3) := by decide +kernel
theorem dX5_lastRow_4 : decode cX5_lastRow 4 = .ok (.iconst 0, 1) := by decide +kernel
theorem dX5_lastRow_5 : decode cX5_lastRow 5 = .ok (.goto 4, 3) := by decide +kernel
theorem dX5_lastRow_8 : decode cX5_lastRow 8 = .ok (.iconst 4, 1) := by decide +kernel
theorem dX5_lastRow_9 : decode cX5_lastRow 9 = .ok (.ireturn, 1) := by decide +kernel
theorem dX5_isStep_0 : decode cX5_isStep 0 = .ok (.iload_n 0, 1) := by decide +kernel
theorem dX5_isStep_1 : decode cX5_isStep 1 = .ok (.tableswitch 116 0 8 #[51, 116, 53, 116, 116, 73, 116, 88, 102], 51) := by decide +kernel
theorem dX5_isStep_52 : decode cX5_isStep 52 = .ok (.iconst 1, 1) := by decide +kernel
theorem dX5_isStep_53 : decode cX5_isStep 53 = .ok (.ireturn, 1) := by decide +kernel
theorem dX5_isStep_54 : decode cX5_isStep 54 = .ok (.iload_n 1, 1) := by decide +kernel
theorem dX5_isStep_55 : decode cX5_isStep 55 = .ok (.iconst 1, 1) := by decide +kernel
theorem dX5_isStep_56 : decode cX5_isStep 56 = .ok (.if_icmp .eq 12, 3) := by decide +kernel
theorem dX5_isStep_59 : decode cX5_isStep 59 = .ok (.iload_n 1, 1) := by decide +kernel
theorem dX5_isStep_60 : decode cX5_isStep 60 = .ok (.iconst (-1), 1) := by decide +kernel
theorem dX5_isStep_61 : decode cX5_isStep 61 = .ok (.if_icmp .ne 11, 3) := by decide +kernel
theorem dX5_isStep_64 : decode cX5_isStep 64 = .ok (.iload_n 2, 1) := by decide +kernel
theorem dX5_isStep_65 : decode cX5_isStep 65 = .ok (.ifCond .eq 7, 3) := by decide +kernel
theorem dX5_isStep_68 : decode cX5_isStep 68 = .ok (.iconst 1, 1) := by decide +kernel
theorem dX5_isStep_69 : decode cX5_isStep 69 = .ok (.goto 4, 3) := by decide +kernel
theorem dX5_isStep_72 : decode cX5_isStep 72 = .ok (.iconst 0, 1) := by decide +kernel
theorem dX5_isStep_73 : decode cX5_isStep 73 = .ok (.ireturn, 1) := by decide +kernel
theorem dX5_isStep_74 : decode cX5_isStep 74 = .ok (.iload_n 1, 1) := by decide +kernel
theorem dX5_isStep_75 : decode cX5_isStep 75 = .ok (.iconst 1, 1) := by decide +kernel
theorem dX5_isStep_76 : decode cX5_isStep 76 = .ok (.if_icmp .ne 11, 3) := by decide +kernel
theorem dX5_isStep_79 : decode cX5_isStep 79 = .ok (.iload_n 2, 1) := by decide +kernel
theorem dX5_isStep_80 : decode cX5_isStep 80 = .ok (.ifCond .ne 7, 3) := by decide +kernel
theorem dX5_isStep_83 : decode cX5_isStep 83 = .ok (.iconst 1, 1) := by decide +kernel
theorem dX5_isStep_84 : decode cX5_isStep 84 = .ok (.goto 4, 3) := by decide +kernel
theorem dX5_isStep_87 : decode cX5_isStep 87 = .ok (.iconst 0, 1) := by decide +kernel
theorem dX5_isStep_88 : decode cX5_isStep 88 = .ok (.ireturn, 1) := by decide +kernel
theorem dX5_isStep_89 : decode cX5_isStep 89 = .ok (.iload_n 1, 1) := by decide +kernel
theorem dX5_isStep_90 : decode cX5_isStep 90 = .ok (.ifCond .eq 7, 3) := by decide +kernel
theorem dX5_isStep_93 : decode cX5_isStep 93 = .ok (.iload_n 2, 1) := by decide +kernel
theorem dX5_isStep_94 : decode cX5_isStep 94 = .ok (.ifCond .ne 7, 3) := by decide +kernel
theorem dX5_isStep_97 : decode cX5_isStep 97 = .ok (.iconst 1, 1) := by decide +kernel
theorem dX5_isStep_98 : decode cX5_isStep 98 = .ok (.goto 4, 3) := by decide +kernel
theorem dX5_isStep_101 : decode cX5_isStep 101 = .ok (.iconst 0, 1) := by decide +kernel
theorem dX5_isStep_102 : decode cX5_isStep 102 = .ok (.ireturn, 1) := by decide +kernel
theorem dX5_isStep_103 : decode cX5_isStep 103 = .ok (.iload_n 1, 1) := by decide +kernel
theorem dX5_isStep_104 : decode cX5_isStep 104 = .ok (.ifCond .eq 11, 3) := by decide +kernel
theorem dX5_isStep_107 : decode cX5_isStep 107 = .ok (.iload_n 2, 1) := by decide +kernel
theorem dX5_isStep_108 : decode cX5_isStep 108 = .ok (.ifCond .eq 7, 3) := by decide +kernel
theorem dX5_isStep_111 : decode cX5_isStep 111 = .ok (.iconst 1, 1) := by decide +kernel
theorem dX5_isStep_112 : decode cX5_isStep 112 = .ok (.goto 4, 3) := by decide +kernel
theorem dX5_isStep_115 : decode cX5_isStep 115 = .ok (.iconst 0, 1) := by decide +kernel
theorem dX5_isStep_116 : decode cX5_isStep 116 = .ok (.ireturn, 1) := by decide +kernel
theorem dX5_isStep_117 : decode cX5_isStep 117 = .ok (.iload_n 0, 1) := by decide +kernel
theorem dX5_isStep_118 : decode cX5_isStep 118 = .ok (.iconst 3, 1) := by decide +kernel
theorem dX5_isStep_119 : decode cX5_isStep 119 = .ok (.if_icmp .eq 21, 3) := by decide +kernel
theorem dX5_isStep_122 : decode cX5_isStep 122 = .ok (.iload_n 0, 1) := by decide +kernel
theorem dX5_isStep_123 : decode cX5_isStep 123 = .ok (.iconst 4, 1) := by decide +kernel
theorem dX5_isStep_124 : decode cX5_isStep 124 = .ok (.if_icmp .eq 16, 3) := by decide +kernel
theorem dX5_isStep_127 : decode cX5_isStep 127 = .ok (.iload_n 1, 1) := by decide +kernel
theorem dX5_isStep_128 : decode cX5_isStep 128 = .ok (.iconst (-1), 1) := by decide +kernel
theorem dX5_isStep_129 : decode cX5_isStep 129 = .ok (.if_icmp .ne 7, 3) := by decide +kernel
theorem dX5_isStep_132 : decode cX5_isStep 132 = .ok (.iload_n 2, 1) := by decide +kernel
theorem dX5_isStep_133 : decode cX5_isStep 133 = .ok (.ifCond .ne 7, 3) := by decide +kernel
theorem dX5_isStep_136 : decode cX5_isStep 136 = .ok (.iconst 1, 1) := by decide +kernel
theorem dX5_isStep_137 : decode cX5_isStep 137 = .ok (.goto 4, 3) := by decide +kernel
theorem dX5_isStep_140 : decode cX5_isStep 140 = .ok (.iconst 0, 1) := by decide +kernel
theorem dX5_isStep_141 : decode cX5_isStep 141 = .ok (.ireturn, 1) := by decide +kernel
theorem dX5_isLine_0 : decode cX5_isLine 0 = .ok (.iload_n 1, 1) := by decide +kernel
theorem dX5_isLine_1 : decode cX5_isLine 1 = .ok (.ifCond .eq 11, 3) := by decide +kernel
theorem dX5_isLine_4 : decode cX5_isLine 4 = .ok (.iload_n 2, 1) := by decide +kernel
theorem dX5_isLine_5 : decode cX5_isLine 5 = .ok (.ifCond .eq 7, 3) := by decide +kernel
theorem dX5_isLine_8 : decode cX5_isLine 8 = .ok (.iconst 1, 1) := by decide +kernel
theorem dX5_isLine_9 : decode cX5_isLine 9 = .ok (.goto 4, 3) := by decide +kernel
theorem dX5_isLine_12 : decode cX5_isLine 12 = .ok (.iconst 0, 1) := by decide +kernel
theorem dX5_isLine_13 : decode cX5_isLine 13 = .ok (.istore_n 3, 1) := by decide +kernel
theorem dX5_isLine_14 : decode cX5_isLine 14 = .ok (.iload_n 3, 1) := by decide +kernel
theorem dX5_isLine_15 : decode cX5_isLine 15 = .ok (.ifCond .eq 22, 3) := by decide +kernel
theorem dX5_isLine_18 : decode cX5_isLine 18 = .ok (.iload_n 0, 1) := by decide +kernel
theorem dX5_isLine_19 : decode cX5_isLine 19 = .ok (.iconst 3, 1) := by decide +kernel
theorem dX5_isLine_20 : decode cX5_isLine 20 = .ok (.if_icmp .eq 9, 3) := by decide +kernel
theorem dX5_isLine_23 : decode cX5_isLine 23 = .ok (.iload_n 0, 1) := by decide +kernel
theorem dX5_isLine_24 : decode cX5_isLine 24 = .ok (.bipush 7, 2) := by decide +kernel
theorem dX5_isLine_26 : decode cX5_isLine 26 = .ok (.if_icmp .ne 7, 3) := by decide +kernel
theorem dX5_isLine_29 : decode cX5_isLine 29 = .ok (.iconst 1, 1) := by decide +kernel
theorem dX5_isLine_30 : decode cX5_isLine 30 = .ok (.goto 23, 3) := by decide +kernel
theorem dX5_isLine_33 : decode cX5_isLine 33 = .ok (.iconst 0, 1) := by decide +kernel
theorem dX5_isLine_34 : decode cX5_isLine 34 = .ok (.goto 19, 3) := by decide +kernel
theorem dX5_isLine_37 : decode cX5_isLine 37 = .ok (.iload_n 0, 1) := by decide +kernel
theorem dX5_isLine_38 : decode cX5_isLine 38 = .ok (.iconst 4, 1) := by decide +kernel
theorem dX5_isLine_39 : decode cX5_isLine 39 = .ok (.if_icmp .eq 9, 3) := by decide +kernel
theorem dX5_isLine_42 : decode cX5_isLine 42 = .ok (.iload_n 0, 1) := by decide +kernel
theorem dX5_isLine_43 : decode cX5_isLine 43 = .ok (.bipush 8, 2) := by decide +kernel
theorem dX5_isLine_45 : decode cX5_isLine 45 = .ok (.if_icmp .ne 7, 3) := by decide +kernel
theorem dX5_isLine_48 : decode cX5_isLine 48 = .ok (.iconst 1, 1) := by decide +kernel
theorem dX5_isLine_49 : decode cX5_isLine 49 = .ok (.goto 4, 3) := by decide +kernel
theorem dX5_isLine_52 : decode cX5_isLine 52 = .ok (.iconst 0, 1) := by decide +kernel
theorem dX5_isLine_53 : decode cX5_isLine 53 = .ok (.ireturn, 1) := by decide +kernel
set_option maxRecDepth 20000 in
theorem ggX5_ray_X5_manAt : GoodIn wsX5_ray wsX5_manAt := goodIn_r _ [6, 1, 16, 17, 18, 19, 20, 21, 22, 23] (by decide +kernel) (by decide +kernel)
set_option maxRecDepth 20000 in
theorem gX5_ray_X5_manAt : GoodIn wsX5_ray (wsV RX5 33 RX5 yX5_manAt wsX5_manAt) := goodIn_app (goodIn_of _ (by decide +kernel)) ggX5_ray_X5_manAt
set_option maxRecDepth 20000 in
theorem ggX5_ray_X5_isLine : GoodIn wsX5_ray wsX5_isLine := goodIn_r _ [9] (by decide +kernel) (by decide +kernel)
set_option maxRecDepth 20000 in
theorem gX5_ray_X5_isLine : GoodIn wsX5_ray (va_wsS RX5 37 yX5_isLine wsX5_isLine) := goodIn_app (goodIn_of _ (by decide +kernel)) ggX5_ray_X5_isLine
set_option maxRecDepth 20000 in
theorem ggX5_ray_X5_isStep : GoodIn wsX5_ray wsX5_isStep := goodIn_r _ [12] (by decide +kernel) (by decide +kernel)
set_option maxRecDepth 20000 in
theorem gX5_ray_X5_isStep : GoodIn wsX5_ray (va_wsS RX5 40 yX5_isStep wsX5_isStep) := goodIn_app (goodIn_of _ (by decide +kernel)) ggX5_ray_X5_isStep
set_option maxRecDepth 20000 in
theorem ggX5_ray_X5_in : GoodIn wsX5_ray wsX5_in := goodIn_r _ [15] (by decide +kernel) (by decide +kernel)
set_option maxRecDepth 20000 in
theorem gX5_ray_X5_in : GoodIn wsX5_ray (va_wsS RX5 25 yX5_in wsX5_in) := goodIn_app (goodIn_of _ (by decide +kernel)) ggX5_ray_X5_in
theorem dX5_ray_0 : decode cX5_ray 0 = .ok (.aload_n 0, 1) := by decide +kernel
theorem dX5_ray_1 : decode cX5_ray 1 = .ok (.iload_n 1, 1) := by decide +kernel
theorem dX5_ray_2 : decode cX5_ray 2 = .ok (.iload_n 2, 1) := by decide +kernel
theorem dX5_ray_3 : decode cX5_ray 3 = .ok (.invokevirtual 33, 3) := by decide +kernel
theorem dX5_ray_6 : decode cX5_ray 6 = .ok (.istore 5, 2) := by decide +kernel
theorem dX5_ray_8 : decode cX5_ray 8 = .ok (.iload 5, 2) := by decide +kernel
theorem dX5_ray_10 : decode cX5_ray 10 = .ok (.bipush 10, 2) := by decide +kernel
theorem dX5_ray_12 : decode cX5_ray 12 = .ok (.idiv, 1) := by decide +kernel
theorem dX5_ray_13 : decode cX5_ray 13 = .ok (.ifCond .ne 8, 3) := by decide +kernel
theorem dX5_ray_16 : decode cX5_ray 16 = .ok (.iload_n 3, 1) := by decide +kernel
theorem dX5_ray_17 : decode cX5_ray 17 = .ok (.ineg, 1) := by decide +kernel
theorem dX5_ray_18 : decode cX5_ray 18 = .ok (.goto 4, 3) := by decide +kernel
theorem dX5_ray_21 : decode cX5_ray 21 = .ok (.iload_n 3, 1) := by decide +kernel
theorem dX5_ray_22 : decode cX5_ray 22 = .ok (.istore 6, 2) := by decide +kernel
theorem dX5_ray_24 : decode cX5_ray 24 = .ok (.iload 5, 2) := by decide +kernel
theorem dX5_ray_26 : decode cX5_ray 26 = .ok (.bipush 10, 2) := by decide +kernel
theorem dX5_ray_28 : decode cX5_ray 28 = .ok (.irem, 1) := by decide +kernel
theorem dX5_ray_29 : decode cX5_ray 29 = .ok (.iload 6, 2) := by decide +kernel
theorem dX5_ray_31 : decode cX5_ray 31 = .ok (.iload 4, 2) := by decide +kernel
theorem dX5_ray_33 : decode cX5_ray 33 = .ok (.invokestatic 37, 3) := by decide +kernel
theorem dX5_ray_36 : decode cX5_ray 36 = .ok (.istore 7, 2) := by decide +kernel
theorem dX5_ray_38 : decode cX5_ray 38 = .ok (.iload 7, 2) := by decide +kernel
theorem dX5_ray_40 : decode cX5_ray 40 = .ok (.ifCond .eq 7, 3) := by decide +kernel
theorem dX5_ray_43 : decode cX5_ray 43 = .ok (.iconst 4, 1) := by decide +kernel
theorem dX5_ray_44 : decode cX5_ray 44 = .ok (.goto 23, 3) := by decide +kernel
theorem dX5_ray_47 : decode cX5_ray 47 = .ok (.iload 5, 2) := by decide +kernel
theorem dX5_ray_49 : decode cX5_ray 49 = .ok (.bipush 10, 2) := by decide +kernel
theorem dX5_ray_51 : decode cX5_ray 51 = .ok (.irem, 1) := by decide +kernel
theorem dX5_ray_52 : decode cX5_ray 52 = .ok (.iload 6, 2) := by decide +kernel
theorem dX5_ray_54 : decode cX5_ray 54 = .ok (.iload 4, 2) := by decide +kernel
theorem dX5_ray_56 : decode cX5_ray 56 = .ok (.invokestatic 40, 3) := by decide +kernel
theorem dX5_ray_59 : decode cX5_ray 59 = .ok (.ifCond .eq 7, 3) := by decide +kernel
theorem dX5_ray_62 : decode cX5_ray 62 = .ok (.iconst 1, 1) := by decide +kernel
theorem dX5_ray_63 : decode cX5_ray 63 = .ok (.goto 4, 3) := by decide +kernel
theorem dX5_ray_66 : decode cX5_ray 66 = .ok (.iconst 0, 1) := by decide +kernel
theorem dX5_ray_67 : decode cX5_ray 67 = .ok (.istore 8, 2) := by decide +kernel
theorem dX5_ray_69 : decode cX5_ray 69 = .ok (.iconst 0, 1) := by decide +kernel
theorem dX5_ray_70 : decode cX5_ray 70 = .ok (.istore 9, 2) := by decide +kernel
theorem dX5_ray_72 : decode cX5_ray 72 = .ok (.iload_n 2, 1) := by decide +kernel
theorem dX5_ray_73 : decode cX5_ray 73 = .ok (.iconst 5, 1) := by decide +kernel
theorem dX5_ray_74 : decode cX5_ray 74 = .ok (.idiv, 1) := by decide +kernel
theorem dX5_ray_75 : decode cX5_ray 75 = .ok (.iload_n 3, 1) := by decide +kernel
theorem dX5_ray_76 : decode cX5_ray 76 = .ok (.iadd, 1) := by decide +kernel
theorem dX5_ray_77 : decode cX5_ray 77 = .ok (.istore 10, 2) := by decide +kernel
theorem dX5_ray_79 : decode cX5_ray 79 = .ok (.iload_n 2, 1) := by decide +kernel
theorem dX5_ray_80 : decode cX5_ray 80 = .ok (.iconst 5, 1) := by decide +kernel
theorem dX5_ray_81 : decode cX5_ray 81 = .ok (.irem, 1) := by decide +kernel
theorem dX5_ray_82 : decode cX5_ray 82 = .ok (.iload 4, 2) := by decide +kernel
theorem dX5_ray_84 : decode cX5_ray 84 = .ok (.iadd, 1) := by decide +kernel
theorem dX5_ray_85 : decode cX5_ray 85 = .ok (.istore 11, 2) := by decide +kernel
theorem dX5_ray_87 : decode cX5_ray 87 = .ok (.iconst 0, 1) := by decide +kernel
theorem dX5_ray_88 : decode cX5_ray 88 = .ok (.istore 12, 2) := by decide +kernel
theorem dX5_ray_90 : decode cX5_ray 90 = .ok (.iload 12, 2) := by decide +kernel
theorem dX5_ray_92 : decode cX5_ray 92 = .ok (.iload 8, 2) := by decide +kernel
theorem dX5_ray_94 : decode cX5_ray 94 = .ok (.if_icmp .ge 82, 3) := by decide +kernel
theorem dX5_ray_97 : decode cX5_ray 97 = .ok (.iload 10, 2) := by decide +kernel
theorem dX5_ray_99 : decode cX5_ray 99 = .ok (.iconst 0, 1) := by decide +kernel
theorem dX5_ray_100 : decode cX5_ray 100 = .ok (.iconst 4, 1) := by decide +kernel
theorem dX5_ray_101 : decode cX5_ray 101 = .ok (.invokestatic 25, 3) := by decide +kernel
theorem dX5_ray_104 : decode cX5_ray 104 = .ok (.ifCond .eq 72, 3) := by decide +kernel
theorem dX5_ray_107 : decode cX5_ray 107 = .ok (.iload 11, 2) := by decide +kernel
theorem dX5_ray_109 : decode cX5_ray 109 = .ok (.iconst 0, 1) := by decide +kernel
theorem dX5_ray_110 : decode cX5_ray 110 = .ok (.iconst 4, 1) := by decide +kernel
theorem dX5_ray_111 : decode cX5_ray 111 = .ok (.invokestatic 25, 3) := by decide +kernel
theorem dX5_ray_114 : decode cX5_ray 114 = .ok (.ifCond .eq 62, 3) := by decide +kernel
theorem dX5_ray_117 : decode cX5_ray 117 = .ok (.iload 9, 2) := by decide +kernel
theorem dX5_ray_119 : decode cX5_ray 119 = .ok (.iconst 1, 1) := by decide +kernel
theorem dX5_ray_120 : decode cX5_ray 120 = .ok (.iconst 5, 1) := by decide +kernel
theorem dX5_ray_121 : decode cX5_ray 121 = .ok (.iload 10, 2) := by decide +kernel
theorem dX5_ray_123 : decode cX5_ray 123 = .ok (.imul, 1) := by decide +kernel
theorem dX5_ray_124 : decode cX5_ray 124 = .ok (.iload 11, 2) := by decide +kernel
theorem dX5_ray_126 : decode cX5_ray 126 = .ok (.iadd, 1) := by decide +kernel
theorem dX5_ray_127 : decode cX5_ray 127 = .ok (.ishl, 1) := by decide +kernel
theorem dX5_ray_128 : decode cX5_ray 128 = .ok (.ior, 1) := by decide +kernel
theorem dX5_ray_129 : decode cX5_ray 129 = .ok (.istore 9, 2) := by decide +kernel
theorem dX5_ray_131 : decode cX5_ray 131 = .ok (.aload_n 0, 1) := by decide +kernel
theorem dX5_ray_132 : decode cX5_ray 132 = .ok (.getfield 7, 3) := by decide +kernel
theorem dX5_ray_135 : decode cX5_ray 135 = .ok (.iload_n 1, 1) := by decide +kernel
theorem dX5_ray_136 : decode cX5_ray 136 = .ok (.iconst 5, 1) := by decide +kernel
theorem dX5_ray_137 : decode cX5_ray 137 = .ok (.iload 10, 2) := by decide +kernel
theorem dX5_ray_139 : decode cX5_ray 139 = .ok (.imul, 1) := by decide +kernel
theorem dX5_ray_140 : decode cX5_ray 140 = .ok (.iadd, 1) := by decide +kernel
theorem dX5_ray_141 : decode cX5_ray 141 = .ok (.iload 11, 2) := by decide +kernel
theorem dX5_ray_143 : decode cX5_ray 143 = .ok (.iadd, 1) := by decide +kernel
theorem dX5_ray_144 : decode cX5_ray 144 = .ok (.iaload, 1) := by decide +kernel
theorem dX5_ray_145 : decode cX5_ray 145 = .ok (.ifCond .ne 8, 3) := by decide +kernel
theorem dX5_ray_148 : decode cX5_ray 148 = .ok (.iload 12, 2) := by decide +kernel
theorem dX5_ray_150 : decode cX5_ray 150 = .ok (.goto 5, 3) := by decide +kernel
theorem dX5_ray_153 : decode cX5_ray 153 = .ok (.iload 8, 2) := by decide +kernel
theorem dX5_ray_155 : decode cX5_ray 155 = .ok (.istore 12, 2) := by decide +kernel
theorem dX5_ray_157 : decode cX5_ray 157 = .ok (.iload 10, 2) := by decide +kernel
theorem dX5_ray_159 : decode cX5_ray 159 = .ok (.iload_n 3, 1) := by decide +kernel
theorem dX5_ray_160 : decode cX5_ray 160 = .ok (.iadd, 1) := by decide +kernel
theorem dX5_ray_161 : decode cX5_ray 161 = .ok (.istore 10, 2) := by decide +kernel
theorem dX5_ray_163 : decode cX5_ray 163 = .ok (.iload 11, 2) := by decide +kernel
theorem dX5_ray_165 : decode cX5_ray 165 = .ok (.iload 4, 2) := by decide +kernel
theorem dX5_ray_167 : decode cX5_ray 167 = .ok (.iadd, 1) := by decide +kernel
theorem dX5_ray_168 : decode cX5_ray 168 = .ok (.istore 11, 2) := by decide +kernel
theorem dX5_ray_170 : decode cX5_ray 170 = .ok (.iinc 12 1, 3) := by decide +kernel
theorem dX5_ray_173 : decode cX5_ray 173 = .ok (.goto (-83), 3) := by decide +kernel
theorem dX5_ray_176 : decode cX5_ray 176 = .ok (.iload 9, 2) := by decide +kernel
theorem dX5_ray_178 : decode cX5_ray 178 = .ok (.ireturn, 1) := by decide +kernel
set_option maxRecDepth 20000 in
theorem ggX5_attacksOf_X5_ray : GoodIn wsX5_attacksOf wsX5_ray := goodIn_r _ [6, 1, 7, 8, 9, 5, 10, 11, 12, 13, 14, 15, 16, 17, 18, 19, 20, 21, 22, 23, 24, 25, 26, 27] (by decide +kernel) (by decide +kernel)
set_option maxRecDepth 20000 in
theorem gX5_attacksOf_X5_ray : GoodIn wsX5_attacksOf (wsV RX5 43 RX5 yX5_ray wsX5_ray) := goodIn_app (goodIn_of _ (by decide +kernel)) ggX5_attacksOf_X5_ray
theorem dX5_attacksOf_0 : decode cX5_attacksOf 0 = .ok (.iconst 0, 1) := by decide +kernel
theorem dX5_attacksOf_1 : decode cX5_attacksOf 1 = .ok (.istore_n 3, 1) := by decide +kernel
theorem dX5_attacksOf_2 : decode cX5_attacksOf 2 = .ok (.iconst 0, 1) := by decide +kernel
theorem dX5_attacksOf_3 : decode cX5_attacksOf 3 = .ok (.istore 4, 2) := by decide +kernel
theorem dX5_attacksOf_5 : decode cX5_attacksOf 5 = .ok (.iload 4, 2) := by decide +kernel
theorem dX5_attacksOf_7 : decode cX5_attacksOf 7 = .ok (.bipush 9, 2) := by decide +kernel
theorem dX5_attacksOf_9 : decode cX5_attacksOf 9 = .ok (.if_icmp .ge 51, 3) := by decide +kernel
theorem dX5_attacksOf_12 : decode cX5_attacksOf 12 = .ok (.aload_n 0, 1) := by decide +kernel
theorem dX5_attacksOf_13 : decode cX5_attacksOf 13 = .ok (.getfield 7, 3) := by decide +kernel
theorem dX5_attacksOf_16 : decode cX5_attacksOf 16 = .ok (.iload_n 1, 1) := by decide +kernel
theorem dX5_attacksOf_17 : decode cX5_attacksOf 17 = .ok (.iload_n 2, 1) := by decide +kernel
theorem dX5_attacksOf_18 : decode cX5_attacksOf 18 = .ok (.iadd, 1) := by decide +kernel
theorem dX5_attacksOf_19 : decode cX5_attacksOf 19 = .ok (.iaload, 1) := by decide +kernel
theorem dX5_attacksOf_20 : decode cX5_attacksOf 20 = .ok (.ifCond .le 40, 3) := by decide +kernel
theorem dX5_attacksOf_23 : decode cX5_attacksOf 23 = .ok (.iload_n 3, 1) := by decide +kernel
theorem dX5_attacksOf_24 : decode cX5_attacksOf 24 = .ok (.iload 4, 2) := by decide +kernel
theorem dX5_attacksOf_26 : decode cX5_attacksOf 26 = .ok (.iconst 4, 1) := by decide +kernel
theorem dX5_attacksOf_27 : decode cX5_attacksOf 27 = .ok (.if_icmp .ne 7, 3) := by decide +kernel
theorem dX5_attacksOf_30 : decode cX5_attacksOf 30 = .ok (.iconst 0, 1) := by decide +kernel
theorem dX5_attacksOf_31 : decode cX5_attacksOf 31 = .ok (.goto 21, 3) := by decide +kernel
theorem dX5_attacksOf_34 : decode cX5_attacksOf 34 = .ok (.aload_n 0, 1) := by decide +kernel
theorem dX5_attacksOf_35 : decode cX5_attacksOf 35 = .ok (.iload_n 1, 1) := by decide +kernel
theorem dX5_attacksOf_36 : decode cX5_attacksOf 36 = .ok (.iload_n 2, 1) := by decide +kernel
theorem dX5_attacksOf_37 : decode cX5_attacksOf 37 = .ok (.iload 4, 2) := by decide +kernel
theorem dX5_attacksOf_39 : decode cX5_attacksOf 39 = .ok (.iconst 3, 1) := by decide +kernel
theorem dX5_attacksOf_40 : decode cX5_attacksOf 40 = .ok (.idiv, 1) := by decide +kernel
theorem dX5_attacksOf_41 : decode cX5_attacksOf 41 = .ok (.iconst 1, 1) := by decide +kernel
theorem dX5_attacksOf_42 : decode cX5_attacksOf 42 = .ok (.isub, 1) := by decide +kernel
theorem dX5_attacksOf_43 : decode cX5_attacksOf 43 = .ok (.iload 4, 2) := by decide +kernel
theorem dX5_attacksOf_45 : decode cX5_attacksOf 45 = .ok (.iconst 3, 1) := by decide +kernel
theorem dX5_attacksOf_46 : decode cX5_attacksOf 46 = .ok (.irem, 1) := by decide +kernel
theorem dX5_attacksOf_47 : decode cX5_attacksOf 47 = .ok (.iconst 1, 1) := by decide +kernel
theorem dX5_attacksOf_48 : decode cX5_attacksOf 48 = .ok (.isub, 1) := by decide +kernel
theorem dX5_attacksOf_49 : decode cX5_attacksOf 49 = .ok (.invokevirtual 43, 3) := by decide +kernel
theorem dX5_attacksOf_52 : decode cX5_attacksOf 52 = .ok (.ior, 1) := by decide +kernel
theorem dX5_attacksOf_53 : decode cX5_attacksOf 53 = .ok (.istore_n 3, 1) := by decide +kernel
theorem dX5_attacksOf_54 : decode cX5_attacksOf 54 = .ok (.iinc 4 1, 3) := by decide +kernel
theorem dX5_attacksOf_57 : decode cX5_attacksOf 57 = .ok (.goto (-52), 3) := by decide +kernel
theorem dX5_attacksOf_60 : decode cX5_attacksOf 60 = .ok (.iload_n 3, 1) := by decide +kernel
theorem dX5_attacksOf_61 : decode cX5_attacksOf 61 = .ok (.ireturn, 1) := by decide +kernel
set_option maxRecDepth 20000 in
theorem ggX5_attackersOf_X5_sideOn : GoodIn wsX5_attackersOf wsX5_sideOn := goodIn_r _ [5, 6, 7, 8, 9, 4, 10, 28, 29, 30, 31, 32, 33, 34, 35] (by decide +kernel) (by decide +kernel)
set_option maxRecDepth 20000 in
theorem gX5_attackersOf_X5_sideOn : GoodIn wsX5_attackersOf (wsV RX5 47 RX5 yX5_sideOn wsX5_sideOn) := goodIn_app (goodIn_of _ (by decide +kernel)) ggX5_attackersOf_X5_sideOn
set_option maxRecDepth 20000 in
theorem ggX5_attackersOf_X5_attacksOf : GoodIn wsX5_attackersOf wsX5_attacksOf := goodIn_r _ [14, 6, 15, 16, 17, 4, 18, 7, 8, 9, 10, 19, 20, 21, 22, 23, 24, 25, 26, 27, 28, 29, 30, 31, 32, 33, 34, 35] (by decide +kernel) (by decide +kernel)
set_option maxRecDepth 20000 in
theorem gX5_attackersOf_X5_attacksOf : GoodIn wsX5_attackersOf (wsV RX5 50 RX5 yX5_attacksOf wsX5_attacksOf) := goodIn_app (goodIn_of _ (by decide +kernel)) ggX5_attackersOf_X5_attacksOf
theorem dX5_attackersOf_0 : decode cX5_attackersOf 0 = .ok (.iconst 0, 1) := by decide +kernel
theorem dX5_attackersOf_1 : decode cX5_attackersOf 1 = .ok (.istore 4, 2) := by decide +kernel
theorem dX5_attackersOf_3 : decode cX5_attackersOf 3 = .ok (.iconst 0, 1) := by decide +kernel
theorem dX5_attackersOf_4 : decode cX5_attackersOf 4 = .ok (.istore 5, 2) := by decide +kernel
theorem dX5_attackersOf_6 : decode cX5_attackersOf 6 = .ok (.iload 5, 2) := by decide +kernel
theorem dX5_attackersOf_8 : decode cX5_attackersOf 8 = .ok (.bipush 25, 2) := by decide +kernel
theorem dX5_attackersOf_10 : decode cX5_attackersOf 10 = .ok (.if_icmp .ge 45, 3) := by decide +kernel
theorem dX5_attackersOf_13 : decode cX5_attackersOf 13 = .ok (.iload 4, 2) := by decide +kernel
theorem dX5_attackersOf_15 : decode cX5_attackersOf 15 = .ok (.aload_n 0, 1) := by decide +kernel
theorem dX5_attackersOf_16 : decode cX5_attackersOf 16 = .ok (.iload_n 1, 1) := by decide +kernel
theorem dX5_attackersOf_17 : decode cX5_attackersOf 17 = .ok (.iload 5, 2) := by decide +kernel
theorem dX5_attackersOf_19 : decode cX5_attackersOf 19 = .ok (.invokevirtual 47, 3) := by decide +kernel
theorem dX5_attackersOf_22 : decode cX5_attackersOf 22 = .ok (.iload_n 2, 1) := by decide +kernel
theorem dX5_attackersOf_23 : decode cX5_attackersOf 23 = .ok (.if_icmp .ne 22, 3) := by decide +kernel
theorem dX5_attackersOf_26 : decode cX5_attackersOf 26 = .ok (.aload_n 0, 1) := by decide +kernel
theorem dX5_attackersOf_27 : decode cX5_attackersOf 27 = .ok (.iload_n 1, 1) := by decide +kernel
theorem dX5_attackersOf_28 : decode cX5_attackersOf 28 = .ok (.iload 5, 2) := by decide +kernel
theorem dX5_attackersOf_30 : decode cX5_attackersOf 30 = .ok (.invokevirtual 50, 3) := by decide +kernel
theorem dX5_attackersOf_33 : decode cX5_attackersOf 33 = .ok (.iload_n 3, 1) := by decide +kernel
theorem dX5_attackersOf_34 : decode cX5_attackersOf 34 = .ok (.ishr, 1) := by decide +kernel
theorem dX5_attackersOf_35 : decode cX5_attackersOf 35 = .ok (.iconst 1, 1) := by decide +kernel
theorem dX5_attackersOf_36 : decode cX5_attackersOf 36 = .ok (.iand, 1) := by decide +kernel
theorem dX5_attackersOf_37 : decode cX5_attackersOf 37 = .ok (.iconst 1, 1) := by decide +kernel
theorem dX5_attackersOf_38 : decode cX5_attackersOf 38 = .ok (.if_icmp .ne 7, 3) := by decide +kernel
theorem dX5_attackersOf_41 : decode cX5_attackersOf 41 = .ok (.iconst 1, 1) := by decide +kernel
theorem dX5_attackersOf_42 : decode cX5_attackersOf 42 = .ok (.goto 4, 3) := by decide +kernel
theorem dX5_attackersOf_45 : decode cX5_attackersOf 45 = .ok (.iconst 0, 1) := by decide +kernel
theorem dX5_attackersOf_46 : decode cX5_attackersOf 46 = .ok (.iadd, 1) := by decide +kernel
theorem dX5_attackersOf_47 : decode cX5_attackersOf 47 = .ok (.istore 4, 2) := by decide +kernel
theorem dX5_attackersOf_49 : decode cX5_attackersOf 49 = .ok (.iinc 5 1, 3) := by decide +kernel
theorem dX5_attackersOf_52 : decode cX5_attackersOf 52 = .ok (.goto (-46), 3) := by decide +kernel
theorem dX5_attackersOf_55 : decode cX5_attackersOf 55 = .ok (.iload 4, 2) := by decide +kernel
theorem dX5_attackersOf_57 : decode cX5_attackersOf 57 = .ok (.ireturn, 1) := by decide +kernel
set_option maxRecDepth 20000 in
theorem ggX5_isInCheck_X5_attackersOf : GoodIn wsX5_isInCheck wsX5_attackersOf := goodIn_r _ [6, 7, 8, 9, 5, 10, 1, 11, 12, 13, 14, 15, 16, 17, 18, 19, 20, 21, 22, 23, 24, 25, 26, 27, 28, 29, 30, 31, 32, 33, 34, 35, 36, 37, 38, 39] (by decide +kernel) (by decide +kernel)
set_option maxRecDepth 20000 in
theorem gX5_isInCheck_X5_attackersOf : GoodIn wsX5_isInCheck (wsV RX5 53 RX5 yX5_attackersOf wsX5_attackersOf) := goodIn_app (goodIn_of _ (by decide +kernel)) ggX5_isInCheck_X5_attackersOf
theorem dX5_isInCheck_0 : decode cX5_isInCheck 0 = .ok (.iconst 0, 1) := by decide +kernel
theorem dX5_isInCheck_1 : decode cX5_isInCheck 1 = .ok (.istore_n 3, 1) := by decide +kernel
theorem dX5_isInCheck_2 : decode cX5_isInCheck 2 = .ok (.iload_n 3, 1) := by decide +kernel
theorem dX5_isInCheck_3 : decode cX5_isInCheck 3 = .ok (.bipush 25, 2) := by decide +kernel
theorem dX5_isInCheck_5 : decode cX5_isInCheck 5 = .ok (.if_icmp .ge 46, 3) := by decide +kernel
theorem dX5_isInCheck_8 : decode cX5_isInCheck 8 = .ok (.aload_n 0, 1) := by decide +kernel
theorem dX5_isInCheck_9 : decode cX5_isInCheck 9 = .ok (.getfield 7, 3) := by decide +kernel
theorem dX5_isInCheck_12 : decode cX5_isInCheck 12 = .ok (.iload_n 1, 1) := by decide +kernel
theorem dX5_isInCheck_13 : decode cX5_isInCheck 13 = .ok (.iload_n 3, 1) := by decide +kernel
theorem dX5_isInCheck_14 : decode cX5_isInCheck 14 = .ok (.iadd, 1) := by decide +kernel
theorem dX5_isInCheck_15 : decode cX5_isInCheck 15 = .ok (.iaload, 1) := by decide +kernel
theorem dX5_isInCheck_16 : decode cX5_isInCheck 16 = .ok (.bipush 10, 2) := by decide +kernel
theorem dX5_isInCheck_18 : decode cX5_isInCheck 18 = .ok (.iload_n 2, 1) := by decide +kernel
theorem dX5_isInCheck_19 : decode cX5_isInCheck 19 = .ok (.imul, 1) := by decide +kernel
theorem dX5_isInCheck_20 : decode cX5_isInCheck 20 = .ok (.iconst 0, 1) := by decide +kernel
theorem dX5_isInCheck_21 : decode cX5_isInCheck 21 = .ok (.iadd, 1) := by decide +kernel
theorem dX5_isInCheck_22 : decode cX5_isInCheck 22 = .ok (.iconst 1, 1) := by decide +kernel
theorem dX5_isInCheck_23 : decode cX5_isInCheck 23 = .ok (.iadd, 1) := by decide +kernel
theorem dX5_isInCheck_24 : decode cX5_isInCheck 24 = .ok (.if_icmp .ne 21, 3) := by decide +kernel
theorem dX5_isInCheck_27 : decode cX5_isInCheck 27 = .ok (.aload_n 0, 1) := by decide +kernel
theorem dX5_isInCheck_28 : decode cX5_isInCheck 28 = .ok (.iload_n 1, 1) := by decide +kernel
theorem dX5_isInCheck_29 : decode cX5_isInCheck 29 = .ok (.iconst 1, 1) := by decide +kernel
theorem dX5_isInCheck_30 : decode cX5_isInCheck 30 = .ok (.iload_n 2, 1) := by decide +kernel
theorem dX5_isInCheck_31 : decode cX5_isInCheck 31 = .ok (.isub, 1) := by decide +kernel
theorem dX5_isInCheck_32 : decode cX5_isInCheck 32 = .ok (.iload_n 3, 1) := by decide +kernel
theorem dX5_isInCheck_33 : decode cX5_isInCheck 33 = .ok (.invokevirtual 53, 3) := by decide +kernel
theorem dX5_isInCheck_36 : decode cX5_isInCheck 36 = .ok (.ifCond .le 7, 3) := by decide +kernel
theorem dX5_isInCheck_39 : decode cX5_isInCheck 39 = .ok (.iconst 1, 1) := by decide +kernel
theorem dX5_isInCheck_40 : decode cX5_isInCheck 40 = .ok (.goto 4, 3) := by decide +kernel
theorem dX5_isInCheck_43 : decode cX5_isInCheck 43 = .ok (.iconst 0, 1) := by decide +kernel
theorem dX5_isInCheck_44 : decode cX5_isInCheck 44 = .ok (.ireturn, 1) := by decide +kernel
theorem dX5_isInCheck_45 : decode cX5_isInCheck 45 = .ok (.iinc 3 1, 3) := by decide +kernel
theorem dX5_isInCheck_48 : decode cX5_isInCheck 48 = .ok (.goto (-46), 3) := by decide +kernel
theorem dX5_isInCheck_51 : decode cX5_isInCheck 51 = .ok (.iconst 0, 1) := by decide +kernel
theorem dX5_isInCheck_52 : decode cX5_isInCheck 52 = .ok (.ireturn, 1) := by decide +kernel
theorem dX5_from_0 : decode cX5_from 0 = .ok (.iload_n 0, 1) := by decide +kernel
theorem dX5_from_1 : decode cX5_from 1 = .ok (.sipush 625, 3) := by decide +kernel
theorem dX5_from_4 : decode cX5_from 4 = .ok (.irem, 1) := by decide +kernel
theorem dX5_from_5 : decode cX5_from 5 = .ok (.bipush 25, 2) := by decide +kernel
theorem dX5_from_7 : decode cX5_from 7 = .ok (.idiv, 1) := by decide +kernel
theorem dX5_from_8 : decode cX5_from 8 = .ok (.ireturn, 1) := by decide +kernel
set_option maxRecDepth 20000 in
theorem ggX5_told_X5_from : GoodIn wsX5_told wsX5_from := goodIn_r _ [4] (by decide +kernel) (by decide +kernel)
set_option maxRecDepth 20000 in
theorem gX5_told_X5_from : GoodIn wsX5_told (va_wsS RX5 57 yX5_from wsX5_from) := goodIn_app (goodIn_of _ (by decide +kernel)) ggX5_told_X5_from
set_option maxRecDepth 20000 in
theorem ggX5_told_X5_kindOf : GoodIn wsX5_told wsX5_kindOf := goodIn_r _ [7] (by decide +kernel) (by decide +kernel)
set_option maxRecDepth 20000 in
theorem gX5_told_X5_kindOf : GoodIn wsX5_told (va_wsS RX5 61 yX5_kindOf wsX5_kindOf) := goodIn_app (goodIn_of _ (by decide +kernel)) ggX5_told_X5_kindOf
theorem dX5_told_0 : decode cX5_told 0 = .ok (.iload_n 0, 1) := by decide +kernel
theorem dX5_told_1 : decode cX5_told 1 = .ok (.sipush 1250, 3) := by decide +kernel
theorem dX5_told_4 : decode cX5_told 4 = .ok (.if_icmp .ge 26, 3) := by decide +kernel
theorem dX5_told_7 : decode cX5_told 7 = .ok (.sipush 10000, 3) := by decide +kernel
theorem dX5_told_10 : decode cX5_told 10 = .ok (.iload_n 0, 1) := by decide +kernel
theorem dX5_told_11 : decode cX5_told 11 = .ok (.sipush 625, 3) := by decide +kernel
theorem dX5_told_14 : decode cX5_told 14 = .ok (.idiv, 1) := by decide +kernel
theorem dX5_told_15 : decode cX5_told 15 = .ok (.imul, 1) := by decide +kernel
theorem dX5_told_16 : decode cX5_told 16 = .ok (.bipush 100, 2) := by decide +kernel
theorem dX5_told_18 : decode cX5_told 18 = .ok (.iload_n 0, 1) := by decide +kernel
theorem dX5_told_19 : decode cX5_told 19 = .ok (.invokestatic 57, 3) := by decide +kernel
theorem dX5_told_22 : decode cX5_told 22 = .ok (.imul, 1) := by decide +kernel
theorem dX5_told_23 : decode cX5_told 23 = .ok (.iadd, 1) := by decide +kernel
theorem dX5_told_24 : decode cX5_told 24 = .ok (.iload_n 0, 1) := by decide +kernel
theorem dX5_told_25 : decode cX5_told 25 = .ok (.bipush 25, 2) := by decide +kernel
theorem dX5_told_27 : decode cX5_told 27 = .ok (.irem, 1) := by decide +kernel
theorem dX5_told_28 : decode cX5_told 28 = .ok (.iadd, 1) := by decide +kernel
theorem dX5_told_29 : decode cX5_told 29 = .ok (.ireturn, 1) := by decide +kernel
theorem dX5_told_30 : decode cX5_told 30 = .ok (.sipush 20000, 3) := by decide +kernel
theorem dX5_told_33 : decode cX5_told 33 = .ok (.bipush 100, 2) := by decide +kernel
theorem dX5_told_35 : decode cX5_told 35 = .ok (.iload_n 0, 1) := by decide +kernel
theorem dX5_told_36 : decode cX5_told 36 = .ok (.invokestatic 61, 3) := by decide +kernel
theorem dX5_told_39 : decode cX5_told 39 = .ok (.imul, 1) := by decide +kernel
theorem dX5_told_40 : decode cX5_told 40 = .ok (.iadd, 1) := by decide +kernel
theorem dX5_told_41 : decode cX5_told 41 = .ok (.iload_n 0, 1) := by decide +kernel
theorem dX5_told_42 : decode cX5_told 42 = .ok (.bipush 25, 2) := by decide +kernel
theorem dX5_told_44 : decode cX5_told 44 = .ok (.irem, 1) := by decide +kernel
theorem dX5_told_45 : decode cX5_told 45 = .ok (.iadd, 1) := by decide +kernel
theorem dX5_told_46 : decode cX5_told 46 = .ok (.ireturn, 1) := by decide +kernel
theorem dX5_kindOf_0 : decode cX5_kindOf 0 = .ok (.iload_n 0, 1) := by decide +kernel
theorem dX5_kindOf_1 : decode cX5_kindOf 1 = .ok (.sipush 1250, 3) := by decide +kernel
theorem dX5_kindOf_4 : decode cX5_kindOf 4 = .ok (.isub, 1) := by decide +kernel
theorem dX5_kindOf_5 : decode cX5_kindOf 5 = .ok (.bipush 25, 2) := by decide +kernel
theorem dX5_kindOf_7 : decode cX5_kindOf 7 = .ok (.idiv, 1) := by decide +kernel
theorem dX5_kindOf_8 : decode cX5_kindOf 8 = .ok (.iconst 1, 1) := by decide +kernel
theorem dX5_kindOf_9 : decode cX5_kindOf 9 = .ok (.iadd, 1) := by decide +kernel
theorem dX5_kindOf_10 : decode cX5_kindOf 10 = .ok (.ireturn, 1) := by decide +kernel
set_option maxRecDepth 20000 in
theorem ggX5_whyNotMove_X5_from : GoodIn wsX5_whyNotMove wsX5_from := goodIn_r _ [5] (by decide +kernel) (by decide +kernel)
set_option maxRecDepth 20000 in
theorem gX5_whyNotMove_X5_from : GoodIn wsX5_whyNotMove (va_wsS RX5 57 yX5_from wsX5_from) := goodIn_app (goodIn_of _ (by decide +kernel)) ggX5_whyNotMove_X5_from
set_option maxRecDepth 20000 in
theorem ggX5_whyNotMove_X5_sideOn : GoodIn wsX5_whyNotMove wsX5_sideOn := goodIn_r _ [9, 1, 10, 11, 12, 4, 13, 34, 35, 36, 37, 38, 39, 40, 41] (by decide +kernel) (by decide +kernel)
set_option maxRecDepth 20000 in
theorem gX5_whyNotMove_X5_sideOn : GoodIn wsX5_whyNotMove (wsV RX5 47 RX5 yX5_sideOn wsX5_sideOn) := goodIn_app (goodIn_of _ (by decide +kernel)) ggX5_whyNotMove_X5_sideOn
set_option maxRecDepth 20000 in
theorem ggX5_whyNotMove_X5_attacksOf : GoodIn wsX5_whyNotMove wsX5_attacksOf := goodIn_r _ [17, 1, 18, 19, 20, 4, 21, 10, 11, 12, 13, 22, 23, 24, 25, 26, 27, 28, 29, 30, 34, 35, 36, 37, 38, 39, 40, 41] (by decide +kernel) (by decide +kernel)
set_option maxRecDepth 20000 in
theorem gX5_whyNotMove_X5_attacksOf : GoodIn wsX5_whyNotMove (wsV RX5 50 RX5 yX5_attacksOf wsX5_attacksOf) := goodIn_app (goodIn_of _ (by decide +kernel)) ggX5_whyNotMove_X5_attacksOf
set_option maxRecDepth 20000 in
theorem ggX5_whyNotMove_X5_manAt : GoodIn wsX5_whyNotMove wsX5_manAt := goodIn_r _ [13, 1, 34, 35, 36, 37, 38, 39, 40, 41] (by decide +kernel) (by decide +kernel)
set_option maxRecDepth 20000 in
theorem gX5_whyNotMove_X5_manAt : GoodIn wsX5_whyNotMove (wsV RX5 33 RX5 yX5_manAt wsX5_manAt) := goodIn_app (goodIn_of _ (by decide +kernel)) ggX5_whyNotMove_X5_manAt
set_option maxRecDepth 20000 in
theorem ggX5_whyNotMove_X5_lastRow : GoodIn wsX5_whyNotMove wsX5_lastRow := goodIn_r _ [33] (by decide +kernel) (by decide +kernel)
set_option maxRecDepth 20000 in
theorem gX5_whyNotMove_X5_lastRow : GoodIn wsX5_whyNotMove (va_wsS RX5 64 yX5_lastRow wsX5_lastRow) := goodIn_app (goodIn_of _ (by decide +kernel)) ggX5_whyNotMove_X5_lastRow
set_option maxRecDepth 20000 in
theorem ggX5_whyNotMove_X5_in : GoodIn wsX5_whyNotMove wsX5_in := goodIn_r _ [30] (by decide +kernel) (by decide +kernel)
set_option maxRecDepth 20000 in
theorem gX5_whyNotMove_X5_in : GoodIn wsX5_whyNotMove (va_wsS RX5 25 yX5_in wsX5_in) := goodIn_app (goodIn_of _ (by decide +kernel)) ggX5_whyNotMove_X5_in
theorem dX5_whyNotMove_0 : decode cX5_whyNotMove 0 = .ok (.iload_n 2, 1) := by decide +kernel
theorem dX5_whyNotMove_1 : decode cX5_whyNotMove 1 = .ok (.invokestatic 57, 3) := by decide +kernel
theorem dX5_whyNotMove_4 : decode cX5_whyNotMove 4 = .ok (.istore_n 3, 1) := by decide +kernel
theorem dX5_whyNotMove_5 : decode cX5_whyNotMove 5 = .ok (.iload_n 2, 1) := by decide +kernel
theorem dX5_whyNotMove_6 : decode cX5_whyNotMove 6 = .ok (.bipush 25, 2) := by decide +kernel
theorem dX5_whyNotMove_8 : decode cX5_whyNotMove 8 = .ok (.irem, 1) := by decide +kernel
theorem dX5_whyNotMove_9 : decode cX5_whyNotMove 9 = .ok (.istore 4, 2) := by decide +kernel
theorem dX5_whyNotMove_11 : decode cX5_whyNotMove 11 = .ok (.aload_n 0, 1) := by decide +kernel
theorem dX5_whyNotMove_12 : decode cX5_whyNotMove 12 = .ok (.getfield 7, 3) := by decide +kernel
theorem dX5_whyNotMove_15 : decode cX5_whyNotMove 15 = .ok (.iload_n 1, 1) := by decide +kernel
theorem dX5_whyNotMove_16 : decode cX5_whyNotMove 16 = .ok (.bipush 35, 2) := by decide +kernel
theorem dX5_whyNotMove_18 : decode cX5_whyNotMove 18 = .ok (.iadd, 1) := by decide +kernel
theorem dX5_whyNotMove_19 : decode cX5_whyNotMove 19 = .ok (.iaload, 1) := by decide +kernel
theorem dX5_whyNotMove_20 : decode cX5_whyNotMove 20 = .ok (.istore 5, 2) := by decide +kernel
theorem dX5_whyNotMove_22 : decode cX5_whyNotMove 22 = .ok (.aload_n 0, 1) := by decide +kernel
theorem dX5_whyNotMove_23 : decode cX5_whyNotMove 23 = .ok (.iload_n 1, 1) := by decide +kernel
theorem dX5_whyNotMove_24 : decode cX5_whyNotMove 24 = .ok (.iload_n 3, 1) := by decide +kernel
theorem dX5_whyNotMove_25 : decode cX5_whyNotMove 25 = .ok (.invokevirtual 47, 3) := by decide +kernel
theorem dX5_whyNotMove_28 : decode cX5_whyNotMove 28 = .ok (.iload 5, 2) := by decide +kernel
theorem dX5_whyNotMove_30 : decode cX5_whyNotMove 30 = .ok (.if_icmp .eq 5, 3) := by decide +kernel
theorem dX5_whyNotMove_33 : decode cX5_whyNotMove 33 = .ok (.iconst 1, 1) := by decide +kernel
theorem dX5_whyNotMove_34 : decode cX5_whyNotMove 34 = .ok (.ireturn, 1) := by decide +kernel
theorem dX5_whyNotMove_35 : decode cX5_whyNotMove 35 = .ok (.aload_n 0, 1) := by decide +kernel
theorem dX5_whyNotMove_36 : decode cX5_whyNotMove 36 = .ok (.iload_n 1, 1) := by decide +kernel
theorem dX5_whyNotMove_37 : decode cX5_whyNotMove 37 = .ok (.iload_n 3, 1) := by decide +kernel
theorem dX5_whyNotMove_38 : decode cX5_whyNotMove 38 = .ok (.invokevirtual 50, 3) := by decide +kernel
theorem dX5_whyNotMove_41 : decode cX5_whyNotMove 41 = .ok (.iload 4, 2) := by decide +kernel
theorem dX5_whyNotMove_43 : decode cX5_whyNotMove 43 = .ok (.ishr, 1) := by decide +kernel
theorem dX5_whyNotMove_44 : decode cX5_whyNotMove 44 = .ok (.iconst 1, 1) := by decide +kernel
theorem dX5_whyNotMove_45 : decode cX5_whyNotMove 45 = .ok (.iand, 1) := by decide +kernel
theorem dX5_whyNotMove_46 : decode cX5_whyNotMove 46 = .ok (.ifCond .ne 5, 3) := by decide +kernel
theorem dX5_whyNotMove_49 : decode cX5_whyNotMove 49 = .ok (.iconst 2, 1) := by decide +kernel
theorem dX5_whyNotMove_50 : decode cX5_whyNotMove 50 = .ok (.ireturn, 1) := by decide +kernel
theorem dX5_whyNotMove_51 : decode cX5_whyNotMove 51 = .ok (.aload_n 0, 1) := by decide +kernel
theorem dX5_whyNotMove_52 : decode cX5_whyNotMove 52 = .ok (.iload_n 1, 1) := by decide +kernel
theorem dX5_whyNotMove_53 : decode cX5_whyNotMove 53 = .ok (.iload 4, 2) := by decide +kernel
theorem dX5_whyNotMove_55 : decode cX5_whyNotMove 55 = .ok (.invokevirtual 47, 3) := by decide +kernel
theorem dX5_whyNotMove_58 : decode cX5_whyNotMove 58 = .ok (.iload 5, 2) := by decide +kernel
theorem dX5_whyNotMove_60 : decode cX5_whyNotMove 60 = .ok (.if_icmp .eq 16, 3) := by decide +kernel
theorem dX5_whyNotMove_63 : decode cX5_whyNotMove 63 = .ok (.aload_n 0, 1) := by decide +kernel
theorem dX5_whyNotMove_64 : decode cX5_whyNotMove 64 = .ok (.iload_n 1, 1) := by decide +kernel
theorem dX5_whyNotMove_65 : decode cX5_whyNotMove 65 = .ok (.iload 4, 2) := by decide +kernel
theorem dX5_whyNotMove_67 : decode cX5_whyNotMove 67 = .ok (.invokevirtual 33, 3) := by decide +kernel
theorem dX5_whyNotMove_70 : decode cX5_whyNotMove 70 = .ok (.bipush 10, 2) := by decide +kernel
theorem dX5_whyNotMove_72 : decode cX5_whyNotMove 72 = .ok (.irem, 1) := by decide +kernel
theorem dX5_whyNotMove_73 : decode cX5_whyNotMove 73 = .ok (.ifCond .ne 5, 3) := by decide +kernel
theorem dX5_whyNotMove_76 : decode cX5_whyNotMove 76 = .ok (.iconst 3, 1) := by decide +kernel
theorem dX5_whyNotMove_77 : decode cX5_whyNotMove 77 = .ok (.ireturn, 1) := by decide +kernel
theorem dX5_whyNotMove_78 : decode cX5_whyNotMove 78 = .ok (.aload_n 0, 1) := by decide +kernel
theorem dX5_whyNotMove_79 : decode cX5_whyNotMove 79 = .ok (.iload_n 1, 1) := by decide +kernel
theorem dX5_whyNotMove_80 : decode cX5_whyNotMove 80 = .ok (.iload_n 3, 1) := by decide +kernel
theorem dX5_whyNotMove_81 : decode cX5_whyNotMove 81 = .ok (.invokevirtual 33, 3) := by decide +kernel
theorem dX5_whyNotMove_84 : decode cX5_whyNotMove 84 = .ok (.bipush 10, 2) := by decide +kernel
theorem dX5_whyNotMove_86 : decode cX5_whyNotMove 86 = .ok (.irem, 1) := by decide +kernel
theorem dX5_whyNotMove_87 : decode cX5_whyNotMove 87 = .ok (.istore 6, 2) := by decide +kernel
theorem dX5_whyNotMove_89 : decode cX5_whyNotMove 89 = .ok (.iload 4, 2) := by decide +kernel
theorem dX5_whyNotMove_91 : decode cX5_whyNotMove 91 = .ok (.iconst 5, 1) := by decide +kernel
theorem dX5_whyNotMove_92 : decode cX5_whyNotMove 92 = .ok (.idiv, 1) := by decide +kernel
theorem dX5_whyNotMove_93 : decode cX5_whyNotMove 93 = .ok (.iload 5, 2) := by decide +kernel
theorem dX5_whyNotMove_95 : decode cX5_whyNotMove 95 = .ok (.invokestatic 64, 3) := by decide +kernel
theorem dX5_whyNotMove_98 : decode cX5_whyNotMove 98 = .ok (.if_icmp .ne 7, 3) := by decide +kernel
theorem dX5_whyNotMove_101 : decode cX5_whyNotMove 101 = .ok (.iconst 1, 1) := by decide +kernel
theorem dX5_whyNotMove_102 : decode cX5_whyNotMove 102 = .ok (.goto 4, 3) := by decide +kernel
theorem dX5_whyNotMove_105 : decode cX5_whyNotMove 105 = .ok (.iconst 0, 1) := by decide +kernel
theorem dX5_whyNotMove_106 : decode cX5_whyNotMove 106 = .ok (.istore 7, 2) := by decide +kernel
theorem dX5_whyNotMove_108 : decode cX5_whyNotMove 108 = .ok (.iload 6, 2) := by decide +kernel
theorem dX5_whyNotMove_110 : decode cX5_whyNotMove 110 = .ok (.iconst 2, 1) := by decide +kernel
theorem dX5_whyNotMove_111 : decode cX5_whyNotMove 111 = .ok (.iconst 5, 1) := by decide +kernel
theorem dX5_whyNotMove_112 : decode cX5_whyNotMove 112 = .ok (.invokestatic 25, 3) := by decide +kernel
theorem dX5_whyNotMove_115 : decode cX5_whyNotMove 115 = .ok (.ifCond .eq 23, 3) := by decide +kernel
theorem dX5_whyNotMove_118 : decode cX5_whyNotMove 118 = .ok (.iload 7, 2) := by decide +kernel
theorem dX5_whyNotMove_120 : decode cX5_whyNotMove 120 = .ok (.ifCond .ne 14, 3) := by decide +kernel
theorem dX5_whyNotMove_123 : decode cX5_whyNotMove 123 = .ok (.iload_n 3, 1) := by decide +kernel
theorem dX5_whyNotMove_124 : decode cX5_whyNotMove 124 = .ok (.iconst 5, 1) := by decide +kernel
theorem dX5_whyNotMove_125 : decode cX5_whyNotMove 125 = .ok (.idiv, 1) := by decide +kernel
theorem dX5_whyNotMove_126 : decode cX5_whyNotMove 126 = .ok (.iload 5, 2) := by decide +kernel
theorem dX5_whyNotMove_128 : decode cX5_whyNotMove 128 = .ok (.invokestatic 64, 3) := by decide +kernel
theorem dX5_whyNotMove_131 : decode cX5_whyNotMove 131 = .ok (.if_icmp .ne 7, 3) := by decide +kernel
theorem dX5_whyNotMove_134 : decode cX5_whyNotMove 134 = .ok (.iconst 1, 1) := by decide +kernel
theorem dX5_whyNotMove_135 : decode cX5_whyNotMove 135 = .ok (.goto 4, 3) := by decide +kernel
theorem dX5_whyNotMove_138 : decode cX5_whyNotMove 138 = .ok (.iconst 0, 1) := by decide +kernel
theorem dX5_whyNotMove_139 : decode cX5_whyNotMove 139 = .ok (.istore 8, 2) := by decide +kernel
theorem dX5_whyNotMove_141 : decode cX5_whyNotMove 141 = .ok (.iload_n 2, 1) := by decide +kernel
theorem dX5_whyNotMove_142 : decode cX5_whyNotMove 142 = .ok (.sipush 625, 3) := by decide +kernel
theorem dX5_whyNotMove_145 : decode cX5_whyNotMove 145 = .ok (.if_icmp .lt 14, 3) := by decide +kernel
theorem dX5_whyNotMove_148 : decode cX5_whyNotMove 148 = .ok (.iload 8, 2) := by decide +kernel
theorem dX5_whyNotMove_150 : decode cX5_whyNotMove 150 = .ok (.ifCond .eq 7, 3) := by decide +kernel
theorem dX5_whyNotMove_153 : decode cX5_whyNotMove 153 = .ok (.iconst 0, 1) := by decide +kernel
theorem dX5_whyNotMove_154 : decode cX5_whyNotMove 154 = .ok (.goto 4, 3) := by decide +kernel
theorem dX5_whyNotMove_157 : decode cX5_whyNotMove 157 = .ok (.iconst 4, 1) := by decide +kernel
theorem dX5_whyNotMove_158 : decode cX5_whyNotMove 158 = .ok (.ireturn, 1) := by decide +kernel
theorem dX5_whyNotMove_159 : decode cX5_whyNotMove 159 = .ok (.iload 6, 2) := by decide +kernel
theorem dX5_whyNotMove_161 : decode cX5_whyNotMove 161 = .ok (.iconst 5, 1) := by decide +kernel
theorem dX5_whyNotMove_162 : decode cX5_whyNotMove 162 = .ok (.if_icmp .ne 12, 3) := by decide +kernel
theorem dX5_whyNotMove_165 : decode cX5_whyNotMove 165 = .ok (.iload 7, 2) := by decide +kernel
theorem dX5_whyNotMove_167 : decode cX5_whyNotMove 167 = .ok (.ifCond .eq 7, 3) := by decide +kernel
theorem dX5_whyNotMove_170 : decode cX5_whyNotMove 170 = .ok (.iconst 5, 1) := by decide +kernel
theorem dX5_whyNotMove_171 : decode cX5_whyNotMove 171 = .ok (.goto 4, 3) := by decide +kernel
theorem dX5_whyNotMove_174 : decode cX5_whyNotMove 174 = .ok (.iconst 0, 1) := by decide +kernel
theorem dX5_whyNotMove_175 : decode cX5_whyNotMove 175 = .ok (.ireturn, 1) := by decide +kernel
set_option maxRecDepth 20000 in
theorem ggX5_hasPawnIn_X5_manAt : GoodIn wsX5_hasPawnIn wsX5_manAt := goodIn_r _ [5, 6, 7, 8, 9, 10, 11, 12, 13, 14] (by decide +kernel) (by decide +kernel)
set_option maxRecDepth 20000 in
theorem gX5_hasPawnIn_X5_manAt : GoodIn wsX5_hasPawnIn (wsV RX5 33 RX5 yX5_manAt wsX5_manAt) := goodIn_app (goodIn_of _ (by decide +kernel)) ggX5_hasPawnIn_X5_manAt
theorem dX5_hasPawnIn_0 : decode cX5_hasPawnIn 0 = .ok (.iconst 0, 1) := by decide +kernel
theorem dX5_hasPawnIn_1 : decode cX5_hasPawnIn 1 = .ok (.istore 4, 2) := by decide +kernel
theorem dX5_hasPawnIn_3 : decode cX5_hasPawnIn 3 = .ok (.iload_n 3, 1) := by decide +kernel
theorem dX5_hasPawnIn_4 : decode cX5_hasPawnIn 4 = .ok (.istore 5, 2) := by decide +kernel
theorem dX5_hasPawnIn_6 : decode cX5_hasPawnIn 6 = .ok (.iload 5, 2) := by decide +kernel
theorem dX5_hasPawnIn_8 : decode cX5_hasPawnIn 8 = .ok (.bipush 25, 2) := by decide +kernel
theorem dX5_hasPawnIn_10 : decode cX5_hasPawnIn 10 = .ok (.if_icmp .ge 37, 3) := by decide +kernel
theorem dX5_hasPawnIn_13 : decode cX5_hasPawnIn 13 = .ok (.iload 4, 2) := by decide +kernel
theorem dX5_hasPawnIn_15 : decode cX5_hasPawnIn 15 = .ok (.ifCond .ne 19, 3) := by decide +kernel
theorem dX5_hasPawnIn_18 : decode cX5_hasPawnIn 18 = .ok (.aload_n 0, 1) := by decide +kernel
theorem dX5_hasPawnIn_19 : decode cX5_hasPawnIn 19 = .ok (.iload_n 1, 1) := by decide +kernel
theorem dX5_hasPawnIn_20 : decode cX5_hasPawnIn 20 = .ok (.iload 5, 2) := by decide +kernel
theorem dX5_hasPawnIn_22 : decode cX5_hasPawnIn 22 = .ok (.invokevirtual 33, 3) := by decide +kernel
theorem dX5_hasPawnIn_25 : decode cX5_hasPawnIn 25 = .ok (.bipush 10, 2) := by decide +kernel
theorem dX5_hasPawnIn_27 : decode cX5_hasPawnIn 27 = .ok (.iload_n 2, 1) := by decide +kernel
theorem dX5_hasPawnIn_28 : decode cX5_hasPawnIn 28 = .ok (.imul, 1) := by decide +kernel
theorem dX5_hasPawnIn_29 : decode cX5_hasPawnIn 29 = .ok (.iconst 5, 1) := by decide +kernel
theorem dX5_hasPawnIn_30 : decode cX5_hasPawnIn 30 = .ok (.iadd, 1) := by decide +kernel
theorem dX5_hasPawnIn_31 : decode cX5_hasPawnIn 31 = .ok (.if_icmp .ne 7, 3) := by decide +kernel
theorem dX5_hasPawnIn_34 : decode cX5_hasPawnIn 34 = .ok (.iconst 1, 1) := by decide +kernel
theorem dX5_hasPawnIn_35 : decode cX5_hasPawnIn 35 = .ok (.goto 4, 3) := by decide +kernel
theorem dX5_hasPawnIn_38 : decode cX5_hasPawnIn 38 = .ok (.iconst 0, 1) := by decide +kernel
theorem dX5_hasPawnIn_39 : decode cX5_hasPawnIn 39 = .ok (.istore 4, 2) := by decide +kernel
theorem dX5_hasPawnIn_41 : decode cX5_hasPawnIn 41 = .ok (.iinc 5 5, 3) := by decide +kernel
theorem dX5_hasPawnIn_44 : decode cX5_hasPawnIn 44 = .ok (.goto (-38), 3) := by decide +kernel
theorem dX5_hasPawnIn_47 : decode cX5_hasPawnIn 47 = .ok (.iload 4, 2) := by decide +kernel
theorem dX5_hasPawnIn_49 : decode cX5_hasPawnIn 49 = .ok (.ireturn, 1) := by decide +kernel
set_option maxRecDepth 20000 in
theorem ggX5_whyNotDrop_X5_kindOf : GoodIn wsX5_whyNotDrop wsX5_kindOf := goodIn_r _ [5] (by decide +kernel) (by decide +kernel)
set_option maxRecDepth 20000 in
theorem gX5_whyNotDrop_X5_kindOf : GoodIn wsX5_whyNotDrop (va_wsS RX5 61 yX5_kindOf wsX5_kindOf) := goodIn_app (goodIn_of _ (by decide +kernel)) ggX5_whyNotDrop_X5_kindOf
set_option maxRecDepth 20000 in
theorem ggX5_whyNotDrop_X5_lastRow : GoodIn wsX5_whyNotDrop wsX5_lastRow := goodIn_r _ [8] (by decide +kernel) (by decide +kernel)
set_option maxRecDepth 20000 in
theorem gX5_whyNotDrop_X5_lastRow : GoodIn wsX5_whyNotDrop (va_wsS RX5 64 yX5_lastRow wsX5_lastRow) := goodIn_app (goodIn_of _ (by decide +kernel)) ggX5_whyNotDrop_X5_lastRow
set_option maxRecDepth 20000 in
theorem ggX5_whyNotDrop_X5_hasPawnIn : GoodIn wsX5_whyNotDrop wsX5_hasPawnIn := goodIn_r _ [12, 13, 14, 15, 4, 16, 1, 17, 18, 19, 20, 21, 22, 23, 24] (by decide +kernel) (by decide +kernel)
set_option maxRecDepth 20000 in
theorem gX5_whyNotDrop_X5_hasPawnIn : GoodIn wsX5_whyNotDrop (wsV RX5 67 RX5 yX5_hasPawnIn wsX5_hasPawnIn) := goodIn_app (goodIn_of _ (by decide +kernel)) ggX5_whyNotDrop_X5_hasPawnIn
theorem dX5_whyNotDrop_0 : decode cX5_whyNotDrop 0 = .ok (.iload_n 2, 1) := by decide +kernel
theorem dX5_whyNotDrop_1 : decode cX5_whyNotDrop 1 = .ok (.invokestatic 61, 3) := by decide +kernel
theorem dX5_whyNotDrop_4 : decode cX5_whyNotDrop 4 = .ok (.istore_n 3, 1) := by decide +kernel
theorem dX5_whyNotDrop_5 : decode cX5_whyNotDrop 5 = .ok (.iload_n 2, 1) := by decide +kernel
theorem dX5_whyNotDrop_6 : decode cX5_whyNotDrop 6 = .ok (.bipush 25, 2) := by decide +kernel
theorem dX5_whyNotDrop_8 : decode cX5_whyNotDrop 8 = .ok (.irem, 1) := by decide +kernel
theorem dX5_whyNotDrop_9 : decode cX5_whyNotDrop 9 = .ok (.istore 4, 2) := by decide +kernel
theorem dX5_whyNotDrop_11 : decode cX5_whyNotDrop 11 = .ok (.aload_n 0, 1) := by decide +kernel
theorem dX5_whyNotDrop_12 : decode cX5_whyNotDrop 12 = .ok (.getfield 7, 3) := by decide +kernel
theorem dX5_whyNotDrop_15 : decode cX5_whyNotDrop 15 = .ok (.iload_n 1, 1) := by decide +kernel
theorem dX5_whyNotDrop_16 : decode cX5_whyNotDrop 16 = .ok (.bipush 35, 2) := by decide +kernel
theorem dX5_whyNotDrop_18 : decode cX5_whyNotDrop 18 = .ok (.iadd, 1) := by decide +kernel
theorem dX5_whyNotDrop_19 : decode cX5_whyNotDrop 19 = .ok (.iaload, 1) := by decide +kernel
theorem dX5_whyNotDrop_20 : decode cX5_whyNotDrop 20 = .ok (.istore 5, 2) := by decide +kernel
theorem dX5_whyNotDrop_22 : decode cX5_whyNotDrop 22 = .ok (.aload_n 0, 1) := by decide +kernel
theorem dX5_whyNotDrop_23 : decode cX5_whyNotDrop 23 = .ok (.getfield 7, 3) := by decide +kernel
theorem dX5_whyNotDrop_26 : decode cX5_whyNotDrop 26 = .ok (.iload_n 1, 1) := by decide +kernel
theorem dX5_whyNotDrop_27 : decode cX5_whyNotDrop 27 = .ok (.bipush 25, 2) := by decide +kernel
theorem dX5_whyNotDrop_29 : decode cX5_whyNotDrop 29 = .ok (.iadd, 1) := by decide +kernel
theorem dX5_whyNotDrop_30 : decode cX5_whyNotDrop 30 = .ok (.iconst 5, 1) := by decide +kernel
theorem dX5_whyNotDrop_31 : decode cX5_whyNotDrop 31 = .ok (.iload 5, 2) := by decide +kernel
theorem dX5_whyNotDrop_33 : decode cX5_whyNotDrop 33 = .ok (.imul, 1) := by decide +kernel
theorem dX5_whyNotDrop_34 : decode cX5_whyNotDrop 34 = .ok (.iadd, 1) := by decide +kernel
theorem dX5_whyNotDrop_35 : decode cX5_whyNotDrop 35 = .ok (.iload_n 3, 1) := by decide +kernel
theorem dX5_whyNotDrop_36 : decode cX5_whyNotDrop 36 = .ok (.iadd, 1) := by decide +kernel
theorem dX5_whyNotDrop_37 : decode cX5_whyNotDrop 37 = .ok (.iconst 1, 1) := by decide +kernel
theorem dX5_whyNotDrop_38 : decode cX5_whyNotDrop 38 = .ok (.isub, 1) := by decide +kernel
theorem dX5_whyNotDrop_39 : decode cX5_whyNotDrop 39 = .ok (.iaload, 1) := by decide +kernel
theorem dX5_whyNotDrop_40 : decode cX5_whyNotDrop 40 = .ok (.ifCond .ne 5, 3) := by decide +kernel
theorem dX5_whyNotDrop_43 : decode cX5_whyNotDrop 43 = .ok (.iconst 1, 1) := by decide +kernel
theorem dX5_whyNotDrop_44 : decode cX5_whyNotDrop 44 = .ok (.ireturn, 1) := by decide +kernel
theorem dX5_whyNotDrop_45 : decode cX5_whyNotDrop 45 = .ok (.aload_n 0, 1) := by decide +kernel
theorem dX5_whyNotDrop_46 : decode cX5_whyNotDrop 46 = .ok (.getfield 7, 3) := by decide +kernel
theorem dX5_whyNotDrop_49 : decode cX5_whyNotDrop 49 = .ok (.iload_n 1, 1) := by decide +kernel
theorem dX5_whyNotDrop_50 : decode cX5_whyNotDrop 50 = .ok (.iload 4, 2) := by decide +kernel
theorem dX5_whyNotDrop_52 : decode cX5_whyNotDrop 52 = .ok (.iadd, 1) := by decide +kernel
theorem dX5_whyNotDrop_53 : decode cX5_whyNotDrop 53 = .ok (.iaload, 1) := by decide +kernel
theorem dX5_whyNotDrop_54 : decode cX5_whyNotDrop 54 = .ok (.ifCond .eq 5, 3) := by decide +kernel
theorem dX5_whyNotDrop_57 : decode cX5_whyNotDrop 57 = .ok (.iconst 2, 1) := by decide +kernel
theorem dX5_whyNotDrop_58 : decode cX5_whyNotDrop 58 = .ok (.ireturn, 1) := by decide +kernel
theorem dX5_whyNotDrop_59 : decode cX5_whyNotDrop 59 = .ok (.iload_n 3, 1) := by decide +kernel
theorem dX5_whyNotDrop_60 : decode cX5_whyNotDrop 60 = .ok (.iconst 5, 1) := by decide +kernel
theorem dX5_whyNotDrop_61 : decode cX5_whyNotDrop 61 = .ok (.if_icmp .ne 17, 3) := by decide +kernel
theorem dX5_whyNotDrop_64 : decode cX5_whyNotDrop 64 = .ok (.iload 4, 2) := by decide +kernel
theorem dX5_whyNotDrop_66 : decode cX5_whyNotDrop 66 = .ok (.iconst 5, 1) := by decide +kernel
theorem dX5_whyNotDrop_67 : decode cX5_whyNotDrop 67 = .ok (.idiv, 1) := by decide +kernel
theorem dX5_whyNotDrop_68 : decode cX5_whyNotDrop 68 = .ok (.iload 5, 2) := by decide +kernel
theorem dX5_whyNotDrop_70 : decode cX5_whyNotDrop 70 = .ok (.invokestatic 64, 3) := by decide +kernel
theorem dX5_whyNotDrop_73 : decode cX5_whyNotDrop 73 = .ok (.if_icmp .ne 5, 3) := by decide +kernel
theorem dX5_whyNotDrop_76 : decode cX5_whyNotDrop 76 = .ok (.iconst 3, 1) := by decide +kernel
theorem dX5_whyNotDrop_77 : decode cX5_whyNotDrop 77 = .ok (.ireturn, 1) := by decide +kernel
theorem dX5_whyNotDrop_78 : decode cX5_whyNotDrop 78 = .ok (.iload_n 3, 1) := by decide +kernel
theorem dX5_whyNotDrop_79 : decode cX5_whyNotDrop 79 = .ok (.iconst 5, 1) := by decide +kernel
theorem dX5_whyNotDrop_80 : decode cX5_whyNotDrop 80 = .ok (.if_icmp .ne 21, 3) := by decide +kernel
theorem dX5_whyNotDrop_83 : decode cX5_whyNotDrop 83 = .ok (.aload_n 0, 1) := by decide +kernel
theorem dX5_whyNotDrop_84 : decode cX5_whyNotDrop 84 = .ok (.iload_n 1, 1) := by decide +kernel
theorem dX5_whyNotDrop_85 : decode cX5_whyNotDrop 85 = .ok (.iload 5, 2) := by decide +kernel
theorem dX5_whyNotDrop_87 : decode cX5_whyNotDrop 87 = .ok (.iload 4, 2) := by decide +kernel
theorem dX5_whyNotDrop_89 : decode cX5_whyNotDrop 89 = .ok (.iconst 5, 1) := by decide +kernel
theorem dX5_whyNotDrop_90 : decode cX5_whyNotDrop 90 = .ok (.irem, 1) := by decide +kernel
theorem dX5_whyNotDrop_91 : decode cX5_whyNotDrop 91 = .ok (.invokevirtual 67, 3) := by decide +kernel
theorem dX5_whyNotDrop_94 : decode cX5_whyNotDrop 94 = .ok (.ifCond .eq 7, 3) := by decide +kernel
theorem dX5_whyNotDrop_97 : decode cX5_whyNotDrop 97 = .ok (.iconst 4, 1) := by decide +kernel
theorem dX5_whyNotDrop_98 : decode cX5_whyNotDrop 98 = .ok (.goto 4, 3) := by decide +kernel
theorem dX5_whyNotDrop_101 : decode cX5_whyNotDrop 101 = .ok (.iconst 0, 1) := by decide +kernel
theorem dX5_whyNotDrop_102 : decode cX5_whyNotDrop 102 = .ok (.ireturn, 1) := by decide +kernel
set_option maxRecDepth 20000 in
theorem ggX5_whyNot_X5_whyNotMove : GoodIn wsX5_whyNot wsX5_whyNotMove := goodIn_r _ [5, 6, 7, 8, 4, 9, 10, 11, 12, 13, 14, 15, 16, 17, 18, 19, 20, 21, 22, 23, 24, 25, 26, 27, 28, 29, 30, 31, 32, 33, 34, 35, 36, 37, 49, 50, 51, 52, 53, 54, 55, 56] (by decide +kernel) (by decide +kernel)
set_option maxRecDepth 20000 in
theorem gX5_whyNot_X5_whyNotMove : GoodIn wsX5_whyNot (wsV RX5 70 RX5 yX5_whyNotMove wsX5_whyNotMove) := goodIn_app (goodIn_of _ (by decide +kernel)) ggX5_whyNot_X5_whyNotMove
set_option maxRecDepth 20000 in
theorem ggX5_whyNot_X5_whyNotDrop : GoodIn wsX5_whyNot wsX5_whyNotDrop := goodIn_r _ [41, 6, 42, 43, 4, 44, 35, 36, 37, 45, 46, 47, 48, 14, 15, 16, 17, 49, 50, 51, 52, 53, 54, 55, 56] (by decide +kernel) (by decide +kernel)
set_option maxRecDepth 20000 in
theorem gX5_whyNot_X5_whyNotDrop : GoodIn wsX5_whyNot (wsV RX5 73 RX5 yX5_whyNotDrop wsX5_whyNotDrop) := goodIn_app (goodIn_of _ (by decide +kernel)) ggX5_whyNot_X5_whyNotDrop
theorem dX5_whyNot_0 : decode cX5_whyNot 0 = .ok (.iload_n 2, 1) := by decide +kernel
theorem dX5_whyNot_1 : decode cX5_whyNot 1 = .ok (.sipush 1250, 3) := by decide +kernel
theorem dX5_whyNot_4 : decode cX5_whyNot 4 = .ok (.if_icmp .ge 12, 3) := by decide +kernel
theorem dX5_whyNot_7 : decode cX5_whyNot 7 = .ok (.aload_n 0, 1) := by decide +kernel
theorem dX5_whyNot_8 : decode cX5_whyNot 8 = .ok (.iload_n 1, 1) := by decide +kernel
theorem dX5_whyNot_9 : decode cX5_whyNot 9 = .ok (.iload_n 2, 1) := by decide +kernel
theorem dX5_whyNot_10 : decode cX5_whyNot 10 = .ok (.invokevirtual 70, 3) := by decide +kernel
theorem dX5_whyNot_13 : decode cX5_whyNot 13 = .ok (.goto 9, 3) := by decide +kernel
theorem dX5_whyNot_16 : decode cX5_whyNot 16 = .ok (.aload_n 0, 1) := by decide +kernel
theorem dX5_whyNot_17 : decode cX5_whyNot 17 = .ok (.iload_n 1, 1) := by decide +kernel
theorem dX5_whyNot_18 : decode cX5_whyNot 18 = .ok (.iload_n 2, 1) := by decide +kernel
theorem dX5_whyNot_19 : decode cX5_whyNot 19 = .ok (.invokevirtual 73, 3) := by decide +kernel
theorem dX5_whyNot_22 : decode cX5_whyNot 22 = .ok (.ireturn, 1) := by decide +kernel
set_option maxRecDepth 20000 in
theorem ggX5_makes_X5_manAt : GoodIn wsX5_makes wsX5_manAt := goodIn_r _ [6, 1, 13, 14, 15, 16, 17, 18, 19, 20] (by decide +kernel) (by decide +kernel)
set_option maxRecDepth 20000 in
theorem gX5_makes_X5_manAt : GoodIn wsX5_makes (wsV RX5 33 RX5 yX5_manAt wsX5_manAt) := goodIn_app (goodIn_of _ (by decide +kernel)) ggX5_makes_X5_manAt
set_option maxRecDepth 20000 in
theorem ggX5_makes_X5_kindOf : GoodIn wsX5_makes wsX5_kindOf := goodIn_r _ [9] (by decide +kernel) (by decide +kernel)
set_option maxRecDepth 20000 in
theorem gX5_makes_X5_kindOf : GoodIn wsX5_makes (va_wsS RX5 61 yX5_kindOf wsX5_kindOf) := goodIn_app (goodIn_of _ (by decide +kernel)) ggX5_makes_X5_kindOf
set_option maxRecDepth 20000 in
theorem ggX5_makes_X5_from : GoodIn wsX5_makes wsX5_from := goodIn_r _ [12] (by decide +kernel) (by decide +kernel)
set_option maxRecDepth 20000 in
theorem gX5_makes_X5_from : GoodIn wsX5_makes (va_wsS RX5 57 yX5_from wsX5_from) := goodIn_app (goodIn_of _ (by decide +kernel)) ggX5_makes_X5_from
theorem dX5_makes_0 : decode cX5_makes 0 = .ok (.aload_n 0, 1) := by decide +kernel
theorem dX5_makes_1 : decode cX5_makes 1 = .ok (.getfield 7, 3) := by decide +kernel
theorem dX5_makes_4 : decode cX5_makes 4 = .ok (.iload_n 1, 1) := by decide +kernel
theorem dX5_makes_5 : decode cX5_makes 5 = .ok (.bipush 35, 2) := by decide +kernel
theorem dX5_makes_7 : decode cX5_makes 7 = .ok (.iadd, 1) := by decide +kernel
theorem dX5_makes_8 : decode cX5_makes 8 = .ok (.iaload, 1) := by decide +kernel
theorem dX5_makes_9 : decode cX5_makes 9 = .ok (.istore_n 3, 1) := by decide +kernel
theorem dX5_makes_10 : decode cX5_makes 10 = .ok (.iload_n 2, 1) := by decide +kernel
theorem dX5_makes_11 : decode cX5_makes 11 = .ok (.bipush 25, 2) := by decide +kernel
theorem dX5_makes_13 : decode cX5_makes 13 = .ok (.irem, 1) := by decide +kernel
theorem dX5_makes_14 : decode cX5_makes 14 = .ok (.istore 4, 2) := by decide +kernel
theorem dX5_makes_16 : decode cX5_makes 16 = .ok (.aload_n 0, 1) := by decide +kernel
theorem dX5_makes_17 : decode cX5_makes 17 = .ok (.iload_n 1, 1) := by decide +kernel
theorem dX5_makes_18 : decode cX5_makes 18 = .ok (.iload 4, 2) := by decide +kernel
theorem dX5_makes_20 : decode cX5_makes 20 = .ok (.invokevirtual 33, 3) := by decide +kernel
theorem dX5_makes_23 : decode cX5_makes 23 = .ok (.istore 5, 2) := by decide +kernel
theorem dX5_makes_25 : decode cX5_makes 25 = .ok (.aload_n 0, 1) := by decide +kernel
theorem dX5_makes_26 : decode cX5_makes 26 = .ok (.getfield 7, 3) := by decide +kernel
theorem dX5_makes_29 : decode cX5_makes 29 = .ok (.iload_n 1, 1) := by decide +kernel
theorem dX5_makes_30 : decode cX5_makes 30 = .ok (.bipush 35, 2) := by decide +kernel
theorem dX5_makes_32 : decode cX5_makes 32 = .ok (.iadd, 1) := by decide +kernel
theorem dX5_makes_33 : decode cX5_makes 33 = .ok (.iconst 1, 1) := by decide +kernel
theorem dX5_makes_34 : decode cX5_makes 34 = .ok (.iload_n 3, 1) := by decide +kernel
theorem dX5_makes_35 : decode cX5_makes 35 = .ok (.isub, 1) := by decide +kernel
theorem dX5_makes_36 : decode cX5_makes 36 = .ok (.iastore, 1) := by decide +kernel
theorem dX5_makes_37 : decode cX5_makes 37 = .ok (.aload_n 0, 1) := by decide +kernel
theorem dX5_makes_38 : decode cX5_makes 38 = .ok (.getfield 7, 3) := by decide +kernel
theorem dX5_makes_41 : decode cX5_makes 41 = .ok (.iload_n 1, 1) := by decide +kernel
theorem dX5_makes_42 : decode cX5_makes 42 = .ok (.bipush 36, 2) := by decide +kernel
theorem dX5_makes_44 : decode cX5_makes 44 = .ok (.iadd, 1) := by decide +kernel
theorem dX5_makes_45 : decode cX5_makes 45 = .ok (.dup2, 1) := by decide +kernel
theorem dX5_makes_46 : decode cX5_makes 46 = .ok (.iaload, 1) := by decide +kernel
theorem dX5_makes_47 : decode cX5_makes 47 = .ok (.iconst 1, 1) := by decide +kernel
theorem dX5_makes_48 : decode cX5_makes 48 = .ok (.iadd, 1) := by decide +kernel
theorem dX5_makes_49 : decode cX5_makes 49 = .ok (.iastore, 1) := by decide +kernel
theorem dX5_makes_50 : decode cX5_makes 50 = .ok (.iload_n 2, 1) := by decide +kernel
theorem dX5_makes_51 : decode cX5_makes 51 = .ok (.sipush 1250, 3) := by decide +kernel
theorem dX5_makes_54 : decode cX5_makes 54 = .ok (.if_icmp .lt 63, 3) := by decide +kernel
theorem dX5_makes_57 : decode cX5_makes 57 = .ok (.aload_n 0, 1) := by decide +kernel
theorem dX5_makes_58 : decode cX5_makes 58 = .ok (.getfield 7, 3) := by decide +kernel
theorem dX5_makes_61 : decode cX5_makes 61 = .ok (.iload_n 1, 1) := by decide +kernel
theorem dX5_makes_62 : decode cX5_makes 62 = .ok (.bipush 25, 2) := by decide +kernel
theorem dX5_makes_64 : decode cX5_makes 64 = .ok (.iadd, 1) := by decide +kernel
theorem dX5_makes_65 : decode cX5_makes 65 = .ok (.iconst 5, 1) := by decide +kernel
theorem dX5_makes_66 : decode cX5_makes 66 = .ok (.iload_n 3, 1) := by decide +kernel
theorem dX5_makes_67 : decode cX5_makes 67 = .ok (.imul, 1) := by decide +kernel
theorem dX5_makes_68 : decode cX5_makes 68 = .ok (.iadd, 1) := by decide +kernel
theorem dX5_makes_69 : decode cX5_makes 69 = .ok (.iload_n 2, 1) := by decide +kernel
theorem dX5_makes_70 : decode cX5_makes 70 = .ok (.invokestatic 61, 3) := by decide +kernel
theorem dX5_makes_73 : decode cX5_makes 73 = .ok (.iadd, 1) := by decide +kernel
theorem dX5_makes_74 : decode cX5_makes 74 = .ok (.iconst 1, 1) := by decide +kernel
theorem dX5_makes_75 : decode cX5_makes 75 = .ok (.isub, 1) := by decide +kernel
theorem dX5_makes_76 : decode cX5_makes 76 = .ok (.dup2, 1) := by decide +kernel
theorem dX5_makes_77 : decode cX5_makes 77 = .ok (.iaload, 1) := by decide +kernel
theorem dX5_makes_78 : decode cX5_makes 78 = .ok (.iconst 1, 1) := by decide +kernel
theorem dX5_makes_79 : decode cX5_makes 79 = .ok (.isub, 1) := by decide +kernel
theorem dX5_makes_80 : decode cX5_makes 80 = .ok (.iastore, 1) := by decide +kernel
theorem dX5_makes_81 : decode cX5_makes 81 = .ok (.aload_n 0, 1) := by decide +kernel
theorem dX5_makes_82 : decode cX5_makes 82 = .ok (.getfield 7, 3) := by decide +kernel
theorem dX5_makes_85 : decode cX5_makes 85 = .ok (.iload_n 1, 1) := by decide +kernel
theorem dX5_makes_86 : decode cX5_makes 86 = .ok (.iload 4, 2) := by decide +kernel
theorem dX5_makes_88 : decode cX5_makes 88 = .ok (.iadd, 1) := by decide +kernel
theorem dX5_makes_89 : decode cX5_makes 89 = .ok (.bipush 10, 2) := by decide +kernel
theorem dX5_makes_91 : decode cX5_makes 91 = .ok (.iload_n 3, 1) := by decide +kernel
theorem dX5_makes_92 : decode cX5_makes 92 = .ok (.imul, 1) := by decide +kernel
theorem dX5_makes_93 : decode cX5_makes 93 = .ok (.iload_n 2, 1) := by decide +kernel
theorem dX5_makes_94 : decode cX5_makes 94 = .ok (.invokestatic 61, 3) := by decide +kernel
theorem dX5_makes_97 : decode cX5_makes 97 = .ok (.iadd, 1) := by decide +kernel
theorem dX5_makes_98 : decode cX5_makes 98 = .ok (.iconst 1, 1) := by decide +kernel
theorem dX5_makes_99 : decode cX5_makes 99 = .ok (.iadd, 1) := by decide +kernel
theorem dX5_makes_100 : decode cX5_makes 100 = .ok (.iastore, 1) := by decide +kernel
theorem dX5_makes_101 : decode cX5_makes 101 = .ok (.aload_n 0, 1) := by decide +kernel
theorem dX5_makes_102 : decode cX5_makes 102 = .ok (.getfield 7, 3) := by decide +kernel
theorem dX5_makes_105 : decode cX5_makes 105 = .ok (.iload_n 1, 1) := by decide +kernel
theorem dX5_makes_106 : decode cX5_makes 106 = .ok (.bipush 39, 2) := by decide +kernel
theorem dX5_makes_108 : decode cX5_makes 108 = .ok (.iadd, 1) := by decide +kernel
theorem dX5_makes_109 : decode cX5_makes 109 = .ok (.dup2, 1) := by decide +kernel
theorem dX5_makes_110 : decode cX5_makes 110 = .ok (.iaload, 1) := by decide +kernel
theorem dX5_makes_111 : decode cX5_makes 111 = .ok (.iconst 1, 1) := by decide +kernel
theorem dX5_makes_112 : decode cX5_makes 112 = .ok (.iadd, 1) := by decide +kernel
theorem dX5_makes_113 : decode cX5_makes 113 = .ok (.iastore, 1) := by decide +kernel
theorem dX5_makes_114 : decode cX5_makes 114 = .ok (.iload 5, 2) := by decide +kernel
theorem dX5_makes_116 : decode cX5_makes 116 = .ok (.ireturn, 1) := by decide +kernel
theorem dX5_makes_117 : decode cX5_makes 117 = .ok (.iload_n 2, 1) := by decide +kernel
theorem dX5_makes_118 : decode cX5_makes 118 = .ok (.invokestatic 57, 3) := by decide +kernel
theorem dX5_makes_121 : decode cX5_makes 121 = .ok (.istore 6, 2) := by decide +kernel
theorem dX5_makes_123 : decode cX5_makes 123 = .ok (.iload 5, 2) := by decide +kernel
theorem dX5_makes_125 : decode cX5_makes 125 = .ok (.ifCond .lt 64, 3) := by decide +kernel
theorem dX5_makes_128 : decode cX5_makes 128 = .ok (.iload 5, 2) := by decide +kernel
theorem dX5_makes_130 : decode cX5_makes 130 = .ok (.bipush 10, 2) := by decide +kernel
theorem dX5_makes_132 : decode cX5_makes 132 = .ok (.irem, 1) := by decide +kernel
theorem dX5_makes_133 : decode cX5_makes 133 = .ok (.iconst 5, 1) := by decide +kernel
theorem dX5_makes_134 : decode cX5_makes 134 = .ok (.if_icmp .le 13, 3) := by decide +kernel
theorem dX5_makes_137 : decode cX5_makes 137 = .ok (.iload 5, 2) := by decide +kernel
theorem dX5_makes_139 : decode cX5_makes 139 = .ok (.bipush 10, 2) := by decide +kernel
theorem dX5_makes_141 : decode cX5_makes 141 = .ok (.irem, 1) := by decide +kernel
theorem dX5_makes_142 : decode cX5_makes 142 = .ok (.iconst 4, 1) := by decide +kernel
theorem dX5_makes_143 : decode cX5_makes 143 = .ok (.isub, 1) := by decide +kernel
theorem dX5_makes_144 : decode cX5_makes 144 = .ok (.goto 8, 3) := by decide +kernel
theorem dX5_makes_147 : decode cX5_makes 147 = .ok (.iload 5, 2) := by decide +kernel
theorem dX5_makes_149 : decode cX5_makes 149 = .ok (.bipush 10, 2) := by decide +kernel
theorem dX5_makes_151 : decode cX5_makes 151 = .ok (.irem, 1) := by decide +kernel
theorem dX5_makes_152 : decode cX5_makes 152 = .ok (.istore 7, 2) := by decide +kernel
theorem dX5_makes_154 : decode cX5_makes 154 = .ok (.aload_n 0, 1) := by decide +kernel
theorem dX5_makes_155 : decode cX5_makes 155 = .ok (.getfield 7, 3) := by decide +kernel
theorem dX5_makes_158 : decode cX5_makes 158 = .ok (.iload_n 1, 1) := by decide +kernel
theorem dX5_makes_159 : decode cX5_makes 159 = .ok (.bipush 25, 2) := by decide +kernel
theorem dX5_makes_161 : decode cX5_makes 161 = .ok (.iadd, 1) := by decide +kernel
theorem dX5_makes_162 : decode cX5_makes 162 = .ok (.iconst 5, 1) := by decide +kernel
theorem dX5_makes_163 : decode cX5_makes 163 = .ok (.iload_n 3, 1) := by decide +kernel
theorem dX5_makes_164 : decode cX5_makes 164 = .ok (.imul, 1) := by decide +kernel
theorem dX5_makes_165 : decode cX5_makes 165 = .ok (.iadd, 1) := by decide +kernel
theorem dX5_makes_166 : decode cX5_makes 166 = .ok (.iload 7, 2) := by decide +kernel
theorem dX5_makes_168 : decode cX5_makes 168 = .ok (.iadd, 1) := by decide +kernel
theorem dX5_makes_169 : decode cX5_makes 169 = .ok (.iconst 1, 1) := by decide +kernel
theorem dX5_makes_170 : decode cX5_makes 170 = .ok (.isub, 1) := by decide +kernel
theorem dX5_makes_171 : decode cX5_makes 171 = .ok (.dup2, 1) := by decide +kernel
theorem dX5_makes_172 : decode cX5_makes 172 = .ok (.iaload, 1) := by decide +kernel
theorem dX5_makes_173 : decode cX5_makes 173 = .ok (.iconst 1, 1) := by decide +kernel
theorem dX5_makes_174 : decode cX5_makes 174 = .ok (.iadd, 1) := by decide +kernel
theorem dX5_makes_175 : decode cX5_makes 175 = .ok (.iastore, 1) := by decide +kernel
theorem dX5_makes_176 : decode cX5_makes 176 = .ok (.aload_n 0, 1) := by decide +kernel
theorem dX5_makes_177 : decode cX5_makes 177 = .ok (.getfield 7, 3) := by decide +kernel
theorem dX5_makes_180 : decode cX5_makes 180 = .ok (.iload_n 1, 1) := by decide +kernel
theorem dX5_makes_181 : decode cX5_makes 181 = .ok (.bipush 37, 2) := by decide +kernel
theorem dX5_makes_183 : decode cX5_makes 183 = .ok (.iadd, 1) := by decide +kernel
theorem dX5_makes_184 : decode cX5_makes 184 = .ok (.dup2, 1) := by decide +kernel
theorem dX5_makes_185 : decode cX5_makes 185 = .ok (.iaload, 1) := by decide +kernel
theorem dX5_makes_186 : decode cX5_makes 186 = .ok (.iconst 1, 1) := by decide +kernel
theorem dX5_makes_187 : decode cX5_makes 187 = .ok (.iadd, 1) := by decide +kernel
theorem dX5_makes_188 : decode cX5_makes 188 = .ok (.iastore, 1) := by decide +kernel
theorem dX5_makes_189 : decode cX5_makes 189 = .ok (.aload_n 0, 1) := by decide +kernel
theorem dX5_makes_190 : decode cX5_makes 190 = .ok (.getfield 7, 3) := by decide +kernel
theorem dX5_makes_193 : decode cX5_makes 193 = .ok (.iload_n 1, 1) := by decide +kernel
theorem dX5_makes_194 : decode cX5_makes 194 = .ok (.iload 4, 2) := by decide +kernel
theorem dX5_makes_196 : decode cX5_makes 196 = .ok (.iadd, 1) := by decide +kernel
theorem dX5_makes_197 : decode cX5_makes 197 = .ok (.aload_n 0, 1) := by decide +kernel
theorem dX5_makes_198 : decode cX5_makes 198 = .ok (.getfield 7, 3) := by decide +kernel
theorem dX5_makes_201 : decode cX5_makes 201 = .ok (.iload_n 1, 1) := by decide +kernel
theorem dX5_makes_202 : decode cX5_makes 202 = .ok (.iload 6, 2) := by decide +kernel
theorem dX5_makes_204 : decode cX5_makes 204 = .ok (.iadd, 1) := by decide +kernel
theorem dX5_makes_205 : decode cX5_makes 205 = .ok (.iaload, 1) := by decide +kernel
theorem dX5_makes_206 : decode cX5_makes 206 = .ok (.iload_n 2, 1) := by decide +kernel
theorem dX5_makes_207 : decode cX5_makes 207 = .ok (.sipush 625, 3) := by decide +kernel
theorem dX5_makes_210 : decode cX5_makes 210 = .ok (.if_icmp .ge 7, 3) := by decide +kernel
theorem dX5_makes_213 : decode cX5_makes 213 = .ok (.iconst 0, 1) := by decide +kernel
theorem dX5_makes_214 : decode cX5_makes 214 = .ok (.goto 4, 3) := by decide +kernel
theorem dX5_makes_217 : decode cX5_makes 217 = .ok (.iconst 4, 1) := by decide +kernel
theorem dX5_makes_218 : decode cX5_makes 218 = .ok (.iadd, 1) := by decide +kernel
theorem dX5_makes_219 : decode cX5_makes 219 = .ok (.iastore, 1) := by decide +kernel
theorem dX5_makes_220 : decode cX5_makes 220 = .ok (.aload_n 0, 1) := by decide +kernel
theorem dX5_makes_221 : decode cX5_makes 221 = .ok (.getfield 7, 3) := by decide +kernel
theorem dX5_makes_224 : decode cX5_makes 224 = .ok (.iload_n 1, 1) := by decide +kernel
theorem dX5_makes_225 : decode cX5_makes 225 = .ok (.iload 6, 2) := by decide +kernel
theorem dX5_makes_227 : decode cX5_makes 227 = .ok (.iadd, 1) := by decide +kernel
theorem dX5_makes_228 : decode cX5_makes 228 = .ok (.iconst 0, 1) := by decide +kernel
theorem dX5_makes_229 : decode cX5_makes 229 = .ok (.iastore, 1) := by decide +kernel
theorem dX5_makes_230 : decode cX5_makes 230 = .ok (.aload_n 0, 1) := by decide +kernel
theorem dX5_makes_231 : decode cX5_makes 231 = .ok (.getfield 7, 3) := by decide +kernel
theorem dX5_makes_234 : decode cX5_makes 234 = .ok (.iload_n 1, 1) := by decide +kernel
theorem dX5_makes_235 : decode cX5_makes 235 = .ok (.bipush 38, 2) := by decide +kernel
theorem dX5_makes_237 : decode cX5_makes 237 = .ok (.iadd, 1) := by decide +kernel
theorem dX5_makes_238 : decode cX5_makes 238 = .ok (.dup2, 1) := by decide +kernel
theorem dX5_makes_239 : decode cX5_makes 239 = .ok (.iaload, 1) := by decide +kernel
theorem dX5_makes_240 : decode cX5_makes 240 = .ok (.iload_n 2, 1) := by decide +kernel
theorem dX5_makes_241 : decode cX5_makes 241 = .ok (.sipush 625, 3) := by decide +kernel
theorem dX5_makes_244 : decode cX5_makes 244 = .ok (.if_icmp .ge 7, 3) := by decide +kernel
theorem dX5_makes_247 : decode cX5_makes 247 = .ok (.iconst 0, 1) := by decide +kernel
theorem dX5_makes_248 : decode cX5_makes 248 = .ok (.goto 4, 3) := by decide +kernel
theorem dX5_makes_251 : decode cX5_makes 251 = .ok (.iconst 1, 1) := by decide +kernel
theorem dX5_makes_252 : decode cX5_makes 252 = .ok (.iadd, 1) := by decide +kernel
theorem dX5_makes_253 : decode cX5_makes 253 = .ok (.iastore, 1) := by decide +kernel
theorem dX5_makes_254 : decode cX5_makes 254 = .ok (.iload 5, 2) := by decide +kernel
theorem dX5_makes_256 : decode cX5_makes 256 = .ok (.ireturn, 1) := by decide +kernel
set_option maxRecDepth 20000 in
theorem ggX5_tries_X5_makes : GoodIn wsX5_tries wsX5_makes := goodIn_r _ [6, 1, 7, 8, 9, 5, 10, 11, 12, 13, 14, 15, 16, 17, 18, 19, 20, 21, 22, 23, 24] (by decide +kernel) (by decide +kernel)
set_option maxRecDepth 20000 in
theorem gX5_tries_X5_makes : GoodIn wsX5_tries (wsV RX5 76 RX5 yX5_makes wsX5_makes) := goodIn_app (goodIn_of _ (by decide +kernel)) ggX5_tries_X5_makes
theorem dX5_tries_0 : decode cX5_tries 0 = .ok (.iconst 0, 1) := by decide +kernel
theorem dX5_tries_1 : decode cX5_tries 1 = .ok (.istore_n 3, 1) := by decide +kernel
theorem dX5_tries_2 : decode cX5_tries 2 = .ok (.iload_n 3, 1) := by decide +kernel
theorem dX5_tries_3 : decode cX5_tries 3 = .ok (.bipush 40, 2) := by decide +kernel
theorem dX5_tries_5 : decode cX5_tries 5 = .ok (.if_icmp .ge 28, 3) := by decide +kernel
theorem dX5_tries_8 : decode cX5_tries 8 = .ok (.aload_n 0, 1) := by decide +kernel
theorem dX5_tries_9 : decode cX5_tries 9 = .ok (.getfield 7, 3) := by decide +kernel
theorem dX5_tries_12 : decode cX5_tries 12 = .ok (.iload_n 1, 1) := by decide +kernel
theorem dX5_tries_13 : decode cX5_tries 13 = .ok (.bipush 40, 2) := by decide +kernel
theorem dX5_tries_15 : decode cX5_tries 15 = .ok (.iadd, 1) := by decide +kernel
theorem dX5_tries_16 : decode cX5_tries 16 = .ok (.iload_n 3, 1) := by decide +kernel
theorem dX5_tries_17 : decode cX5_tries 17 = .ok (.iadd, 1) := by decide +kernel
theorem dX5_tries_18 : decode cX5_tries 18 = .ok (.aload_n 0, 1) := by decide +kernel
theorem dX5_tries_19 : decode cX5_tries 19 = .ok (.getfield 7, 3) := by decide +kernel
theorem dX5_tries_22 : decode cX5_tries 22 = .ok (.iload_n 1, 1) := by decide +kernel
theorem dX5_tries_23 : decode cX5_tries 23 = .ok (.iload_n 3, 1) := by decide +kernel
theorem dX5_tries_24 : decode cX5_tries 24 = .ok (.iadd, 1) := by decide +kernel
theorem dX5_tries_25 : decode cX5_tries 25 = .ok (.iaload, 1) := by decide +kernel
theorem dX5_tries_26 : decode cX5_tries 26 = .ok (.iastore, 1) := by decide +kernel
theorem dX5_tries_27 : decode cX5_tries 27 = .ok (.iinc 3 1, 3) := by decide +kernel
theorem dX5_tries_30 : decode cX5_tries 30 = .ok (.goto (-28), 3) := by decide +kernel
theorem dX5_tries_33 : decode cX5_tries 33 = .ok (.aload_n 0, 1) := by decide +kernel
theorem dX5_tries_34 : decode cX5_tries 34 = .ok (.iload_n 1, 1) := by decide +kernel
theorem dX5_tries_35 : decode cX5_tries 35 = .ok (.bipush 40, 2) := by decide +kernel
theorem dX5_tries_37 : decode cX5_tries 37 = .ok (.iadd, 1) := by decide +kernel
theorem dX5_tries_38 : decode cX5_tries 38 = .ok (.iload_n 2, 1) := by decide +kernel
theorem dX5_tries_39 : decode cX5_tries 39 = .ok (.invokevirtual 76, 3) := by decide +kernel
theorem dX5_tries_42 : decode cX5_tries 42 = .ok (.istore_n 3, 1) := by decide +kernel
theorem dX5_tries_43 : decode cX5_tries 43 = .ok (.return_, 1) := by decide +kernel
set_option maxRecDepth 20000 in
theorem ggX5_hasPlay_X5_whyNot : GoodIn wsX5_hasPlay wsX5_whyNot := goodIn_r _ [6, 7, 8, 9, 5, 10, 1, 11, 12, 13, 14, 15, 16, 17, 18, 19, 20, 21, 22, 23, 24, 25, 26, 27, 28, 29, 30, 31, 32, 33, 34, 35, 36, 37, 38, 39, 40, 41, 42, 43, 44, 45, 46, 47, 48, 49, 50, 51, 52, 69, 70, 71, 72, 73, 74, 75, 76] (by decide +kernel) (by decide +kernel)
set_option maxRecDepth 20000 in
theorem gX5_hasPlay_X5_whyNot : GoodIn wsX5_hasPlay (wsV RX5 79 RX5 yX5_whyNot wsX5_whyNot) := goodIn_app (goodIn_of _ (by decide +kernel)) ggX5_hasPlay_X5_whyNot
set_option maxRecDepth 20000 in
theorem ggX5_hasPlay_X5_tries : GoodIn wsX5_hasPlay wsX5_tries := goodIn_r _ [56, 1, 57, 58, 59, 5, 60, 18, 19, 20, 21, 46, 47, 48, 11, 12, 13, 69, 70, 71, 72, 73, 74, 75, 76] (by decide +kernel) (by decide +kernel)
set_option maxRecDepth 20000 in
theorem gX5_hasPlay_X5_tries : GoodIn wsX5_hasPlay (wsV RX5 82 RX5 yX5_tries wsX5_tries) := goodIn_app (goodIn_of _ (by decide +kernel)) ggX5_hasPlay_X5_tries
set_option maxRecDepth 20000 in
theorem ggX5_hasPlay_X5_isInCheck : GoodIn wsX5_hasPlay wsX5_isInCheck := goodIn_r _ [64, 1, 65, 66, 67, 5, 68, 14, 15, 16, 17, 18, 19, 20, 21, 22, 23, 24, 25, 26, 27, 28, 29, 30, 31, 32, 33, 34, 35, 36, 37, 38, 69, 70, 71, 72, 73, 74, 75, 76] (by decide +kernel) (by decide +kernel)
set_option maxRecDepth 20000 in
theorem gX5_hasPlay_X5_isInCheck : GoodIn wsX5_hasPlay (wsV RX5 86 RX5 yX5_isInCheck wsX5_isInCheck) := goodIn_app (goodIn_of _ (by decide +kernel)) ggX5_hasPlay_X5_isInCheck
theorem dX5_hasPlay_0 : decode cX5_hasPlay 0 = .ok (.iconst 0, 1) := by decide +kernel
theorem dX5_hasPlay_1 : decode cX5_hasPlay 1 = .ok (.istore_n 2, 1) := by decide +kernel
theorem dX5_hasPlay_2 : decode cX5_hasPlay 2 = .ok (.iload_n 2, 1) := by decide +kernel
theorem dX5_hasPlay_3 : decode cX5_hasPlay 3 = .ok (.sipush 1375, 3) := by decide +kernel
theorem dX5_hasPlay_6 : decode cX5_hasPlay 6 = .ok (.if_icmp .ge 46, 3) := by decide +kernel
theorem dX5_hasPlay_9 : decode cX5_hasPlay 9 = .ok (.aload_n 0, 1) := by decide +kernel
theorem dX5_hasPlay_10 : decode cX5_hasPlay 10 = .ok (.iload_n 1, 1) := by decide +kernel
theorem dX5_hasPlay_11 : decode cX5_hasPlay 11 = .ok (.iload_n 2, 1) := by decide +kernel
theorem dX5_hasPlay_12 : decode cX5_hasPlay 12 = .ok (.invokevirtual 79, 3) := by decide +kernel
theorem dX5_hasPlay_15 : decode cX5_hasPlay 15 = .ok (.ifCond .ne 31, 3) := by decide +kernel
theorem dX5_hasPlay_18 : decode cX5_hasPlay 18 = .ok (.aload_n 0, 1) := by decide +kernel
theorem dX5_hasPlay_19 : decode cX5_hasPlay 19 = .ok (.iload_n 1, 1) := by decide +kernel
theorem dX5_hasPlay_20 : decode cX5_hasPlay 20 = .ok (.iload_n 2, 1) := by decide +kernel
theorem dX5_hasPlay_21 : decode cX5_hasPlay 21 = .ok (.invokevirtual 82, 3) := by decide +kernel
theorem dX5_hasPlay_24 : decode cX5_hasPlay 24 = .ok (.aload_n 0, 1) := by decide +kernel
theorem dX5_hasPlay_25 : decode cX5_hasPlay 25 = .ok (.iload_n 1, 1) := by decide +kernel
theorem dX5_hasPlay_26 : decode cX5_hasPlay 26 = .ok (.bipush 40, 2) := by decide +kernel
theorem dX5_hasPlay_28 : decode cX5_hasPlay 28 = .ok (.iadd, 1) := by decide +kernel
theorem dX5_hasPlay_29 : decode cX5_hasPlay 29 = .ok (.aload_n 0, 1) := by decide +kernel
theorem dX5_hasPlay_30 : decode cX5_hasPlay 30 = .ok (.getfield 7, 3) := by decide +kernel
theorem dX5_hasPlay_33 : decode cX5_hasPlay 33 = .ok (.iload_n 1, 1) := by decide +kernel
theorem dX5_hasPlay_34 : decode cX5_hasPlay 34 = .ok (.bipush 35, 2) := by decide +kernel
theorem dX5_hasPlay_36 : decode cX5_hasPlay 36 = .ok (.iadd, 1) := by decide +kernel
theorem dX5_hasPlay_37 : decode cX5_hasPlay 37 = .ok (.iaload, 1) := by decide +kernel
theorem dX5_hasPlay_38 : decode cX5_hasPlay 38 = .ok (.invokevirtual 86, 3) := by decide +kernel
theorem dX5_hasPlay_41 : decode cX5_hasPlay 41 = .ok (.ifCond .ne 5, 3) := by decide +kernel
theorem dX5_hasPlay_44 : decode cX5_hasPlay 44 = .ok (.iconst 1, 1) := by decide +kernel
theorem dX5_hasPlay_45 : decode cX5_hasPlay 45 = .ok (.ireturn, 1) := by decide +kernel
theorem dX5_hasPlay_46 : decode cX5_hasPlay 46 = .ok (.iinc 2 1, 3) := by decide +kernel
theorem dX5_hasPlay_49 : decode cX5_hasPlay 49 = .ok (.goto (-47), 3) := by decide +kernel
theorem dX5_hasPlay_52 : decode cX5_hasPlay 52 = .ok (.iconst 0, 1) := by decide +kernel
theorem dX5_hasPlay_53 : decode cX5_hasPlay 53 = .ok (.ireturn, 1) := by decide +kernel
set_option maxRecDepth 20000 in
theorem ggX5_reason_X5_whyNot : GoodIn wsX5_reason wsX5_whyNot := goodIn_r _ [6, 7, 8, 9, 5, 10, 1, 11, 12, 13, 14, 15, 16, 17, 18, 19, 20, 21, 22, 23, 24, 25, 26, 27, 28, 29, 30, 31, 32, 33, 34, 35, 36, 37, 38, 39, 40, 41, 42, 43, 44, 45, 46, 47, 48, 49, 50, 51, 52, 73, 74, 75, 76, 77, 78, 79, 80] (by decide +kernel) (by decide +kernel)
set_option maxRecDepth 20000 in
theorem gX5_reason_X5_whyNot : GoodIn wsX5_reason (wsV RX5 79 RX5 yX5_whyNot wsX5_whyNot) := goodIn_app (goodIn_of _ (by decide +kernel)) ggX5_reason_X5_whyNot
set_option maxRecDepth 20000 in
theorem ggX5_reason_X5_tries : GoodIn wsX5_reason wsX5_tries := goodIn_r _ [56, 1, 57, 58, 59, 5, 60, 18, 19, 20, 21, 46, 47, 48, 11, 12, 13, 73, 74, 75, 76, 77, 78, 79, 80] (by decide +kernel) (by decide +kernel)
set_option maxRecDepth 20000 in
theorem gX5_reason_X5_tries : GoodIn wsX5_reason (wsV RX5 82 RX5 yX5_tries wsX5_tries) := goodIn_app (goodIn_of _ (by decide +kernel)) ggX5_reason_X5_tries
set_option maxRecDepth 20000 in
theorem ggX5_reason_X5_isInCheck : GoodIn wsX5_reason wsX5_isInCheck := goodIn_r _ [64, 1, 65, 66, 67, 5, 68, 14, 15, 16, 17, 18, 19, 20, 21, 22, 23, 24, 25, 26, 27, 28, 29, 30, 31, 32, 33, 34, 35, 36, 37, 38, 73, 74, 75, 76, 77, 78, 79, 80] (by decide +kernel) (by decide +kernel)
set_option maxRecDepth 20000 in
theorem gX5_reason_X5_isInCheck : GoodIn wsX5_reason (wsV RX5 86 RX5 yX5_isInCheck wsX5_isInCheck) := goodIn_app (goodIn_of _ (by decide +kernel)) ggX5_reason_X5_isInCheck
set_option maxRecDepth 20000 in
theorem ggX5_reason_X5_kindOf : GoodIn wsX5_reason wsX5_kindOf := goodIn_r _ [48] (by decide +kernel) (by decide +kernel)
set_option maxRecDepth 20000 in
theorem gX5_reason_X5_kindOf : GoodIn wsX5_reason (va_wsS RX5 61 yX5_kindOf wsX5_kindOf) := goodIn_app (goodIn_of _ (by decide +kernel)) ggX5_reason_X5_kindOf
set_option maxRecDepth 20000 in
theorem ggX5_reason_X5_hasPlay : GoodIn wsX5_reason wsX5_hasPlay := goodIn_r _ [72, 1, 2, 3, 4, 5, 6, 7, 8, 9, 10, 11, 12, 13, 14, 15, 16, 17, 18, 19, 20, 21, 22, 23, 24, 25, 26, 27, 28, 29, 30, 31, 32, 33, 34, 35, 36, 37, 38, 39, 40, 41, 42, 43, 44, 45, 46, 47, 48, 49, 50, 51, 52, 53, 54, 55, 56, 57, 58, 59, 60, 61, 62, 63, 64, 65, 66, 67, 68, 73, 74, 75, 76, 77, 78, 79, 80] (by decide +kernel) (by decide +kernel)
set_option maxRecDepth 20000 in
theorem gX5_reason_X5_hasPlay : GoodIn wsX5_reason (wsV RX5 90 RX5 yX5_hasPlay wsX5_hasPlay) := goodIn_app (goodIn_of _ (by decide +kernel)) ggX5_reason_X5_hasPlay
theorem dX5_reason_0 : decode cX5_reason 0 = .ok (.aload_n 0, 1) := by decide +kernel
theorem dX5_reason_1 : decode cX5_reason 1 = .ok (.iload_n 1, 1) := by decide +kernel
theorem dX5_reason_2 : decode cX5_reason 2 = .ok (.iload_n 2, 1) := by decide +kernel
theorem dX5_reason_3 : decode cX5_reason 3 = .ok (.invokevirtual 79, 3) := by decide +kernel
theorem dX5_reason_6 : decode cX5_reason 6 = .ok (.istore_n 3, 1) := by decide +kernel
theorem dX5_reason_7 : decode cX5_reason 7 = .ok (.iload_n 3, 1) := by decide +kernel
theorem dX5_reason_8 : decode cX5_reason 8 = .ok (.ifCond .le 5, 3) := by decide +kernel
theorem dX5_reason_11 : decode cX5_reason 11 = .ok (.iload_n 3, 1) := by decide +kernel
theorem dX5_reason_12 : decode cX5_reason 12 = .ok (.ireturn, 1) := by decide +kernel
theorem dX5_reason_13 : decode cX5_reason 13 = .ok (.aload_n 0, 1) := by decide +kernel
theorem dX5_reason_14 : decode cX5_reason 14 = .ok (.iload_n 1, 1) := by decide +kernel
theorem dX5_reason_15 : decode cX5_reason 15 = .ok (.iload_n 2, 1) := by decide +kernel
theorem dX5_reason_16 : decode cX5_reason 16 = .ok (.invokevirtual 82, 3) := by decide +kernel
theorem dX5_reason_19 : decode cX5_reason 19 = .ok (.aload_n 0, 1) := by decide +kernel
theorem dX5_reason_20 : decode cX5_reason 20 = .ok (.iload_n 1, 1) := by decide +kernel
theorem dX5_reason_21 : decode cX5_reason 21 = .ok (.bipush 40, 2) := by decide +kernel
theorem dX5_reason_23 : decode cX5_reason 23 = .ok (.iadd, 1) := by decide +kernel
theorem dX5_reason_24 : decode cX5_reason 24 = .ok (.aload_n 0, 1) := by decide +kernel
theorem dX5_reason_25 : decode cX5_reason 25 = .ok (.getfield 7, 3) := by decide +kernel
theorem dX5_reason_28 : decode cX5_reason 28 = .ok (.iload_n 1, 1) := by decide +kernel
theorem dX5_reason_29 : decode cX5_reason 29 = .ok (.bipush 35, 2) := by decide +kernel
theorem dX5_reason_31 : decode cX5_reason 31 = .ok (.iadd, 1) := by decide +kernel
theorem dX5_reason_32 : decode cX5_reason 32 = .ok (.iaload, 1) := by decide +kernel
theorem dX5_reason_33 : decode cX5_reason 33 = .ok (.invokevirtual 86, 3) := by decide +kernel
theorem dX5_reason_36 : decode cX5_reason 36 = .ok (.ifCond .eq 17, 3) := by decide +kernel
theorem dX5_reason_39 : decode cX5_reason 39 = .ok (.iload_n 2, 1) := by decide +kernel
theorem dX5_reason_40 : decode cX5_reason 40 = .ok (.sipush 1250, 3) := by decide +kernel
theorem dX5_reason_43 : decode cX5_reason 43 = .ok (.if_icmp .ge 8, 3) := by decide +kernel
theorem dX5_reason_46 : decode cX5_reason 46 = .ok (.bipush 6, 2) := by decide +kernel
theorem dX5_reason_48 : decode cX5_reason 48 = .ok (.goto 4, 3) := by decide +kernel
theorem dX5_reason_51 : decode cX5_reason 51 = .ok (.iconst 5, 1) := by decide +kernel
theorem dX5_reason_52 : decode cX5_reason 52 = .ok (.ireturn, 1) := by decide +kernel
theorem dX5_reason_53 : decode cX5_reason 53 = .ok (.iload_n 2, 1) := by decide +kernel
theorem dX5_reason_54 : decode cX5_reason 54 = .ok (.sipush 1250, 3) := by decide +kernel
theorem dX5_reason_57 : decode cX5_reason 57 = .ok (.if_icmp .lt 15, 3) := by decide +kernel
theorem dX5_reason_60 : decode cX5_reason 60 = .ok (.iload_n 2, 1) := by decide +kernel
theorem dX5_reason_61 : decode cX5_reason 61 = .ok (.invokestatic 61, 3) := by decide +kernel
theorem dX5_reason_64 : decode cX5_reason 64 = .ok (.iconst 5, 1) := by decide +kernel
theorem dX5_reason_65 : decode cX5_reason 65 = .ok (.if_icmp .ne 7, 3) := by decide +kernel
theorem dX5_reason_68 : decode cX5_reason 68 = .ok (.iconst 1, 1) := by decide +kernel
theorem dX5_reason_69 : decode cX5_reason 69 = .ok (.goto 4, 3) := by decide +kernel
theorem dX5_reason_72 : decode cX5_reason 72 = .ok (.iconst 0, 1) := by decide +kernel
theorem dX5_reason_73 : decode cX5_reason 73 = .ok (.istore 4, 2) := by decide +kernel
theorem dX5_reason_75 : decode cX5_reason 75 = .ok (.iload 4, 2) := by decide +kernel
theorem dX5_reason_77 : decode cX5_reason 77 = .ok (.ifCond .eq 41, 3) := by decide +kernel
theorem dX5_reason_80 : decode cX5_reason 80 = .ok (.aload_n 0, 1) := by decide +kernel
theorem dX5_reason_81 : decode cX5_reason 81 = .ok (.iload_n 1, 1) := by decide +kernel
theorem dX5_reason_82 : decode cX5_reason 82 = .ok (.bipush 40, 2) := by decide +kernel
theorem dX5_reason_84 : decode cX5_reason 84 = .ok (.iadd, 1) := by decide +kernel
theorem dX5_reason_85 : decode cX5_reason 85 = .ok (.iconst 1, 1) := by decide +kernel
theorem dX5_reason_86 : decode cX5_reason 86 = .ok (.aload_n 0, 1) := by decide +kernel
theorem dX5_reason_87 : decode cX5_reason 87 = .ok (.getfield 7, 3) := by decide +kernel
theorem dX5_reason_90 : decode cX5_reason 90 = .ok (.iload_n 1, 1) := by decide +kernel
theorem dX5_reason_91 : decode cX5_reason 91 = .ok (.bipush 35, 2) := by decide +kernel
theorem dX5_reason_93 : decode cX5_reason 93 = .ok (.iadd, 1) := by decide +kernel
theorem dX5_reason_94 : decode cX5_reason 94 = .ok (.iaload, 1) := by decide +kernel
theorem dX5_reason_95 : decode cX5_reason 95 = .ok (.isub, 1) := by decide +kernel
theorem dX5_reason_96 : decode cX5_reason 96 = .ok (.invokevirtual 86, 3) := by decide +kernel
theorem dX5_reason_99 : decode cX5_reason 99 = .ok (.ifCond .eq 19, 3) := by decide +kernel
theorem dX5_reason_102 : decode cX5_reason 102 = .ok (.aload_n 0, 1) := by decide +kernel
theorem dX5_reason_103 : decode cX5_reason 103 = .ok (.iload_n 1, 1) := by decide +kernel
theorem dX5_reason_104 : decode cX5_reason 104 = .ok (.bipush 40, 2) := by decide +kernel
theorem dX5_reason_106 : decode cX5_reason 106 = .ok (.iadd, 1) := by decide +kernel
theorem dX5_reason_107 : decode cX5_reason 107 = .ok (.invokevirtual 90, 3) := by decide +kernel
theorem dX5_reason_110 : decode cX5_reason 110 = .ok (.ifCond .ne 8, 3) := by decide +kernel
theorem dX5_reason_113 : decode cX5_reason 113 = .ok (.bipush 6, 2) := by decide +kernel
theorem dX5_reason_115 : decode cX5_reason 115 = .ok (.goto 4, 3) := by decide +kernel
theorem dX5_reason_118 : decode cX5_reason 118 = .ok (.iconst 0, 1) := by decide +kernel
theorem dX5_reason_119 : decode cX5_reason 119 = .ok (.ireturn, 1) := by decide +kernel
set_option maxRecDepth 20000 in
theorem ggX5_plays_X5_reason : GoodIn wsX5_plays wsX5_reason := goodIn_r _ [5, 6, 7, 8, 9, 4, 10, 11, 12, 13, 14, 15, 16, 17, 18, 19, 20, 21, 22, 23, 24, 25, 26, 27, 28, 29, 30, 31, 32, 33, 34, 35, 36, 37, 38, 39, 40, 41, 42, 43, 44, 45, 46, 47, 48, 49, 50, 51, 52, 53, 54, 55, 56, 57, 58, 59, 60, 61, 62, 63, 64, 65, 66, 67, 68, 69, 70, 71, 72, 73, 74, 75, 76, 77, 78, 79, 80, 81, 82, 83, 84] (by decide +kernel) (by decide +kernel)
set_option maxRecDepth 20000 in
theorem gX5_plays_X5_reason : GoodIn wsX5_plays (wsV RX5 94 RX5 yX5_reason wsX5_reason) := goodIn_app (goodIn_of _ (by decide +kernel)) ggX5_plays_X5_reason
theorem dX5_plays_0 : decode cX5_plays 0 = .ok (.iconst 0, 1) := by decide +kernel
theorem dX5_plays_1 : decode cX5_plays 1 = .ok (.istore_n 2, 1) := by decide +kernel
theorem dX5_plays_2 : decode cX5_plays 2 = .ok (.iconst 0, 1) := by decide +kernel
theorem dX5_plays_3 : decode cX5_plays 3 = .ok (.istore_n 3, 1) := by decide +kernel
theorem dX5_plays_4 : decode cX5_plays 4 = .ok (.iload_n 3, 1) := by decide +kernel
theorem dX5_plays_5 : decode cX5_plays 5 = .ok (.sipush 1375, 3) := by decide +kernel
theorem dX5_plays_8 : decode cX5_plays 8 = .ok (.if_icmp .ge 26, 3) := by decide +kernel
theorem dX5_plays_11 : decode cX5_plays 11 = .ok (.iload_n 2, 1) := by decide +kernel
theorem dX5_plays_12 : decode cX5_plays 12 = .ok (.aload_n 0, 1) := by decide +kernel
theorem dX5_plays_13 : decode cX5_plays 13 = .ok (.iload_n 1, 1) := by decide +kernel
theorem dX5_plays_14 : decode cX5_plays 14 = .ok (.iload_n 3, 1) := by decide +kernel
theorem dX5_plays_15 : decode cX5_plays 15 = .ok (.invokevirtual 94, 3) := by decide +kernel
theorem dX5_plays_18 : decode cX5_plays 18 = .ok (.ifCond .ne 7, 3) := by decide +kernel
theorem dX5_plays_21 : decode cX5_plays 21 = .ok (.iconst 1, 1) := by decide +kernel
theorem dX5_plays_22 : decode cX5_plays 22 = .ok (.goto 4, 3) := by decide +kernel
theorem dX5_plays_25 : decode cX5_plays 25 = .ok (.iconst 0, 1) := by decide +kernel
theorem dX5_plays_26 : decode cX5_plays 26 = .ok (.iadd, 1) := by decide +kernel
theorem dX5_plays_27 : decode cX5_plays 27 = .ok (.istore_n 2, 1) := by decide +kernel
theorem dX5_plays_28 : decode cX5_plays 28 = .ok (.iinc 3 1, 3) := by decide +kernel
theorem dX5_plays_31 : decode cX5_plays 31 = .ok (.goto (-27), 3) := by decide +kernel
theorem dX5_plays_34 : decode cX5_plays 34 = .ok (.iload_n 2, 1) := by decide +kernel
theorem dX5_plays_35 : decode cX5_plays 35 = .ok (.ireturn, 1) := by decide +kernel
set_option maxRecDepth 20000 in
theorem ggX5_isMated_X5_isInCheck : GoodIn wsX5_isMated wsX5_isInCheck := goodIn_r _ [6, 1, 7, 8, 9, 5, 10, 11, 12, 13, 14, 15, 16, 17, 18, 19, 20, 21, 22, 23, 24, 25, 26, 27, 28, 29, 30, 31, 32, 33, 34, 35, 81, 82, 83, 84, 85, 86, 87, 88] (by decide +kernel) (by decide +kernel)
set_option maxRecDepth 20000 in
theorem gX5_isMated_X5_isInCheck : GoodIn wsX5_isMated (wsV RX5 86 RX5 yX5_isInCheck wsX5_isInCheck) := goodIn_app (goodIn_of _ (by decide +kernel)) ggX5_isMated_X5_isInCheck
set_option maxRecDepth 20000 in
theorem ggX5_isMated_X5_plays : GoodIn wsX5_isMated wsX5_plays := goodIn_r _ [39, 40, 41, 42, 5, 43, 1, 44, 45, 46, 47, 48, 49, 50, 51, 52, 53, 54, 11, 12, 13, 14, 15, 16, 17, 18, 19, 20, 21, 22, 23, 24, 25, 26, 27, 28, 29, 30, 31, 32, 33, 34, 35, 55, 56, 57, 58, 59, 60, 61, 62, 63, 64, 65, 66, 67, 68, 69, 70, 71, 72, 73, 74, 75, 76, 2, 3, 4, 6, 7, 8, 9, 10, 77, 78, 79, 80, 81, 82, 83, 84, 85, 86, 87, 88] (by decide +kernel) (by decide +kernel)
set_option maxRecDepth 20000 in
theorem gX5_isMated_X5_plays : GoodIn wsX5_isMated (wsV RX5 97 RX5 yX5_plays wsX5_plays) := goodIn_app (goodIn_of _ (by decide +kernel)) ggX5_isMated_X5_plays
theorem dX5_isMated_0 : decode cX5_isMated 0 = .ok (.aload_n 0, 1) := by decide +kernel
theorem dX5_isMated_1 : decode cX5_isMated 1 = .ok (.iload_n 1, 1) := by decide +kernel
theorem dX5_isMated_2 : decode cX5_isMated 2 = .ok (.aload_n 0, 1) := by decide +kernel
theorem dX5_isMated_3 : decode cX5_isMated 3 = .ok (.getfield 7, 3) := by decide +kernel
theorem dX5_isMated_6 : decode cX5_isMated 6 = .ok (.iload_n 1, 1) := by decide +kernel
theorem dX5_isMated_7 : decode cX5_isMated 7 = .ok (.bipush 35, 2) := by decide +kernel
theorem dX5_isMated_9 : decode cX5_isMated 9 = .ok (.iadd, 1) := by decide +kernel
theorem dX5_isMated_10 : decode cX5_isMated 10 = .ok (.iaload, 1) := by decide +kernel
theorem dX5_isMated_11 : decode cX5_isMated 11 = .ok (.invokevirtual 86, 3) := by decide +kernel
theorem dX5_isMated_14 : decode cX5_isMated 14 = .ok (.ifCond .eq 15, 3) := by decide +kernel
theorem dX5_isMated_17 : decode cX5_isMated 17 = .ok (.aload_n 0, 1) := by decide +kernel
theorem dX5_isMated_18 : decode cX5_isMated 18 = .ok (.iload_n 1, 1) := by decide +kernel
theorem dX5_isMated_19 : decode cX5_isMated 19 = .ok (.invokevirtual 97, 3) := by decide +kernel
theorem dX5_isMated_22 : decode cX5_isMated 22 = .ok (.ifCond .ne 7, 3) := by decide +kernel
theorem dX5_isMated_25 : decode cX5_isMated 25 = .ok (.iconst 1, 1) := by decide +kernel
theorem dX5_isMated_26 : decode cX5_isMated 26 = .ok (.goto 4, 3) := by decide +kernel
theorem dX5_isMated_29 : decode cX5_isMated 29 = .ok (.iconst 0, 1) := by decide +kernel
theorem dX5_isMated_30 : decode cX5_isMated 30 = .ok (.ireturn, 1) := by decide +kernel
set_option maxRecDepth 20000 in
theorem ggX5_move_X5_moveReason : GoodIn wsX5_move wsX5_moveReason := goodIn_r _ [5, 6, 7, 4, 8, 9, 10, 11, 12, 13, 14, 15, 16, 17, 18, 19, 20, 21, 22, 23, 24, 25, 26, 27, 28, 29, 30, 31, 32, 33, 34, 35, 36, 37, 38, 39, 40, 41, 42, 43, 44, 45, 46, 47, 48, 49, 50, 51, 52, 53, 54, 55, 56, 57, 58, 59, 60, 61, 62, 63, 64, 65, 66, 67, 68, 69, 70, 71, 72, 73, 74, 75, 76, 77, 78, 79, 80, 81, 82, 83, 90, 91, 92, 93, 94, 95, 96, 97] (by decide +kernel) (by decide +kernel)
set_option maxRecDepth 20000 in
theorem gX5_move_X5_moveReason : GoodIn wsX5_move (wsV RX5 100 RX5 yX5_moveReason wsX5_moveReason) := goodIn_app (goodIn_of _ (by decide +kernel)) ggX5_move_X5_moveReason
set_option maxRecDepth 20000 in
theorem ggX5_move_X5_remembers : GoodIn wsX5_move wsX5_remembers := goodIn_r _ [87, 88, 89, 16, 90, 91, 92, 93, 94, 95, 96, 97] (by decide +kernel) (by decide +kernel)
set_option maxRecDepth 20000 in
theorem gX5_move_X5_remembers : GoodIn wsX5_move (wsV RX5 104 RX5 yX5_remembers wsX5_remembers) := goodIn_app (goodIn_of _ (by decide +kernel)) ggX5_move_X5_remembers
set_option maxRecDepth 20000 in
theorem ggX5_move_X5_makes : GoodIn wsX5_move wsX5_makes := goodIn_r _ [71, 16, 32, 33, 34, 4, 35, 57, 58, 59, 25, 26, 27, 90, 91, 92, 93, 94, 95, 96, 97] (by decide +kernel) (by decide +kernel)
set_option maxRecDepth 20000 in
theorem gX5_move_X5_makes : GoodIn wsX5_move (wsV RX5 76 RX5 yX5_makes wsX5_makes) := goodIn_app (goodIn_of _ (by decide +kernel)) ggX5_move_X5_makes
theorem dX5_move_0 : decode cX5_move 0 = .ok (.aload_n 0, 1) := by decide +kernel
theorem dX5_move_1 : decode cX5_move 1 = .ok (.iload_n 1, 1) := by decide +kernel
theorem dX5_move_2 : decode cX5_move 2 = .ok (.iload_n 2, 1) := by decide +kernel
theorem dX5_move_3 : decode cX5_move 3 = .ok (.iload_n 3, 1) := by decide +kernel
theorem dX5_move_4 : decode cX5_move 4 = .ok (.invokevirtual 100, 3) := by decide +kernel
theorem dX5_move_7 : decode cX5_move 7 = .ok (.istore 4, 2) := by decide +kernel
theorem dX5_move_9 : decode cX5_move 9 = .ok (.iload 4, 2) := by decide +kernel
theorem dX5_move_11 : decode cX5_move 11 = .ok (.ifCond .eq 21, 3) := by decide +kernel
theorem dX5_move_14 : decode cX5_move 14 = .ok (.iload 4, 2) := by decide +kernel
theorem dX5_move_16 : decode cX5_move 16 = .ok (.sipush (-1001), 3) := by decide +kernel
theorem dX5_move_19 : decode cX5_move 19 = .ok (.if_icmp .ne 9, 3) := by decide +kernel
theorem dX5_move_22 : decode cX5_move 22 = .ok (.sipush (-1001), 3) := by decide +kernel
theorem dX5_move_25 : decode cX5_move 25 = .ok (.goto 6, 3) := by decide +kernel
theorem dX5_move_28 : decode cX5_move 28 = .ok (.sipush (-1004), 3) := by decide +kernel
theorem dX5_move_31 : decode cX5_move 31 = .ok (.ireturn, 1) := by decide +kernel
theorem dX5_move_32 : decode cX5_move 32 = .ok (.aload_n 0, 1) := by decide +kernel
theorem dX5_move_33 : decode cX5_move 33 = .ok (.invokevirtual 104, 3) := by decide +kernel
theorem dX5_move_36 : decode cX5_move 36 = .ok (.aload_n 0, 1) := by decide +kernel
theorem dX5_move_37 : decode cX5_move 37 = .ok (.iconst 0, 1) := by decide +kernel
theorem dX5_move_38 : decode cX5_move 38 = .ok (.iload_n 3, 1) := by decide +kernel
theorem dX5_move_39 : decode cX5_move 39 = .ok (.ifCond .eq 9, 3) := by decide +kernel
theorem dX5_move_42 : decode cX5_move 42 = .ok (.sipush 625, 3) := by decide +kernel
theorem dX5_move_45 : decode cX5_move 45 = .ok (.goto 4, 3) := by decide +kernel
theorem dX5_move_48 : decode cX5_move 48 = .ok (.iconst 0, 1) := by decide +kernel
theorem dX5_move_49 : decode cX5_move 49 = .ok (.bipush 25, 2) := by decide +kernel
theorem dX5_move_51 : decode cX5_move 51 = .ok (.iload_n 1, 1) := by decide +kernel
theorem dX5_move_52 : decode cX5_move 52 = .ok (.imul, 1) := by decide +kernel
theorem dX5_move_53 : decode cX5_move 53 = .ok (.iadd, 1) := by decide +kernel
theorem dX5_move_54 : decode cX5_move 54 = .ok (.iload_n 2, 1) := by decide +kernel
theorem dX5_move_55 : decode cX5_move 55 = .ok (.iadd, 1) := by decide +kernel
theorem dX5_move_56 : decode cX5_move 56 = .ok (.invokevirtual 76, 3) := by decide +kernel
theorem dX5_move_59 : decode cX5_move 59 = .ok (.istore 5, 2) := by decide +kernel
theorem dX5_move_61 : decode cX5_move 61 = .ok (.iload 5, 2) := by decide +kernel
theorem dX5_move_63 : decode cX5_move 63 = .ok (.ifCond .ge 8, 3) := by decide +kernel
theorem dX5_move_66 : decode cX5_move 66 = .ok (.bipush 99, 2) := by decide +kernel
theorem dX5_move_68 : decode cX5_move 68 = .ok (.goto 5, 3) := by decide +kernel
theorem dX5_move_71 : decode cX5_move 71 = .ok (.iload 5, 2) := by decide +kernel
theorem dX5_move_73 : decode cX5_move 73 = .ok (.ireturn, 1) := by decide +kernel
set_option maxRecDepth 20000 in
theorem ggX5_drop_X5_dropReason : GoodIn wsX5_drop wsX5_dropReason := goodIn_r _ [6, 7, 8, 5, 9, 10, 11, 12, 13, 14, 15, 16, 17, 18, 19, 1, 20, 21, 22, 23, 24, 25, 26, 27, 28, 29, 30, 31, 32, 33, 34, 35, 36, 37, 38, 39, 40, 41, 42, 43, 44, 45, 46, 47, 48, 49, 50, 51, 52, 53, 54, 55, 56, 57, 58, 59, 60, 61, 62, 63, 64, 65, 66, 67, 68, 69, 70, 71, 72, 73, 74, 75, 76, 77, 78, 79, 80, 81, 82, 83, 84, 85, 86, 93, 94, 95, 96, 97, 98, 99, 100] (by decide +kernel) (by decide +kernel)
set_option maxRecDepth 20000 in
theorem gX5_drop_X5_dropReason : GoodIn wsX5_drop (wsV RX5 107 RX5 yX5_dropReason wsX5_dropReason) := goodIn_app (goodIn_of _ (by decide +kernel)) ggX5_drop_X5_dropReason
set_option maxRecDepth 20000 in
theorem ggX5_drop_X5_remembers : GoodIn wsX5_drop wsX5_remembers := goodIn_r _ [90, 91, 92, 1, 93, 94, 95, 96, 97, 98, 99, 100] (by decide +kernel) (by decide +kernel)
set_option maxRecDepth 20000 in
theorem gX5_drop_X5_remembers : GoodIn wsX5_drop (wsV RX5 104 RX5 yX5_remembers wsX5_remembers) := goodIn_app (goodIn_of _ (by decide +kernel)) ggX5_drop_X5_remembers
set_option maxRecDepth 20000 in
theorem ggX5_drop_X5_makes : GoodIn wsX5_drop wsX5_makes := goodIn_r _ [74, 1, 35, 36, 37, 5, 38, 60, 61, 62, 28, 29, 30, 93, 94, 95, 96, 97, 98, 99, 100] (by decide +kernel) (by decide +kernel)
set_option maxRecDepth 20000 in
theorem gX5_drop_X5_makes : GoodIn wsX5_drop (wsV RX5 76 RX5 yX5_makes wsX5_makes) := goodIn_app (goodIn_of _ (by decide +kernel)) ggX5_drop_X5_makes
theorem dX5_drop_0 : decode cX5_drop 0 = .ok (.aload_n 0, 1) := by decide +kernel
theorem dX5_drop_1 : decode cX5_drop 1 = .ok (.iload_n 1, 1) := by decide +kernel
theorem dX5_drop_2 : decode cX5_drop 2 = .ok (.iload_n 2, 1) := by decide +kernel
theorem dX5_drop_3 : decode cX5_drop 3 = .ok (.invokevirtual 107, 3) := by decide +kernel
theorem dX5_drop_6 : decode cX5_drop 6 = .ok (.istore_n 3, 1) := by decide +kernel
theorem dX5_drop_7 : decode cX5_drop 7 = .ok (.iload_n 3, 1) := by decide +kernel
theorem dX5_drop_8 : decode cX5_drop 8 = .ok (.ifCond .eq 20, 3) := by decide +kernel
theorem dX5_drop_11 : decode cX5_drop 11 = .ok (.iload_n 3, 1) := by decide +kernel
theorem dX5_drop_12 : decode cX5_drop 12 = .ok (.sipush (-1001), 3) := by decide +kernel
theorem dX5_drop_15 : decode cX5_drop 15 = .ok (.if_icmp .ne 9, 3) := by decide +kernel
theorem dX5_drop_18 : decode cX5_drop 18 = .ok (.sipush (-1001), 3) := by decide +kernel
theorem dX5_drop_21 : decode cX5_drop 21 = .ok (.goto 6, 3) := by decide +kernel
theorem dX5_drop_24 : decode cX5_drop 24 = .ok (.sipush (-1004), 3) := by decide +kernel
theorem dX5_drop_27 : decode cX5_drop 27 = .ok (.ireturn, 1) := by decide +kernel
theorem dX5_drop_28 : decode cX5_drop 28 = .ok (.aload_n 0, 1) := by decide +kernel
theorem dX5_drop_29 : decode cX5_drop 29 = .ok (.invokevirtual 104, 3) := by decide +kernel
theorem dX5_drop_32 : decode cX5_drop 32 = .ok (.aload_n 0, 1) := by decide +kernel
theorem dX5_drop_33 : decode cX5_drop 33 = .ok (.getfield 7, 3) := by decide +kernel
theorem dX5_drop_36 : decode cX5_drop 36 = .ok (.bipush 35, 2) := by decide +kernel
theorem dX5_drop_38 : decode cX5_drop 38 = .ok (.iaload, 1) := by decide +kernel
theorem dX5_drop_39 : decode cX5_drop 39 = .ok (.istore 4, 2) := by decide +kernel
theorem dX5_drop_41 : decode cX5_drop 41 = .ok (.aload_n 0, 1) := by decide +kernel
theorem dX5_drop_42 : decode cX5_drop 42 = .ok (.iconst 0, 1) := by decide +kernel
theorem dX5_drop_43 : decode cX5_drop 43 = .ok (.sipush 1250, 3) := by decide +kernel
theorem dX5_drop_46 : decode cX5_drop 46 = .ok (.bipush 25, 2) := by decide +kernel
theorem dX5_drop_48 : decode cX5_drop 48 = .ok (.iload_n 1, 1) := by decide +kernel
theorem dX5_drop_49 : decode cX5_drop 49 = .ok (.iconst 1, 1) := by decide +kernel
theorem dX5_drop_50 : decode cX5_drop 50 = .ok (.isub, 1) := by decide +kernel
theorem dX5_drop_51 : decode cX5_drop 51 = .ok (.imul, 1) := by decide +kernel
theorem dX5_drop_52 : decode cX5_drop 52 = .ok (.iadd, 1) := by decide +kernel
theorem dX5_drop_53 : decode cX5_drop 53 = .ok (.iload_n 2, 1) := by decide +kernel
theorem dX5_drop_54 : decode cX5_drop 54 = .ok (.iadd, 1) := by decide +kernel
theorem dX5_drop_55 : decode cX5_drop 55 = .ok (.invokevirtual 76, 3) := by decide +kernel
theorem dX5_drop_58 : decode cX5_drop 58 = .ok (.istore 5, 2) := by decide +kernel
theorem dX5_drop_60 : decode cX5_drop 60 = .ok (.aload_n 0, 1) := by decide +kernel
theorem dX5_drop_61 : decode cX5_drop 61 = .ok (.getfield 7, 3) := by decide +kernel
theorem dX5_drop_64 : decode cX5_drop 64 = .ok (.bipush 25, 2) := by decide +kernel
theorem dX5_drop_66 : decode cX5_drop 66 = .ok (.iconst 5, 1) := by decide +kernel
theorem dX5_drop_67 : decode cX5_drop 67 = .ok (.iload 4, 2) := by decide +kernel
theorem dX5_drop_69 : decode cX5_drop 69 = .ok (.imul, 1) := by decide +kernel
theorem dX5_drop_70 : decode cX5_drop 70 = .ok (.iadd, 1) := by decide +kernel
theorem dX5_drop_71 : decode cX5_drop 71 = .ok (.iload_n 1, 1) := by decide +kernel
theorem dX5_drop_72 : decode cX5_drop 72 = .ok (.iadd, 1) := by decide +kernel
theorem dX5_drop_73 : decode cX5_drop 73 = .ok (.iconst 1, 1) := by decide +kernel
theorem dX5_drop_74 : decode cX5_drop 74 = .ok (.isub, 1) := by decide +kernel
theorem dX5_drop_75 : decode cX5_drop 75 = .ok (.iaload, 1) := by decide +kernel
theorem dX5_drop_76 : decode cX5_drop 76 = .ok (.ireturn, 1) := by decide +kernel
set_option maxRecDepth 20000 in
theorem ggX5_make_X5_told : GoodIn wsX5_make wsX5_told := goodIn_r _ [5, 6, 7, 4, 8, 9, 10, 11] (by decide +kernel) (by decide +kernel)
set_option maxRecDepth 20000 in
theorem gX5_make_X5_told : GoodIn wsX5_make (va_wsS RX5 110 yX5_told wsX5_told) := goodIn_app (goodIn_of _ (by decide +kernel)) ggX5_make_X5_told
set_option maxRecDepth 20000 in
theorem ggX5_make_X5_reason : GoodIn wsX5_make wsX5_reason := goodIn_r _ [15, 1, 16, 17, 18, 4, 19, 20, 21, 22, 23, 6, 7, 8, 24, 25, 26, 27, 28, 29, 30, 31, 32, 33, 34, 35, 36, 37, 38, 39, 40, 41, 42, 43, 44, 45, 46, 47, 48, 49, 50, 51, 52, 53, 54, 55, 9, 10, 11, 56, 57, 58, 59, 60, 61, 62, 63, 64, 65, 66, 67, 68, 69, 70, 71, 72, 73, 74, 75, 76, 77, 78, 79, 86, 87, 88, 89, 90, 91, 92, 93] (by decide +kernel) (by decide +kernel)
set_option maxRecDepth 20000 in
theorem gX5_make_X5_reason : GoodIn wsX5_make (wsV RX5 94 RX5 yX5_reason wsX5_reason) := goodIn_app (goodIn_of _ (by decide +kernel)) ggX5_make_X5_reason
set_option maxRecDepth 20000 in
theorem ggX5_make_X5_remembers : GoodIn wsX5_make wsX5_remembers := goodIn_r _ [83, 84, 85, 1, 86, 87, 88, 89, 90, 91, 92, 93] (by decide +kernel) (by decide +kernel)
set_option maxRecDepth 20000 in
theorem gX5_make_X5_remembers : GoodIn wsX5_make (wsV RX5 104 RX5 yX5_remembers wsX5_remembers) := goodIn_app (goodIn_of _ (by decide +kernel)) ggX5_make_X5_remembers
set_option maxRecDepth 20000 in
theorem ggX5_make_X5_makes : GoodIn wsX5_make wsX5_makes := goodIn_r _ [67, 1, 28, 29, 30, 4, 31, 9, 10, 11, 6, 7, 8, 86, 87, 88, 89, 90, 91, 92, 93] (by decide +kernel) (by decide +kernel)
set_option maxRecDepth 20000 in
theorem gX5_make_X5_makes : GoodIn wsX5_make (wsV RX5 76 RX5 yX5_makes wsX5_makes) := goodIn_app (goodIn_of _ (by decide +kernel)) ggX5_make_X5_makes
set_option maxRecDepth 20000 in
theorem ggX5_make_X5_isInCheck : GoodIn wsX5_make wsX5_isInCheck := goodIn_r _ [71, 1, 72, 73, 74, 4, 75, 24, 25, 26, 27, 28, 29, 30, 31, 32, 33, 34, 35, 36, 37, 38, 39, 40, 41, 42, 43, 44, 45, 46, 47, 48, 86, 87, 88, 89, 90, 91, 92, 93] (by decide +kernel) (by decide +kernel)
set_option maxRecDepth 20000 in
theorem gX5_make_X5_isInCheck : GoodIn wsX5_make (wsV RX5 86 RX5 yX5_isInCheck wsX5_isInCheck) := goodIn_app (goodIn_of _ (by decide +kernel)) ggX5_make_X5_isInCheck
theorem dX5_make_0 : decode cX5_make 0 = .ok (.iconst 0, 1) := by decide +kernel
theorem dX5_make_1 : decode cX5_make 1 = .ok (.istore_n 2, 1) := by decide +kernel
theorem dX5_make_2 : decode cX5_make 2 = .ok (.iload_n 2, 1) := by decide +kernel
theorem dX5_make_3 : decode cX5_make 3 = .ok (.sipush 1375, 3) := by decide +kernel
theorem dX5_make_6 : decode cX5_make 6 = .ok (.if_icmp .ge 58, 3) := by decide +kernel
theorem dX5_make_9 : decode cX5_make 9 = .ok (.iload_n 2, 1) := by decide +kernel
theorem dX5_make_10 : decode cX5_make 10 = .ok (.invokestatic 110, 3) := by decide +kernel
theorem dX5_make_13 : decode cX5_make 13 = .ok (.iload_n 1, 1) := by decide +kernel
theorem dX5_make_14 : decode cX5_make 14 = .ok (.if_icmp .ne 44, 3) := by decide +kernel
theorem dX5_make_17 : decode cX5_make 17 = .ok (.aload_n 0, 1) := by decide +kernel
theorem dX5_make_18 : decode cX5_make 18 = .ok (.iconst 0, 1) := by decide +kernel
theorem dX5_make_19 : decode cX5_make 19 = .ok (.iload_n 2, 1) := by decide +kernel
theorem dX5_make_20 : decode cX5_make 20 = .ok (.invokevirtual 94, 3) := by decide +kernel
theorem dX5_make_23 : decode cX5_make 23 = .ok (.ifCond .ne 35, 3) := by decide +kernel
theorem dX5_make_26 : decode cX5_make 26 = .ok (.aload_n 0, 1) := by decide +kernel
theorem dX5_make_27 : decode cX5_make 27 = .ok (.invokevirtual 104, 3) := by decide +kernel
theorem dX5_make_30 : decode cX5_make 30 = .ok (.aload_n 0, 1) := by decide +kernel
theorem dX5_make_31 : decode cX5_make 31 = .ok (.iconst 0, 1) := by decide +kernel
theorem dX5_make_32 : decode cX5_make 32 = .ok (.iload_n 2, 1) := by decide +kernel
theorem dX5_make_33 : decode cX5_make 33 = .ok (.invokevirtual 76, 3) := by decide +kernel
theorem dX5_make_36 : decode cX5_make 36 = .ok (.istore_n 3, 1) := by decide +kernel
theorem dX5_make_37 : decode cX5_make 37 = .ok (.aload_n 0, 1) := by decide +kernel
theorem dX5_make_38 : decode cX5_make 38 = .ok (.iconst 0, 1) := by decide +kernel
theorem dX5_make_39 : decode cX5_make 39 = .ok (.aload_n 0, 1) := by decide +kernel
theorem dX5_make_40 : decode cX5_make 40 = .ok (.getfield 7, 3) := by decide +kernel
theorem dX5_make_43 : decode cX5_make 43 = .ok (.bipush 35, 2) := by decide +kernel
theorem dX5_make_45 : decode cX5_make 45 = .ok (.iaload, 1) := by decide +kernel
theorem dX5_make_46 : decode cX5_make 46 = .ok (.invokevirtual 86, 3) := by decide +kernel
theorem dX5_make_49 : decode cX5_make 49 = .ok (.ifCond .eq 7, 3) := by decide +kernel
theorem dX5_make_52 : decode cX5_make 52 = .ok (.iconst 1, 1) := by decide +kernel
theorem dX5_make_53 : decode cX5_make 53 = .ok (.goto 4, 3) := by decide +kernel
theorem dX5_make_56 : decode cX5_make 56 = .ok (.iconst 0, 1) := by decide +kernel
theorem dX5_make_57 : decode cX5_make 57 = .ok (.ireturn, 1) := by decide +kernel
theorem dX5_make_58 : decode cX5_make 58 = .ok (.iinc 2 1, 3) := by decide +kernel
theorem dX5_make_61 : decode cX5_make 61 = .ok (.goto (-59), 3) := by decide +kernel
theorem dX5_make_64 : decode cX5_make 64 = .ok (.sipush (-1004), 3) := by decide +kernel
theorem dX5_make_67 : decode cX5_make 67 = .ok (.ireturn, 1) := by decide +kernel
theorem dX5_onBoard_0 : decode cX5_onBoard 0 = .ok (.iconst 0, 1) := by decide +kernel
theorem dX5_onBoard_1 : decode cX5_onBoard 1 = .ok (.istore_n 1, 1) := by decide +kernel
theorem dX5_onBoard_2 : decode cX5_onBoard 2 = .ok (.iconst 0, 1) := by decide +kernel
theorem dX5_onBoard_3 : decode cX5_onBoard 3 = .ok (.istore_n 2, 1) := by decide +kernel
theorem dX5_onBoard_4 : decode cX5_onBoard 4 = .ok (.iload_n 2, 1) := by decide +kernel
theorem dX5_onBoard_5 : decode cX5_onBoard 5 = .ok (.bipush 25, 2) := by decide +kernel
theorem dX5_onBoard_7 : decode cX5_onBoard 7 = .ok (.if_icmp .ge 26, 3) := by decide +kernel
theorem dX5_onBoard_10 : decode cX5_onBoard 10 = .ok (.iload_n 1, 1) := by decide +kernel
theorem dX5_onBoard_11 : decode cX5_onBoard 11 = .ok (.aload_n 0, 1) := by decide +kernel
theorem dX5_onBoard_12 : decode cX5_onBoard 12 = .ok (.getfield 7, 3) := by decide +kernel
theorem dX5_onBoard_15 : decode cX5_onBoard 15 = .ok (.iload_n 2, 1) := by decide +kernel
theorem dX5_onBoard_16 : decode cX5_onBoard 16 = .ok (.iaload, 1) := by decide +kernel
theorem dX5_onBoard_17 : decode cX5_onBoard 17 = .ok (.ifCond .le 7, 3) := by decide +kernel
theorem dX5_onBoard_20 : decode cX5_onBoard 20 = .ok (.iconst 1, 1) := by decide +kernel
theorem dX5_onBoard_21 : decode cX5_onBoard 21 = .ok (.goto 4, 3) := by decide +kernel
theorem dX5_onBoard_24 : decode cX5_onBoard 24 = .ok (.iconst 0, 1) := by decide +kernel
theorem dX5_onBoard_25 : decode cX5_onBoard 25 = .ok (.iadd, 1) := by decide +kernel
theorem dX5_onBoard_26 : decode cX5_onBoard 26 = .ok (.istore_n 1, 1) := by decide +kernel
theorem dX5_onBoard_27 : decode cX5_onBoard 27 = .ok (.iinc 2 1, 3) := by decide +kernel
theorem dX5_onBoard_30 : decode cX5_onBoard 30 = .ok (.goto (-26), 3) := by decide +kernel
theorem dX5_onBoard_33 : decode cX5_onBoard 33 = .ok (.iload_n 1, 1) := by decide +kernel
theorem dX5_onBoard_34 : decode cX5_onBoard 34 = .ok (.ireturn, 1) := by decide +kernel
theorem dX5_inHand_0 : decode cX5_inHand 0 = .ok (.iconst 0, 1) := by decide +kernel
theorem dX5_inHand_1 : decode cX5_inHand 1 = .ok (.istore_n 2, 1) := by decide +kernel
theorem dX5_inHand_2 : decode cX5_inHand 2 = .ok (.iconst 0, 1) := by decide +kernel
theorem dX5_inHand_3 : decode cX5_inHand 3 = .ok (.istore_n 3, 1) := by decide +kernel
theorem dX5_inHand_4 : decode cX5_inHand 4 = .ok (.iload_n 3, 1) := by decide +kernel
theorem dX5_inHand_5 : decode cX5_inHand 5 = .ok (.iconst 5, 1) := by decide +kernel
theorem dX5_inHand_6 : decode cX5_inHand 6 = .ok (.if_icmp .ge 25, 3) := by decide +kernel
theorem dX5_inHand_9 : decode cX5_inHand 9 = .ok (.iload_n 2, 1) := by decide +kernel
theorem dX5_inHand_10 : decode cX5_inHand 10 = .ok (.aload_n 0, 1) := by decide +kernel
theorem dX5_inHand_11 : decode cX5_inHand 11 = .ok (.getfield 7, 3) := by decide +kernel
theorem dX5_inHand_14 : decode cX5_inHand 14 = .ok (.bipush 25, 2) := by decide +kernel
theorem dX5_inHand_16 : decode cX5_inHand 16 = .ok (.iconst 5, 1) := by decide +kernel
theorem dX5_inHand_17 : decode cX5_inHand 17 = .ok (.iload_n 1, 1) := by decide +kernel
theorem dX5_inHand_18 : decode cX5_inHand 18 = .ok (.imul, 1) := by decide +kernel
theorem dX5_inHand_19 : decode cX5_inHand 19 = .ok (.iadd, 1) := by decide +kernel
theorem dX5_inHand_20 : decode cX5_inHand 20 = .ok (.iload_n 3, 1) := by decide +kernel
theorem dX5_inHand_21 : decode cX5_inHand 21 = .ok (.iadd, 1) := by decide +kernel
theorem dX5_inHand_22 : decode cX5_inHand 22 = .ok (.iaload, 1) := by decide +kernel
theorem dX5_inHand_23 : decode cX5_inHand 23 = .ok (.iadd, 1) := by decide +kernel
theorem dX5_inHand_24 : decode cX5_inHand 24 = .ok (.istore_n 2, 1) := by decide +kernel
theorem dX5_inHand_25 : decode cX5_inHand 25 = .ok (.iinc 3 1, 3) := by decide +kernel
theorem dX5_inHand_28 : decode cX5_inHand 28 = .ok (.goto (-24), 3) := by decide +kernel
theorem dX5_inHand_31 : decode cX5_inHand 31 = .ok (.iload_n 2, 1) := by decide +kernel
theorem dX5_inHand_32 : decode cX5_inHand 32 = .ok (.ireturn, 1) := by decide +kernel
set_option maxRecDepth 20000 in
theorem ggX5_hasKingElsewhere_X5_manAt : GoodIn wsX5_hasKingElsewhere wsX5_manAt := goodIn_r _ [5, 6, 7, 8, 9, 10, 11, 12, 13, 14] (by decide +kernel) (by decide +kernel)
set_option maxRecDepth 20000 in
theorem gX5_hasKingElsewhere_X5_manAt : GoodIn wsX5_hasKingElsewhere (wsV RX5 33 RX5 yX5_manAt wsX5_manAt) := goodIn_app (goodIn_of _ (by decide +kernel)) ggX5_hasKingElsewhere_X5_manAt
theorem dX5_hasKingElsewhere_0 : decode cX5_hasKingElsewhere 0 = .ok (.iconst 0, 1) := by decide +kernel
theorem dX5_hasKingElsewhere_1 : decode cX5_hasKingElsewhere 1 = .ok (.istore_n 3, 1) := by decide +kernel
theorem dX5_hasKingElsewhere_2 : decode cX5_hasKingElsewhere 2 = .ok (.iconst 0, 1) := by decide +kernel
theorem dX5_hasKingElsewhere_3 : decode cX5_hasKingElsewhere 3 = .ok (.istore 4, 2) := by decide +kernel
theorem dX5_hasKingElsewhere_5 : decode cX5_hasKingElsewhere 5 = .ok (.iload 4, 2) := by decide +kernel
theorem dX5_hasKingElsewhere_7 : decode cX5_hasKingElsewhere 7 = .ok (.bipush 25, 2) := by decide +kernel
theorem dX5_hasKingElsewhere_9 : decode cX5_hasKingElsewhere 9 = .ok (.if_icmp .ge 41, 3) := by decide +kernel
theorem dX5_hasKingElsewhere_12 : decode cX5_hasKingElsewhere 12 = .ok (.iload_n 3, 1) := by decide +kernel
theorem dX5_hasKingElsewhere_13 : decode cX5_hasKingElsewhere 13 = .ok (.ifCond .ne 25, 3) := by decide +kernel
theorem dX5_hasKingElsewhere_16 : decode cX5_hasKingElsewhere 16 = .ok (.iload 4, 2) := by decide +kernel
theorem dX5_hasKingElsewhere_18 : decode cX5_hasKingElsewhere 18 = .ok (.iload_n 2, 1) := by decide +kernel
theorem dX5_hasKingElsewhere_19 : decode cX5_hasKingElsewhere 19 = .ok (.if_icmp .eq 23, 3) := by decide +kernel
theorem dX5_hasKingElsewhere_22 : decode cX5_hasKingElsewhere 22 = .ok (.aload_n 0, 1) := by decide +kernel
theorem dX5_hasKingElsewhere_23 : decode cX5_hasKingElsewhere 23 = .ok (.iconst 0, 1) := by decide +kernel
theorem dX5_hasKingElsewhere_24 : decode cX5_hasKingElsewhere 24 = .ok (.iload 4, 2) := by decide +kernel
theorem dX5_hasKingElsewhere_26 : decode cX5_hasKingElsewhere 26 = .ok (.invokevirtual 33, 3) := by decide +kernel
theorem dX5_hasKingElsewhere_29 : decode cX5_hasKingElsewhere 29 = .ok (.bipush 10, 2) := by decide +kernel
theorem dX5_hasKingElsewhere_31 : decode cX5_hasKingElsewhere 31 = .ok (.iload_n 1, 1) := by decide +kernel
