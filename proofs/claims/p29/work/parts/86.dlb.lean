set_option maxRecDepth 20000 in
theorem ggL_areAttacks_X4_attacked : GoodIn wsL_areAttacks wsX4_attacked := goodIn_r _ [6, 7, 8, 9, 5, 10, 11, 12, 13, 14, 15, 16, 17, 18, 19, 20, 21, 22, 38, 39, 40, 41, 42, 43, 44, 45, 46] (by decide +kernel) (by decide +kernel)
set_option maxRecDepth 20000 in
theorem gL_areAttacks_X4_attacked : GoodIn wsL_areAttacks (wsV RL 27 RX4 yX4_attacked wsX4_attacked) := goodIn_app (goodIn_of _ (by decide +kernel)) ggL_areAttacks_X4_attacked
set_option maxRecDepth 20000 in
theorem ggL_areAttacks_X4_man : GoodIn wsL_areAttacks wsX4_man := goodIn_r _ [26, 7, 8, 9, 5, 10, 11, 12, 13, 14, 15, 16, 38, 39, 40, 41, 42, 43, 44, 45, 46] (by decide +kernel) (by decide +kernel)
set_option maxRecDepth 20000 in
theorem gL_areAttacks_X4_man : GoodIn wsL_areAttacks (wsV RL 14 RX4 yX4_man wsX4_man) := goodIn_app (goodIn_of _ (by decide +kernel)) ggL_areAttacks_X4_man
set_option maxRecDepth 20000 in
theorem ggL_areAttacks_X4_attackers : GoodIn wsL_areAttacks wsX4_attackers := goodIn_r _ [30, 7, 31, 32, 5, 33, 8, 9, 10, 34, 35, 36, 14, 37, 21, 16, 38, 39, 40, 41, 42, 43, 44, 45, 46] (by decide +kernel) (by decide +kernel)
set_option maxRecDepth 20000 in
theorem gL_areAttacks_X4_attackers : GoodIn wsL_areAttacks (wsV RL 23 RX4 yX4_attackers wsX4_attackers) := goodIn_app (goodIn_of _ (by decide +kernel)) ggL_areAttacks_X4_attackers
theorem dL_areAttacks_0 : decode cL_areAttacks 0 = .ok (.bipush 25, 2) := by decide +kernel
theorem dL_areAttacks_2 : decode cL_areAttacks 2 = .ok (.newarray .int, 2) := by decide +kernel
theorem dL_areAttacks_4 : decode cL_areAttacks 4 = .ok (.astore_n 1, 1) := by decide +kernel
theorem dL_areAttacks_5 : decode cL_areAttacks 5 = .ok (.iconst 0, 1) := by decide +kernel
theorem dL_areAttacks_6 : decode cL_areAttacks 6 = .ok (.istore_n 2, 1) := by decide +kernel
theorem dL_areAttacks_7 : decode cL_areAttacks 7 = .ok (.iload_n 2, 1) := by decide +kernel
theorem dL_areAttacks_8 : decode cL_areAttacks 8 = .ok (.bipush 25, 2) := by decide +kernel
theorem dL_areAttacks_10 : decode cL_areAttacks 10 = .ok (.if_icmp .ge 29, 3) := by decide +kernel
theorem dL_areAttacks_13 : decode cL_areAttacks 13 = .ok (.aload_n 1, 1) := by decide +kernel
theorem dL_areAttacks_14 : decode cL_areAttacks 14 = .ok (.iload_n 2, 1) := by decide +kernel
theorem dL_areAttacks_15 : decode cL_areAttacks 15 = .ok (.aload_n 0, 1) := by decide +kernel
theorem dL_areAttacks_16 : decode cL_areAttacks 16 = .ok (.iload_n 2, 1) := by decide +kernel
theorem dL_areAttacks_17 : decode cL_areAttacks 17 = .ok (.invokevirtual 27, 3) := by decide +kernel
theorem dL_areAttacks_20 : decode cL_areAttacks 20 = .ok (.ifCond .ge 7, 3) := by decide +kernel
theorem dL_areAttacks_23 : decode cL_areAttacks 23 = .ok (.iconst 0, 1) := by decide +kernel
theorem dL_areAttacks_24 : decode cL_areAttacks 24 = .ok (.goto 8, 3) := by decide +kernel
theorem dL_areAttacks_27 : decode cL_areAttacks 27 = .ok (.aload_n 0, 1) := by decide +kernel
theorem dL_areAttacks_28 : decode cL_areAttacks 28 = .ok (.iload_n 2, 1) := by decide +kernel
theorem dL_areAttacks_29 : decode cL_areAttacks 29 = .ok (.invokevirtual 27, 3) := by decide +kernel
theorem dL_areAttacks_32 : decode cL_areAttacks 32 = .ok (.iastore, 1) := by decide +kernel
theorem dL_areAttacks_33 : decode cL_areAttacks 33 = .ok (.iinc 2 1, 3) := by decide +kernel
theorem dL_areAttacks_36 : decode cL_areAttacks 36 = .ok (.goto (-29), 3) := by decide +kernel
theorem dL_areAttacks_39 : decode cL_areAttacks 39 = .ok (.iconst 0, 1) := by decide +kernel
theorem dL_areAttacks_40 : decode cL_areAttacks 40 = .ok (.istore_n 2, 1) := by decide +kernel
theorem dL_areAttacks_41 : decode cL_areAttacks 41 = .ok (.iload_n 2, 1) := by decide +kernel
theorem dL_areAttacks_42 : decode cL_areAttacks 42 = .ok (.bipush 50, 2) := by decide +kernel
theorem dL_areAttacks_44 : decode cL_areAttacks 44 = .ok (.if_icmp .ge 93, 3) := by decide +kernel
theorem dL_areAttacks_47 : decode cL_areAttacks 47 = .ok (.iconst 0, 1) := by decide +kernel
theorem dL_areAttacks_48 : decode cL_areAttacks 48 = .ok (.istore_n 3, 1) := by decide +kernel
theorem dL_areAttacks_49 : decode cL_areAttacks 49 = .ok (.iconst 0, 1) := by decide +kernel
theorem dL_areAttacks_50 : decode cL_areAttacks 50 = .ok (.istore 4, 2) := by decide +kernel
theorem dL_areAttacks_52 : decode cL_areAttacks 52 = .ok (.iload 4, 2) := by decide +kernel
theorem dL_areAttacks_54 : decode cL_areAttacks 54 = .ok (.bipush 25, 2) := by decide +kernel
theorem dL_areAttacks_56 : decode cL_areAttacks 56 = .ok (.if_icmp .ge 57, 3) := by decide +kernel
theorem dL_areAttacks_59 : decode cL_areAttacks 59 = .ok (.aload_n 0, 1) := by decide +kernel
theorem dL_areAttacks_60 : decode cL_areAttacks 60 = .ok (.iload 4, 2) := by decide +kernel
theorem dL_areAttacks_62 : decode cL_areAttacks 62 = .ok (.invokevirtual 14, 3) := by decide +kernel
theorem dL_areAttacks_65 : decode cL_areAttacks 65 = .ok (.istore 5, 2) := by decide +kernel
theorem dL_areAttacks_67 : decode cL_areAttacks 67 = .ok (.iload_n 3, 1) := by decide +kernel
theorem dL_areAttacks_68 : decode cL_areAttacks 68 = .ok (.iload 5, 2) := by decide +kernel
theorem dL_areAttacks_70 : decode cL_areAttacks 70 = .ok (.ifCond .lt 34, 3) := by decide +kernel
theorem dL_areAttacks_73 : decode cL_areAttacks 73 = .ok (.iload 5, 2) := by decide +kernel
theorem dL_areAttacks_75 : decode cL_areAttacks 75 = .ok (.bipush 10, 2) := by decide +kernel
theorem dL_areAttacks_77 : decode cL_areAttacks 77 = .ok (.idiv, 1) := by decide +kernel
theorem dL_areAttacks_78 : decode cL_areAttacks 78 = .ok (.iload_n 2, 1) := by decide +kernel
theorem dL_areAttacks_79 : decode cL_areAttacks 79 = .ok (.bipush 25, 2) := by decide +kernel
theorem dL_areAttacks_81 : decode cL_areAttacks 81 = .ok (.idiv, 1) := by decide +kernel
theorem dL_areAttacks_82 : decode cL_areAttacks 82 = .ok (.if_icmp .ne 22, 3) := by decide +kernel
theorem dL_areAttacks_85 : decode cL_areAttacks 85 = .ok (.aload_n 1, 1) := by decide +kernel
theorem dL_areAttacks_86 : decode cL_areAttacks 86 = .ok (.iload 4, 2) := by decide +kernel
theorem dL_areAttacks_88 : decode cL_areAttacks 88 = .ok (.iaload, 1) := by decide +kernel
theorem dL_areAttacks_89 : decode cL_areAttacks 89 = .ok (.iload_n 2, 1) := by decide +kernel
theorem dL_areAttacks_90 : decode cL_areAttacks 90 = .ok (.bipush 25, 2) := by decide +kernel
theorem dL_areAttacks_92 : decode cL_areAttacks 92 = .ok (.irem, 1) := by decide +kernel
theorem dL_areAttacks_93 : decode cL_areAttacks 93 = .ok (.ishr, 1) := by decide +kernel
theorem dL_areAttacks_94 : decode cL_areAttacks 94 = .ok (.iconst 1, 1) := by decide +kernel
theorem dL_areAttacks_95 : decode cL_areAttacks 95 = .ok (.iand, 1) := by decide +kernel
theorem dL_areAttacks_96 : decode cL_areAttacks 96 = .ok (.iconst 1, 1) := by decide +kernel
theorem dL_areAttacks_97 : decode cL_areAttacks 97 = .ok (.if_icmp .ne 7, 3) := by decide +kernel
theorem dL_areAttacks_100 : decode cL_areAttacks 100 = .ok (.iconst 1, 1) := by decide +kernel
theorem dL_areAttacks_101 : decode cL_areAttacks 101 = .ok (.goto 4, 3) := by decide +kernel
theorem dL_areAttacks_104 : decode cL_areAttacks 104 = .ok (.iconst 0, 1) := by decide +kernel
theorem dL_areAttacks_105 : decode cL_areAttacks 105 = .ok (.iadd, 1) := by decide +kernel
theorem dL_areAttacks_106 : decode cL_areAttacks 106 = .ok (.istore_n 3, 1) := by decide +kernel
theorem dL_areAttacks_107 : decode cL_areAttacks 107 = .ok (.iinc 4 1, 3) := by decide +kernel
theorem dL_areAttacks_110 : decode cL_areAttacks 110 = .ok (.goto (-58), 3) := by decide +kernel
theorem dL_areAttacks_113 : decode cL_areAttacks 113 = .ok (.aload_n 0, 1) := by decide +kernel
theorem dL_areAttacks_114 : decode cL_areAttacks 114 = .ok (.iload_n 2, 1) := by decide +kernel
theorem dL_areAttacks_115 : decode cL_areAttacks 115 = .ok (.bipush 25, 2) := by decide +kernel
theorem dL_areAttacks_117 : decode cL_areAttacks 117 = .ok (.idiv, 1) := by decide +kernel
theorem dL_areAttacks_118 : decode cL_areAttacks 118 = .ok (.iload_n 2, 1) := by decide +kernel
theorem dL_areAttacks_119 : decode cL_areAttacks 119 = .ok (.bipush 25, 2) := by decide +kernel
theorem dL_areAttacks_121 : decode cL_areAttacks 121 = .ok (.irem, 1) := by decide +kernel
theorem dL_areAttacks_122 : decode cL_areAttacks 122 = .ok (.invokevirtual 23, 3) := by decide +kernel
theorem dL_areAttacks_125 : decode cL_areAttacks 125 = .ok (.iload_n 3, 1) := by decide +kernel
theorem dL_areAttacks_126 : decode cL_areAttacks 126 = .ok (.if_icmp .eq 5, 3) := by decide +kernel
theorem dL_areAttacks_129 : decode cL_areAttacks 129 = .ok (.iconst 0, 1) := by decide +kernel
theorem dL_areAttacks_130 : decode cL_areAttacks 130 = .ok (.ireturn, 1) := by decide +kernel
theorem dL_areAttacks_131 : decode cL_areAttacks 131 = .ok (.iinc 2 1, 3) := by decide +kernel
theorem dL_areAttacks_134 : decode cL_areAttacks 134 = .ok (.goto (-93), 3) := by decide +kernel
theorem dL_areAttacks_137 : decode cL_areAttacks 137 = .ok (.iconst 1, 1) := by decide +kernel
theorem dL_areAttacks_138 : decode cL_areAttacks 138 = .ok (.ireturn, 1) := by decide +kernel
set_option maxRecDepth 20000 in
theorem ggL_areDrops_X4_total : GoodIn wsL_areDrops wsX4_total := goodIn_r _ [5, 6, 7, 8, 9, 10, 11, 12, 13, 14, 15, 16, 17, 18, 19, 20, 21, 22, 23, 24, 25, 26, 27, 28, 4, 29, 30, 31, 32, 33, 34, 35, 36, 37, 38, 39, 40, 41, 42, 43, 44, 45, 46, 47, 48, 49, 50, 51, 52, 53, 54, 55, 56, 57, 58, 59, 60, 61, 62, 63, 64, 65, 66, 67, 68, 69, 70, 71, 72, 73, 74, 75, 76, 77, 78, 79, 80, 81, 82, 83, 84, 85, 86, 87, 88, 89, 90, 91, 92, 93, 94, 95, 96, 97, 98, 99, 100, 101, 102, 103, 104, 105, 106, 107, 108, 109, 110, 111, 112, 113, 114, 115, 116, 117, 118, 119, 120, 121, 122, 123, 124, 125, 126, 127, 128, 129, 130, 131, 132, 133, 134, 135, 136, 137, 138, 139, 140, 141, 142, 143, 144, 145, 146, 147, 148, 149, 150, 151, 152, 153, 154, 155, 156, 157, 158, 159, 160, 161, 162, 163, 164, 165, 166, 167, 168, 169, 170, 171, 172, 173, 174, 175, 176, 177, 178, 179, 180, 181, 182, 183, 184, 185, 186, 187, 188, 189, 190, 191, 221, 222, 223, 224, 225, 226, 227, 228, 229, 230, 231, 232, 233, 234, 235, 236, 237, 238, 239, 240, 241, 242] (by decide +kernel) (by decide +kernel)
set_option maxRecDepth 20000 in
theorem gL_areDrops_X4_total : GoodIn wsL_areDrops (wsV RL 8 RX4 yX4_total wsX4_total) := goodIn_app (goodIn_of _ (by decide +kernel)) ggL_areDrops_X4_total
set_option maxRecDepth 20000 in
theorem ggL_areDrops_X4_drops : GoodIn wsL_areDrops wsX4_drops := goodIn_r _ [195, 7, 196, 30, 4, 31, 163, 57, 58, 35, 59, 37, 60, 61, 62, 38, 11, 12, 13, 14, 15, 63, 64, 65, 66, 67, 68, 69, 70, 71, 72, 73, 74, 75, 76, 47, 77, 78, 79, 80, 81, 82, 83, 84, 85, 86, 87, 88, 89, 90, 91, 92, 93, 39, 40, 41, 42, 28, 29, 43, 44, 45, 46, 94, 95, 96, 97, 98, 99, 100, 101, 102, 103, 104, 105, 106, 107, 108, 109, 110, 111, 112, 113, 114, 115, 116, 117, 118, 119, 120, 121, 122, 123, 124, 125, 25, 26, 27, 126, 127, 128, 129, 130, 131, 132, 133, 134, 135, 136, 137, 138, 139, 140, 141, 142, 143, 144, 145, 24, 146, 147, 148, 149, 150, 151, 152, 153, 154, 55, 33, 34, 36, 155, 156, 157, 158, 159, 160, 161, 162, 197, 198, 199, 200, 221, 222, 223, 224, 225, 226, 227, 230, 231, 232, 233, 234, 235, 228, 229] (by decide +kernel) (by decide +kernel)
set_option maxRecDepth 20000 in
theorem gL_areDrops_X4_drops : GoodIn wsL_areDrops (wsV RL 41 RX4 yX4_drops wsX4_drops) := goodIn_app (goodIn_of _ (by decide +kernel)) ggL_areDrops_X4_drops
set_option maxRecDepth 20000 in
theorem ggL_areDrops_X4_dropReason : GoodIn wsL_areDrops wsX4_dropReason := goodIn_r _ [204, 7, 196, 30, 4, 31, 205, 90, 91, 206, 207, 208, 35, 209, 37, 38, 11, 12, 13, 14, 15, 125, 25, 26, 27, 28, 29, 63, 64, 65, 66, 100, 101, 102, 78, 79, 126, 127, 128, 129, 130, 119, 120, 115, 116, 117, 118, 39, 40, 41, 42, 43, 44, 45, 46, 47, 86, 87, 88, 89, 92, 93, 84, 85, 67, 68, 94, 95, 131, 132, 133, 134, 135, 136, 137, 138, 139, 140, 141, 142, 143, 144, 145, 24, 146, 147, 148, 149, 150, 77, 151, 152, 153, 154, 55, 33, 34, 36, 155, 156, 157, 158, 69, 70, 71, 72, 73, 74, 75, 76, 80, 81, 82, 83, 121, 122, 123, 124, 159, 160, 161, 162, 221, 222, 223, 224, 225, 226, 227, 230, 231, 232, 233, 234, 235, 228, 229] (by decide +kernel) (by decide +kernel)
set_option maxRecDepth 20000 in
theorem gL_areDrops_X4_dropReason : GoodIn wsL_areDrops (wsV RL 44 RX4 yX4_dropReason wsX4_dropReason) := goodIn_app (goodIn_of _ (by decide +kernel)) ggL_areDrops_X4_dropReason
set_option maxRecDepth 20000 in
theorem ggL_areDrops_X4_hand : GoodIn wsL_areDrops wsX4_hand := goodIn_r _ [213, 6, 214, 28, 4, 29, 196, 30, 31, 215, 25, 26, 13, 27, 15, 221, 222, 223, 224, 225, 226, 227, 228, 229] (by decide +kernel) (by decide +kernel)
set_option maxRecDepth 20000 in
theorem gL_areDrops_X4_hand : GoodIn wsL_areDrops (wsV RL 33 RX4 yX4_hand wsX4_hand) := goodIn_app (goodIn_of _ (by decide +kernel)) ggL_areDrops_X4_hand
set_option maxRecDepth 20000 in
theorem ggL_areDrops_X4_man : GoodIn wsL_areDrops wsX4_man := goodIn_r _ [219, 6, 205, 90, 4, 91, 220, 64, 65, 13, 66, 15, 221, 222, 223, 224, 225, 226, 227, 228, 229] (by decide +kernel) (by decide +kernel)
set_option maxRecDepth 20000 in
theorem gL_areDrops_X4_man : GoodIn wsL_areDrops (wsV RL 14 RX4 yX4_man wsX4_man) := goodIn_app (goodIn_of _ (by decide +kernel)) ggL_areDrops_X4_man
theorem dL_areDrops_0 : decode cL_areDrops 0 = .ok (.aload_n 0, 1) := by decide +kernel
theorem dL_areDrops_1 : decode cL_areDrops 1 = .ok (.iconst 0, 1) := by decide +kernel
theorem dL_areDrops_2 : decode cL_areDrops 2 = .ok (.invokevirtual 8, 3) := by decide +kernel
theorem dL_areDrops_5 : decode cL_areDrops 5 = .ok (.istore_n 1, 1) := by decide +kernel
theorem dL_areDrops_6 : decode cL_areDrops 6 = .ok (.iconst 1, 1) := by decide +kernel
theorem dL_areDrops_7 : decode cL_areDrops 7 = .ok (.istore_n 2, 1) := by decide +kernel
theorem dL_areDrops_8 : decode cL_areDrops 8 = .ok (.iload_n 2, 1) := by decide +kernel
theorem dL_areDrops_9 : decode cL_areDrops 9 = .ok (.bipush 6, 2) := by decide +kernel
theorem dL_areDrops_11 : decode cL_areDrops 11 = .ok (.if_icmp .ge 118, 3) := by decide +kernel
theorem dL_areDrops_14 : decode cL_areDrops 14 = .ok (.aload_n 0, 1) := by decide +kernel
theorem dL_areDrops_15 : decode cL_areDrops 15 = .ok (.iload_n 2, 1) := by decide +kernel
theorem dL_areDrops_16 : decode cL_areDrops 16 = .ok (.invokevirtual 41, 3) := by decide +kernel
theorem dL_areDrops_19 : decode cL_areDrops 19 = .ok (.istore_n 3, 1) := by decide +kernel
theorem dL_areDrops_20 : decode cL_areDrops 20 = .ok (.iconst 0, 1) := by decide +kernel
theorem dL_areDrops_21 : decode cL_areDrops 21 = .ok (.istore 4, 2) := by decide +kernel
theorem dL_areDrops_23 : decode cL_areDrops 23 = .ok (.iload 4, 2) := by decide +kernel
theorem dL_areDrops_25 : decode cL_areDrops 25 = .ok (.bipush 25, 2) := by decide +kernel
theorem dL_areDrops_27 : decode cL_areDrops 27 = .ok (.if_icmp .ge 96, 3) := by decide +kernel
theorem dL_areDrops_30 : decode cL_areDrops 30 = .ok (.aload_n 0, 1) := by decide +kernel
theorem dL_areDrops_31 : decode cL_areDrops 31 = .ok (.iload_n 2, 1) := by decide +kernel
theorem dL_areDrops_32 : decode cL_areDrops 32 = .ok (.iload 4, 2) := by decide +kernel
theorem dL_areDrops_34 : decode cL_areDrops 34 = .ok (.invokevirtual 44, 3) := by decide +kernel
theorem dL_areDrops_37 : decode cL_areDrops 37 = .ok (.istore 5, 2) := by decide +kernel
theorem dL_areDrops_39 : decode cL_areDrops 39 = .ok (.iload_n 3, 1) := by decide +kernel
theorem dL_areDrops_40 : decode cL_areDrops 40 = .ok (.iload 4, 2) := by decide +kernel
theorem dL_areDrops_42 : decode cL_areDrops 42 = .ok (.ishr, 1) := by decide +kernel
theorem dL_areDrops_43 : decode cL_areDrops 43 = .ok (.iconst 1, 1) := by decide +kernel
theorem dL_areDrops_44 : decode cL_areDrops 44 = .ok (.iand, 1) := by decide +kernel
theorem dL_areDrops_45 : decode cL_areDrops 45 = .ok (.iload 5, 2) := by decide +kernel
theorem dL_areDrops_47 : decode cL_areDrops 47 = .ok (.ifCond .ne 7, 3) := by decide +kernel
theorem dL_areDrops_50 : decode cL_areDrops 50 = .ok (.iconst 1, 1) := by decide +kernel
theorem dL_areDrops_51 : decode cL_areDrops 51 = .ok (.goto 4, 3) := by decide +kernel
theorem dL_areDrops_54 : decode cL_areDrops 54 = .ok (.iconst 0, 1) := by decide +kernel
theorem dL_areDrops_55 : decode cL_areDrops 55 = .ok (.if_icmp .ne 60, 3) := by decide +kernel
theorem dL_areDrops_58 : decode cL_areDrops 58 = .ok (.iload 5, 2) := by decide +kernel
theorem dL_areDrops_60 : decode cL_areDrops 60 = .ok (.ifCond .lt 55, 3) := by decide +kernel
theorem dL_areDrops_63 : decode cL_areDrops 63 = .ok (.iload 5, 2) := by decide +kernel
theorem dL_areDrops_65 : decode cL_areDrops 65 = .ok (.bipush 6, 2) := by decide +kernel
theorem dL_areDrops_67 : decode cL_areDrops 67 = .ok (.if_icmp .gt 48, 3) := by decide +kernel
theorem dL_areDrops_70 : decode cL_areDrops 70 = .ok (.iload 5, 2) := by decide +kernel
theorem dL_areDrops_72 : decode cL_areDrops 72 = .ok (.iconst 1, 1) := by decide +kernel
theorem dL_areDrops_73 : decode cL_areDrops 73 = .ok (.if_icmp .ne 7, 3) := by decide +kernel
theorem dL_areDrops_76 : decode cL_areDrops 76 = .ok (.iconst 1, 1) := by decide +kernel
theorem dL_areDrops_77 : decode cL_areDrops 77 = .ok (.goto 4, 3) := by decide +kernel
theorem dL_areDrops_80 : decode cL_areDrops 80 = .ok (.iconst 0, 1) := by decide +kernel
theorem dL_areDrops_81 : decode cL_areDrops 81 = .ok (.aload_n 0, 1) := by decide +kernel
theorem dL_areDrops_82 : decode cL_areDrops 82 = .ok (.iload_n 1, 1) := by decide +kernel
theorem dL_areDrops_83 : decode cL_areDrops 83 = .ok (.iload_n 2, 1) := by decide +kernel
theorem dL_areDrops_84 : decode cL_areDrops 84 = .ok (.invokevirtual 33, 3) := by decide +kernel
theorem dL_areDrops_87 : decode cL_areDrops 87 = .ok (.ifCond .ne 7, 3) := by decide +kernel
theorem dL_areDrops_90 : decode cL_areDrops 90 = .ok (.iconst 1, 1) := by decide +kernel
theorem dL_areDrops_91 : decode cL_areDrops 91 = .ok (.goto 4, 3) := by decide +kernel
theorem dL_areDrops_94 : decode cL_areDrops 94 = .ok (.iconst 0, 1) := by decide +kernel
theorem dL_areDrops_95 : decode cL_areDrops 95 = .ok (.if_icmp .ne 20, 3) := by decide +kernel
theorem dL_areDrops_98 : decode cL_areDrops 98 = .ok (.iload 5, 2) := by decide +kernel
theorem dL_areDrops_100 : decode cL_areDrops 100 = .ok (.ifCond .ne 17, 3) := by decide +kernel
theorem dL_areDrops_103 : decode cL_areDrops 103 = .ok (.aload_n 0, 1) := by decide +kernel
theorem dL_areDrops_104 : decode cL_areDrops 104 = .ok (.iload 4, 2) := by decide +kernel
theorem dL_areDrops_106 : decode cL_areDrops 106 = .ok (.invokevirtual 14, 3) := by decide +kernel
theorem dL_areDrops_109 : decode cL_areDrops 109 = .ok (.sipush (-1005), 3) := by decide +kernel
theorem dL_areDrops_112 : decode cL_areDrops 112 = .ok (.if_icmp .eq 5, 3) := by decide +kernel
theorem dL_areDrops_115 : decode cL_areDrops 115 = .ok (.iconst 0, 1) := by decide +kernel
theorem dL_areDrops_116 : decode cL_areDrops 116 = .ok (.ireturn, 1) := by decide +kernel
theorem dL_areDrops_117 : decode cL_areDrops 117 = .ok (.iinc 4 1, 3) := by decide +kernel
theorem dL_areDrops_120 : decode cL_areDrops 120 = .ok (.goto (-97), 3) := by decide +kernel
theorem dL_areDrops_123 : decode cL_areDrops 123 = .ok (.iinc 2 1, 3) := by decide +kernel
theorem dL_areDrops_126 : decode cL_areDrops 126 = .ok (.goto (-118), 3) := by decide +kernel
theorem dL_areDrops_129 : decode cL_areDrops 129 = .ok (.aload_n 0, 1) := by decide +kernel
theorem dL_areDrops_130 : decode cL_areDrops 130 = .ok (.iconst 0, 1) := by decide +kernel
theorem dL_areDrops_131 : decode cL_areDrops 131 = .ok (.invokevirtual 41, 3) := by decide +kernel
theorem dL_areDrops_134 : decode cL_areDrops 134 = .ok (.sipush (-1001), 3) := by decide +kernel
theorem dL_areDrops_137 : decode cL_areDrops 137 = .ok (.if_icmp .ne 19, 3) := by decide +kernel
theorem dL_areDrops_140 : decode cL_areDrops 140 = .ok (.aload_n 0, 1) := by decide +kernel
theorem dL_areDrops_141 : decode cL_areDrops 141 = .ok (.bipush 6, 2) := by decide +kernel
theorem dL_areDrops_143 : decode cL_areDrops 143 = .ok (.invokevirtual 41, 3) := by decide +kernel
theorem dL_areDrops_146 : decode cL_areDrops 146 = .ok (.sipush (-1001), 3) := by decide +kernel
theorem dL_areDrops_149 : decode cL_areDrops 149 = .ok (.if_icmp .ne 7, 3) := by decide +kernel
theorem dL_areDrops_152 : decode cL_areDrops 152 = .ok (.iconst 1, 1) := by decide +kernel
theorem dL_areDrops_153 : decode cL_areDrops 153 = .ok (.goto 4, 3) := by decide +kernel
theorem dL_areDrops_156 : decode cL_areDrops 156 = .ok (.iconst 0, 1) := by decide +kernel
theorem dL_areDrops_157 : decode cL_areDrops 157 = .ok (.ireturn, 1) := by decide +kernel
