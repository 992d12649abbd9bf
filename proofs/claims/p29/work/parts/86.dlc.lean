set_option maxRecDepth 20000 in
theorem ggL_arePlays_X4_total : GoodIn wsL_arePlays wsX4_total := goodIn_r _ [5, 6, 7, 8, 9, 10, 11, 12, 13, 14, 15, 16, 17, 18, 19, 20, 21, 22, 23, 24, 25, 26, 27, 28, 4, 29, 30, 31, 32, 33, 34, 35, 36, 37, 38, 39, 40, 41, 42, 43, 44, 45, 46, 47, 48, 49, 50, 51, 52, 53, 54, 55, 56, 57, 58, 59, 60, 61, 62, 63, 64, 65, 66, 67, 68, 69, 70, 71, 72, 73, 74, 75, 76, 77, 78, 79, 80, 81, 82, 83, 84, 85, 86, 87, 88, 89, 90, 91, 92, 93, 94, 95, 96, 97, 98, 99, 100, 101, 102, 103, 104, 105, 106, 107, 108, 109, 110, 111, 112, 113, 114, 115, 116, 117, 118, 119, 120, 121, 122, 123, 124, 125, 126, 127, 128, 129, 130, 131, 132, 133, 134, 135, 136, 137, 138, 139, 140, 141, 142, 143, 144, 145, 146, 147, 148, 149, 150, 151, 152, 153, 154, 155, 156, 157, 158, 159, 160, 161, 162, 163, 164, 165, 166, 167, 168, 169, 170, 171, 172, 173, 174, 175, 176, 177, 178, 179, 180, 181, 182, 183, 184, 185, 186, 187, 188, 189, 190, 191, 304, 305, 306, 307, 308, 309, 310, 311, 312, 313, 314, 315, 316, 317, 318, 319, 320, 321, 322, 323, 324, 325] (by decide +kernel) (by decide +kernel)
set_option maxRecDepth 20000 in
theorem gL_arePlays_X4_total : GoodIn wsL_arePlays (wsV RL 8 RX4 yX4_total wsX4_total) := goodIn_app (goodIn_of _ (by decide +kernel)) ggL_arePlays_X4_total
set_option maxRecDepth 20000 in
theorem ggL_arePlays_L_men : GoodIn wsL_arePlays wsL_men := goodIn_r _ [195, 1, 2, 3, 4, 5, 6, 7, 8, 9, 10, 11, 12, 13, 14, 15, 16, 17, 18, 19, 20, 21, 22, 23, 24, 25, 26, 27, 28, 29, 30, 31, 32, 33, 34, 35, 36, 37, 38, 39, 40, 41, 42, 43, 44, 45, 46, 47, 48, 49, 50, 51, 52, 53, 54, 55, 56, 57, 58, 59, 60, 61, 62, 63, 64, 65, 66, 67, 68, 69, 70, 71, 72, 73, 74, 75, 76, 77, 78, 79, 80, 81, 82, 83, 84, 85, 86, 87, 88, 89, 90, 91, 92, 93, 94, 95, 96, 97, 98, 99, 100, 101, 102, 103, 104, 105, 106, 107, 108, 109, 110, 111, 112, 113, 114, 115, 116, 117, 118, 119, 120, 121, 122, 123, 124, 125, 126, 127, 128, 129, 130, 131, 132, 133, 134, 135, 136, 137, 138, 139, 140, 141, 142, 143, 144, 145, 146, 147, 148, 149, 150, 151, 152, 153, 154, 155, 156, 157, 158, 159, 160, 161, 162, 163, 164, 165, 166, 167, 168, 169, 170, 171, 172, 173, 174, 175, 176, 177, 178, 179, 180, 181, 182, 183, 184, 185, 186, 187, 188, 189, 190, 191, 304, 305, 306, 307, 308, 309, 310, 311, 312, 313, 314, 315, 316, 317, 318, 319, 320, 321, 322, 323, 324, 325] (by decide +kernel) (by decide +kernel)
set_option maxRecDepth 20000 in
theorem gL_arePlays_L_men : GoodIn wsL_arePlays (va_wsS RL 47 yL_men wsL_men) := goodIn_app (goodIn_of _ (by decide +kernel)) ggL_arePlays_L_men
set_option maxRecDepth 20000 in
theorem ggL_arePlays_X4_playAt : GoodIn wsL_arePlays wsX4_playAt := goodIn_r _ [199, 7, 163, 57, 58, 35, 59, 37, 60, 61, 62, 38, 11, 12, 13, 14, 15, 63, 64, 65, 66, 67, 4, 68, 69, 70, 71, 72, 73, 74, 75, 76, 47, 77, 78, 79, 80, 81, 82, 83, 84, 85, 86, 87, 88, 89, 90, 91, 92, 93, 39, 40, 41, 42, 28, 29, 43, 44, 45, 46, 94, 95, 96, 97, 98, 99, 100, 101, 102, 103, 104, 105, 106, 107, 108, 109, 110, 111, 112, 113, 114, 115, 116, 117, 118, 119, 120, 121, 122, 123, 124, 125, 25, 26, 27, 30, 31, 126, 127, 128, 129, 130, 131, 132, 133, 134, 135, 136, 137, 138, 139, 140, 141, 142, 143, 144, 145, 24, 146, 147, 148, 149, 150, 151, 152, 153, 154, 55, 33, 34, 36, 155, 156, 157, 158, 159, 160, 161, 162, 200, 201, 202, 203, 204, 205, 206, 207, 208, 209, 210, 211, 212, 213, 214, 215, 304, 305, 306, 307, 308, 309, 310, 313, 314, 315, 316, 317, 318, 311, 312] (by decide +kernel) (by decide +kernel)
set_option maxRecDepth 20000 in
theorem gL_arePlays_X4_playAt : GoodIn wsL_arePlays (wsV RL 51 RX4 yX4_playAt wsX4_playAt) := goodIn_app (goodIn_of _ (by decide +kernel)) ggL_arePlays_X4_playAt
set_option maxRecDepth 20000 in
theorem ggL_arePlays_X4_make : GoodIn wsL_arePlays wsX4_make := goodIn_r _ [219, 7, 6, 220, 221, 222, 35, 223, 90, 4, 91, 30, 31, 224, 225, 226, 227, 37, 38, 11, 12, 13, 14, 15, 125, 25, 26, 27, 28, 29, 63, 64, 65, 66, 100, 101, 102, 78, 79, 126, 127, 128, 129, 130, 119, 120, 115, 116, 117, 118, 39, 40, 41, 42, 43, 44, 45, 46, 47, 86, 87, 88, 89, 92, 93, 84, 85, 67, 68, 94, 95, 131, 132, 133, 134, 135, 136, 137, 138, 139, 140, 141, 142, 143, 144, 145, 24, 146, 147, 148, 149, 150, 77, 151, 152, 153, 154, 55, 33, 34, 36, 155, 156, 157, 158, 69, 70, 71, 72, 73, 74, 75, 76, 80, 81, 82, 83, 121, 122, 123, 124, 159, 160, 161, 162, 228, 229, 230, 231, 103, 104, 105, 106, 107, 96, 97, 98, 99, 232, 233, 234, 235, 236, 8, 237, 238, 239, 240, 241, 242, 243, 244, 245, 246, 247, 183, 248, 185, 249, 250, 251, 252, 253, 254, 255, 32, 48, 49, 50, 304, 305, 306, 307, 308, 309, 310, 313, 314, 315, 316, 317, 318, 311, 312, 319, 320] (by decide +kernel) (by decide +kernel)
set_option maxRecDepth 20000 in
theorem gL_arePlays_X4_make : GoodIn wsL_arePlays (wsV RL 54 RX4 yX4_make wsX4_make) := goodIn_app (goodIn_of _ (by decide +kernel)) ggL_arePlays_X4_make
set_option maxRecDepth 20000 in
theorem ggL_arePlays_L_isChecked : GoodIn wsL_arePlays wsL_isChecked := goodIn_r _ [258, 259, 260, 194, 261, 262, 263, 264, 4, 265, 6, 266, 90, 91, 267, 64, 65, 13, 66, 15, 268, 269, 270, 271, 272, 28, 29, 273, 44, 45, 46, 47, 304, 305, 306, 307, 308, 309, 310, 311, 312] (by decide +kernel) (by decide +kernel)
set_option maxRecDepth 20000 in
theorem gL_arePlays_L_isChecked : GoodIn wsL_arePlays (va_wsS RL 37 yL_isChecked wsL_isChecked) := goodIn_app (goodIn_of _ (by decide +kernel)) ggL_arePlays_L_isChecked
set_option maxRecDepth 20000 in
theorem ggL_arePlays_X4_worth : GoodIn wsL_arePlays wsX4_worth := goodIn_r _ [277, 6, 272, 28, 4, 29, 278, 279, 280, 13, 281, 15, 84, 85, 67, 68, 24, 25, 26, 27, 30, 31, 304, 305, 306, 307, 308, 309, 310, 311, 312] (by decide +kernel) (by decide +kernel)
set_option maxRecDepth 20000 in
theorem gL_arePlays_X4_worth : GoodIn wsL_arePlays (wsV RL 36 RX4 yX4_worth wsX4_worth) := goodIn_app (goodIn_of _ (by decide +kernel)) ggL_arePlays_X4_worth
set_option maxRecDepth 20000 in
theorem ggL_arePlays_X4_undo : GoodIn wsL_arePlays wsX4_undo := goodIn_r _ [285, 8, 6, 180, 181, 182, 183, 184, 185, 286, 287, 288, 289, 249, 290, 291, 292, 13, 293, 15, 241, 242, 243, 244, 304, 305, 306, 307, 308, 309, 310, 319, 320, 311, 312] (by decide +kernel) (by decide +kernel)
set_option maxRecDepth 20000 in
theorem gL_arePlays_X4_undo : GoodIn wsL_arePlays (wsV RL 57 RX4 yX4_undo wsX4_undo) := goodIn_app (goodIn_of _ (by decide +kernel)) ggL_arePlays_X4_undo
set_option maxRecDepth 20000 in
theorem ggL_arePlays_X4_mate : GoodIn wsL_arePlays wsX4_mate := goodIn_r _ [297, 7, 6, 163, 57, 58, 35, 59, 37, 60, 61, 62, 38, 11, 12, 13, 14, 15, 63, 64, 65, 66, 67, 4, 68, 69, 70, 71, 72, 73, 74, 75, 76, 47, 77, 78, 79, 80, 81, 82, 83, 84, 85, 86, 87, 88, 89, 90, 91, 92, 93, 39, 40, 41, 42, 28, 29, 43, 44, 45, 46, 94, 95, 96, 97, 98, 99, 100, 101, 102, 103, 104, 105, 106, 107, 108, 109, 110, 111, 112, 113, 114, 115, 116, 117, 118, 119, 120, 121, 122, 123, 124, 125, 25, 26, 27, 30, 31, 126, 127, 128, 129, 130, 131, 132, 133, 134, 135, 136, 137, 138, 139, 140, 141, 142, 143, 144, 145, 24, 146, 147, 148, 149, 150, 151, 152, 153, 154, 55, 33, 34, 36, 155, 156, 157, 158, 159, 160, 161, 162, 200, 201, 202, 203, 204, 205, 206, 207, 208, 209, 210, 211, 212, 213, 214, 215, 298, 51, 52, 53, 54, 56, 299, 304, 305, 306, 307, 308, 309, 310, 313, 314, 315, 316, 317, 318, 311, 312] (by decide +kernel) (by decide +kernel)
set_option maxRecDepth 20000 in
theorem gL_arePlays_X4_mate : GoodIn wsL_arePlays (wsV RL 61 RX4 yX4_mate wsX4_mate) := goodIn_app (goodIn_of _ (by decide +kernel)) ggL_arePlays_X4_mate
set_option maxRecDepth 20000 in
theorem ggL_arePlays_X4_tightest : GoodIn wsL_arePlays wsX4_tightest := goodIn_r _ [303, 7, 6, 163, 57, 58, 35, 59, 37, 60, 61, 62, 38, 11, 12, 13, 14, 15, 63, 64, 65, 66, 67, 4, 68, 69, 70, 71, 72, 73, 74, 75, 76, 47, 77, 78, 79, 80, 81, 82, 83, 84, 85, 86, 87, 88, 89, 90, 91, 92, 93, 39, 40, 41, 42, 28, 29, 43, 44, 45, 46, 94, 95, 96, 97, 98, 99, 100, 101, 102, 103, 104, 105, 106, 107, 108, 109, 110, 111, 112, 113, 114, 115, 116, 117, 118, 119, 120, 121, 122, 123, 124, 125, 25, 26, 27, 30, 31, 126, 127, 128, 129, 130, 131, 132, 133, 134, 135, 136, 137, 138, 139, 140, 141, 142, 143, 144, 145, 24, 146, 147, 148, 149, 150, 151, 152, 153, 154, 55, 33, 34, 36, 155, 156, 157, 158, 159, 160, 161, 162, 200, 201, 202, 203, 204, 205, 206, 207, 208, 209, 210, 211, 10, 212, 213, 214, 215, 298, 278, 279, 280, 281, 299, 304, 305, 306, 307, 308, 309, 310, 313, 314, 315, 316, 317, 318, 311, 312] (by decide +kernel) (by decide +kernel)
set_option maxRecDepth 20000 in
theorem gL_arePlays_X4_tightest : GoodIn wsL_arePlays (wsV RL 64 RX4 yX4_tightest wsX4_tightest) := goodIn_app (goodIn_of _ (by decide +kernel)) ggL_arePlays_X4_tightest
theorem dL_arePlays_0 : decode cL_arePlays 0 = .ok (.aload_n 0, 1) := by decide +kernel
theorem dL_arePlays_1 : decode cL_arePlays 1 = .ok (.bipush 7, 2) := by decide +kernel
theorem dL_arePlays_3 : decode cL_arePlays 3 = .ok (.invokevirtual 8, 3) := by decide +kernel
theorem dL_arePlays_6 : decode cL_arePlays 6 = .ok (.istore_n 1, 1) := by decide +kernel
theorem dL_arePlays_7 : decode cL_arePlays 7 = .ok (.aload_n 0, 1) := by decide +kernel
theorem dL_arePlays_8 : decode cL_arePlays 8 = .ok (.iconst 0, 1) := by decide +kernel
theorem dL_arePlays_9 : decode cL_arePlays 9 = .ok (.invokevirtual 8, 3) := by decide +kernel
theorem dL_arePlays_12 : decode cL_arePlays 12 = .ok (.istore_n 2, 1) := by decide +kernel
theorem dL_arePlays_13 : decode cL_arePlays 13 = .ok (.aload_n 0, 1) := by decide +kernel
theorem dL_arePlays_14 : decode cL_arePlays 14 = .ok (.iconst 4, 1) := by decide +kernel
theorem dL_arePlays_15 : decode cL_arePlays 15 = .ok (.invokevirtual 8, 3) := by decide +kernel
theorem dL_arePlays_18 : decode cL_arePlays 18 = .ok (.istore_n 3, 1) := by decide +kernel
theorem dL_arePlays_19 : decode cL_arePlays 19 = .ok (.aload_n 0, 1) := by decide +kernel
theorem dL_arePlays_20 : decode cL_arePlays 20 = .ok (.invokestatic 47, 3) := by decide +kernel
theorem dL_arePlays_23 : decode cL_arePlays 23 = .ok (.istore 4, 2) := by decide +kernel
theorem dL_arePlays_25 : decode cL_arePlays 25 = .ok (.iconst (-1), 1) := by decide +kernel
theorem dL_arePlays_26 : decode cL_arePlays 26 = .ok (.istore 5, 2) := by decide +kernel
theorem dL_arePlays_28 : decode cL_arePlays 28 = .ok (.sipush (-1005), 3) := by decide +kernel
theorem dL_arePlays_31 : decode cL_arePlays 31 = .ok (.istore 6, 2) := by decide +kernel
theorem dL_arePlays_33 : decode cL_arePlays 33 = .ok (.sipush (-1005), 3) := by decide +kernel
theorem dL_arePlays_36 : decode cL_arePlays 36 = .ok (.istore 7, 2) := by decide +kernel
theorem dL_arePlays_38 : decode cL_arePlays 38 = .ok (.iconst 0, 1) := by decide +kernel
theorem dL_arePlays_39 : decode cL_arePlays 39 = .ok (.istore 8, 2) := by decide +kernel
theorem dL_arePlays_41 : decode cL_arePlays 41 = .ok (.iconst 0, 1) := by decide +kernel
theorem dL_arePlays_42 : decode cL_arePlays 42 = .ok (.istore 9, 2) := by decide +kernel
theorem dL_arePlays_44 : decode cL_arePlays 44 = .ok (.iconst 0, 1) := by decide +kernel
theorem dL_arePlays_45 : decode cL_arePlays 45 = .ok (.istore 10, 2) := by decide +kernel
theorem dL_arePlays_47 : decode cL_arePlays 47 = .ok (.iload 10, 2) := by decide +kernel
theorem dL_arePlays_49 : decode cL_arePlays 49 = .ok (.iload_n 1, 1) := by decide +kernel
theorem dL_arePlays_50 : decode cL_arePlays 50 = .ok (.if_icmp .ge 340, 3) := by decide +kernel
theorem dL_arePlays_53 : decode cL_arePlays 53 = .ok (.iload 10, 2) := by decide +kernel
theorem dL_arePlays_55 : decode cL_arePlays 55 = .ok (.sipush 1375, 3) := by decide +kernel
theorem dL_arePlays_58 : decode cL_arePlays 58 = .ok (.if_icmp .ge 332, 3) := by decide +kernel
theorem dL_arePlays_61 : decode cL_arePlays 61 = .ok (.aload_n 0, 1) := by decide +kernel
theorem dL_arePlays_62 : decode cL_arePlays 62 = .ok (.iload 10, 2) := by decide +kernel
theorem dL_arePlays_64 : decode cL_arePlays 64 = .ok (.invokevirtual 51, 3) := by decide +kernel
theorem dL_arePlays_67 : decode cL_arePlays 67 = .ok (.istore 11, 2) := by decide +kernel
theorem dL_arePlays_69 : decode cL_arePlays 69 = .ok (.aload_n 0, 1) := by decide +kernel
theorem dL_arePlays_70 : decode cL_arePlays 70 = .ok (.bipush 8, 2) := by decide +kernel
theorem dL_arePlays_72 : decode cL_arePlays 72 = .ok (.invokevirtual 8, 3) := by decide +kernel
theorem dL_arePlays_75 : decode cL_arePlays 75 = .ok (.istore 12, 2) := by decide +kernel
theorem dL_arePlays_77 : decode cL_arePlays 77 = .ok (.iload 11, 2) := by decide +kernel
theorem dL_arePlays_79 : decode cL_arePlays 79 = .ok (.iload 5, 2) := by decide +kernel
theorem dL_arePlays_81 : decode cL_arePlays 81 = .ok (.if_icmp .gt 7, 3) := by decide +kernel
theorem dL_arePlays_84 : decode cL_arePlays 84 = .ok (.iconst (-1), 1) := by decide +kernel
theorem dL_arePlays_85 : decode cL_arePlays 85 = .ok (.goto 9, 3) := by decide +kernel
theorem dL_arePlays_88 : decode cL_arePlays 88 = .ok (.aload_n 0, 1) := by decide +kernel
theorem dL_arePlays_89 : decode cL_arePlays 89 = .ok (.iload 11, 2) := by decide +kernel
theorem dL_arePlays_91 : decode cL_arePlays 91 = .ok (.invokevirtual 54, 3) := by decide +kernel
theorem dL_arePlays_94 : decode cL_arePlays 94 = .ok (.istore 13, 2) := by decide +kernel
theorem dL_arePlays_96 : decode cL_arePlays 96 = .ok (.iload 13, 2) := by decide +kernel
theorem dL_arePlays_98 : decode cL_arePlays 98 = .ok (.ifCond .lt 75, 3) := by decide +kernel
theorem dL_arePlays_101 : decode cL_arePlays 101 = .ok (.aload_n 0, 1) := by decide +kernel
theorem dL_arePlays_102 : decode cL_arePlays 102 = .ok (.iconst 0, 1) := by decide +kernel
theorem dL_arePlays_103 : decode cL_arePlays 103 = .ok (.invokevirtual 8, 3) := by decide +kernel
theorem dL_arePlays_106 : decode cL_arePlays 106 = .ok (.iconst 1, 1) := by decide +kernel
theorem dL_arePlays_107 : decode cL_arePlays 107 = .ok (.iload_n 2, 1) := by decide +kernel
theorem dL_arePlays_108 : decode cL_arePlays 108 = .ok (.isub, 1) := by decide +kernel
theorem dL_arePlays_109 : decode cL_arePlays 109 = .ok (.if_icmp .ne 64, 3) := by decide +kernel
theorem dL_arePlays_112 : decode cL_arePlays 112 = .ok (.aload_n 0, 1) := by decide +kernel
theorem dL_arePlays_113 : decode cL_arePlays 113 = .ok (.bipush 8, 2) := by decide +kernel
theorem dL_arePlays_115 : decode cL_arePlays 115 = .ok (.invokevirtual 8, 3) := by decide +kernel
theorem dL_arePlays_118 : decode cL_arePlays 118 = .ok (.iload 12, 2) := by decide +kernel
theorem dL_arePlays_120 : decode cL_arePlays 120 = .ok (.iconst 1, 1) := by decide +kernel
theorem dL_arePlays_121 : decode cL_arePlays 121 = .ok (.iadd, 1) := by decide +kernel
theorem dL_arePlays_122 : decode cL_arePlays 122 = .ok (.if_icmp .ne 51, 3) := by decide +kernel
theorem dL_arePlays_125 : decode cL_arePlays 125 = .ok (.aload_n 0, 1) := by decide +kernel
theorem dL_arePlays_126 : decode cL_arePlays 126 = .ok (.invokestatic 47, 3) := by decide +kernel
theorem dL_arePlays_129 : decode cL_arePlays 129 = .ok (.iload 4, 2) := by decide +kernel
theorem dL_arePlays_131 : decode cL_arePlays 131 = .ok (.if_icmp .ne 42, 3) := by decide +kernel
theorem dL_arePlays_134 : decode cL_arePlays 134 = .ok (.aload_n 0, 1) := by decide +kernel
theorem dL_arePlays_135 : decode cL_arePlays 135 = .ok (.iload_n 2, 1) := by decide +kernel
theorem dL_arePlays_136 : decode cL_arePlays 136 = .ok (.invokestatic 37, 3) := by decide +kernel
theorem dL_arePlays_139 : decode cL_arePlays 139 = .ok (.ifCond .ne 34, 3) := by decide +kernel
theorem dL_arePlays_142 : decode cL_arePlays 142 = .ok (.iload 13, 2) := by decide +kernel
theorem dL_arePlays_144 : decode cL_arePlays 144 = .ok (.aload_n 0, 1) := by decide +kernel
theorem dL_arePlays_145 : decode cL_arePlays 145 = .ok (.iconst 4, 1) := by decide +kernel
theorem dL_arePlays_146 : decode cL_arePlays 146 = .ok (.invokevirtual 8, 3) := by decide +kernel
theorem dL_arePlays_149 : decode cL_arePlays 149 = .ok (.if_icmp .ne 24, 3) := by decide +kernel
theorem dL_arePlays_152 : decode cL_arePlays 152 = .ok (.iload 13, 2) := by decide +kernel
theorem dL_arePlays_154 : decode cL_arePlays 154 = .ok (.iconst 1, 1) := by decide +kernel
theorem dL_arePlays_155 : decode cL_arePlays 155 = .ok (.if_icmp .ne 7, 3) := by decide +kernel
theorem dL_arePlays_158 : decode cL_arePlays 158 = .ok (.iconst 1, 1) := by decide +kernel
theorem dL_arePlays_159 : decode cL_arePlays 159 = .ok (.goto 4, 3) := by decide +kernel
theorem dL_arePlays_162 : decode cL_arePlays 162 = .ok (.iconst 0, 1) := by decide +kernel
theorem dL_arePlays_163 : decode cL_arePlays 163 = .ok (.aload_n 0, 1) := by decide +kernel
theorem dL_arePlays_164 : decode cL_arePlays 164 = .ok (.iconst 1, 1) := by decide +kernel
theorem dL_arePlays_165 : decode cL_arePlays 165 = .ok (.iload_n 2, 1) := by decide +kernel
theorem dL_arePlays_166 : decode cL_arePlays 166 = .ok (.isub, 1) := by decide +kernel
theorem dL_arePlays_167 : decode cL_arePlays 167 = .ok (.invokestatic 37, 3) := by decide +kernel
theorem dL_arePlays_170 : decode cL_arePlays 170 = .ok (.if_icmp .eq 5, 3) := by decide +kernel
theorem dL_arePlays_173 : decode cL_arePlays 173 = .ok (.iconst 0, 1) := by decide +kernel
theorem dL_arePlays_174 : decode cL_arePlays 174 = .ok (.ireturn, 1) := by decide +kernel
theorem dL_arePlays_175 : decode cL_arePlays 175 = .ok (.aload_n 0, 1) := by decide +kernel
theorem dL_arePlays_176 : decode cL_arePlays 176 = .ok (.bipush 7, 2) := by decide +kernel
theorem dL_arePlays_178 : decode cL_arePlays 178 = .ok (.invokevirtual 8, 3) := by decide +kernel
theorem dL_arePlays_181 : decode cL_arePlays 181 = .ok (.istore 14, 2) := by decide +kernel
theorem dL_arePlays_183 : decode cL_arePlays 183 = .ok (.aload_n 0, 1) := by decide +kernel
theorem dL_arePlays_184 : decode cL_arePlays 184 = .ok (.iload_n 2, 1) := by decide +kernel
theorem dL_arePlays_185 : decode cL_arePlays 185 = .ok (.invokevirtual 36, 3) := by decide +kernel
theorem dL_arePlays_188 : decode cL_arePlays 188 = .ok (.istore 15, 2) := by decide +kernel
theorem dL_arePlays_190 : decode cL_arePlays 190 = .ok (.iload 6, 2) := by decide +kernel
theorem dL_arePlays_192 : decode cL_arePlays 192 = .ok (.ifCond .ge 17, 3) := by decide +kernel
theorem dL_arePlays_195 : decode cL_arePlays 195 = .ok (.aload_n 0, 1) := by decide +kernel
theorem dL_arePlays_196 : decode cL_arePlays 196 = .ok (.iconst 5, 1) := by decide +kernel
theorem dL_arePlays_197 : decode cL_arePlays 197 = .ok (.invokevirtual 8, 3) := by decide +kernel
theorem dL_arePlays_200 : decode cL_arePlays 200 = .ok (.iconst 1, 1) := by decide +kernel
theorem dL_arePlays_201 : decode cL_arePlays 201 = .ok (.if_icmp .ne 8, 3) := by decide +kernel
theorem dL_arePlays_204 : decode cL_arePlays 204 = .ok (.iload 11, 2) := by decide +kernel
theorem dL_arePlays_206 : decode cL_arePlays 206 = .ok (.goto 5, 3) := by decide +kernel
theorem dL_arePlays_209 : decode cL_arePlays 209 = .ok (.iload 6, 2) := by decide +kernel
theorem dL_arePlays_211 : decode cL_arePlays 211 = .ok (.istore 6, 2) := by decide +kernel
theorem dL_arePlays_213 : decode cL_arePlays 213 = .ok (.aload_n 0, 1) := by decide +kernel
theorem dL_arePlays_214 : decode cL_arePlays 214 = .ok (.iconst 5, 1) := by decide +kernel
theorem dL_arePlays_215 : decode cL_arePlays 215 = .ok (.invokevirtual 8, 3) := by decide +kernel
theorem dL_arePlays_218 : decode cL_arePlays 218 = .ok (.iload 14, 2) := by decide +kernel
theorem dL_arePlays_220 : decode cL_arePlays 220 = .ok (.ifCond .ne 13, 3) := by decide +kernel
theorem dL_arePlays_223 : decode cL_arePlays 223 = .ok (.iload 13, 2) := by decide +kernel
theorem dL_arePlays_225 : decode cL_arePlays 225 = .ok (.iconst 1, 1) := by decide +kernel
theorem dL_arePlays_226 : decode cL_arePlays 226 = .ok (.if_icmp .ne 7, 3) := by decide +kernel
theorem dL_arePlays_229 : decode cL_arePlays 229 = .ok (.iconst 1, 1) := by decide +kernel
theorem dL_arePlays_230 : decode cL_arePlays 230 = .ok (.goto 4, 3) := by decide +kernel
theorem dL_arePlays_233 : decode cL_arePlays 233 = .ok (.iconst 0, 1) := by decide +kernel
theorem dL_arePlays_234 : decode cL_arePlays 234 = .ok (.if_icmp .ne 40, 3) := by decide +kernel
theorem dL_arePlays_237 : decode cL_arePlays 237 = .ok (.aload_n 0, 1) := by decide +kernel
theorem dL_arePlays_238 : decode cL_arePlays 238 = .ok (.bipush 6, 2) := by decide +kernel
theorem dL_arePlays_240 : decode cL_arePlays 240 = .ok (.invokevirtual 8, 3) := by decide +kernel
theorem dL_arePlays_243 : decode cL_arePlays 243 = .ok (.iload 14, 2) := by decide +kernel
theorem dL_arePlays_245 : decode cL_arePlays 245 = .ok (.ifCond .ne 7, 3) := by decide +kernel
theorem dL_arePlays_248 : decode cL_arePlays 248 = .ok (.iconst 1, 1) := by decide +kernel
theorem dL_arePlays_249 : decode cL_arePlays 249 = .ok (.goto 4, 3) := by decide +kernel
theorem dL_arePlays_252 : decode cL_arePlays 252 = .ok (.iconst 0, 1) := by decide +kernel
theorem dL_arePlays_253 : decode cL_arePlays 253 = .ok (.if_icmp .ne 21, 3) := by decide +kernel
theorem dL_arePlays_256 : decode cL_arePlays 256 = .ok (.iload 11, 2) := by decide +kernel
theorem dL_arePlays_258 : decode cL_arePlays 258 = .ok (.sipush 20500, 3) := by decide +kernel
theorem dL_arePlays_261 : decode cL_arePlays 261 = .ok (.if_icmp .le 15, 3) := by decide +kernel
theorem dL_arePlays_264 : decode cL_arePlays 264 = .ok (.aload_n 0, 1) := by decide +kernel
theorem dL_arePlays_265 : decode cL_arePlays 265 = .ok (.bipush 11, 2) := by decide +kernel
theorem dL_arePlays_267 : decode cL_arePlays 267 = .ok (.invokevirtual 8, 3) := by decide +kernel
theorem dL_arePlays_270 : decode cL_arePlays 270 = .ok (.iconst 1, 1) := by decide +kernel
theorem dL_arePlays_271 : decode cL_arePlays 271 = .ok (.if_icmp .ge 5, 3) := by decide +kernel
theorem dL_arePlays_274 : decode cL_arePlays 274 = .ok (.iconst 0, 1) := by decide +kernel
theorem dL_arePlays_275 : decode cL_arePlays 275 = .ok (.ireturn, 1) := by decide +kernel
theorem dL_arePlays_276 : decode cL_arePlays 276 = .ok (.iload 7, 2) := by decide +kernel
theorem dL_arePlays_278 : decode cL_arePlays 278 = .ok (.ifCond .lt 24, 3) := by decide +kernel
theorem dL_arePlays_281 : decode cL_arePlays 281 = .ok (.iload 14, 2) := by decide +kernel
theorem dL_arePlays_283 : decode cL_arePlays 283 = .ok (.iload 8, 2) := by decide +kernel
theorem dL_arePlays_285 : decode cL_arePlays 285 = .ok (.if_icmp .lt 17, 3) := by decide +kernel
theorem dL_arePlays_288 : decode cL_arePlays 288 = .ok (.iload 14, 2) := by decide +kernel
theorem dL_arePlays_290 : decode cL_arePlays 290 = .ok (.iload 8, 2) := by decide +kernel
theorem dL_arePlays_292 : decode cL_arePlays 292 = .ok (.if_icmp .ne 14, 3) := by decide +kernel
theorem dL_arePlays_295 : decode cL_arePlays 295 = .ok (.iload 15, 2) := by decide +kernel
theorem dL_arePlays_297 : decode cL_arePlays 297 = .ok (.iload 9, 2) := by decide +kernel
theorem dL_arePlays_299 : decode cL_arePlays 299 = .ok (.if_icmp .le 7, 3) := by decide +kernel
theorem dL_arePlays_302 : decode cL_arePlays 302 = .ok (.iconst 1, 1) := by decide +kernel
theorem dL_arePlays_303 : decode cL_arePlays 303 = .ok (.goto 4, 3) := by decide +kernel
theorem dL_arePlays_306 : decode cL_arePlays 306 = .ok (.iconst 0, 1) := by decide +kernel
theorem dL_arePlays_307 : decode cL_arePlays 307 = .ok (.istore 16, 2) := by decide +kernel
theorem dL_arePlays_309 : decode cL_arePlays 309 = .ok (.iload 16, 2) := by decide +kernel
theorem dL_arePlays_311 : decode cL_arePlays 311 = .ok (.ifCond .eq 8, 3) := by decide +kernel
theorem dL_arePlays_314 : decode cL_arePlays 314 = .ok (.iload 11, 2) := by decide +kernel
theorem dL_arePlays_316 : decode cL_arePlays 316 = .ok (.goto 5, 3) := by decide +kernel
theorem dL_arePlays_319 : decode cL_arePlays 319 = .ok (.iload 7, 2) := by decide +kernel
theorem dL_arePlays_321 : decode cL_arePlays 321 = .ok (.istore 7, 2) := by decide +kernel
theorem dL_arePlays_323 : decode cL_arePlays 323 = .ok (.iload 16, 2) := by decide +kernel
theorem dL_arePlays_325 : decode cL_arePlays 325 = .ok (.ifCond .eq 8, 3) := by decide +kernel
theorem dL_arePlays_328 : decode cL_arePlays 328 = .ok (.iload 14, 2) := by decide +kernel
theorem dL_arePlays_330 : decode cL_arePlays 330 = .ok (.goto 5, 3) := by decide +kernel
theorem dL_arePlays_333 : decode cL_arePlays 333 = .ok (.iload 8, 2) := by decide +kernel
theorem dL_arePlays_335 : decode cL_arePlays 335 = .ok (.istore 8, 2) := by decide +kernel
theorem dL_arePlays_337 : decode cL_arePlays 337 = .ok (.iload 16, 2) := by decide +kernel
theorem dL_arePlays_339 : decode cL_arePlays 339 = .ok (.ifCond .eq 8, 3) := by decide +kernel
theorem dL_arePlays_342 : decode cL_arePlays 342 = .ok (.iload 15, 2) := by decide +kernel
theorem dL_arePlays_344 : decode cL_arePlays 344 = .ok (.goto 5, 3) := by decide +kernel
theorem dL_arePlays_347 : decode cL_arePlays 347 = .ok (.iload 9, 2) := by decide +kernel
theorem dL_arePlays_349 : decode cL_arePlays 349 = .ok (.istore 9, 2) := by decide +kernel
theorem dL_arePlays_351 : decode cL_arePlays 351 = .ok (.iload 11, 2) := by decide +kernel
theorem dL_arePlays_353 : decode cL_arePlays 353 = .ok (.istore 5, 2) := by decide +kernel
theorem dL_arePlays_355 : decode cL_arePlays 355 = .ok (.aload_n 0, 1) := by decide +kernel
theorem dL_arePlays_356 : decode cL_arePlays 356 = .ok (.invokevirtual 57, 3) := by decide +kernel
theorem dL_arePlays_359 : decode cL_arePlays 359 = .ok (.ifCond .lt 23, 3) := by decide +kernel
theorem dL_arePlays_362 : decode cL_arePlays 362 = .ok (.aload_n 0, 1) := by decide +kernel
theorem dL_arePlays_363 : decode cL_arePlays 363 = .ok (.bipush 8, 2) := by decide +kernel
theorem dL_arePlays_365 : decode cL_arePlays 365 = .ok (.invokevirtual 8, 3) := by decide +kernel
theorem dL_arePlays_368 : decode cL_arePlays 368 = .ok (.iload 12, 2) := by decide +kernel
theorem dL_arePlays_370 : decode cL_arePlays 370 = .ok (.if_icmp .ne 12, 3) := by decide +kernel
theorem dL_arePlays_373 : decode cL_arePlays 373 = .ok (.aload_n 0, 1) := by decide +kernel
theorem dL_arePlays_374 : decode cL_arePlays 374 = .ok (.iconst 0, 1) := by decide +kernel
theorem dL_arePlays_375 : decode cL_arePlays 375 = .ok (.invokevirtual 8, 3) := by decide +kernel
theorem dL_arePlays_378 : decode cL_arePlays 378 = .ok (.iload_n 2, 1) := by decide +kernel
theorem dL_arePlays_379 : decode cL_arePlays 379 = .ok (.if_icmp .eq 5, 3) := by decide +kernel
theorem dL_arePlays_382 : decode cL_arePlays 382 = .ok (.iconst 0, 1) := by decide +kernel
theorem dL_arePlays_383 : decode cL_arePlays 383 = .ok (.ireturn, 1) := by decide +kernel
theorem dL_arePlays_384 : decode cL_arePlays 384 = .ok (.iinc 10 1, 3) := by decide +kernel
theorem dL_arePlays_387 : decode cL_arePlays 387 = .ok (.goto (-340), 3) := by decide +kernel
theorem dL_arePlays_390 : decode cL_arePlays 390 = .ok (.aload_n 0, 1) := by decide +kernel
theorem dL_arePlays_391 : decode cL_arePlays 391 = .ok (.iload_n 1, 1) := by decide +kernel
theorem dL_arePlays_392 : decode cL_arePlays 392 = .ok (.invokevirtual 51, 3) := by decide +kernel
theorem dL_arePlays_395 : decode cL_arePlays 395 = .ok (.sipush (-1005), 3) := by decide +kernel
theorem dL_arePlays_398 : decode cL_arePlays 398 = .ok (.if_icmp .ne 59, 3) := by decide +kernel
theorem dL_arePlays_401 : decode cL_arePlays 401 = .ok (.aload_n 0, 1) := by decide +kernel
theorem dL_arePlays_402 : decode cL_arePlays 402 = .ok (.iconst (-1), 1) := by decide +kernel
theorem dL_arePlays_403 : decode cL_arePlays 403 = .ok (.invokevirtual 51, 3) := by decide +kernel
theorem dL_arePlays_406 : decode cL_arePlays 406 = .ok (.sipush (-1002), 3) := by decide +kernel
theorem dL_arePlays_409 : decode cL_arePlays 409 = .ok (.if_icmp .ne 48, 3) := by decide +kernel
theorem dL_arePlays_412 : decode cL_arePlays 412 = .ok (.aload_n 0, 1) := by decide +kernel
theorem dL_arePlays_413 : decode cL_arePlays 413 = .ok (.invokevirtual 61, 3) := by decide +kernel
theorem dL_arePlays_416 : decode cL_arePlays 416 = .ok (.iload 6, 2) := by decide +kernel
theorem dL_arePlays_418 : decode cL_arePlays 418 = .ok (.if_icmp .ne 39, 3) := by decide +kernel
theorem dL_arePlays_421 : decode cL_arePlays 421 = .ok (.aload_n 0, 1) := by decide +kernel
theorem dL_arePlays_422 : decode cL_arePlays 422 = .ok (.invokevirtual 64, 3) := by decide +kernel
theorem dL_arePlays_425 : decode cL_arePlays 425 = .ok (.iload 7, 2) := by decide +kernel
theorem dL_arePlays_427 : decode cL_arePlays 427 = .ok (.if_icmp .ne 30, 3) := by decide +kernel
theorem dL_arePlays_430 : decode cL_arePlays 430 = .ok (.aload_n 0, 1) := by decide +kernel
theorem dL_arePlays_431 : decode cL_arePlays 431 = .ok (.iconst 4, 1) := by decide +kernel
theorem dL_arePlays_432 : decode cL_arePlays 432 = .ok (.invokevirtual 8, 3) := by decide +kernel
theorem dL_arePlays_435 : decode cL_arePlays 435 = .ok (.iload_n 3, 1) := by decide +kernel
theorem dL_arePlays_436 : decode cL_arePlays 436 = .ok (.if_icmp .ne 21, 3) := by decide +kernel
theorem dL_arePlays_439 : decode cL_arePlays 439 = .ok (.aload_n 0, 1) := by decide +kernel
theorem dL_arePlays_440 : decode cL_arePlays 440 = .ok (.iload 5, 2) := by decide +kernel
theorem dL_arePlays_442 : decode cL_arePlays 442 = .ok (.iconst 1, 1) := by decide +kernel
theorem dL_arePlays_443 : decode cL_arePlays 443 = .ok (.iadd, 1) := by decide +kernel
theorem dL_arePlays_444 : decode cL_arePlays 444 = .ok (.invokevirtual 54, 3) := by decide +kernel
theorem dL_arePlays_447 : decode cL_arePlays 447 = .ok (.sipush (-1004), 3) := by decide +kernel
theorem dL_arePlays_450 : decode cL_arePlays 450 = .ok (.if_icmp .ne 7, 3) := by decide +kernel
theorem dL_arePlays_453 : decode cL_arePlays 453 = .ok (.iconst 1, 1) := by decide +kernel
theorem dL_arePlays_454 : decode cL_arePlays 454 = .ok (.goto 4, 3) := by decide +kernel
theorem dL_arePlays_457 : decode cL_arePlays 457 = .ok (.iconst 0, 1) := by decide +kernel
theorem dL_arePlays_458 : decode cL_arePlays 458 = .ok (.ireturn, 1) := by decide +kernel
