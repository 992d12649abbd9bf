set_option maxRecDepth 20000 in
theorem ggL_does_L_low : GoodIn wsL_does wsL_low := goodIn_r _ [4, 5] (by decide +kernel) (by decide +kernel)
set_option maxRecDepth 20000 in
theorem gL_does_L_low : GoodIn wsL_does (va_wsS RL 67 yL_low wsL_low) := goodIn_app (goodIn_of _ (by decide +kernel)) ggL_does_L_low
set_option maxRecDepth 20000 in
theorem ggL_does_X4_man : GoodIn wsL_does wsX4_man := goodIn_r _ [10, 11, 12, 13, 9, 14, 15, 16, 17, 18, 19, 20, 296, 297, 298, 299, 300, 301, 302, 303, 304] (by decide +kernel) (by decide +kernel)
set_option maxRecDepth 20000 in
theorem gL_does_X4_man : GoodIn wsL_does (wsV RL 14 RX4 yX4_man wsX4_man) := goodIn_app (goodIn_of _ (by decide +kernel)) ggL_does_X4_man
set_option maxRecDepth 20000 in
theorem ggL_does_X4_total : GoodIn wsL_does wsX4_total := goodIn_r _ [24, 11, 25, 26, 27, 28, 29, 30, 18, 31, 20, 32, 33, 34, 35, 36, 37, 38, 39, 40, 41, 42, 43, 44, 9, 45, 46, 47, 48, 49, 50, 51, 52, 53, 54, 55, 56, 57, 58, 59, 60, 61, 62, 63, 64, 65, 66, 67, 68, 69, 70, 71, 72, 73, 74, 75, 76, 77, 78, 79, 16, 17, 19, 80, 81, 82, 83, 84, 85, 86, 87, 88, 89, 90, 91, 92, 93, 94, 95, 96, 97, 98, 99, 100, 101, 102, 13, 14, 103, 104, 105, 106, 107, 108, 109, 110, 111, 112, 113, 114, 115, 116, 117, 118, 119, 120, 121, 122, 123, 124, 125, 126, 127, 128, 129, 130, 131, 132, 133, 134, 135, 136, 137, 138, 139, 140, 141, 142, 143, 144, 145, 146, 147, 148, 149, 150, 151, 152, 153, 154, 155, 156, 157, 158, 159, 160, 161, 162, 163, 164, 165, 166, 167, 168, 169, 170, 171, 172, 173, 174, 175, 176, 177, 178, 179, 180, 181, 182, 183, 184, 185, 186, 187, 188, 189, 190, 191, 192, 193, 194, 195, 196, 197, 198, 199, 200, 201, 202, 296, 297, 298, 299, 300, 301, 302, 303, 304, 305, 306, 307, 308, 309, 310, 311, 312, 313, 314, 315, 316, 317] (by decide +kernel) (by decide +kernel)
set_option maxRecDepth 20000 in
theorem gL_does_X4_total : GoodIn wsL_does (wsV RL 8 RX4 yX4_total wsX4_total) := goodIn_app (goodIn_of _ (by decide +kernel)) ggL_does_X4_total
set_option maxRecDepth 20000 in
theorem ggL_does_L_king : GoodIn wsL_does wsL_king := goodIn_r _ [205, 6, 7, 8, 9, 10, 11, 12, 13, 14, 15, 16, 17, 18, 19, 20, 296, 297, 298, 299, 300, 301, 302, 303, 304] (by decide +kernel) (by decide +kernel)
set_option maxRecDepth 20000 in
theorem gL_does_L_king : GoodIn wsL_does (va_wsS RL 17 yL_king wsL_king) := goodIn_app (goodIn_of _ (by decide +kernel)) ggL_does_L_king
set_option maxRecDepth 20000 in
theorem ggL_does_X4_put : GoodIn wsL_does wsX4_put := goodIn_r _ [209, 11, 12, 13, 9, 14, 210, 103, 104, 211, 80, 81, 212, 56, 57, 18, 58, 20, 44, 45, 213, 97, 98, 15, 16, 17, 19, 214, 215, 216, 217, 218, 26, 219, 220, 221, 222, 223, 224, 225, 226, 227, 228, 229, 194, 230, 196, 231, 232, 233, 100, 101, 102, 32, 33, 34, 35, 296, 297, 298, 299, 300, 301, 302, 303, 304, 311, 312] (by decide +kernel) (by decide +kernel)
set_option maxRecDepth 20000 in
theorem gL_does_X4_put : GoodIn wsL_does (wsV RL 70 RX4 yX4_put wsX4_put) := goodIn_app (goodIn_of _ (by decide +kernel)) ggL_does_X4_put
set_option maxRecDepth 20000 in
theorem ggL_does_X4_takeOff : GoodIn wsL_does wsX4_takeOff := goodIn_r _ [237, 11, 12, 13, 9, 14, 15, 16, 17, 18, 19, 20, 214, 215, 216, 217, 218, 26, 219, 220, 221, 222, 223, 224, 225, 226, 227, 228, 229, 194, 230, 196, 231, 232, 233, 100, 101, 102, 103, 104, 97, 98, 80, 81, 296, 297, 298, 299, 300, 301, 302, 303, 304, 311, 312] (by decide +kernel) (by decide +kernel)
set_option maxRecDepth 20000 in
theorem gL_does_X4_takeOff : GoodIn wsL_does (wsV RL 73 RX4 yX4_takeOff wsX4_takeOff) := goodIn_app (goodIn_of _ (by decide +kernel)) ggL_does_X4_takeOff
set_option maxRecDepth 20000 in
theorem ggL_does_X4_hand : GoodIn wsL_does wsX4_hand := goodIn_r _ [241, 11, 242, 44, 9, 45, 243, 46, 47, 244, 41, 42, 18, 43, 20, 296, 297, 298, 299, 300, 301, 302, 303, 304] (by decide +kernel) (by decide +kernel)
set_option maxRecDepth 20000 in
theorem gL_does_X4_hand : GoodIn wsL_does (wsV RL 33 RX4 yX4_hand wsX4_hand) := goodIn_app (goodIn_of _ (by decide +kernel)) ggL_does_X4_hand
set_option maxRecDepth 20000 in
theorem ggL_does_X4_setHand : GoodIn wsL_does wsX4_setHand := goodIn_r _ [248, 11, 242, 44, 9, 45, 243, 46, 47, 244, 41, 42, 18, 43, 20, 214, 215, 216, 217, 218, 26, 219, 220, 221, 222, 223, 224, 225, 226, 227, 228, 229, 194, 230, 196, 231, 232, 249, 158, 159, 160, 296, 297, 298, 299, 300, 301, 302, 303, 304, 311, 312] (by decide +kernel) (by decide +kernel)
set_option maxRecDepth 20000 in
theorem gL_does_X4_setHand : GoodIn wsL_does (wsV RL 76 RX4 yX4_setHand wsX4_setHand) := goodIn_app (goodIn_of _ (by decide +kernel)) ggL_does_X4_setHand
set_option maxRecDepth 20000 in
theorem ggL_does_X4_setSide : GoodIn wsL_does wsX4_setSide := goodIn_r _ [253, 11, 25, 242, 44, 9, 45, 28, 29, 30, 18, 31, 20, 214, 215, 216, 217, 218, 26, 219, 220, 221, 222, 223, 224, 225, 226, 227, 228, 229, 194, 230, 196, 231, 232, 254, 154, 155, 156, 174, 73, 74, 51, 75, 53, 76, 77, 78, 54, 79, 16, 17, 19, 80, 81, 82, 83, 84, 85, 86, 87, 88, 89, 63, 90, 91, 92, 93, 94, 95, 96, 97, 98, 99, 100, 101, 102, 13, 14, 103, 104, 55, 56, 57, 58, 59, 60, 61, 62, 105, 106, 107, 108, 109, 110, 111, 112, 113, 114, 115, 116, 117, 118, 119, 120, 121, 122, 123, 124, 125, 126, 127, 128, 129, 130, 131, 132, 133, 134, 135, 136, 41, 42, 43, 46, 47, 137, 138, 139, 140, 141, 142, 143, 144, 145, 146, 147, 148, 149, 150, 151, 152, 153, 40, 157, 158, 159, 160, 161, 162, 163, 164, 165, 71, 49, 50, 52, 166, 167, 168, 169, 170, 171, 172, 173, 296, 297, 298, 299, 300, 301, 302, 303, 304, 311, 312, 305, 306, 307, 308, 309, 310] (by decide +kernel) (by decide +kernel)
set_option maxRecDepth 20000 in
theorem gL_does_X4_setSide : GoodIn wsL_does (wsV RL 80 RX4 yX4_setSide wsX4_setSide) := goodIn_app (goodIn_of _ (by decide +kernel)) ggL_does_X4_setSide
set_option maxRecDepth 20000 in
theorem ggL_does_X4_playAt : GoodIn wsL_does wsX4_playAt := goodIn_r _ [258, 25, 174, 73, 74, 51, 75, 53, 76, 77, 78, 54, 29, 30, 18, 31, 20, 79, 16, 17, 19, 80, 9, 81, 82, 83, 84, 85, 86, 87, 88, 89, 63, 90, 91, 92, 93, 94, 95, 96, 97, 98, 99, 100, 101, 102, 13, 14, 103, 104, 55, 56, 57, 58, 44, 45, 59, 60, 61, 62, 105, 106, 107, 108, 109, 110, 111, 112, 113, 114, 115, 116, 117, 118, 119, 120, 121, 122, 123, 124, 125, 126, 127, 128, 129, 130, 131, 132, 133, 134, 135, 136, 41, 42, 43, 46, 47, 137, 138, 139, 140, 141, 142, 143, 144, 145, 146, 147, 148, 149, 150, 151, 152, 153, 154, 155, 156, 40, 157, 158, 159, 160, 161, 162, 163, 164, 165, 71, 49, 50, 52, 166, 167, 168, 169, 170, 171, 172, 173, 259, 260, 261, 262, 263, 264, 265, 266, 267, 268, 269, 270, 271, 272, 273, 274, 296, 297, 298, 299, 300, 301, 302, 305, 306, 307, 308, 309, 310, 303, 304] (by decide +kernel) (by decide +kernel)
set_option maxRecDepth 20000 in
theorem gL_does_X4_playAt : GoodIn wsL_does (wsV RL 51 RX4 yX4_playAt wsX4_playAt) := goodIn_app (goodIn_of _ (by decide +kernel)) ggL_does_X4_playAt
set_option maxRecDepth 20000 in
theorem ggL_does_X4_make : GoodIn wsL_does wsX4_make := goodIn_r _ [278, 25, 11, 279, 280, 281, 51, 282, 13, 9, 14, 46, 47, 283, 284, 285, 286, 53, 54, 29, 30, 18, 31, 20, 136, 41, 42, 43, 44, 45, 79, 16, 17, 19, 111, 112, 113, 91, 92, 137, 138, 139, 140, 141, 130, 131, 126, 127, 128, 129, 55, 56, 57, 58, 59, 60, 61, 62, 63, 99, 100, 101, 102, 103, 104, 97, 98, 80, 81, 105, 106, 142, 143, 144, 145, 146, 147, 148, 149, 150, 151, 152, 153, 154, 155, 156, 40, 157, 158, 159, 160, 161, 90, 162, 163, 164, 165, 71, 49, 50, 52, 166, 167, 168, 169, 82, 83, 84, 85, 86, 87, 88, 89, 93, 94, 95, 96, 132, 133, 134, 135, 170, 171, 172, 173, 287, 288, 289, 290, 114, 115, 116, 117, 118, 107, 108, 109, 110, 214, 215, 216, 217, 218, 26, 219, 220, 221, 222, 223, 224, 225, 226, 227, 228, 229, 194, 230, 196, 231, 232, 291, 292, 293, 294, 295, 48, 64, 65, 66, 296, 297, 298, 299, 300, 301, 302, 305, 306, 307, 308, 309, 310, 303, 304, 311, 312] (by decide +kernel) (by decide +kernel)
set_option maxRecDepth 20000 in
theorem gL_does_X4_make : GoodIn wsL_does (wsV RL 54 RX4 yX4_make wsX4_make) := goodIn_app (goodIn_of _ (by decide +kernel)) ggL_does_X4_make
theorem dL_does_0 : decode cL_does 0 = .ok (.iload_n 1, 1) := by decide +kernel
theorem dL_does_1 : decode cL_does 1 = .ok (.iconst 4, 1) := by decide +kernel
theorem dL_does_2 : decode cL_does 2 = .ok (.ishr, 1) := by decide +kernel
theorem dL_does_3 : decode cL_does 3 = .ok (.bipush 25, 2) := by decide +kernel
theorem dL_does_5 : decode cL_does 5 = .ok (.invokestatic 67, 3) := by decide +kernel
theorem dL_does_8 : decode cL_does 8 = .ok (.istore_n 2, 1) := by decide +kernel
theorem dL_does_9 : decode cL_does 9 = .ok (.iload_n 1, 1) := by decide +kernel
theorem dL_does_10 : decode cL_does 10 = .ok (.bipush 9, 2) := by decide +kernel
theorem dL_does_12 : decode cL_does 12 = .ok (.ishr, 1) := by decide +kernel
theorem dL_does_13 : decode cL_does 13 = .ok (.bipush 20, 2) := by decide +kernel
theorem dL_does_15 : decode cL_does 15 = .ok (.invokestatic 67, 3) := by decide +kernel
theorem dL_does_18 : decode cL_does 18 = .ok (.istore_n 3, 1) := by decide +kernel
theorem dL_does_19 : decode cL_does 19 = .ok (.aload_n 0, 1) := by decide +kernel
theorem dL_does_20 : decode cL_does 20 = .ok (.iload_n 2, 1) := by decide +kernel
theorem dL_does_21 : decode cL_does 21 = .ok (.invokevirtual 14, 3) := by decide +kernel
theorem dL_does_24 : decode cL_does 24 = .ok (.istore 4, 2) := by decide +kernel
theorem dL_does_26 : decode cL_does 26 = .ok (.aload_n 0, 1) := by decide +kernel
theorem dL_does_27 : decode cL_does 27 = .ok (.iconst 1, 1) := by decide +kernel
theorem dL_does_28 : decode cL_does 28 = .ok (.invokevirtual 8, 3) := by decide +kernel
theorem dL_does_31 : decode cL_does 31 = .ok (.istore 5, 2) := by decide +kernel
theorem dL_does_33 : decode cL_does 33 = .ok (.iload_n 1, 1) := by decide +kernel
theorem dL_does_34 : decode cL_does 34 = .ok (.bipush 12, 2) := by decide +kernel
theorem dL_does_36 : decode cL_does 36 = .ok (.invokestatic 67, 3) := by decide +kernel
theorem dL_does_39 : decode cL_does 39 = .ok (.tableswitch 324 0 3 #[29, 108, 157, 243], 29) := by decide +kernel
theorem dL_does_68 : decode cL_does 68 = .ok (.iload_n 3, 1) := by decide +kernel
theorem dL_does_69 : decode cL_does 69 = .ok (.bipush 10, 2) := by decide +kernel
theorem dL_does_71 : decode cL_does 71 = .ok (.irem, 1) := by decide +kernel
theorem dL_does_72 : decode cL_does 72 = .ok (.ifCond .ne 14, 3) := by decide +kernel
theorem dL_does_75 : decode cL_does 75 = .ok (.aload_n 0, 1) := by decide +kernel
theorem dL_does_76 : decode cL_does 76 = .ok (.iload_n 3, 1) := by decide +kernel
theorem dL_does_77 : decode cL_does 77 = .ok (.bipush 10, 2) := by decide +kernel
theorem dL_does_79 : decode cL_does 79 = .ok (.idiv, 1) := by decide +kernel
theorem dL_does_80 : decode cL_does 80 = .ok (.invokestatic 17, 3) := by decide +kernel
theorem dL_does_83 : decode cL_does 83 = .ok (.goto 4, 3) := by decide +kernel
theorem dL_does_86 : decode cL_does 86 = .ok (.iconst (-1), 1) := by decide +kernel
theorem dL_does_87 : decode cL_does 87 = .ok (.istore 6, 2) := by decide +kernel
theorem dL_does_89 : decode cL_does 89 = .ok (.aload_n 0, 1) := by decide +kernel
theorem dL_does_90 : decode cL_does 90 = .ok (.iload_n 2, 1) := by decide +kernel
theorem dL_does_91 : decode cL_does 91 = .ok (.iload_n 3, 1) := by decide +kernel
theorem dL_does_92 : decode cL_does 92 = .ok (.invokevirtual 70, 3) := by decide +kernel
theorem dL_does_95 : decode cL_does 95 = .ok (.iload 6, 2) := by decide +kernel
theorem dL_does_97 : decode cL_does 97 = .ok (.ifCond .lt 15, 3) := by decide +kernel
theorem dL_does_100 : decode cL_does 100 = .ok (.iload 6, 2) := by decide +kernel
theorem dL_does_102 : decode cL_does 102 = .ok (.iload_n 2, 1) := by decide +kernel
theorem dL_does_103 : decode cL_does 103 = .ok (.if_icmp .eq 9, 3) := by decide +kernel
theorem dL_does_106 : decode cL_does 106 = .ok (.sipush (-1004), 3) := by decide +kernel
theorem dL_does_109 : decode cL_does 109 = .ok (.goto 29, 3) := by decide +kernel
theorem dL_does_112 : decode cL_does 112 = .ok (.iload 4, 2) := by decide +kernel
theorem dL_does_114 : decode cL_does 114 = .ok (.iload_n 3, 1) := by decide +kernel
theorem dL_does_115 : decode cL_does 115 = .ok (.if_icmp .ne 9, 3) := by decide +kernel
theorem dL_does_118 : decode cL_does 118 = .ok (.sipush (-1005), 3) := by decide +kernel
theorem dL_does_121 : decode cL_does 121 = .ok (.goto 17, 3) := by decide +kernel
theorem dL_does_124 : decode cL_does 124 = .ok (.iload 4, 2) := by decide +kernel
theorem dL_does_126 : decode cL_does 126 = .ok (.ifCond .lt 8, 3) := by decide +kernel
theorem dL_does_129 : decode cL_does 129 = .ok (.iload 5, 2) := by decide +kernel
theorem dL_does_131 : decode cL_does 131 = .ok (.goto 7, 3) := by decide +kernel
theorem dL_does_134 : decode cL_does 134 = .ok (.iload 5, 2) := by decide +kernel
theorem dL_does_136 : decode cL_does 136 = .ok (.iconst 1, 1) := by decide +kernel
theorem dL_does_137 : decode cL_does 137 = .ok (.iadd, 1) := by decide +kernel
theorem dL_does_138 : decode cL_does 138 = .ok (.if_icmp .ne 7, 3) := by decide +kernel
theorem dL_does_141 : decode cL_does 141 = .ok (.iconst 1, 1) := by decide +kernel
theorem dL_does_142 : decode cL_does 142 = .ok (.goto 4, 3) := by decide +kernel
theorem dL_does_145 : decode cL_does 145 = .ok (.iconst 0, 1) := by decide +kernel
theorem dL_does_146 : decode cL_does 146 = .ok (.ireturn, 1) := by decide +kernel
theorem dL_does_147 : decode cL_does 147 = .ok (.iload_n 1, 1) := by decide +kernel
theorem dL_does_148 : decode cL_does 148 = .ok (.bipush 14, 2) := by decide +kernel
theorem dL_does_150 : decode cL_does 150 = .ok (.ishr, 1) := by decide +kernel
theorem dL_does_151 : decode cL_does 151 = .ok (.iconst 1, 1) := by decide +kernel
theorem dL_does_152 : decode cL_does 152 = .ok (.iand, 1) := by decide +kernel
theorem dL_does_153 : decode cL_does 153 = .ok (.ifCond .eq 37, 3) := by decide +kernel
theorem dL_does_156 : decode cL_does 156 = .ok (.iload 4, 2) := by decide +kernel
theorem dL_does_158 : decode cL_does 158 = .ok (.ifCond .lt 11, 3) := by decide +kernel
theorem dL_does_161 : decode cL_does 161 = .ok (.iload 4, 2) := by decide +kernel
theorem dL_does_163 : decode cL_does 163 = .ok (.bipush 10, 2) := by decide +kernel
theorem dL_does_165 : decode cL_does 165 = .ok (.irem, 1) := by decide +kernel
theorem dL_does_166 : decode cL_does 166 = .ok (.ifCond .eq 24, 3) := by decide +kernel
theorem dL_does_169 : decode cL_does 169 = .ok (.aload_n 0, 1) := by decide +kernel
theorem dL_does_170 : decode cL_does 170 = .ok (.iload_n 2, 1) := by decide +kernel
theorem dL_does_171 : decode cL_does 171 = .ok (.invokevirtual 73, 3) := by decide +kernel
theorem dL_does_174 : decode cL_does 174 = .ok (.iload 4, 2) := by decide +kernel
theorem dL_does_176 : decode cL_does 176 = .ok (.if_icmp .ne 18, 3) := by decide +kernel
theorem dL_does_179 : decode cL_does 179 = .ok (.aload_n 0, 1) := by decide +kernel
theorem dL_does_180 : decode cL_does 180 = .ok (.iload_n 2, 1) := by decide +kernel
theorem dL_does_181 : decode cL_does 181 = .ok (.invokevirtual 14, 3) := by decide +kernel
theorem dL_does_184 : decode cL_does 184 = .ok (.sipush (-1005), 3) := by decide +kernel
theorem dL_does_187 : decode cL_does 187 = .ok (.if_icmp .ne 7, 3) := by decide +kernel
theorem dL_does_190 : decode cL_does 190 = .ok (.iconst 1, 1) := by decide +kernel
theorem dL_does_191 : decode cL_does 191 = .ok (.goto 4, 3) := by decide +kernel
theorem dL_does_194 : decode cL_does 194 = .ok (.iconst 0, 1) := by decide +kernel
theorem dL_does_195 : decode cL_does 195 = .ok (.ireturn, 1) := by decide +kernel
theorem dL_does_196 : decode cL_does 196 = .ok (.iconst 1, 1) := by decide +kernel
theorem dL_does_197 : decode cL_does 197 = .ok (.iload_n 1, 1) := by decide +kernel
theorem dL_does_198 : decode cL_does 198 = .ok (.bipush 9, 2) := by decide +kernel
theorem dL_does_200 : decode cL_does 200 = .ok (.ishr, 1) := by decide +kernel
theorem dL_does_201 : decode cL_does 201 = .ok (.iconst 5, 1) := by decide +kernel
theorem dL_does_202 : decode cL_does 202 = .ok (.invokestatic 67, 3) := by decide +kernel
theorem dL_does_205 : decode cL_does 205 = .ok (.iadd, 1) := by decide +kernel
theorem dL_does_206 : decode cL_does 206 = .ok (.istore 7, 2) := by decide +kernel
theorem dL_does_208 : decode cL_does 208 = .ok (.iload_n 1, 1) := by decide +kernel
theorem dL_does_209 : decode cL_does 209 = .ok (.iconst 4, 1) := by decide +kernel
theorem dL_does_210 : decode cL_does 210 = .ok (.ishr, 1) := by decide +kernel
theorem dL_does_211 : decode cL_does 211 = .ok (.iconst 1, 1) := by decide +kernel
theorem dL_does_212 : decode cL_does 212 = .ok (.iand, 1) := by decide +kernel
theorem dL_does_213 : decode cL_does 213 = .ok (.istore 8, 2) := by decide +kernel
theorem dL_does_215 : decode cL_does 215 = .ok (.iload_n 1, 1) := by decide +kernel
theorem dL_does_216 : decode cL_does 216 = .ok (.bipush 12, 2) := by decide +kernel
theorem dL_does_218 : decode cL_does 218 = .ok (.ishr, 1) := by decide +kernel
theorem dL_does_219 : decode cL_does 219 = .ok (.iconst 5, 1) := by decide +kernel
theorem dL_does_220 : decode cL_does 220 = .ok (.invokestatic 67, 3) := by decide +kernel
theorem dL_does_223 : decode cL_does 223 = .ok (.istore 9, 2) := by decide +kernel
theorem dL_does_225 : decode cL_does 225 = .ok (.aload_n 0, 1) := by decide +kernel
theorem dL_does_226 : decode cL_does 226 = .ok (.iload 8, 2) := by decide +kernel
theorem dL_does_228 : decode cL_does 228 = .ok (.iload 7, 2) := by decide +kernel
theorem dL_does_230 : decode cL_does 230 = .ok (.invokevirtual 33, 3) := by decide +kernel
theorem dL_does_233 : decode cL_does 233 = .ok (.istore 10, 2) := by decide +kernel
theorem dL_does_235 : decode cL_does 235 = .ok (.aload_n 0, 1) := by decide +kernel
theorem dL_does_236 : decode cL_does 236 = .ok (.iload 8, 2) := by decide +kernel
theorem dL_does_238 : decode cL_does 238 = .ok (.iload 7, 2) := by decide +kernel
theorem dL_does_240 : decode cL_does 240 = .ok (.iload 9, 2) := by decide +kernel
theorem dL_does_242 : decode cL_does 242 = .ok (.invokevirtual 76, 3) := by decide +kernel
theorem dL_does_245 : decode cL_does 245 = .ok (.iload 10, 2) := by decide +kernel
theorem dL_does_247 : decode cL_does 247 = .ok (.iload 9, 2) := by decide +kernel
theorem dL_does_249 : decode cL_does 249 = .ok (.if_icmp .ne 9, 3) := by decide +kernel
theorem dL_does_252 : decode cL_does 252 = .ok (.sipush (-1005), 3) := by decide +kernel
theorem dL_does_255 : decode cL_does 255 = .ok (.goto 5, 3) := by decide +kernel
theorem dL_does_258 : decode cL_does 258 = .ok (.iload 10, 2) := by decide +kernel
theorem dL_does_260 : decode cL_does 260 = .ok (.if_icmp .ne 20, 3) := by decide +kernel
theorem dL_does_263 : decode cL_does 263 = .ok (.aload_n 0, 1) := by decide +kernel
theorem dL_does_264 : decode cL_does 264 = .ok (.iload 8, 2) := by decide +kernel
theorem dL_does_266 : decode cL_does 266 = .ok (.iload 7, 2) := by decide +kernel
theorem dL_does_268 : decode cL_does 268 = .ok (.invokevirtual 33, 3) := by decide +kernel
theorem dL_does_271 : decode cL_does 271 = .ok (.iload 9, 2) := by decide +kernel
theorem dL_does_273 : decode cL_does 273 = .ok (.if_icmp .ne 7, 3) := by decide +kernel
theorem dL_does_276 : decode cL_does 276 = .ok (.iconst 1, 1) := by decide +kernel
theorem dL_does_277 : decode cL_does 277 = .ok (.goto 4, 3) := by decide +kernel
theorem dL_does_280 : decode cL_does 280 = .ok (.iconst 0, 1) := by decide +kernel
theorem dL_does_281 : decode cL_does 281 = .ok (.ireturn, 1) := by decide +kernel
theorem dL_does_282 : decode cL_does 282 = .ok (.iload_n 1, 1) := by decide +kernel
theorem dL_does_283 : decode cL_does 283 = .ok (.iconst 4, 1) := by decide +kernel
theorem dL_does_284 : decode cL_does 284 = .ok (.ishr, 1) := by decide +kernel
theorem dL_does_285 : decode cL_does 285 = .ok (.iconst 1, 1) := by decide +kernel
theorem dL_does_286 : decode cL_does 286 = .ok (.iand, 1) := by decide +kernel
theorem dL_does_287 : decode cL_does 287 = .ok (.istore 11, 2) := by decide +kernel
theorem dL_does_289 : decode cL_does 289 = .ok (.iload 11, 2) := by decide +kernel
theorem dL_does_291 : decode cL_does 291 = .ok (.aload_n 0, 1) := by decide +kernel
theorem dL_does_292 : decode cL_does 292 = .ok (.iconst 0, 1) := by decide +kernel
theorem dL_does_293 : decode cL_does 293 = .ok (.invokevirtual 8, 3) := by decide +kernel
theorem dL_does_296 : decode cL_does 296 = .ok (.if_icmp .ne 9, 3) := by decide +kernel
theorem dL_does_299 : decode cL_does 299 = .ok (.sipush (-1005), 3) := by decide +kernel
theorem dL_does_302 : decode cL_does 302 = .ok (.goto 4, 3) := by decide +kernel
theorem dL_does_305 : decode cL_does 305 = .ok (.iconst 0, 1) := by decide +kernel
theorem dL_does_306 : decode cL_does 306 = .ok (.istore 12, 2) := by decide +kernel
theorem dL_does_308 : decode cL_does 308 = .ok (.aload_n 0, 1) := by decide +kernel
theorem dL_does_309 : decode cL_does 309 = .ok (.iload 11, 2) := by decide +kernel
theorem dL_does_311 : decode cL_does 311 = .ok (.invokevirtual 80, 3) := by decide +kernel
theorem dL_does_314 : decode cL_does 314 = .ok (.istore 13, 2) := by decide +kernel
theorem dL_does_316 : decode cL_does 316 = .ok (.iload 12, 2) := by decide +kernel
theorem dL_does_318 : decode cL_does 318 = .ok (.ifCond .ge 18, 3) := by decide +kernel
theorem dL_does_321 : decode cL_does 321 = .ok (.iload 13, 2) := by decide +kernel
theorem dL_does_323 : decode cL_does 323 = .ok (.iload 12, 2) := by decide +kernel
theorem dL_does_325 : decode cL_does 325 = .ok (.if_icmp .ne 7, 3) := by decide +kernel
theorem dL_does_328 : decode cL_does 328 = .ok (.iconst 1, 1) := by decide +kernel
theorem dL_does_329 : decode cL_does 329 = .ok (.goto 33, 3) := by decide +kernel
theorem dL_does_332 : decode cL_does 332 = .ok (.iconst 0, 1) := by decide +kernel
theorem dL_does_333 : decode cL_does 333 = .ok (.goto 29, 3) := by decide +kernel
theorem dL_does_336 : decode cL_does 336 = .ok (.iload 13, 2) := by decide +kernel
theorem dL_does_338 : decode cL_does 338 = .ok (.aload_n 0, 1) := by decide +kernel
theorem dL_does_339 : decode cL_does 339 = .ok (.bipush 7, 2) := by decide +kernel
theorem dL_does_341 : decode cL_does 341 = .ok (.invokevirtual 8, 3) := by decide +kernel
theorem dL_does_344 : decode cL_does 344 = .ok (.if_icmp .ne 17, 3) := by decide +kernel
theorem dL_does_347 : decode cL_does 347 = .ok (.aload_n 0, 1) := by decide +kernel
theorem dL_does_348 : decode cL_does 348 = .ok (.iconst 0, 1) := by decide +kernel
theorem dL_does_349 : decode cL_does 349 = .ok (.invokevirtual 8, 3) := by decide +kernel
theorem dL_does_352 : decode cL_does 352 = .ok (.iload 11, 2) := by decide +kernel
theorem dL_does_354 : decode cL_does 354 = .ok (.if_icmp .ne 7, 3) := by decide +kernel
theorem dL_does_357 : decode cL_does 357 = .ok (.iconst 1, 1) := by decide +kernel
theorem dL_does_358 : decode cL_does 358 = .ok (.goto 4, 3) := by decide +kernel
theorem dL_does_361 : decode cL_does 361 = .ok (.iconst 0, 1) := by decide +kernel
theorem dL_does_362 : decode cL_does 362 = .ok (.ireturn, 1) := by decide +kernel
theorem dL_does_363 : decode cL_does 363 = .ok (.aload_n 0, 1) := by decide +kernel
theorem dL_does_364 : decode cL_does 364 = .ok (.bipush 7, 2) := by decide +kernel
theorem dL_does_366 : decode cL_does 366 = .ok (.invokevirtual 8, 3) := by decide +kernel
theorem dL_does_369 : decode cL_does 369 = .ok (.istore 14, 2) := by decide +kernel
theorem dL_does_371 : decode cL_does 371 = .ok (.iload 14, 2) := by decide +kernel
theorem dL_does_373 : decode cL_does 373 = .ok (.ifCond .ne 7, 3) := by decide +kernel
theorem dL_does_376 : decode cL_does 376 = .ok (.iconst (-1), 1) := by decide +kernel
theorem dL_does_377 : decode cL_does 377 = .ok (.goto 15, 3) := by decide +kernel
theorem dL_does_380 : decode cL_does 380 = .ok (.aload_n 0, 1) := by decide +kernel
theorem dL_does_381 : decode cL_does 381 = .ok (.iload_n 1, 1) := by decide +kernel
theorem dL_does_382 : decode cL_does 382 = .ok (.iconst 4, 1) := by decide +kernel
theorem dL_does_383 : decode cL_does 383 = .ok (.ishr, 1) := by decide +kernel
theorem dL_does_384 : decode cL_does 384 = .ok (.iload 14, 2) := by decide +kernel
theorem dL_does_386 : decode cL_does 386 = .ok (.invokestatic 67, 3) := by decide +kernel
theorem dL_does_389 : decode cL_does 389 = .ok (.invokevirtual 51, 3) := by decide +kernel
theorem dL_does_392 : decode cL_does 392 = .ok (.istore 15, 2) := by decide +kernel
theorem dL_does_394 : decode cL_does 394 = .ok (.iload 14, 2) := by decide +kernel
theorem dL_does_396 : decode cL_does 396 = .ok (.ifCond .eq 12, 3) := by decide +kernel
theorem dL_does_399 : decode cL_does 399 = .ok (.aload_n 0, 1) := by decide +kernel
theorem dL_does_400 : decode cL_does 400 = .ok (.iload 15, 2) := by decide +kernel
theorem dL_does_402 : decode cL_does 402 = .ok (.invokevirtual 54, 3) := by decide +kernel
theorem dL_does_405 : decode cL_does 405 = .ok (.ifCond .lt 7, 3) := by decide +kernel
theorem dL_does_408 : decode cL_does 408 = .ok (.iconst 1, 1) := by decide +kernel
theorem dL_does_409 : decode cL_does 409 = .ok (.goto 4, 3) := by decide +kernel
theorem dL_does_412 : decode cL_does 412 = .ok (.iconst 0, 1) := by decide +kernel
theorem dL_does_413 : decode cL_does 413 = .ok (.ireturn, 1) := by decide +kernel
