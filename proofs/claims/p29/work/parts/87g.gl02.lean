set_option maxRecDepth 20000 in
theorem gi_X4_total_6 : GoodIn wsL_law wsX4_total_r6 := goodIn_r _ [204, 205, 206, 207, 208, 209, 210, 211, 212, 213, 214, 215, 216, 217, 218, 219, 220, 221, 222, 223, 224, 225, 226, 227] (by decide +kernel) (by decide +kernel)
set_option maxRecDepth 20000 in
theorem gi_X4_total_7 : GoodIn wsL_law wsX4_total_r7 := goodIn_r _ [228, 46, 229, 230, 231, 232, 233, 234, 235, 236, 237, 238, 239, 240, 241, 242, 243, 244, 245, 246, 247, 248, 249, 250] (by decide +kernel) (by decide +kernel)
set_option maxRecDepth 20000 in
theorem gi_X4_total_8 : GoodIn wsL_law wsX4_total_r8 := goodIn_r _ [251, 252, 253, 254, 255, 256, 257, 258, 259, 260, 19, 261, 70, 262, 263, 264, 23, 265, 76] (by decide +kernel) (by decide +kernel)
theorem ggL_law_X4_total : GoodIn wsL_law wsX4_total := (goodIn_ca (goodIn_ca (goodIn_ca (goodIn_ca (goodIn_ca (goodIn_ca gi_X4_total_1 (goodIn_app gi_X4_total_2 (goodIn_app gi_X4_total_3 (goodIn_app gi_X4_total_4 (goodIn_app gi_X4_total_5 (goodIn_app gi_X4_total_6 (goodIn_app gi_X4_total_7 gi_X4_total_8))))))) gi_wsX40) gi_wsX20) gi_wsX30) gi_wsX00) gi_wsX10)
set_option maxRecDepth 20000 in
theorem gL_law_X4_total : GoodIn wsL_law (wsV RL 8 RX4 yX4_total wsX4_total) := goodIn_app (goodIn_of _ (by decide +kernel)) ggL_law_X4_total
set_option maxRecDepth 20000 in
theorem ggL_law_X4_worth : GoodIn wsL_law wsX4_worth := goodIn_r _ [269, 12, 108, 109, 2, 110, 270, 271, 272, 11, 273, 33, 52, 53, 54, 55, 134, 115, 116, 117, 112, 113, 426, 427, 428, 429, 430, 431, 432, 433, 434] (by decide +kernel) (by decide +kernel)
set_option maxRecDepth 20000 in
theorem gL_law_X4_worth : GoodIn wsL_law (wsV RL 36 RX4 yX4_worth wsX4_worth) := goodIn_app (goodIn_of _ (by decide +kernel)) ggL_law_X4_worth
set_option maxRecDepth 20000 in
theorem ggL_law_X4_undo : GoodIn wsL_law wsX4_undo := goodIn_r _ [288, 20, 12, 258, 259, 260, 19, 261, 70, 289, 290, 291, 292, 69, 293, 294, 295, 11, 296, 33, 297, 298, 299, 300, 426, 427, 428, 429, 430, 431, 432, 441, 442, 433, 434] (by decide +kernel) (by decide +kernel)
set_option maxRecDepth 20000 in
theorem gL_law_X4_undo : GoodIn wsL_law (wsV RL 57 RX4 yX4_undo wsX4_undo) := goodIn_app (goodIn_of _ (by decide +kernel)) ggL_law_X4_undo
set_option maxRecDepth 20000 in
theorem gi_X4_restore_1 : GoodIn wsL_law (Cond.code yX4_restore cX4_restore 1 (some .int) :: wsX4_restore_r1) := goodIn_r _ [304, 28, 12, 27, 305, 306, 307, 2, 308, 26, 20, 309, 310, 311, 11, 312, 33, 297, 298, 299, 300, 313, 314, 315, 19] (by decide +kernel) (by decide +kernel)
set_option maxRecDepth 20000 in
theorem gi_X4_restore_2 : GoodIn wsL_law wsX4_restore_r2 := goodIn_r _ [316, 70, 69, 317, 318, 294, 295, 296, 126, 127, 128, 129] (by decide +kernel) (by decide +kernel)
theorem ggL_law_X4_restore : GoodIn wsL_law wsX4_restore := (goodIn_ca (goodIn_ca (goodIn_ca (goodIn_ca gi_X4_restore_1 gi_X4_restore_2) gi_wsX40) gi_wsX20) gi_wsX00)
set_option maxRecDepth 20000 in
theorem gL_law_X4_restore : GoodIn wsL_law (wsV RL 88 RX4 yX4_restore wsX4_restore) := goodIn_app (goodIn_of _ (by decide +kernel)) ggL_law_X4_restore
set_option maxRecDepth 20000 in
theorem gi_X4_mate_1 : GoodIn wsL_law (Cond.code yX4_mate cX4_mate 6 (some .int) :: wsX4_mate_r1) := goodIn_r _ [322, 16, 12, 241, 157, 158, 15, 159, 65, 60, 61, 62, 139, 123, 124, 11, 125, 33, 160, 89, 90, 91, 54, 2, 55] (by decide +kernel) (by decide +kernel)
