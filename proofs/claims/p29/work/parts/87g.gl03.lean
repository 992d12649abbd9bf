set_option maxRecDepth 20000 in
theorem gi_X4_mate_2 : GoodIn wsL_law wsX4_mate_r2 := goodIn_r _ [161, 162, 163, 164, 165, 97, 98, 99, 34, 100, 166, 167, 168, 169, 170, 171, 52, 53, 172, 47, 48, 49, 40, 41] (by decide +kernel) (by decide +kernel)
set_option maxRecDepth 20000 in
theorem gi_X4_mate_3 : GoodIn wsL_law wsX4_mate_r3 := goodIn_r _ [50, 51, 140, 141, 142, 143, 109, 110, 144, 145, 146, 147, 173, 174, 175, 176, 177, 178, 179, 180, 181, 182, 183, 184] (by decide +kernel) (by decide +kernel)
set_option maxRecDepth 20000 in
theorem gi_X4_mate_4 : GoodIn wsL_law wsX4_mate_r4 := goodIn_r _ [185, 186, 187, 188, 189, 190, 191, 192, 193, 194, 195, 196, 197, 198, 199, 200, 201, 202, 203, 204, 115, 116, 117, 112] (by decide +kernel) (by decide +kernel)
set_option maxRecDepth 20000 in
theorem gi_X4_mate_5 : GoodIn wsL_law wsX4_mate_r5 := goodIn_r _ [113, 205, 206, 207, 208, 209, 210, 211, 212, 213, 214, 215, 216, 217, 218, 219, 220, 221, 222, 223, 224, 134, 225, 226] (by decide +kernel) (by decide +kernel)
set_option maxRecDepth 20000 in
theorem gi_X4_mate_6 : GoodIn wsL_law wsX4_mate_r6 := goodIn_r _ [227, 228, 46, 229, 230, 231, 232, 155, 136, 137, 138, 233, 234, 235, 236, 237, 238, 239, 240, 323, 324, 325, 326, 64] (by decide +kernel) (by decide +kernel)
set_option maxRecDepth 20000 in
theorem gi_X4_mate_7 : GoodIn wsL_law wsX4_mate_r7 := goodIn_r _ [327, 328, 329, 330, 331, 332, 63, 333, 334, 335, 336, 337, 151, 152, 153, 154, 156, 338] (by decide +kernel) (by decide +kernel)
theorem ggL_law_X4_mate : GoodIn wsL_law wsX4_mate := (goodIn_ca (goodIn_ca (goodIn_ca (goodIn_ca gi_X4_mate_1 (goodIn_app gi_X4_mate_2 (goodIn_app gi_X4_mate_3 (goodIn_app gi_X4_mate_4 (goodIn_app gi_X4_mate_5 (goodIn_app gi_X4_mate_6 gi_X4_mate_7)))))) gi_wsX40) gi_wsX30) gi_wsX20)
set_option maxRecDepth 20000 in
theorem gL_law_X4_mate : GoodIn wsL_law (wsV RL 61 RX4 yX4_mate wsX4_mate) := goodIn_app (goodIn_of _ (by decide +kernel)) ggL_law_X4_mate
set_option maxRecDepth 20000 in
theorem ggL_law_L_cell : GoodIn wsL_law wsL_cell := goodIn_r _ [341] (by decide +kernel) (by decide +kernel)
set_option maxRecDepth 20000 in
theorem gL_law_L_cell : GoodIn wsL_law (va_wsS RL 91 yL_cell wsL_cell) := goodIn_app (goodIn_of _ (by decide +kernel)) ggL_law_L_cell
set_option maxRecDepth 20000 in
theorem gi_L_does_1 : GoodIn wsL_law (Cond.code yL_does cL_does 16 (some .boolean) :: wsL_does_r1) := goodIn_r _ [344, 345, 346, 82, 347, 348, 84, 85, 86, 2, 87, 12, 39, 40, 41, 88, 89, 90, 11, 91, 33, 118, 119, 120, 121] (by decide +kernel) (by decide +kernel)
set_option maxRecDepth 20000 in
theorem gi_L_does_2 : GoodIn wsL_law wsL_does_r2 := goodIn_r _ [16, 20, 24, 122, 123, 124, 125, 126, 127, 128, 129, 130, 131, 132, 133, 134, 115, 116, 117, 109, 110, 112, 113, 135] (by decide +kernel) (by decide +kernel)
set_option maxRecDepth 20000 in
theorem gi_L_does_3 : GoodIn wsL_law wsL_does_r3 := goodIn_r _ [136, 137, 15, 138, 65, 139, 140, 141, 142, 143, 144, 145, 146, 147, 34, 148, 149, 150, 151, 152, 153, 154, 155, 156] (by decide +kernel) (by decide +kernel)
set_option maxRecDepth 20000 in
theorem gi_L_does_4 : GoodIn wsL_law wsL_does_r4 := goodIn_r _ [157, 158, 159, 60, 61, 62, 160, 54, 55, 161, 162, 163, 164, 165, 97, 98, 99, 100, 166, 167, 168, 169, 170, 171] (by decide +kernel) (by decide +kernel)
