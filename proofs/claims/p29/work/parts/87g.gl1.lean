set_option maxRecDepth 20000 in
theorem ggL_law_X4_undo : GoodIn wsL_law wsX4_undo := goodIn_r _ [288, 20, 12, 258, 259, 260, 19, 261, 70, 289, 290, 291, 292, 69, 293, 294, 295, 11, 296, 33, 297, 298, 299, 300, 426, 427, 428, 429, 430, 431, 432, 441, 442, 433, 434] (by decide +kernel) (by decide +kernel)
set_option maxRecDepth 20000 in
theorem gL_law_X4_undo : GoodIn wsL_law (wsV RL 57 RX4 yX4_undo wsX4_undo) := goodIn_app (goodIn_of _ (by decide +kernel)) ggL_law_X4_undo
set_option maxRecDepth 20000 in
theorem ggL_law_X4_restore : GoodIn wsL_law wsX4_restore := goodIn_r _ [304, 28, 12, 27, 305, 306, 307, 2, 308, 26, 20, 309, 310, 311, 11, 312, 33, 297, 298, 299, 300, 313, 314, 315, 19, 316, 70, 69, 317, 318, 294, 295, 296, 126, 127, 128, 129, 426, 427, 428, 429, 430, 431, 432, 433, 434, 441, 442] (by decide +kernel) (by decide +kernel)
set_option maxRecDepth 20000 in
theorem gL_law_X4_restore : GoodIn wsL_law (wsV RL 88 RX4 yX4_restore wsX4_restore) := goodIn_app (goodIn_of _ (by decide +kernel)) ggL_law_X4_restore
set_option maxRecDepth 20000 in
theorem ggL_law_X4_mate : GoodIn wsL_law wsX4_mate := goodIn_r _ [322, 16, 12, 241, 157, 158, 15, 159, 65, 60, 61, 62, 139, 123, 124, 11, 125, 33, 160, 89, 90, 91, 54, 2, 55, 161, 162, 163, 164, 165, 97, 98, 99, 34, 100, 166, 167, 168, 169, 170, 171, 52, 53, 172, 47, 48, 49, 40, 41, 50, 51, 140, 141, 142, 143, 109, 110, 144, 145, 146, 147, 173, 174, 175, 176, 177, 178, 179, 180, 181, 182, 183, 184, 185, 186, 187, 188, 189, 190, 191, 192, 193, 194, 195, 196, 197, 198, 199, 200, 201, 202, 203, 204, 115, 116, 117, 112, 113, 205, 206, 207, 208, 209, 210, 211, 212, 213, 214, 215, 216, 217, 218, 219, 220, 221, 222, 223, 224, 134, 225, 226, 227, 228, 46, 229, 230, 231, 232, 155, 136, 137, 138, 233, 234, 235, 236, 237, 238, 239, 240, 323, 324, 325, 326, 64, 327, 328, 329, 330, 331, 332, 63, 333, 334, 335, 336, 337, 151, 152, 153, 154, 156, 338, 426, 427, 428, 429, 430, 431, 432, 435, 436, 437, 438, 439, 440, 433, 434] (by decide +kernel) (by decide +kernel)
set_option maxRecDepth 20000 in
theorem gL_law_X4_mate : GoodIn wsL_law (wsV RL 61 RX4 yX4_mate wsX4_mate) := goodIn_app (goodIn_of _ (by decide +kernel)) ggL_law_X4_mate
set_option maxRecDepth 20000 in
theorem ggL_law_L_cell : GoodIn wsL_law wsL_cell := goodIn_r _ [341] (by decide +kernel) (by decide +kernel)
set_option maxRecDepth 20000 in
theorem gL_law_L_cell : GoodIn wsL_law (va_wsS RL 91 yL_cell wsL_cell) := goodIn_app (goodIn_of _ (by decide +kernel)) ggL_law_L_cell
