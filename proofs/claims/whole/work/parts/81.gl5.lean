/-! the law: words of its callees 5 -/
set_option maxRecDepth 20000 in
theorem ggL_law_X5_attacked : GoodIn wsL_law wsX5_attacked := goodIn_r _ [684, 87, 205, 206, 5, 207, 208, 209, 210, 234, 235, 236, 237, 238, 239, 240, 241, 230, 231, 232, 233, 242, 243, 244, 245, 246, 247, 804, 805, 806, 807, 808, 809, 810, 811] (by decide +kernel) (by decide +kernel)
set_option maxRecDepth 20000 in
theorem gL_law_X5_attacked : GoodIn wsL_law (wsV RL 90 RX5 yX5_attacked wsX5_attacked) := goodIn_app (goodIn_of _ (by decide +kernel)) ggL_law_X5_attacked
set_option maxRecDepth 20000 in
theorem ggL_law_X4_total : GoodIn wsL_law wsX4_total := goodIn_r _ [688, 15, 19, 23, 27, 329, 101, 102, 14, 103, 36, 374, 375, 376, 377, 415, 416, 417, 418, 181, 182, 183, 184, 140, 2, 141, 185, 186, 353, 314, 315, 18, 316, 68, 100, 136, 137, 138, 139, 142, 143, 144, 145, 37, 354, 355, 356, 689, 690, 691, 692, 313, 693, 434, 435, 436, 63, 64, 65, 104, 105, 106, 107, 57, 58, 131, 132, 133, 134, 108, 109, 110, 111, 112, 113, 114, 115, 116, 117, 118, 55, 56, 135, 50, 51, 52, 43, 44, 53, 54, 146, 147, 127, 128, 129, 130, 124, 125, 126, 119, 120, 121, 122, 123, 437, 438, 439, 440, 441, 442, 443, 302, 303, 304, 305, 191, 192, 321, 322, 323, 324, 296, 297, 298, 299, 300, 301, 306, 307, 308, 309, 310, 311, 312, 173, 174, 175, 176, 177, 178, 179, 180, 187, 188, 189, 190, 49, 193, 194, 195, 196, 317, 318, 319, 320, 325, 326, 327, 328, 433, 694, 695, 696, 697, 698, 699, 700, 701, 702, 703, 704, 705, 706, 707, 708, 709, 621, 622, 623, 22, 624, 73, 464, 465, 466, 26, 467, 79, 797, 798, 799, 800, 801, 802, 803, 812, 813, 814, 815, 816, 817, 818, 819, 820, 821, 822, 823, 824, 825, 826] (by decide +kernel) (by decide +kernel)
set_option maxRecDepth 20000 in
theorem gL_law_X4_total : GoodIn wsL_law (wsV RL 91 RX4 yX4_total wsX4_total) := goodIn_app (goodIn_of _ (by decide +kernel)) ggL_law_X4_total
set_option maxRecDepth 20000 in
theorem ggL_law_X5_total : GoodIn wsL_law wsX5_total := goodIn_r _ [713, 87, 286, 472, 386, 387, 388, 5, 389, 424, 425, 426, 427, 270, 271, 272, 273, 274, 275, 276, 277, 226, 227, 228, 229, 230, 231, 232, 233, 234, 235, 236, 237, 238, 239, 240, 241, 242, 243, 244, 245, 246, 247, 208, 209, 210, 714, 715, 716, 717, 448, 449, 450, 451, 211, 212, 213, 214, 215, 216, 217, 218, 219, 220, 221, 222, 223, 224, 225, 248, 249, 250, 251, 252, 253, 254, 255, 256, 257, 258, 259, 260, 261, 262, 263, 264, 265, 266, 267, 268, 269, 278, 279, 280, 281, 804, 805, 806, 807, 808, 809, 810, 811] (by decide +kernel) (by decide +kernel)
set_option maxRecDepth 20000 in
theorem gL_law_X5_total : GoodIn wsL_law (wsV RL 94 RX5 yX5_total wsX5_total) := goodIn_app (goodIn_of _ (by decide +kernel)) ggL_law_X5_total
set_option maxRecDepth 20000 in
theorem ggL_law_X4_worth : GoodIn wsL_law wsX4_worth := goodIn_r _ [721, 15, 402, 140, 2, 141, 722, 723, 724, 14, 725, 36, 55, 56, 57, 58, 181, 182, 183, 184, 185, 186, 797, 798, 799, 800, 801, 802, 803, 812, 813] (by decide +kernel) (by decide +kernel)
set_option maxRecDepth 20000 in
theorem gL_law_X4_worth : GoodIn wsL_law (wsV RL 95 RX4 yX4_worth wsX4_worth) := goodIn_app (goodIn_of _ (by decide +kernel)) ggL_law_X4_worth
set_option maxRecDepth 20000 in
theorem ggL_law_X5_worth : GoodIn wsL_law wsX5_worth := goodIn_r _ [729, 408, 409, 5, 410, 208, 209, 210, 730, 731, 732, 733, 87, 226, 227, 228, 229, 230, 231, 232, 233, 734, 735, 736, 804, 805, 806, 807, 808, 809, 810, 811] (by decide +kernel) (by decide +kernel)
set_option maxRecDepth 20000 in
theorem gL_law_X5_worth : GoodIn wsL_law (wsV RL 98 RX5 yX5_worth wsX5_worth) := goodIn_app (goodIn_of _ (by decide +kernel)) ggL_law_X5_worth
set_option maxRecDepth 20000 in
theorem ggL_law_X4_moveReason : GoodIn wsL_law wsX4_moveReason := goodIn_r _ [740, 19, 42, 43, 2, 44, 96, 97, 98, 18, 99, 68, 100, 101, 102, 14, 103, 36, 104, 105, 106, 107, 57, 58, 108, 109, 110, 111, 37, 112, 113, 114, 115, 116, 117, 118, 55, 56, 119, 120, 121, 122, 123, 124, 125, 126, 127, 128, 129, 130, 131, 132, 133, 134, 135, 50, 51, 52, 53, 54, 136, 137, 138, 139, 140, 141, 142, 143, 144, 145, 146, 147, 797, 798, 799, 800, 801, 802, 803, 814, 815, 816, 817, 818, 819, 812, 813] (by decide +kernel) (by decide +kernel)
set_option maxRecDepth 20000 in
theorem gL_law_X4_moveReason : GoodIn wsL_law (wsV RL 99 RX4 yX4_moveReason wsX4_moveReason) := goodIn_app (goodIn_of _ (by decide +kernel)) ggL_law_X4_moveReason
set_option maxRecDepth 20000 in
theorem ggL_law_X5_moveReason : GoodIn wsL_law wsX5_moveReason := goodIn_r _ [204, 205, 206, 5, 207, 208, 209, 210, 211, 212, 213, 214, 87, 215, 216, 217, 218, 219, 220, 221, 222, 223, 224, 225, 226, 227, 228, 229, 230, 231, 232, 233, 234, 235, 236, 237, 238, 239, 240, 241, 242, 243, 244, 245, 246, 247, 248, 249, 250, 251, 252, 253, 254, 255, 256, 257, 258, 259, 260, 261, 262, 263, 264, 265, 266, 267, 268, 269, 270, 271, 272, 273, 274, 275, 276, 277, 278, 279, 280, 281, 804, 805, 806, 807, 808, 809, 810, 811] (by decide +kernel) (by decide +kernel)
set_option maxRecDepth 20000 in
theorem gL_law_X5_moveReason : GoodIn wsL_law (wsV RL 102 RX5 yX5_moveReason wsX5_moveReason) := goodIn_app (goodIn_of _ (by decide +kernel)) ggL_law_X5_moveReason
