/-! the law: words of its callees 2 -/
set_option maxRecDepth 20000 in
theorem ggL_law_X4_setSide : GoodIn wsL_law wsX4_setSide := goodIn_r _ [431, 15, 19, 402, 140, 2, 141, 329, 101, 102, 14, 103, 36, 148, 149, 150, 151, 29, 23, 152, 153, 154, 155, 156, 157, 158, 159, 160, 161, 162, 22, 163, 73, 72, 164, 432, 178, 179, 180, 433, 434, 435, 18, 436, 68, 63, 64, 65, 100, 104, 105, 106, 107, 57, 58, 131, 132, 133, 134, 108, 109, 110, 111, 37, 112, 113, 114, 115, 116, 117, 118, 55, 56, 135, 50, 51, 52, 43, 44, 53, 54, 136, 137, 138, 139, 142, 143, 144, 145, 146, 147, 127, 128, 129, 130, 124, 125, 126, 119, 120, 121, 122, 123, 437, 438, 439, 440, 441, 442, 443, 302, 303, 304, 305, 191, 192, 321, 322, 323, 324, 296, 182, 183, 184, 185, 186, 297, 298, 299, 300, 301, 306, 307, 308, 309, 310, 311, 312, 173, 174, 175, 176, 177, 181, 187, 188, 189, 190, 49, 193, 194, 195, 196, 313, 314, 315, 316, 317, 318, 319, 320, 325, 326, 327, 328, 797, 798, 799, 800, 801, 802, 803, 812, 813, 820, 821, 814, 815, 816, 817, 818, 819] (by decide +kernel) (by decide +kernel)
set_option maxRecDepth 20000 in
theorem gL_law_X4_setSide : GoodIn wsL_law (wsV RL 46 RX4 yX4_setSide wsX4_setSide) := goodIn_app (goodIn_of _ (by decide +kernel)) ggL_law_X4_setSide
set_option maxRecDepth 20000 in
theorem ggL_law_X5_setSide : GoodIn wsL_law wsX5_setSide := goodIn_r _ [447, 87, 408, 409, 5, 410, 208, 209, 210, 282, 283, 284, 285, 286, 89, 448, 449, 450, 451, 211, 212, 213, 214, 215, 216, 217, 218, 219, 220, 221, 222, 223, 224, 225, 226, 227, 228, 229, 230, 231, 232, 233, 234, 235, 236, 237, 238, 239, 240, 241, 242, 243, 244, 245, 246, 247, 248, 249, 250, 251, 252, 253, 254, 255, 256, 257, 258, 259, 260, 261, 262, 263, 264, 265, 266, 267, 268, 269, 270, 271, 272, 273, 274, 275, 276, 277, 278, 279, 280, 281, 804, 805, 806, 807, 808, 809, 810, 811] (by decide +kernel) (by decide +kernel)
set_option maxRecDepth 20000 in
theorem gL_law_X5_setSide : GoodIn wsL_law (wsV RL 49 RX5 yX5_setSide wsX5_setSide) := goodIn_app (goodIn_of _ (by decide +kernel)) ggL_law_X5_setSide
set_option maxRecDepth 20000 in
theorem ggL_law_X4_type : GoodIn wsL_law wsX4_type := goodIn_r _ [455, 27, 456, 457, 458, 26, 459, 79, 460, 461, 462, 463, 78, 464, 465, 466, 467, 797, 798, 799, 800, 801, 802, 803, 822, 823, 824, 825, 826] (by decide +kernel) (by decide +kernel)
set_option maxRecDepth 20000 in
theorem gL_law_X4_type : GoodIn wsL_law (wsV RL 50 RX4 yX4_type wsX4_type) := goodIn_app (goodIn_of _ (by decide +kernel)) ggL_law_X4_type
set_option maxRecDepth 20000 in
theorem ggL_law_X5_type : GoodIn wsL_law wsX5_type := goodIn_r _ [471, 472, 91, 804, 805, 806, 807, 808, 809, 810, 811] (by decide +kernel) (by decide +kernel)
set_option maxRecDepth 20000 in
theorem gL_law_X5_type : GoodIn wsL_law (wsV RL 54 RX5 yX5_type wsX5_type) := goodIn_app (goodIn_of _ (by decide +kernel)) ggL_law_X5_type
set_option maxRecDepth 20000 in
theorem ggL_law_X4_clearText : GoodIn wsL_law wsX4_clearText := goodIn_r _ [476, 27, 464, 465, 466, 26, 467, 79, 477, 478, 479, 480, 797, 798, 799, 800, 801, 802, 803, 822, 823, 824, 825, 826] (by decide +kernel) (by decide +kernel)
set_option maxRecDepth 20000 in
theorem gL_law_X4_clearText : GoodIn wsL_law (wsV RL 55 RX4 yX4_clearText wsX4_clearText) := goodIn_app (goodIn_of _ (by decide +kernel)) ggL_law_X4_clearText
set_option maxRecDepth 20000 in
theorem ggL_law_X5_clearText : GoodIn wsL_law wsX5_clearText := goodIn_r _ [484, 472, 804, 805, 806, 807, 808, 809, 810, 811] (by decide +kernel) (by decide +kernel)
set_option maxRecDepth 20000 in
theorem gL_law_X5_clearText : GoodIn wsL_law (wsV RL 58 RX5 yX5_clearText wsX5_clearText) := goodIn_app (goodIn_of _ (by decide +kernel)) ggL_law_X5_clearText
set_option maxRecDepth 20000 in
theorem ggL_law_X4_perform : GoodIn wsL_law wsX4_perform := goodIn_r _ [488, 27, 15, 29, 19, 23, 489, 490, 491, 26, 492, 82, 81, 80, 79, 493, 494, 495, 496, 497, 498, 499, 500, 501, 502, 503, 504, 505, 506, 507, 508, 509, 510, 511, 512, 513, 514, 515, 516, 517, 518, 519, 520, 521, 522, 523, 524, 525, 526, 527, 528, 529, 530, 531, 532, 533, 534, 535, 536, 537, 538, 539, 540, 541, 542, 543, 544, 545, 546, 547, 548, 549, 550, 551, 552, 553, 78, 554, 555, 556, 557, 558, 559, 560, 561, 562, 563, 564, 565, 310, 2, 311, 166, 167, 152, 153, 154, 14, 155, 36, 156, 157, 158, 159, 566, 567, 568, 569, 570, 571, 572, 573, 347, 348, 349, 18, 350, 43, 44, 185, 186, 351, 293, 294, 295, 68, 100, 101, 102, 103, 296, 182, 183, 184, 140, 141, 104, 105, 106, 107, 124, 125, 126, 113, 114, 297, 298, 299, 300, 301, 191, 192, 302, 303, 304, 305, 136, 137, 138, 139, 142, 143, 144, 145, 37, 135, 50, 51, 52, 53, 54, 55, 56, 57, 58, 146, 147, 306, 307, 308, 309, 312, 173, 174, 175, 176, 177, 178, 179, 180, 181, 187, 188, 189, 190, 49, 112, 193, 194, 195, 196, 313, 314, 315, 316, 317, 318, 319, 320, 131, 132, 133, 134, 108, 109, 110, 111, 115, 116, 117, 118, 321, 322, 323, 324, 325, 326, 327, 328, 352, 97, 98, 99, 119, 120, 121, 122, 123, 127, 128, 129, 130, 574, 575, 576, 577, 168, 169, 170, 171, 172, 160, 161, 162, 22, 163, 73, 72, 164, 797, 798, 799, 800, 801, 802, 803, 822, 823, 824, 825, 826, 812, 813, 814, 815, 816, 817, 818, 819, 820, 821] (by decide +kernel) (by decide +kernel)
set_option maxRecDepth 20000 in
theorem gL_law_X4_perform : GoodIn wsL_law (wsV RL 59 RX4 yX4_perform wsX4_perform) := goodIn_app (goodIn_of _ (by decide +kernel)) ggL_law_X4_perform
