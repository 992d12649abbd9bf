set_option maxRecDepth 20000 in
theorem ggL_law_X4_man : GoodIn wsL_law wsX4_man := goodIn_r _ [87, 12, 39, 40, 2, 41, 88, 89, 90, 11, 91, 33, 426, 427, 428, 429, 430, 431, 432, 433, 434] (by decide +kernel) (by decide +kernel)
set_option maxRecDepth 20000 in
theorem gL_law_X4_man : GoodIn wsL_law (wsV RL 14 RX4 yX4_man wsX4_man) := goodIn_app (goodIn_of _ (by decide +kernel)) ggL_law_X4_man
set_option maxRecDepth 20000 in
theorem ggL_law_X4_put : GoodIn wsL_law wsX4_put := goodIn_r _ [352, 12, 39, 40, 2, 41, 353, 50, 51, 354, 54, 55, 355, 141, 142, 11, 143, 33, 109, 110, 356, 52, 53, 88, 89, 90, 91, 305, 306, 307, 308, 26, 20, 309, 310, 311, 312, 297, 298, 299, 300, 313, 314, 315, 19, 316, 70, 69, 317, 357, 47, 48, 49, 126, 127, 128, 129, 426, 427, 428, 429, 430, 431, 432, 433, 434, 441, 442] (by decide +kernel) (by decide +kernel)
set_option maxRecDepth 20000 in
theorem gL_law_X4_put : GoodIn wsL_law (wsV RL 70 RX4 yX4_put wsX4_put) := goodIn_app (goodIn_of _ (by decide +kernel)) ggL_law_X4_put
set_option maxRecDepth 20000 in
theorem ggL_law_X4_hand : GoodIn wsL_law wsX4_hand := goodIn_r _ [107, 12, 108, 109, 2, 110, 111, 112, 113, 114, 115, 116, 11, 117, 33, 426, 427, 428, 429, 430, 431, 432, 433, 434] (by decide +kernel) (by decide +kernel)
set_option maxRecDepth 20000 in
theorem gL_law_X4_hand : GoodIn wsL_law (wsV RL 33 RX4 yX4_hand wsX4_hand) := goodIn_app (goodIn_of _ (by decide +kernel)) ggL_law_X4_hand
set_option maxRecDepth 20000 in
theorem ggL_law_X4_setHand : GoodIn wsL_law wsX4_setHand := goodIn_r _ [365, 12, 108, 109, 2, 110, 111, 112, 113, 114, 115, 116, 11, 117, 33, 305, 306, 307, 308, 26, 20, 309, 310, 311, 312, 297, 298, 299, 300, 313, 314, 315, 19, 316, 70, 69, 317, 366, 226, 227, 228, 426, 427, 428, 429, 430, 431, 432, 433, 434, 441, 442] (by decide +kernel) (by decide +kernel)
set_option maxRecDepth 20000 in
theorem gL_law_X4_setHand : GoodIn wsL_law (wsV RL 76 RX4 yX4_setHand wsX4_setHand) := goodIn_app (goodIn_of _ (by decide +kernel)) ggL_law_X4_setHand
