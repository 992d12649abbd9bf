set_option maxRecDepth 20000 in
theorem ggL_law_X4_man : GoodIn wsL_law wsX4_man := goodIn_r _ [87, 12, 39, 40, 2, 41, 88, 89, 90, 11, 91, 33, 426, 427, 428, 429, 430, 431, 432, 433, 434] (by decide +kernel) (by decide +kernel)
set_option maxRecDepth 20000 in
theorem gL_law_X4_man : GoodIn wsL_law (wsV RL 14 RX4 yX4_man wsX4_man) := goodIn_app (goodIn_of _ (by decide +kernel)) ggL_law_X4_man
set_option maxRecDepth 20000 in
theorem gi_X4_put_1 : GoodIn wsL_law (Cond.code yX4_put cX4_put 4 (some .int) :: wsX4_put_r1) := goodIn_r _ [352, 12, 39, 40, 2, 41, 353, 50, 51, 354, 54, 55, 355, 141, 142, 11, 143, 33, 109, 110, 356, 52, 53, 88, 89] (by decide +kernel) (by decide +kernel)
set_option maxRecDepth 20000 in
theorem gi_X4_put_2 : GoodIn wsL_law wsX4_put_r2 := goodIn_r _ [90, 91, 305, 306, 307, 308, 26, 20, 309, 310, 311, 312, 297, 298, 299, 300, 313, 314, 315, 19, 316, 70, 69, 317] (by decide +kernel) (by decide +kernel)
set_option maxRecDepth 20000 in
theorem gi_X4_put_3 : GoodIn wsL_law wsX4_put_r3 := goodIn_r _ [357, 47, 48, 49, 126, 127, 128, 129] (by decide +kernel) (by decide +kernel)
theorem ggL_law_X4_put : GoodIn wsL_law wsX4_put := (goodIn_ca (goodIn_ca (goodIn_ca (goodIn_ca gi_X4_put_1 (goodIn_app gi_X4_put_2 gi_X4_put_3)) gi_wsX40) gi_wsX20) gi_wsX00)
set_option maxRecDepth 20000 in
theorem gL_law_X4_put : GoodIn wsL_law (wsV RL 70 RX4 yX4_put wsX4_put) := goodIn_app (goodIn_of _ (by decide +kernel)) ggL_law_X4_put
set_option maxRecDepth 20000 in
theorem ggL_law_X4_hand : GoodIn wsL_law wsX4_hand := goodIn_r _ [107, 12, 108, 109, 2, 110, 111, 112, 113, 114, 115, 116, 11, 117, 33, 426, 427, 428, 429, 430, 431, 432, 433, 434] (by decide +kernel) (by decide +kernel)
set_option maxRecDepth 20000 in
theorem gL_law_X4_hand : GoodIn wsL_law (wsV RL 33 RX4 yX4_hand wsX4_hand) := goodIn_app (goodIn_of _ (by decide +kernel)) ggL_law_X4_hand
set_option maxRecDepth 20000 in
theorem gi_X4_setHand_1 : GoodIn wsL_law (Cond.code yX4_setHand cX4_setHand 5 (some .int) :: wsX4_setHand_r1) := goodIn_r _ [365, 12, 108, 109, 2, 110, 111, 112, 113, 114, 115, 116, 11, 117, 33, 305, 306, 307, 308, 26, 20, 309, 310, 311, 312] (by decide +kernel) (by decide +kernel)
set_option maxRecDepth 20000 in
theorem gi_X4_setHand_2 : GoodIn wsL_law wsX4_setHand_r2 := goodIn_r _ [297, 298, 299, 300, 313, 314, 315, 19, 316, 70, 69, 317, 366, 226, 227, 228] (by decide +kernel) (by decide +kernel)
theorem ggL_law_X4_setHand : GoodIn wsL_law wsX4_setHand := (goodIn_ca (goodIn_ca (goodIn_ca (goodIn_ca gi_X4_setHand_1 gi_X4_setHand_2) gi_wsX40) gi_wsX20) gi_wsX00)
set_option maxRecDepth 20000 in
theorem gL_law_X4_setHand : GoodIn wsL_law (wsV RL 76 RX4 yX4_setHand wsX4_setHand) := goodIn_app (goodIn_of _ (by decide +kernel)) ggL_law_X4_setHand
set_option maxRecDepth 20000 in
theorem gi_X4_make_1 : GoodIn wsL_law (Cond.code yX4_make cX4_make 2 (some .int) :: wsX4_make_r1) := goodIn_r _ [379, 16, 12, 380, 381, 382, 15, 383, 40, 2, 41, 112, 113, 384, 385, 386, 387, 65, 139, 123, 124, 11, 125, 33, 204] (by decide +kernel) (by decide +kernel)
