/-! the law: words of its callees 1 -/
set_option maxRecDepth 20000 in
theorem ggL_law_X5_put : GoodIn wsL_law wsX5_put := goodIn_r _ [381, 87, 205, 206, 5, 207, 208, 209, 210, 382, 383, 384, 385, 230, 231, 232, 233, 282, 283, 284, 285, 286, 89, 386, 387, 388, 389, 804, 805, 806, 807, 808, 809, 810, 811] (by decide +kernel) (by decide +kernel)
set_option maxRecDepth 20000 in
theorem gL_law_X5_put : GoodIn wsL_law (wsV RL 31 RX5 yX5_put wsX5_put) := goodIn_app (goodIn_of _ (by decide +kernel)) ggL_law_X5_put
set_option maxRecDepth 20000 in
theorem ggL_law_X4_takeOff : GoodIn wsL_law wsX4_takeOff := goodIn_r _ [393, 15, 42, 43, 2, 44, 372, 105, 106, 14, 107, 36, 148, 149, 150, 151, 29, 23, 152, 153, 154, 155, 156, 157, 158, 159, 160, 161, 162, 22, 163, 73, 72, 164, 373, 50, 51, 52, 53, 54, 55, 56, 57, 58, 797, 798, 799, 800, 801, 802, 803, 812, 813, 820, 821] (by decide +kernel) (by decide +kernel)
set_option maxRecDepth 20000 in
theorem gL_law_X4_takeOff : GoodIn wsL_law (wsV RL 32 RX4 yX4_takeOff wsX4_takeOff) := goodIn_app (goodIn_of _ (by decide +kernel)) ggL_law_X4_takeOff
set_option maxRecDepth 20000 in
theorem ggL_law_X5_takeOff : GoodIn wsL_law wsX5_takeOff := goodIn_r _ [397, 87, 205, 206, 5, 207, 208, 209, 210, 230, 231, 232, 233, 282, 283, 284, 285, 286, 89, 804, 805, 806, 807, 808, 809, 810, 811] (by decide +kernel) (by decide +kernel)
set_option maxRecDepth 20000 in
theorem gL_law_X5_takeOff : GoodIn wsL_law (wsV RL 35 RX5 yX5_takeOff wsX5_takeOff) := goodIn_app (goodIn_of _ (by decide +kernel)) ggL_law_X5_takeOff
set_option maxRecDepth 20000 in
theorem ggL_law_X4_setHand : GoodIn wsL_law wsX4_setHand := goodIn_r _ [401, 15, 402, 140, 2, 141, 291, 185, 186, 331, 182, 183, 14, 184, 36, 148, 149, 150, 151, 29, 23, 152, 153, 154, 155, 156, 157, 158, 159, 160, 161, 162, 22, 163, 73, 72, 164, 403, 188, 189, 190, 797, 798, 799, 800, 801, 802, 803, 812, 813, 820, 821] (by decide +kernel) (by decide +kernel)
set_option maxRecDepth 20000 in
theorem gL_law_X4_setHand : GoodIn wsL_law (wsV RL 36 RX4 yX4_setHand wsX4_setHand) := goodIn_app (goodIn_of _ (by decide +kernel)) ggL_law_X4_setHand
set_option maxRecDepth 20000 in
theorem ggL_law_X5_setHand : GoodIn wsL_law wsX5_setHand := goodIn_r _ [407, 87, 408, 409, 5, 410, 208, 209, 210, 340, 341, 342, 282, 283, 284, 285, 286, 89, 804, 805, 806, 807, 808, 809, 810, 811] (by decide +kernel) (by decide +kernel)
set_option maxRecDepth 20000 in
theorem gL_law_X5_setHand : GoodIn wsL_law (wsV RL 40 RX5 yX5_setHand wsX5_setHand) := goodIn_app (goodIn_of _ (by decide +kernel)) ggL_law_X5_setHand
set_option maxRecDepth 20000 in
theorem ggL_law_X4_clearAll : GoodIn wsL_law wsX4_clearAll := goodIn_r _ [414, 15, 374, 375, 376, 14, 377, 36, 415, 416, 417, 418, 181, 182, 183, 184, 140, 2, 141, 185, 186, 148, 149, 150, 151, 29, 23, 152, 153, 154, 155, 156, 157, 158, 159, 160, 161, 162, 22, 163, 73, 72, 164, 419, 46, 47, 48, 797, 798, 799, 800, 801, 802, 803, 812, 813, 820, 821] (by decide +kernel) (by decide +kernel)
set_option maxRecDepth 20000 in
theorem gL_law_X4_clearAll : GoodIn wsL_law (wsV RL 41 RX4 yX4_clearAll wsX4_clearAll) := goodIn_app (goodIn_of _ (by decide +kernel)) ggL_law_X4_clearAll
set_option maxRecDepth 20000 in
theorem ggL_law_X5_clearAll : GoodIn wsL_law wsX5_clearAll := goodIn_r _ [423, 87, 386, 387, 388, 5, 389, 424, 425, 426, 427, 282, 283, 284, 285, 286, 89, 804, 805, 806, 807, 808, 809, 810, 811] (by decide +kernel) (by decide +kernel)
set_option maxRecDepth 20000 in
theorem gL_law_X5_clearAll : GoodIn wsL_law (wsV RL 45 RX5 yX5_clearAll wsX5_clearAll) := goodIn_app (goodIn_of _ (by decide +kernel)) ggL_law_X5_clearAll
