/-! the law: words of its callees 4 -/
set_option maxRecDepth 20000 in
theorem ggL_law_X4_man : GoodIn wsL_law wsX4_man := goodIn_r _ [654, 15, 42, 43, 2, 44, 372, 105, 106, 14, 107, 36, 797, 798, 799, 800, 801, 802, 803, 812, 813] (by decide +kernel) (by decide +kernel)
set_option maxRecDepth 20000 in
theorem gL_law_X4_man : GoodIn wsL_law (wsV RL 75 RX4 yX4_man wsX4_man) := goodIn_app (goodIn_of _ (by decide +kernel)) ggL_law_X4_man
set_option maxRecDepth 20000 in
theorem ggL_law_X5_man : GoodIn wsL_law wsX5_man := goodIn_r _ [658, 87, 205, 206, 5, 207, 208, 209, 210, 230, 231, 232, 233, 804, 805, 806, 807, 808, 809, 810, 811] (by decide +kernel) (by decide +kernel)
set_option maxRecDepth 20000 in
theorem gL_law_X5_man : GoodIn wsL_law (wsV RL 78 RX5 yX5_man wsX5_man) := goodIn_app (goodIn_of _ (by decide +kernel)) ggL_law_X5_man
set_option maxRecDepth 20000 in
theorem ggL_law_X4_hand : GoodIn wsL_law wsX4_hand := goodIn_r _ [662, 15, 402, 140, 2, 141, 291, 185, 186, 331, 182, 183, 14, 184, 36, 797, 798, 799, 800, 801, 802, 803, 812, 813] (by decide +kernel) (by decide +kernel)
set_option maxRecDepth 20000 in
theorem gL_law_X4_hand : GoodIn wsL_law (wsV RL 79 RX4 yX4_hand wsX4_hand) := goodIn_app (goodIn_of _ (by decide +kernel)) ggL_law_X4_hand
set_option maxRecDepth 20000 in
theorem ggL_law_X5_hand : GoodIn wsL_law wsX5_hand := goodIn_r _ [666, 87, 408, 409, 5, 410, 208, 209, 210, 340, 341, 342, 804, 805, 806, 807, 808, 809, 810, 811] (by decide +kernel) (by decide +kernel)
set_option maxRecDepth 20000 in
theorem gL_law_X5_hand : GoodIn wsL_law (wsV RL 82 RX5 yX5_hand wsX5_hand) := goodIn_app (goodIn_of _ (by decide +kernel)) ggL_law_X5_hand
set_option maxRecDepth 20000 in
theorem ggL_law_X4_attackers : GoodIn wsL_law wsX4_attackers := goodIn_r _ [670, 15, 402, 140, 2, 141, 42, 43, 44, 671, 143, 144, 14, 145, 37, 36, 797, 798, 799, 800, 801, 802, 803, 812, 813] (by decide +kernel) (by decide +kernel)
set_option maxRecDepth 20000 in
theorem gL_law_X4_attackers : GoodIn wsL_law (wsV RL 83 RX4 yX4_attackers wsX4_attackers) := goodIn_app (goodIn_of _ (by decide +kernel)) ggL_law_X4_attackers
set_option maxRecDepth 20000 in
theorem ggL_law_X5_attackers : GoodIn wsL_law wsX5_attackers := goodIn_r _ [675, 408, 409, 5, 410, 208, 209, 210, 205, 206, 207, 274, 275, 276, 277, 226, 227, 228, 229, 87, 230, 231, 232, 233, 234, 235, 236, 237, 238, 239, 240, 241, 242, 243, 244, 245, 246, 247, 804, 805, 806, 807, 808, 809, 810, 811] (by decide +kernel) (by decide +kernel)
set_option maxRecDepth 20000 in
theorem gL_law_X5_attackers : GoodIn wsL_law (wsV RL 86 RX5 yX5_attackers wsX5_attackers) := goodIn_app (goodIn_of _ (by decide +kernel)) ggL_law_X5_attackers
set_option maxRecDepth 20000 in
theorem ggL_law_X4_attacked : GoodIn wsL_law wsX4_attacked := goodIn_r _ [679, 15, 42, 43, 2, 44, 372, 105, 106, 14, 107, 36, 680, 109, 110, 111, 37, 112, 797, 798, 799, 800, 801, 802, 803, 812, 813] (by decide +kernel) (by decide +kernel)
set_option maxRecDepth 20000 in
theorem gL_law_X4_attacked : GoodIn wsL_law (wsV RL 87 RX4 yX4_attacked wsX4_attacked) := goodIn_app (goodIn_of _ (by decide +kernel)) ggL_law_X4_attacked
