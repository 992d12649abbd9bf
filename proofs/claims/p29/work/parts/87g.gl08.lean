set_option maxRecDepth 20000 in
theorem gi_X4_make_2 : GoodIn wsL_law wsX4_make_r2 := goodIn_r _ [115, 116, 117, 109, 110, 160, 89, 90, 91, 179, 180, 181, 166, 167, 205, 206, 207, 208, 209, 198, 199, 194, 195, 196] (by decide +kernel) (by decide +kernel)
set_option maxRecDepth 20000 in
theorem gi_X4_make_3 : GoodIn wsL_law wsX4_make_r3 := goodIn_r _ [197, 140, 141, 142, 143, 144, 145, 146, 147, 34, 172, 47, 48, 49, 50, 51, 52, 53, 54, 55, 173, 174, 210, 211] (by decide +kernel) (by decide +kernel)
set_option maxRecDepth 20000 in
theorem gi_X4_make_4 : GoodIn wsL_law wsX4_make_r4 := goodIn_r _ [212, 213, 214, 215, 216, 217, 218, 219, 220, 221, 222, 223, 224, 134, 225, 226, 227, 228, 46, 100, 229, 230, 231, 232] (by decide +kernel) (by decide +kernel)
set_option maxRecDepth 20000 in
theorem gi_X4_make_5 : GoodIn wsL_law wsX4_make_r5 := goodIn_r _ [155, 136, 137, 138, 233, 234, 235, 236, 161, 162, 163, 164, 165, 97, 98, 99, 168, 169, 170, 171, 200, 201, 202, 203] (by decide +kernel) (by decide +kernel)
set_option maxRecDepth 20000 in
theorem gi_X4_make_6 : GoodIn wsL_law wsX4_make_r6 := goodIn_r _ [237, 238, 239, 240, 388, 389, 390, 391, 182, 183, 184, 185, 186, 175, 176, 177, 178, 305, 306, 307, 308, 26, 20, 309] (by decide +kernel) (by decide +kernel)
set_option maxRecDepth 20000 in
theorem gi_X4_make_7 : GoodIn wsL_law wsX4_make_r7 := goodIn_r _ [310, 311, 312, 297, 298, 299, 300, 313, 314, 315, 19, 316, 70, 69, 317, 392, 393, 394, 395, 396, 135, 148, 149, 150] (by decide +kernel) (by decide +kernel)
theorem ggL_law_X4_make : GoodIn wsL_law wsX4_make := (goodIn_ca (goodIn_ca (goodIn_ca (goodIn_ca (goodIn_ca gi_X4_make_1 (goodIn_app gi_X4_make_2 (goodIn_app gi_X4_make_3 (goodIn_app gi_X4_make_4 (goodIn_app gi_X4_make_5 (goodIn_app gi_X4_make_6 gi_X4_make_7)))))) gi_wsX40) gi_wsX30) gi_wsX20) gi_wsX00)
set_option maxRecDepth 20000 in
theorem gL_law_X4_make : GoodIn wsL_law (wsV RL 54 RX4 yX4_make wsX4_make) := goodIn_app (goodIn_of _ (by decide +kernel)) ggL_law_X4_make
