set_option maxRecDepth 20000 in
theorem gL_law_L_areAttacks : GoodIn wsL_law (va_wsS RL 98 yL_areAttacks wsL_areAttacks) := goodIn_app (goodIn_of _ (by decide +kernel)) ggL_law_L_areAttacks
set_option maxRecDepth 20000 in
theorem gi_L_areDrops_1 : GoodIn wsL_law (Cond.code yL_areDrops cL_areDrops 6 (some .boolean) :: wsL_areDrops_r1) := goodIn_r _ [402, 118, 119, 120, 2, 121, 12, 16, 20, 24, 122, 123, 124, 11, 125, 33, 126, 127, 128, 129, 130, 131, 132, 133, 134] (by decide +kernel) (by decide +kernel)
set_option maxRecDepth 20000 in
theorem gi_L_areDrops_2 : GoodIn wsL_law wsL_areDrops_r2 := goodIn_r _ [115, 116, 117, 109, 110, 112, 113, 135, 136, 137, 15, 138, 65, 139, 140, 141, 142, 143, 144, 145, 146, 147, 34, 148] (by decide +kernel) (by decide +kernel)
set_option maxRecDepth 20000 in
theorem gi_L_areDrops_3 : GoodIn wsL_law wsL_areDrops_r3 := goodIn_r _ [149, 150, 151, 152, 153, 154, 155, 156, 157, 158, 159, 60, 61, 62, 160, 89, 90, 91, 54, 55, 161, 162, 163, 164] (by decide +kernel) (by decide +kernel)
set_option maxRecDepth 20000 in
theorem gi_L_areDrops_4 : GoodIn wsL_law wsL_areDrops_r4 := goodIn_r _ [165, 97, 98, 99, 100, 166, 167, 168, 169, 170, 171, 52, 53, 172, 47, 48, 49, 40, 41, 50, 51, 173, 174, 175] (by decide +kernel) (by decide +kernel)
set_option maxRecDepth 20000 in
theorem gi_L_areDrops_5 : GoodIn wsL_law wsL_areDrops_r5 := goodIn_r _ [176, 177, 178, 179, 180, 181, 182, 183, 184, 185, 186, 187, 188, 189, 190, 191, 192, 193, 194, 195, 196, 197, 198, 199] (by decide +kernel) (by decide +kernel)
set_option maxRecDepth 20000 in
theorem gi_L_areDrops_6 : GoodIn wsL_law wsL_areDrops_r6 := goodIn_r _ [200, 201, 202, 203, 204, 205, 206, 207, 208, 209, 210, 211, 212, 213, 214, 215, 216, 217, 218, 219, 220, 221, 222, 223] (by decide +kernel) (by decide +kernel)
set_option maxRecDepth 20000 in
theorem gi_L_areDrops_7 : GoodIn wsL_law wsL_areDrops_r7 := goodIn_r _ [224, 225, 226, 227, 228, 46, 229, 230, 231, 232, 233, 234, 235, 236, 237, 238, 239, 240, 241, 242, 243, 244, 245, 246] (by decide +kernel) (by decide +kernel)
set_option maxRecDepth 20000 in
theorem gi_L_areDrops_8 : GoodIn wsL_law wsL_areDrops_r8 := goodIn_r _ [247, 248, 249, 250, 251, 252, 253, 254, 255, 256, 257, 258, 259, 260, 19, 261, 70, 262, 263, 264, 23, 265, 76, 403] (by decide +kernel) (by decide +kernel)
set_option maxRecDepth 20000 in
theorem gi_L_areDrops_9 : GoodIn wsL_law wsL_areDrops_r9 := goodIn_r _ [404, 405, 406, 111, 407, 408, 409, 410, 411, 412, 413, 414, 39, 415, 385, 386, 387, 104, 105, 106, 107, 108, 114, 84] (by decide +kernel) (by decide +kernel)
set_option maxRecDepth 20000 in
theorem gi_L_areDrops_10 : GoodIn wsL_law wsL_areDrops_r10 := goodIn_r _ [85, 86, 87, 88] (by decide +kernel) (by decide +kernel)
theorem ggL_law_L_areDrops : GoodIn wsL_law wsL_areDrops := (goodIn_ca (goodIn_ca (goodIn_ca (goodIn_ca (goodIn_ca (goodIn_ca gi_L_areDrops_1 (goodIn_app gi_L_areDrops_2 (goodIn_app gi_L_areDrops_3 (goodIn_app gi_L_areDrops_4 (goodIn_app gi_L_areDrops_5 (goodIn_app gi_L_areDrops_6 (goodIn_app gi_L_areDrops_7 (goodIn_app gi_L_areDrops_8 (goodIn_app gi_L_areDrops_9 gi_L_areDrops_10))))))))) gi_wsX40) gi_wsX20) gi_wsX30) gi_wsX00) gi_wsX10)
set_option maxRecDepth 20000 in
theorem gL_law_L_areDrops : GoodIn wsL_law (va_wsS RL 101 yL_areDrops wsL_areDrops) := goodIn_app (goodIn_of _ (by decide +kernel)) ggL_law_L_areDrops
set_option maxRecDepth 20000 in
theorem gi_L_arePlays_1 : GoodIn wsL_law (Cond.code yL_arePlays cL_arePlays 17 (some .boolean) :: wsL_arePlays_r1) := goodIn_r _ [418, 118, 119, 120, 2, 121, 12, 16, 20, 24, 122, 123, 124, 11, 125, 33, 126, 127, 128, 129, 130, 131, 132, 133, 134] (by decide +kernel) (by decide +kernel)
