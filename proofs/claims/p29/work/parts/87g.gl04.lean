set_option maxRecDepth 20000 in
theorem gi_L_does_5 : GoodIn wsL_law wsL_does_r5 := goodIn_r _ [52, 53, 172, 47, 48, 49, 50, 51, 173, 174, 175, 176, 177, 178, 179, 180, 181, 182, 183, 184, 185, 186, 187, 188] (by decide +kernel) (by decide +kernel)
set_option maxRecDepth 20000 in
theorem gi_L_does_6 : GoodIn wsL_law wsL_does_r6 := goodIn_r _ [189, 190, 191, 192, 193, 194, 195, 196, 197, 198, 199, 200, 201, 202, 203, 204, 205, 206, 207, 208, 209, 210, 211, 212] (by decide +kernel) (by decide +kernel)
set_option maxRecDepth 20000 in
theorem gi_L_does_7 : GoodIn wsL_law wsL_does_r7 := goodIn_r _ [213, 214, 215, 216, 217, 218, 219, 220, 221, 222, 223, 224, 225, 226, 227, 228, 46, 229, 230, 231, 232, 233, 234, 235] (by decide +kernel) (by decide +kernel)
set_option maxRecDepth 20000 in
theorem gi_L_does_8 : GoodIn wsL_law wsL_does_r8 := goodIn_r _ [236, 237, 238, 239, 240, 241, 242, 243, 244, 245, 246, 247, 248, 249, 250, 251, 252, 253, 254, 255, 256, 257, 258, 259] (by decide +kernel) (by decide +kernel)
set_option maxRecDepth 20000 in
theorem gi_L_does_9 : GoodIn wsL_law wsL_does_r9 := goodIn_r _ [260, 19, 261, 70, 262, 263, 264, 23, 265, 76, 277, 278, 279, 349, 350, 351, 352, 353, 354, 355, 356, 305, 306, 307] (by decide +kernel) (by decide +kernel)
set_option maxRecDepth 20000 in
theorem gi_L_does_10 : GoodIn wsL_law wsL_does_r10 := goodIn_r _ [308, 26, 309, 310, 311, 312, 297, 298, 299, 300, 313, 314, 315, 316, 69, 317, 357, 358, 359, 360, 361, 104, 105, 106] (by decide +kernel) (by decide +kernel)
set_option maxRecDepth 20000 in
theorem gi_L_does_11 : GoodIn wsL_law wsL_does_r11 := goodIn_r _ [107, 108, 111, 114, 362, 363, 364, 365, 366, 367, 368, 369, 370, 371, 372, 373, 374, 375, 323, 324, 325, 326, 64, 327] (by decide +kernel) (by decide +kernel)
set_option maxRecDepth 20000 in
theorem gi_L_does_12 : GoodIn wsL_law wsL_does_r12 := goodIn_r _ [328, 329, 330, 331, 332, 63, 333, 334, 335, 336, 376, 377, 378, 379, 380, 381, 382, 383, 384, 385, 386, 387, 388, 389] (by decide +kernel) (by decide +kernel)
set_option maxRecDepth 20000 in
theorem gi_L_does_13 : GoodIn wsL_law wsL_does_r13 := goodIn_r _ [390, 391, 392, 393, 394, 395, 396] (by decide +kernel) (by decide +kernel)
theorem ggL_law_L_does : GoodIn wsL_law wsL_does := (goodIn_ca (goodIn_ca (goodIn_ca (goodIn_ca (goodIn_ca (goodIn_ca gi_L_does_1 (goodIn_app gi_L_does_2 (goodIn_app gi_L_does_3 (goodIn_app gi_L_does_4 (goodIn_app gi_L_does_5 (goodIn_app gi_L_does_6 (goodIn_app gi_L_does_7 (goodIn_app gi_L_does_8 (goodIn_app gi_L_does_9 (goodIn_app gi_L_does_10 (goodIn_app gi_L_does_11 (goodIn_app gi_L_does_12 gi_L_does_13)))))))))))) gi_wsX40) gi_wsX20) gi_wsX30) gi_wsX00) gi_wsX10)
set_option maxRecDepth 20000 in
theorem gL_law_L_does : GoodIn wsL_law (va_wsS RL 95 yL_does wsL_does) := goodIn_app (goodIn_of _ (by decide +kernel)) ggL_law_L_does
set_option maxRecDepth 20000 in
theorem gi_L_areAttacks_1 : GoodIn wsL_law (Cond.code yL_areAttacks cL_areAttacks 6 (some .boolean) :: wsL_areAttacks_r1) := goodIn_r _ [399, 25, 92, 93, 94, 2, 95, 12, 39, 40, 41, 88, 89, 90, 11, 91, 33, 96, 97, 98, 99, 34, 100, 84, 85] (by decide +kernel) (by decide +kernel)
set_option maxRecDepth 20000 in
theorem gi_L_areAttacks_2 : GoodIn wsL_law wsL_areAttacks_r2 := goodIn_r _ [86, 87, 280, 281, 282, 283, 108, 109, 110, 284, 145, 146, 147] (by decide +kernel) (by decide +kernel)
theorem ggL_law_L_areAttacks : GoodIn wsL_law wsL_areAttacks := (goodIn_ca (goodIn_ca (goodIn_ca gi_L_areAttacks_1 gi_L_areAttacks_2) gi_wsX40) gi_wsX20)
