set_option maxRecDepth 20000 in
theorem gi_L_arePlays_2 : GoodIn wsL_law wsL_arePlays_r2 := goodIn_r _ [115, 116, 117, 109, 110, 112, 113, 135, 136, 137, 15, 138, 65, 139, 140, 141, 142, 143, 144, 145, 146, 147, 34, 148] (by decide +kernel) (by decide +kernel)
set_option maxRecDepth 20000 in
theorem gi_L_arePlays_3 : GoodIn wsL_law wsL_arePlays_r3 := goodIn_r _ [149, 150, 151, 152, 153, 154, 155, 156, 157, 158, 159, 60, 61, 62, 160, 89, 90, 91, 54, 55, 161, 162, 163, 164] (by decide +kernel) (by decide +kernel)
set_option maxRecDepth 20000 in
theorem gi_L_arePlays_4 : GoodIn wsL_law wsL_arePlays_r4 := goodIn_r _ [165, 97, 98, 99, 100, 166, 167, 168, 169, 170, 171, 52, 53, 172, 47, 48, 49, 40, 41, 50, 51, 173, 174, 175] (by decide +kernel) (by decide +kernel)
set_option maxRecDepth 20000 in
theorem gi_L_arePlays_5 : GoodIn wsL_law wsL_arePlays_r5 := goodIn_r _ [176, 177, 178, 179, 180, 181, 182, 183, 184, 185, 186, 187, 188, 189, 190, 191, 192, 193, 194, 195, 196, 197, 198, 199] (by decide +kernel) (by decide +kernel)
set_option maxRecDepth 20000 in
theorem gi_L_arePlays_6 : GoodIn wsL_law wsL_arePlays_r6 := goodIn_r _ [200, 201, 202, 203, 204, 205, 206, 207, 208, 209, 210, 211, 212, 213, 214, 215, 216, 217, 218, 219, 220, 221, 222, 223] (by decide +kernel) (by decide +kernel)
set_option maxRecDepth 20000 in
theorem gi_L_arePlays_7 : GoodIn wsL_law wsL_arePlays_r7 := goodIn_r _ [224, 225, 226, 227, 228, 46, 229, 230, 231, 232, 233, 234, 235, 236, 237, 238, 239, 240, 241, 242, 243, 244, 245, 246] (by decide +kernel) (by decide +kernel)
set_option maxRecDepth 20000 in
theorem gi_L_arePlays_8 : GoodIn wsL_law wsL_arePlays_r8 := goodIn_r _ [247, 248, 249, 250, 251, 252, 253, 254, 255, 256, 257, 258, 259, 260, 19, 261, 70, 262, 263, 264, 23, 265, 76, 419] (by decide +kernel) (by decide +kernel)
set_option maxRecDepth 20000 in
theorem gi_L_arePlays_9 : GoodIn wsL_law wsL_arePlays_r9 := goodIn_r _ [420, 82, 421, 372, 373, 374, 375, 323, 324, 325, 326, 64, 327, 328, 329, 330, 331, 332, 63, 333, 334, 335, 336, 376] (by decide +kernel) (by decide +kernel)
set_option maxRecDepth 20000 in
theorem gi_L_arePlays_10 : GoodIn wsL_law wsL_arePlays_r10 := goodIn_r _ [377, 378, 379, 380, 381, 382, 383, 384, 385, 386, 387, 388, 389, 390, 391, 305, 306, 307, 308, 26, 309, 310, 311, 312] (by decide +kernel) (by decide +kernel)
set_option maxRecDepth 20000 in
theorem gi_L_arePlays_11 : GoodIn wsL_law wsL_arePlays_r11 := goodIn_r _ [297, 298, 299, 300, 313, 314, 315, 316, 69, 317, 392, 393, 394, 395, 396, 274, 275, 276, 277, 278, 279, 84, 85, 86] (by decide +kernel) (by decide +kernel)
set_option maxRecDepth 20000 in
theorem gi_L_arePlays_12 : GoodIn wsL_law wsL_arePlays_r12 := goodIn_r _ [87, 39, 88, 280, 281, 282, 283, 108, 284, 266, 267, 268, 269, 270, 271, 272, 273, 285, 286, 287, 288, 289, 290, 291] (by decide +kernel) (by decide +kernel)
set_option maxRecDepth 20000 in
theorem gi_L_arePlays_13 : GoodIn wsL_law wsL_arePlays_r13 := goodIn_r _ [292, 293, 294, 295, 296, 319, 320, 321, 322, 337, 338, 422, 423, 424, 425] (by decide +kernel) (by decide +kernel)
theorem ggL_law_L_arePlays : GoodIn wsL_law wsL_arePlays := (goodIn_ca (goodIn_ca (goodIn_ca (goodIn_ca (goodIn_ca (goodIn_ca gi_L_arePlays_1 (goodIn_app gi_L_arePlays_2 (goodIn_app gi_L_arePlays_3 (goodIn_app gi_L_arePlays_4 (goodIn_app gi_L_arePlays_5 (goodIn_app gi_L_arePlays_6 (goodIn_app gi_L_arePlays_7 (goodIn_app gi_L_arePlays_8 (goodIn_app gi_L_arePlays_9 (goodIn_app gi_L_arePlays_10 (goodIn_app gi_L_arePlays_11 (goodIn_app gi_L_arePlays_12 gi_L_arePlays_13)))))))))))) gi_wsX40) gi_wsX20) gi_wsX30) gi_wsX00) gi_wsX10)
set_option maxRecDepth 20000 in
theorem gL_law_L_arePlays : GoodIn wsL_law (va_wsS RL 104 yL_arePlays wsL_arePlays) := goodIn_app (goodIn_of _ (by decide +kernel)) ggL_law_L_arePlays
