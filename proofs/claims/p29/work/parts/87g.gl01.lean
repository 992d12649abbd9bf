set_option maxRecDepth 20000 in
theorem gi_L_areMen_4 : GoodIn wsL_law wsL_areMen_r4 := goodIn_r _ [142, 143, 144, 145, 146, 147, 148, 149, 150, 151, 152, 153, 154, 155, 156, 157, 158, 159, 60, 61, 62, 160, 54, 55] (by decide +kernel) (by decide +kernel)
set_option maxRecDepth 20000 in
theorem gi_L_areMen_5 : GoodIn wsL_law wsL_areMen_r5 := goodIn_r _ [161, 162, 163, 164, 165, 166, 167, 168, 169, 170, 171, 52, 53, 172, 47, 48, 49, 50, 51, 173, 174, 175, 176, 177] (by decide +kernel) (by decide +kernel)
set_option maxRecDepth 20000 in
theorem gi_L_areMen_6 : GoodIn wsL_law wsL_areMen_r6 := goodIn_r _ [178, 179, 180, 181, 182, 183, 184, 185, 186, 187, 188, 189, 190, 191, 192, 193, 194, 195, 196, 197, 198, 199, 200, 201] (by decide +kernel) (by decide +kernel)
set_option maxRecDepth 20000 in
theorem gi_L_areMen_7 : GoodIn wsL_law wsL_areMen_r7 := goodIn_r _ [202, 203, 204, 205, 206, 207, 208, 209, 210, 211, 212, 213, 214, 215, 216, 217, 218, 219, 220, 221, 222, 223, 224, 225] (by decide +kernel) (by decide +kernel)
set_option maxRecDepth 20000 in
theorem gi_L_areMen_8 : GoodIn wsL_law wsL_areMen_r8 := goodIn_r _ [226, 227, 228, 46, 229, 230, 231, 232, 233, 234, 235, 236, 237, 238, 239, 240, 241, 242, 243, 244, 245, 246, 247, 248] (by decide +kernel) (by decide +kernel)
set_option maxRecDepth 20000 in
theorem gi_L_areMen_9 : GoodIn wsL_law wsL_areMen_r9 := goodIn_r _ [249, 250, 251, 252, 253, 254, 255, 256, 257, 258, 259, 260, 19, 261, 70, 262, 263, 264, 23, 265, 76, 266, 267, 268] (by decide +kernel) (by decide +kernel)
set_option maxRecDepth 20000 in
theorem gi_L_areMen_10 : GoodIn wsL_law wsL_areMen_r10 := goodIn_r _ [269, 270, 271, 272, 273, 274, 275, 276, 277, 278, 279, 280, 281, 282, 283, 284] (by decide +kernel) (by decide +kernel)
theorem ggL_law_L_areMen : GoodIn wsL_law wsL_areMen := (goodIn_ca (goodIn_ca (goodIn_ca (goodIn_ca (goodIn_ca (goodIn_ca gi_L_areMen_1 (goodIn_app gi_L_areMen_2 (goodIn_app gi_L_areMen_3 (goodIn_app gi_L_areMen_4 (goodIn_app gi_L_areMen_5 (goodIn_app gi_L_areMen_6 (goodIn_app gi_L_areMen_7 (goodIn_app gi_L_areMen_8 (goodIn_app gi_L_areMen_9 gi_L_areMen_10))))))))) gi_wsX40) gi_wsX20) gi_wsX30) gi_wsX00) gi_wsX10)
set_option maxRecDepth 20000 in
theorem gL_law_L_areMen : GoodIn wsL_law (va_wsS RL 84 yL_areMen wsL_areMen) := goodIn_app (goodIn_of _ (by decide +kernel)) ggL_law_L_areMen
set_option maxRecDepth 20000 in
theorem gi_X4_total_1 : GoodIn wsL_law (Cond.code yX4_total cX4_total 2 (some .int) :: wsX4_total_r1) := goodIn_r _ [121, 12, 16, 20, 24, 122, 123, 124, 11, 125, 33, 126, 127, 128, 129, 130, 131, 132, 133, 134, 115, 116, 117, 109, 2] (by decide +kernel) (by decide +kernel)
set_option maxRecDepth 20000 in
theorem gi_X4_total_2 : GoodIn wsL_law wsX4_total_r2 := goodIn_r _ [110, 112, 113, 135, 136, 137, 15, 138, 65, 139, 140, 141, 142, 143, 144, 145, 146, 147, 34, 148, 149, 150, 151, 152] (by decide +kernel) (by decide +kernel)
set_option maxRecDepth 20000 in
theorem gi_X4_total_3 : GoodIn wsL_law wsX4_total_r3 := goodIn_r _ [153, 154, 155, 156, 157, 158, 159, 60, 61, 62, 160, 89, 90, 91, 54, 55, 161, 162, 163, 164, 165, 97, 98, 99] (by decide +kernel) (by decide +kernel)
set_option maxRecDepth 20000 in
theorem gi_X4_total_4 : GoodIn wsL_law wsX4_total_r4 := goodIn_r _ [100, 166, 167, 168, 169, 170, 171, 52, 53, 172, 47, 48, 49, 40, 41, 50, 51, 173, 174, 175, 176, 177, 178, 179] (by decide +kernel) (by decide +kernel)
set_option maxRecDepth 20000 in
theorem gi_X4_total_5 : GoodIn wsL_law wsX4_total_r5 := goodIn_r _ [180, 181, 182, 183, 184, 185, 186, 187, 188, 189, 190, 191, 192, 193, 194, 195, 196, 197, 198, 199, 200, 201, 202, 203] (by decide +kernel) (by decide +kernel)
