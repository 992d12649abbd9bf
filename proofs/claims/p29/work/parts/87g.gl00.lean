theorem gi_wsX00 : GoodIn wsL_law wsX00 := goodIn_sub inlX0 (by decide +kernel)
theorem gi_wsX10 : GoodIn wsL_law wsX10 := goodIn_sub inlX1 (by decide +kernel)
theorem gi_wsX20 : GoodIn wsL_law wsX20 := goodIn_sub inlX2 (by decide +kernel)
theorem gi_wsX30 : GoodIn wsL_law wsX30 := goodIn_sub inlX3 (by decide +kernel)
theorem gi_wsX40 : GoodIn wsL_law wsX40 := goodIn_sub inlX4 (by decide +kernel)
set_option maxRecDepth 20000 in
theorem gi_X4_init_1 : GoodIn wsL_law (Cond.code yX4_init cX4_init 1 none :: wsX4_init_r1) := goodIn_r _ [5, 6, 7, 8, 9, 10, 11, 12, 13, 14, 15, 16, 17, 18, 19, 20, 21, 22, 23, 24, 25, 26, 27, 28, 29] (by decide +kernel) (by decide +kernel)
set_option maxRecDepth 20000 in
theorem gi_X4_init_2 : GoodIn wsL_law wsX4_init_r2 := goodIn_r _ [30, 31, 32, 33, 34, 35, 2, 36, 37, 38, 39, 40, 41, 42, 43, 44, 45, 46, 47, 48, 49, 50, 51, 52] (by decide +kernel) (by decide +kernel)
set_option maxRecDepth 20000 in
theorem gi_X4_init_3 : GoodIn wsL_law wsX4_init_r3 := goodIn_r _ [53, 54, 55, 56, 57, 58, 59, 60, 61, 62, 63, 64, 65, 66, 67, 68, 69, 70, 71, 72, 73, 74, 75, 76] (by decide +kernel) (by decide +kernel)
set_option maxRecDepth 20000 in
theorem gi_X4_init_4 : GoodIn wsL_law wsX4_init_r4 := goodIn_r _ [77, 78, 79] (by decide +kernel) (by decide +kernel)
theorem ggL_law_X4_init : GoodIn wsL_law wsX4_init := (goodIn_ca (goodIn_ca (goodIn_ca (goodIn_ca (goodIn_ca (goodIn_ca gi_X4_init_1 (goodIn_app gi_X4_init_2 (goodIn_app gi_X4_init_3 gi_X4_init_4))) gi_wsX20) gi_wsX40) gi_wsX30) gi_wsX00) gi_wsX10)
set_option maxRecDepth 20000 in
theorem gL_law_X4_init : GoodIn wsL_law (wsX4_init) := ggL_law_X4_init
set_option maxRecDepth 20000 in
theorem gi_L_areMen_1 : GoodIn wsL_law (Cond.code yL_areMen cL_areMen 7 (some .boolean) :: wsL_areMen_r1) := goodIn_r _ [83, 84, 85, 86, 2, 87, 12, 39, 40, 41, 88, 89, 90, 11, 91, 33, 92, 93, 94, 95, 96, 97, 98, 99, 34] (by decide +kernel) (by decide +kernel)
set_option maxRecDepth 20000 in
theorem gi_L_areMen_2 : GoodIn wsL_law wsL_areMen_r2 := goodIn_r _ [100, 101, 102, 82, 103, 104, 105, 106, 107, 108, 109, 110, 111, 112, 113, 114, 115, 116, 117, 118, 119, 120, 121, 16] (by decide +kernel) (by decide +kernel)
set_option maxRecDepth 20000 in
theorem gi_L_areMen_3 : GoodIn wsL_law wsL_areMen_r3 := goodIn_r _ [20, 24, 122, 123, 124, 125, 126, 127, 128, 129, 130, 131, 132, 133, 134, 135, 136, 137, 15, 138, 65, 139, 140, 141] (by decide +kernel) (by decide +kernel)
