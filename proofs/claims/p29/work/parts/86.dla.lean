theorem dL_cell_0 : decode cL_cell 0 = .ok (.iload_n 1, 1) := by decide +kernel
theorem dL_cell_1 : decode cL_cell 1 = .ok (.aload_n 0, 1) := by decide +kernel
theorem dL_cell_2 : decode cL_cell 2 = .ok (.arraylength, 1) := by decide +kernel
theorem dL_cell_3 : decode cL_cell 3 = .ok (.if_icmp .ge 9, 3) := by decide +kernel
theorem dL_cell_6 : decode cL_cell 6 = .ok (.aload_n 0, 1) := by decide +kernel
theorem dL_cell_7 : decode cL_cell 7 = .ok (.iload_n 1, 1) := by decide +kernel
theorem dL_cell_8 : decode cL_cell 8 = .ok (.iaload, 1) := by decide +kernel
theorem dL_cell_9 : decode cL_cell 9 = .ok (.goto 15, 3) := by decide +kernel
theorem dL_cell_12 : decode cL_cell 12 = .ok (.sipush 7919, 3) := by decide +kernel
theorem dL_cell_15 : decode cL_cell 15 = .ok (.iload_n 1, 1) := by decide +kernel
theorem dL_cell_16 : decode cL_cell 16 = .ok (.iconst 3, 1) := by decide +kernel
theorem dL_cell_17 : decode cL_cell 17 = .ok (.iadd, 1) := by decide +kernel
theorem dL_cell_18 : decode cL_cell 18 = .ok (.imul, 1) := by decide +kernel
theorem dL_cell_19 : decode cL_cell 19 = .ok (.iload_n 1, 1) := by decide +kernel
theorem dL_cell_20 : decode cL_cell 20 = .ok (.bipush 11, 2) := by decide +kernel
theorem dL_cell_22 : decode cL_cell 22 = .ok (.iadd, 1) := by decide +kernel
theorem dL_cell_23 : decode cL_cell 23 = .ok (.imul, 1) := by decide +kernel
theorem dL_cell_24 : decode cL_cell 24 = .ok (.ireturn, 1) := by decide +kernel
theorem dL_low_0 : decode cL_low 0 = .ok (.iload_n 0, 1) := by decide +kernel
theorem dL_low_1 : decode cL_low 1 = .ok (.ldc 7, 2) := by decide +kernel
theorem dL_low_3 : decode cL_low 3 = .ok (.iand, 1) := by decide +kernel
theorem dL_low_4 : decode cL_low 4 = .ok (.iload_n 1, 1) := by decide +kernel
theorem dL_low_5 : decode cL_low 5 = .ok (.irem, 1) := by decide +kernel
theorem dL_low_6 : decode cL_low 6 = .ok (.ireturn, 1) := by decide +kernel
theorem dL_worth_0 : decode cL_worth 0 = .ok (.iload_n 0, 1) := by decide +kernel
theorem dL_worth_1 : decode cL_worth 1 = .ok (.ifCond .ne 7, 3) := by decide +kernel
theorem dL_worth_4 : decode cL_worth 4 = .ok (.iconst 0, 1) := by decide +kernel
theorem dL_worth_5 : decode cL_worth 5 = .ok (.goto 75, 3) := by decide +kernel
theorem dL_worth_8 : decode cL_worth 8 = .ok (.iload_n 0, 1) := by decide +kernel
theorem dL_worth_9 : decode cL_worth 9 = .ok (.iconst 2, 1) := by decide +kernel
theorem dL_worth_10 : decode cL_worth 10 = .ok (.if_icmp .ne 7, 3) := by decide +kernel
theorem dL_worth_13 : decode cL_worth 13 = .ok (.iconst 5, 1) := by decide +kernel
theorem dL_worth_14 : decode cL_worth 14 = .ok (.goto 66, 3) := by decide +kernel
theorem dL_worth_17 : decode cL_worth 17 = .ok (.iload_n 0, 1) := by decide +kernel
theorem dL_worth_18 : decode cL_worth 18 = .ok (.iconst 3, 1) := by decide +kernel
theorem dL_worth_19 : decode cL_worth 19 = .ok (.if_icmp .ne 8, 3) := by decide +kernel
theorem dL_worth_22 : decode cL_worth 22 = .ok (.bipush 8, 2) := by decide +kernel
theorem dL_worth_24 : decode cL_worth 24 = .ok (.goto 56, 3) := by decide +kernel
theorem dL_worth_27 : decode cL_worth 27 = .ok (.iload_n 0, 1) := by decide +kernel
theorem dL_worth_28 : decode cL_worth 28 = .ok (.iconst 4, 1) := by decide +kernel
theorem dL_worth_29 : decode cL_worth 29 = .ok (.if_icmp .ne 8, 3) := by decide +kernel
theorem dL_worth_32 : decode cL_worth 32 = .ok (.bipush 10, 2) := by decide +kernel
theorem dL_worth_34 : decode cL_worth 34 = .ok (.goto 46, 3) := by decide +kernel
theorem dL_worth_37 : decode cL_worth 37 = .ok (.iload_n 0, 1) := by decide +kernel
theorem dL_worth_38 : decode cL_worth 38 = .ok (.iconst 5, 1) := by decide +kernel
theorem dL_worth_39 : decode cL_worth 39 = .ok (.if_icmp .ne 7, 3) := by decide +kernel
theorem dL_worth_42 : decode cL_worth 42 = .ok (.iconst 1, 1) := by decide +kernel
theorem dL_worth_43 : decode cL_worth 43 = .ok (.goto 37, 3) := by decide +kernel
theorem dL_worth_46 : decode cL_worth 46 = .ok (.iload_n 0, 1) := by decide +kernel
theorem dL_worth_47 : decode cL_worth 47 = .ok (.bipush 7, 2) := by decide +kernel
theorem dL_worth_49 : decode cL_worth 49 = .ok (.if_icmp .ne 8, 3) := by decide +kernel
theorem dL_worth_52 : decode cL_worth 52 = .ok (.bipush 11, 2) := by decide +kernel
theorem dL_worth_54 : decode cL_worth 54 = .ok (.goto 26, 3) := by decide +kernel
theorem dL_worth_57 : decode cL_worth 57 = .ok (.iload_n 0, 1) := by decide +kernel
theorem dL_worth_58 : decode cL_worth 58 = .ok (.bipush 8, 2) := by decide +kernel
theorem dL_worth_60 : decode cL_worth 60 = .ok (.if_icmp .ne 8, 3) := by decide +kernel
theorem dL_worth_63 : decode cL_worth 63 = .ok (.bipush 13, 2) := by decide +kernel
theorem dL_worth_65 : decode cL_worth 65 = .ok (.goto 15, 3) := by decide +kernel
theorem dL_worth_68 : decode cL_worth 68 = .ok (.iload_n 0, 1) := by decide +kernel
theorem dL_worth_69 : decode cL_worth 69 = .ok (.bipush 9, 2) := by decide +kernel
theorem dL_worth_71 : decode cL_worth 71 = .ok (.if_icmp .ne 7, 3) := by decide +kernel
theorem dL_worth_74 : decode cL_worth 74 = .ok (.iconst 4, 1) := by decide +kernel
theorem dL_worth_75 : decode cL_worth 75 = .ok (.goto 5, 3) := by decide +kernel
theorem dL_worth_78 : decode cL_worth 78 = .ok (.bipush 6, 2) := by decide +kernel
theorem dL_worth_80 : decode cL_worth 80 = .ok (.ireturn, 1) := by decide +kernel
set_option maxRecDepth 20000 in
theorem ggL_men_X4_total : GoodIn wsL_men wsX4_total := goodIn_r _ [5, 6, 7, 8, 9, 10, 11, 12, 13, 14, 15, 16, 17, 18, 19, 20, 21, 22, 23, 24, 25, 26, 27, 28, 4, 29, 30, 31, 32, 33, 34, 35, 36, 37, 38, 39, 40, 41, 42, 43, 44, 45, 46, 47, 48, 49, 50, 51, 52, 53, 54, 55, 56, 57, 58, 59, 60, 61, 62, 63, 64, 65, 66, 67, 68, 69, 70, 71, 72, 73, 74, 75, 76, 77, 78, 79, 80, 81, 82, 83, 84, 85, 86, 87, 88, 89, 90, 91, 92, 93, 94, 95, 96, 97, 98, 99, 100, 101, 102, 103, 104, 105, 106, 107, 108, 109, 110, 111, 112, 113, 114, 115, 116, 117, 118, 119, 120, 121, 122, 123, 124, 125, 126, 127, 128, 129, 130, 131, 132, 133, 134, 135, 136, 137, 138, 139, 140, 141, 142, 143, 144, 145, 146, 147, 148, 149, 150, 151, 152, 153, 154, 155, 156, 157, 158, 159, 160, 161, 162, 163, 164, 165, 166, 167, 168, 169, 170, 171, 172, 173, 174, 175, 176, 177, 178, 179, 180, 181, 182, 183, 184, 185, 186, 187, 188, 189, 190, 191, 192, 193, 194, 195, 196, 197, 198, 199, 200, 201, 202, 203, 204, 205, 206, 207, 208, 209, 210, 211, 212, 213] (by decide +kernel) (by decide +kernel)
set_option maxRecDepth 20000 in
theorem gL_men_X4_total : GoodIn wsL_men (wsV RL 8 RX4 yX4_total wsX4_total) := goodIn_app (goodIn_of _ (by decide +kernel)) ggL_men_X4_total
theorem dL_men_0 : decode cL_men 0 = .ok (.aload_n 0, 1) := by decide +kernel
theorem dL_men_1 : decode cL_men 1 = .ok (.iconst 1, 1) := by decide +kernel
theorem dL_men_2 : decode cL_men 2 = .ok (.invokevirtual 8, 3) := by decide +kernel
theorem dL_men_5 : decode cL_men 5 = .ok (.aload_n 0, 1) := by decide +kernel
theorem dL_men_6 : decode cL_men 6 = .ok (.iconst 2, 1) := by decide +kernel
theorem dL_men_7 : decode cL_men 7 = .ok (.invokevirtual 8, 3) := by decide +kernel
theorem dL_men_10 : decode cL_men 10 = .ok (.iadd, 1) := by decide +kernel
theorem dL_men_11 : decode cL_men 11 = .ok (.aload_n 0, 1) := by decide +kernel
theorem dL_men_12 : decode cL_men 12 = .ok (.iconst 3, 1) := by decide +kernel
theorem dL_men_13 : decode cL_men 13 = .ok (.invokevirtual 8, 3) := by decide +kernel
theorem dL_men_16 : decode cL_men 16 = .ok (.iadd, 1) := by decide +kernel
theorem dL_men_17 : decode cL_men 17 = .ok (.ireturn, 1) := by decide +kernel
set_option maxRecDepth 20000 in
theorem ggL_king_X4_man : GoodIn wsL_king wsX4_man := goodIn_r _ [5, 6, 7, 8, 4, 9, 10, 11, 12, 13, 14, 15, 16, 17, 18, 19, 20, 21, 22, 23, 24] (by decide +kernel) (by decide +kernel)
set_option maxRecDepth 20000 in
theorem gL_king_X4_man : GoodIn wsL_king (wsV RL 14 RX4 yX4_man wsX4_man) := goodIn_app (goodIn_of _ (by decide +kernel)) ggL_king_X4_man
theorem dL_king_0 : decode cL_king 0 = .ok (.iconst (-1), 1) := by decide +kernel
theorem dL_king_1 : decode cL_king 1 = .ok (.istore_n 2, 1) := by decide +kernel
theorem dL_king_2 : decode cL_king 2 = .ok (.iconst 0, 1) := by decide +kernel
theorem dL_king_3 : decode cL_king 3 = .ok (.istore_n 3, 1) := by decide +kernel
theorem dL_king_4 : decode cL_king 4 = .ok (.iload_n 3, 1) := by decide +kernel
theorem dL_king_5 : decode cL_king 5 = .ok (.bipush 25, 2) := by decide +kernel
theorem dL_king_7 : decode cL_king 7 = .ok (.if_icmp .ge 27, 3) := by decide +kernel
theorem dL_king_10 : decode cL_king 10 = .ok (.aload_n 0, 1) := by decide +kernel
theorem dL_king_11 : decode cL_king 11 = .ok (.iload_n 3, 1) := by decide +kernel
theorem dL_king_12 : decode cL_king 12 = .ok (.invokevirtual 14, 3) := by decide +kernel
theorem dL_king_15 : decode cL_king 15 = .ok (.bipush 10, 2) := by decide +kernel
theorem dL_king_17 : decode cL_king 17 = .ok (.iload_n 1, 1) := by decide +kernel
theorem dL_king_18 : decode cL_king 18 = .ok (.imul, 1) := by decide +kernel
theorem dL_king_19 : decode cL_king 19 = .ok (.if_icmp .ne 7, 3) := by decide +kernel
theorem dL_king_22 : decode cL_king 22 = .ok (.iload_n 3, 1) := by decide +kernel
theorem dL_king_23 : decode cL_king 23 = .ok (.goto 4, 3) := by decide +kernel
theorem dL_king_26 : decode cL_king 26 = .ok (.iload_n 2, 1) := by decide +kernel
theorem dL_king_27 : decode cL_king 27 = .ok (.istore_n 2, 1) := by decide +kernel
theorem dL_king_28 : decode cL_king 28 = .ok (.iinc 3 1, 3) := by decide +kernel
theorem dL_king_31 : decode cL_king 31 = .ok (.goto (-27), 3) := by decide +kernel
theorem dL_king_34 : decode cL_king 34 = .ok (.iload_n 2, 1) := by decide +kernel
theorem dL_king_35 : decode cL_king 35 = .ok (.ireturn, 1) := by decide +kernel
set_option maxRecDepth 20000 in
theorem ggL_isChecked_L_king : GoodIn wsL_isChecked wsL_king := goodIn_r _ [4, 5, 6, 7, 8, 9, 10, 11, 12, 13, 14, 15, 16, 17, 18, 19, 32, 33, 34, 35, 36, 37, 38, 39, 40] (by decide +kernel) (by decide +kernel)
set_option maxRecDepth 20000 in
theorem gL_isChecked_L_king : GoodIn wsL_isChecked (va_wsS RL 17 yL_king wsL_king) := goodIn_app (goodIn_of _ (by decide +kernel)) ggL_isChecked_L_king
set_option maxRecDepth 20000 in
theorem ggL_isChecked_X4_attackers : GoodIn wsL_isChecked wsX4_attackers := goodIn_r _ [23, 10, 24, 25, 8, 26, 11, 12, 13, 27, 28, 29, 17, 30, 31, 19, 32, 33, 34, 35, 36, 37, 38, 39, 40] (by decide +kernel) (by decide +kernel)
set_option maxRecDepth 20000 in
theorem gL_isChecked_X4_attackers : GoodIn wsL_isChecked (wsV RL 23 RX4 yX4_attackers wsX4_attackers) := goodIn_app (goodIn_of _ (by decide +kernel)) ggL_isChecked_X4_attackers
theorem dL_isChecked_0 : decode cL_isChecked 0 = .ok (.aload_n 0, 1) := by decide +kernel
theorem dL_isChecked_1 : decode cL_isChecked 1 = .ok (.iload_n 1, 1) := by decide +kernel
theorem dL_isChecked_2 : decode cL_isChecked 2 = .ok (.invokestatic 17, 3) := by decide +kernel
theorem dL_isChecked_5 : decode cL_isChecked 5 = .ok (.istore_n 2, 1) := by decide +kernel
theorem dL_isChecked_6 : decode cL_isChecked 6 = .ok (.iload_n 2, 1) := by decide +kernel
theorem dL_isChecked_7 : decode cL_isChecked 7 = .ok (.ifCond .lt 18, 3) := by decide +kernel
theorem dL_isChecked_10 : decode cL_isChecked 10 = .ok (.aload_n 0, 1) := by decide +kernel
theorem dL_isChecked_11 : decode cL_isChecked 11 = .ok (.iconst 1, 1) := by decide +kernel
theorem dL_isChecked_12 : decode cL_isChecked 12 = .ok (.iload_n 1, 1) := by decide +kernel
theorem dL_isChecked_13 : decode cL_isChecked 13 = .ok (.isub, 1) := by decide +kernel
theorem dL_isChecked_14 : decode cL_isChecked 14 = .ok (.iload_n 2, 1) := by decide +kernel
theorem dL_isChecked_15 : decode cL_isChecked 15 = .ok (.invokevirtual 23, 3) := by decide +kernel
theorem dL_isChecked_18 : decode cL_isChecked 18 = .ok (.ifCond .le 7, 3) := by decide +kernel
theorem dL_isChecked_21 : decode cL_isChecked 21 = .ok (.iconst 1, 1) := by decide +kernel
theorem dL_isChecked_22 : decode cL_isChecked 22 = .ok (.goto 4, 3) := by decide +kernel
theorem dL_isChecked_25 : decode cL_isChecked 25 = .ok (.iconst 0, 1) := by decide +kernel
theorem dL_isChecked_26 : decode cL_isChecked 26 = .ok (.ireturn, 1) := by decide +kernel
set_option maxRecDepth 20000 in
theorem ggL_areMen_X4_man : GoodIn wsL_areMen wsX4_man := goodIn_r _ [5, 6, 7, 8, 4, 9, 10, 11, 12, 13, 14, 15, 233, 234, 235, 236, 237, 238, 239, 240, 241] (by decide +kernel) (by decide +kernel)
set_option maxRecDepth 20000 in
theorem gL_areMen_X4_man : GoodIn wsL_areMen (wsV RL 14 RX4 yX4_man wsX4_man) := goodIn_app (goodIn_of _ (by decide +kernel)) ggL_areMen_X4_man
set_option maxRecDepth 20000 in
theorem ggL_areMen_X4_attacked : GoodIn wsL_areMen wsX4_attacked := goodIn_r _ [19, 6, 7, 8, 4, 9, 10, 11, 12, 13, 14, 15, 20, 21, 22, 23, 24, 25, 233, 234, 235, 236, 237, 238, 239, 240, 241] (by decide +kernel) (by decide +kernel)
set_option maxRecDepth 20000 in
theorem gL_areMen_X4_attacked : GoodIn wsL_areMen (wsV RL 27 RX4 yX4_attacked wsX4_attacked) := goodIn_app (goodIn_of _ (by decide +kernel)) ggL_areMen_X4_attacked
set_option maxRecDepth 20000 in
theorem ggL_areMen_L_worth : GoodIn wsL_areMen wsL_worth := goodIn_r _ [29] (by decide +kernel) (by decide +kernel)
set_option maxRecDepth 20000 in
theorem gL_areMen_L_worth : GoodIn wsL_areMen (va_wsS RL 30 yL_worth wsL_worth) := goodIn_app (goodIn_of _ (by decide +kernel)) ggL_areMen_L_worth
set_option maxRecDepth 20000 in
theorem ggL_areMen_X4_hand : GoodIn wsL_areMen wsX4_hand := goodIn_r _ [33, 6, 34, 35, 4, 36, 37, 38, 39, 40, 41, 42, 13, 43, 15, 233, 234, 235, 236, 237, 238, 239, 240, 241] (by decide +kernel) (by decide +kernel)
set_option maxRecDepth 20000 in
theorem gL_areMen_X4_hand : GoodIn wsL_areMen (wsV RL 33 RX4 yX4_hand wsX4_hand) := goodIn_app (goodIn_of _ (by decide +kernel)) ggL_areMen_X4_hand
set_option maxRecDepth 20000 in
theorem ggL_areMen_X4_total : GoodIn wsL_areMen wsX4_total := goodIn_r _ [47, 6, 48, 49, 50, 51, 52, 53, 13, 54, 15, 55, 56, 57, 58, 59, 60, 61, 62, 63, 41, 42, 43, 35, 4, 36, 38, 39, 64, 65, 66, 67, 68, 69, 70, 71, 72, 73, 74, 75, 76, 77, 78, 24, 79, 80, 81, 82, 83, 84, 85, 86, 87, 88, 89, 90, 91, 92, 93, 94, 11, 12, 14, 95, 96, 97, 98, 99, 100, 101, 21, 22, 23, 25, 102, 103, 104, 105, 106, 107, 108, 109, 110, 111, 112, 113, 8, 9, 114, 115, 116, 117, 118, 119, 120, 121, 122, 123, 124, 125, 126, 127, 128, 129, 130, 131, 132, 133, 134, 135, 136, 137, 138, 139, 140, 141, 142, 143, 144, 145, 146, 147, 148, 149, 150, 151, 152, 153, 154, 155, 156, 157, 158, 159, 160, 161, 162, 163, 164, 165, 166, 167, 168, 169, 170, 171, 172, 173, 174, 175, 176, 177, 178, 179, 180, 181, 182, 183, 184, 185, 186, 187, 188, 189, 190, 191, 192, 193, 194, 195, 196, 197, 198, 199, 200, 201, 202, 203, 204, 205, 206, 207, 208, 209, 210, 211, 212, 213, 233, 234, 235, 236, 237, 238, 239, 240, 241, 242, 243, 244, 245, 246, 247, 248, 249, 250, 251, 252, 253, 254] (by decide +kernel) (by decide +kernel)
set_option maxRecDepth 20000 in
theorem gL_areMen_X4_total : GoodIn wsL_areMen (wsV RL 8 RX4 yX4_total wsX4_total) := goodIn_app (goodIn_of _ (by decide +kernel)) ggL_areMen_X4_total
set_option maxRecDepth 20000 in
theorem ggL_areMen_X4_worth : GoodIn wsL_areMen wsX4_worth := goodIn_r _ [217, 6, 34, 35, 4, 36, 218, 219, 220, 13, 221, 15, 108, 109, 95, 96, 63, 41, 42, 43, 38, 39, 233, 234, 235, 236, 237, 238, 239, 240, 241] (by decide +kernel) (by decide +kernel)
set_option maxRecDepth 20000 in
theorem gL_areMen_X4_worth : GoodIn wsL_areMen (wsV RL 36 RX4 yX4_worth wsX4_worth) := goodIn_app (goodIn_of _ (by decide +kernel)) ggL_areMen_X4_worth
set_option maxRecDepth 20000 in
theorem ggL_areMen_L_isChecked : GoodIn wsL_areMen wsL_isChecked := goodIn_r _ [224, 225, 226, 28, 227, 1, 2, 3, 4, 5, 6, 7, 8, 9, 10, 11, 12, 13, 14, 15, 228, 229, 230, 231, 34, 35, 36, 232, 76, 77, 78, 24, 233, 234, 235, 236, 237, 238, 239, 240, 241] (by decide +kernel) (by decide +kernel)
set_option maxRecDepth 20000 in
theorem gL_areMen_L_isChecked : GoodIn wsL_areMen (va_wsS RL 37 yL_isChecked wsL_isChecked) := goodIn_app (goodIn_of _ (by decide +kernel)) ggL_areMen_L_isChecked
theorem dL_areMen_0 : decode cL_areMen 0 = .ok (.iconst 0, 1) := by decide +kernel
theorem dL_areMen_1 : decode cL_areMen 1 = .ok (.istore_n 1, 1) := by decide +kernel
theorem dL_areMen_2 : decode cL_areMen 2 = .ok (.iconst 0, 1) := by decide +kernel
theorem dL_areMen_3 : decode cL_areMen 3 = .ok (.istore_n 2, 1) := by decide +kernel
theorem dL_areMen_4 : decode cL_areMen 4 = .ok (.iconst 0, 1) := by decide +kernel
theorem dL_areMen_5 : decode cL_areMen 5 = .ok (.istore_n 3, 1) := by decide +kernel
theorem dL_areMen_6 : decode cL_areMen 6 = .ok (.iconst 0, 1) := by decide +kernel
theorem dL_areMen_7 : decode cL_areMen 7 = .ok (.istore 4, 2) := by decide +kernel
theorem dL_areMen_9 : decode cL_areMen 9 = .ok (.iload 4, 2) := by decide +kernel
theorem dL_areMen_11 : decode cL_areMen 11 = .ok (.bipush 25, 2) := by decide +kernel
theorem dL_areMen_13 : decode cL_areMen 13 = .ok (.if_icmp .ge 108, 3) := by decide +kernel
theorem dL_areMen_16 : decode cL_areMen 16 = .ok (.aload_n 0, 1) := by decide +kernel
theorem dL_areMen_17 : decode cL_areMen 17 = .ok (.iload 4, 2) := by decide +kernel
theorem dL_areMen_19 : decode cL_areMen 19 = .ok (.invokevirtual 14, 3) := by decide +kernel
theorem dL_areMen_22 : decode cL_areMen 22 = .ok (.istore 5, 2) := by decide +kernel
theorem dL_areMen_24 : decode cL_areMen 24 = .ok (.iload 5, 2) := by decide +kernel
theorem dL_areMen_26 : decode cL_areMen 26 = .ok (.sipush (-1005), 3) := by decide +kernel
theorem dL_areMen_29 : decode cL_areMen 29 = .ok (.if_icmp .ne 17, 3) := by decide +kernel
theorem dL_areMen_32 : decode cL_areMen 32 = .ok (.aload_n 0, 1) := by decide +kernel
theorem dL_areMen_33 : decode cL_areMen 33 = .ok (.iload 4, 2) := by decide +kernel
theorem dL_areMen_35 : decode cL_areMen 35 = .ok (.invokevirtual 27, 3) := by decide +kernel
theorem dL_areMen_38 : decode cL_areMen 38 = .ok (.sipush (-1005), 3) := by decide +kernel
theorem dL_areMen_41 : decode cL_areMen 41 = .ok (.if_icmp .eq 74, 3) := by decide +kernel
theorem dL_areMen_44 : decode cL_areMen 44 = .ok (.iconst 0, 1) := by decide +kernel
theorem dL_areMen_45 : decode cL_areMen 45 = .ok (.ireturn, 1) := by decide +kernel
theorem dL_areMen_46 : decode cL_areMen 46 = .ok (.iload 5, 2) := by decide +kernel
theorem dL_areMen_48 : decode cL_areMen 48 = .ok (.ifCond .lt 10, 3) := by decide +kernel
theorem dL_areMen_51 : decode cL_areMen 51 = .ok (.iload 5, 2) := by decide +kernel
theorem dL_areMen_53 : decode cL_areMen 53 = .ok (.bipush 19, 2) := by decide +kernel
theorem dL_areMen_55 : decode cL_areMen 55 = .ok (.if_icmp .le 5, 3) := by decide +kernel
theorem dL_areMen_58 : decode cL_areMen 58 = .ok (.iconst 0, 1) := by decide +kernel
theorem dL_areMen_59 : decode cL_areMen 59 = .ok (.ireturn, 1) := by decide +kernel
theorem dL_areMen_60 : decode cL_areMen 60 = .ok (.iinc 1 1, 3) := by decide +kernel
theorem dL_areMen_63 : decode cL_areMen 63 = .ok (.iload_n 2, 1) := by decide +kernel
theorem dL_areMen_64 : decode cL_areMen 64 = .ok (.iload 5, 2) := by decide +kernel
theorem dL_areMen_66 : decode cL_areMen 66 = .ok (.bipush 10, 2) := by decide +kernel
theorem dL_areMen_68 : decode cL_areMen 68 = .ok (.if_icmp .ge 11, 3) := by decide +kernel
theorem dL_areMen_71 : decode cL_areMen 71 = .ok (.iload 5, 2) := by decide +kernel
theorem dL_areMen_73 : decode cL_areMen 73 = .ok (.invokestatic 30, 3) := by decide +kernel
theorem dL_areMen_76 : decode cL_areMen 76 = .ok (.goto 12, 3) := by decide +kernel
theorem dL_areMen_79 : decode cL_areMen 79 = .ok (.iload 5, 2) := by decide +kernel
theorem dL_areMen_81 : decode cL_areMen 81 = .ok (.bipush 10, 2) := by decide +kernel
theorem dL_areMen_83 : decode cL_areMen 83 = .ok (.isub, 1) := by decide +kernel
theorem dL_areMen_84 : decode cL_areMen 84 = .ok (.invokestatic 30, 3) := by decide +kernel
theorem dL_areMen_87 : decode cL_areMen 87 = .ok (.ineg, 1) := by decide +kernel
theorem dL_areMen_88 : decode cL_areMen 88 = .ok (.iadd, 1) := by decide +kernel
theorem dL_areMen_89 : decode cL_areMen 89 = .ok (.istore_n 2, 1) := by decide +kernel
theorem dL_areMen_90 : decode cL_areMen 90 = .ok (.iload_n 3, 1) := by decide +kernel
theorem dL_areMen_91 : decode cL_areMen 91 = .ok (.iload 5, 2) := by decide +kernel
theorem dL_areMen_93 : decode cL_areMen 93 = .ok (.bipush 10, 2) := by decide +kernel
theorem dL_areMen_95 : decode cL_areMen 95 = .ok (.irem, 1) := by decide +kernel
theorem dL_areMen_96 : decode cL_areMen 96 = .ok (.ifCond .ne 16, 3) := by decide +kernel
theorem dL_areMen_99 : decode cL_areMen 99 = .ok (.iconst 1, 1) := by decide +kernel
theorem dL_areMen_100 : decode cL_areMen 100 = .ok (.bipush 9, 2) := by decide +kernel
theorem dL_areMen_102 : decode cL_areMen 102 = .ok (.iload 5, 2) := by decide +kernel
theorem dL_areMen_104 : decode cL_areMen 104 = .ok (.bipush 10, 2) := by decide +kernel
theorem dL_areMen_106 : decode cL_areMen 106 = .ok (.idiv, 1) := by decide +kernel
theorem dL_areMen_107 : decode cL_areMen 107 = .ok (.imul, 1) := by decide +kernel
theorem dL_areMen_108 : decode cL_areMen 108 = .ok (.iadd, 1) := by decide +kernel
theorem dL_areMen_109 : decode cL_areMen 109 = .ok (.goto 4, 3) := by decide +kernel
theorem dL_areMen_112 : decode cL_areMen 112 = .ok (.iconst 0, 1) := by decide +kernel
theorem dL_areMen_113 : decode cL_areMen 113 = .ok (.iadd, 1) := by decide +kernel
theorem dL_areMen_114 : decode cL_areMen 114 = .ok (.istore_n 3, 1) := by decide +kernel
theorem dL_areMen_115 : decode cL_areMen 115 = .ok (.iinc 4 1, 3) := by decide +kernel
theorem dL_areMen_118 : decode cL_areMen 118 = .ok (.goto (-109), 3) := by decide +kernel
theorem dL_areMen_121 : decode cL_areMen 121 = .ok (.iconst 0, 1) := by decide +kernel
theorem dL_areMen_122 : decode cL_areMen 122 = .ok (.istore 4, 2) := by decide +kernel
theorem dL_areMen_124 : decode cL_areMen 124 = .ok (.iconst 0, 1) := by decide +kernel
theorem dL_areMen_125 : decode cL_areMen 125 = .ok (.istore 5, 2) := by decide +kernel
theorem dL_areMen_127 : decode cL_areMen 127 = .ok (.iload 5, 2) := by decide +kernel
theorem dL_areMen_129 : decode cL_areMen 129 = .ok (.bipush 10, 2) := by decide +kernel
theorem dL_areMen_131 : decode cL_areMen 131 = .ok (.if_icmp .ge 78, 3) := by decide +kernel
theorem dL_areMen_134 : decode cL_areMen 134 = .ok (.aload_n 0, 1) := by decide +kernel
theorem dL_areMen_135 : decode cL_areMen 135 = .ok (.iload 5, 2) := by decide +kernel
theorem dL_areMen_137 : decode cL_areMen 137 = .ok (.iconst 5, 1) := by decide +kernel
theorem dL_areMen_138 : decode cL_areMen 138 = .ok (.idiv, 1) := by decide +kernel
theorem dL_areMen_139 : decode cL_areMen 139 = .ok (.iconst 1, 1) := by decide +kernel
theorem dL_areMen_140 : decode cL_areMen 140 = .ok (.iload 5, 2) := by decide +kernel
theorem dL_areMen_142 : decode cL_areMen 142 = .ok (.iconst 5, 1) := by decide +kernel
theorem dL_areMen_143 : decode cL_areMen 143 = .ok (.irem, 1) := by decide +kernel
theorem dL_areMen_144 : decode cL_areMen 144 = .ok (.iadd, 1) := by decide +kernel
theorem dL_areMen_145 : decode cL_areMen 145 = .ok (.invokevirtual 33, 3) := by decide +kernel
theorem dL_areMen_148 : decode cL_areMen 148 = .ok (.istore 6, 2) := by decide +kernel
theorem dL_areMen_150 : decode cL_areMen 150 = .ok (.iload 4, 2) := by decide +kernel
theorem dL_areMen_152 : decode cL_areMen 152 = .ok (.iload 5, 2) := by decide +kernel
theorem dL_areMen_154 : decode cL_areMen 154 = .ok (.iconst 5, 1) := by decide +kernel
theorem dL_areMen_155 : decode cL_areMen 155 = .ok (.if_icmp .ge 8, 3) := by decide +kernel
theorem dL_areMen_158 : decode cL_areMen 158 = .ok (.iload 6, 2) := by decide +kernel
theorem dL_areMen_160 : decode cL_areMen 160 = .ok (.goto 4, 3) := by decide +kernel
theorem dL_areMen_163 : decode cL_areMen 163 = .ok (.iconst 0, 1) := by decide +kernel
theorem dL_areMen_164 : decode cL_areMen 164 = .ok (.iadd, 1) := by decide +kernel
theorem dL_areMen_165 : decode cL_areMen 165 = .ok (.istore 4, 2) := by decide +kernel
theorem dL_areMen_167 : decode cL_areMen 167 = .ok (.iload_n 2, 1) := by decide +kernel
theorem dL_areMen_168 : decode cL_areMen 168 = .ok (.iload 5, 2) := by decide +kernel
theorem dL_areMen_170 : decode cL_areMen 170 = .ok (.iconst 5, 1) := by decide +kernel
theorem dL_areMen_171 : decode cL_areMen 171 = .ok (.if_icmp .ge 8, 3) := by decide +kernel
theorem dL_areMen_174 : decode cL_areMen 174 = .ok (.iload 6, 2) := by decide +kernel
theorem dL_areMen_176 : decode cL_areMen 176 = .ok (.goto 6, 3) := by decide +kernel
theorem dL_areMen_179 : decode cL_areMen 179 = .ok (.iload 6, 2) := by decide +kernel
theorem dL_areMen_181 : decode cL_areMen 181 = .ok (.ineg, 1) := by decide +kernel
theorem dL_areMen_182 : decode cL_areMen 182 = .ok (.iconst 1, 1) := by decide +kernel
theorem dL_areMen_183 : decode cL_areMen 183 = .ok (.iload 5, 2) := by decide +kernel
theorem dL_areMen_185 : decode cL_areMen 185 = .ok (.iconst 5, 1) := by decide +kernel
theorem dL_areMen_186 : decode cL_areMen 186 = .ok (.irem, 1) := by decide +kernel
theorem dL_areMen_187 : decode cL_areMen 187 = .ok (.iadd, 1) := by decide +kernel
theorem dL_areMen_188 : decode cL_areMen 188 = .ok (.invokestatic 30, 3) := by decide +kernel
theorem dL_areMen_191 : decode cL_areMen 191 = .ok (.iconst 1, 1) := by decide +kernel
theorem dL_areMen_192 : decode cL_areMen 192 = .ok (.iadd, 1) := by decide +kernel
theorem dL_areMen_193 : decode cL_areMen 193 = .ok (.imul, 1) := by decide +kernel
theorem dL_areMen_194 : decode cL_areMen 194 = .ok (.iadd, 1) := by decide +kernel
theorem dL_areMen_195 : decode cL_areMen 195 = .ok (.istore_n 2, 1) := by decide +kernel
theorem dL_areMen_196 : decode cL_areMen 196 = .ok (.iload 6, 2) := by decide +kernel
theorem dL_areMen_198 : decode cL_areMen 198 = .ok (.ifCond .ge 5, 3) := by decide +kernel
theorem dL_areMen_201 : decode cL_areMen 201 = .ok (.iconst 0, 1) := by decide +kernel
theorem dL_areMen_202 : decode cL_areMen 202 = .ok (.ireturn, 1) := by decide +kernel
theorem dL_areMen_203 : decode cL_areMen 203 = .ok (.iinc 5 1, 3) := by decide +kernel
theorem dL_areMen_206 : decode cL_areMen 206 = .ok (.goto (-79), 3) := by decide +kernel
theorem dL_areMen_209 : decode cL_areMen 209 = .ok (.aload_n 0, 1) := by decide +kernel
theorem dL_areMen_210 : decode cL_areMen 210 = .ok (.iconst 0, 1) := by decide +kernel
theorem dL_areMen_211 : decode cL_areMen 211 = .ok (.invokevirtual 8, 3) := by decide +kernel
theorem dL_areMen_214 : decode cL_areMen 214 = .ok (.istore 5, 2) := by decide +kernel
theorem dL_areMen_216 : decode cL_areMen 216 = .ok (.aload_n 0, 1) := by decide +kernel
theorem dL_areMen_217 : decode cL_areMen 217 = .ok (.iconst 1, 1) := by decide +kernel
theorem dL_areMen_218 : decode cL_areMen 218 = .ok (.invokevirtual 8, 3) := by decide +kernel
theorem dL_areMen_221 : decode cL_areMen 221 = .ok (.iload_n 1, 1) := by decide +kernel
theorem dL_areMen_222 : decode cL_areMen 222 = .ok (.if_icmp .ne 52, 3) := by decide +kernel
theorem dL_areMen_225 : decode cL_areMen 225 = .ok (.aload_n 0, 1) := by decide +kernel
theorem dL_areMen_226 : decode cL_areMen 226 = .ok (.iconst 2, 1) := by decide +kernel
theorem dL_areMen_227 : decode cL_areMen 227 = .ok (.invokevirtual 8, 3) := by decide +kernel
theorem dL_areMen_230 : decode cL_areMen 230 = .ok (.iload 4, 2) := by decide +kernel
theorem dL_areMen_232 : decode cL_areMen 232 = .ok (.if_icmp .ne 42, 3) := by decide +kernel
theorem dL_areMen_235 : decode cL_areMen 235 = .ok (.aload_n 0, 1) := by decide +kernel
theorem dL_areMen_236 : decode cL_areMen 236 = .ok (.iconst 0, 1) := by decide +kernel
theorem dL_areMen_237 : decode cL_areMen 237 = .ok (.invokevirtual 36, 3) := by decide +kernel
theorem dL_areMen_240 : decode cL_areMen 240 = .ok (.iload_n 2, 1) := by decide +kernel
theorem dL_areMen_241 : decode cL_areMen 241 = .ok (.if_icmp .ne 33, 3) := by decide +kernel
theorem dL_areMen_244 : decode cL_areMen 244 = .ok (.aload_n 0, 1) := by decide +kernel
theorem dL_areMen_245 : decode cL_areMen 245 = .ok (.iconst 1, 1) := by decide +kernel
theorem dL_areMen_246 : decode cL_areMen 246 = .ok (.invokevirtual 36, 3) := by decide +kernel
theorem dL_areMen_249 : decode cL_areMen 249 = .ok (.iload_n 2, 1) := by decide +kernel
theorem dL_areMen_250 : decode cL_areMen 250 = .ok (.ineg, 1) := by decide +kernel
theorem dL_areMen_251 : decode cL_areMen 251 = .ok (.if_icmp .ne 23, 3) := by decide +kernel
theorem dL_areMen_254 : decode cL_areMen 254 = .ok (.iload_n 3, 1) := by decide +kernel
theorem dL_areMen_255 : decode cL_areMen 255 = .ok (.bipush 10, 2) := by decide +kernel
theorem dL_areMen_257 : decode cL_areMen 257 = .ok (.irem, 1) := by decide +kernel
theorem dL_areMen_258 : decode cL_areMen 258 = .ok (.iconst 2, 1) := by decide +kernel
theorem dL_areMen_259 : decode cL_areMen 259 = .ok (.if_icmp .ge 15, 3) := by decide +kernel
theorem dL_areMen_262 : decode cL_areMen 262 = .ok (.iload_n 3, 1) := by decide +kernel
theorem dL_areMen_263 : decode cL_areMen 263 = .ok (.bipush 10, 2) := by decide +kernel
theorem dL_areMen_265 : decode cL_areMen 265 = .ok (.idiv, 1) := by decide +kernel
theorem dL_areMen_266 : decode cL_areMen 266 = .ok (.iconst 2, 1) := by decide +kernel
theorem dL_areMen_267 : decode cL_areMen 267 = .ok (.if_icmp .ge 7, 3) := by decide +kernel
theorem dL_areMen_270 : decode cL_areMen 270 = .ok (.iconst 1, 1) := by decide +kernel
theorem dL_areMen_271 : decode cL_areMen 271 = .ok (.goto 4, 3) := by decide +kernel
theorem dL_areMen_274 : decode cL_areMen 274 = .ok (.iconst 0, 1) := by decide +kernel
theorem dL_areMen_275 : decode cL_areMen 275 = .ok (.istore 6, 2) := by decide +kernel
theorem dL_areMen_277 : decode cL_areMen 277 = .ok (.iload 6, 2) := by decide +kernel
theorem dL_areMen_279 : decode cL_areMen 279 = .ok (.ifCond .eq 29, 3) := by decide +kernel
theorem dL_areMen_282 : decode cL_areMen 282 = .ok (.aload_n 0, 1) := by decide +kernel
theorem dL_areMen_283 : decode cL_areMen 283 = .ok (.iconst 4, 1) := by decide +kernel
theorem dL_areMen_284 : decode cL_areMen 284 = .ok (.invokevirtual 8, 3) := by decide +kernel
theorem dL_areMen_287 : decode cL_areMen 287 = .ok (.aload_n 0, 1) := by decide +kernel
theorem dL_areMen_288 : decode cL_areMen 288 = .ok (.iload 5, 2) := by decide +kernel
theorem dL_areMen_290 : decode cL_areMen 290 = .ok (.invokestatic 37, 3) := by decide +kernel
theorem dL_areMen_293 : decode cL_areMen 293 = .ok (.ifCond .eq 7, 3) := by decide +kernel
theorem dL_areMen_296 : decode cL_areMen 296 = .ok (.iconst 1, 1) := by decide +kernel
theorem dL_areMen_297 : decode cL_areMen 297 = .ok (.goto 4, 3) := by decide +kernel
theorem dL_areMen_300 : decode cL_areMen 300 = .ok (.iconst 0, 1) := by decide +kernel
theorem dL_areMen_301 : decode cL_areMen 301 = .ok (.if_icmp .ne 7, 3) := by decide +kernel
theorem dL_areMen_304 : decode cL_areMen 304 = .ok (.iconst 1, 1) := by decide +kernel
theorem dL_areMen_305 : decode cL_areMen 305 = .ok (.goto 4, 3) := by decide +kernel
theorem dL_areMen_308 : decode cL_areMen 308 = .ok (.iconst 0, 1) := by decide +kernel
theorem dL_areMen_309 : decode cL_areMen 309 = .ok (.ireturn, 1) := by decide +kernel
