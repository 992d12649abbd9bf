theorem dX0_init_0 : decode cX0_init 0 = .ok (.aload_n 0, 1) := by decide +kernel
theorem dX0_init_1 : decode cX0_init 1 = .ok (.invokespecial 1, 3) := by decide +kernel
theorem dX0_init_4 : decode cX0_init 4 = .ok (.aload_n 0, 1) := by decide +kernel
theorem dX0_init_5 : decode cX0_init 5 = .ok (.sipush 176, 3) := by decide +kernel
theorem dX0_init_8 : decode cX0_init 8 = .ok (.newarray .int, 2) := by decide +kernel
theorem dX0_init_10 : decode cX0_init 10 = .ok (.putfield 11, 3) := by decide +kernel
theorem dX0_init_13 : decode cX0_init 13 = .ok (.aload_n 0, 1) := by decide +kernel
theorem dX0_init_14 : decode cX0_init 14 = .ok (.iconst 0, 1) := by decide +kernel
theorem dX0_init_15 : decode cX0_init 15 = .ok (.putfield 15, 3) := by decide +kernel
theorem dX0_init_18 : decode cX0_init 18 = .ok (.return_, 1) := by decide +kernel
theorem dX0_size_0 : decode cX0_size 0 = .ok (.aload_n 0, 1) := by decide +kernel
theorem dX0_size_1 : decode cX0_size 1 = .ok (.getfield 15, 3) := by decide +kernel
theorem dX0_size_4 : decode cX0_size 4 = .ok (.ireturn, 1) := by decide +kernel
theorem dX0_push_0 : decode cX0_push 0 = .ok (.aload_n 1, 1) := by decide +kernel
theorem dX0_push_1 : decode cX0_push 1 = .ok (.ifnull 10, 3) := by decide +kernel
theorem dX0_push_4 : decode cX0_push 4 = .ok (.aload_n 1, 1) := by decide +kernel
theorem dX0_push_5 : decode cX0_push 5 = .ok (.arraylength, 1) := by decide +kernel
theorem dX0_push_6 : decode cX0_push 6 = .ok (.bipush 44, 2) := by decide +kernel
theorem dX0_push_8 : decode cX0_push 8 = .ok (.if_icmp .ge 4, 3) := by decide +kernel
theorem dX0_push_11 : decode cX0_push 11 = .ok (.return_, 1) := by decide +kernel
theorem dX0_push_12 : decode cX0_push 12 = .ok (.aload_n 0, 1) := by decide +kernel
theorem dX0_push_13 : decode cX0_push 13 = .ok (.getfield 15, 3) := by decide +kernel
theorem dX0_push_16 : decode cX0_push 16 = .ok (.iconst 4, 1) := by decide +kernel
theorem dX0_push_17 : decode cX0_push 17 = .ok (.if_icmp .lt 25, 3) := by decide +kernel
theorem dX0_push_20 : decode cX0_push 20 = .ok (.aload_n 0, 1) := by decide +kernel
theorem dX0_push_21 : decode cX0_push 21 = .ok (.getfield 11, 3) := by decide +kernel
theorem dX0_push_24 : decode cX0_push 24 = .ok (.bipush 44, 2) := by decide +kernel
theorem dX0_push_26 : decode cX0_push 26 = .ok (.aload_n 0, 1) := by decide +kernel
theorem dX0_push_27 : decode cX0_push 27 = .ok (.getfield 11, 3) := by decide +kernel
theorem dX0_push_30 : decode cX0_push 30 = .ok (.iconst 0, 1) := by decide +kernel
theorem dX0_push_31 : decode cX0_push 31 = .ok (.sipush 132, 3) := by decide +kernel
theorem dX0_push_34 : decode cX0_push 34 = .ok (.invokestatic 19, 3) := by decide +kernel
theorem dX0_push_37 : decode cX0_push 37 = .ok (.aload_n 0, 1) := by decide +kernel
theorem dX0_push_38 : decode cX0_push 38 = .ok (.iconst 3, 1) := by decide +kernel
theorem dX0_push_39 : decode cX0_push 39 = .ok (.putfield 15, 3) := by decide +kernel
theorem dX0_push_42 : decode cX0_push 42 = .ok (.aload_n 1, 1) := by decide +kernel
theorem dX0_push_43 : decode cX0_push 43 = .ok (.iconst 0, 1) := by decide +kernel
theorem dX0_push_44 : decode cX0_push 44 = .ok (.aload_n 0, 1) := by decide +kernel
theorem dX0_push_45 : decode cX0_push 45 = .ok (.getfield 11, 3) := by decide +kernel
theorem dX0_push_48 : decode cX0_push 48 = .ok (.aload_n 0, 1) := by decide +kernel
theorem dX0_push_49 : decode cX0_push 49 = .ok (.getfield 15, 3) := by decide +kernel
theorem dX0_push_52 : decode cX0_push 52 = .ok (.bipush 44, 2) := by decide +kernel
theorem dX0_push_54 : decode cX0_push 54 = .ok (.imul, 1) := by decide +kernel
theorem dX0_push_55 : decode cX0_push 55 = .ok (.bipush 44, 2) := by decide +kernel
theorem dX0_push_57 : decode cX0_push 57 = .ok (.invokestatic 19, 3) := by decide +kernel
theorem dX0_push_60 : decode cX0_push 60 = .ok (.aload_n 0, 1) := by decide +kernel
theorem dX0_push_61 : decode cX0_push 61 = .ok (.dup, 1) := by decide +kernel
theorem dX0_push_62 : decode cX0_push 62 = .ok (.getfield 15, 3) := by decide +kernel
theorem dX0_push_65 : decode cX0_push 65 = .ok (.iconst 1, 1) := by decide +kernel
theorem dX0_push_66 : decode cX0_push 66 = .ok (.iadd, 1) := by decide +kernel
theorem dX0_push_67 : decode cX0_push 67 = .ok (.putfield 15, 3) := by decide +kernel
theorem dX0_push_70 : decode cX0_push 70 = .ok (.return_, 1) := by decide +kernel
set_option maxRecDepth 20000 in
theorem ggX0_popInto_X2_copyFrom : GoodIn wsX0_popInto wsX2_copyFrom := goodIn_r _ [7, 8, 9, 10, 11, 12, 15, 16] (by decide +kernel) (by decide +kernel)
set_option maxRecDepth 20000 in
theorem gX0_popInto_X2_copyFrom : GoodIn wsX0_popInto (wsV RX0 25 RX2 yX2_copyFrom wsX2_copyFrom) := goodIn_app (goodIn_of _ (by decide +kernel)) ggX0_popInto_X2_copyFrom
theorem dX0_popInto_0 : decode cX0_popInto 0 = .ok (.aload_n 1, 1) := by decide +kernel
theorem dX0_popInto_1 : decode cX0_popInto 1 = .ok (.ifnull 10, 3) := by decide +kernel
theorem dX0_popInto_4 : decode cX0_popInto 4 = .ok (.aload_n 0, 1) := by decide +kernel
theorem dX0_popInto_5 : decode cX0_popInto 5 = .ok (.getfield 15, 3) := by decide +kernel
theorem dX0_popInto_8 : decode cX0_popInto 8 = .ok (.ifCond .gt 4, 3) := by decide +kernel
theorem dX0_popInto_11 : decode cX0_popInto 11 = .ok (.return_, 1) := by decide +kernel
theorem dX0_popInto_12 : decode cX0_popInto 12 = .ok (.aload_n 0, 1) := by decide +kernel
theorem dX0_popInto_13 : decode cX0_popInto 13 = .ok (.dup, 1) := by decide +kernel
theorem dX0_popInto_14 : decode cX0_popInto 14 = .ok (.getfield 15, 3) := by decide +kernel
theorem dX0_popInto_17 : decode cX0_popInto 17 = .ok (.iconst 1, 1) := by decide +kernel
theorem dX0_popInto_18 : decode cX0_popInto 18 = .ok (.isub, 1) := by decide +kernel
theorem dX0_popInto_19 : decode cX0_popInto 19 = .ok (.putfield 15, 3) := by decide +kernel
theorem dX0_popInto_22 : decode cX0_popInto 22 = .ok (.aload_n 1, 1) := by decide +kernel
theorem dX0_popInto_23 : decode cX0_popInto 23 = .ok (.aload_n 0, 1) := by decide +kernel
theorem dX0_popInto_24 : decode cX0_popInto 24 = .ok (.getfield 11, 3) := by decide +kernel
theorem dX0_popInto_27 : decode cX0_popInto 27 = .ok (.aload_n 0, 1) := by decide +kernel
theorem dX0_popInto_28 : decode cX0_popInto 28 = .ok (.getfield 15, 3) := by decide +kernel
theorem dX0_popInto_31 : decode cX0_popInto 31 = .ok (.bipush 44, 2) := by decide +kernel
theorem dX0_popInto_33 : decode cX0_popInto 33 = .ok (.imul, 1) := by decide +kernel
theorem dX0_popInto_34 : decode cX0_popInto 34 = .ok (.invokevirtual 25, 3) := by decide +kernel
theorem dX0_popInto_37 : decode cX0_popInto 37 = .ok (.return_, 1) := by decide +kernel
theorem dX1_init_0 : decode cX1_init 0 = .ok (.aload_n 0, 1) := by decide +kernel
theorem dX1_init_1 : decode cX1_init 1 = .ok (.invokespecial 3, 3) := by decide +kernel
theorem dX1_init_4 : decode cX1_init 4 = .ok (.aload_n 0, 1) := by decide +kernel
theorem dX1_init_5 : decode cX1_init 5 = .ok (.bipush 60, 2) := by decide +kernel
theorem dX1_init_7 : decode cX1_init 7 = .ok (.newarray .char, 2) := by decide +kernel
theorem dX1_init_9 : decode cX1_init 9 = .ok (.putfield 11, 3) := by decide +kernel
theorem dX1_init_12 : decode cX1_init 12 = .ok (.aload_n 0, 1) := by decide +kernel
theorem dX1_init_13 : decode cX1_init 13 = .ok (.iconst 0, 1) := by decide +kernel
theorem dX1_init_14 : decode cX1_init 14 = .ok (.putfield 15, 3) := by decide +kernel
theorem dX1_init_17 : decode cX1_init 17 = .ok (.aload_n 0, 1) := by decide +kernel
theorem dX1_init_18 : decode cX1_init 18 = .ok (.bipush 60, 2) := by decide +kernel
theorem dX1_init_20 : decode cX1_init 20 = .ok (.newarray .int, 2) := by decide +kernel
theorem dX1_init_22 : decode cX1_init 22 = .ok (.putfield 19, 3) := by decide +kernel
theorem dX1_init_25 : decode cX1_init 25 = .ok (.aload_n 0, 1) := by decide +kernel
theorem dX1_init_26 : decode cX1_init 26 = .ok (.iconst 0, 1) := by decide +kernel
theorem dX1_init_27 : decode cX1_init 27 = .ok (.putfield 23, 3) := by decide +kernel
theorem dX1_init_30 : decode cX1_init 30 = .ok (.aload_n 0, 1) := by decide +kernel
theorem dX1_init_31 : decode cX1_init 31 = .ok (.iconst 0, 1) := by decide +kernel
theorem dX1_init_32 : decode cX1_init 32 = .ok (.putfield 26, 3) := by decide +kernel
theorem dX1_init_35 : decode cX1_init 35 = .ok (.return_, 1) := by decide +kernel
theorem dX1_size_0 : decode cX1_size 0 = .ok (.aload_n 0, 1) := by decide +kernel
theorem dX1_size_1 : decode cX1_size 1 = .ok (.getfield 15, 3) := by decide +kernel
theorem dX1_size_4 : decode cX1_size 4 = .ok (.ireturn, 1) := by decide +kernel
theorem dX1_isFull_0 : decode cX1_isFull 0 = .ok (.aload_n 0, 1) := by decide +kernel
theorem dX1_isFull_1 : decode cX1_isFull 1 = .ok (.getfield 15, 3) := by decide +kernel
theorem dX1_isFull_4 : decode cX1_isFull 4 = .ok (.bipush 60, 2) := by decide +kernel
theorem dX1_isFull_6 : decode cX1_isFull 6 = .ok (.if_icmp .lt 7, 3) := by decide +kernel
theorem dX1_isFull_9 : decode cX1_isFull 9 = .ok (.iconst 1, 1) := by decide +kernel
theorem dX1_isFull_10 : decode cX1_isFull 10 = .ok (.goto 4, 3) := by decide +kernel
theorem dX1_isFull_13 : decode cX1_isFull 13 = .ok (.iconst 0, 1) := by decide +kernel
theorem dX1_isFull_14 : decode cX1_isFull 14 = .ok (.ireturn, 1) := by decide +kernel
theorem dX1_append_0 : decode cX1_append 0 = .ok (.aload_n 0, 1) := by decide +kernel
theorem dX1_append_1 : decode cX1_append 1 = .ok (.getfield 15, 3) := by decide +kernel
theorem dX1_append_4 : decode cX1_append 4 = .ok (.ifCond .lt 35, 3) := by decide +kernel
theorem dX1_append_7 : decode cX1_append 7 = .ok (.aload_n 0, 1) := by decide +kernel
theorem dX1_append_8 : decode cX1_append 8 = .ok (.getfield 15, 3) := by decide +kernel
theorem dX1_append_11 : decode cX1_append 11 = .ok (.aload_n 0, 1) := by decide +kernel
theorem dX1_append_12 : decode cX1_append 12 = .ok (.getfield 11, 3) := by decide +kernel
theorem dX1_append_15 : decode cX1_append 15 = .ok (.arraylength, 1) := by decide +kernel
theorem dX1_append_16 : decode cX1_append 16 = .ok (.if_icmp .ge 23, 3) := by decide +kernel
theorem dX1_append_19 : decode cX1_append 19 = .ok (.aload_n 0, 1) := by decide +kernel
theorem dX1_append_20 : decode cX1_append 20 = .ok (.getfield 11, 3) := by decide +kernel
theorem dX1_append_23 : decode cX1_append 23 = .ok (.aload_n 0, 1) := by decide +kernel
theorem dX1_append_24 : decode cX1_append 24 = .ok (.getfield 15, 3) := by decide +kernel
theorem dX1_append_27 : decode cX1_append 27 = .ok (.iload_n 1, 1) := by decide +kernel
theorem dX1_append_28 : decode cX1_append 28 = .ok (.castore, 1) := by decide +kernel
theorem dX1_append_29 : decode cX1_append 29 = .ok (.aload_n 0, 1) := by decide +kernel
theorem dX1_append_30 : decode cX1_append 30 = .ok (.dup, 1) := by decide +kernel
theorem dX1_append_31 : decode cX1_append 31 = .ok (.getfield 15, 3) := by decide +kernel
theorem dX1_append_34 : decode cX1_append 34 = .ok (.iconst 1, 1) := by decide +kernel
theorem dX1_append_35 : decode cX1_append 35 = .ok (.iadd, 1) := by decide +kernel
theorem dX1_append_36 : decode cX1_append 36 = .ok (.putfield 15, 3) := by decide +kernel
theorem dX1_append_39 : decode cX1_append 39 = .ok (.return_, 1) := by decide +kernel
theorem dX1_empty_0 : decode cX1_empty 0 = .ok (.aload_n 0, 1) := by decide +kernel
theorem dX1_empty_1 : decode cX1_empty 1 = .ok (.iconst 0, 1) := by decide +kernel
theorem dX1_empty_2 : decode cX1_empty 2 = .ok (.putfield 15, 3) := by decide +kernel
theorem dX1_empty_5 : decode cX1_empty 5 = .ok (.return_, 1) := by decide +kernel
theorem dX1_playsRead_0 : decode cX1_playsRead 0 = .ok (.aload_n 0, 1) := by decide +kernel
theorem dX1_playsRead_1 : decode cX1_playsRead 1 = .ok (.getfield 23, 3) := by decide +kernel
theorem dX1_playsRead_4 : decode cX1_playsRead 4 = .ok (.ireturn, 1) := by decide +kernel
theorem dX1_playRead_0 : decode cX1_playRead 0 = .ok (.iload_n 1, 1) := by decide +kernel
theorem dX1_playRead_1 : decode cX1_playRead 1 = .ok (.ifCond .lt 29, 3) := by decide +kernel
theorem dX1_playRead_4 : decode cX1_playRead 4 = .ok (.iload_n 1, 1) := by decide +kernel
theorem dX1_playRead_5 : decode cX1_playRead 5 = .ok (.aload_n 0, 1) := by decide +kernel
theorem dX1_playRead_6 : decode cX1_playRead 6 = .ok (.getfield 23, 3) := by decide +kernel
theorem dX1_playRead_9 : decode cX1_playRead 9 = .ok (.if_icmp .ge 21, 3) := by decide +kernel
theorem dX1_playRead_12 : decode cX1_playRead 12 = .ok (.iload_n 1, 1) := by decide +kernel
theorem dX1_playRead_13 : decode cX1_playRead 13 = .ok (.aload_n 0, 1) := by decide +kernel
theorem dX1_playRead_14 : decode cX1_playRead 14 = .ok (.getfield 19, 3) := by decide +kernel
theorem dX1_playRead_17 : decode cX1_playRead 17 = .ok (.arraylength, 1) := by decide +kernel
theorem dX1_playRead_18 : decode cX1_playRead 18 = .ok (.if_icmp .ge 12, 3) := by decide +kernel
theorem dX1_playRead_21 : decode cX1_playRead 21 = .ok (.aload_n 0, 1) := by decide +kernel
theorem dX1_playRead_22 : decode cX1_playRead 22 = .ok (.getfield 19, 3) := by decide +kernel
theorem dX1_playRead_25 : decode cX1_playRead 25 = .ok (.iload_n 1, 1) := by decide +kernel
theorem dX1_playRead_26 : decode cX1_playRead 26 = .ok (.iaload, 1) := by decide +kernel
theorem dX1_playRead_27 : decode cX1_playRead 27 = .ok (.goto 4, 3) := by decide +kernel
theorem dX1_playRead_30 : decode cX1_playRead 30 = .ok (.iconst (-1), 1) := by decide +kernel
theorem dX1_playRead_31 : decode cX1_playRead 31 = .ok (.ireturn, 1) := by decide +kernel
set_option maxRecDepth 20000 in
theorem ggX1_readPlays_X1_readPlay : GoodIn wsX1_readPlays wsX1_readPlay := goodIn_r _ [9, 1, 10, 11, 12, 8, 13, 14, 15, 16, 17, 18, 19, 20, 21, 22, 23, 24, 25, 26, 27, 28, 29, 30, 31, 32, 33, 34, 35, 36, 37, 38, 39, 40, 41, 42, 43, 44, 45, 46, 47, 48, 49, 50, 51, 52, 53, 54, 55, 56, 57, 58, 59, 60, 61, 62, 63, 64, 65, 66, 4, 67, 68, 69, 70, 71, 72, 73, 74, 75, 76, 77, 78, 79, 80, 81, 82, 83, 84, 85, 86, 87, 88, 89] (by decide +kernel) (by decide +kernel)
set_option maxRecDepth 20000 in
theorem gX1_readPlays_X1_readPlay : GoodIn wsX1_readPlays (wsV RX1 29 RX1 yX1_readPlay wsX1_readPlay) := goodIn_app (goodIn_of _ (by decide +kernel)) ggX1_readPlays_X1_readPlay
set_option maxRecDepth 20000 in
theorem ggX1_readPlays_X1_passes : GoodIn wsX1_readPlays wsX1_passes := goodIn_r _ [71, 1, 63, 64, 65, 8, 66, 4, 67, 85, 86, 87, 88, 89] (by decide +kernel) (by decide +kernel)
set_option maxRecDepth 20000 in
theorem gX1_readPlays_X1_passes : GoodIn wsX1_readPlays (wsV RX1 33 RX1 yX1_passes wsX1_passes) := goodIn_app (goodIn_of _ (by decide +kernel)) ggX1_readPlays_X1_passes
theorem dX1_readPlays_0 : decode cX1_readPlays 0 = .ok (.aload_n 0, 1) := by decide +kernel
theorem dX1_readPlays_1 : decode cX1_readPlays 1 = .ok (.iconst 0, 1) := by decide +kernel
theorem dX1_readPlays_2 : decode cX1_readPlays 2 = .ok (.putfield 26, 3) := by decide +kernel
theorem dX1_readPlays_5 : decode cX1_readPlays 5 = .ok (.aload_n 0, 1) := by decide +kernel
theorem dX1_readPlays_6 : decode cX1_readPlays 6 = .ok (.iconst 0, 1) := by decide +kernel
theorem dX1_readPlays_7 : decode cX1_readPlays 7 = .ok (.putfield 23, 3) := by decide +kernel
theorem dX1_readPlays_10 : decode cX1_readPlays 10 = .ok (.iconst 0, 1) := by decide +kernel
theorem dX1_readPlays_11 : decode cX1_readPlays 11 = .ok (.istore_n 1, 1) := by decide +kernel
theorem dX1_readPlays_12 : decode cX1_readPlays 12 = .ok (.iload_n 1, 1) := by decide +kernel
theorem dX1_readPlays_13 : decode cX1_readPlays 13 = .ok (.aload_n 0, 1) := by decide +kernel
theorem dX1_readPlays_14 : decode cX1_readPlays 14 = .ok (.getfield 19, 3) := by decide +kernel
theorem dX1_readPlays_17 : decode cX1_readPlays 17 = .ok (.arraylength, 1) := by decide +kernel
theorem dX1_readPlays_18 : decode cX1_readPlays 18 = .ok (.if_icmp .ge 65, 3) := by decide +kernel
theorem dX1_readPlays_21 : decode cX1_readPlays 21 = .ok (.aload_n 0, 1) := by decide +kernel
theorem dX1_readPlays_22 : decode cX1_readPlays 22 = .ok (.invokevirtual 29, 3) := by decide +kernel
theorem dX1_readPlays_25 : decode cX1_readPlays 25 = .ok (.istore_n 2, 1) := by decide +kernel
theorem dX1_readPlays_26 : decode cX1_readPlays 26 = .ok (.iload_n 2, 1) := by decide +kernel
theorem dX1_readPlays_27 : decode cX1_readPlays 27 = .ok (.iconst (-1), 1) := by decide +kernel
theorem dX1_readPlays_28 : decode cX1_readPlays 28 = .ok (.if_icmp .ne 8, 3) := by decide +kernel
theorem dX1_readPlays_31 : decode cX1_readPlays 31 = .ok (.aload_n 0, 1) := by decide +kernel
theorem dX1_readPlays_32 : decode cX1_readPlays 32 = .ok (.getfield 26, 3) := by decide +kernel
theorem dX1_readPlays_35 : decode cX1_readPlays 35 = .ok (.ireturn, 1) := by decide +kernel
theorem dX1_readPlays_36 : decode cX1_readPlays 36 = .ok (.aload_n 0, 1) := by decide +kernel
theorem dX1_readPlays_37 : decode cX1_readPlays 37 = .ok (.getfield 19, 3) := by decide +kernel
theorem dX1_readPlays_40 : decode cX1_readPlays 40 = .ok (.iload_n 1, 1) := by decide +kernel
theorem dX1_readPlays_41 : decode cX1_readPlays 41 = .ok (.iload_n 2, 1) := by decide +kernel
theorem dX1_readPlays_42 : decode cX1_readPlays 42 = .ok (.iastore, 1) := by decide +kernel
theorem dX1_readPlays_43 : decode cX1_readPlays 43 = .ok (.aload_n 0, 1) := by decide +kernel
theorem dX1_readPlays_44 : decode cX1_readPlays 44 = .ok (.iload_n 1, 1) := by decide +kernel
theorem dX1_readPlays_45 : decode cX1_readPlays 45 = .ok (.iconst 1, 1) := by decide +kernel
theorem dX1_readPlays_46 : decode cX1_readPlays 46 = .ok (.iadd, 1) := by decide +kernel
theorem dX1_readPlays_47 : decode cX1_readPlays 47 = .ok (.putfield 23, 3) := by decide +kernel
theorem dX1_readPlays_50 : decode cX1_readPlays 50 = .ok (.aload_n 0, 1) := by decide +kernel
theorem dX1_readPlays_51 : decode cX1_readPlays 51 = .ok (.getfield 26, 3) := by decide +kernel
theorem dX1_readPlays_54 : decode cX1_readPlays 54 = .ok (.aload_n 0, 1) := by decide +kernel
theorem dX1_readPlays_55 : decode cX1_readPlays 55 = .ok (.getfield 15, 3) := by decide +kernel
theorem dX1_readPlays_58 : decode cX1_readPlays 58 = .ok (.if_icmp .lt 5, 3) := by decide +kernel
theorem dX1_readPlays_61 : decode cX1_readPlays 61 = .ok (.iconst (-1), 1) := by decide +kernel
theorem dX1_readPlays_62 : decode cX1_readPlays 62 = .ok (.ireturn, 1) := by decide +kernel
theorem dX1_readPlays_63 : decode cX1_readPlays 63 = .ok (.aload_n 0, 1) := by decide +kernel
theorem dX1_readPlays_64 : decode cX1_readPlays 64 = .ok (.bipush 59, 2) := by decide +kernel
theorem dX1_readPlays_66 : decode cX1_readPlays 66 = .ok (.invokevirtual 33, 3) := by decide +kernel
theorem dX1_readPlays_69 : decode cX1_readPlays 69 = .ok (.ifCond .ne 8, 3) := by decide +kernel
theorem dX1_readPlays_72 : decode cX1_readPlays 72 = .ok (.aload_n 0, 1) := by decide +kernel
theorem dX1_readPlays_73 : decode cX1_readPlays 73 = .ok (.getfield 26, 3) := by decide +kernel
theorem dX1_readPlays_76 : decode cX1_readPlays 76 = .ok (.ireturn, 1) := by decide +kernel
theorem dX1_readPlays_77 : decode cX1_readPlays 77 = .ok (.iinc 1 1, 3) := by decide +kernel
theorem dX1_readPlays_80 : decode cX1_readPlays 80 = .ok (.goto (-68), 3) := by decide +kernel
theorem dX1_readPlays_83 : decode cX1_readPlays 83 = .ok (.aload_n 0, 1) := by decide +kernel
theorem dX1_readPlays_84 : decode cX1_readPlays 84 = .ok (.getfield 26, 3) := by decide +kernel
theorem dX1_readPlays_87 : decode cX1_readPlays 87 = .ok (.ireturn, 1) := by decide +kernel
set_option maxRecDepth 20000 in
theorem ggX1_readPlay_X1_kindOfLetter : GoodIn wsX1_readPlay wsX1_kindOfLetter := goodIn_r _ [6, 7, 8, 9, 10, 11, 12, 13, 14, 15, 16, 17, 18, 19, 20, 21, 22, 23, 24, 25, 26, 27, 28, 29, 30, 31, 32, 33, 34, 35, 36, 37, 38, 39, 40, 41, 42, 43, 44, 45, 46, 47, 48, 49, 50, 51, 52, 53, 54, 55, 56, 57, 58, 5, 59, 1, 60, 61, 79, 80, 81, 82, 83] (by decide +kernel) (by decide +kernel)
set_option maxRecDepth 20000 in
theorem gX1_readPlay_X1_kindOfLetter : GoodIn wsX1_readPlay (wsV RX1 37 RX1 yX1_kindOfLetter wsX1_kindOfLetter) := goodIn_app (goodIn_of _ (by decide +kernel)) ggX1_readPlay_X1_kindOfLetter
set_option maxRecDepth 20000 in
theorem ggX1_readPlay_X1_passes : GoodIn wsX1_readPlay wsX1_passes := goodIn_r _ [65, 1, 56, 57, 58, 5, 59, 60, 61, 79, 80, 81, 82, 83] (by decide +kernel) (by decide +kernel)
set_option maxRecDepth 20000 in
theorem gX1_readPlay_X1_passes : GoodIn wsX1_readPlay (wsV RX1 33 RX1 yX1_passes wsX1_passes) := goodIn_app (goodIn_of _ (by decide +kernel)) ggX1_readPlay_X1_passes
set_option maxRecDepth 20000 in
theorem ggX1_readPlay_X1_readSquare : GoodIn wsX1_readPlay wsX1_readSquare := goodIn_r _ [69, 70, 71, 72, 5, 73, 62, 63, 64, 65, 1, 56, 57, 58, 59, 60, 61, 79, 80, 81, 82, 83] (by decide +kernel) (by decide +kernel)
set_option maxRecDepth 20000 in
theorem gX1_readPlay_X1_readSquare : GoodIn wsX1_readPlay (wsV RX1 40 RX1 yX1_readSquare wsX1_readSquare) := goodIn_app (goodIn_of _ (by decide +kernel)) ggX1_readPlay_X1_readSquare
set_option maxRecDepth 20000 in
theorem ggX1_readPlay_X4_dropNumber : GoodIn wsX1_readPlay wsX4_dropNumber := goodIn_r _ [76] (by decide +kernel) (by decide +kernel)
set_option maxRecDepth 20000 in
theorem gX1_readPlay_X4_dropNumber_n43 : GoodIn wsX1_readPlay (wsX4_dropNumber) := ggX1_readPlay_X4_dropNumber
set_option maxRecDepth 20000 in
theorem ggX1_readPlay_X4_moveNumber : GoodIn wsX1_readPlay wsX4_moveNumber := goodIn_r _ [78] (by decide +kernel) (by decide +kernel)
set_option maxRecDepth 20000 in
theorem gX1_readPlay_X4_moveNumber_n47 : GoodIn wsX1_readPlay (wsX4_moveNumber) := ggX1_readPlay_X4_moveNumber
theorem dX1_readPlay_0 : decode cX1_readPlay 0 = .ok (.aload_n 0, 1) := by decide +kernel
theorem dX1_readPlay_1 : decode cX1_readPlay 1 = .ok (.invokevirtual 37, 3) := by decide +kernel
theorem dX1_readPlay_4 : decode cX1_readPlay 4 = .ok (.istore_n 1, 1) := by decide +kernel
theorem dX1_readPlay_5 : decode cX1_readPlay 5 = .ok (.iload_n 1, 1) := by decide +kernel
theorem dX1_readPlay_6 : decode cX1_readPlay 6 = .ok (.iconst (-1), 1) := by decide +kernel
theorem dX1_readPlay_7 : decode cX1_readPlay 7 = .ok (.if_icmp .eq 46, 3) := by decide +kernel
theorem dX1_readPlay_10 : decode cX1_readPlay 10 = .ok (.aload_n 0, 1) := by decide +kernel
theorem dX1_readPlay_11 : decode cX1_readPlay 11 = .ok (.dup, 1) := by decide +kernel
theorem dX1_readPlay_12 : decode cX1_readPlay 12 = .ok (.getfield 26, 3) := by decide +kernel
theorem dX1_readPlay_15 : decode cX1_readPlay 15 = .ok (.iconst 1, 1) := by decide +kernel
theorem dX1_readPlay_16 : decode cX1_readPlay 16 = .ok (.iadd, 1) := by decide +kernel
theorem dX1_readPlay_17 : decode cX1_readPlay 17 = .ok (.putfield 26, 3) := by decide +kernel
theorem dX1_readPlay_20 : decode cX1_readPlay 20 = .ok (.aload_n 0, 1) := by decide +kernel
theorem dX1_readPlay_21 : decode cX1_readPlay 21 = .ok (.bipush 42, 2) := by decide +kernel
theorem dX1_readPlay_23 : decode cX1_readPlay 23 = .ok (.invokevirtual 33, 3) := by decide +kernel
theorem dX1_readPlay_26 : decode cX1_readPlay 26 = .ok (.ifCond .eq 10, 3) := by decide +kernel
theorem dX1_readPlay_29 : decode cX1_readPlay 29 = .ok (.aload_n 0, 1) := by decide +kernel
theorem dX1_readPlay_30 : decode cX1_readPlay 30 = .ok (.invokevirtual 40, 3) := by decide +kernel
theorem dX1_readPlay_33 : decode cX1_readPlay 33 = .ok (.goto 4, 3) := by decide +kernel
theorem dX1_readPlay_36 : decode cX1_readPlay 36 = .ok (.iconst (-1), 1) := by decide +kernel
theorem dX1_readPlay_37 : decode cX1_readPlay 37 = .ok (.istore_n 2, 1) := by decide +kernel
theorem dX1_readPlay_38 : decode cX1_readPlay 38 = .ok (.iload_n 2, 1) := by decide +kernel
theorem dX1_readPlay_39 : decode cX1_readPlay 39 = .ok (.iconst (-1), 1) := by decide +kernel
theorem dX1_readPlay_40 : decode cX1_readPlay 40 = .ok (.if_icmp .ne 7, 3) := by decide +kernel
theorem dX1_readPlay_43 : decode cX1_readPlay 43 = .ok (.iconst (-1), 1) := by decide +kernel
theorem dX1_readPlay_44 : decode cX1_readPlay 44 = .ok (.goto 8, 3) := by decide +kernel
theorem dX1_readPlay_47 : decode cX1_readPlay 47 = .ok (.iload_n 1, 1) := by decide +kernel
theorem dX1_readPlay_48 : decode cX1_readPlay 48 = .ok (.iload_n 2, 1) := by decide +kernel
theorem dX1_readPlay_49 : decode cX1_readPlay 49 = .ok (.invokestatic 43, 3) := by decide +kernel
theorem dX1_readPlay_52 : decode cX1_readPlay 52 = .ok (.ireturn, 1) := by decide +kernel
theorem dX1_readPlay_53 : decode cX1_readPlay 53 = .ok (.aload_n 0, 1) := by decide +kernel
theorem dX1_readPlay_54 : decode cX1_readPlay 54 = .ok (.invokevirtual 40, 3) := by decide +kernel
theorem dX1_readPlay_57 : decode cX1_readPlay 57 = .ok (.istore_n 2, 1) := by decide +kernel
theorem dX1_readPlay_58 : decode cX1_readPlay 58 = .ok (.iload_n 2, 1) := by decide +kernel
theorem dX1_readPlay_59 : decode cX1_readPlay 59 = .ok (.iconst (-1), 1) := by decide +kernel
theorem dX1_readPlay_60 : decode cX1_readPlay 60 = .ok (.if_icmp .eq 12, 3) := by decide +kernel
theorem dX1_readPlay_63 : decode cX1_readPlay 63 = .ok (.aload_n 0, 1) := by decide +kernel
theorem dX1_readPlay_64 : decode cX1_readPlay 64 = .ok (.bipush 45, 2) := by decide +kernel
theorem dX1_readPlay_66 : decode cX1_readPlay 66 = .ok (.invokevirtual 33, 3) := by decide +kernel
theorem dX1_readPlay_69 : decode cX1_readPlay 69 = .ok (.ifCond .ne 5, 3) := by decide +kernel
theorem dX1_readPlay_72 : decode cX1_readPlay 72 = .ok (.iconst (-1), 1) := by decide +kernel
theorem dX1_readPlay_73 : decode cX1_readPlay 73 = .ok (.ireturn, 1) := by decide +kernel
theorem dX1_readPlay_74 : decode cX1_readPlay 74 = .ok (.aload_n 0, 1) := by decide +kernel
theorem dX1_readPlay_75 : decode cX1_readPlay 75 = .ok (.invokevirtual 40, 3) := by decide +kernel
theorem dX1_readPlay_78 : decode cX1_readPlay 78 = .ok (.istore_n 3, 1) := by decide +kernel
theorem dX1_readPlay_79 : decode cX1_readPlay 79 = .ok (.iload_n 3, 1) := by decide +kernel
theorem dX1_readPlay_80 : decode cX1_readPlay 80 = .ok (.iconst (-1), 1) := by decide +kernel
theorem dX1_readPlay_81 : decode cX1_readPlay 81 = .ok (.if_icmp .ne 7, 3) := by decide +kernel
theorem dX1_readPlay_84 : decode cX1_readPlay 84 = .ok (.iconst (-1), 1) := by decide +kernel
theorem dX1_readPlay_85 : decode cX1_readPlay 85 = .ok (.goto 14, 3) := by decide +kernel
theorem dX1_readPlay_88 : decode cX1_readPlay 88 = .ok (.iload_n 2, 1) := by decide +kernel
theorem dX1_readPlay_89 : decode cX1_readPlay 89 = .ok (.iload_n 3, 1) := by decide +kernel
theorem dX1_readPlay_90 : decode cX1_readPlay 90 = .ok (.aload_n 0, 1) := by decide +kernel
theorem dX1_readPlay_91 : decode cX1_readPlay 91 = .ok (.bipush 43, 2) := by decide +kernel
theorem dX1_readPlay_93 : decode cX1_readPlay 93 = .ok (.invokevirtual 33, 3) := by decide +kernel
theorem dX1_readPlay_96 : decode cX1_readPlay 96 = .ok (.invokestatic 47, 3) := by decide +kernel
theorem dX1_readPlay_99 : decode cX1_readPlay 99 = .ok (.ireturn, 1) := by decide +kernel
set_option maxRecDepth 20000 in
theorem ggX1_readSquare_X1_readDigit : GoodIn wsX1_readSquare wsX1_readDigit := goodIn_r _ [5, 6, 7, 8, 4, 9, 10, 11, 12, 13, 14, 15, 16, 17, 18, 19, 20, 21] (by decide +kernel) (by decide +kernel)
set_option maxRecDepth 20000 in
theorem gX1_readSquare_X1_readDigit : GoodIn wsX1_readSquare (wsV RX1 51 RX1 yX1_readDigit wsX1_readDigit) := goodIn_app (goodIn_of _ (by decide +kernel)) ggX1_readSquare_X1_readDigit
theorem dX1_readSquare_0 : decode cX1_readSquare 0 = .ok (.aload_n 0, 1) := by decide +kernel
theorem dX1_readSquare_1 : decode cX1_readSquare 1 = .ok (.invokevirtual 51, 3) := by decide +kernel
theorem dX1_readSquare_4 : decode cX1_readSquare 4 = .ok (.istore_n 1, 1) := by decide +kernel
theorem dX1_readSquare_5 : decode cX1_readSquare 5 = .ok (.iload_n 1, 1) := by decide +kernel
theorem dX1_readSquare_6 : decode cX1_readSquare 6 = .ok (.iconst (-1), 1) := by decide +kernel
theorem dX1_readSquare_7 : decode cX1_readSquare 7 = .ok (.if_icmp .ne 7, 3) := by decide +kernel
theorem dX1_readSquare_10 : decode cX1_readSquare 10 = .ok (.iconst (-1), 1) := by decide +kernel
theorem dX1_readSquare_11 : decode cX1_readSquare 11 = .ok (.goto 7, 3) := by decide +kernel
theorem dX1_readSquare_14 : decode cX1_readSquare 14 = .ok (.aload_n 0, 1) := by decide +kernel
theorem dX1_readSquare_15 : decode cX1_readSquare 15 = .ok (.invokevirtual 51, 3) := by decide +kernel
theorem dX1_readSquare_18 : decode cX1_readSquare 18 = .ok (.istore_n 2, 1) := by decide +kernel
theorem dX1_readSquare_19 : decode cX1_readSquare 19 = .ok (.iload_n 2, 1) := by decide +kernel
theorem dX1_readSquare_20 : decode cX1_readSquare 20 = .ok (.iconst (-1), 1) := by decide +kernel
theorem dX1_readSquare_21 : decode cX1_readSquare 21 = .ok (.if_icmp .ne 7, 3) := by decide +kernel
theorem dX1_readSquare_24 : decode cX1_readSquare 24 = .ok (.iconst (-1), 1) := by decide +kernel
theorem dX1_readSquare_25 : decode cX1_readSquare 25 = .ok (.goto 8, 3) := by decide +kernel
theorem dX1_readSquare_28 : decode cX1_readSquare 28 = .ok (.iload_n 1, 1) := by decide +kernel
theorem dX1_readSquare_29 : decode cX1_readSquare 29 = .ok (.iconst 5, 1) := by decide +kernel
theorem dX1_readSquare_30 : decode cX1_readSquare 30 = .ok (.imul, 1) := by decide +kernel
theorem dX1_readSquare_31 : decode cX1_readSquare 31 = .ok (.iload_n 2, 1) := by decide +kernel
theorem dX1_readSquare_32 : decode cX1_readSquare 32 = .ok (.iadd, 1) := by decide +kernel
theorem dX1_readSquare_33 : decode cX1_readSquare 33 = .ok (.ireturn, 1) := by decide +kernel
set_option maxRecDepth 20000 in
theorem ggX1_readDigit_X1_passes : GoodIn wsX1_readDigit wsX1_passes := goodIn_r _ [5, 6, 7, 8, 9, 4, 10, 11, 12, 13, 14, 15, 16, 17] (by decide +kernel) (by decide +kernel)
set_option maxRecDepth 20000 in
theorem gX1_readDigit_X1_passes : GoodIn wsX1_readDigit (wsV RX1 33 RX1 yX1_passes wsX1_passes) := goodIn_app (goodIn_of _ (by decide +kernel)) ggX1_readDigit_X1_passes
theorem dX1_readDigit_0 : decode cX1_readDigit 0 = .ok (.iconst 0, 1) := by decide +kernel
theorem dX1_readDigit_1 : decode cX1_readDigit 1 = .ok (.istore_n 1, 1) := by decide +kernel
theorem dX1_readDigit_2 : decode cX1_readDigit 2 = .ok (.iload_n 1, 1) := by decide +kernel
theorem dX1_readDigit_3 : decode cX1_readDigit 3 = .ok (.iconst 5, 1) := by decide +kernel
theorem dX1_readDigit_4 : decode cX1_readDigit 4 = .ok (.if_icmp .ge 23, 3) := by decide +kernel
theorem dX1_readDigit_7 : decode cX1_readDigit 7 = .ok (.aload_n 0, 1) := by decide +kernel
theorem dX1_readDigit_8 : decode cX1_readDigit 8 = .ok (.bipush 48, 2) := by decide +kernel
theorem dX1_readDigit_10 : decode cX1_readDigit 10 = .ok (.iload_n 1, 1) := by decide +kernel
theorem dX1_readDigit_11 : decode cX1_readDigit 11 = .ok (.iadd, 1) := by decide +kernel
theorem dX1_readDigit_12 : decode cX1_readDigit 12 = .ok (.i2c, 1) := by decide +kernel
theorem dX1_readDigit_13 : decode cX1_readDigit 13 = .ok (.invokevirtual 33, 3) := by decide +kernel
theorem dX1_readDigit_16 : decode cX1_readDigit 16 = .ok (.ifCond .eq 5, 3) := by decide +kernel
theorem dX1_readDigit_19 : decode cX1_readDigit 19 = .ok (.iload_n 1, 1) := by decide +kernel
theorem dX1_readDigit_20 : decode cX1_readDigit 20 = .ok (.ireturn, 1) := by decide +kernel
theorem dX1_readDigit_21 : decode cX1_readDigit 21 = .ok (.iinc 1 1, 3) := by decide +kernel
theorem dX1_readDigit_24 : decode cX1_readDigit 24 = .ok (.goto (-22), 3) := by decide +kernel
theorem dX1_readDigit_27 : decode cX1_readDigit 27 = .ok (.iconst (-1), 1) := by decide +kernel
theorem dX1_readDigit_28 : decode cX1_readDigit 28 = .ok (.ireturn, 1) := by decide +kernel
set_option maxRecDepth 20000 in
theorem ggX1_kindOfLetter_J0_length_8abf5 : GoodIn wsX1_kindOfLetter wsJ0_length_8abf5 := goodIn_r _ [5, 6, 7, 8, 9, 4, 10, 11, 12] (by decide +kernel) (by decide +kernel)
set_option maxRecDepth 20000 in
theorem gX1_kindOfLetter_J0_length_8abf5 : GoodIn wsX1_kindOfLetter (wsV RX1 56 RJ0 yJ0_length_8abf5 wsJ0_length_8abf5) := goodIn_app (goodIn_of _ (by decide +kernel)) ggX1_kindOfLetter_J0_length_8abf5
set_option maxRecDepth 20000 in
theorem ggX1_kindOfLetter_J0_charAt_5068e : GoodIn wsX1_kindOfLetter wsJ0_charAt_5068e := goodIn_r _ [16, 6, 17, 18, 19, 4, 20, 11, 12, 21, 22, 23, 24, 25, 26, 27, 28, 29, 30, 31, 32, 33, 34, 35, 36, 37, 38, 39, 40, 41, 42, 43, 44, 45, 46, 47, 48, 49] (by decide +kernel) (by decide +kernel)
set_option maxRecDepth 20000 in
theorem gX1_kindOfLetter_J0_charAt_5068e : GoodIn wsX1_kindOfLetter (wsV RX1 61 RJ0 yJ0_charAt_5068e wsJ0_charAt_5068e) := goodIn_app (goodIn_of _ (by decide +kernel)) ggX1_kindOfLetter_J0_charAt_5068e
set_option maxRecDepth 20000 in
theorem ggX1_kindOfLetter_X1_isNext : GoodIn wsX1_kindOfLetter wsX1_isNext := goodIn_r _ [54, 55, 56, 57, 58, 59, 60, 61, 62] (by decide +kernel) (by decide +kernel)
set_option maxRecDepth 20000 in
theorem gX1_kindOfLetter_X1_isNext : GoodIn wsX1_kindOfLetter (wsV RX1 65 RX1 yX1_isNext wsX1_isNext) := goodIn_app (goodIn_of _ (by decide +kernel)) ggX1_kindOfLetter_X1_isNext
theorem dX1_kindOfLetter_0 : decode cX1_kindOfLetter 0 = .ok (.iconst 0, 1) := by decide +kernel
theorem dX1_kindOfLetter_1 : decode cX1_kindOfLetter 1 = .ok (.istore_n 1, 1) := by decide +kernel
theorem dX1_kindOfLetter_2 : decode cX1_kindOfLetter 2 = .ok (.iload_n 1, 1) := by decide +kernel
theorem dX1_kindOfLetter_3 : decode cX1_kindOfLetter 3 = .ok (.ldc 54, 2) := by decide +kernel
theorem dX1_kindOfLetter_5 : decode cX1_kindOfLetter 5 = .ok (.invokevirtual 56, 3) := by decide +kernel
theorem dX1_kindOfLetter_8 : decode cX1_kindOfLetter 8 = .ok (.if_icmp .ge 26, 3) := by decide +kernel
theorem dX1_kindOfLetter_11 : decode cX1_kindOfLetter 11 = .ok (.aload_n 0, 1) := by decide +kernel
theorem dX1_kindOfLetter_12 : decode cX1_kindOfLetter 12 = .ok (.ldc 54, 2) := by decide +kernel
theorem dX1_kindOfLetter_14 : decode cX1_kindOfLetter 14 = .ok (.iload_n 1, 1) := by decide +kernel
theorem dX1_kindOfLetter_15 : decode cX1_kindOfLetter 15 = .ok (.invokevirtual 61, 3) := by decide +kernel
theorem dX1_kindOfLetter_18 : decode cX1_kindOfLetter 18 = .ok (.invokevirtual 65, 3) := by decide +kernel
theorem dX1_kindOfLetter_21 : decode cX1_kindOfLetter 21 = .ok (.ifCond .eq 7, 3) := by decide +kernel
theorem dX1_kindOfLetter_24 : decode cX1_kindOfLetter 24 = .ok (.iconst 1, 1) := by decide +kernel
theorem dX1_kindOfLetter_25 : decode cX1_kindOfLetter 25 = .ok (.iload_n 1, 1) := by decide +kernel
theorem dX1_kindOfLetter_26 : decode cX1_kindOfLetter 26 = .ok (.iadd, 1) := by decide +kernel
theorem dX1_kindOfLetter_27 : decode cX1_kindOfLetter 27 = .ok (.ireturn, 1) := by decide +kernel
theorem dX1_kindOfLetter_28 : decode cX1_kindOfLetter 28 = .ok (.iinc 1 1, 3) := by decide +kernel
theorem dX1_kindOfLetter_31 : decode cX1_kindOfLetter 31 = .ok (.goto (-29), 3) := by decide +kernel
theorem dX1_kindOfLetter_34 : decode cX1_kindOfLetter 34 = .ok (.iconst (-1), 1) := by decide +kernel
theorem dX1_kindOfLetter_35 : decode cX1_kindOfLetter 35 = .ok (.ireturn, 1) := by decide +kernel
theorem dX1_isNext_0 : decode cX1_isNext 0 = .ok (.aload_n 0, 1) := by decide +kernel
theorem dX1_isNext_1 : decode cX1_isNext 1 = .ok (.getfield 26, 3) := by decide +kernel
theorem dX1_isNext_4 : decode cX1_isNext 4 = .ok (.ifCond .lt 43, 3) := by decide +kernel
theorem dX1_isNext_7 : decode cX1_isNext 7 = .ok (.aload_n 0, 1) := by decide +kernel
theorem dX1_isNext_8 : decode cX1_isNext 8 = .ok (.getfield 26, 3) := by decide +kernel
theorem dX1_isNext_11 : decode cX1_isNext 11 = .ok (.aload_n 0, 1) := by decide +kernel
theorem dX1_isNext_12 : decode cX1_isNext 12 = .ok (.getfield 15, 3) := by decide +kernel
theorem dX1_isNext_15 : decode cX1_isNext 15 = .ok (.if_icmp .ge 32, 3) := by decide +kernel
theorem dX1_isNext_18 : decode cX1_isNext 18 = .ok (.aload_n 0, 1) := by decide +kernel
theorem dX1_isNext_19 : decode cX1_isNext 19 = .ok (.getfield 26, 3) := by decide +kernel
theorem dX1_isNext_22 : decode cX1_isNext 22 = .ok (.aload_n 0, 1) := by decide +kernel
theorem dX1_isNext_23 : decode cX1_isNext 23 = .ok (.getfield 11, 3) := by decide +kernel
theorem dX1_isNext_26 : decode cX1_isNext 26 = .ok (.arraylength, 1) := by decide +kernel
theorem dX1_isNext_27 : decode cX1_isNext 27 = .ok (.if_icmp .ge 20, 3) := by decide +kernel
theorem dX1_isNext_30 : decode cX1_isNext 30 = .ok (.aload_n 0, 1) := by decide +kernel
theorem dX1_isNext_31 : decode cX1_isNext 31 = .ok (.getfield 11, 3) := by decide +kernel
theorem dX1_isNext_34 : decode cX1_isNext 34 = .ok (.aload_n 0, 1) := by decide +kernel
theorem dX1_isNext_35 : decode cX1_isNext 35 = .ok (.getfield 26, 3) := by decide +kernel
theorem dX1_isNext_38 : decode cX1_isNext 38 = .ok (.caload, 1) := by decide +kernel
theorem dX1_isNext_39 : decode cX1_isNext 39 = .ok (.iload_n 1, 1) := by decide +kernel
theorem dX1_isNext_40 : decode cX1_isNext 40 = .ok (.if_icmp .ne 7, 3) := by decide +kernel
theorem dX1_isNext_43 : decode cX1_isNext 43 = .ok (.iconst 1, 1) := by decide +kernel
theorem dX1_isNext_44 : decode cX1_isNext 44 = .ok (.goto 4, 3) := by decide +kernel
theorem dX1_isNext_47 : decode cX1_isNext 47 = .ok (.iconst 0, 1) := by decide +kernel
theorem dX1_isNext_48 : decode cX1_isNext 48 = .ok (.ireturn, 1) := by decide +kernel
set_option maxRecDepth 20000 in
theorem ggX1_passes_X1_isNext : GoodIn wsX1_passes wsX1_isNext := goodIn_r _ [6, 1, 7, 8, 9, 10, 11, 12, 13] (by decide +kernel) (by decide +kernel)
set_option maxRecDepth 20000 in
theorem gX1_passes_X1_isNext : GoodIn wsX1_passes (wsV RX1 65 RX1 yX1_isNext wsX1_isNext) := goodIn_app (goodIn_of _ (by decide +kernel)) ggX1_passes_X1_isNext
theorem dX1_passes_0 : decode cX1_passes 0 = .ok (.aload_n 0, 1) := by decide +kernel
theorem dX1_passes_1 : decode cX1_passes 1 = .ok (.iload_n 1, 1) := by decide +kernel
theorem dX1_passes_2 : decode cX1_passes 2 = .ok (.invokevirtual 65, 3) := by decide +kernel
theorem dX1_passes_5 : decode cX1_passes 5 = .ok (.ifCond .ne 5, 3) := by decide +kernel
theorem dX1_passes_8 : decode cX1_passes 8 = .ok (.iconst 0, 1) := by decide +kernel
theorem dX1_passes_9 : decode cX1_passes 9 = .ok (.ireturn, 1) := by decide +kernel
theorem dX1_passes_10 : decode cX1_passes 10 = .ok (.aload_n 0, 1) := by decide +kernel
theorem dX1_passes_11 : decode cX1_passes 11 = .ok (.dup, 1) := by decide +kernel
theorem dX1_passes_12 : decode cX1_passes 12 = .ok (.getfield 26, 3) := by decide +kernel
theorem dX1_passes_15 : decode cX1_passes 15 = .ok (.iconst 1, 1) := by decide +kernel
theorem dX1_passes_16 : decode cX1_passes 16 = .ok (.iadd, 1) := by decide +kernel
theorem dX1_passes_17 : decode cX1_passes 17 = .ok (.putfield 26, 3) := by decide +kernel
theorem dX1_passes_20 : decode cX1_passes 20 = .ok (.iconst 1, 1) := by decide +kernel
theorem dX1_passes_21 : decode cX1_passes 21 = .ok (.ireturn, 1) := by decide +kernel
set_option maxRecDepth 20000 in
theorem ggX2_init_X4_squareBeside : GoodIn wsX2_init wsX4_squareBeside := goodIn_r _ [9, 10, 11, 12, 13, 8, 14] (by decide +kernel) (by decide +kernel)
set_option maxRecDepth 20000 in
theorem gX2_init_X4_squareBeside_n18 : GoodIn wsX2_init (wsX4_squareBeside) := ggX2_init_X4_squareBeside
set_option maxRecDepth 20000 in
theorem ggX2_init_X2_removeAllMen : GoodIn wsX2_init wsX2_removeAllMen := goodIn_r _ [19, 5, 30, 31] (by decide +kernel) (by decide +kernel)
set_option maxRecDepth 20000 in
theorem gX2_init_X2_removeAllMen : GoodIn wsX2_init (wsV RX2 22 RX2 yX2_removeAllMen wsX2_removeAllMen) := goodIn_app (goodIn_of _ (by decide +kernel)) ggX2_init_X2_removeAllMen
set_option maxRecDepth 20000 in
theorem ggX2_init_X2_place : GoodIn wsX2_init wsX2_place := goodIn_r _ [23, 5, 13, 8, 14, 24, 25, 26, 27, 28, 29, 30, 31] (by decide +kernel) (by decide +kernel)
set_option maxRecDepth 20000 in
theorem gX2_init_X2_place : GoodIn wsX2_init (wsV RX2 28 RX2 yX2_place wsX2_place) := goodIn_app (goodIn_of _ (by decide +kernel)) ggX2_init_X2_place
