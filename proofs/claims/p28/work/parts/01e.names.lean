theorem dX5_needRange_14 : decode cX5_needRange 14 = .ok (.ldc_w 258, 3) := by decide +kernel
theorem dX5_needRange_17 : decode cX5_needRange 17 = .ok (.invokespecial 104, 3) := by decide +kernel
theorem dX5_needRange_20 : decode cX5_needRange 20 = .ok (.athrow, 1) := by decide +kernel
theorem dX5_needRange_21 : decode cX5_needRange 21 = .ok (.return_, 1) := by decide +kernel
set_option maxRecDepth 20000 in
theorem ggX5_needRoom_X2_all : GoodIn wsX5_needRoom wsX2_all := goodIn_r _ [7, 8, 9, 10, 6, 11, 12, 13, 14, 15, 16, 17, 18, 19, 20, 21] (by decide +kernel) (by decide +kernel)
set_option maxRecDepth 20000 in
theorem gX5_needRoom_X2_all : GoodIn wsX5_needRoom (wsV RX5 168 RX2 yX2_all wsX2_all) := goodIn_app (goodIn_of _ (by decide +kernel)) ggX5_needRoom_X2_all
theorem dX5_needRoom_0 : decode cX5_needRoom 0 = .ok (.aload_n 0, 1) := by decide +kernel
theorem dX5_needRoom_1 : decode cX5_needRoom 1 = .ok (.invokevirtual 168, 3) := by decide +kernel
theorem dX5_needRoom_4 : decode cX5_needRoom 4 = .ok (.iload_n 1, 1) := by decide +kernel
theorem dX5_needRoom_5 : decode cX5_needRoom 5 = .ok (.iadd, 1) := by decide +kernel
theorem dX5_needRoom_6 : decode cX5_needRoom 6 = .ok (.sipush 5000, 3) := by decide +kernel
theorem dX5_needRoom_9 : decode cX5_needRoom 9 = .ok (.if_icmp .le 14, 3) := by decide +kernel
theorem dX5_needRoom_12 : decode cX5_needRoom 12 = .ok (.new 124, 3) := by decide +kernel
theorem dX5_needRoom_15 : decode cX5_needRoom 15 = .ok (.dup, 1) := by decide +kernel
theorem dX5_needRoom_16 : decode cX5_needRoom 16 = .ok (.ldc_w 260, 3) := by decide +kernel
theorem dX5_needRoom_19 : decode cX5_needRoom 19 = .ok (.invokespecial 128, 3) := by decide +kernel
theorem dX5_needRoom_22 : decode cX5_needRoom 22 = .ok (.athrow, 1) := by decide +kernel
theorem dX5_needRoom_23 : decode cX5_needRoom 23 = .ok (.return_, 1) := by decide +kernel
theorem dJ9_max_7cf53_0 : decode cJ9_max_7cf53 0 = .ok (.iload_n 0, 1) := by decide +kernel
theorem dJ9_max_7cf53_1 : decode cJ9_max_7cf53 1 = .ok (.iload_n 1, 1) := by decide +kernel
theorem dJ9_max_7cf53_2 : decode cJ9_max_7cf53 2 = .ok (.if_icmp .lt 7, 3) := by decide +kernel
theorem dJ9_max_7cf53_5 : decode cJ9_max_7cf53 5 = .ok (.iload_n 0, 1) := by decide +kernel
theorem dJ9_max_7cf53_6 : decode cJ9_max_7cf53 6 = .ok (.goto 4, 3) := by decide +kernel
theorem dJ9_max_7cf53_9 : decode cJ9_max_7cf53 9 = .ok (.iload_n 1, 1) := by decide +kernel
theorem dJ9_max_7cf53_10 : decode cJ9_max_7cf53 10 = .ok (.ireturn, 1) := by decide +kernel
theorem dJ9_min_7cf53_0 : decode cJ9_min_7cf53 0 = .ok (.iload_n 0, 1) := by decide +kernel
theorem dJ9_min_7cf53_1 : decode cJ9_min_7cf53 1 = .ok (.iload_n 1, 1) := by decide +kernel
theorem dJ9_min_7cf53_2 : decode cJ9_min_7cf53 2 = .ok (.if_icmp .gt 7, 3) := by decide +kernel
theorem dJ9_min_7cf53_5 : decode cJ9_min_7cf53 5 = .ok (.iload_n 0, 1) := by decide +kernel
theorem dJ9_min_7cf53_6 : decode cJ9_min_7cf53 6 = .ok (.goto 4, 3) := by decide +kernel
theorem dJ9_min_7cf53_9 : decode cJ9_min_7cf53 9 = .ok (.iload_n 1, 1) := by decide +kernel
theorem dJ9_min_7cf53_10 : decode cJ9_min_7cf53 10 = .ok (.ireturn, 1) := by decide +kernel
theorem dL_cell_0 : decode cL_cell 0 = .ok (.iload_n 1, 1) := by decide +kernel
theorem dL_cell_1 : decode cL_cell 1 = .ok (.aload_n 0, 1) := by decide +kernel
theorem dL_cell_2 : decode cL_cell 2 = .ok (.arraylength, 1) := by decide +kernel
theorem dL_cell_3 : decode cL_cell 3 = .ok (.if_icmp .ge 9, 3) := by decide +kernel
theorem dL_cell_6 : decode cL_cell 6 = .ok (.aload_n 0, 1) := by decide +kernel
theorem dL_cell_7 : decode cL_cell 7 = .ok (.iload_n 1, 1) := by decide +kernel
theorem dL_cell_8 : decode cL_cell 8 = .ok (.iaload, 1) := by decide +kernel
theorem dL_cell_9 : decode cL_cell 9 = .ok (.goto 9, 3) := by decide +kernel
theorem dL_cell_12 : decode cL_cell 12 = .ok (.ldc 7, 2) := by decide +kernel
theorem dL_cell_14 : decode cL_cell 14 = .ok (.iload_n 1, 1) := by decide +kernel
theorem dL_cell_15 : decode cL_cell 15 = .ok (.iconst 1, 1) := by decide +kernel
theorem dL_cell_16 : decode cL_cell 16 = .ok (.iadd, 1) := by decide +kernel
theorem dL_cell_17 : decode cL_cell 17 = .ok (.imul, 1) := by decide +kernel
theorem dL_cell_18 : decode cL_cell 18 = .ok (.ireturn, 1) := by decide +kernel
theorem dL_at_0 : decode cL_at 0 = .ok (.iload_n 0, 1) := by decide +kernel
theorem dL_at_1 : decode cL_at 1 = .ok (.iconst 1, 1) := by decide +kernel
theorem dL_at_2 : decode cL_at 2 = .ok (.iushr, 1) := by decide +kernel
theorem dL_at_3 : decode cL_at 3 = .ok (.iload_n 1, 1) := by decide +kernel
theorem dL_at_4 : decode cL_at 4 = .ok (.irem, 1) := by decide +kernel
theorem dL_at_5 : decode cL_at 5 = .ok (.ireturn, 1) := by decide +kernel
theorem dL_all_0 : decode cL_all 0 = .ok (.aload_n 0, 1) := by decide +kernel
theorem dL_all_1 : decode cL_all 1 = .ok (.iconst 4, 1) := by decide +kernel
theorem dL_all_2 : decode cL_all 2 = .ok (.iload_n 1, 1) := by decide +kernel
theorem dL_all_3 : decode cL_all 3 = .ok (.imul, 1) := by decide +kernel
theorem dL_all_4 : decode cL_all 4 = .ok (.iaload, 1) := by decide +kernel
theorem dL_all_5 : decode cL_all 5 = .ok (.aload_n 0, 1) := by decide +kernel
theorem dL_all_6 : decode cL_all 6 = .ok (.iconst 4, 1) := by decide +kernel
theorem dL_all_7 : decode cL_all 7 = .ok (.iload_n 1, 1) := by decide +kernel
theorem dL_all_8 : decode cL_all 8 = .ok (.imul, 1) := by decide +kernel
theorem dL_all_9 : decode cL_all 9 = .ok (.iconst 1, 1) := by decide +kernel
theorem dL_all_10 : decode cL_all 10 = .ok (.iadd, 1) := by decide +kernel
theorem dL_all_11 : decode cL_all 11 = .ok (.iaload, 1) := by decide +kernel
theorem dL_all_12 : decode cL_all 12 = .ok (.iadd, 1) := by decide +kernel
theorem dL_all_13 : decode cL_all 13 = .ok (.aload_n 0, 1) := by decide +kernel
theorem dL_all_14 : decode cL_all 14 = .ok (.iconst 4, 1) := by decide +kernel
theorem dL_all_15 : decode cL_all 15 = .ok (.iload_n 1, 1) := by decide +kernel
theorem dL_all_16 : decode cL_all 16 = .ok (.imul, 1) := by decide +kernel
theorem dL_all_17 : decode cL_all 17 = .ok (.iconst 2, 1) := by decide +kernel
theorem dL_all_18 : decode cL_all 18 = .ok (.iadd, 1) := by decide +kernel
theorem dL_all_19 : decode cL_all 19 = .ok (.iaload, 1) := by decide +kernel
theorem dL_all_20 : decode cL_all 20 = .ok (.iadd, 1) := by decide +kernel
theorem dL_all_21 : decode cL_all 21 = .ok (.aload_n 0, 1) := by decide +kernel
theorem dL_all_22 : decode cL_all 22 = .ok (.iconst 4, 1) := by decide +kernel
theorem dL_all_23 : decode cL_all 23 = .ok (.iload_n 1, 1) := by decide +kernel
theorem dL_all_24 : decode cL_all 24 = .ok (.imul, 1) := by decide +kernel
theorem dL_all_25 : decode cL_all 25 = .ok (.iconst 3, 1) := by decide +kernel
theorem dL_all_26 : decode cL_all 26 = .ok (.iadd, 1) := by decide +kernel
theorem dL_all_27 : decode cL_all 27 = .ok (.iaload, 1) := by decide +kernel
theorem dL_all_28 : decode cL_all 28 = .ok (.iadd, 1) := by decide +kernel
theorem dL_all_29 : decode cL_all 29 = .ok (.ireturn, 1) := by decide +kernel
theorem dL_sum_0 : decode cL_sum 0 = .ok (.iconst 0, 1) := by decide +kernel
theorem dL_sum_1 : decode cL_sum 1 = .ok (.istore_n 3, 1) := by decide +kernel
theorem dL_sum_2 : decode cL_sum 2 = .ok (.iconst 4, 1) := by decide +kernel
theorem dL_sum_3 : decode cL_sum 3 = .ok (.iload_n 1, 1) := by decide +kernel
theorem dL_sum_4 : decode cL_sum 4 = .ok (.imul, 1) := by decide +kernel
theorem dL_sum_5 : decode cL_sum 5 = .ok (.istore 4, 2) := by decide +kernel
theorem dL_sum_7 : decode cL_sum 7 = .ok (.iload 4, 2) := by decide +kernel
theorem dL_sum_9 : decode cL_sum 9 = .ok (.iconst 4, 1) := by decide +kernel
theorem dL_sum_10 : decode cL_sum 10 = .ok (.iload_n 2, 1) := by decide +kernel
theorem dL_sum_11 : decode cL_sum 11 = .ok (.imul, 1) := by decide +kernel
theorem dL_sum_12 : decode cL_sum 12 = .ok (.iconst 4, 1) := by decide +kernel
theorem dL_sum_13 : decode cL_sum 13 = .ok (.iadd, 1) := by decide +kernel
theorem dL_sum_14 : decode cL_sum 14 = .ok (.if_icmp .ge 16, 3) := by decide +kernel
theorem dL_sum_17 : decode cL_sum 17 = .ok (.iload_n 3, 1) := by decide +kernel
theorem dL_sum_18 : decode cL_sum 18 = .ok (.aload_n 0, 1) := by decide +kernel
theorem dL_sum_19 : decode cL_sum 19 = .ok (.iload 4, 2) := by decide +kernel
theorem dL_sum_21 : decode cL_sum 21 = .ok (.iaload, 1) := by decide +kernel
theorem dL_sum_22 : decode cL_sum 22 = .ok (.iadd, 1) := by decide +kernel
theorem dL_sum_23 : decode cL_sum 23 = .ok (.istore_n 3, 1) := by decide +kernel
theorem dL_sum_24 : decode cL_sum 24 = .ok (.iinc 4 1, 3) := by decide +kernel
theorem dL_sum_27 : decode cL_sum 27 = .ok (.goto (-20), 3) := by decide +kernel
theorem dL_sum_30 : decode cL_sum 30 = .ok (.iload_n 3, 1) := by decide +kernel
theorem dL_sum_31 : decode cL_sum 31 = .ok (.ireturn, 1) := by decide +kernel
set_option maxRecDepth 20000 in
theorem ggL_factor_L_all : GoodIn wsL_factor wsL_all := goodIn_r _ [5] (by decide +kernel) (by decide +kernel)
set_option maxRecDepth 20000 in
theorem gL_factor_L_all : GoodIn wsL_factor (va_wsS RL 9 yL_all wsL_all) := goodIn_app (goodIn_of _ (by decide +kernel)) ggL_factor_L_all
theorem dL_factor_0 : decode cL_factor 0 = .ok (.ldc 8, 2) := by decide +kernel
theorem dL_factor_2 : decode cL_factor 2 = .ok (.sipush 1000, 3) := by decide +kernel
theorem dL_factor_5 : decode cL_factor 5 = .ok (.aload_n 0, 1) := by decide +kernel
theorem dL_factor_6 : decode cL_factor 6 = .ok (.iload_n 1, 1) := by decide +kernel
theorem dL_factor_7 : decode cL_factor 7 = .ok (.invokestatic 9, 3) := by decide +kernel
theorem dL_factor_10 : decode cL_factor 10 = .ok (.aload_n 2, 1) := by decide +kernel
theorem dL_factor_11 : decode cL_factor 11 = .ok (.iconst 0, 1) := by decide +kernel
theorem dL_factor_12 : decode cL_factor 12 = .ok (.iaload, 1) := by decide +kernel
theorem dL_factor_13 : decode cL_factor 13 = .ok (.imul, 1) := by decide +kernel
theorem dL_factor_14 : decode cL_factor 14 = .ok (.bipush 10, 2) := by decide +kernel
theorem dL_factor_16 : decode cL_factor 16 = .ok (.idiv, 1) := by decide +kernel
theorem dL_factor_17 : decode cL_factor 17 = .ok (.iadd, 1) := by decide +kernel
theorem dL_factor_18 : decode cL_factor 18 = .ok (.idiv, 1) := by decide +kernel
theorem dL_factor_19 : decode cL_factor 19 = .ok (.ireturn, 1) := by decide +kernel
set_option maxRecDepth 20000 in
theorem ggL_room_L_all : GoodIn wsL_room wsL_all := goodIn_r _ [4] (by decide +kernel) (by decide +kernel)
set_option maxRecDepth 20000 in
theorem gL_room_L_all : GoodIn wsL_room (va_wsS RL 9 yL_all wsL_all) := goodIn_app (goodIn_of _ (by decide +kernel)) ggL_room_L_all
theorem dL_room_0 : decode cL_room 0 = .ok (.aload_n 0, 1) := by decide +kernel
theorem dL_room_1 : decode cL_room 1 = .ok (.iload_n 1, 1) := by decide +kernel
theorem dL_room_2 : decode cL_room 2 = .ok (.invokestatic 9, 3) := by decide +kernel
theorem dL_room_5 : decode cL_room 5 = .ok (.aload_n 2, 1) := by decide +kernel
theorem dL_room_6 : decode cL_room 6 = .ok (.iconst 1, 1) := by decide +kernel
theorem dL_room_7 : decode cL_room 7 = .ok (.iaload, 1) := by decide +kernel
theorem dL_room_8 : decode cL_room 8 = .ok (.if_icmp .ge 15, 3) := by decide +kernel
theorem dL_room_11 : decode cL_room 11 = .ok (.aload_n 2, 1) := by decide +kernel
theorem dL_room_12 : decode cL_room 12 = .ok (.iconst 1, 1) := by decide +kernel
theorem dL_room_13 : decode cL_room 13 = .ok (.iaload, 1) := by decide +kernel
theorem dL_room_14 : decode cL_room 14 = .ok (.aload_n 0, 1) := by decide +kernel
theorem dL_room_15 : decode cL_room 15 = .ok (.iload_n 1, 1) := by decide +kernel
theorem dL_room_16 : decode cL_room 16 = .ok (.invokestatic 9, 3) := by decide +kernel
theorem dL_room_19 : decode cL_room 19 = .ok (.isub, 1) := by decide +kernel
theorem dL_room_20 : decode cL_room 20 = .ok (.goto 4, 3) := by decide +kernel
theorem dL_room_23 : decode cL_room 23 = .ok (.iconst 0, 1) := by decide +kernel
theorem dL_room_24 : decode cL_room 24 = .ok (.ireturn, 1) := by decide +kernel
theorem dL_wish_0 : decode cL_wish 0 = .ok (.iload_n 0, 1) := by decide +kernel
theorem dL_wish_1 : decode cL_wish 1 = .ok (.i2l, 1) := by decide +kernel
theorem dL_wish_2 : decode cL_wish 2 = .ok (.iload_n 1, 1) := by decide +kernel
theorem dL_wish_3 : decode cL_wish 3 = .ok (.i2l, 1) := by decide +kernel
theorem dL_wish_4 : decode cL_wish 4 = .ok (.lmul, 1) := by decide +kernel
theorem dL_wish_5 : decode cL_wish 5 = .ok (.iload_n 2, 1) := by decide +kernel
theorem dL_wish_6 : decode cL_wish 6 = .ok (.i2l, 1) := by decide +kernel
theorem dL_wish_7 : decode cL_wish 7 = .ok (.lmul, 1) := by decide +kernel
theorem dL_wish_8 : decode cL_wish 8 = .ok (.ldc2_w 15, 3) := by decide +kernel
theorem dL_wish_11 : decode cL_wish 11 = .ok (.ldiv, 1) := by decide +kernel
theorem dL_wish_12 : decode cL_wish 12 = .ok (.l2i, 1) := by decide +kernel
theorem dL_wish_13 : decode cL_wish 13 = .ok (.istore 4, 2) := by decide +kernel
theorem dL_wish_15 : decode cL_wish 15 = .ok (.iload 4, 2) := by decide +kernel
theorem dL_wish_17 : decode cL_wish 17 = .ok (.ifCond .ne 13, 3) := by decide +kernel
theorem dL_wish_20 : decode cL_wish 20 = .ok (.iload_n 0, 1) := by decide +kernel
theorem dL_wish_21 : decode cL_wish 21 = .ok (.aload_n 3, 1) := by decide +kernel
theorem dL_wish_22 : decode cL_wish 22 = .ok (.iconst 3, 1) := by decide +kernel
theorem dL_wish_23 : decode cL_wish 23 = .ok (.iaload, 1) := by decide +kernel
theorem dL_wish_24 : decode cL_wish 24 = .ok (.if_icmp .le 6, 3) := by decide +kernel
theorem dL_wish_27 : decode cL_wish 27 = .ok (.iconst 1, 1) := by decide +kernel
theorem dL_wish_28 : decode cL_wish 28 = .ok (.istore 4, 2) := by decide +kernel
theorem dL_wish_30 : decode cL_wish 30 = .ok (.iload 4, 2) := by decide +kernel
theorem dL_wish_32 : decode cL_wish 32 = .ok (.iload_n 0, 1) := by decide +kernel
theorem dL_wish_33 : decode cL_wish 33 = .ok (.if_icmp .le 7, 3) := by decide +kernel
theorem dL_wish_36 : decode cL_wish 36 = .ok (.iload_n 0, 1) := by decide +kernel
theorem dL_wish_37 : decode cL_wish 37 = .ok (.goto 5, 3) := by decide +kernel
theorem dL_wish_40 : decode cL_wish 40 = .ok (.iload 4, 2) := by decide +kernel
theorem dL_wish_42 : decode cL_wish 42 = .ok (.ireturn, 1) := by decide +kernel
set_option maxRecDepth 20000 in
theorem ggL_step_L_factor : GoodIn wsL_step wsL_factor := goodIn_r _ [4, 5, 6, 7, 3, 8] (by decide +kernel) (by decide +kernel)
set_option maxRecDepth 20000 in
theorem gL_step_L_factor : GoodIn wsL_step (va_wsS RL 17 yL_factor wsL_factor) := goodIn_app (goodIn_of _ (by decide +kernel)) ggL_step_L_factor
set_option maxRecDepth 20000 in
theorem ggL_step_L_wish : GoodIn wsL_step wsL_wish := goodIn_r _ [11, 12] (by decide +kernel) (by decide +kernel)
set_option maxRecDepth 20000 in
theorem gL_step_L_wish : GoodIn wsL_step (va_wsS RL 21 yL_wish wsL_wish) := goodIn_app (goodIn_of _ (by decide +kernel)) ggL_step_L_wish
set_option maxRecDepth 20000 in
theorem ggL_step_L_room : GoodIn wsL_step wsL_room := goodIn_r _ [15, 6, 7, 3, 8] (by decide +kernel) (by decide +kernel)
set_option maxRecDepth 20000 in
theorem gL_step_L_room : GoodIn wsL_step (va_wsS RL 25 yL_room wsL_room) := goodIn_app (goodIn_of _ (by decide +kernel)) ggL_step_L_room
theorem dL_step_0 : decode cL_step 0 = .ok (.iconst 0, 1) := by decide +kernel
theorem dL_step_1 : decode cL_step 1 = .ok (.istore_n 2, 1) := by decide +kernel
theorem dL_step_2 : decode cL_step 2 = .ok (.bipush 11, 2) := by decide +kernel
theorem dL_step_4 : decode cL_step 4 = .ok (.istore_n 3, 1) := by decide +kernel
theorem dL_step_5 : decode cL_step 5 = .ok (.iload_n 3, 1) := by decide +kernel
theorem dL_step_6 : decode cL_step 6 = .ok (.ifCond .le 111, 3) := by decide +kernel
theorem dL_step_9 : decode cL_step 9 = .ok (.aload_n 0, 1) := by decide +kernel
theorem dL_step_10 : decode cL_step 10 = .ok (.iload_n 3, 1) := by decide +kernel
theorem dL_step_11 : decode cL_step 11 = .ok (.iconst 1, 1) := by decide +kernel
theorem dL_step_12 : decode cL_step 12 = .ok (.isub, 1) := by decide +kernel
theorem dL_step_13 : decode cL_step 13 = .ok (.aload_n 1, 1) := by decide +kernel
theorem dL_step_14 : decode cL_step 14 = .ok (.invokestatic 17, 3) := by decide +kernel
theorem dL_step_17 : decode cL_step 17 = .ok (.istore 4, 2) := by decide +kernel
theorem dL_step_19 : decode cL_step 19 = .ok (.iconst 0, 1) := by decide +kernel
theorem dL_step_20 : decode cL_step 20 = .ok (.istore 5, 2) := by decide +kernel
theorem dL_step_22 : decode cL_step 22 = .ok (.iload 5, 2) := by decide +kernel
theorem dL_step_24 : decode cL_step 24 = .ok (.iconst 4, 1) := by decide +kernel
theorem dL_step_25 : decode cL_step 25 = .ok (.if_icmp .ge 86, 3) := by decide +kernel
theorem dL_step_28 : decode cL_step 28 = .ok (.iconst 4, 1) := by decide +kernel
theorem dL_step_29 : decode cL_step 29 = .ok (.iload_n 3, 1) := by decide +kernel
theorem dL_step_30 : decode cL_step 30 = .ok (.imul, 1) := by decide +kernel
theorem dL_step_31 : decode cL_step 31 = .ok (.iconst 4, 1) := by decide +kernel
theorem dL_step_32 : decode cL_step 32 = .ok (.isub, 1) := by decide +kernel
theorem dL_step_33 : decode cL_step 33 = .ok (.iload 5, 2) := by decide +kernel
theorem dL_step_35 : decode cL_step 35 = .ok (.iadd, 1) := by decide +kernel
theorem dL_step_36 : decode cL_step 36 = .ok (.istore 6, 2) := by decide +kernel
theorem dL_step_38 : decode cL_step 38 = .ok (.aload_n 0, 1) := by decide +kernel
theorem dL_step_39 : decode cL_step 39 = .ok (.iload 6, 2) := by decide +kernel
theorem dL_step_41 : decode cL_step 41 = .ok (.iaload, 1) := by decide +kernel
theorem dL_step_42 : decode cL_step 42 = .ok (.aload_n 1, 1) := by decide +kernel
theorem dL_step_43 : decode cL_step 43 = .ok (.iconst 4, 1) := by decide +kernel
theorem dL_step_44 : decode cL_step 44 = .ok (.iload 5, 2) := by decide +kernel
theorem dL_step_46 : decode cL_step 46 = .ok (.iadd, 1) := by decide +kernel
theorem dL_step_47 : decode cL_step 47 = .ok (.iaload, 1) := by decide +kernel
theorem dL_step_48 : decode cL_step 48 = .ok (.iload 4, 2) := by decide +kernel
theorem dL_step_50 : decode cL_step 50 = .ok (.aload_n 1, 1) := by decide +kernel
theorem dL_step_51 : decode cL_step 51 = .ok (.invokestatic 21, 3) := by decide +kernel
theorem dL_step_54 : decode cL_step 54 = .ok (.istore 7, 2) := by decide +kernel
theorem dL_step_56 : decode cL_step 56 = .ok (.aload_n 0, 1) := by decide +kernel
theorem dL_step_57 : decode cL_step 57 = .ok (.iload_n 3, 1) := by decide +kernel
theorem dL_step_58 : decode cL_step 58 = .ok (.aload_n 1, 1) := by decide +kernel
theorem dL_step_59 : decode cL_step 59 = .ok (.invokestatic 25, 3) := by decide +kernel
theorem dL_step_62 : decode cL_step 62 = .ok (.istore 8, 2) := by decide +kernel
theorem dL_step_64 : decode cL_step 64 = .ok (.iload 7, 2) := by decide +kernel
theorem dL_step_66 : decode cL_step 66 = .ok (.iload 8, 2) := by decide +kernel
theorem dL_step_68 : decode cL_step 68 = .ok (.if_icmp .le 8, 3) := by decide +kernel
theorem dL_step_71 : decode cL_step 71 = .ok (.iload 8, 2) := by decide +kernel
theorem dL_step_73 : decode cL_step 73 = .ok (.goto 5, 3) := by decide +kernel
theorem dL_step_76 : decode cL_step 76 = .ok (.iload 7, 2) := by decide +kernel
theorem dL_step_78 : decode cL_step 78 = .ok (.istore 7, 2) := by decide +kernel
theorem dL_step_80 : decode cL_step 80 = .ok (.aload_n 0, 1) := by decide +kernel
theorem dL_step_81 : decode cL_step 81 = .ok (.iload 6, 2) := by decide +kernel
theorem dL_step_83 : decode cL_step 83 = .ok (.dup2, 1) := by decide +kernel
theorem dL_step_84 : decode cL_step 84 = .ok (.iaload, 1) := by decide +kernel
theorem dL_step_85 : decode cL_step 85 = .ok (.iload 7, 2) := by decide +kernel
theorem dL_step_87 : decode cL_step 87 = .ok (.isub, 1) := by decide +kernel
theorem dL_step_88 : decode cL_step 88 = .ok (.iastore, 1) := by decide +kernel
theorem dL_step_89 : decode cL_step 89 = .ok (.aload_n 0, 1) := by decide +kernel
theorem dL_step_90 : decode cL_step 90 = .ok (.iload 6, 2) := by decide +kernel
theorem dL_step_92 : decode cL_step 92 = .ok (.iconst 4, 1) := by decide +kernel
theorem dL_step_93 : decode cL_step 93 = .ok (.iadd, 1) := by decide +kernel
theorem dL_step_94 : decode cL_step 94 = .ok (.dup2, 1) := by decide +kernel
theorem dL_step_95 : decode cL_step 95 = .ok (.iaload, 1) := by decide +kernel
theorem dL_step_96 : decode cL_step 96 = .ok (.iload 7, 2) := by decide +kernel
theorem dL_step_98 : decode cL_step 98 = .ok (.iadd, 1) := by decide +kernel
theorem dL_step_99 : decode cL_step 99 = .ok (.iastore, 1) := by decide +kernel
theorem dL_step_100 : decode cL_step 100 = .ok (.iload_n 2, 1) := by decide +kernel
theorem dL_step_101 : decode cL_step 101 = .ok (.iload 7, 2) := by decide +kernel
theorem dL_step_103 : decode cL_step 103 = .ok (.iadd, 1) := by decide +kernel
theorem dL_step_104 : decode cL_step 104 = .ok (.istore_n 2, 1) := by decide +kernel
theorem dL_step_105 : decode cL_step 105 = .ok (.iinc 5 1, 3) := by decide +kernel
theorem dL_step_108 : decode cL_step 108 = .ok (.goto (-86), 3) := by decide +kernel
theorem dL_step_111 : decode cL_step 111 = .ok (.iinc 3 (-1), 3) := by decide +kernel
theorem dL_step_114 : decode cL_step 114 = .ok (.goto (-109), 3) := by decide +kernel
theorem dL_step_117 : decode cL_step 117 = .ok (.iload_n 2, 1) := by decide +kernel
theorem dL_step_118 : decode cL_step 118 = .ok (.ireturn, 1) := by decide +kernel
theorem dL_leading_0 : decode cL_leading 0 = .ok (.iconst (-1), 1) := by decide +kernel
theorem dL_leading_1 : decode cL_leading 1 = .ok (.istore_n 2, 1) := by decide +kernel
theorem dL_leading_2 : decode cL_leading 2 = .ok (.iconst 3, 1) := by decide +kernel
theorem dL_leading_3 : decode cL_leading 3 = .ok (.istore_n 3, 1) := by decide +kernel
theorem dL_leading_4 : decode cL_leading 4 = .ok (.iload_n 3, 1) := by decide +kernel
theorem dL_leading_5 : decode cL_leading 5 = .ok (.ifCond .lt 42, 3) := by decide +kernel
theorem dL_leading_8 : decode cL_leading 8 = .ok (.aload_n 0, 1) := by decide +kernel
theorem dL_leading_9 : decode cL_leading 9 = .ok (.iconst 4, 1) := by decide +kernel
theorem dL_leading_10 : decode cL_leading 10 = .ok (.iload_n 1, 1) := by decide +kernel
theorem dL_leading_11 : decode cL_leading 11 = .ok (.imul, 1) := by decide +kernel
theorem dL_leading_12 : decode cL_leading 12 = .ok (.iload_n 3, 1) := by decide +kernel
theorem dL_leading_13 : decode cL_leading 13 = .ok (.iadd, 1) := by decide +kernel
theorem dL_leading_14 : decode cL_leading 14 = .ok (.iaload, 1) := by decide +kernel
theorem dL_leading_15 : decode cL_leading 15 = .ok (.ifCond .le 26, 3) := by decide +kernel
theorem dL_leading_18 : decode cL_leading 18 = .ok (.iload_n 2, 1) := by decide +kernel
theorem dL_leading_19 : decode cL_leading 19 = .ok (.ifCond .lt 20, 3) := by decide +kernel
theorem dL_leading_22 : decode cL_leading 22 = .ok (.aload_n 0, 1) := by decide +kernel
theorem dL_leading_23 : decode cL_leading 23 = .ok (.iconst 4, 1) := by decide +kernel
theorem dL_leading_24 : decode cL_leading 24 = .ok (.iload_n 1, 1) := by decide +kernel
theorem dL_leading_25 : decode cL_leading 25 = .ok (.imul, 1) := by decide +kernel
theorem dL_leading_26 : decode cL_leading 26 = .ok (.iload_n 3, 1) := by decide +kernel
theorem dL_leading_27 : decode cL_leading 27 = .ok (.iadd, 1) := by decide +kernel
theorem dL_leading_28 : decode cL_leading 28 = .ok (.iaload, 1) := by decide +kernel
theorem dL_leading_29 : decode cL_leading 29 = .ok (.aload_n 0, 1) := by decide +kernel
theorem dL_leading_30 : decode cL_leading 30 = .ok (.iconst 4, 1) := by decide +kernel
theorem dL_leading_31 : decode cL_leading 31 = .ok (.iload_n 1, 1) := by decide +kernel
theorem dL_leading_32 : decode cL_leading 32 = .ok (.imul, 1) := by decide +kernel
theorem dL_leading_33 : decode cL_leading 33 = .ok (.iload_n 2, 1) := by decide +kernel
theorem dL_leading_34 : decode cL_leading 34 = .ok (.iadd, 1) := by decide +kernel
theorem dL_leading_35 : decode cL_leading 35 = .ok (.iaload, 1) := by decide +kernel
theorem dL_leading_36 : decode cL_leading 36 = .ok (.if_icmp .lt 5, 3) := by decide +kernel
theorem dL_leading_39 : decode cL_leading 39 = .ok (.iload_n 3, 1) := by decide +kernel
theorem dL_leading_40 : decode cL_leading 40 = .ok (.istore_n 2, 1) := by decide +kernel
theorem dL_leading_41 : decode cL_leading 41 = .ok (.iinc 3 (-1), 3) := by decide +kernel
theorem dL_leading_44 : decode cL_leading 44 = .ok (.goto (-40), 3) := by decide +kernel
theorem dL_leading_47 : decode cL_leading 47 = .ok (.iload_n 2, 1) := by decide +kernel
theorem dL_leading_48 : decode cL_leading 48 = .ok (.ireturn, 1) := by decide +kernel
set_option maxRecDepth 20000 in
theorem ggL_prop_L_sum : GoodIn wsL_prop wsL_sum := goodIn_r _ [4] (by decide +kernel) (by decide +kernel)
set_option maxRecDepth 20000 in
theorem gL_prop_L_sum : GoodIn wsL_prop (va_wsS RL 28 yL_sum wsL_sum) := goodIn_app (goodIn_of _ (by decide +kernel)) ggL_prop_L_sum
set_option maxRecDepth 20000 in
theorem ggL_prop_L_all : GoodIn wsL_prop wsL_all := goodIn_r _ [7] (by decide +kernel) (by decide +kernel)
set_option maxRecDepth 20000 in
theorem gL_prop_L_all : GoodIn wsL_prop (va_wsS RL 9 yL_all wsL_all) := goodIn_app (goodIn_of _ (by decide +kernel)) ggL_prop_L_all
set_option maxRecDepth 20000 in
theorem ggL_prop_L_leading : GoodIn wsL_prop wsL_leading := goodIn_r _ [10] (by decide +kernel) (by decide +kernel)
set_option maxRecDepth 20000 in
theorem gL_prop_L_leading : GoodIn wsL_prop (va_wsS RL 32 yL_leading wsL_leading) := goodIn_app (goodIn_of _ (by decide +kernel)) ggL_prop_L_leading
theorem dL_prop_0 : decode cL_prop 0 = .ok (.iload_n 1, 1) := by decide +kernel
theorem dL_prop_1 : decode cL_prop 1 = .ok (.ifCond .ne 11, 3) := by decide +kernel
theorem dL_prop_4 : decode cL_prop 4 = .ok (.aload_n 0, 1) := by decide +kernel
theorem dL_prop_5 : decode cL_prop 5 = .ok (.iconst 0, 1) := by decide +kernel
theorem dL_prop_6 : decode cL_prop 6 = .ok (.bipush 11, 2) := by decide +kernel
theorem dL_prop_8 : decode cL_prop 8 = .ok (.invokestatic 28, 3) := by decide +kernel
theorem dL_prop_11 : decode cL_prop 11 = .ok (.ireturn, 1) := by decide +kernel
theorem dL_prop_12 : decode cL_prop 12 = .ok (.iload_n 1, 1) := by decide +kernel
theorem dL_prop_13 : decode cL_prop 13 = .ok (.iconst 5, 1) := by decide +kernel
theorem dL_prop_14 : decode cL_prop 14 = .ok (.if_icmp .ge 36, 3) := by decide +kernel
theorem dL_prop_17 : decode cL_prop 17 = .ok (.iconst 0, 1) := by decide +kernel
theorem dL_prop_18 : decode cL_prop 18 = .ok (.istore_n 3, 1) := by decide +kernel
theorem dL_prop_19 : decode cL_prop 19 = .ok (.iconst 0, 1) := by decide +kernel
theorem dL_prop_20 : decode cL_prop 20 = .ok (.istore 4, 2) := by decide +kernel
theorem dL_prop_22 : decode cL_prop 22 = .ok (.iload 4, 2) := by decide +kernel
theorem dL_prop_24 : decode cL_prop 24 = .ok (.bipush 12, 2) := by decide +kernel
theorem dL_prop_26 : decode cL_prop 26 = .ok (.if_icmp .ge 22, 3) := by decide +kernel
theorem dL_prop_29 : decode cL_prop 29 = .ok (.iload_n 3, 1) := by decide +kernel
theorem dL_prop_30 : decode cL_prop 30 = .ok (.aload_n 0, 1) := by decide +kernel
theorem dL_prop_31 : decode cL_prop 31 = .ok (.iconst 4, 1) := by decide +kernel
theorem dL_prop_32 : decode cL_prop 32 = .ok (.iload 4, 2) := by decide +kernel
theorem dL_prop_34 : decode cL_prop 34 = .ok (.imul, 1) := by decide +kernel
theorem dL_prop_35 : decode cL_prop 35 = .ok (.iload_n 1, 1) := by decide +kernel
theorem dL_prop_36 : decode cL_prop 36 = .ok (.iadd, 1) := by decide +kernel
theorem dL_prop_37 : decode cL_prop 37 = .ok (.iconst 1, 1) := by decide +kernel
theorem dL_prop_38 : decode cL_prop 38 = .ok (.isub, 1) := by decide +kernel
theorem dL_prop_39 : decode cL_prop 39 = .ok (.iaload, 1) := by decide +kernel
theorem dL_prop_40 : decode cL_prop 40 = .ok (.iadd, 1) := by decide +kernel
theorem dL_prop_41 : decode cL_prop 41 = .ok (.istore_n 3, 1) := by decide +kernel
theorem dL_prop_42 : decode cL_prop 42 = .ok (.iinc 4 1, 3) := by decide +kernel
theorem dL_prop_45 : decode cL_prop 45 = .ok (.goto (-23), 3) := by decide +kernel
theorem dL_prop_48 : decode cL_prop 48 = .ok (.iload_n 3, 1) := by decide +kernel
theorem dL_prop_49 : decode cL_prop 49 = .ok (.ireturn, 1) := by decide +kernel
theorem dL_prop_50 : decode cL_prop 50 = .ok (.bipush 12, 2) := by decide +kernel
theorem dL_prop_52 : decode cL_prop 52 = .ok (.istore_n 3, 1) := by decide +kernel
theorem dL_prop_53 : decode cL_prop 53 = .ok (.iload_n 3, 1) := by decide +kernel
theorem dL_prop_54 : decode cL_prop 54 = .ok (.ifCond .le 22, 3) := by decide +kernel
theorem dL_prop_57 : decode cL_prop 57 = .ok (.aload_n 0, 1) := by decide +kernel
theorem dL_prop_58 : decode cL_prop 58 = .ok (.iload_n 3, 1) := by decide +kernel
theorem dL_prop_59 : decode cL_prop 59 = .ok (.iconst 1, 1) := by decide +kernel
theorem dL_prop_60 : decode cL_prop 60 = .ok (.isub, 1) := by decide +kernel
theorem dL_prop_61 : decode cL_prop 61 = .ok (.invokestatic 9, 3) := by decide +kernel
theorem dL_prop_64 : decode cL_prop 64 = .ok (.aload_n 2, 1) := by decide +kernel
theorem dL_prop_65 : decode cL_prop 65 = .ok (.iconst 1, 1) := by decide +kernel
theorem dL_prop_66 : decode cL_prop 66 = .ok (.iaload, 1) := by decide +kernel
theorem dL_prop_67 : decode cL_prop 67 = .ok (.if_icmp .lt 9, 3) := by decide +kernel
theorem dL_prop_70 : decode cL_prop 70 = .ok (.iinc 3 (-1), 3) := by decide +kernel
theorem dL_prop_73 : decode cL_prop 73 = .ok (.goto (-20), 3) := by decide +kernel
theorem dL_prop_76 : decode cL_prop 76 = .ok (.iconst 0, 1) := by decide +kernel
theorem dL_prop_77 : decode cL_prop 77 = .ok (.istore 4, 2) := by decide +kernel
theorem dL_prop_79 : decode cL_prop 79 = .ok (.iload 4, 2) := by decide +kernel
theorem dL_prop_81 : decode cL_prop 81 = .ok (.bipush 12, 2) := by decide +kernel
theorem dL_prop_83 : decode cL_prop 83 = .ok (.if_icmp .ge 21, 3) := by decide +kernel
theorem dL_prop_86 : decode cL_prop 86 = .ok (.aload_n 0, 1) := by decide +kernel
theorem dL_prop_87 : decode cL_prop 87 = .ok (.iload 4, 2) := by decide +kernel
theorem dL_prop_89 : decode cL_prop 89 = .ok (.invokestatic 9, 3) := by decide +kernel
theorem dL_prop_92 : decode cL_prop 92 = .ok (.aload_n 2, 1) := by decide +kernel
theorem dL_prop_93 : decode cL_prop 93 = .ok (.iconst 2, 1) := by decide +kernel
theorem dL_prop_94 : decode cL_prop 94 = .ok (.iaload, 1) := by decide +kernel
theorem dL_prop_95 : decode cL_prop 95 = .ok (.if_icmp .gt 9, 3) := by decide +kernel
theorem dL_prop_98 : decode cL_prop 98 = .ok (.iinc 4 1, 3) := by decide +kernel
theorem dL_prop_101 : decode cL_prop 101 = .ok (.goto (-22), 3) := by decide +kernel
theorem dL_prop_104 : decode cL_prop 104 = .ok (.iload_n 1, 1) := by decide +kernel
theorem dL_prop_105 : decode cL_prop 105 = .ok (.bipush 8, 2) := by decide +kernel
theorem dL_prop_107 : decode cL_prop 107 = .ok (.if_icmp .ge 44, 3) := by decide +kernel
theorem dL_prop_110 : decode cL_prop 110 = .ok (.iload_n 1, 1) := by decide +kernel
theorem dL_prop_111 : decode cL_prop 111 = .ok (.iconst 5, 1) := by decide +kernel
theorem dL_prop_112 : decode cL_prop 112 = .ok (.if_icmp .ne 10, 3) := by decide +kernel
theorem dL_prop_115 : decode cL_prop 115 = .ok (.bipush 12, 2) := by decide +kernel
theorem dL_prop_117 : decode cL_prop 117 = .ok (.iload_n 3, 1) := by decide +kernel
theorem dL_prop_118 : decode cL_prop 118 = .ok (.isub, 1) := by decide +kernel
theorem dL_prop_119 : decode cL_prop 119 = .ok (.goto 31, 3) := by decide +kernel
theorem dL_prop_122 : decode cL_prop 122 = .ok (.iload_n 1, 1) := by decide +kernel
theorem dL_prop_123 : decode cL_prop 123 = .ok (.bipush 6, 2) := by decide +kernel
theorem dL_prop_125 : decode cL_prop 125 = .ok (.if_icmp .ne 8, 3) := by decide +kernel
theorem dL_prop_128 : decode cL_prop 128 = .ok (.iload 4, 2) := by decide +kernel
theorem dL_prop_130 : decode cL_prop 130 = .ok (.goto 20, 3) := by decide +kernel
theorem dL_prop_133 : decode cL_prop 133 = .ok (.iload_n 3, 1) := by decide +kernel
theorem dL_prop_134 : decode cL_prop 134 = .ok (.bipush 12, 2) := by decide +kernel
theorem dL_prop_136 : decode cL_prop 136 = .ok (.if_icmp .ne 7, 3) := by decide +kernel
theorem dL_prop_139 : decode cL_prop 139 = .ok (.iconst 0, 1) := by decide +kernel
theorem dL_prop_140 : decode cL_prop 140 = .ok (.goto 10, 3) := by decide +kernel
theorem dL_prop_143 : decode cL_prop 143 = .ok (.aload_n 0, 1) := by decide +kernel
theorem dL_prop_144 : decode cL_prop 144 = .ok (.iload_n 3, 1) := by decide +kernel
theorem dL_prop_145 : decode cL_prop 145 = .ok (.bipush 11, 2) := by decide +kernel
theorem dL_prop_147 : decode cL_prop 147 = .ok (.invokestatic 28, 3) := by decide +kernel
theorem dL_prop_150 : decode cL_prop 150 = .ok (.ireturn, 1) := by decide +kernel
theorem dL_prop_151 : decode cL_prop 151 = .ok (.iconst 0, 1) := by decide +kernel
theorem dL_prop_152 : decode cL_prop 152 = .ok (.istore 5, 2) := by decide +kernel
theorem dL_prop_154 : decode cL_prop 154 = .ok (.iconst (-1), 1) := by decide +kernel
theorem dL_prop_155 : decode cL_prop 155 = .ok (.istore 6, 2) := by decide +kernel
theorem dL_prop_157 : decode cL_prop 157 = .ok (.bipush 11, 2) := by decide +kernel
theorem dL_prop_159 : decode cL_prop 159 = .ok (.istore 7, 2) := by decide +kernel
theorem dL_prop_161 : decode cL_prop 161 = .ok (.iload 7, 2) := by decide +kernel
theorem dL_prop_163 : decode cL_prop 163 = .ok (.ifCond .lt 51, 3) := by decide +kernel
theorem dL_prop_166 : decode cL_prop 166 = .ok (.aload_n 0, 1) := by decide +kernel
theorem dL_prop_167 : decode cL_prop 167 = .ok (.iload 7, 2) := by decide +kernel
theorem dL_prop_169 : decode cL_prop 169 = .ok (.invokestatic 32, 3) := by decide +kernel
theorem dL_prop_172 : decode cL_prop 172 = .ok (.istore 8, 2) := by decide +kernel
theorem dL_prop_174 : decode cL_prop 174 = .ok (.iload 8, 2) := by decide +kernel
theorem dL_prop_176 : decode cL_prop 176 = .ok (.ifCond .ge 6, 3) := by decide +kernel
theorem dL_prop_179 : decode cL_prop 179 = .ok (.goto 29, 3) := by decide +kernel
theorem dL_prop_182 : decode cL_prop 182 = .ok (.iload 5, 2) := by decide +kernel
theorem dL_prop_184 : decode cL_prop 184 = .ok (.iload 6, 2) := by decide +kernel
theorem dL_prop_186 : decode cL_prop 186 = .ok (.ifCond .lt 14, 3) := by decide +kernel
theorem dL_prop_189 : decode cL_prop 189 = .ok (.iload 6, 2) := by decide +kernel
theorem dL_prop_191 : decode cL_prop 191 = .ok (.iload 8, 2) := by decide +kernel
theorem dL_prop_193 : decode cL_prop 193 = .ok (.if_icmp .eq 7, 3) := by decide +kernel
theorem dL_prop_196 : decode cL_prop 196 = .ok (.iconst 1, 1) := by decide +kernel
theorem dL_prop_197 : decode cL_prop 197 = .ok (.goto 4, 3) := by decide +kernel
theorem dL_prop_200 : decode cL_prop 200 = .ok (.iconst 0, 1) := by decide +kernel
theorem dL_prop_201 : decode cL_prop 201 = .ok (.iadd, 1) := by decide +kernel
theorem dL_prop_202 : decode cL_prop 202 = .ok (.istore 5, 2) := by decide +kernel
theorem dL_prop_204 : decode cL_prop 204 = .ok (.iload 8, 2) := by decide +kernel
theorem dL_prop_206 : decode cL_prop 206 = .ok (.istore 6, 2) := by decide +kernel
theorem dL_prop_208 : decode cL_prop 208 = .ok (.iinc 7 (-1), 3) := by decide +kernel
theorem dL_prop_211 : decode cL_prop 211 = .ok (.goto (-50), 3) := by decide +kernel
theorem dL_prop_214 : decode cL_prop 214 = .ok (.iload 5, 2) := by decide +kernel
theorem dL_prop_216 : decode cL_prop 216 = .ok (.ireturn, 1) := by decide +kernel
set_option maxRecDepth 20000 in
theorem ggL_why_L_room : GoodIn wsL_why wsL_room := goodIn_r _ [4, 5, 6, 3, 7] (by decide +kernel) (by decide +kernel)
set_option maxRecDepth 20000 in
theorem gL_why_L_room : GoodIn wsL_why (va_wsS RL 25 yL_room wsL_room) := goodIn_app (goodIn_of _ (by decide +kernel)) ggL_why_L_room
set_option maxRecDepth 20000 in
theorem ggL_why_L_factor : GoodIn wsL_why wsL_factor := goodIn_r _ [10, 11, 5, 6, 3, 7] (by decide +kernel) (by decide +kernel)
set_option maxRecDepth 20000 in
theorem gL_why_L_factor : GoodIn wsL_why (va_wsS RL 17 yL_factor wsL_factor) := goodIn_app (goodIn_of _ (by decide +kernel)) ggL_why_L_factor
set_option maxRecDepth 20000 in
theorem ggL_why_L_wish : GoodIn wsL_why wsL_wish := goodIn_r _ [14, 15] (by decide +kernel) (by decide +kernel)
set_option maxRecDepth 20000 in
theorem gL_why_L_wish : GoodIn wsL_why (va_wsS RL 21 yL_wish wsL_wish) := goodIn_app (goodIn_of _ (by decide +kernel)) ggL_why_L_wish
theorem dL_why_0 : decode cL_why 0 = .ok (.iload_n 1, 1) := by decide +kernel
theorem dL_why_1 : decode cL_why 1 = .ok (.bipush 11, 2) := by decide +kernel
theorem dL_why_3 : decode cL_why 3 = .ok (.if_icmp .ne 5, 3) := by decide +kernel
theorem dL_why_6 : decode cL_why 6 = .ok (.iconst 1, 1) := by decide +kernel
theorem dL_why_7 : decode cL_why 7 = .ok (.ireturn, 1) := by decide +kernel
theorem dL_why_8 : decode cL_why 8 = .ok (.aload_n 0, 1) := by decide +kernel
theorem dL_why_9 : decode cL_why 9 = .ok (.iconst 4, 1) := by decide +kernel
theorem dL_why_10 : decode cL_why 10 = .ok (.iload_n 1, 1) := by decide +kernel
theorem dL_why_11 : decode cL_why 11 = .ok (.imul, 1) := by decide +kernel
theorem dL_why_12 : decode cL_why 12 = .ok (.iload_n 2, 1) := by decide +kernel
theorem dL_why_13 : decode cL_why 13 = .ok (.iadd, 1) := by decide +kernel
theorem dL_why_14 : decode cL_why 14 = .ok (.iaload, 1) := by decide +kernel
theorem dL_why_15 : decode cL_why 15 = .ok (.istore 4, 2) := by decide +kernel
theorem dL_why_17 : decode cL_why 17 = .ok (.iload 4, 2) := by decide +kernel
theorem dL_why_19 : decode cL_why 19 = .ok (.ifCond .ne 7, 3) := by decide +kernel
theorem dL_why_22 : decode cL_why 22 = .ok (.iconst 2, 1) := by decide +kernel
theorem dL_why_23 : decode cL_why 23 = .ok (.goto 43, 3) := by decide +kernel
theorem dL_why_26 : decode cL_why 26 = .ok (.aload_n 0, 1) := by decide +kernel
theorem dL_why_27 : decode cL_why 27 = .ok (.iload_n 1, 1) := by decide +kernel
theorem dL_why_28 : decode cL_why 28 = .ok (.iconst 1, 1) := by decide +kernel
theorem dL_why_29 : decode cL_why 29 = .ok (.iadd, 1) := by decide +kernel
theorem dL_why_30 : decode cL_why 30 = .ok (.aload_n 3, 1) := by decide +kernel
theorem dL_why_31 : decode cL_why 31 = .ok (.invokestatic 25, 3) := by decide +kernel
theorem dL_why_34 : decode cL_why 34 = .ok (.ifCond .ne 7, 3) := by decide +kernel
theorem dL_why_37 : decode cL_why 37 = .ok (.iconst 3, 1) := by decide +kernel
theorem dL_why_38 : decode cL_why 38 = .ok (.goto 28, 3) := by decide +kernel
theorem dL_why_41 : decode cL_why 41 = .ok (.iload 4, 2) := by decide +kernel
theorem dL_why_43 : decode cL_why 43 = .ok (.aload_n 3, 1) := by decide +kernel
theorem dL_why_44 : decode cL_why 44 = .ok (.iconst 4, 1) := by decide +kernel
theorem dL_why_45 : decode cL_why 45 = .ok (.iload_n 2, 1) := by decide +kernel
theorem dL_why_46 : decode cL_why 46 = .ok (.iadd, 1) := by decide +kernel
theorem dL_why_47 : decode cL_why 47 = .ok (.iaload, 1) := by decide +kernel
theorem dL_why_48 : decode cL_why 48 = .ok (.aload_n 0, 1) := by decide +kernel
theorem dL_why_49 : decode cL_why 49 = .ok (.iload_n 1, 1) := by decide +kernel
theorem dL_why_50 : decode cL_why 50 = .ok (.aload_n 3, 1) := by decide +kernel
theorem dL_why_51 : decode cL_why 51 = .ok (.invokestatic 17, 3) := by decide +kernel
theorem dL_why_54 : decode cL_why 54 = .ok (.aload_n 3, 1) := by decide +kernel
theorem dL_why_55 : decode cL_why 55 = .ok (.invokestatic 21, 3) := by decide +kernel
theorem dL_why_58 : decode cL_why 58 = .ok (.ifCond .ne 7, 3) := by decide +kernel
theorem dL_why_61 : decode cL_why 61 = .ok (.iconst 4, 1) := by decide +kernel
theorem dL_why_62 : decode cL_why 62 = .ok (.goto 4, 3) := by decide +kernel
theorem dL_why_65 : decode cL_why 65 = .ok (.iconst 0, 1) := by decide +kernel
theorem dL_why_66 : decode cL_why 66 = .ok (.ireturn, 1) := by decide +kernel
set_option maxRecDepth 20000 in
theorem ggL_toldJar_X5_slice : GoodIn wsL_toldJar wsX5_slice := goodIn_ca (goodIn_ca (goodIn_r _ [6, 7, 8, 9, 10, 11, 5, 12, 13, 14, 15, 16, 17, 18, 19, 20, 21, 22, 23, 24, 25, 26, 27, 28, 29, 30, 31, 32, 33, 34, 35, 36, 37, 38, 39, 40, 41, 42, 43, 44, 45, 46, 47, 48, 49, 50, 51, 52, 53, 54, 55, 56, 57, 58, 59, 60, 61, 62, 63, 168, 169, 170, 171, 172, 173, 174, 175, 176, 177, 178, 179, 180] (by decide +kernel) (by decide +kernel)) (goodIn_sub (fun _ h => List.mem_cons_of_mem _ (List.mem_append_left _ (List.mem_append_right _ h))) (by decide +kernel))) (goodIn_sub (fun _ h => List.mem_cons_of_mem _ (List.mem_append_right _ h)) (by decide +kernel))
set_option maxRecDepth 20000 in
theorem gL_toldJar_X5_slice : GoodIn wsL_toldJar (wsV RL 35 RX5 yX5_slice wsX5_slice) := goodIn_app (goodIn_of _ (by decide +kernel)) ggL_toldJar_X5_slice
set_option maxRecDepth 20000 in
theorem ggL_toldJar_X5_why : GoodIn wsL_toldJar wsX5_why := goodIn_ca (goodIn_r _ [67, 7, 8, 9, 10, 11, 5, 12, 13, 14, 15, 16, 17, 68, 69, 70, 26, 71, 32, 33, 34, 35, 36, 28, 29, 30, 31, 60, 61, 62, 40, 63, 42, 56, 57, 58, 59, 51, 52, 53, 54, 55, 72, 73, 74, 75, 76, 77, 78, 79, 80, 168, 169, 170, 171, 172, 173, 174, 175, 176, 177, 178, 179, 180] (by decide +kernel) (by decide +kernel)) (goodIn_sub (fun _ h => List.mem_cons_of_mem _ (List.mem_append_left _ (List.mem_append_right _ h))) (by decide +kernel))
set_option maxRecDepth 20000 in
theorem gL_toldJar_X5_why : GoodIn wsL_toldJar (wsV RL 41 RX5 yX5_why wsX5_why) := goodIn_app (goodIn_of _ (by decide +kernel)) ggL_toldJar_X5_why
set_option maxRecDepth 20000 in
theorem ggL_toldJar_L_why : GoodIn wsL_toldJar wsL_why := goodIn_r _ [84, 85, 86, 83, 87, 88, 89, 90, 91, 92, 93, 94, 95, 96, 97, 98] (by decide +kernel) (by decide +kernel)
set_option maxRecDepth 20000 in
theorem gL_toldJar_L_why : GoodIn wsL_toldJar (va_wsS RL 44 yL_why wsL_why) := goodIn_app (goodIn_of _ (by decide +kernel)) ggL_toldJar_L_why
set_option maxRecDepth 20000 in
theorem ggL_toldJar_L_all : GoodIn wsL_toldJar wsL_all := goodIn_r _ [90] (by decide +kernel) (by decide +kernel)
set_option maxRecDepth 20000 in
theorem gL_toldJar_L_all : GoodIn wsL_toldJar (va_wsS RL 9 yL_all wsL_all) := goodIn_app (goodIn_of _ (by decide +kernel)) ggL_toldJar_L_all
set_option maxRecDepth 20000 in
theorem ggL_toldJar_L_leading : GoodIn wsL_toldJar wsL_leading := goodIn_r _ [101] (by decide +kernel) (by decide +kernel)
set_option maxRecDepth 20000 in
theorem gL_toldJar_L_leading : GoodIn wsL_toldJar (va_wsS RL 32 yL_leading wsL_leading) := goodIn_app (goodIn_of _ (by decide +kernel)) ggL_toldJar_L_leading
set_option maxRecDepth 20000 in
theorem ggL_toldJar_L_factor : GoodIn wsL_toldJar wsL_factor := goodIn_r _ [93, 94, 88, 89, 83, 90] (by decide +kernel) (by decide +kernel)
set_option maxRecDepth 20000 in
theorem gL_toldJar_L_factor : GoodIn wsL_toldJar (va_wsS RL 17 yL_factor wsL_factor) := goodIn_app (goodIn_of _ (by decide +kernel)) ggL_toldJar_L_factor
set_option maxRecDepth 20000 in
theorem ggL_toldJar_L_room : GoodIn wsL_toldJar wsL_room := goodIn_r _ [87, 88, 89, 83, 90] (by decide +kernel) (by decide +kernel)
set_option maxRecDepth 20000 in
theorem gL_toldJar_L_room : GoodIn wsL_toldJar (va_wsS RL 25 yL_room wsL_room) := goodIn_app (goodIn_of _ (by decide +kernel)) ggL_toldJar_L_room
set_option maxRecDepth 20000 in
theorem ggL_toldJar_X5_jar : GoodIn wsL_toldJar wsX5_jar := goodIn_ca (goodIn_ca (goodIn_r _ [105, 7, 8, 9, 13, 14, 5, 15, 16, 17, 18, 19, 20, 21, 22, 106, 107, 108, 26, 109, 110, 111, 112, 113, 114, 115, 116, 117, 28, 29, 30, 31, 32, 33, 34, 35, 36, 118, 119, 120, 121, 37, 38, 39, 40, 41, 42, 122, 123, 124, 125, 43, 44, 45, 46, 126, 127, 128, 129, 47, 48, 49, 50, 130, 131, 132, 133, 134, 69, 70, 71, 60, 61, 62, 63, 56, 57, 58, 59, 51, 52, 53, 54, 55, 72, 73, 74, 75, 76, 77, 78, 79, 80, 135, 136, 137, 138, 168, 169, 170, 171, 172, 173, 174, 175, 176, 177, 178, 179, 180] (by decide +kernel) (by decide +kernel)) (goodIn_sub (fun _ h => List.mem_cons_of_mem _ (List.mem_append_left _ (List.mem_append_right _ h))) (by decide +kernel))) (goodIn_sub (fun _ h => List.mem_cons_of_mem _ (List.mem_append_right _ h)) (by decide +kernel))
set_option maxRecDepth 20000 in
theorem gL_toldJar_X5_jar : GoodIn wsL_toldJar (wsV RL 47 RX5 yX5_jar wsX5_jar) := goodIn_app (goodIn_of _ (by decide +kernel)) ggL_toldJar_X5_jar
set_option maxRecDepth 20000 in
theorem ggL_toldJar_L_prop : GoodIn wsL_toldJar wsL_prop := goodIn_r _ [141, 142, 143, 83, 144, 88, 89, 90, 99, 100, 101] (by decide +kernel) (by decide +kernel)
set_option maxRecDepth 20000 in
theorem gL_toldJar_L_prop : GoodIn wsL_toldJar (va_wsS RL 51 yL_prop wsL_prop) := goodIn_app (goodIn_of _ (by decide +kernel)) ggL_toldJar_L_prop
set_option maxRecDepth 20000 in
theorem ggL_toldJar_L_at : GoodIn wsL_toldJar wsL_at := goodIn_r _ [147] (by decide +kernel) (by decide +kernel)
set_option maxRecDepth 20000 in
theorem gL_toldJar_L_at : GoodIn wsL_toldJar (va_wsS RL 54 yL_at wsL_at) := goodIn_app (goodIn_of _ (by decide +kernel)) ggL_toldJar_L_at
set_option maxRecDepth 20000 in
theorem ggL_toldJar_X5_purest : GoodIn wsL_toldJar wsX5_purest := goodIn_ca (goodIn_r _ [151, 7, 8, 13, 14, 5, 15, 16, 17, 152, 153, 154, 26, 155, 32, 33, 34, 35, 36, 28, 29, 30, 31, 168, 169, 170, 171, 172, 173, 174, 175, 176, 177, 178] (by decide +kernel) (by decide +kernel)) (goodIn_sub (fun _ h => List.mem_cons_of_mem _ (List.mem_append_left _ (List.mem_append_right _ h))) (by decide +kernel))
set_option maxRecDepth 20000 in
theorem gL_toldJar_X5_purest : GoodIn wsL_toldJar (wsV RL 57 RX5 yX5_purest wsX5_purest) := goodIn_app (goodIn_of _ (by decide +kernel)) ggL_toldJar_X5_purest
set_option maxRecDepth 20000 in
theorem ggL_toldJar_X5_meanDepth : GoodIn wsL_toldJar wsX5_meanDepth := goodIn_ca (goodIn_r _ [159, 7, 8, 13, 14, 5, 15, 16, 17, 160, 111, 112, 26, 113, 114, 115, 116, 117, 28, 29, 30, 31, 32, 33, 34, 35, 36, 161, 162, 163, 164, 168, 169, 170, 171, 172, 173, 174, 175, 176, 177, 178] (by decide +kernel) (by decide +kernel)) (goodIn_sub (fun _ h => List.mem_cons_of_mem _ (List.mem_append_left _ (List.mem_append_right _ h))) (by decide +kernel))
set_option maxRecDepth 20000 in
theorem gL_toldJar_X5_meanDepth : GoodIn wsL_toldJar (wsV RL 60 RX5 yX5_meanDepth wsX5_meanDepth) := goodIn_app (goodIn_of _ (by decide +kernel)) ggL_toldJar_X5_meanDepth
set_option maxRecDepth 20000 in
theorem ggL_toldJar_L_step : GoodIn wsL_toldJar wsL_step := goodIn_r _ [167, 91, 92, 83, 93, 94, 88, 89, 90, 95, 96, 97, 98, 85, 86, 87] (by decide +kernel) (by decide +kernel)
set_option maxRecDepth 20000 in
theorem gL_toldJar_L_step : GoodIn wsL_toldJar (va_wsS RL 64 yL_step wsL_step) := goodIn_app (goodIn_of _ (by decide +kernel)) ggL_toldJar_L_step
theorem dL_toldJar_0 : decode cL_toldJar 0 = .ok (.bipush 48, 2) := by decide +kernel
theorem dL_toldJar_2 : decode cL_toldJar 2 = .ok (.newarray .int, 2) := by decide +kernel
theorem dL_toldJar_4 : decode cL_toldJar 4 = .ok (.astore 5, 2) := by decide +kernel
theorem dL_toldJar_6 : decode cL_toldJar 6 = .ok (.lconst 0, 1) := by decide +kernel
theorem dL_toldJar_7 : decode cL_toldJar 7 = .ok (.lstore 6, 2) := by decide +kernel
theorem dL_toldJar_9 : decode cL_toldJar 9 = .ok (.iconst 0, 1) := by decide +kernel
theorem dL_toldJar_10 : decode cL_toldJar 10 = .ok (.istore 8, 2) := by decide +kernel
theorem dL_toldJar_12 : decode cL_toldJar 12 = .ok (.iload 8, 2) := by decide +kernel
theorem dL_toldJar_14 : decode cL_toldJar 14 = .ok (.bipush 12, 2) := by decide +kernel
theorem dL_toldJar_16 : decode cL_toldJar 16 = .ok (.if_icmp .ge 221, 3) := by decide +kernel
theorem dL_toldJar_19 : decode cL_toldJar 19 = .ok (.iconst 0, 1) := by decide +kernel
theorem dL_toldJar_20 : decode cL_toldJar 20 = .ok (.istore 9, 2) := by decide +kernel
theorem dL_toldJar_22 : decode cL_toldJar 22 = .ok (.iload 9, 2) := by decide +kernel
theorem dL_toldJar_24 : decode cL_toldJar 24 = .ok (.iconst 4, 1) := by decide +kernel
theorem dL_toldJar_25 : decode cL_toldJar 25 = .ok (.if_icmp .ge 54, 3) := by decide +kernel
theorem dL_toldJar_28 : decode cL_toldJar 28 = .ok (.aload_n 0, 1) := by decide +kernel
theorem dL_toldJar_29 : decode cL_toldJar 29 = .ok (.iload_n 1, 1) := by decide +kernel
theorem dL_toldJar_30 : decode cL_toldJar 30 = .ok (.iload 8, 2) := by decide +kernel
theorem dL_toldJar_32 : decode cL_toldJar 32 = .ok (.iload 9, 2) := by decide +kernel
theorem dL_toldJar_34 : decode cL_toldJar 34 = .ok (.invokevirtual 35, 3) := by decide +kernel
theorem dL_toldJar_37 : decode cL_toldJar 37 = .ok (.aload_n 3, 1) := by decide +kernel
theorem dL_toldJar_38 : decode cL_toldJar 38 = .ok (.iconst 4, 1) := by decide +kernel
theorem dL_toldJar_39 : decode cL_toldJar 39 = .ok (.iload 8, 2) := by decide +kernel
theorem dL_toldJar_41 : decode cL_toldJar 41 = .ok (.imul, 1) := by decide +kernel
theorem dL_toldJar_42 : decode cL_toldJar 42 = .ok (.iload 9, 2) := by decide +kernel
theorem dL_toldJar_44 : decode cL_toldJar 44 = .ok (.iadd, 1) := by decide +kernel
theorem dL_toldJar_45 : decode cL_toldJar 45 = .ok (.iaload, 1) := by decide +kernel
theorem dL_toldJar_46 : decode cL_toldJar 46 = .ok (.if_icmp .ne 25, 3) := by decide +kernel
theorem dL_toldJar_49 : decode cL_toldJar 49 = .ok (.aload_n 0, 1) := by decide +kernel
theorem dL_toldJar_50 : decode cL_toldJar 50 = .ok (.iload_n 1, 1) := by decide +kernel
theorem dL_toldJar_51 : decode cL_toldJar 51 = .ok (.iload 8, 2) := by decide +kernel
theorem dL_toldJar_53 : decode cL_toldJar 53 = .ok (.iload 9, 2) := by decide +kernel
theorem dL_toldJar_55 : decode cL_toldJar 55 = .ok (.invokevirtual 41, 3) := by decide +kernel
theorem dL_toldJar_58 : decode cL_toldJar 58 = .ok (.aload_n 3, 1) := by decide +kernel
theorem dL_toldJar_59 : decode cL_toldJar 59 = .ok (.iload 8, 2) := by decide +kernel
theorem dL_toldJar_61 : decode cL_toldJar 61 = .ok (.iload 9, 2) := by decide +kernel
theorem dL_toldJar_63 : decode cL_toldJar 63 = .ok (.aload 4, 2) := by decide +kernel
theorem dL_toldJar_65 : decode cL_toldJar 65 = .ok (.invokestatic 44, 3) := by decide +kernel
theorem dL_toldJar_68 : decode cL_toldJar 68 = .ok (.if_icmp .eq 5, 3) := by decide +kernel
theorem dL_toldJar_71 : decode cL_toldJar 71 = .ok (.iconst 0, 1) := by decide +kernel
theorem dL_toldJar_72 : decode cL_toldJar 72 = .ok (.ireturn, 1) := by decide +kernel
theorem dL_toldJar_73 : decode cL_toldJar 73 = .ok (.iinc 9 1, 3) := by decide +kernel
theorem dL_toldJar_76 : decode cL_toldJar 76 = .ok (.goto (-54), 3) := by decide +kernel
theorem dL_toldJar_79 : decode cL_toldJar 79 = .ok (.aload_n 0, 1) := by decide +kernel
theorem dL_toldJar_80 : decode cL_toldJar 80 = .ok (.iload_n 1, 1) := by decide +kernel
theorem dL_toldJar_81 : decode cL_toldJar 81 = .ok (.iload 8, 2) := by decide +kernel
theorem dL_toldJar_83 : decode cL_toldJar 83 = .ok (.iconst 4, 1) := by decide +kernel
theorem dL_toldJar_84 : decode cL_toldJar 84 = .ok (.invokevirtual 35, 3) := by decide +kernel
theorem dL_toldJar_87 : decode cL_toldJar 87 = .ok (.aload_n 3, 1) := by decide +kernel
theorem dL_toldJar_88 : decode cL_toldJar 88 = .ok (.iload 8, 2) := by decide +kernel
theorem dL_toldJar_90 : decode cL_toldJar 90 = .ok (.invokestatic 9, 3) := by decide +kernel
theorem dL_toldJar_93 : decode cL_toldJar 93 = .ok (.if_icmp .ne 120, 3) := by decide +kernel
theorem dL_toldJar_96 : decode cL_toldJar 96 = .ok (.aload_n 0, 1) := by decide +kernel
theorem dL_toldJar_97 : decode cL_toldJar 97 = .ok (.iload_n 1, 1) := by decide +kernel
theorem dL_toldJar_98 : decode cL_toldJar 98 = .ok (.iload 8, 2) := by decide +kernel
theorem dL_toldJar_100 : decode cL_toldJar 100 = .ok (.iconst 5, 1) := by decide +kernel
theorem dL_toldJar_101 : decode cL_toldJar 101 = .ok (.invokevirtual 35, 3) := by decide +kernel
theorem dL_toldJar_104 : decode cL_toldJar 104 = .ok (.aload_n 3, 1) := by decide +kernel
theorem dL_toldJar_105 : decode cL_toldJar 105 = .ok (.iload 8, 2) := by decide +kernel
theorem dL_toldJar_107 : decode cL_toldJar 107 = .ok (.invokestatic 9, 3) := by decide +kernel
theorem dL_toldJar_110 : decode cL_toldJar 110 = .ok (.aload 4, 2) := by decide +kernel
theorem dL_toldJar_112 : decode cL_toldJar 112 = .ok (.iconst 1, 1) := by decide +kernel
theorem dL_toldJar_113 : decode cL_toldJar 113 = .ok (.iaload, 1) := by decide +kernel
theorem dL_toldJar_114 : decode cL_toldJar 114 = .ok (.if_icmp .lt 7, 3) := by decide +kernel
theorem dL_toldJar_117 : decode cL_toldJar 117 = .ok (.iconst 1, 1) := by decide +kernel
theorem dL_toldJar_118 : decode cL_toldJar 118 = .ok (.goto 4, 3) := by decide +kernel
theorem dL_toldJar_121 : decode cL_toldJar 121 = .ok (.iconst 0, 1) := by decide +kernel
theorem dL_toldJar_122 : decode cL_toldJar 122 = .ok (.if_icmp .ne 91, 3) := by decide +kernel
theorem dL_toldJar_125 : decode cL_toldJar 125 = .ok (.aload_n 0, 1) := by decide +kernel
theorem dL_toldJar_126 : decode cL_toldJar 126 = .ok (.iload_n 1, 1) := by decide +kernel
theorem dL_toldJar_127 : decode cL_toldJar 127 = .ok (.iload 8, 2) := by decide +kernel
theorem dL_toldJar_129 : decode cL_toldJar 129 = .ok (.bipush 6, 2) := by decide +kernel
theorem dL_toldJar_131 : decode cL_toldJar 131 = .ok (.invokevirtual 35, 3) := by decide +kernel
theorem dL_toldJar_134 : decode cL_toldJar 134 = .ok (.aload_n 3, 1) := by decide +kernel
theorem dL_toldJar_135 : decode cL_toldJar 135 = .ok (.iload 8, 2) := by decide +kernel
theorem dL_toldJar_137 : decode cL_toldJar 137 = .ok (.invokestatic 9, 3) := by decide +kernel
theorem dL_toldJar_140 : decode cL_toldJar 140 = .ok (.aload 4, 2) := by decide +kernel
theorem dL_toldJar_142 : decode cL_toldJar 142 = .ok (.iconst 2, 1) := by decide +kernel
theorem dL_toldJar_143 : decode cL_toldJar 143 = .ok (.iaload, 1) := by decide +kernel
theorem dL_toldJar_144 : decode cL_toldJar 144 = .ok (.if_icmp .gt 7, 3) := by decide +kernel
theorem dL_toldJar_147 : decode cL_toldJar 147 = .ok (.iconst 1, 1) := by decide +kernel
theorem dL_toldJar_148 : decode cL_toldJar 148 = .ok (.goto 4, 3) := by decide +kernel
theorem dL_toldJar_151 : decode cL_toldJar 151 = .ok (.iconst 0, 1) := by decide +kernel
theorem dL_toldJar_152 : decode cL_toldJar 152 = .ok (.if_icmp .ne 61, 3) := by decide +kernel
theorem dL_toldJar_155 : decode cL_toldJar 155 = .ok (.aload_n 0, 1) := by decide +kernel
theorem dL_toldJar_156 : decode cL_toldJar 156 = .ok (.iload_n 1, 1) := by decide +kernel
theorem dL_toldJar_157 : decode cL_toldJar 157 = .ok (.iload 8, 2) := by decide +kernel
theorem dL_toldJar_159 : decode cL_toldJar 159 = .ok (.bipush 7, 2) := by decide +kernel
theorem dL_toldJar_161 : decode cL_toldJar 161 = .ok (.invokevirtual 35, 3) := by decide +kernel
theorem dL_toldJar_164 : decode cL_toldJar 164 = .ok (.aload_n 3, 1) := by decide +kernel
theorem dL_toldJar_165 : decode cL_toldJar 165 = .ok (.iload 8, 2) := by decide +kernel
theorem dL_toldJar_167 : decode cL_toldJar 167 = .ok (.invokestatic 32, 3) := by decide +kernel
theorem dL_toldJar_170 : decode cL_toldJar 170 = .ok (.if_icmp .ne 43, 3) := by decide +kernel
theorem dL_toldJar_173 : decode cL_toldJar 173 = .ok (.aload_n 0, 1) := by decide +kernel
theorem dL_toldJar_174 : decode cL_toldJar 174 = .ok (.iload_n 1, 1) := by decide +kernel
theorem dL_toldJar_175 : decode cL_toldJar 175 = .ok (.iload 8, 2) := by decide +kernel
theorem dL_toldJar_177 : decode cL_toldJar 177 = .ok (.bipush 8, 2) := by decide +kernel
theorem dL_toldJar_179 : decode cL_toldJar 179 = .ok (.invokevirtual 35, 3) := by decide +kernel
theorem dL_toldJar_182 : decode cL_toldJar 182 = .ok (.aload_n 3, 1) := by decide +kernel
theorem dL_toldJar_183 : decode cL_toldJar 183 = .ok (.iload 8, 2) := by decide +kernel
theorem dL_toldJar_185 : decode cL_toldJar 185 = .ok (.aload 4, 2) := by decide +kernel
theorem dL_toldJar_187 : decode cL_toldJar 187 = .ok (.invokestatic 17, 3) := by decide +kernel
theorem dL_toldJar_190 : decode cL_toldJar 190 = .ok (.if_icmp .ne 23, 3) := by decide +kernel
theorem dL_toldJar_193 : decode cL_toldJar 193 = .ok (.aload_n 0, 1) := by decide +kernel
theorem dL_toldJar_194 : decode cL_toldJar 194 = .ok (.iload_n 1, 1) := by decide +kernel
theorem dL_toldJar_195 : decode cL_toldJar 195 = .ok (.iload 8, 2) := by decide +kernel
theorem dL_toldJar_197 : decode cL_toldJar 197 = .ok (.bipush 9, 2) := by decide +kernel
theorem dL_toldJar_199 : decode cL_toldJar 199 = .ok (.invokevirtual 35, 3) := by decide +kernel
theorem dL_toldJar_202 : decode cL_toldJar 202 = .ok (.aload_n 3, 1) := by decide +kernel
theorem dL_toldJar_203 : decode cL_toldJar 203 = .ok (.iload 8, 2) := by decide +kernel
theorem dL_toldJar_205 : decode cL_toldJar 205 = .ok (.aload 4, 2) := by decide +kernel
theorem dL_toldJar_207 : decode cL_toldJar 207 = .ok (.invokestatic 25, 3) := by decide +kernel
theorem dL_toldJar_210 : decode cL_toldJar 210 = .ok (.if_icmp .eq 5, 3) := by decide +kernel
theorem dL_toldJar_213 : decode cL_toldJar 213 = .ok (.iconst 0, 1) := by decide +kernel
theorem dL_toldJar_214 : decode cL_toldJar 214 = .ok (.ireturn, 1) := by decide +kernel
theorem dL_toldJar_215 : decode cL_toldJar 215 = .ok (.lload 6, 2) := by decide +kernel
theorem dL_toldJar_217 : decode cL_toldJar 217 = .ok (.iload 8, 2) := by decide +kernel
theorem dL_toldJar_219 : decode cL_toldJar 219 = .ok (.i2l, 1) := by decide +kernel
theorem dL_toldJar_220 : decode cL_toldJar 220 = .ok (.aload_n 3, 1) := by decide +kernel
theorem dL_toldJar_221 : decode cL_toldJar 221 = .ok (.iload 8, 2) := by decide +kernel
theorem dL_toldJar_223 : decode cL_toldJar 223 = .ok (.invokestatic 9, 3) := by decide +kernel
theorem dL_toldJar_226 : decode cL_toldJar 226 = .ok (.i2l, 1) := by decide +kernel
theorem dL_toldJar_227 : decode cL_toldJar 227 = .ok (.lmul, 1) := by decide +kernel
theorem dL_toldJar_228 : decode cL_toldJar 228 = .ok (.ladd, 1) := by decide +kernel
theorem dL_toldJar_229 : decode cL_toldJar 229 = .ok (.lstore 6, 2) := by decide +kernel
theorem dL_toldJar_231 : decode cL_toldJar 231 = .ok (.iinc 8 1, 3) := by decide +kernel
theorem dL_toldJar_234 : decode cL_toldJar 234 = .ok (.goto (-222), 3) := by decide +kernel
theorem dL_toldJar_237 : decode cL_toldJar 237 = .ok (.iconst 0, 1) := by decide +kernel
theorem dL_toldJar_238 : decode cL_toldJar 238 = .ok (.istore 8, 2) := by decide +kernel
theorem dL_toldJar_240 : decode cL_toldJar 240 = .ok (.iload 8, 2) := by decide +kernel
theorem dL_toldJar_242 : decode cL_toldJar 242 = .ok (.bipush 9, 2) := by decide +kernel
theorem dL_toldJar_244 : decode cL_toldJar 244 = .ok (.if_icmp .ge 29, 3) := by decide +kernel
theorem dL_toldJar_247 : decode cL_toldJar 247 = .ok (.aload_n 0, 1) := by decide +kernel
theorem dL_toldJar_248 : decode cL_toldJar 248 = .ok (.iload_n 1, 1) := by decide +kernel
theorem dL_toldJar_249 : decode cL_toldJar 249 = .ok (.iload 8, 2) := by decide +kernel
theorem dL_toldJar_251 : decode cL_toldJar 251 = .ok (.invokevirtual 47, 3) := by decide +kernel
theorem dL_toldJar_254 : decode cL_toldJar 254 = .ok (.aload_n 3, 1) := by decide +kernel
theorem dL_toldJar_255 : decode cL_toldJar 255 = .ok (.iload 8, 2) := by decide +kernel
theorem dL_toldJar_257 : decode cL_toldJar 257 = .ok (.aload 4, 2) := by decide +kernel
theorem dL_toldJar_259 : decode cL_toldJar 259 = .ok (.invokestatic 51, 3) := by decide +kernel
theorem dL_toldJar_262 : decode cL_toldJar 262 = .ok (.if_icmp .eq 5, 3) := by decide +kernel
theorem dL_toldJar_265 : decode cL_toldJar 265 = .ok (.iconst 0, 1) := by decide +kernel
theorem dL_toldJar_266 : decode cL_toldJar 266 = .ok (.ireturn, 1) := by decide +kernel
theorem dL_toldJar_267 : decode cL_toldJar 267 = .ok (.iinc 8 1, 3) := by decide +kernel
theorem dL_toldJar_270 : decode cL_toldJar 270 = .ok (.goto (-30), 3) := by decide +kernel
theorem dL_toldJar_273 : decode cL_toldJar 273 = .ok (.iload_n 2, 1) := by decide +kernel
theorem dL_toldJar_274 : decode cL_toldJar 274 = .ok (.iconst 4, 1) := by decide +kernel
theorem dL_toldJar_275 : decode cL_toldJar 275 = .ok (.invokestatic 54, 3) := by decide +kernel
theorem dL_toldJar_278 : decode cL_toldJar 278 = .ok (.istore 8, 2) := by decide +kernel
theorem dL_toldJar_280 : decode cL_toldJar 280 = .ok (.iconst (-1), 1) := by decide +kernel
theorem dL_toldJar_281 : decode cL_toldJar 281 = .ok (.istore 9, 2) := by decide +kernel
theorem dL_toldJar_283 : decode cL_toldJar 283 = .ok (.bipush 11, 2) := by decide +kernel
theorem dL_toldJar_285 : decode cL_toldJar 285 = .ok (.istore 10, 2) := by decide +kernel
theorem dL_toldJar_287 : decode cL_toldJar 287 = .ok (.iload 10, 2) := by decide +kernel
theorem dL_toldJar_289 : decode cL_toldJar 289 = .ok (.ifCond .lt 70, 3) := by decide +kernel
theorem dL_toldJar_292 : decode cL_toldJar 292 = .ok (.aload_n 3, 1) := by decide +kernel
theorem dL_toldJar_293 : decode cL_toldJar 293 = .ok (.iconst 4, 1) := by decide +kernel
theorem dL_toldJar_294 : decode cL_toldJar 294 = .ok (.iload 10, 2) := by decide +kernel
theorem dL_toldJar_296 : decode cL_toldJar 296 = .ok (.imul, 1) := by decide +kernel
theorem dL_toldJar_297 : decode cL_toldJar 297 = .ok (.iload 8, 2) := by decide +kernel
theorem dL_toldJar_299 : decode cL_toldJar 299 = .ok (.iadd, 1) := by decide +kernel
theorem dL_toldJar_300 : decode cL_toldJar 300 = .ok (.iaload, 1) := by decide +kernel
theorem dL_toldJar_301 : decode cL_toldJar 301 = .ok (.ifCond .le 52, 3) := by decide +kernel
theorem dL_toldJar_304 : decode cL_toldJar 304 = .ok (.iload 9, 2) := by decide +kernel
theorem dL_toldJar_306 : decode cL_toldJar 306 = .ok (.ifCond .lt 43, 3) := by decide +kernel
theorem dL_toldJar_309 : decode cL_toldJar 309 = .ok (.aload_n 3, 1) := by decide +kernel
theorem dL_toldJar_310 : decode cL_toldJar 310 = .ok (.iconst 4, 1) := by decide +kernel
theorem dL_toldJar_311 : decode cL_toldJar 311 = .ok (.iload 10, 2) := by decide +kernel
theorem dL_toldJar_313 : decode cL_toldJar 313 = .ok (.imul, 1) := by decide +kernel
theorem dL_toldJar_314 : decode cL_toldJar 314 = .ok (.iload 8, 2) := by decide +kernel
theorem dL_toldJar_316 : decode cL_toldJar 316 = .ok (.iadd, 1) := by decide +kernel
theorem dL_toldJar_317 : decode cL_toldJar 317 = .ok (.iaload, 1) := by decide +kernel
theorem dL_toldJar_318 : decode cL_toldJar 318 = .ok (.i2l, 1) := by decide +kernel
theorem dL_toldJar_319 : decode cL_toldJar 319 = .ok (.aload_n 3, 1) := by decide +kernel
theorem dL_toldJar_320 : decode cL_toldJar 320 = .ok (.iload 9, 2) := by decide +kernel
theorem dL_toldJar_322 : decode cL_toldJar 322 = .ok (.invokestatic 9, 3) := by decide +kernel
theorem dL_toldJar_325 : decode cL_toldJar 325 = .ok (.i2l, 1) := by decide +kernel
theorem dL_toldJar_326 : decode cL_toldJar 326 = .ok (.lmul, 1) := by decide +kernel
theorem dL_toldJar_327 : decode cL_toldJar 327 = .ok (.aload_n 3, 1) := by decide +kernel
theorem dL_toldJar_328 : decode cL_toldJar 328 = .ok (.iconst 4, 1) := by decide +kernel
theorem dL_toldJar_329 : decode cL_toldJar 329 = .ok (.iload 9, 2) := by decide +kernel
theorem dL_toldJar_331 : decode cL_toldJar 331 = .ok (.imul, 1) := by decide +kernel
theorem dL_toldJar_332 : decode cL_toldJar 332 = .ok (.iload 8, 2) := by decide +kernel
theorem dL_toldJar_334 : decode cL_toldJar 334 = .ok (.iadd, 1) := by decide +kernel
theorem dL_toldJar_335 : decode cL_toldJar 335 = .ok (.iaload, 1) := by decide +kernel
theorem dL_toldJar_336 : decode cL_toldJar 336 = .ok (.i2l, 1) := by decide +kernel
theorem dL_toldJar_337 : decode cL_toldJar 337 = .ok (.aload_n 3, 1) := by decide +kernel
theorem dL_toldJar_338 : decode cL_toldJar 338 = .ok (.iload 10, 2) := by decide +kernel
theorem dL_toldJar_340 : decode cL_toldJar 340 = .ok (.invokestatic 9, 3) := by decide +kernel
theorem dL_toldJar_343 : decode cL_toldJar 343 = .ok (.i2l, 1) := by decide +kernel
theorem dL_toldJar_344 : decode cL_toldJar 344 = .ok (.lmul, 1) := by decide +kernel
theorem dL_toldJar_345 : decode cL_toldJar 345 = .ok (.lcmp, 1) := by decide +kernel
theorem dL_toldJar_346 : decode cL_toldJar 346 = .ok (.ifCond .lt 7, 3) := by decide +kernel
theorem dL_toldJar_349 : decode cL_toldJar 349 = .ok (.iload 10, 2) := by decide +kernel
theorem dL_toldJar_351 : decode cL_toldJar 351 = .ok (.istore 9, 2) := by decide +kernel
theorem dL_toldJar_353 : decode cL_toldJar 353 = .ok (.iinc 10 (-1), 3) := by decide +kernel
theorem dL_toldJar_356 : decode cL_toldJar 356 = .ok (.goto (-69), 3) := by decide +kernel
theorem dL_toldJar_359 : decode cL_toldJar 359 = .ok (.aload_n 3, 1) := by decide +kernel
theorem dL_toldJar_360 : decode cL_toldJar 360 = .ok (.iconst 0, 1) := by decide +kernel
theorem dL_toldJar_361 : decode cL_toldJar 361 = .ok (.aload 4, 2) := by decide +kernel
theorem dL_toldJar_363 : decode cL_toldJar 363 = .ok (.invokestatic 51, 3) := by decide +kernel
theorem dL_toldJar_366 : decode cL_toldJar 366 = .ok (.istore 10, 2) := by decide +kernel
theorem dL_toldJar_368 : decode cL_toldJar 368 = .ok (.aload_n 0, 1) := by decide +kernel
theorem dL_toldJar_369 : decode cL_toldJar 369 = .ok (.iload_n 1, 1) := by decide +kernel
theorem dL_toldJar_370 : decode cL_toldJar 370 = .ok (.iload 8, 2) := by decide +kernel
theorem dL_toldJar_372 : decode cL_toldJar 372 = .ok (.invokevirtual 57, 3) := by decide +kernel
theorem dL_toldJar_375 : decode cL_toldJar 375 = .ok (.iload 9, 2) := by decide +kernel
theorem dL_toldJar_377 : decode cL_toldJar 377 = .ok (.if_icmp .ne 30, 3) := by decide +kernel
theorem dL_toldJar_380 : decode cL_toldJar 380 = .ok (.aload_n 0, 1) := by decide +kernel
theorem dL_toldJar_381 : decode cL_toldJar 381 = .ok (.iload_n 1, 1) := by decide +kernel
theorem dL_toldJar_382 : decode cL_toldJar 382 = .ok (.invokevirtual 60, 3) := by decide +kernel
theorem dL_toldJar_385 : decode cL_toldJar 385 = .ok (.iload 10, 2) := by decide +kernel
theorem dL_toldJar_387 : decode cL_toldJar 387 = .ok (.ifCond .ne 7, 3) := by decide +kernel
theorem dL_toldJar_390 : decode cL_toldJar 390 = .ok (.dconst 0, 1) := by decide +kernel
theorem dL_toldJar_391 : decode cL_toldJar 391 = .ok (.goto 12, 3) := by decide +kernel
theorem dL_toldJar_394 : decode cL_toldJar 394 = .ok (.dconst 1, 1) := by decide +kernel
theorem dL_toldJar_395 : decode cL_toldJar 395 = .ok (.lload 6, 2) := by decide +kernel
theorem dL_toldJar_397 : decode cL_toldJar 397 = .ok (.l2d, 1) := by decide +kernel
theorem dL_toldJar_398 : decode cL_toldJar 398 = .ok (.dmul, 1) := by decide +kernel
theorem dL_toldJar_399 : decode cL_toldJar 399 = .ok (.iload 10, 2) := by decide +kernel
theorem dL_toldJar_401 : decode cL_toldJar 401 = .ok (.i2d, 1) := by decide +kernel
theorem dL_toldJar_402 : decode cL_toldJar 402 = .ok (.ddiv, 1) := by decide +kernel
theorem dL_toldJar_403 : decode cL_toldJar 403 = .ok (.dcmp .l, 1) := by decide +kernel
theorem dL_toldJar_404 : decode cL_toldJar 404 = .ok (.ifCond .eq 5, 3) := by decide +kernel
theorem dL_toldJar_407 : decode cL_toldJar 407 = .ok (.iconst 0, 1) := by decide +kernel
theorem dL_toldJar_408 : decode cL_toldJar 408 = .ok (.ireturn, 1) := by decide +kernel
theorem dL_toldJar_409 : decode cL_toldJar 409 = .ok (.iconst 0, 1) := by decide +kernel
theorem dL_toldJar_410 : decode cL_toldJar 410 = .ok (.istore 11, 2) := by decide +kernel
theorem dL_toldJar_412 : decode cL_toldJar 412 = .ok (.iload 11, 2) := by decide +kernel
theorem dL_toldJar_414 : decode cL_toldJar 414 = .ok (.bipush 48, 2) := by decide +kernel
theorem dL_toldJar_416 : decode cL_toldJar 416 = .ok (.if_icmp .ge 18, 3) := by decide +kernel
theorem dL_toldJar_419 : decode cL_toldJar 419 = .ok (.aload 5, 2) := by decide +kernel
theorem dL_toldJar_421 : decode cL_toldJar 421 = .ok (.iload 11, 2) := by decide +kernel
theorem dL_toldJar_423 : decode cL_toldJar 423 = .ok (.aload_n 3, 1) := by decide +kernel
theorem dL_toldJar_424 : decode cL_toldJar 424 = .ok (.iload 11, 2) := by decide +kernel
theorem dL_toldJar_426 : decode cL_toldJar 426 = .ok (.iaload, 1) := by decide +kernel
theorem dL_toldJar_427 : decode cL_toldJar 427 = .ok (.iastore, 1) := by decide +kernel
theorem dL_toldJar_428 : decode cL_toldJar 428 = .ok (.iinc 11 1, 3) := by decide +kernel
theorem dL_toldJar_431 : decode cL_toldJar 431 = .ok (.goto (-19), 3) := by decide +kernel
theorem dL_toldJar_434 : decode cL_toldJar 434 = .ok (.aload_n 0, 1) := by decide +kernel
theorem dL_toldJar_435 : decode cL_toldJar 435 = .ok (.iload_n 1, 1) := by decide +kernel
theorem dL_toldJar_436 : decode cL_toldJar 436 = .ok (.bipush 9, 2) := by decide +kernel
theorem dL_toldJar_438 : decode cL_toldJar 438 = .ok (.invokevirtual 47, 3) := by decide +kernel
theorem dL_toldJar_441 : decode cL_toldJar 441 = .ok (.aload 5, 2) := by decide +kernel
theorem dL_toldJar_443 : decode cL_toldJar 443 = .ok (.aload 4, 2) := by decide +kernel
theorem dL_toldJar_445 : decode cL_toldJar 445 = .ok (.invokestatic 64, 3) := by decide +kernel
theorem dL_toldJar_448 : decode cL_toldJar 448 = .ok (.ifCond .ne 7, 3) := by decide +kernel
theorem dL_toldJar_451 : decode cL_toldJar 451 = .ok (.iconst 1, 1) := by decide +kernel
theorem dL_toldJar_452 : decode cL_toldJar 452 = .ok (.goto 4, 3) := by decide +kernel
theorem dL_toldJar_455 : decode cL_toldJar 455 = .ok (.iconst 0, 1) := by decide +kernel
theorem dL_toldJar_456 : decode cL_toldJar 456 = .ok (.if_icmp .eq 5, 3) := by decide +kernel
theorem dL_toldJar_459 : decode cL_toldJar 459 = .ok (.iconst 0, 1) := by decide +kernel
theorem dL_toldJar_460 : decode cL_toldJar 460 = .ok (.ireturn, 1) := by decide +kernel
theorem dL_toldJar_461 : decode cL_toldJar 461 = .ok (.iconst 1, 1) := by decide +kernel
theorem dL_toldJar_462 : decode cL_toldJar 462 = .ok (.ireturn, 1) := by decide +kernel
set_option maxRecDepth 20000 in
set_option maxRecDepth 20000 in
theorem ggL_told_L_toldJar_r1 : GoodIn wsL_told wsL_toldJar_r1 := goodIn_r _ [5, 6, 7, 8, 9, 10, 11, 12, 13, 14, 15, 16, 17, 18, 19, 20, 21, 22, 23, 24, 25, 26, 27, 28] (by decide +kernel) (by decide +kernel)
set_option maxRecDepth 20000 in
theorem ggL_told_L_toldJar_r2 : GoodIn wsL_told wsL_toldJar_r2 := goodIn_r _ [29, 30, 31, 32, 33, 34, 35, 36, 37, 38, 39, 40, 41, 42, 43, 44, 45, 46, 47, 48, 49, 50, 51, 52] (by decide +kernel) (by decide +kernel)
set_option maxRecDepth 20000 in
theorem ggL_told_L_toldJar_r3 : GoodIn wsL_told wsL_toldJar_r3 := goodIn_r _ [53, 54, 55, 56, 57, 58, 59, 60, 61, 62, 63, 64, 65, 66, 67, 68, 69, 70, 71, 72, 73, 74, 75, 76] (by decide +kernel) (by decide +kernel)
set_option maxRecDepth 20000 in
theorem ggL_told_L_toldJar_r4 : GoodIn wsL_told wsL_toldJar_r4 := goodIn_r _ [77, 78, 79, 80, 81, 82, 83, 84, 85, 86, 3, 87, 88, 89, 90, 91, 92, 93, 94, 95, 96, 97, 98, 99] (by decide +kernel) (by decide +kernel)
set_option maxRecDepth 20000 in
theorem ggL_told_L_toldJar_r5 : GoodIn wsL_told wsL_toldJar_r5 := goodIn_r _ [100, 101, 102, 103, 104, 105, 106, 107, 108, 109, 110, 111, 112, 113, 114, 115, 116, 117, 118, 119, 120, 121, 122, 123] (by decide +kernel) (by decide +kernel)
set_option maxRecDepth 20000 in
theorem ggL_told_L_toldJar_r6_0 : GoodIn wsL_told ([Cond.code yX2_bedSlices cX2_bedSlices 3 (some .int), Cond.methodLink RX2 82 yX2_clearWater, Cond.instanceMethod yX2_clearWater, Cond.selects RX2 yX2_clearWater yX2_clearWater, Cond.code yX2_clearWater cX2_clearWater 3 (some .int), Cond.methodLink RX2 85 yX2_changesOfLeader, Cond.instanceMethod yX2_changesOfLeader, Cond.selects RX2 yX2_changesOfLeader yX2_changesOfLeader, Cond.code yX2_changesOfLeader cX2_changesOfLeader 5 (some .int), Cond.methodLink RX2 88 yX2_isAtRest, Cond.instanceMethod yX2_isAtRest, Cond.selects RX2 yX2_isAtRest yX2_isAtRest, Cond.code yX2_isAtRest cX2_isAtRest 4 (some .boolean), Cond.methodLink RX2 61 yX2_reasonToStay, Cond.methodLink RX2 92 yX2_allOf, Cond.instanceMethod yX2_allOf, Cond.selects RX2 yX2_allOf yX2_allOf, Cond.code yX2_allOf cX2_allOf 4 (some .int), Cond.methodLink RL 51 yL_prop, Cond.static yL_prop] : List Cond) := goodIn_r _ [124, 125, 126, 127, 128, 129, 130, 131, 132, 133, 134, 135, 136, 137, 138, 139, 140, 141, 142, 143] (by decide +kernel) (by decide +kernel)
set_option maxRecDepth 100000 in
theorem ggL_told_L_toldJar_r6_1 : Cond.code yL_prop cL_prop 9 (some .int) ∈ wsL_told := List.mem_of_getElem? (i := 144) rfl
set_option maxRecDepth 20000 in
theorem ggL_told_L_toldJar_r6_2 : GoodIn wsL_told ([Cond.methodLink RL 28 yL_sum, Cond.static yL_sum, Cond.code yL_sum cL_sum 5 (some .int)] : List Cond) := goodIn_r _ [145, 146, 147] (by decide +kernel) (by decide +kernel)
theorem ggL_told_L_toldJar_r6 : GoodIn wsL_told wsL_toldJar_r6 := by
  show GoodIn wsL_told (([Cond.code yX2_bedSlices cX2_bedSlices 3 (some .int), Cond.methodLink RX2 82 yX2_clearWater, Cond.instanceMethod yX2_clearWater, Cond.selects RX2 yX2_clearWater yX2_clearWater, Cond.code yX2_clearWater cX2_clearWater 3 (some .int), Cond.methodLink RX2 85 yX2_changesOfLeader, Cond.instanceMethod yX2_changesOfLeader, Cond.selects RX2 yX2_changesOfLeader yX2_changesOfLeader, Cond.code yX2_changesOfLeader cX2_changesOfLeader 5 (some .int), Cond.methodLink RX2 88 yX2_isAtRest, Cond.instanceMethod yX2_isAtRest, Cond.selects RX2 yX2_isAtRest yX2_isAtRest, Cond.code yX2_isAtRest cX2_isAtRest 4 (some .boolean), Cond.methodLink RX2 61 yX2_reasonToStay, Cond.methodLink RX2 92 yX2_allOf, Cond.instanceMethod yX2_allOf, Cond.selects RX2 yX2_allOf yX2_allOf, Cond.code yX2_allOf cX2_allOf 4 (some .int), Cond.methodLink RL 51 yL_prop, Cond.static yL_prop] : List Cond) ++ (Cond.code yL_prop cL_prop 9 (some .int) :: (([Cond.methodLink RL 28 yL_sum, Cond.static yL_sum, Cond.code yL_sum cL_sum 5 (some .int)] : List Cond))))
  exact goodIn_app ggL_told_L_toldJar_r6_0 (goodIn_k ggL_told_L_toldJar_r6_1 rfl (ggL_told_L_toldJar_r6_2))
set_option maxRecDepth 20000 in
theorem ggL_told_L_toldJar_r7 : GoodIn wsL_told wsL_toldJar_r7 := goodIn_r _ [148, 149, 150, 151, 152, 153, 154, 155, 156, 157, 158, 159, 160, 161, 162, 163, 164, 165, 166, 167, 168, 169, 170] (by decide +kernel) (by decide +kernel)
set_option maxRecDepth 20000 in
theorem ggL_told_L_toldJar_wsX50 : GoodIn wsL_told wsX50 := goodIn_r _ [225, 226, 227, 228] (by decide +kernel) (by decide +kernel)
set_option maxRecDepth 20000 in
theorem ggL_told_L_toldJar_wsX40 : GoodIn wsL_told wsX40 := goodIn_r _ [229, 230, 231, 232, 233, 234] (by decide +kernel) (by decide +kernel)
set_option maxRecDepth 20000 in
theorem ggL_told_L_toldJar_wsX20 : GoodIn wsL_told wsX20 := goodIn_r _ [235] (by decide +kernel) (by decide +kernel)
set_option maxRecDepth 20000 in
theorem ggL_told_L_toldJar_wsX30 : GoodIn wsL_told wsX30 := goodIn_r _ [236, 237] (by decide +kernel) (by decide +kernel)
set_option maxRecDepth 100000 in
theorem ggL_told_L_toldJar_hd : Cond.code yL_toldJar cL_toldJar 12 (some .boolean) ∈ wsL_told := List.mem_of_getElem? (i := 4) rfl
set_option maxRecDepth 20000 in
theorem ggL_told_L_toldJar : GoodIn wsL_told wsL_toldJar := goodIn_ca (goodIn_ca (goodIn_k ggL_told_L_toldJar_hd rfl (goodIn_app (goodIn_app (goodIn_app (goodIn_app (goodIn_app ggL_told_L_toldJar_r1 (goodIn_app ggL_told_L_toldJar_r2 (goodIn_app ggL_told_L_toldJar_r3 (goodIn_app ggL_told_L_toldJar_r4 (goodIn_app ggL_told_L_toldJar_r5 (goodIn_app ggL_told_L_toldJar_r6 ggL_told_L_toldJar_r7)))))) ggL_told_L_toldJar_wsX50) ggL_told_L_toldJar_wsX40) ggL_told_L_toldJar_wsX20) ggL_told_L_toldJar_wsX30)) (goodIn_sub (fun _ h => List.mem_cons_of_mem _ (List.mem_append_left _ (List.mem_append_right _ h))) (by decide +kernel))) (goodIn_sub (fun _ h => List.mem_cons_of_mem _ (List.mem_append_right _ h)) (by decide +kernel))
set_option maxRecDepth 20000 in
theorem gL_told_L_toldJar : GoodIn wsL_told (va_wsS RL 68 yL_toldJar wsL_toldJar) := goodIn_app (goodIn_of _ (by decide +kernel)) ggL_told_L_toldJar
set_option maxRecDepth 20000 in
theorem ggL_told_L_all : GoodIn wsL_told wsL_all := goodIn_r _ [93] (by decide +kernel) (by decide +kernel)
set_option maxRecDepth 20000 in
theorem gL_told_L_all : GoodIn wsL_told (va_wsS RL 9 yL_all wsL_all) := goodIn_app (goodIn_of _ (by decide +kernel)) ggL_told_L_all
set_option maxRecDepth 20000 in
theorem ggL_told_L_prop : GoodIn wsL_told wsL_prop := goodIn_r _ [144, 145, 146, 3, 147, 91, 92, 93, 102, 103, 104] (by decide +kernel) (by decide +kernel)
set_option maxRecDepth 20000 in
theorem gL_told_L_prop : GoodIn wsL_told (va_wsS RL 51 yL_prop wsL_prop) := goodIn_app (goodIn_of _ (by decide +kernel)) ggL_told_L_prop
set_option maxRecDepth 20000 in
theorem ggL_told_X5_setting : GoodIn wsL_told wsX5_setting := goodIn_ca (goodIn_r _ [174, 11, 13, 175, 17, 18, 9, 19, 20, 21, 225, 226, 227, 228, 229, 230, 231, 232, 233, 234, 236, 237] (by decide +kernel) (by decide +kernel)) (goodIn_sub (fun _ h => List.mem_cons_of_mem _ (List.mem_append_left _ (List.mem_append_right _ h))) (by decide +kernel))
set_option maxRecDepth 20000 in
theorem gL_told_X5_setting : GoodIn wsL_told (wsV RL 72 RX5 yX5_setting wsX5_setting) := goodIn_app (goodIn_of _ (by decide +kernel)) ggL_told_X5_setting
set_option maxRecDepth 20000 in
theorem ggL_told_X5_grains : GoodIn wsL_told wsX5_grains := goodIn_ca (goodIn_ca (goodIn_r _ [179, 11, 180, 181, 13, 182, 17, 18, 9, 19, 20, 21, 22, 23, 24, 25, 26, 183, 184, 185, 186, 187, 188, 189, 139, 140, 30, 141, 36, 37, 38, 39, 40, 225, 226, 227, 228, 229, 230, 231, 232, 233, 234, 236, 237, 235] (by decide +kernel) (by decide +kernel)) (goodIn_sub (fun _ h => List.mem_cons_of_mem _ (List.mem_append_left _ (List.mem_append_right _ h))) (by decide +kernel))) (goodIn_sub (fun _ h => List.mem_cons_of_mem _ (List.mem_append_right _ h)) (by decide +kernel))
set_option maxRecDepth 20000 in
theorem gL_told_X5_grains : GoodIn wsL_told (wsV RL 76 RX5 yX5_grains wsX5_grains) := goodIn_app (goodIn_of _ (by decide +kernel)) ggL_told_X5_grains
set_option maxRecDepth 20000 in
theorem ggL_told_X5_count : GoodIn wsL_told wsX5_count := goodIn_ca (goodIn_r _ [193, 11, 194, 195, 196, 22, 23, 9, 24, 25, 26, 197, 198, 199, 186, 200, 188, 201, 114, 115, 30, 116, 117, 118, 119, 120, 32, 33, 34, 35, 36, 37, 38, 39, 40, 202, 203, 204, 205, 206, 207, 208, 209, 210, 41, 42, 43, 44, 45, 46, 211, 212, 213, 214, 215, 216, 217, 218, 47, 48, 49, 50, 219, 220, 221, 222, 223, 224, 225, 226, 227, 228, 229, 230, 231, 232, 233, 234, 235, 236, 237, 238, 239, 240] (by decide +kernel) (by decide +kernel)) (goodIn_sub (fun _ h => List.mem_cons_of_mem _ (List.mem_append_right _ h)) (by decide +kernel))
set_option maxRecDepth 20000 in
theorem gL_told_X5_count : GoodIn wsL_told (wsV RL 79 RX5 yX5_count wsX5_count) := goodIn_app (goodIn_of _ (by decide +kernel)) ggL_told_X5_count
theorem dL_told_0 : decode cL_told 0 = .ok (.aload_n 0, 1) := by decide +kernel
