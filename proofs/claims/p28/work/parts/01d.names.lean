theorem dX5_stir_55 : decode cX5_stir 55 = .ok (.invokevirtual 89, 3) := by decide +kernel
theorem dX5_stir_58 : decode cX5_stir 58 = .ok (.iadd, 1) := by decide +kernel
theorem dX5_stir_59 : decode cX5_stir 59 = .ok (.istore 4, 2) := by decide +kernel
theorem dX5_stir_61 : decode cX5_stir 61 = .ok (.iinc 5 1, 3) := by decide +kernel
theorem dX5_stir_64 : decode cX5_stir 64 = .ok (.goto (-30), 3) := by decide +kernel
theorem dX5_stir_67 : decode cX5_stir 67 = .ok (.iload 4, 2) := by decide +kernel
theorem dX5_stir_69 : decode cX5_stir 69 = .ok (.ireturn, 1) := by decide +kernel
set_option maxRecDepth 20000 in
theorem ggX5_draw_X5_needSlice : GoodIn wsX5_draw wsX5_needSlice := goodIn_ca (goodIn_r _ [8, 9, 10, 7, 11, 12, 13] (by decide +kernel) (by decide +kernel)) (goodIn_sub (fun _ h => List.mem_cons_of_mem _ (List.mem_append_left _ (List.mem_append_right _ h))) (by decide +kernel))
set_option maxRecDepth 20000 in
theorem gX5_draw_X5_needSlice : GoodIn wsX5_draw (va_wsS RX5 68 yX5_needSlice wsX5_needSlice) := goodIn_app (goodIn_of _ (by decide +kernel)) ggX5_draw_X5_needSlice
set_option maxRecDepth 20000 in
theorem ggX5_draw_X5_needRange : GoodIn wsX5_draw wsX5_needRange := goodIn_ca (goodIn_r _ [16, 17, 18] (by decide +kernel) (by decide +kernel)) (goodIn_sub (fun _ h => List.mem_cons_of_mem _ (List.mem_append_right _ h)) (by decide +kernel))
set_option maxRecDepth 20000 in
theorem gX5_draw_X5_needRange : GoodIn wsX5_draw (va_wsS RX5 50 yX5_needRange wsX5_needRange) := goodIn_app (goodIn_of _ (by decide +kernel)) ggX5_draw_X5_needRange
set_option maxRecDepth 20000 in
theorem ggX5_draw_X1_keep : GoodIn wsX5_draw wsX1_keep := goodIn_r _ [23, 24, 25, 26, 27, 28, 29, 30, 31, 32, 33, 34, 35, 36, 37, 38, 39, 40, 41, 42, 43, 44, 45, 46, 47, 48, 49, 50, 51, 52, 53, 54, 55, 56, 75, 76, 77, 69, 70, 71, 72, 73, 74, 78, 79, 80] (by decide +kernel) (by decide +kernel)
set_option maxRecDepth 20000 in
theorem gX5_draw_X1_keep : GoodIn wsX5_draw (wsV RX5 54 RX1 yX1_keep wsX1_keep) := goodIn_app (goodIn_of _ (by decide +kernel)) ggX5_draw_X1_keep
set_option maxRecDepth 20000 in
theorem ggX5_draw_X2_many : GoodIn wsX5_draw wsX2_many := goodIn_r _ [60, 55, 80] (by decide +kernel) (by decide +kernel)
set_option maxRecDepth 20000 in
theorem gX5_draw_X2_many : GoodIn wsX5_draw (wsV RX5 93 RX2 yX2_many wsX2_many) := goodIn_app (goodIn_of _ (by decide +kernel)) ggX5_draw_X2_many
set_option maxRecDepth 20000 in
theorem ggX5_draw_X2_put : GoodIn wsX5_draw wsX2_put := goodIn_r _ [64, 55, 80] (by decide +kernel) (by decide +kernel)
set_option maxRecDepth 20000 in
theorem gX5_draw_X2_put : GoodIn wsX5_draw (wsV RX5 79 RX2 yX2_put wsX2_put) := goodIn_app (goodIn_of _ (by decide +kernel)) ggX5_draw_X2_put
theorem dX5_draw_0 : decode cX5_draw 0 = .ok (.iload_n 1, 1) := by decide +kernel
theorem dX5_draw_1 : decode cX5_draw 1 = .ok (.iload_n 2, 1) := by decide +kernel
theorem dX5_draw_2 : decode cX5_draw 2 = .ok (.invokestatic 68, 3) := by decide +kernel
theorem dX5_draw_5 : decode cX5_draw 5 = .ok (.iload_n 3, 1) := by decide +kernel
theorem dX5_draw_6 : decode cX5_draw 6 = .ok (.iconst 1, 1) := by decide +kernel
theorem dX5_draw_7 : decode cX5_draw 7 = .ok (.bipush 100, 2) := by decide +kernel
theorem dX5_draw_9 : decode cX5_draw 9 = .ok (.invokestatic 50, 3) := by decide +kernel
theorem dX5_draw_12 : decode cX5_draw 12 = .ok (.aload_n 0, 1) := by decide +kernel
theorem dX5_draw_13 : decode cX5_draw 13 = .ok (.getfield 19, 3) := by decide +kernel
theorem dX5_draw_16 : decode cX5_draw 16 = .ok (.aload_n 0, 1) := by decide +kernel
theorem dX5_draw_17 : decode cX5_draw 17 = .ok (.getfield 12, 3) := by decide +kernel
theorem dX5_draw_20 : decode cX5_draw 20 = .ok (.invokevirtual 54, 3) := by decide +kernel
theorem dX5_draw_23 : decode cX5_draw 23 = .ok (.aload_n 0, 1) := by decide +kernel
theorem dX5_draw_24 : decode cX5_draw 24 = .ok (.getfield 12, 3) := by decide +kernel
theorem dX5_draw_27 : decode cX5_draw 27 = .ok (.getfield 71, 3) := by decide +kernel
theorem dX5_draw_30 : decode cX5_draw 30 = .ok (.iload_n 1, 1) := by decide +kernel
theorem dX5_draw_31 : decode cX5_draw 31 = .ok (.aaload, 1) := by decide +kernel
theorem dX5_draw_32 : decode cX5_draw 32 = .ok (.astore 4, 2) := by decide +kernel
theorem dX5_draw_34 : decode cX5_draw 34 = .ok (.iconst 0, 1) := by decide +kernel
theorem dX5_draw_35 : decode cX5_draw 35 = .ok (.istore 5, 2) := by decide +kernel
theorem dX5_draw_37 : decode cX5_draw 37 = .ok (.iconst 0, 1) := by decide +kernel
theorem dX5_draw_38 : decode cX5_draw 38 = .ok (.istore 6, 2) := by decide +kernel
theorem dX5_draw_40 : decode cX5_draw 40 = .ok (.iload 6, 2) := by decide +kernel
theorem dX5_draw_42 : decode cX5_draw 42 = .ok (.iconst 4, 1) := by decide +kernel
theorem dX5_draw_43 : decode cX5_draw 43 = .ok (.if_icmp .ge 57, 3) := by decide +kernel
theorem dX5_draw_46 : decode cX5_draw 46 = .ok (.aload 4, 2) := by decide +kernel
theorem dX5_draw_48 : decode cX5_draw 48 = .ok (.iload_n 2, 1) := by decide +kernel
theorem dX5_draw_49 : decode cX5_draw 49 = .ok (.iload 6, 2) := by decide +kernel
theorem dX5_draw_51 : decode cX5_draw 51 = .ok (.invokevirtual 93, 3) := by decide +kernel
theorem dX5_draw_54 : decode cX5_draw 54 = .ok (.iload_n 3, 1) := by decide +kernel
theorem dX5_draw_55 : decode cX5_draw 55 = .ok (.imul, 1) := by decide +kernel
theorem dX5_draw_56 : decode cX5_draw 56 = .ok (.bipush 100, 2) := by decide +kernel
theorem dX5_draw_58 : decode cX5_draw 58 = .ok (.idiv, 1) := by decide +kernel
theorem dX5_draw_59 : decode cX5_draw 59 = .ok (.istore 7, 2) := by decide +kernel
theorem dX5_draw_61 : decode cX5_draw 61 = .ok (.aload 4, 2) := by decide +kernel
theorem dX5_draw_63 : decode cX5_draw 63 = .ok (.iload_n 2, 1) := by decide +kernel
theorem dX5_draw_64 : decode cX5_draw 64 = .ok (.iload 6, 2) := by decide +kernel
theorem dX5_draw_66 : decode cX5_draw 66 = .ok (.iload 7, 2) := by decide +kernel
theorem dX5_draw_68 : decode cX5_draw 68 = .ok (.ineg, 1) := by decide +kernel
theorem dX5_draw_69 : decode cX5_draw 69 = .ok (.invokevirtual 79, 3) := by decide +kernel
theorem dX5_draw_72 : decode cX5_draw 72 = .ok (.aload_n 0, 1) := by decide +kernel
theorem dX5_draw_73 : decode cX5_draw 73 = .ok (.getfield 12, 3) := by decide +kernel
theorem dX5_draw_76 : decode cX5_draw 76 = .ok (.getfield 97, 3) := by decide +kernel
theorem dX5_draw_79 : decode cX5_draw 79 = .ok (.iload 6, 2) := by decide +kernel
theorem dX5_draw_81 : decode cX5_draw 81 = .ok (.dup2, 1) := by decide +kernel
theorem dX5_draw_82 : decode cX5_draw 82 = .ok (.iaload, 1) := by decide +kernel
theorem dX5_draw_83 : decode cX5_draw 83 = .ok (.iload 7, 2) := by decide +kernel
theorem dX5_draw_85 : decode cX5_draw 85 = .ok (.iadd, 1) := by decide +kernel
theorem dX5_draw_86 : decode cX5_draw 86 = .ok (.iastore, 1) := by decide +kernel
theorem dX5_draw_87 : decode cX5_draw 87 = .ok (.iload 5, 2) := by decide +kernel
theorem dX5_draw_89 : decode cX5_draw 89 = .ok (.iload 7, 2) := by decide +kernel
theorem dX5_draw_91 : decode cX5_draw 91 = .ok (.iadd, 1) := by decide +kernel
theorem dX5_draw_92 : decode cX5_draw 92 = .ok (.istore 5, 2) := by decide +kernel
theorem dX5_draw_94 : decode cX5_draw 94 = .ok (.iinc 6 1, 3) := by decide +kernel
theorem dX5_draw_97 : decode cX5_draw 97 = .ok (.goto (-57), 3) := by decide +kernel
theorem dX5_draw_100 : decode cX5_draw 100 = .ok (.iload 5, 2) := by decide +kernel
theorem dX5_draw_102 : decode cX5_draw 102 = .ok (.ireturn, 1) := by decide +kernel
set_option maxRecDepth 20000 in
theorem ggX5_decant_X5_needIndex : GoodIn wsX5_decant wsX5_needIndex := goodIn_ca (goodIn_r _ [9, 10, 11] (by decide +kernel) (by decide +kernel)) (goodIn_sub (fun _ h => List.mem_cons_of_mem _ (List.mem_append_left _ (List.mem_append_right _ h))) (by decide +kernel))
set_option maxRecDepth 20000 in
theorem gX5_decant_X5_needIndex : GoodIn wsX5_decant (va_wsS RX5 37 yX5_needIndex wsX5_needIndex) := goodIn_app (goodIn_of _ (by decide +kernel)) ggX5_decant_X5_needIndex
set_option maxRecDepth 20000 in
theorem ggX5_decant_X5_needSlice : GoodIn wsX5_decant wsX5_needSlice := goodIn_ca (goodIn_r _ [14, 6, 7, 8, 9, 10, 11] (by decide +kernel) (by decide +kernel)) (goodIn_sub (fun _ h => List.mem_cons_of_mem _ (List.mem_append_left _ (List.mem_append_right _ h))) (by decide +kernel))
set_option maxRecDepth 20000 in
theorem gX5_decant_X5_needSlice : GoodIn wsX5_decant (va_wsS RX5 68 yX5_needSlice wsX5_needSlice) := goodIn_app (goodIn_of _ (by decide +kernel)) ggX5_decant_X5_needSlice
set_option maxRecDepth 20000 in
theorem ggX5_decant_X2_allDownTo : GoodIn wsX5_decant wsX2_allDownTo := goodIn_r _ [19, 20, 21, 22, 18, 23, 24, 25, 26, 27, 28, 93] (by decide +kernel) (by decide +kernel)
set_option maxRecDepth 20000 in
theorem gX5_decant_X2_allDownTo : GoodIn wsX5_decant (wsV RX5 107 RX2 yX2_allDownTo wsX2_allDownTo) := goodIn_app (goodIn_of _ (by decide +kernel)) ggX5_decant_X2_allDownTo
set_option maxRecDepth 20000 in
theorem ggX5_decant_X5_needRoom : GoodIn wsX5_decant wsX5_needRoom := goodIn_ca (goodIn_r _ [31, 32, 33, 34, 35, 36, 18, 37, 38, 16, 17, 19, 20, 21, 22, 23, 24, 25, 26, 27, 28, 93] (by decide +kernel) (by decide +kernel)) (goodIn_sub (fun _ h => List.mem_cons_of_mem _ (List.mem_append_right _ h)) (by decide +kernel))
set_option maxRecDepth 20000 in
theorem gX5_decant_X5_needRoom : GoodIn wsX5_decant (va_wsS RX5 75 yX5_needRoom wsX5_needRoom) := goodIn_app (goodIn_of _ (by decide +kernel)) ggX5_decant_X5_needRoom
set_option maxRecDepth 20000 in
theorem ggX5_decant_X1_keep : GoodIn wsX5_decant wsX1_keep := goodIn_r _ [43, 44, 45, 46, 47, 48, 49, 50, 51, 52, 53, 54, 55, 56, 57, 58, 59, 60, 61, 62, 63, 64, 65, 66, 67, 68, 69, 70, 71, 72, 18, 73, 28, 74, 94, 95, 96, 87, 88, 89, 90, 91, 92, 97, 98, 93] (by decide +kernel) (by decide +kernel)
set_option maxRecDepth 20000 in
theorem gX5_decant_X1_keep : GoodIn wsX5_decant (wsV RX5 54 RX1 yX1_keep wsX1_keep) := goodIn_app (goodIn_of _ (by decide +kernel)) ggX5_decant_X1_keep
set_option maxRecDepth 20000 in
theorem ggX5_decant_X2_pourInto : GoodIn wsX5_decant wsX2_pourInto := goodIn_r _ [78, 24, 25, 26, 18, 27, 28, 79, 80, 81, 82, 93] (by decide +kernel) (by decide +kernel)
set_option maxRecDepth 20000 in
theorem gX5_decant_X2_pourInto : GoodIn wsX5_decant (wsV RX5 110 RX2 yX2_pourInto wsX2_pourInto) := goodIn_app (goodIn_of _ (by decide +kernel)) ggX5_decant_X2_pourInto
theorem dX5_decant_0 : decode cX5_decant 0 = .ok (.iload_n 1, 1) := by decide +kernel
theorem dX5_decant_1 : decode cX5_decant 1 = .ok (.iconst 3, 1) := by decide +kernel
theorem dX5_decant_2 : decode cX5_decant 2 = .ok (.invokestatic 37, 3) := by decide +kernel
theorem dX5_decant_5 : decode cX5_decant 5 = .ok (.iload_n 2, 1) := by decide +kernel
theorem dX5_decant_6 : decode cX5_decant 6 = .ok (.iload_n 3, 1) := by decide +kernel
theorem dX5_decant_7 : decode cX5_decant 7 = .ok (.invokestatic 68, 3) := by decide +kernel
theorem dX5_decant_10 : decode cX5_decant 10 = .ok (.iload_n 1, 1) := by decide +kernel
theorem dX5_decant_11 : decode cX5_decant 11 = .ok (.iload_n 2, 1) := by decide +kernel
theorem dX5_decant_12 : decode cX5_decant 12 = .ok (.if_icmp .ne 13, 3) := by decide +kernel
theorem dX5_decant_15 : decode cX5_decant 15 = .ok (.new 100, 3) := by decide +kernel
theorem dX5_decant_18 : decode cX5_decant 18 = .ok (.dup, 1) := by decide +kernel
theorem dX5_decant_19 : decode cX5_decant 19 = .ok (.ldc 102, 2) := by decide +kernel
theorem dX5_decant_21 : decode cX5_decant 21 = .ok (.invokespecial 104, 3) := by decide +kernel
theorem dX5_decant_24 : decode cX5_decant 24 = .ok (.athrow, 1) := by decide +kernel
theorem dX5_decant_25 : decode cX5_decant 25 = .ok (.aload_n 0, 1) := by decide +kernel
theorem dX5_decant_26 : decode cX5_decant 26 = .ok (.getfield 12, 3) := by decide +kernel
theorem dX5_decant_29 : decode cX5_decant 29 = .ok (.getfield 71, 3) := by decide +kernel
theorem dX5_decant_32 : decode cX5_decant 32 = .ok (.iload_n 1, 1) := by decide +kernel
theorem dX5_decant_33 : decode cX5_decant 33 = .ok (.aaload, 1) := by decide +kernel
theorem dX5_decant_34 : decode cX5_decant 34 = .ok (.iload_n 3, 1) := by decide +kernel
theorem dX5_decant_35 : decode cX5_decant 35 = .ok (.invokevirtual 107, 3) := by decide +kernel
theorem dX5_decant_38 : decode cX5_decant 38 = .ok (.istore 4, 2) := by decide +kernel
theorem dX5_decant_40 : decode cX5_decant 40 = .ok (.aload_n 0, 1) := by decide +kernel
theorem dX5_decant_41 : decode cX5_decant 41 = .ok (.getfield 12, 3) := by decide +kernel
theorem dX5_decant_44 : decode cX5_decant 44 = .ok (.getfield 71, 3) := by decide +kernel
theorem dX5_decant_47 : decode cX5_decant 47 = .ok (.iload_n 2, 1) := by decide +kernel
theorem dX5_decant_48 : decode cX5_decant 48 = .ok (.aaload, 1) := by decide +kernel
theorem dX5_decant_49 : decode cX5_decant 49 = .ok (.iload 4, 2) := by decide +kernel
theorem dX5_decant_51 : decode cX5_decant 51 = .ok (.invokestatic 75, 3) := by decide +kernel
theorem dX5_decant_54 : decode cX5_decant 54 = .ok (.aload_n 0, 1) := by decide +kernel
theorem dX5_decant_55 : decode cX5_decant 55 = .ok (.getfield 19, 3) := by decide +kernel
theorem dX5_decant_58 : decode cX5_decant 58 = .ok (.aload_n 0, 1) := by decide +kernel
theorem dX5_decant_59 : decode cX5_decant 59 = .ok (.getfield 12, 3) := by decide +kernel
theorem dX5_decant_62 : decode cX5_decant 62 = .ok (.invokevirtual 54, 3) := by decide +kernel
theorem dX5_decant_65 : decode cX5_decant 65 = .ok (.aload_n 0, 1) := by decide +kernel
theorem dX5_decant_66 : decode cX5_decant 66 = .ok (.getfield 12, 3) := by decide +kernel
theorem dX5_decant_69 : decode cX5_decant 69 = .ok (.getfield 71, 3) := by decide +kernel
theorem dX5_decant_72 : decode cX5_decant 72 = .ok (.iload_n 1, 1) := by decide +kernel
theorem dX5_decant_73 : decode cX5_decant 73 = .ok (.aaload, 1) := by decide +kernel
theorem dX5_decant_74 : decode cX5_decant 74 = .ok (.aload_n 0, 1) := by decide +kernel
theorem dX5_decant_75 : decode cX5_decant 75 = .ok (.getfield 12, 3) := by decide +kernel
theorem dX5_decant_78 : decode cX5_decant 78 = .ok (.getfield 71, 3) := by decide +kernel
theorem dX5_decant_81 : decode cX5_decant 81 = .ok (.iload_n 2, 1) := by decide +kernel
theorem dX5_decant_82 : decode cX5_decant 82 = .ok (.aaload, 1) := by decide +kernel
theorem dX5_decant_83 : decode cX5_decant 83 = .ok (.iload_n 3, 1) := by decide +kernel
theorem dX5_decant_84 : decode cX5_decant 84 = .ok (.invokevirtual 110, 3) := by decide +kernel
theorem dX5_decant_87 : decode cX5_decant 87 = .ok (.iload 4, 2) := by decide +kernel
theorem dX5_decant_89 : decode cX5_decant 89 = .ok (.ireturn, 1) := by decide +kernel
set_option maxRecDepth 20000 in
theorem ggX5_turn_X5_needIndex : GoodIn wsX5_turn wsX5_needIndex := goodIn_ca (goodIn_r _ [8, 9, 10] (by decide +kernel) (by decide +kernel)) (goodIn_sub (fun _ h => List.mem_cons_of_mem _ (List.mem_append_right _ h)) (by decide +kernel))
set_option maxRecDepth 20000 in
theorem gX5_turn_X5_needIndex : GoodIn wsX5_turn (va_wsS RX5 37 yX5_needIndex wsX5_needIndex) := goodIn_app (goodIn_of _ (by decide +kernel)) ggX5_turn_X5_needIndex
set_option maxRecDepth 20000 in
theorem ggX5_turn_X1_keep : GoodIn wsX5_turn wsX1_keep := goodIn_r _ [15, 16, 17, 18, 19, 20, 21, 22, 23, 24, 25, 26, 27, 28, 29, 30, 31, 32, 33, 34, 35, 36, 37, 38, 39, 40, 41, 42, 43, 44, 45, 46, 47, 48, 83, 84, 85, 77, 78, 79, 80, 81, 82, 86, 87, 88] (by decide +kernel) (by decide +kernel)
set_option maxRecDepth 20000 in
theorem gX5_turn_X1_keep : GoodIn wsX5_turn (wsV RX5 54 RX1 yX1_keep wsX1_keep) := goodIn_app (goodIn_of _ (by decide +kernel)) ggX5_turn_X1_keep
set_option maxRecDepth 20000 in
theorem ggX5_turn_X2_turnOver : GoodIn wsX5_turn wsX2_turnOver := goodIn_r _ [52, 53, 54, 55, 45, 56, 47, 57, 58, 59, 60, 88] (by decide +kernel) (by decide +kernel)
set_option maxRecDepth 20000 in
theorem gX5_turn_X2_turnOver : GoodIn wsX5_turn (wsV RX5 113 RX2 yX2_turnOver wsX2_turnOver) := goodIn_app (goodIn_of _ (by decide +kernel)) ggX5_turn_X2_turnOver
set_option maxRecDepth 20000 in
theorem ggX5_turn_X2_packedSlices : GoodIn wsX5_turn wsX2_packedSlices := goodIn_r _ [64, 65, 66, 67, 45, 68, 53, 54, 55, 56, 47, 69, 70, 71, 37, 72, 39, 88, 86, 87] (by decide +kernel) (by decide +kernel)
set_option maxRecDepth 20000 in
theorem gX5_turn_X2_packedSlices : GoodIn wsX5_turn (wsV RX5 116 RX2 yX2_packedSlices wsX2_packedSlices) := goodIn_app (goodIn_of _ (by decide +kernel)) ggX5_turn_X2_packedSlices
theorem dX5_turn_0 : decode cX5_turn 0 = .ok (.iload_n 1, 1) := by decide +kernel
theorem dX5_turn_1 : decode cX5_turn 1 = .ok (.iconst 3, 1) := by decide +kernel
theorem dX5_turn_2 : decode cX5_turn 2 = .ok (.invokestatic 37, 3) := by decide +kernel
theorem dX5_turn_5 : decode cX5_turn 5 = .ok (.aload_n 0, 1) := by decide +kernel
theorem dX5_turn_6 : decode cX5_turn 6 = .ok (.getfield 19, 3) := by decide +kernel
theorem dX5_turn_9 : decode cX5_turn 9 = .ok (.aload_n 0, 1) := by decide +kernel
theorem dX5_turn_10 : decode cX5_turn 10 = .ok (.getfield 12, 3) := by decide +kernel
theorem dX5_turn_13 : decode cX5_turn 13 = .ok (.invokevirtual 54, 3) := by decide +kernel
theorem dX5_turn_16 : decode cX5_turn 16 = .ok (.aload_n 0, 1) := by decide +kernel
theorem dX5_turn_17 : decode cX5_turn 17 = .ok (.getfield 12, 3) := by decide +kernel
theorem dX5_turn_20 : decode cX5_turn 20 = .ok (.getfield 71, 3) := by decide +kernel
theorem dX5_turn_23 : decode cX5_turn 23 = .ok (.iload_n 1, 1) := by decide +kernel
theorem dX5_turn_24 : decode cX5_turn 24 = .ok (.aaload, 1) := by decide +kernel
theorem dX5_turn_25 : decode cX5_turn 25 = .ok (.invokevirtual 113, 3) := by decide +kernel
theorem dX5_turn_28 : decode cX5_turn 28 = .ok (.aload_n 0, 1) := by decide +kernel
theorem dX5_turn_29 : decode cX5_turn 29 = .ok (.getfield 12, 3) := by decide +kernel
theorem dX5_turn_32 : decode cX5_turn 32 = .ok (.getfield 71, 3) := by decide +kernel
theorem dX5_turn_35 : decode cX5_turn 35 = .ok (.iload_n 1, 1) := by decide +kernel
theorem dX5_turn_36 : decode cX5_turn 36 = .ok (.aaload, 1) := by decide +kernel
theorem dX5_turn_37 : decode cX5_turn 37 = .ok (.aload_n 0, 1) := by decide +kernel
theorem dX5_turn_38 : decode cX5_turn 38 = .ok (.getfield 12, 3) := by decide +kernel
theorem dX5_turn_41 : decode cX5_turn 41 = .ok (.getfield 58, 3) := by decide +kernel
theorem dX5_turn_44 : decode cX5_turn 44 = .ok (.invokevirtual 116, 3) := by decide +kernel
theorem dX5_turn_47 : decode cX5_turn 47 = .ok (.ireturn, 1) := by decide +kernel
set_option maxRecDepth 20000 in
theorem ggX5_settle_X5_needRange : GoodIn wsX5_settle wsX5_needRange := goodIn_ca (goodIn_r _ [12, 13, 14] (by decide +kernel) (by decide +kernel)) (goodIn_sub (fun _ h => List.mem_cons_of_mem _ (List.mem_append_right _ h)) (by decide +kernel))
set_option maxRecDepth 20000 in
theorem gX5_settle_X5_needRange : GoodIn wsX5_settle (va_wsS RX5 50 yX5_needRange wsX5_needRange) := goodIn_app (goodIn_of _ (by decide +kernel)) ggX5_settle_X5_needRange
set_option maxRecDepth 20000 in
theorem ggX5_settle_X1_keep : GoodIn wsX5_settle wsX1_keep := goodIn_r _ [19, 20, 21, 22, 23, 24, 25, 26, 27, 28, 29, 30, 31, 32, 33, 34, 35, 36, 37, 38, 39, 40, 41, 42, 43, 44, 45, 46, 47, 48, 49, 50, 51, 52, 109, 110, 111, 103, 104, 105, 106, 107, 108, 112, 113, 114] (by decide +kernel) (by decide +kernel)
set_option maxRecDepth 20000 in
theorem gX5_settle_X1_keep : GoodIn wsX5_settle (wsV RX5 54 RX1 yX1_keep wsX1_keep) := goodIn_app (goodIn_of _ (by decide +kernel)) ggX5_settle_X1_keep
set_option maxRecDepth 20000 in
theorem ggX5_settle_X2_goOn : GoodIn wsX5_settle wsX2_goOn := goodIn_r _ [56, 57, 58, 59, 49, 60, 61, 62, 63, 64, 65, 66, 67, 68, 69, 70, 71, 72, 73, 74, 75, 76, 51, 77, 78, 79, 41, 80, 81, 43, 82, 83, 84, 85, 86, 87, 88, 89, 90, 91, 92, 45, 93, 94, 95, 96, 97, 98, 114, 112, 113] (by decide +kernel) (by decide +kernel)
set_option maxRecDepth 20000 in
theorem gX5_settle_X2_goOn : GoodIn wsX5_settle (wsV RX5 129 RX2 yX2_goOn wsX2_goOn) := goodIn_app (goodIn_of _ (by decide +kernel)) ggX5_settle_X2_goOn
theorem dX5_settle_0 : decode cX5_settle 0 = .ok (.iload_n 1, 1) := by decide +kernel
theorem dX5_settle_1 : decode cX5_settle 1 = .ok (.iconst 1, 1) := by decide +kernel
theorem dX5_settle_2 : decode cX5_settle 2 = .ok (.bipush 100, 2) := by decide +kernel
theorem dX5_settle_4 : decode cX5_settle 4 = .ok (.invokestatic 50, 3) := by decide +kernel
theorem dX5_settle_7 : decode cX5_settle 7 = .ok (.aload_n 0, 1) := by decide +kernel
theorem dX5_settle_8 : decode cX5_settle 8 = .ok (.getfield 12, 3) := by decide +kernel
theorem dX5_settle_11 : decode cX5_settle 11 = .ok (.getfield 120, 3) := by decide +kernel
theorem dX5_settle_14 : decode cX5_settle 14 = .ok (.iload_n 1, 1) := by decide +kernel
theorem dX5_settle_15 : decode cX5_settle 15 = .ok (.iadd, 1) := by decide +kernel
theorem dX5_settle_16 : decode cX5_settle 16 = .ok (.sipush 10000, 3) := by decide +kernel
theorem dX5_settle_19 : decode cX5_settle 19 = .ok (.if_icmp .le 13, 3) := by decide +kernel
theorem dX5_settle_22 : decode cX5_settle 22 = .ok (.new 124, 3) := by decide +kernel
theorem dX5_settle_25 : decode cX5_settle 25 = .ok (.dup, 1) := by decide +kernel
theorem dX5_settle_26 : decode cX5_settle 26 = .ok (.ldc 126, 2) := by decide +kernel
theorem dX5_settle_28 : decode cX5_settle 28 = .ok (.invokespecial 128, 3) := by decide +kernel
theorem dX5_settle_31 : decode cX5_settle 31 = .ok (.athrow, 1) := by decide +kernel
theorem dX5_settle_32 : decode cX5_settle 32 = .ok (.aload_n 0, 1) := by decide +kernel
theorem dX5_settle_33 : decode cX5_settle 33 = .ok (.getfield 19, 3) := by decide +kernel
theorem dX5_settle_36 : decode cX5_settle 36 = .ok (.aload_n 0, 1) := by decide +kernel
theorem dX5_settle_37 : decode cX5_settle 37 = .ok (.getfield 12, 3) := by decide +kernel
theorem dX5_settle_40 : decode cX5_settle 40 = .ok (.invokevirtual 54, 3) := by decide +kernel
theorem dX5_settle_43 : decode cX5_settle 43 = .ok (.iconst 0, 1) := by decide +kernel
theorem dX5_settle_44 : decode cX5_settle 44 = .ok (.istore_n 2, 1) := by decide +kernel
theorem dX5_settle_45 : decode cX5_settle 45 = .ok (.iconst 0, 1) := by decide +kernel
theorem dX5_settle_46 : decode cX5_settle 46 = .ok (.istore_n 3, 1) := by decide +kernel
theorem dX5_settle_47 : decode cX5_settle 47 = .ok (.iload_n 3, 1) := by decide +kernel
theorem dX5_settle_48 : decode cX5_settle 48 = .ok (.iconst 3, 1) := by decide +kernel
theorem dX5_settle_49 : decode cX5_settle 49 = .ok (.if_icmp .ge 32, 3) := by decide +kernel
theorem dX5_settle_52 : decode cX5_settle 52 = .ok (.iload_n 2, 1) := by decide +kernel
theorem dX5_settle_53 : decode cX5_settle 53 = .ok (.aload_n 0, 1) := by decide +kernel
theorem dX5_settle_54 : decode cX5_settle 54 = .ok (.getfield 12, 3) := by decide +kernel
theorem dX5_settle_57 : decode cX5_settle 57 = .ok (.getfield 71, 3) := by decide +kernel
theorem dX5_settle_60 : decode cX5_settle 60 = .ok (.iload_n 3, 1) := by decide +kernel
theorem dX5_settle_61 : decode cX5_settle 61 = .ok (.aaload, 1) := by decide +kernel
theorem dX5_settle_62 : decode cX5_settle 62 = .ok (.iload_n 1, 1) := by decide +kernel
theorem dX5_settle_63 : decode cX5_settle 63 = .ok (.aload_n 0, 1) := by decide +kernel
theorem dX5_settle_64 : decode cX5_settle 64 = .ok (.getfield 12, 3) := by decide +kernel
theorem dX5_settle_67 : decode cX5_settle 67 = .ok (.getfield 58, 3) := by decide +kernel
theorem dX5_settle_70 : decode cX5_settle 70 = .ok (.invokevirtual 129, 3) := by decide +kernel
theorem dX5_settle_73 : decode cX5_settle 73 = .ok (.iadd, 1) := by decide +kernel
theorem dX5_settle_74 : decode cX5_settle 74 = .ok (.istore_n 2, 1) := by decide +kernel
theorem dX5_settle_75 : decode cX5_settle 75 = .ok (.iinc 3 1, 3) := by decide +kernel
theorem dX5_settle_78 : decode cX5_settle 78 = .ok (.goto (-31), 3) := by decide +kernel
theorem dX5_settle_81 : decode cX5_settle 81 = .ok (.aload_n 0, 1) := by decide +kernel
theorem dX5_settle_82 : decode cX5_settle 82 = .ok (.getfield 12, 3) := by decide +kernel
theorem dX5_settle_85 : decode cX5_settle 85 = .ok (.dup, 1) := by decide +kernel
theorem dX5_settle_86 : decode cX5_settle 86 = .ok (.getfield 120, 3) := by decide +kernel
theorem dX5_settle_89 : decode cX5_settle 89 = .ok (.iload_n 1, 1) := by decide +kernel
theorem dX5_settle_90 : decode cX5_settle 90 = .ok (.iadd, 1) := by decide +kernel
theorem dX5_settle_91 : decode cX5_settle 91 = .ok (.putfield 120, 3) := by decide +kernel
theorem dX5_settle_94 : decode cX5_settle 94 = .ok (.aload_n 0, 1) := by decide +kernel
theorem dX5_settle_95 : decode cX5_settle 95 = .ok (.getfield 12, 3) := by decide +kernel
theorem dX5_settle_98 : decode cX5_settle 98 = .ok (.dup, 1) := by decide +kernel
theorem dX5_settle_99 : decode cX5_settle 99 = .ok (.getfield 133, 3) := by decide +kernel
theorem dX5_settle_102 : decode cX5_settle 102 = .ok (.iload_n 2, 1) := by decide +kernel
theorem dX5_settle_103 : decode cX5_settle 103 = .ok (.iadd, 1) := by decide +kernel
theorem dX5_settle_104 : decode cX5_settle 104 = .ok (.putfield 133, 3) := by decide +kernel
theorem dX5_settle_107 : decode cX5_settle 107 = .ok (.iload_n 2, 1) := by decide +kernel
theorem dX5_settle_108 : decode cX5_settle 108 = .ok (.ireturn, 1) := by decide +kernel
set_option maxRecDepth 20000 in
theorem ggX5_slice_X5_needSlice : GoodIn wsX5_slice wsX5_needSlice := goodIn_ca (goodIn_r _ [7, 8, 9, 6, 10, 11, 12] (by decide +kernel) (by decide +kernel)) (goodIn_sub (fun _ h => List.mem_cons_of_mem _ (List.mem_append_left _ (List.mem_append_right _ h))) (by decide +kernel))
set_option maxRecDepth 20000 in
theorem gX5_slice_X5_needSlice : GoodIn wsX5_slice (va_wsS RX5 68 yX5_needSlice wsX5_needSlice) := goodIn_app (goodIn_of _ (by decide +kernel)) ggX5_slice_X5_needSlice
set_option maxRecDepth 20000 in
theorem ggX5_slice_X5_needRange : GoodIn wsX5_slice wsX5_needRange := goodIn_ca (goodIn_r _ [15, 16, 17] (by decide +kernel) (by decide +kernel)) (goodIn_sub (fun _ h => List.mem_cons_of_mem _ (List.mem_append_right _ h)) (by decide +kernel))
set_option maxRecDepth 20000 in
theorem gX5_slice_X5_needRange : GoodIn wsX5_slice (va_wsS RX5 50 yX5_needRange wsX5_needRange) := goodIn_app (goodIn_of _ (by decide +kernel)) ggX5_slice_X5_needRange
set_option maxRecDepth 20000 in
theorem ggX5_slice_X2_sliceProperty : GoodIn wsX5_slice wsX2_sliceProperty := goodIn_r _ [22, 23, 24, 25, 21, 26, 27, 28, 29, 30, 31, 32, 33, 34, 35, 36, 37, 38, 39, 40, 41, 42, 43, 44, 45, 46, 47, 48, 49, 50, 51, 52, 53, 54, 55, 56, 57, 58, 69, 70, 71] (by decide +kernel) (by decide +kernel)
set_option maxRecDepth 20000 in
theorem gX5_slice_X2_sliceProperty : GoodIn wsX5_slice (wsV RX5 180 RX2 yX2_sliceProperty wsX2_sliceProperty) := goodIn_app (goodIn_of _ (by decide +kernel)) ggX5_slice_X2_sliceProperty
theorem dX5_slice_0 : decode cX5_slice 0 = .ok (.iload_n 1, 1) := by decide +kernel
theorem dX5_slice_1 : decode cX5_slice 1 = .ok (.iload_n 2, 1) := by decide +kernel
theorem dX5_slice_2 : decode cX5_slice 2 = .ok (.invokestatic 68, 3) := by decide +kernel
theorem dX5_slice_5 : decode cX5_slice 5 = .ok (.iload_n 3, 1) := by decide +kernel
theorem dX5_slice_6 : decode cX5_slice 6 = .ok (.iconst 0, 1) := by decide +kernel
theorem dX5_slice_7 : decode cX5_slice 7 = .ok (.bipush 9, 2) := by decide +kernel
theorem dX5_slice_9 : decode cX5_slice 9 = .ok (.invokestatic 50, 3) := by decide +kernel
theorem dX5_slice_12 : decode cX5_slice 12 = .ok (.aload_n 0, 1) := by decide +kernel
theorem dX5_slice_13 : decode cX5_slice 13 = .ok (.getfield 12, 3) := by decide +kernel
theorem dX5_slice_16 : decode cX5_slice 16 = .ok (.getfield 71, 3) := by decide +kernel
theorem dX5_slice_19 : decode cX5_slice 19 = .ok (.iload_n 1, 1) := by decide +kernel
theorem dX5_slice_20 : decode cX5_slice 20 = .ok (.aaload, 1) := by decide +kernel
theorem dX5_slice_21 : decode cX5_slice 21 = .ok (.iload_n 2, 1) := by decide +kernel
theorem dX5_slice_22 : decode cX5_slice 22 = .ok (.iload_n 3, 1) := by decide +kernel
theorem dX5_slice_23 : decode cX5_slice 23 = .ok (.aload_n 0, 1) := by decide +kernel
theorem dX5_slice_24 : decode cX5_slice 24 = .ok (.getfield 12, 3) := by decide +kernel
theorem dX5_slice_27 : decode cX5_slice 27 = .ok (.getfield 58, 3) := by decide +kernel
theorem dX5_slice_30 : decode cX5_slice 30 = .ok (.invokevirtual 180, 3) := by decide +kernel
theorem dX5_slice_33 : decode cX5_slice 33 = .ok (.ireturn, 1) := by decide +kernel
set_option maxRecDepth 20000 in
theorem ggX5_jar_X5_needIndex : GoodIn wsX5_jar wsX5_needIndex := goodIn_ca (goodIn_r _ [7, 8, 9] (by decide +kernel) (by decide +kernel)) (goodIn_sub (fun _ h => List.mem_cons_of_mem _ (List.mem_append_left _ (List.mem_append_right _ h))) (by decide +kernel))
set_option maxRecDepth 20000 in
theorem gX5_jar_X5_needIndex : GoodIn wsX5_jar (va_wsS RX5 37 yX5_needIndex wsX5_needIndex) := goodIn_app (goodIn_of _ (by decide +kernel)) ggX5_jar_X5_needIndex
set_option maxRecDepth 20000 in
theorem ggX5_jar_X5_needRange : GoodIn wsX5_jar wsX5_needRange := goodIn_ca (goodIn_r _ [12, 13, 14] (by decide +kernel) (by decide +kernel)) (goodIn_sub (fun _ h => List.mem_cons_of_mem _ (List.mem_append_right _ h)) (by decide +kernel))
set_option maxRecDepth 20000 in
theorem gX5_jar_X5_needRange : GoodIn wsX5_jar (va_wsS RX5 50 yX5_needRange wsX5_needRange) := goodIn_app (goodIn_of _ (by decide +kernel)) ggX5_jar_X5_needRange
set_option maxRecDepth 20000 in
theorem ggX5_jar_X2_property : GoodIn wsX5_jar wsX2_property := goodIn_r _ [19, 20, 21, 22, 18, 23, 24, 25, 26, 27, 28, 29, 30, 31, 32, 33, 34, 35, 36, 37, 38, 39, 40, 41, 42, 43, 44, 45, 46, 47, 48, 49, 50, 51, 52, 53, 54, 55, 56, 57, 58, 59, 60, 61, 62, 63, 64, 65, 66, 67, 68, 69, 70, 71, 72, 73, 74, 75, 76, 77, 78, 79, 80, 81, 82, 83, 84, 85, 86, 87, 88, 89, 90, 91, 92, 93, 94, 95, 96, 107, 108, 109] (by decide +kernel) (by decide +kernel)
set_option maxRecDepth 20000 in
theorem gX5_jar_X2_property : GoodIn wsX5_jar (wsV RX5 184 RX2 yX2_property wsX2_property) := goodIn_app (goodIn_of _ (by decide +kernel)) ggX5_jar_X2_property
theorem dX5_jar_0 : decode cX5_jar 0 = .ok (.iload_n 1, 1) := by decide +kernel
theorem dX5_jar_1 : decode cX5_jar 1 = .ok (.iconst 3, 1) := by decide +kernel
theorem dX5_jar_2 : decode cX5_jar 2 = .ok (.invokestatic 37, 3) := by decide +kernel
theorem dX5_jar_5 : decode cX5_jar 5 = .ok (.iload_n 2, 1) := by decide +kernel
theorem dX5_jar_6 : decode cX5_jar 6 = .ok (.iconst 0, 1) := by decide +kernel
theorem dX5_jar_7 : decode cX5_jar 7 = .ok (.bipush 9, 2) := by decide +kernel
theorem dX5_jar_9 : decode cX5_jar 9 = .ok (.invokestatic 50, 3) := by decide +kernel
theorem dX5_jar_12 : decode cX5_jar 12 = .ok (.aload_n 0, 1) := by decide +kernel
theorem dX5_jar_13 : decode cX5_jar 13 = .ok (.getfield 12, 3) := by decide +kernel
theorem dX5_jar_16 : decode cX5_jar 16 = .ok (.getfield 71, 3) := by decide +kernel
theorem dX5_jar_19 : decode cX5_jar 19 = .ok (.iload_n 1, 1) := by decide +kernel
theorem dX5_jar_20 : decode cX5_jar 20 = .ok (.aaload, 1) := by decide +kernel
theorem dX5_jar_21 : decode cX5_jar 21 = .ok (.iload_n 2, 1) := by decide +kernel
theorem dX5_jar_22 : decode cX5_jar 22 = .ok (.aload_n 0, 1) := by decide +kernel
theorem dX5_jar_23 : decode cX5_jar 23 = .ok (.getfield 12, 3) := by decide +kernel
theorem dX5_jar_26 : decode cX5_jar 26 = .ok (.getfield 58, 3) := by decide +kernel
theorem dX5_jar_29 : decode cX5_jar 29 = .ok (.invokevirtual 184, 3) := by decide +kernel
theorem dX5_jar_32 : decode cX5_jar 32 = .ok (.ireturn, 1) := by decide +kernel
set_option maxRecDepth 20000 in
theorem ggX5_grains_X5_needIndex : GoodIn wsX5_grains wsX5_needIndex := goodIn_ca (goodIn_r _ [9, 10, 11] (by decide +kernel) (by decide +kernel)) (goodIn_sub (fun _ h => List.mem_cons_of_mem _ (List.mem_append_left _ (List.mem_append_right _ h))) (by decide +kernel))
set_option maxRecDepth 20000 in
theorem gX5_grains_X5_needIndex : GoodIn wsX5_grains (va_wsS RX5 37 yX5_needIndex wsX5_needIndex) := goodIn_app (goodIn_of _ (by decide +kernel)) ggX5_grains_X5_needIndex
set_option maxRecDepth 20000 in
theorem ggX5_grains_X5_needRange : GoodIn wsX5_grains wsX5_needRange := goodIn_ca (goodIn_r _ [14, 15, 16] (by decide +kernel) (by decide +kernel)) (goodIn_sub (fun _ h => List.mem_cons_of_mem _ (List.mem_append_right _ h)) (by decide +kernel))
set_option maxRecDepth 20000 in
theorem gX5_grains_X5_needRange : GoodIn wsX5_grains (va_wsS RX5 50 yX5_needRange wsX5_needRange) := goodIn_app (goodIn_of _ (by decide +kernel)) ggX5_grains_X5_needRange
set_option maxRecDepth 20000 in
theorem ggX5_grains_X4_allOf : GoodIn wsX5_grains wsX4_allOf := goodIn_r _ [21, 22, 23, 24, 25, 26, 27, 28, 29, 30, 31, 32, 37, 38, 39, 40, 41, 42, 45] (by decide +kernel) (by decide +kernel)
set_option maxRecDepth 20000 in
theorem gX5_grains_X4_allOf : GoodIn wsX5_grains (wsV RX5 187 RX4 yX4_allOf wsX4_allOf) := goodIn_app (goodIn_of _ (by decide +kernel)) ggX5_grains_X4_allOf
theorem dX5_grains_0 : decode cX5_grains 0 = .ok (.iload_n 1, 1) := by decide +kernel
theorem dX5_grains_1 : decode cX5_grains 1 = .ok (.iconst 4, 1) := by decide +kernel
theorem dX5_grains_2 : decode cX5_grains 2 = .ok (.invokestatic 37, 3) := by decide +kernel
theorem dX5_grains_5 : decode cX5_grains 5 = .ok (.iload_n 2, 1) := by decide +kernel
theorem dX5_grains_6 : decode cX5_grains 6 = .ok (.iconst 0, 1) := by decide +kernel
theorem dX5_grains_7 : decode cX5_grains 7 = .ok (.iconst 3, 1) := by decide +kernel
theorem dX5_grains_8 : decode cX5_grains 8 = .ok (.invokestatic 50, 3) := by decide +kernel
theorem dX5_grains_11 : decode cX5_grains 11 = .ok (.iload_n 2, 1) := by decide +kernel
theorem dX5_grains_12 : decode cX5_grains 12 = .ok (.tableswitch 57 0 2 #[28, 38, 48], 28) := by decide +kernel
theorem dX5_grains_40 : decode cX5_grains 40 = .ok (.aload_n 0, 1) := by decide +kernel
theorem dX5_grains_41 : decode cX5_grains 41 = .ok (.getfield 12, 3) := by decide +kernel
theorem dX5_grains_44 : decode cX5_grains 44 = .ok (.getfield 82, 3) := by decide +kernel
theorem dX5_grains_47 : decode cX5_grains 47 = .ok (.iload_n 1, 1) := by decide +kernel
theorem dX5_grains_48 : decode cX5_grains 48 = .ok (.iaload, 1) := by decide +kernel
theorem dX5_grains_49 : decode cX5_grains 49 = .ok (.ireturn, 1) := by decide +kernel
theorem dX5_grains_50 : decode cX5_grains 50 = .ok (.aload_n 0, 1) := by decide +kernel
theorem dX5_grains_51 : decode cX5_grains 51 = .ok (.getfield 12, 3) := by decide +kernel
theorem dX5_grains_54 : decode cX5_grains 54 = .ok (.getfield 97, 3) := by decide +kernel
theorem dX5_grains_57 : decode cX5_grains 57 = .ok (.iload_n 1, 1) := by decide +kernel
theorem dX5_grains_58 : decode cX5_grains 58 = .ok (.iaload, 1) := by decide +kernel
theorem dX5_grains_59 : decode cX5_grains 59 = .ok (.ireturn, 1) := by decide +kernel
theorem dX5_grains_60 : decode cX5_grains 60 = .ok (.aload_n 0, 1) := by decide +kernel
theorem dX5_grains_61 : decode cX5_grains 61 = .ok (.getfield 12, 3) := by decide +kernel
theorem dX5_grains_64 : decode cX5_grains 64 = .ok (.iload_n 1, 1) := by decide +kernel
theorem dX5_grains_65 : decode cX5_grains 65 = .ok (.invokevirtual 187, 3) := by decide +kernel
theorem dX5_grains_68 : decode cX5_grains 68 = .ok (.ireturn, 1) := by decide +kernel
theorem dX5_grains_69 : decode cX5_grains 69 = .ok (.aload_n 0, 1) := by decide +kernel
theorem dX5_grains_70 : decode cX5_grains 70 = .ok (.getfield 12, 3) := by decide +kernel
theorem dX5_grains_73 : decode cX5_grains 73 = .ok (.getfield 58, 3) := by decide +kernel
theorem dX5_grains_76 : decode cX5_grains 76 = .ok (.getfield 65, 3) := by decide +kernel
theorem dX5_grains_79 : decode cX5_grains 79 = .ok (.iload_n 1, 1) := by decide +kernel
theorem dX5_grains_80 : decode cX5_grains 80 = .ok (.iaload, 1) := by decide +kernel
theorem dX5_grains_81 : decode cX5_grains 81 = .ok (.ireturn, 1) := by decide +kernel
set_option maxRecDepth 20000 in
theorem ggX5_count_X5_needRange : GoodIn wsX5_count wsX5_needRange := goodIn_ca (goodIn_r _ [8, 9, 10] (by decide +kernel) (by decide +kernel)) (goodIn_sub (fun _ h => List.mem_cons_of_mem _ (List.mem_append_right _ h)) (by decide +kernel))
set_option maxRecDepth 20000 in
theorem gX5_count_X5_needRange : GoodIn wsX5_count (va_wsS RX5 50 yX5_needRange wsX5_needRange) := goodIn_app (goodIn_of _ (by decide +kernel)) ggX5_count_X5_needRange
set_option maxRecDepth 20000 in
theorem ggX5_count_X4_all : GoodIn wsX5_count wsX4_all := goodIn_r _ [15, 16, 17, 18, 19, 20, 21, 22, 23, 24, 25, 26, 27, 28, 29, 30, 31, 32, 33, 34, 72, 73, 74, 75, 76, 77, 78] (by decide +kernel) (by decide +kernel)
set_option maxRecDepth 20000 in
theorem gX5_count_X4_all : GoodIn wsX5_count (wsV RX5 188 RX4 yX4_all wsX4_all) := goodIn_app (goodIn_of _ (by decide +kernel)) ggX5_count_X4_all
set_option maxRecDepth 20000 in
theorem ggX5_count_X4_packedSlices : GoodIn wsX5_count wsX4_packedSlices := goodIn_r _ [38, 16, 39, 40, 41, 42, 20, 43, 26, 27, 28, 29, 30, 31, 32, 33, 34, 44, 45, 46, 47, 48, 49, 72, 73, 74, 75, 76, 77, 78, 79, 80] (by decide +kernel) (by decide +kernel)
set_option maxRecDepth 20000 in
theorem gX5_count_X4_packedSlices : GoodIn wsX5_count (wsV RX5 189 RX4 yX4_packedSlices wsX4_packedSlices) := goodIn_app (goodIn_of _ (by decide +kernel)) ggX5_count_X4_packedSlices
set_option maxRecDepth 20000 in
theorem ggX5_count_X4_clearSlices : GoodIn wsX5_count wsX4_clearSlices := goodIn_r _ [53, 16, 39, 54, 55, 56, 20, 57, 26, 27, 28, 29, 30, 31, 32, 33, 34, 58, 59, 60, 47, 61, 49, 72, 73, 74, 75, 76, 77, 78, 79, 80] (by decide +kernel) (by decide +kernel)
set_option maxRecDepth 20000 in
theorem gX5_count_X4_clearSlices : GoodIn wsX5_count (wsV RX5 191 RX4 yX4_clearSlices wsX4_clearSlices) := goodIn_app (goodIn_of _ (by decide +kernel)) ggX5_count_X4_clearSlices
set_option maxRecDepth 20000 in
theorem ggX5_count_X1_size : GoodIn wsX5_count wsX1_size := goodIn_r _ [66, 67, 81, 82, 83] (by decide +kernel) (by decide +kernel)
set_option maxRecDepth 20000 in
theorem gX5_count_X1_size : GoodIn wsX5_count (wsV RX5 174 RX1 yX1_size wsX1_size) := goodIn_app (goodIn_of _ (by decide +kernel)) ggX5_count_X1_size
theorem dX5_count_0 : decode cX5_count 0 = .ok (.iload_n 1, 1) := by decide +kernel
theorem dX5_count_1 : decode cX5_count 1 = .ok (.iconst 0, 1) := by decide +kernel
theorem dX5_count_2 : decode cX5_count 2 = .ok (.iconst 5, 1) := by decide +kernel
theorem dX5_count_3 : decode cX5_count 3 = .ok (.invokestatic 50, 3) := by decide +kernel
theorem dX5_count_6 : decode cX5_count 6 = .ok (.iload_n 1, 1) := by decide +kernel
theorem dX5_count_7 : decode cX5_count 7 = .ok (.tableswitch 73 0 4 #[33, 41, 49, 57, 65], 33) := by decide +kernel
theorem dX5_count_40 : decode cX5_count 40 = .ok (.aload_n 0, 1) := by decide +kernel
theorem dX5_count_41 : decode cX5_count 41 = .ok (.getfield 12, 3) := by decide +kernel
theorem dX5_count_44 : decode cX5_count 44 = .ok (.getfield 120, 3) := by decide +kernel
theorem dX5_count_47 : decode cX5_count 47 = .ok (.ireturn, 1) := by decide +kernel
theorem dX5_count_48 : decode cX5_count 48 = .ok (.aload_n 0, 1) := by decide +kernel
theorem dX5_count_49 : decode cX5_count 49 = .ok (.getfield 12, 3) := by decide +kernel
theorem dX5_count_52 : decode cX5_count 52 = .ok (.invokevirtual 188, 3) := by decide +kernel
theorem dX5_count_55 : decode cX5_count 55 = .ok (.ireturn, 1) := by decide +kernel
theorem dX5_count_56 : decode cX5_count 56 = .ok (.aload_n 0, 1) := by decide +kernel
theorem dX5_count_57 : decode cX5_count 57 = .ok (.getfield 12, 3) := by decide +kernel
theorem dX5_count_60 : decode cX5_count 60 = .ok (.invokevirtual 189, 3) := by decide +kernel
theorem dX5_count_63 : decode cX5_count 63 = .ok (.ireturn, 1) := by decide +kernel
theorem dX5_count_64 : decode cX5_count 64 = .ok (.aload_n 0, 1) := by decide +kernel
theorem dX5_count_65 : decode cX5_count 65 = .ok (.getfield 12, 3) := by decide +kernel
theorem dX5_count_68 : decode cX5_count 68 = .ok (.invokevirtual 191, 3) := by decide +kernel
theorem dX5_count_71 : decode cX5_count 71 = .ok (.ireturn, 1) := by decide +kernel
theorem dX5_count_72 : decode cX5_count 72 = .ok (.aload_n 0, 1) := by decide +kernel
theorem dX5_count_73 : decode cX5_count 73 = .ok (.getfield 12, 3) := by decide +kernel
theorem dX5_count_76 : decode cX5_count 76 = .ok (.getfield 133, 3) := by decide +kernel
theorem dX5_count_79 : decode cX5_count 79 = .ok (.ireturn, 1) := by decide +kernel
theorem dX5_count_80 : decode cX5_count 80 = .ok (.aload_n 0, 1) := by decide +kernel
theorem dX5_count_81 : decode cX5_count 81 = .ok (.getfield 19, 3) := by decide +kernel
theorem dX5_count_84 : decode cX5_count 84 = .ok (.invokevirtual 174, 3) := by decide +kernel
theorem dX5_count_87 : decode cX5_count 87 = .ok (.ireturn, 1) := by decide +kernel
set_option maxRecDepth 20000 in
theorem ggX5_setting_X5_needIndex : GoodIn wsX5_setting wsX5_needIndex := goodIn_ca (goodIn_r _ [7, 8, 9] (by decide +kernel) (by decide +kernel)) (goodIn_sub (fun _ h => List.mem_cons_of_mem _ (List.mem_append_right _ h)) (by decide +kernel))
set_option maxRecDepth 20000 in
theorem gX5_setting_X5_needIndex : GoodIn wsX5_setting (va_wsS RX5 37 yX5_needIndex wsX5_needIndex) := goodIn_app (goodIn_of _ (by decide +kernel)) ggX5_setting_X5_needIndex
theorem dX5_setting_0 : decode cX5_setting 0 = .ok (.iload_n 1, 1) := by decide +kernel
theorem dX5_setting_1 : decode cX5_setting 1 = .ok (.iconst 4, 1) := by decide +kernel
theorem dX5_setting_2 : decode cX5_setting 2 = .ok (.invokestatic 37, 3) := by decide +kernel
theorem dX5_setting_5 : decode cX5_setting 5 = .ok (.aload_n 0, 1) := by decide +kernel
theorem dX5_setting_6 : decode cX5_setting 6 = .ok (.getfield 12, 3) := by decide +kernel
theorem dX5_setting_9 : decode cX5_setting 9 = .ok (.getfield 58, 3) := by decide +kernel
theorem dX5_setting_12 : decode cX5_setting 12 = .ok (.getfield 62, 3) := by decide +kernel
theorem dX5_setting_15 : decode cX5_setting 15 = .ok (.iload_n 1, 1) := by decide +kernel
theorem dX5_setting_16 : decode cX5_setting 16 = .ok (.iaload, 1) := by decide +kernel
theorem dX5_setting_17 : decode cX5_setting 17 = .ok (.ireturn, 1) := by decide +kernel
set_option maxRecDepth 20000 in
theorem ggX5_why_X5_needSlice : GoodIn wsX5_why wsX5_needSlice := goodIn_ca (goodIn_r _ [7, 8, 9, 6, 10, 11, 12] (by decide +kernel) (by decide +kernel)) (goodIn_sub (fun _ h => List.mem_cons_of_mem _ (List.mem_append_right _ h)) (by decide +kernel))
set_option maxRecDepth 20000 in
theorem gX5_why_X5_needSlice : GoodIn wsX5_why (va_wsS RX5 68 yX5_needSlice wsX5_needSlice) := goodIn_app (goodIn_of _ (by decide +kernel)) ggX5_why_X5_needSlice
set_option maxRecDepth 20000 in
theorem ggX5_why_X5_needIndex : GoodIn wsX5_why wsX5_needIndex := goodIn_ca (goodIn_r _ [10, 11, 12] (by decide +kernel) (by decide +kernel)) (goodIn_sub (fun _ h => List.mem_cons_of_mem _ (List.mem_append_right _ h)) (by decide +kernel))
set_option maxRecDepth 20000 in
theorem gX5_why_X5_needIndex : GoodIn wsX5_why (va_wsS RX5 37 yX5_needIndex wsX5_needIndex) := goodIn_app (goodIn_of _ (by decide +kernel)) ggX5_why_X5_needIndex
set_option maxRecDepth 20000 in
theorem ggX5_why_X2_reasonToStay : GoodIn wsX5_why wsX2_reasonToStay := goodIn_r _ [17, 18, 19, 20, 16, 21, 22, 23, 24, 25, 26, 27, 28, 29, 30, 31, 32, 33, 34, 35, 36, 37, 38, 39, 40, 41, 42, 43, 44, 45, 46, 47, 48, 49, 50, 61, 62, 63] (by decide +kernel) (by decide +kernel)
set_option maxRecDepth 20000 in
theorem gX5_why_X2_reasonToStay : GoodIn wsX5_why (wsV RX5 194 RX2 yX2_reasonToStay wsX2_reasonToStay) := goodIn_app (goodIn_of _ (by decide +kernel)) ggX5_why_X2_reasonToStay
theorem dX5_why_0 : decode cX5_why 0 = .ok (.iload_n 1, 1) := by decide +kernel
theorem dX5_why_1 : decode cX5_why 1 = .ok (.iload_n 2, 1) := by decide +kernel
theorem dX5_why_2 : decode cX5_why 2 = .ok (.invokestatic 68, 3) := by decide +kernel
theorem dX5_why_5 : decode cX5_why 5 = .ok (.iload_n 3, 1) := by decide +kernel
theorem dX5_why_6 : decode cX5_why 6 = .ok (.iconst 4, 1) := by decide +kernel
theorem dX5_why_7 : decode cX5_why 7 = .ok (.invokestatic 37, 3) := by decide +kernel
theorem dX5_why_10 : decode cX5_why 10 = .ok (.aload_n 0, 1) := by decide +kernel
theorem dX5_why_11 : decode cX5_why 11 = .ok (.getfield 12, 3) := by decide +kernel
theorem dX5_why_14 : decode cX5_why 14 = .ok (.getfield 71, 3) := by decide +kernel
theorem dX5_why_17 : decode cX5_why 17 = .ok (.iload_n 1, 1) := by decide +kernel
theorem dX5_why_18 : decode cX5_why 18 = .ok (.aaload, 1) := by decide +kernel
theorem dX5_why_19 : decode cX5_why 19 = .ok (.iload_n 2, 1) := by decide +kernel
theorem dX5_why_20 : decode cX5_why 20 = .ok (.iload_n 3, 1) := by decide +kernel
theorem dX5_why_21 : decode cX5_why 21 = .ok (.aload_n 0, 1) := by decide +kernel
theorem dX5_why_22 : decode cX5_why 22 = .ok (.getfield 12, 3) := by decide +kernel
theorem dX5_why_25 : decode cX5_why 25 = .ok (.getfield 58, 3) := by decide +kernel
theorem dX5_why_28 : decode cX5_why 28 = .ok (.invokevirtual 194, 3) := by decide +kernel
theorem dX5_why_31 : decode cX5_why 31 = .ok (.ireturn, 1) := by decide +kernel
set_option maxRecDepth 20000 in
theorem ggX5_ifSettled_X5_needIndex : GoodIn wsX5_ifSettled wsX5_needIndex := goodIn_ca (goodIn_r _ [8, 9, 10] (by decide +kernel) (by decide +kernel)) (goodIn_sub (fun _ h => List.mem_cons_of_mem _ (List.mem_append_left _ (List.mem_append_right _ h))) (by decide +kernel))
set_option maxRecDepth 20000 in
theorem gX5_ifSettled_X5_needIndex : GoodIn wsX5_ifSettled (va_wsS RX5 37 yX5_needIndex wsX5_needIndex) := goodIn_app (goodIn_of _ (by decide +kernel)) ggX5_ifSettled_X5_needIndex
set_option maxRecDepth 20000 in
theorem ggX5_ifSettled_X5_needRange : GoodIn wsX5_ifSettled wsX5_needRange := goodIn_ca (goodIn_r _ [13, 14, 15] (by decide +kernel) (by decide +kernel)) (goodIn_sub (fun _ h => List.mem_cons_of_mem _ (List.mem_append_right _ h)) (by decide +kernel))
set_option maxRecDepth 20000 in
theorem gX5_ifSettled_X5_needRange : GoodIn wsX5_ifSettled (va_wsS RX5 50 yX5_needRange wsX5_needRange) := goodIn_app (goodIn_of _ (by decide +kernel)) ggX5_ifSettled_X5_needRange
set_option maxRecDepth 20000 in
theorem ggX5_ifSettled_X2_copyFrom : GoodIn wsX5_ifSettled wsX2_copyFrom := goodIn_r _ [20, 21, 22, 23, 24, 25, 133] (by decide +kernel) (by decide +kernel)
set_option maxRecDepth 20000 in
theorem gX5_ifSettled_X2_copyFrom : GoodIn wsX5_ifSettled (wsV RX5 197 RX2 yX2_copyFrom wsX2_copyFrom) := goodIn_app (goodIn_of _ (by decide +kernel)) ggX5_ifSettled_X2_copyFrom
set_option maxRecDepth 20000 in
theorem ggX5_ifSettled_X2_goOn : GoodIn wsX5_ifSettled wsX2_goOn := goodIn_r _ [29, 30, 31, 32, 19, 33, 34, 35, 36, 37, 38, 39, 40, 41, 42, 43, 44, 45, 46, 47, 48, 49, 21, 50, 51, 52, 53, 54, 55, 56, 57, 58, 59, 60, 61, 62, 63, 64, 65, 66, 67, 68, 69, 70, 71, 72, 73, 74, 133, 134, 135] (by decide +kernel) (by decide +kernel)
set_option maxRecDepth 20000 in
theorem gX5_ifSettled_X2_goOn : GoodIn wsX5_ifSettled (wsV RX5 129 RX2 yX2_goOn wsX2_goOn) := goodIn_app (goodIn_of _ (by decide +kernel)) ggX5_ifSettled_X2_goOn
set_option maxRecDepth 20000 in
theorem ggX5_ifSettled_X2_property : GoodIn wsX5_ifSettled wsX2_property := goodIn_r _ [78, 79, 80, 81, 19, 82, 83, 84, 85, 86, 42, 43, 44, 45, 46, 47, 48, 49, 21, 87, 88, 89, 90, 91, 92, 93, 53, 94, 56, 95, 96, 97, 98, 99, 100, 101, 102, 103, 104, 105, 106, 107, 108, 109, 110, 111, 112, 113, 114, 115, 116, 117, 118, 60, 61, 62, 63, 57, 58, 40, 59, 50, 51, 52, 54, 55, 64, 65, 66, 67, 68, 69, 70, 39, 41, 119, 120, 121, 122, 133, 134, 135] (by decide +kernel) (by decide +kernel)
set_option maxRecDepth 20000 in
theorem gX5_ifSettled_X2_property : GoodIn wsX5_ifSettled (wsV RX5 184 RX2 yX2_property wsX2_property) := goodIn_app (goodIn_of _ (by decide +kernel)) ggX5_ifSettled_X2_property
theorem dX5_ifSettled_0 : decode cX5_ifSettled 0 = .ok (.iload_n 1, 1) := by decide +kernel
theorem dX5_ifSettled_1 : decode cX5_ifSettled 1 = .ok (.iconst 3, 1) := by decide +kernel
theorem dX5_ifSettled_2 : decode cX5_ifSettled 2 = .ok (.invokestatic 37, 3) := by decide +kernel
theorem dX5_ifSettled_5 : decode cX5_ifSettled 5 = .ok (.iload_n 2, 1) := by decide +kernel
theorem dX5_ifSettled_6 : decode cX5_ifSettled 6 = .ok (.iconst 1, 1) := by decide +kernel
theorem dX5_ifSettled_7 : decode cX5_ifSettled 7 = .ok (.bipush 100, 2) := by decide +kernel
theorem dX5_ifSettled_9 : decode cX5_ifSettled 9 = .ok (.invokestatic 50, 3) := by decide +kernel
theorem dX5_ifSettled_12 : decode cX5_ifSettled 12 = .ok (.iload_n 3, 1) := by decide +kernel
theorem dX5_ifSettled_13 : decode cX5_ifSettled 13 = .ok (.iconst 0, 1) := by decide +kernel
theorem dX5_ifSettled_14 : decode cX5_ifSettled 14 = .ok (.bipush 8, 2) := by decide +kernel
theorem dX5_ifSettled_16 : decode cX5_ifSettled 16 = .ok (.invokestatic 50, 3) := by decide +kernel
theorem dX5_ifSettled_19 : decode cX5_ifSettled 19 = .ok (.aload_n 0, 1) := by decide +kernel
theorem dX5_ifSettled_20 : decode cX5_ifSettled 20 = .ok (.getfield 33, 3) := by decide +kernel
theorem dX5_ifSettled_23 : decode cX5_ifSettled 23 = .ok (.aload_n 0, 1) := by decide +kernel
theorem dX5_ifSettled_24 : decode cX5_ifSettled 24 = .ok (.getfield 12, 3) := by decide +kernel
theorem dX5_ifSettled_27 : decode cX5_ifSettled 27 = .ok (.getfield 71, 3) := by decide +kernel
theorem dX5_ifSettled_30 : decode cX5_ifSettled 30 = .ok (.iload_n 1, 1) := by decide +kernel
theorem dX5_ifSettled_31 : decode cX5_ifSettled 31 = .ok (.aaload, 1) := by decide +kernel
theorem dX5_ifSettled_32 : decode cX5_ifSettled 32 = .ok (.invokevirtual 197, 3) := by decide +kernel
theorem dX5_ifSettled_35 : decode cX5_ifSettled 35 = .ok (.aload_n 0, 1) := by decide +kernel
theorem dX5_ifSettled_36 : decode cX5_ifSettled 36 = .ok (.getfield 33, 3) := by decide +kernel
theorem dX5_ifSettled_39 : decode cX5_ifSettled 39 = .ok (.iload_n 2, 1) := by decide +kernel
theorem dX5_ifSettled_40 : decode cX5_ifSettled 40 = .ok (.aload_n 0, 1) := by decide +kernel
theorem dX5_ifSettled_41 : decode cX5_ifSettled 41 = .ok (.getfield 12, 3) := by decide +kernel
theorem dX5_ifSettled_44 : decode cX5_ifSettled 44 = .ok (.getfield 58, 3) := by decide +kernel
theorem dX5_ifSettled_47 : decode cX5_ifSettled 47 = .ok (.invokevirtual 129, 3) := by decide +kernel
theorem dX5_ifSettled_50 : decode cX5_ifSettled 50 = .ok (.pop, 1) := by decide +kernel
theorem dX5_ifSettled_51 : decode cX5_ifSettled 51 = .ok (.aload_n 0, 1) := by decide +kernel
theorem dX5_ifSettled_52 : decode cX5_ifSettled 52 = .ok (.getfield 33, 3) := by decide +kernel
theorem dX5_ifSettled_55 : decode cX5_ifSettled 55 = .ok (.iload_n 3, 1) := by decide +kernel
theorem dX5_ifSettled_56 : decode cX5_ifSettled 56 = .ok (.aload_n 0, 1) := by decide +kernel
theorem dX5_ifSettled_57 : decode cX5_ifSettled 57 = .ok (.getfield 12, 3) := by decide +kernel
theorem dX5_ifSettled_60 : decode cX5_ifSettled 60 = .ok (.getfield 58, 3) := by decide +kernel
theorem dX5_ifSettled_63 : decode cX5_ifSettled 63 = .ok (.invokevirtual 184, 3) := by decide +kernel
theorem dX5_ifSettled_66 : decode cX5_ifSettled 66 = .ok (.ireturn, 1) := by decide +kernel
set_option maxRecDepth 20000 in
theorem ggX5_clearIn_X5_needIndex : GoodIn wsX5_clearIn wsX5_needIndex := goodIn_ca (goodIn_r _ [8, 9, 10] (by decide +kernel) (by decide +kernel)) (goodIn_sub (fun _ h => List.mem_cons_of_mem _ (List.mem_append_left _ (List.mem_append_right _ h))) (by decide +kernel))
set_option maxRecDepth 20000 in
theorem gX5_clearIn_X5_needIndex : GoodIn wsX5_clearIn (va_wsS RX5 37 yX5_needIndex wsX5_needIndex) := goodIn_app (goodIn_of _ (by decide +kernel)) ggX5_clearIn_X5_needIndex
set_option maxRecDepth 20000 in
theorem ggX5_clearIn_X5_needRange : GoodIn wsX5_clearIn wsX5_needRange := goodIn_ca (goodIn_r _ [13, 14, 15] (by decide +kernel) (by decide +kernel)) (goodIn_sub (fun _ h => List.mem_cons_of_mem _ (List.mem_append_right _ h)) (by decide +kernel))
set_option maxRecDepth 20000 in
theorem gX5_clearIn_X5_needRange : GoodIn wsX5_clearIn (va_wsS RX5 50 yX5_needRange wsX5_needRange) := goodIn_app (goodIn_of _ (by decide +kernel)) ggX5_clearIn_X5_needRange
set_option maxRecDepth 20000 in
theorem ggX5_clearIn_X2_copyFrom : GoodIn wsX5_clearIn wsX2_copyFrom := goodIn_r _ [20, 21, 22, 23, 24, 25, 89] (by decide +kernel) (by decide +kernel)
set_option maxRecDepth 20000 in
theorem gX5_clearIn_X2_copyFrom : GoodIn wsX5_clearIn (wsV RX5 197 RX2 yX2_copyFrom wsX2_copyFrom) := goodIn_app (goodIn_of _ (by decide +kernel)) ggX5_clearIn_X2_copyFrom
set_option maxRecDepth 20000 in
theorem ggX5_clearIn_X2_clearWater : GoodIn wsX5_clearIn wsX2_clearWater := goodIn_r _ [29, 30, 31, 32, 19, 33, 34, 35, 36, 37, 21, 38, 39, 40, 41, 42, 43, 89, 90, 91] (by decide +kernel) (by decide +kernel)
set_option maxRecDepth 20000 in
theorem gX5_clearIn_X2_clearWater : GoodIn wsX5_clearIn (wsV RX5 200 RX2 yX2_clearWater wsX2_clearWater) := goodIn_app (goodIn_of _ (by decide +kernel)) ggX5_clearIn_X2_clearWater
set_option maxRecDepth 20000 in
theorem ggX5_clearIn_X2_goOneStep : GoodIn wsX5_clearIn wsX2_goOneStep := goodIn_r _ [47, 48, 49, 50, 19, 51, 52, 53, 54, 55, 30, 31, 32, 33, 34, 35, 36, 37, 21, 56, 57, 58, 41, 59, 60, 43, 61, 62, 63, 64, 65, 66, 67, 68, 69, 70, 71, 72, 73, 74, 75, 76, 77, 78, 89, 90, 91] (by decide +kernel) (by decide +kernel)
set_option maxRecDepth 20000 in
theorem gX5_clearIn_X2_goOneStep : GoodIn wsX5_clearIn (wsV RX5 203 RX2 yX2_goOneStep wsX2_goOneStep) := goodIn_app (goodIn_of _ (by decide +kernel)) ggX5_clearIn_X2_goOneStep
theorem dX5_clearIn_0 : decode cX5_clearIn 0 = .ok (.iload_n 1, 1) := by decide +kernel
theorem dX5_clearIn_1 : decode cX5_clearIn 1 = .ok (.iconst 3, 1) := by decide +kernel
theorem dX5_clearIn_2 : decode cX5_clearIn 2 = .ok (.invokestatic 37, 3) := by decide +kernel
theorem dX5_clearIn_5 : decode cX5_clearIn 5 = .ok (.iload_n 2, 1) := by decide +kernel
theorem dX5_clearIn_6 : decode cX5_clearIn 6 = .ok (.iconst 1, 1) := by decide +kernel
theorem dX5_clearIn_7 : decode cX5_clearIn 7 = .ok (.bipush 12, 2) := by decide +kernel
theorem dX5_clearIn_9 : decode cX5_clearIn 9 = .ok (.invokestatic 50, 3) := by decide +kernel
theorem dX5_clearIn_12 : decode cX5_clearIn 12 = .ok (.aload_n 0, 1) := by decide +kernel
theorem dX5_clearIn_13 : decode cX5_clearIn 13 = .ok (.getfield 33, 3) := by decide +kernel
theorem dX5_clearIn_16 : decode cX5_clearIn 16 = .ok (.aload_n 0, 1) := by decide +kernel
theorem dX5_clearIn_17 : decode cX5_clearIn 17 = .ok (.getfield 12, 3) := by decide +kernel
theorem dX5_clearIn_20 : decode cX5_clearIn 20 = .ok (.getfield 71, 3) := by decide +kernel
theorem dX5_clearIn_23 : decode cX5_clearIn 23 = .ok (.iload_n 1, 1) := by decide +kernel
theorem dX5_clearIn_24 : decode cX5_clearIn 24 = .ok (.aaload, 1) := by decide +kernel
theorem dX5_clearIn_25 : decode cX5_clearIn 25 = .ok (.invokevirtual 197, 3) := by decide +kernel
theorem dX5_clearIn_28 : decode cX5_clearIn 28 = .ok (.iconst 0, 1) := by decide +kernel
theorem dX5_clearIn_29 : decode cX5_clearIn 29 = .ok (.istore_n 3, 1) := by decide +kernel
theorem dX5_clearIn_30 : decode cX5_clearIn 30 = .ok (.iload_n 3, 1) := by decide +kernel
theorem dX5_clearIn_31 : decode cX5_clearIn 31 = .ok (.sipush 300, 3) := by decide +kernel
theorem dX5_clearIn_34 : decode cX5_clearIn 34 = .ok (.if_icmp .gt 48, 3) := by decide +kernel
theorem dX5_clearIn_37 : decode cX5_clearIn 37 = .ok (.aload_n 0, 1) := by decide +kernel
theorem dX5_clearIn_38 : decode cX5_clearIn 38 = .ok (.getfield 33, 3) := by decide +kernel
theorem dX5_clearIn_41 : decode cX5_clearIn 41 = .ok (.aload_n 0, 1) := by decide +kernel
theorem dX5_clearIn_42 : decode cX5_clearIn 42 = .ok (.getfield 12, 3) := by decide +kernel
theorem dX5_clearIn_45 : decode cX5_clearIn 45 = .ok (.getfield 58, 3) := by decide +kernel
theorem dX5_clearIn_48 : decode cX5_clearIn 48 = .ok (.invokevirtual 200, 3) := by decide +kernel
theorem dX5_clearIn_51 : decode cX5_clearIn 51 = .ok (.iload_n 2, 1) := by decide +kernel
theorem dX5_clearIn_52 : decode cX5_clearIn 52 = .ok (.if_icmp .lt 5, 3) := by decide +kernel
theorem dX5_clearIn_55 : decode cX5_clearIn 55 = .ok (.iload_n 3, 1) := by decide +kernel
theorem dX5_clearIn_56 : decode cX5_clearIn 56 = .ok (.ireturn, 1) := by decide +kernel
theorem dX5_clearIn_57 : decode cX5_clearIn 57 = .ok (.aload_n 0, 1) := by decide +kernel
theorem dX5_clearIn_58 : decode cX5_clearIn 58 = .ok (.getfield 33, 3) := by decide +kernel
theorem dX5_clearIn_61 : decode cX5_clearIn 61 = .ok (.aload_n 0, 1) := by decide +kernel
theorem dX5_clearIn_62 : decode cX5_clearIn 62 = .ok (.getfield 12, 3) := by decide +kernel
theorem dX5_clearIn_65 : decode cX5_clearIn 65 = .ok (.getfield 58, 3) := by decide +kernel
theorem dX5_clearIn_68 : decode cX5_clearIn 68 = .ok (.invokevirtual 203, 3) := by decide +kernel
theorem dX5_clearIn_71 : decode cX5_clearIn 71 = .ok (.ifCond .ne 5, 3) := by decide +kernel
theorem dX5_clearIn_74 : decode cX5_clearIn 74 = .ok (.iconst (-1), 1) := by decide +kernel
theorem dX5_clearIn_75 : decode cX5_clearIn 75 = .ok (.ireturn, 1) := by decide +kernel
theorem dX5_clearIn_76 : decode cX5_clearIn 76 = .ok (.iinc 3 1, 3) := by decide +kernel
theorem dX5_clearIn_79 : decode cX5_clearIn 79 = .ok (.goto (-49), 3) := by decide +kernel
theorem dX5_clearIn_82 : decode cX5_clearIn 82 = .ok (.iconst (-1), 1) := by decide +kernel
theorem dX5_clearIn_83 : decode cX5_clearIn 83 = .ok (.ireturn, 1) := by decide +kernel
set_option maxRecDepth 20000 in
theorem ggX5_restIn_X5_needIndex : GoodIn wsX5_restIn wsX5_needIndex := goodIn_ca (goodIn_r _ [8, 9, 10] (by decide +kernel) (by decide +kernel)) (goodIn_sub (fun _ h => List.mem_cons_of_mem _ (List.mem_append_right _ h)) (by decide +kernel))
set_option maxRecDepth 20000 in
theorem gX5_restIn_X5_needIndex : GoodIn wsX5_restIn (va_wsS RX5 37 yX5_needIndex wsX5_needIndex) := goodIn_app (goodIn_of _ (by decide +kernel)) ggX5_restIn_X5_needIndex
set_option maxRecDepth 20000 in
theorem ggX5_restIn_X2_copyFrom : GoodIn wsX5_restIn wsX2_copyFrom := goodIn_r _ [15, 16, 17, 18, 19, 20, 76] (by decide +kernel) (by decide +kernel)
set_option maxRecDepth 20000 in
theorem gX5_restIn_X2_copyFrom : GoodIn wsX5_restIn (wsV RX5 197 RX2 yX2_copyFrom wsX2_copyFrom) := goodIn_app (goodIn_of _ (by decide +kernel)) ggX5_restIn_X2_copyFrom
set_option maxRecDepth 20000 in
theorem ggX5_restIn_X2_goOneStep : GoodIn wsX5_restIn wsX2_goOneStep := goodIn_r _ [24, 25, 26, 27, 14, 28, 29, 30, 31, 32, 33, 34, 35, 36, 37, 38, 39, 40, 16, 41, 42, 43, 44, 45, 46, 47, 48, 49, 50, 51, 52, 53, 54, 55, 56, 57, 58, 59, 60, 61, 62, 63, 64, 65, 76, 77, 78] (by decide +kernel) (by decide +kernel)
set_option maxRecDepth 20000 in
theorem gX5_restIn_X2_goOneStep : GoodIn wsX5_restIn (wsV RX5 203 RX2 yX2_goOneStep wsX2_goOneStep) := goodIn_app (goodIn_of _ (by decide +kernel)) ggX5_restIn_X2_goOneStep
theorem dX5_restIn_0 : decode cX5_restIn 0 = .ok (.iload_n 1, 1) := by decide +kernel
theorem dX5_restIn_1 : decode cX5_restIn 1 = .ok (.iconst 3, 1) := by decide +kernel
theorem dX5_restIn_2 : decode cX5_restIn 2 = .ok (.invokestatic 37, 3) := by decide +kernel
theorem dX5_restIn_5 : decode cX5_restIn 5 = .ok (.aload_n 0, 1) := by decide +kernel
theorem dX5_restIn_6 : decode cX5_restIn 6 = .ok (.getfield 33, 3) := by decide +kernel
theorem dX5_restIn_9 : decode cX5_restIn 9 = .ok (.aload_n 0, 1) := by decide +kernel
theorem dX5_restIn_10 : decode cX5_restIn 10 = .ok (.getfield 12, 3) := by decide +kernel
theorem dX5_restIn_13 : decode cX5_restIn 13 = .ok (.getfield 71, 3) := by decide +kernel
theorem dX5_restIn_16 : decode cX5_restIn 16 = .ok (.iload_n 1, 1) := by decide +kernel
theorem dX5_restIn_17 : decode cX5_restIn 17 = .ok (.aaload, 1) := by decide +kernel
theorem dX5_restIn_18 : decode cX5_restIn 18 = .ok (.invokevirtual 197, 3) := by decide +kernel
theorem dX5_restIn_21 : decode cX5_restIn 21 = .ok (.iconst 0, 1) := by decide +kernel
theorem dX5_restIn_22 : decode cX5_restIn 22 = .ok (.istore_n 2, 1) := by decide +kernel
theorem dX5_restIn_23 : decode cX5_restIn 23 = .ok (.iload_n 2, 1) := by decide +kernel
theorem dX5_restIn_24 : decode cX5_restIn 24 = .ok (.sipush 600, 3) := by decide +kernel
theorem dX5_restIn_27 : decode cX5_restIn 27 = .ok (.if_icmp .gt 28, 3) := by decide +kernel
theorem dX5_restIn_30 : decode cX5_restIn 30 = .ok (.aload_n 0, 1) := by decide +kernel
theorem dX5_restIn_31 : decode cX5_restIn 31 = .ok (.getfield 33, 3) := by decide +kernel
theorem dX5_restIn_34 : decode cX5_restIn 34 = .ok (.aload_n 0, 1) := by decide +kernel
theorem dX5_restIn_35 : decode cX5_restIn 35 = .ok (.getfield 12, 3) := by decide +kernel
theorem dX5_restIn_38 : decode cX5_restIn 38 = .ok (.getfield 58, 3) := by decide +kernel
theorem dX5_restIn_41 : decode cX5_restIn 41 = .ok (.invokevirtual 203, 3) := by decide +kernel
theorem dX5_restIn_44 : decode cX5_restIn 44 = .ok (.ifCond .ne 5, 3) := by decide +kernel
theorem dX5_restIn_47 : decode cX5_restIn 47 = .ok (.iload_n 2, 1) := by decide +kernel
theorem dX5_restIn_48 : decode cX5_restIn 48 = .ok (.ireturn, 1) := by decide +kernel
theorem dX5_restIn_49 : decode cX5_restIn 49 = .ok (.iinc 2 1, 3) := by decide +kernel
theorem dX5_restIn_52 : decode cX5_restIn 52 = .ok (.goto (-29), 3) := by decide +kernel
theorem dX5_restIn_55 : decode cX5_restIn 55 = .ok (.iconst (-1), 1) := by decide +kernel
theorem dX5_restIn_56 : decode cX5_restIn 56 = .ok (.ireturn, 1) := by decide +kernel
set_option maxRecDepth 20000 in
theorem ggX5_purest_X5_needIndex : GoodIn wsX5_purest wsX5_needIndex := goodIn_ca (goodIn_r _ [6, 7, 8] (by decide +kernel) (by decide +kernel)) (goodIn_sub (fun _ h => List.mem_cons_of_mem _ (List.mem_append_right _ h)) (by decide +kernel))
set_option maxRecDepth 20000 in
theorem gX5_purest_X5_needIndex : GoodIn wsX5_purest (va_wsS RX5 37 yX5_needIndex wsX5_needIndex) := goodIn_app (goodIn_of _ (by decide +kernel)) ggX5_purest_X5_needIndex
set_option maxRecDepth 20000 in
theorem ggX5_purest_X2_purestSlice : GoodIn wsX5_purest wsX2_purestSlice := goodIn_r _ [13, 14, 15, 16, 12, 17, 18, 19, 20, 21, 22, 33] (by decide +kernel) (by decide +kernel)
set_option maxRecDepth 20000 in
theorem gX5_purest_X2_purestSlice : GoodIn wsX5_purest (wsV RX5 206 RX2 yX2_purestSlice wsX2_purestSlice) := goodIn_app (goodIn_of _ (by decide +kernel)) ggX5_purest_X2_purestSlice
theorem dX5_purest_0 : decode cX5_purest 0 = .ok (.iload_n 1, 1) := by decide +kernel
theorem dX5_purest_1 : decode cX5_purest 1 = .ok (.iconst 3, 1) := by decide +kernel
theorem dX5_purest_2 : decode cX5_purest 2 = .ok (.invokestatic 37, 3) := by decide +kernel
theorem dX5_purest_5 : decode cX5_purest 5 = .ok (.iload_n 2, 1) := by decide +kernel
theorem dX5_purest_6 : decode cX5_purest 6 = .ok (.iconst 4, 1) := by decide +kernel
theorem dX5_purest_7 : decode cX5_purest 7 = .ok (.invokestatic 37, 3) := by decide +kernel
theorem dX5_purest_10 : decode cX5_purest 10 = .ok (.aload_n 0, 1) := by decide +kernel
theorem dX5_purest_11 : decode cX5_purest 11 = .ok (.getfield 12, 3) := by decide +kernel
theorem dX5_purest_14 : decode cX5_purest 14 = .ok (.getfield 71, 3) := by decide +kernel
theorem dX5_purest_17 : decode cX5_purest 17 = .ok (.iload_n 1, 1) := by decide +kernel
theorem dX5_purest_18 : decode cX5_purest 18 = .ok (.aaload, 1) := by decide +kernel
theorem dX5_purest_19 : decode cX5_purest 19 = .ok (.iload_n 2, 1) := by decide +kernel
theorem dX5_purest_20 : decode cX5_purest 20 = .ok (.invokevirtual 206, 3) := by decide +kernel
theorem dX5_purest_23 : decode cX5_purest 23 = .ok (.ireturn, 1) := by decide +kernel
set_option maxRecDepth 20000 in
theorem ggX5_meanDepth_X5_needIndex : GoodIn wsX5_meanDepth wsX5_needIndex := goodIn_ca (goodIn_r _ [6, 7, 8] (by decide +kernel) (by decide +kernel)) (goodIn_sub (fun _ h => List.mem_cons_of_mem _ (List.mem_append_right _ h)) (by decide +kernel))
set_option maxRecDepth 20000 in
theorem gX5_meanDepth_X5_needIndex : GoodIn wsX5_meanDepth (va_wsS RX5 37 yX5_needIndex wsX5_needIndex) := goodIn_app (goodIn_of _ (by decide +kernel)) ggX5_meanDepth_X5_needIndex
set_option maxRecDepth 20000 in
theorem ggX5_meanDepth_X2_all : GoodIn wsX5_meanDepth wsX2_all := goodIn_r _ [13, 14, 15, 16, 12, 17, 18, 19, 20, 21, 22, 23, 24, 25, 26, 41] (by decide +kernel) (by decide +kernel)
set_option maxRecDepth 20000 in
theorem gX5_meanDepth_X2_all : GoodIn wsX5_meanDepth (wsV RX5 168 RX2 yX2_all wsX2_all) := goodIn_app (goodIn_of _ (by decide +kernel)) ggX5_meanDepth_X2_all
set_option maxRecDepth 20000 in
theorem ggX5_meanDepth_X2_sumOfDepths : GoodIn wsX5_meanDepth wsX2_sumOfDepths := goodIn_r _ [30, 18, 19, 20, 12, 21, 22, 23, 24, 25, 26, 41] (by decide +kernel) (by decide +kernel)
set_option maxRecDepth 20000 in
theorem gX5_meanDepth_X2_sumOfDepths : GoodIn wsX5_meanDepth (wsV RX5 209 RX2 yX2_sumOfDepths wsX2_sumOfDepths) := goodIn_app (goodIn_of _ (by decide +kernel)) ggX5_meanDepth_X2_sumOfDepths
theorem dX5_meanDepth_0 : decode cX5_meanDepth 0 = .ok (.iload_n 1, 1) := by decide +kernel
theorem dX5_meanDepth_1 : decode cX5_meanDepth 1 = .ok (.iconst 3, 1) := by decide +kernel
theorem dX5_meanDepth_2 : decode cX5_meanDepth 2 = .ok (.invokestatic 37, 3) := by decide +kernel
theorem dX5_meanDepth_5 : decode cX5_meanDepth 5 = .ok (.aload_n 0, 1) := by decide +kernel
theorem dX5_meanDepth_6 : decode cX5_meanDepth 6 = .ok (.getfield 12, 3) := by decide +kernel
theorem dX5_meanDepth_9 : decode cX5_meanDepth 9 = .ok (.getfield 71, 3) := by decide +kernel
theorem dX5_meanDepth_12 : decode cX5_meanDepth 12 = .ok (.iload_n 1, 1) := by decide +kernel
theorem dX5_meanDepth_13 : decode cX5_meanDepth 13 = .ok (.aaload, 1) := by decide +kernel
theorem dX5_meanDepth_14 : decode cX5_meanDepth 14 = .ok (.invokevirtual 168, 3) := by decide +kernel
theorem dX5_meanDepth_17 : decode cX5_meanDepth 17 = .ok (.istore_n 2, 1) := by decide +kernel
theorem dX5_meanDepth_18 : decode cX5_meanDepth 18 = .ok (.iload_n 2, 1) := by decide +kernel
theorem dX5_meanDepth_19 : decode cX5_meanDepth 19 = .ok (.ifCond .ne 7, 3) := by decide +kernel
theorem dX5_meanDepth_22 : decode cX5_meanDepth 22 = .ok (.dconst 0, 1) := by decide +kernel
theorem dX5_meanDepth_23 : decode cX5_meanDepth 23 = .ok (.goto 19, 3) := by decide +kernel
theorem dX5_meanDepth_26 : decode cX5_meanDepth 26 = .ok (.aload_n 0, 1) := by decide +kernel
theorem dX5_meanDepth_27 : decode cX5_meanDepth 27 = .ok (.getfield 12, 3) := by decide +kernel
theorem dX5_meanDepth_30 : decode cX5_meanDepth 30 = .ok (.getfield 71, 3) := by decide +kernel
theorem dX5_meanDepth_33 : decode cX5_meanDepth 33 = .ok (.iload_n 1, 1) := by decide +kernel
theorem dX5_meanDepth_34 : decode cX5_meanDepth 34 = .ok (.aaload, 1) := by decide +kernel
theorem dX5_meanDepth_35 : decode cX5_meanDepth 35 = .ok (.invokevirtual 209, 3) := by decide +kernel
theorem dX5_meanDepth_38 : decode cX5_meanDepth 38 = .ok (.i2d, 1) := by decide +kernel
theorem dX5_meanDepth_39 : decode cX5_meanDepth 39 = .ok (.iload_n 2, 1) := by decide +kernel
theorem dX5_meanDepth_40 : decode cX5_meanDepth 40 = .ok (.i2d, 1) := by decide +kernel
theorem dX5_meanDepth_41 : decode cX5_meanDepth 41 = .ok (.ddiv, 1) := by decide +kernel
theorem dX5_meanDepth_42 : decode cX5_meanDepth 42 = .ok (.dreturn, 1) := by decide +kernel
theorem dX5_needIndex_0 : decode cX5_needIndex 0 = .ok (.iload_n 0, 1) := by decide +kernel
theorem dX5_needIndex_1 : decode cX5_needIndex 1 = .ok (.ifCond .lt 8, 3) := by decide +kernel
theorem dX5_needIndex_4 : decode cX5_needIndex 4 = .ok (.iload_n 0, 1) := by decide +kernel
theorem dX5_needIndex_5 : decode cX5_needIndex 5 = .ok (.iload_n 1, 1) := by decide +kernel
theorem dX5_needIndex_6 : decode cX5_needIndex 6 = .ok (.if_icmp .lt 13, 3) := by decide +kernel
theorem dX5_needIndex_9 : decode cX5_needIndex 9 = .ok (.new 253, 3) := by decide +kernel
theorem dX5_needIndex_12 : decode cX5_needIndex 12 = .ok (.dup, 1) := by decide +kernel
theorem dX5_needIndex_13 : decode cX5_needIndex 13 = .ok (.ldc 255, 2) := by decide +kernel
theorem dX5_needIndex_15 : decode cX5_needIndex 15 = .ok (.invokespecial 257, 3) := by decide +kernel
theorem dX5_needIndex_18 : decode cX5_needIndex 18 = .ok (.athrow, 1) := by decide +kernel
theorem dX5_needIndex_19 : decode cX5_needIndex 19 = .ok (.return_, 1) := by decide +kernel
set_option maxRecDepth 20000 in
theorem ggX5_needSlice_X5_needIndex : GoodIn wsX5_needSlice wsX5_needIndex := goodIn_ca (goodIn_r _ [4, 5, 6] (by decide +kernel) (by decide +kernel)) (goodIn_sub (fun _ h => List.mem_cons_of_mem _ (List.mem_append_right _ h)) (by decide +kernel))
set_option maxRecDepth 20000 in
theorem gX5_needSlice_X5_needIndex : GoodIn wsX5_needSlice (va_wsS RX5 37 yX5_needIndex wsX5_needIndex) := goodIn_app (goodIn_of _ (by decide +kernel)) ggX5_needSlice_X5_needIndex
theorem dX5_needSlice_0 : decode cX5_needSlice 0 = .ok (.iload_n 0, 1) := by decide +kernel
theorem dX5_needSlice_1 : decode cX5_needSlice 1 = .ok (.iconst 3, 1) := by decide +kernel
theorem dX5_needSlice_2 : decode cX5_needSlice 2 = .ok (.invokestatic 37, 3) := by decide +kernel
theorem dX5_needSlice_5 : decode cX5_needSlice 5 = .ok (.iload_n 1, 1) := by decide +kernel
theorem dX5_needSlice_6 : decode cX5_needSlice 6 = .ok (.bipush 12, 2) := by decide +kernel
theorem dX5_needSlice_8 : decode cX5_needSlice 8 = .ok (.invokestatic 37, 3) := by decide +kernel
theorem dX5_needSlice_11 : decode cX5_needSlice 11 = .ok (.return_, 1) := by decide +kernel
theorem dX5_needRange_0 : decode cX5_needRange 0 = .ok (.iload_n 0, 1) := by decide +kernel
theorem dX5_needRange_1 : decode cX5_needRange 1 = .ok (.iload_n 1, 1) := by decide +kernel
theorem dX5_needRange_2 : decode cX5_needRange 2 = .ok (.if_icmp .lt 8, 3) := by decide +kernel
theorem dX5_needRange_5 : decode cX5_needRange 5 = .ok (.iload_n 0, 1) := by decide +kernel
theorem dX5_needRange_6 : decode cX5_needRange 6 = .ok (.iload_n 2, 1) := by decide +kernel
theorem dX5_needRange_7 : decode cX5_needRange 7 = .ok (.if_icmp .le 14, 3) := by decide +kernel
theorem dX5_needRange_10 : decode cX5_needRange 10 = .ok (.new 100, 3) := by decide +kernel
theorem dX5_needRange_13 : decode cX5_needRange 13 = .ok (.dup, 1) := by decide +kernel
