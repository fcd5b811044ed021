theorem dJxe99ae_isNaN_b9ae7_0 : decode cJxe99ae_isNaN_b9ae7 0 = .ok (.dload_n 0, 1) := by decide +kernel
theorem dJxe99ae_isNaN_b9ae7_1 : decode cJxe99ae_isNaN_b9ae7 1 = .ok (.dload_n 0, 1) := by decide +kernel
theorem dJxe99ae_isNaN_b9ae7_2 : decode cJxe99ae_isNaN_b9ae7 2 = .ok (.dcmp .l, 1) := by decide +kernel
theorem dJxe99ae_isNaN_b9ae7_3 : decode cJxe99ae_isNaN_b9ae7 3 = .ok (.ifCond .eq 7, 3) := by decide +kernel
theorem dJxe99ae_isNaN_b9ae7_6 : decode cJxe99ae_isNaN_b9ae7 6 = .ok (.iconst 1, 1) := by decide +kernel
theorem dJxe99ae_isNaN_b9ae7_7 : decode cJxe99ae_isNaN_b9ae7 7 = .ok (.goto 4, 3) := by decide +kernel
theorem dJxe99ae_isNaN_b9ae7_10 : decode cJxe99ae_isNaN_b9ae7 10 = .ok (.iconst 0, 1) := by decide +kernel
theorem dJxe99ae_isNaN_b9ae7_11 : decode cJxe99ae_isNaN_b9ae7 11 = .ok (.ireturn, 1) := by decide +kernel
set_option maxRecDepth 20000 in
theorem ggJxe99ae_doubleToLongBits_ccdee_Jxe99ae_isNaN_b9ae7 : GoodIn wsJxe99ae_doubleToLongBits_ccdee wsJxe99ae_isNaN_b9ae7 := goodIn_r _ [9] (by decide +kernel) (by decide +kernel)
set_option maxRecDepth 20000 in
theorem gJxe99ae_doubleToLongBits_ccdee_Jxe99ae_isNaN_b9ae7 : GoodIn wsJxe99ae_doubleToLongBits_ccdee (va_wsS RJxe99ae 122 yJxe99ae_isNaN_b9ae7 wsJxe99ae_isNaN_b9ae7) := goodIn_app (goodIn_of _ (by decide +kernel)) ggJxe99ae_doubleToLongBits_ccdee_Jxe99ae_isNaN_b9ae7
theorem dJxe99ae_doubleToLongBits_ccdee_0 : decode cJxe99ae_doubleToLongBits_ccdee 0 = .ok (.dload_n 0, 1) := by decide +kernel
theorem dJxe99ae_doubleToLongBits_ccdee_1 : decode cJxe99ae_doubleToLongBits_ccdee 1 = .ok (.invokestatic 122, 3) := by decide +kernel
theorem dJxe99ae_doubleToLongBits_ccdee_4 : decode cJxe99ae_doubleToLongBits_ccdee 4 = .ok (.ifCond .ne 8, 3) := by decide +kernel
theorem dJxe99ae_doubleToLongBits_ccdee_7 : decode cJxe99ae_doubleToLongBits_ccdee 7 = .ok (.dload_n 0, 1) := by decide +kernel
theorem dJxe99ae_doubleToLongBits_ccdee_8 : decode cJxe99ae_doubleToLongBits_ccdee 8 = .ok (.invokestatic 134, 3) := by decide +kernel
theorem dJxe99ae_doubleToLongBits_ccdee_11 : decode cJxe99ae_doubleToLongBits_ccdee 11 = .ok (.lreturn, 1) := by decide +kernel
theorem dJxe99ae_doubleToLongBits_ccdee_12 : decode cJxe99ae_doubleToLongBits_ccdee 12 = .ok (.ldc2_w 137, 3) := by decide +kernel
theorem dJxe99ae_doubleToLongBits_ccdee_15 : decode cJxe99ae_doubleToLongBits_ccdee 15 = .ok (.lreturn, 1) := by decide +kernel
theorem dJ9_max_7cf53_0 : decode cJ9_max_7cf53 0 = .ok (.iload_n 0, 1) := by decide +kernel
theorem dJ9_max_7cf53_1 : decode cJ9_max_7cf53 1 = .ok (.iload_n 1, 1) := by decide +kernel
theorem dJ9_max_7cf53_2 : decode cJ9_max_7cf53 2 = .ok (.if_icmp .lt 7, 3) := by decide +kernel
theorem dJ9_max_7cf53_5 : decode cJ9_max_7cf53 5 = .ok (.iload_n 0, 1) := by decide +kernel
theorem dJ9_max_7cf53_6 : decode cJ9_max_7cf53 6 = .ok (.goto 4, 3) := by decide +kernel
theorem dJ9_max_7cf53_9 : decode cJ9_max_7cf53 9 = .ok (.iload_n 1, 1) := by decide +kernel
theorem dJ9_max_7cf53_10 : decode cJ9_max_7cf53 10 = .ok (.ireturn, 1) := by decide +kernel
theorem dJ9_min_7cf53_0 : decode cJ9_min_7cf53 0 = .ok (.iload_n 0, 1) := by decide +kernel
theorem dJ9_min_7cf53_1 : decode cJ9_min_7cf53 1 = .ok (.iload_n 1, 1) := by decide +kernel
theorem dJ9_min_7cf53_2 : decode cJ9_min_7cf53 2 = .ok (.if_icmp .gt 7, 3) := by decide +kernel
theorem dJ9_min_7cf53_5 : decode cJ9_min_7cf53 5 = .ok (.iload_n 0, 1) := by decide +kernel
theorem dJ9_min_7cf53_6 : decode cJ9_min_7cf53 6 = .ok (.goto 4, 3) := by decide +kernel
theorem dJ9_min_7cf53_9 : decode cJ9_min_7cf53 9 = .ok (.iload_n 1, 1) := by decide +kernel
theorem dJ9_min_7cf53_10 : decode cJ9_min_7cf53 10 = .ok (.ireturn, 1) := by decide +kernel
set_option maxRecDepth 20000 in
theorem ggL_set_X5_set : GoodIn wsL_set wsX5_set := goodIn_ca (goodIn_ca (goodIn_r _ [7, 8, 9, 10, 11, 12, 13, 14, 15, 6, 16, 17, 18, 19, 20, 21, 22, 23, 24, 25, 26, 27, 28, 29, 30, 31, 32, 33, 34, 35, 36, 37, 38, 39, 40, 41, 42, 43, 44, 45, 46, 47, 48, 49, 50, 51, 52, 53, 54, 55, 56, 57, 58, 59, 60, 61, 62, 63, 64, 65, 66, 67, 68, 69, 70, 71, 72, 73, 74, 75, 76, 77] (by decide +kernel) (by decide +kernel)) (goodIn_sub (fun _ h => List.mem_cons_of_mem _ (List.mem_append_left _ (List.mem_append_right _ h))) (by decide +kernel))) (goodIn_sub (fun _ h => List.mem_cons_of_mem _ (List.mem_append_right _ h)) (by decide +kernel))
set_option maxRecDepth 20000 in
theorem gL_set_X5_set : GoodIn wsL_set (wsV RL 7 RX5 yX5_set wsX5_set) := goodIn_app (goodIn_of _ (by decide +kernel)) ggL_set_X5_set
theorem dL_set_0 : decode cL_set 0 = .ok (.aload_n 3, 1) := by decide +kernel
theorem dL_set_1 : decode cL_set 1 = .ok (.iconst 0, 1) := by decide +kernel
theorem dL_set_2 : decode cL_set 2 = .ok (.aload_n 0, 1) := by decide +kernel
theorem dL_set_3 : decode cL_set 3 = .ok (.iload_n 1, 1) := by decide +kernel
theorem dL_set_4 : decode cL_set 4 = .ok (.iload_n 2, 1) := by decide +kernel
theorem dL_set_5 : decode cL_set 5 = .ok (.invokevirtual 7, 3) := by decide +kernel
theorem dL_set_8 : decode cL_set 8 = .ok (.i2l, 1) := by decide +kernel
theorem dL_set_9 : decode cL_set 9 = .ok (.lastore, 1) := by decide +kernel
theorem dL_set_10 : decode cL_set 10 = .ok (.goto 11, 3) := by decide +kernel
theorem dL_set_13 : decode cL_set 13 = .ok (.astore 4, 2) := by decide +kernel
theorem dL_set_15 : decode cL_set 15 = .ok (.iconst 1, 1) := by decide +kernel
theorem dL_set_16 : decode cL_set 16 = .ok (.ireturn, 1) := by decide +kernel
theorem dL_set_17 : decode cL_set 17 = .ok (.astore 4, 2) := by decide +kernel
theorem dL_set_19 : decode cL_set 19 = .ok (.iconst 2, 1) := by decide +kernel
theorem dL_set_20 : decode cL_set 20 = .ok (.ireturn, 1) := by decide +kernel
theorem dL_set_21 : decode cL_set 21 = .ok (.iconst 0, 1) := by decide +kernel
theorem dL_set_22 : decode cL_set 22 = .ok (.ireturn, 1) := by decide +kernel
set_option maxRecDepth 20000 in
theorem ggL_setSpeed_X5_setSpeed : GoodIn wsL_setSpeed wsX5_setSpeed := goodIn_ca (goodIn_ca (goodIn_r _ [7, 8, 9, 10, 11, 12, 13, 6, 14, 15, 16, 17, 18, 19, 20, 21, 22, 23, 24, 25, 26, 27, 28, 29, 30, 31, 32, 33, 34, 35, 36, 37, 38, 39, 40, 41, 42, 43, 44, 45, 46, 47, 48, 49, 50, 51, 52, 53, 54, 55, 56, 57, 58, 59, 60, 61, 62, 63, 64, 65, 66, 67, 68, 69, 70, 71, 72, 73, 74, 75] (by decide +kernel) (by decide +kernel)) (goodIn_sub (fun _ h => List.mem_cons_of_mem _ (List.mem_append_left _ (List.mem_append_right _ h))) (by decide +kernel))) (goodIn_sub (fun _ h => List.mem_cons_of_mem _ (List.mem_append_right _ h)) (by decide +kernel))
set_option maxRecDepth 20000 in
theorem gL_setSpeed_X5_setSpeed : GoodIn wsL_setSpeed (wsV RL 17 RX5 yX5_setSpeed wsX5_setSpeed) := goodIn_app (goodIn_of _ (by decide +kernel)) ggL_setSpeed_X5_setSpeed
theorem dL_setSpeed_0 : decode cL_setSpeed 0 = .ok (.aload_n 3, 1) := by decide +kernel
theorem dL_setSpeed_1 : decode cL_setSpeed 1 = .ok (.iconst 0, 1) := by decide +kernel
theorem dL_setSpeed_2 : decode cL_setSpeed 2 = .ok (.aload_n 0, 1) := by decide +kernel
theorem dL_setSpeed_3 : decode cL_setSpeed 3 = .ok (.iload_n 1, 1) := by decide +kernel
theorem dL_setSpeed_4 : decode cL_setSpeed 4 = .ok (.iload_n 2, 1) := by decide +kernel
theorem dL_setSpeed_5 : decode cL_setSpeed 5 = .ok (.invokevirtual 17, 3) := by decide +kernel
theorem dL_setSpeed_8 : decode cL_setSpeed 8 = .ok (.i2l, 1) := by decide +kernel
theorem dL_setSpeed_9 : decode cL_setSpeed 9 = .ok (.lastore, 1) := by decide +kernel
theorem dL_setSpeed_10 : decode cL_setSpeed 10 = .ok (.goto 11, 3) := by decide +kernel
theorem dL_setSpeed_13 : decode cL_setSpeed 13 = .ok (.astore 4, 2) := by decide +kernel
theorem dL_setSpeed_15 : decode cL_setSpeed 15 = .ok (.iconst 1, 1) := by decide +kernel
theorem dL_setSpeed_16 : decode cL_setSpeed 16 = .ok (.ireturn, 1) := by decide +kernel
theorem dL_setSpeed_17 : decode cL_setSpeed 17 = .ok (.astore 4, 2) := by decide +kernel
theorem dL_setSpeed_19 : decode cL_setSpeed 19 = .ok (.iconst 2, 1) := by decide +kernel
theorem dL_setSpeed_20 : decode cL_setSpeed 20 = .ok (.ireturn, 1) := by decide +kernel
theorem dL_setSpeed_21 : decode cL_setSpeed 21 = .ok (.iconst 0, 1) := by decide +kernel
theorem dL_setSpeed_22 : decode cL_setSpeed 22 = .ok (.ireturn, 1) := by decide +kernel
set_option maxRecDepth 20000 in
theorem ggL_pour_X5_pour : GoodIn wsL_pour wsX5_pour := goodIn_ca (goodIn_ca (goodIn_ca (goodIn_r _ [8, 9, 10, 11, 12, 13, 14, 7, 15, 16, 17, 18, 19, 20, 21, 22, 23, 24, 25, 26, 27, 28, 29, 30, 31, 32, 33, 34, 35, 36, 37, 38, 39, 40, 41, 42, 43, 44, 45, 46, 47, 48, 49, 50, 51, 52, 53, 54, 55, 56, 57, 58, 59, 60, 61, 62, 63, 64, 65, 66, 67, 68, 69, 70, 71, 72, 73, 74, 75, 76, 77, 78, 79, 80, 81, 82, 83, 84, 85, 86, 87, 88, 89, 90, 91, 92, 93, 94, 95, 96, 97, 98, 99, 100, 101, 102, 103, 104, 105] (by decide +kernel) (by decide +kernel)) (goodIn_sub (fun _ h => List.mem_cons_of_mem _ (List.mem_append_left _ (List.mem_append_left _ (List.mem_append_right _ h)))) (by decide +kernel))) (goodIn_sub (fun _ h => List.mem_cons_of_mem _ (List.mem_append_left _ (List.mem_append_right _ h))) (by decide +kernel))) (goodIn_sub (fun _ h => List.mem_cons_of_mem _ (List.mem_append_right _ h)) (by decide +kernel))
set_option maxRecDepth 20000 in
theorem gL_pour_X5_pour : GoodIn wsL_pour (wsV RL 20 RX5 yX5_pour wsX5_pour) := goodIn_app (goodIn_of _ (by decide +kernel)) ggL_pour_X5_pour
theorem dL_pour_0 : decode cL_pour 0 = .ok (.aload 5, 2) := by decide +kernel
theorem dL_pour_2 : decode cL_pour 2 = .ok (.iconst 0, 1) := by decide +kernel
theorem dL_pour_3 : decode cL_pour 3 = .ok (.aload_n 0, 1) := by decide +kernel
theorem dL_pour_4 : decode cL_pour 4 = .ok (.iload_n 1, 1) := by decide +kernel
theorem dL_pour_5 : decode cL_pour 5 = .ok (.iload_n 2, 1) := by decide +kernel
theorem dL_pour_6 : decode cL_pour 6 = .ok (.iload_n 3, 1) := by decide +kernel
theorem dL_pour_7 : decode cL_pour 7 = .ok (.iload 4, 2) := by decide +kernel
theorem dL_pour_9 : decode cL_pour 9 = .ok (.invokevirtual 20, 3) := by decide +kernel
theorem dL_pour_12 : decode cL_pour 12 = .ok (.i2l, 1) := by decide +kernel
theorem dL_pour_13 : decode cL_pour 13 = .ok (.lastore, 1) := by decide +kernel
theorem dL_pour_14 : decode cL_pour 14 = .ok (.goto 15, 3) := by decide +kernel
theorem dL_pour_17 : decode cL_pour 17 = .ok (.astore 6, 2) := by decide +kernel
theorem dL_pour_19 : decode cL_pour 19 = .ok (.iconst 1, 1) := by decide +kernel
theorem dL_pour_20 : decode cL_pour 20 = .ok (.ireturn, 1) := by decide +kernel
theorem dL_pour_21 : decode cL_pour 21 = .ok (.astore 6, 2) := by decide +kernel
theorem dL_pour_23 : decode cL_pour 23 = .ok (.iconst 2, 1) := by decide +kernel
theorem dL_pour_24 : decode cL_pour 24 = .ok (.ireturn, 1) := by decide +kernel
theorem dL_pour_25 : decode cL_pour 25 = .ok (.astore 6, 2) := by decide +kernel
theorem dL_pour_27 : decode cL_pour 27 = .ok (.iconst 3, 1) := by decide +kernel
theorem dL_pour_28 : decode cL_pour 28 = .ok (.ireturn, 1) := by decide +kernel
theorem dL_pour_29 : decode cL_pour 29 = .ok (.iconst 0, 1) := by decide +kernel
theorem dL_pour_30 : decode cL_pour 30 = .ok (.ireturn, 1) := by decide +kernel
set_option maxRecDepth 20000 in
theorem ggL_stir_X5_stir : GoodIn wsL_stir wsX5_stir := goodIn_ca (goodIn_ca (goodIn_r _ [7, 8, 9, 10, 11, 12, 6, 13, 14, 15, 16, 17, 18, 19, 20, 21, 22, 23, 24, 25, 26, 27, 28, 29, 30, 31, 32, 33, 34, 35, 36, 37, 38, 39, 40, 41, 42, 43, 44, 45, 46, 47, 48, 49, 50, 51, 52, 53, 54, 55, 56, 57, 58, 59, 60, 61, 62, 63, 64, 65, 66, 67, 68, 69, 70, 71, 72, 73, 74, 75, 76, 77, 78, 79, 80, 81, 82, 83, 84, 85, 86, 87, 88, 89] (by decide +kernel) (by decide +kernel)) (goodIn_sub (fun _ h => List.mem_cons_of_mem _ (List.mem_append_left _ (List.mem_append_right _ h))) (by decide +kernel))) (goodIn_sub (fun _ h => List.mem_cons_of_mem _ (List.mem_append_right _ h)) (by decide +kernel))
set_option maxRecDepth 20000 in
theorem gL_stir_X5_stir : GoodIn wsL_stir (wsV RL 26 RX5 yX5_stir wsX5_stir) := goodIn_app (goodIn_of _ (by decide +kernel)) ggL_stir_X5_stir
theorem dL_stir_0 : decode cL_stir 0 = .ok (.aload 4, 2) := by decide +kernel
theorem dL_stir_2 : decode cL_stir 2 = .ok (.iconst 0, 1) := by decide +kernel
theorem dL_stir_3 : decode cL_stir 3 = .ok (.aload_n 0, 1) := by decide +kernel
theorem dL_stir_4 : decode cL_stir 4 = .ok (.iload_n 1, 1) := by decide +kernel
theorem dL_stir_5 : decode cL_stir 5 = .ok (.iload_n 2, 1) := by decide +kernel
theorem dL_stir_6 : decode cL_stir 6 = .ok (.iload_n 3, 1) := by decide +kernel
theorem dL_stir_7 : decode cL_stir 7 = .ok (.invokevirtual 26, 3) := by decide +kernel
theorem dL_stir_10 : decode cL_stir 10 = .ok (.i2l, 1) := by decide +kernel
theorem dL_stir_11 : decode cL_stir 11 = .ok (.lastore, 1) := by decide +kernel
theorem dL_stir_12 : decode cL_stir 12 = .ok (.goto 11, 3) := by decide +kernel
theorem dL_stir_15 : decode cL_stir 15 = .ok (.astore 5, 2) := by decide +kernel
theorem dL_stir_17 : decode cL_stir 17 = .ok (.iconst 1, 1) := by decide +kernel
theorem dL_stir_18 : decode cL_stir 18 = .ok (.ireturn, 1) := by decide +kernel
theorem dL_stir_19 : decode cL_stir 19 = .ok (.astore 5, 2) := by decide +kernel
theorem dL_stir_21 : decode cL_stir 21 = .ok (.iconst 2, 1) := by decide +kernel
theorem dL_stir_22 : decode cL_stir 22 = .ok (.ireturn, 1) := by decide +kernel
theorem dL_stir_23 : decode cL_stir 23 = .ok (.iconst 0, 1) := by decide +kernel
theorem dL_stir_24 : decode cL_stir 24 = .ok (.ireturn, 1) := by decide +kernel
set_option maxRecDepth 20000 in
theorem ggL_draw_X5_draw : GoodIn wsL_draw wsX5_draw := goodIn_ca (goodIn_ca (goodIn_r _ [7, 8, 9, 10, 11, 12, 13, 6, 14, 15, 16, 17, 18, 19, 20, 21, 22, 23, 24, 25, 26, 27, 28, 29, 30, 31, 32, 33, 34, 35, 36, 37, 38, 39, 40, 41, 42, 43, 44, 45, 46, 47, 48, 49, 50, 51, 52, 53, 54, 55, 56, 57, 58, 59, 60, 61, 62, 63, 64, 65, 66, 67, 68, 69, 70, 71, 72, 73, 74, 75, 76, 77, 78, 79, 80, 81, 82, 83, 84, 85, 86] (by decide +kernel) (by decide +kernel)) (goodIn_sub (fun _ h => List.mem_cons_of_mem _ (List.mem_append_left _ (List.mem_append_right _ h))) (by decide +kernel))) (goodIn_sub (fun _ h => List.mem_cons_of_mem _ (List.mem_append_right _ h)) (by decide +kernel))
set_option maxRecDepth 20000 in
theorem gL_draw_X5_draw : GoodIn wsL_draw (wsV RL 30 RX5 yX5_draw wsX5_draw) := goodIn_app (goodIn_of _ (by decide +kernel)) ggL_draw_X5_draw
theorem dL_draw_0 : decode cL_draw 0 = .ok (.aload 4, 2) := by decide +kernel
theorem dL_draw_2 : decode cL_draw 2 = .ok (.iconst 0, 1) := by decide +kernel
theorem dL_draw_3 : decode cL_draw 3 = .ok (.aload_n 0, 1) := by decide +kernel
theorem dL_draw_4 : decode cL_draw 4 = .ok (.iload_n 1, 1) := by decide +kernel
theorem dL_draw_5 : decode cL_draw 5 = .ok (.iload_n 2, 1) := by decide +kernel
theorem dL_draw_6 : decode cL_draw 6 = .ok (.iload_n 3, 1) := by decide +kernel
theorem dL_draw_7 : decode cL_draw 7 = .ok (.invokevirtual 30, 3) := by decide +kernel
theorem dL_draw_10 : decode cL_draw 10 = .ok (.i2l, 1) := by decide +kernel
theorem dL_draw_11 : decode cL_draw 11 = .ok (.lastore, 1) := by decide +kernel
theorem dL_draw_12 : decode cL_draw 12 = .ok (.goto 11, 3) := by decide +kernel
theorem dL_draw_15 : decode cL_draw 15 = .ok (.astore 5, 2) := by decide +kernel
theorem dL_draw_17 : decode cL_draw 17 = .ok (.iconst 1, 1) := by decide +kernel
theorem dL_draw_18 : decode cL_draw 18 = .ok (.ireturn, 1) := by decide +kernel
theorem dL_draw_19 : decode cL_draw 19 = .ok (.astore 5, 2) := by decide +kernel
theorem dL_draw_21 : decode cL_draw 21 = .ok (.iconst 2, 1) := by decide +kernel
theorem dL_draw_22 : decode cL_draw 22 = .ok (.ireturn, 1) := by decide +kernel
theorem dL_draw_23 : decode cL_draw 23 = .ok (.iconst 0, 1) := by decide +kernel
theorem dL_draw_24 : decode cL_draw 24 = .ok (.ireturn, 1) := by decide +kernel
set_option maxRecDepth 20000 in
theorem ggL_decant_X5_decant : GoodIn wsL_decant wsX5_decant := goodIn_ca (goodIn_ca (goodIn_ca (goodIn_r _ [8, 9, 10, 11, 12, 13, 14, 15, 7, 16, 17, 18, 19, 20, 21, 22, 23, 24, 25, 26, 27, 28, 29, 30, 31, 32, 33, 34, 35, 36, 37, 38, 39, 40, 41, 42, 43, 44, 45, 46, 47, 48, 49, 50, 51, 52, 53, 54, 55, 56, 57, 58, 59, 60, 61, 62, 63, 64, 65, 66, 67, 68, 69, 70, 71, 72, 73, 74, 75, 76, 77, 78, 79, 80, 81, 82, 83, 84, 85, 86, 87, 88, 89, 90, 91, 92, 93, 94, 95, 96, 97, 98, 99, 100, 101, 102, 103, 104, 105] (by decide +kernel) (by decide +kernel)) (goodIn_sub (fun _ h => List.mem_cons_of_mem _ (List.mem_append_left _ (List.mem_append_left _ (List.mem_append_right _ h)))) (by decide +kernel))) (goodIn_sub (fun _ h => List.mem_cons_of_mem _ (List.mem_append_left _ (List.mem_append_right _ h))) (by decide +kernel))) (goodIn_sub (fun _ h => List.mem_cons_of_mem _ (List.mem_append_right _ h)) (by decide +kernel))
set_option maxRecDepth 20000 in
theorem gL_decant_X5_decant : GoodIn wsL_decant (wsV RL 33 RX5 yX5_decant wsX5_decant) := goodIn_app (goodIn_of _ (by decide +kernel)) ggL_decant_X5_decant
theorem dL_decant_0 : decode cL_decant 0 = .ok (.aload 4, 2) := by decide +kernel
theorem dL_decant_2 : decode cL_decant 2 = .ok (.iconst 0, 1) := by decide +kernel
theorem dL_decant_3 : decode cL_decant 3 = .ok (.aload_n 0, 1) := by decide +kernel
theorem dL_decant_4 : decode cL_decant 4 = .ok (.iload_n 1, 1) := by decide +kernel
theorem dL_decant_5 : decode cL_decant 5 = .ok (.iload_n 2, 1) := by decide +kernel
theorem dL_decant_6 : decode cL_decant 6 = .ok (.iload_n 3, 1) := by decide +kernel
theorem dL_decant_7 : decode cL_decant 7 = .ok (.invokevirtual 33, 3) := by decide +kernel
theorem dL_decant_10 : decode cL_decant 10 = .ok (.i2l, 1) := by decide +kernel
theorem dL_decant_11 : decode cL_decant 11 = .ok (.lastore, 1) := by decide +kernel
theorem dL_decant_12 : decode cL_decant 12 = .ok (.goto 15, 3) := by decide +kernel
theorem dL_decant_15 : decode cL_decant 15 = .ok (.astore 5, 2) := by decide +kernel
theorem dL_decant_17 : decode cL_decant 17 = .ok (.iconst 1, 1) := by decide +kernel
theorem dL_decant_18 : decode cL_decant 18 = .ok (.ireturn, 1) := by decide +kernel
theorem dL_decant_19 : decode cL_decant 19 = .ok (.astore 5, 2) := by decide +kernel
theorem dL_decant_21 : decode cL_decant 21 = .ok (.iconst 2, 1) := by decide +kernel
theorem dL_decant_22 : decode cL_decant 22 = .ok (.ireturn, 1) := by decide +kernel
theorem dL_decant_23 : decode cL_decant 23 = .ok (.astore 5, 2) := by decide +kernel
theorem dL_decant_25 : decode cL_decant 25 = .ok (.iconst 3, 1) := by decide +kernel
theorem dL_decant_26 : decode cL_decant 26 = .ok (.ireturn, 1) := by decide +kernel
theorem dL_decant_27 : decode cL_decant 27 = .ok (.iconst 0, 1) := by decide +kernel
theorem dL_decant_28 : decode cL_decant 28 = .ok (.ireturn, 1) := by decide +kernel
set_option maxRecDepth 20000 in
theorem ggL_turn_X5_turn : GoodIn wsL_turn wsX5_turn := goodIn_ca (goodIn_r _ [6, 7, 8, 9, 10, 11, 12, 5, 13, 14, 15, 16, 17, 18, 19, 20, 21, 22, 23, 24, 25, 26, 27, 28, 29, 30, 31, 32, 33, 34, 35, 36, 37, 38, 39, 40, 41, 42, 43, 44, 45, 46, 47, 48, 49, 50, 51, 52, 53, 54, 55, 56, 57, 58, 59, 60, 61, 62, 63, 64, 65, 66, 67, 68, 69, 70, 71, 72, 73, 74, 75, 76, 77, 78, 79, 80, 81, 82, 83, 84, 85, 86, 87, 88, 89, 90, 91, 92, 93] (by decide +kernel) (by decide +kernel)) (goodIn_sub (fun _ h => List.mem_cons_of_mem _ (List.mem_append_right _ h)) (by decide +kernel))
set_option maxRecDepth 20000 in
theorem gL_turn_X5_turn : GoodIn wsL_turn (wsV RL 36 RX5 yX5_turn wsX5_turn) := goodIn_app (goodIn_of _ (by decide +kernel)) ggL_turn_X5_turn
theorem dL_turn_0 : decode cL_turn 0 = .ok (.aload_n 2, 1) := by decide +kernel
theorem dL_turn_1 : decode cL_turn 1 = .ok (.iconst 0, 1) := by decide +kernel
theorem dL_turn_2 : decode cL_turn 2 = .ok (.aload_n 0, 1) := by decide +kernel
theorem dL_turn_3 : decode cL_turn 3 = .ok (.iload_n 1, 1) := by decide +kernel
theorem dL_turn_4 : decode cL_turn 4 = .ok (.invokevirtual 36, 3) := by decide +kernel
theorem dL_turn_7 : decode cL_turn 7 = .ok (.i2l, 1) := by decide +kernel
theorem dL_turn_8 : decode cL_turn 8 = .ok (.lastore, 1) := by decide +kernel
theorem dL_turn_9 : decode cL_turn 9 = .ok (.goto 6, 3) := by decide +kernel
theorem dL_turn_12 : decode cL_turn 12 = .ok (.astore_n 3, 1) := by decide +kernel
theorem dL_turn_13 : decode cL_turn 13 = .ok (.iconst 1, 1) := by decide +kernel
theorem dL_turn_14 : decode cL_turn 14 = .ok (.ireturn, 1) := by decide +kernel
theorem dL_turn_15 : decode cL_turn 15 = .ok (.iconst 0, 1) := by decide +kernel
theorem dL_turn_16 : decode cL_turn 16 = .ok (.ireturn, 1) := by decide +kernel
set_option maxRecDepth 20000 in
theorem ggL_settle_X5_settle : GoodIn wsL_settle wsX5_settle := goodIn_ca (goodIn_ca (goodIn_r _ [7, 8, 9, 10, 11, 12, 13, 14, 15, 16, 17, 6, 18, 19, 20, 21, 22, 23, 24, 25, 26, 27, 28, 29, 30, 31, 32, 33, 34, 35, 36, 37, 38, 39, 40, 41, 42, 43, 44, 45, 46, 47, 48, 49, 50, 51, 52, 53, 54, 55, 56, 57, 58, 59, 60, 61, 62, 63, 64, 65, 66, 67, 68, 69, 70, 71, 72, 73, 74, 75, 76, 77, 78, 79, 80, 81, 82, 83, 84, 85, 86, 87, 88, 89, 90, 91, 92, 93, 94, 95, 96, 97, 98, 99, 100, 101, 102, 103, 104, 105, 106, 107, 108, 109, 110, 111, 112, 113, 114, 115, 116, 117, 118, 119, 120] (by decide +kernel) (by decide +kernel)) (goodIn_sub (fun _ h => List.mem_cons_of_mem _ (List.mem_append_left _ (List.mem_append_right _ h))) (by decide +kernel))) (goodIn_sub (fun _ h => List.mem_cons_of_mem _ (List.mem_append_right _ h)) (by decide +kernel))
set_option maxRecDepth 20000 in
theorem gL_settle_X5_settle : GoodIn wsL_settle (wsV RL 40 RX5 yX5_settle wsX5_settle) := goodIn_app (goodIn_of _ (by decide +kernel)) ggL_settle_X5_settle
theorem dL_settle_0 : decode cL_settle 0 = .ok (.aload_n 2, 1) := by decide +kernel
theorem dL_settle_1 : decode cL_settle 1 = .ok (.iconst 0, 1) := by decide +kernel
theorem dL_settle_2 : decode cL_settle 2 = .ok (.aload_n 0, 1) := by decide +kernel
theorem dL_settle_3 : decode cL_settle 3 = .ok (.iload_n 1, 1) := by decide +kernel
theorem dL_settle_4 : decode cL_settle 4 = .ok (.invokevirtual 40, 3) := by decide +kernel
theorem dL_settle_7 : decode cL_settle 7 = .ok (.i2l, 1) := by decide +kernel
theorem dL_settle_8 : decode cL_settle 8 = .ok (.lastore, 1) := by decide +kernel
theorem dL_settle_9 : decode cL_settle 9 = .ok (.goto 9, 3) := by decide +kernel
theorem dL_settle_12 : decode cL_settle 12 = .ok (.astore_n 3, 1) := by decide +kernel
theorem dL_settle_13 : decode cL_settle 13 = .ok (.iconst 1, 1) := by decide +kernel
theorem dL_settle_14 : decode cL_settle 14 = .ok (.ireturn, 1) := by decide +kernel
theorem dL_settle_15 : decode cL_settle 15 = .ok (.astore_n 3, 1) := by decide +kernel
theorem dL_settle_16 : decode cL_settle 16 = .ok (.iconst 2, 1) := by decide +kernel
theorem dL_settle_17 : decode cL_settle 17 = .ok (.ireturn, 1) := by decide +kernel
theorem dL_settle_18 : decode cL_settle 18 = .ok (.iconst 0, 1) := by decide +kernel
theorem dL_settle_19 : decode cL_settle 19 = .ok (.ireturn, 1) := by decide +kernel
set_option maxRecDepth 20000 in
theorem ggL_append_X5_append : GoodIn wsL_append wsX5_append := goodIn_ca (goodIn_ca (goodIn_r _ [7, 8, 9, 10, 11, 12, 6, 13, 14, 15, 16, 17, 18, 19, 20, 21, 22, 23, 24, 25, 26, 27, 28, 29, 30, 31, 32, 33, 34, 35, 36] (by decide +kernel) (by decide +kernel)) (goodIn_sub (fun _ h => List.mem_cons_of_mem _ (List.mem_append_left _ (List.mem_append_right _ h))) (by decide +kernel))) (goodIn_sub (fun _ h => List.mem_cons_of_mem _ (List.mem_append_right _ h)) (by decide +kernel))
set_option maxRecDepth 20000 in
theorem gL_append_X5_append : GoodIn wsL_append (wsV RL 43 RX5 yX5_append wsX5_append) := goodIn_app (goodIn_of _ (by decide +kernel)) ggL_append_X5_append
theorem dL_append_0 : decode cL_append 0 = .ok (.aload_n 2, 1) := by decide +kernel
theorem dL_append_1 : decode cL_append 1 = .ok (.iconst 0, 1) := by decide +kernel
theorem dL_append_2 : decode cL_append 2 = .ok (.aload_n 0, 1) := by decide +kernel
theorem dL_append_3 : decode cL_append 3 = .ok (.iload_n 1, 1) := by decide +kernel
theorem dL_append_4 : decode cL_append 4 = .ok (.invokevirtual 43, 3) := by decide +kernel
theorem dL_append_7 : decode cL_append 7 = .ok (.i2l, 1) := by decide +kernel
theorem dL_append_8 : decode cL_append 8 = .ok (.lastore, 1) := by decide +kernel
theorem dL_append_9 : decode cL_append 9 = .ok (.goto 9, 3) := by decide +kernel
theorem dL_append_12 : decode cL_append 12 = .ok (.astore_n 3, 1) := by decide +kernel
theorem dL_append_13 : decode cL_append 13 = .ok (.iconst 1, 1) := by decide +kernel
theorem dL_append_14 : decode cL_append 14 = .ok (.ireturn, 1) := by decide +kernel
theorem dL_append_15 : decode cL_append 15 = .ok (.astore_n 3, 1) := by decide +kernel
theorem dL_append_16 : decode cL_append 16 = .ok (.iconst 2, 1) := by decide +kernel
theorem dL_append_17 : decode cL_append 17 = .ok (.ireturn, 1) := by decide +kernel
theorem dL_append_18 : decode cL_append 18 = .ok (.iconst 0, 1) := by decide +kernel
theorem dL_append_19 : decode cL_append 19 = .ok (.ireturn, 1) := by decide +kernel
set_option maxRecDepth 20000 in
theorem ggL_load_X5_load : GoodIn wsL_load wsX5_load := goodIn_ca (goodIn_ca (goodIn_ca (goodIn_r _ [8, 9, 10, 11, 12, 13, 14, 15, 16, 17, 18, 7, 19, 20, 21, 22, 23, 24, 25, 26, 27, 28, 29, 30, 31, 32, 33, 34, 35, 36, 37, 38, 39, 40, 41, 42, 43, 44, 45, 46, 47, 48, 49, 50, 51, 52, 53, 54, 55, 56, 57, 58, 59, 60, 61, 62, 63, 64, 65, 66, 67, 68, 69, 70, 71, 72, 73, 74, 75, 76, 77, 78, 79, 80, 81, 82, 83, 84, 85, 86, 87, 88, 89, 90, 91, 92, 93, 94, 95, 96, 97, 98, 99, 100, 101, 102, 103, 104, 105, 106, 107, 108, 109, 110, 111, 112, 113, 114, 115, 116, 117, 118, 119, 120, 121, 122, 123, 124, 125, 126, 127, 128, 129, 130, 131, 132, 133, 134, 135, 136, 137, 138, 139, 140, 141, 142, 143, 144, 145, 146] (by decide +kernel) (by decide +kernel)) (goodIn_sub (fun _ h => List.mem_cons_of_mem _ (List.mem_append_left _ (List.mem_append_left _ (List.mem_append_right _ h)))) (by decide +kernel))) (goodIn_sub (fun _ h => List.mem_cons_of_mem _ (List.mem_append_left _ (List.mem_append_right _ h))) (by decide +kernel))) (goodIn_sub (fun _ h => List.mem_cons_of_mem _ (List.mem_append_right _ h)) (by decide +kernel))
set_option maxRecDepth 20000 in
theorem gL_load_X5_load : GoodIn wsL_load (wsV RL 46 RX5 yX5_load wsX5_load) := goodIn_app (goodIn_of _ (by decide +kernel)) ggL_load_X5_load
theorem dL_load_0 : decode cL_load 0 = .ok (.aload_n 2, 1) := by decide +kernel
theorem dL_load_1 : decode cL_load 1 = .ok (.iconst 0, 1) := by decide +kernel
theorem dL_load_2 : decode cL_load 2 = .ok (.aload_n 0, 1) := by decide +kernel
theorem dL_load_3 : decode cL_load 3 = .ok (.iload_n 1, 1) := by decide +kernel
theorem dL_load_4 : decode cL_load 4 = .ok (.invokevirtual 46, 3) := by decide +kernel
theorem dL_load_7 : decode cL_load 7 = .ok (.i2l, 1) := by decide +kernel
theorem dL_load_8 : decode cL_load 8 = .ok (.lastore, 1) := by decide +kernel
theorem dL_load_9 : decode cL_load 9 = .ok (.goto 12, 3) := by decide +kernel
theorem dL_load_12 : decode cL_load 12 = .ok (.astore_n 3, 1) := by decide +kernel
theorem dL_load_13 : decode cL_load 13 = .ok (.iconst 1, 1) := by decide +kernel
theorem dL_load_14 : decode cL_load 14 = .ok (.ireturn, 1) := by decide +kernel
theorem dL_load_15 : decode cL_load 15 = .ok (.astore_n 3, 1) := by decide +kernel
theorem dL_load_16 : decode cL_load 16 = .ok (.iconst 2, 1) := by decide +kernel
theorem dL_load_17 : decode cL_load 17 = .ok (.ireturn, 1) := by decide +kernel
theorem dL_load_18 : decode cL_load 18 = .ok (.astore_n 3, 1) := by decide +kernel
theorem dL_load_19 : decode cL_load 19 = .ok (.iconst 3, 1) := by decide +kernel
theorem dL_load_20 : decode cL_load 20 = .ok (.ireturn, 1) := by decide +kernel
theorem dL_load_21 : decode cL_load 21 = .ok (.iconst 0, 1) := by decide +kernel
theorem dL_load_22 : decode cL_load 22 = .ok (.ireturn, 1) := by decide +kernel
set_option maxRecDepth 20000 in
theorem ggL_undo_X5_undo : GoodIn wsL_undo wsX5_undo := goodIn_ca (goodIn_r _ [6, 7, 8, 9, 10, 11, 12, 13, 14, 15, 16, 17, 18, 19, 20, 21, 22, 23, 24, 25, 26, 27, 28, 29, 30, 31, 32, 33, 34, 35, 36, 37, 38, 39, 40, 41, 42, 43, 44, 45, 46, 47, 48, 49, 50, 51, 52, 53, 54, 55, 56, 57, 58, 59, 60, 61, 62, 63, 64, 65, 66, 67, 68] (by decide +kernel) (by decide +kernel)) (goodIn_sub (fun _ h => List.mem_cons_of_mem _ (List.mem_append_right _ h)) (by decide +kernel))
set_option maxRecDepth 20000 in
theorem gL_undo_X5_undo : GoodIn wsL_undo (wsV RL 49 RX5 yX5_undo wsX5_undo) := goodIn_app (goodIn_of _ (by decide +kernel)) ggL_undo_X5_undo
theorem dL_undo_0 : decode cL_undo 0 = .ok (.aload_n 1, 1) := by decide +kernel
theorem dL_undo_1 : decode cL_undo 1 = .ok (.iconst 0, 1) := by decide +kernel
theorem dL_undo_2 : decode cL_undo 2 = .ok (.aload_n 0, 1) := by decide +kernel
theorem dL_undo_3 : decode cL_undo 3 = .ok (.invokevirtual 49, 3) := by decide +kernel
theorem dL_undo_6 : decode cL_undo 6 = .ok (.i2l, 1) := by decide +kernel
theorem dL_undo_7 : decode cL_undo 7 = .ok (.lastore, 1) := by decide +kernel
theorem dL_undo_8 : decode cL_undo 8 = .ok (.goto 6, 3) := by decide +kernel
theorem dL_undo_11 : decode cL_undo 11 = .ok (.astore_n 2, 1) := by decide +kernel
theorem dL_undo_12 : decode cL_undo 12 = .ok (.iconst 1, 1) := by decide +kernel
theorem dL_undo_13 : decode cL_undo 13 = .ok (.ireturn, 1) := by decide +kernel
theorem dL_undo_14 : decode cL_undo 14 = .ok (.iconst 0, 1) := by decide +kernel
theorem dL_undo_15 : decode cL_undo 15 = .ok (.ireturn, 1) := by decide +kernel
set_option maxRecDepth 20000 in
theorem ggL_slice_X5_slice : GoodIn wsL_slice wsX5_slice := goodIn_ca (goodIn_ca (goodIn_r _ [7, 8, 9, 10, 11, 12, 6, 13, 14, 15, 16, 17, 18, 19, 20, 21, 22, 23, 24, 25, 26, 27, 28, 29, 30, 31, 32, 33, 34, 35, 36, 37, 38, 39, 40, 41, 42, 43, 44, 45, 46, 47, 48, 49, 50, 51, 52, 53, 54, 55, 56, 57, 58, 59, 60, 61, 62, 63, 64, 65, 66, 67, 68, 69, 70, 71, 72, 73, 74, 75, 76, 77] (by decide +kernel) (by decide +kernel)) (goodIn_sub (fun _ h => List.mem_cons_of_mem _ (List.mem_append_left _ (List.mem_append_right _ h))) (by decide +kernel))) (goodIn_sub (fun _ h => List.mem_cons_of_mem _ (List.mem_append_right _ h)) (by decide +kernel))
set_option maxRecDepth 20000 in
theorem gL_slice_X5_slice : GoodIn wsL_slice (wsV RL 53 RX5 yX5_slice wsX5_slice) := goodIn_app (goodIn_of _ (by decide +kernel)) ggL_slice_X5_slice
theorem dL_slice_0 : decode cL_slice 0 = .ok (.aload 4, 2) := by decide +kernel
theorem dL_slice_2 : decode cL_slice 2 = .ok (.iconst 0, 1) := by decide +kernel
theorem dL_slice_3 : decode cL_slice 3 = .ok (.aload_n 0, 1) := by decide +kernel
theorem dL_slice_4 : decode cL_slice 4 = .ok (.iload_n 1, 1) := by decide +kernel
theorem dL_slice_5 : decode cL_slice 5 = .ok (.iload_n 2, 1) := by decide +kernel
theorem dL_slice_6 : decode cL_slice 6 = .ok (.iload_n 3, 1) := by decide +kernel
theorem dL_slice_7 : decode cL_slice 7 = .ok (.invokevirtual 53, 3) := by decide +kernel
theorem dL_slice_10 : decode cL_slice 10 = .ok (.i2l, 1) := by decide +kernel
theorem dL_slice_11 : decode cL_slice 11 = .ok (.lastore, 1) := by decide +kernel
theorem dL_slice_12 : decode cL_slice 12 = .ok (.goto 11, 3) := by decide +kernel
theorem dL_slice_15 : decode cL_slice 15 = .ok (.astore 5, 2) := by decide +kernel
theorem dL_slice_17 : decode cL_slice 17 = .ok (.iconst 1, 1) := by decide +kernel
theorem dL_slice_18 : decode cL_slice 18 = .ok (.ireturn, 1) := by decide +kernel
theorem dL_slice_19 : decode cL_slice 19 = .ok (.astore 5, 2) := by decide +kernel
theorem dL_slice_21 : decode cL_slice 21 = .ok (.iconst 2, 1) := by decide +kernel
theorem dL_slice_22 : decode cL_slice 22 = .ok (.ireturn, 1) := by decide +kernel
theorem dL_slice_23 : decode cL_slice 23 = .ok (.iconst 0, 1) := by decide +kernel
theorem dL_slice_24 : decode cL_slice 24 = .ok (.ireturn, 1) := by decide +kernel
set_option maxRecDepth 20000 in
theorem ggL_jar_X5_jar : GoodIn wsL_jar wsX5_jar := goodIn_ca (goodIn_ca (goodIn_r _ [7, 8, 9, 10, 11, 12, 6, 13, 14, 15, 16, 17, 18, 19, 20, 21, 22, 23, 24, 25, 26, 27, 28, 29, 30, 31, 32, 33, 34, 35, 36, 37, 38, 39, 40, 41, 42, 43, 44, 45, 46, 47, 48, 49, 50, 51, 52, 53, 54, 55, 56, 57, 58, 59, 60, 61, 62, 63, 64, 65, 66, 67, 68, 69, 70, 71, 72, 73, 74, 75, 76, 77, 78, 79, 80, 81, 82, 83, 84, 85, 86, 87, 88, 89, 90, 91, 92, 93, 94, 95, 96, 97, 98, 99, 100, 101, 102, 103, 104, 105, 106, 107, 108, 109, 110, 111, 112, 113, 114, 115] (by decide +kernel) (by decide +kernel)) (goodIn_sub (fun _ h => List.mem_cons_of_mem _ (List.mem_append_left _ (List.mem_append_right _ h))) (by decide +kernel))) (goodIn_sub (fun _ h => List.mem_cons_of_mem _ (List.mem_append_right _ h)) (by decide +kernel))
set_option maxRecDepth 20000 in
theorem gL_jar_X5_jar : GoodIn wsL_jar (wsV RL 56 RX5 yX5_jar wsX5_jar) := goodIn_app (goodIn_of _ (by decide +kernel)) ggL_jar_X5_jar
theorem dL_jar_0 : decode cL_jar 0 = .ok (.aload_n 3, 1) := by decide +kernel
theorem dL_jar_1 : decode cL_jar 1 = .ok (.iconst 0, 1) := by decide +kernel
theorem dL_jar_2 : decode cL_jar 2 = .ok (.aload_n 0, 1) := by decide +kernel
theorem dL_jar_3 : decode cL_jar 3 = .ok (.iload_n 1, 1) := by decide +kernel
theorem dL_jar_4 : decode cL_jar 4 = .ok (.iload_n 2, 1) := by decide +kernel
theorem dL_jar_5 : decode cL_jar 5 = .ok (.invokevirtual 56, 3) := by decide +kernel
theorem dL_jar_8 : decode cL_jar 8 = .ok (.i2l, 1) := by decide +kernel
theorem dL_jar_9 : decode cL_jar 9 = .ok (.lastore, 1) := by decide +kernel
theorem dL_jar_10 : decode cL_jar 10 = .ok (.goto 11, 3) := by decide +kernel
theorem dL_jar_13 : decode cL_jar 13 = .ok (.astore 4, 2) := by decide +kernel
theorem dL_jar_15 : decode cL_jar 15 = .ok (.iconst 1, 1) := by decide +kernel
theorem dL_jar_16 : decode cL_jar 16 = .ok (.ireturn, 1) := by decide +kernel
theorem dL_jar_17 : decode cL_jar 17 = .ok (.astore 4, 2) := by decide +kernel
theorem dL_jar_19 : decode cL_jar 19 = .ok (.iconst 2, 1) := by decide +kernel
theorem dL_jar_20 : decode cL_jar 20 = .ok (.ireturn, 1) := by decide +kernel
theorem dL_jar_21 : decode cL_jar 21 = .ok (.iconst 0, 1) := by decide +kernel
theorem dL_jar_22 : decode cL_jar 22 = .ok (.ireturn, 1) := by decide +kernel
set_option maxRecDepth 20000 in
theorem ggL_grains_X5_grains : GoodIn wsL_grains wsX5_grains := goodIn_ca (goodIn_ca (goodIn_r _ [7, 8, 9, 10, 11, 12, 13, 14, 6, 15, 16, 17, 18, 19, 20, 21, 22, 23, 24, 25, 26, 27, 28, 29, 30, 31, 32, 33, 34, 35, 36, 37, 38, 39, 40, 41, 42, 43, 44, 45, 46, 47, 48, 49, 50, 51] (by decide +kernel) (by decide +kernel)) (goodIn_sub (fun _ h => List.mem_cons_of_mem _ (List.mem_append_left _ (List.mem_append_right _ h))) (by decide +kernel))) (goodIn_sub (fun _ h => List.mem_cons_of_mem _ (List.mem_append_right _ h)) (by decide +kernel))
set_option maxRecDepth 20000 in
theorem gL_grains_X5_grains : GoodIn wsL_grains (wsV RL 59 RX5 yX5_grains wsX5_grains) := goodIn_app (goodIn_of _ (by decide +kernel)) ggL_grains_X5_grains
theorem dL_grains_0 : decode cL_grains 0 = .ok (.aload_n 3, 1) := by decide +kernel
theorem dL_grains_1 : decode cL_grains 1 = .ok (.iconst 0, 1) := by decide +kernel
theorem dL_grains_2 : decode cL_grains 2 = .ok (.aload_n 0, 1) := by decide +kernel
theorem dL_grains_3 : decode cL_grains 3 = .ok (.iload_n 1, 1) := by decide +kernel
theorem dL_grains_4 : decode cL_grains 4 = .ok (.iload_n 2, 1) := by decide +kernel
theorem dL_grains_5 : decode cL_grains 5 = .ok (.invokevirtual 59, 3) := by decide +kernel
theorem dL_grains_8 : decode cL_grains 8 = .ok (.i2l, 1) := by decide +kernel
theorem dL_grains_9 : decode cL_grains 9 = .ok (.lastore, 1) := by decide +kernel
theorem dL_grains_10 : decode cL_grains 10 = .ok (.goto 11, 3) := by decide +kernel
theorem dL_grains_13 : decode cL_grains 13 = .ok (.astore 4, 2) := by decide +kernel
theorem dL_grains_15 : decode cL_grains 15 = .ok (.iconst 1, 1) := by decide +kernel
theorem dL_grains_16 : decode cL_grains 16 = .ok (.ireturn, 1) := by decide +kernel
theorem dL_grains_17 : decode cL_grains 17 = .ok (.astore 4, 2) := by decide +kernel
theorem dL_grains_19 : decode cL_grains 19 = .ok (.iconst 2, 1) := by decide +kernel
theorem dL_grains_20 : decode cL_grains 20 = .ok (.ireturn, 1) := by decide +kernel
theorem dL_grains_21 : decode cL_grains 21 = .ok (.iconst 0, 1) := by decide +kernel
theorem dL_grains_22 : decode cL_grains 22 = .ok (.ireturn, 1) := by decide +kernel
set_option maxRecDepth 20000 in
theorem ggL_count_X5_count : GoodIn wsL_count wsX5_count := goodIn_ca (goodIn_r _ [6, 7, 8, 9, 10, 11, 12, 5, 13, 14, 15, 16, 17, 18, 19, 20, 21, 22, 23, 24, 25, 26, 27, 28, 29, 30, 31, 32, 33, 34, 35, 36, 37, 38, 39, 40, 41, 42, 43, 44, 45, 46, 47, 48, 49, 50, 51, 52, 53, 54, 55, 56, 57, 58, 59, 60, 61, 62, 63, 64, 65, 66, 67, 68, 69, 70, 71, 72, 73, 74, 75, 76, 77, 78, 79, 80, 81, 82, 83, 84, 85, 86, 87, 88] (by decide +kernel) (by decide +kernel)) (goodIn_sub (fun _ h => List.mem_cons_of_mem _ (List.mem_append_right _ h)) (by decide +kernel))
set_option maxRecDepth 20000 in
theorem gL_count_X5_count : GoodIn wsL_count (wsV RL 62 RX5 yX5_count wsX5_count) := goodIn_app (goodIn_of _ (by decide +kernel)) ggL_count_X5_count
theorem dL_count_0 : decode cL_count 0 = .ok (.aload_n 2, 1) := by decide +kernel
theorem dL_count_1 : decode cL_count 1 = .ok (.iconst 0, 1) := by decide +kernel
theorem dL_count_2 : decode cL_count 2 = .ok (.aload_n 0, 1) := by decide +kernel
theorem dL_count_3 : decode cL_count 3 = .ok (.iload_n 1, 1) := by decide +kernel
theorem dL_count_4 : decode cL_count 4 = .ok (.invokevirtual 62, 3) := by decide +kernel
theorem dL_count_7 : decode cL_count 7 = .ok (.i2l, 1) := by decide +kernel
theorem dL_count_8 : decode cL_count 8 = .ok (.lastore, 1) := by decide +kernel
theorem dL_count_9 : decode cL_count 9 = .ok (.goto 6, 3) := by decide +kernel
theorem dL_count_12 : decode cL_count 12 = .ok (.astore_n 3, 1) := by decide +kernel
theorem dL_count_13 : decode cL_count 13 = .ok (.iconst 1, 1) := by decide +kernel
theorem dL_count_14 : decode cL_count 14 = .ok (.ireturn, 1) := by decide +kernel
theorem dL_count_15 : decode cL_count 15 = .ok (.iconst 0, 1) := by decide +kernel
theorem dL_count_16 : decode cL_count 16 = .ok (.ireturn, 1) := by decide +kernel
set_option maxRecDepth 20000 in
theorem ggL_setting_X5_setting : GoodIn wsL_setting wsX5_setting := goodIn_ca (goodIn_r _ [6, 7, 8, 9, 10, 11, 5, 12, 13, 14, 15, 16, 17, 18, 19, 20, 21, 22, 23, 24, 25, 26] (by decide +kernel) (by decide +kernel)) (goodIn_sub (fun _ h => List.mem_cons_of_mem _ (List.mem_append_right _ h)) (by decide +kernel))
set_option maxRecDepth 20000 in
theorem gL_setting_X5_setting : GoodIn wsL_setting (wsV RL 65 RX5 yX5_setting wsX5_setting) := goodIn_app (goodIn_of _ (by decide +kernel)) ggL_setting_X5_setting
theorem dL_setting_0 : decode cL_setting 0 = .ok (.aload_n 2, 1) := by decide +kernel
theorem dL_setting_1 : decode cL_setting 1 = .ok (.iconst 0, 1) := by decide +kernel
theorem dL_setting_2 : decode cL_setting 2 = .ok (.aload_n 0, 1) := by decide +kernel
theorem dL_setting_3 : decode cL_setting 3 = .ok (.iload_n 1, 1) := by decide +kernel
theorem dL_setting_4 : decode cL_setting 4 = .ok (.invokevirtual 65, 3) := by decide +kernel
theorem dL_setting_7 : decode cL_setting 7 = .ok (.i2l, 1) := by decide +kernel
theorem dL_setting_8 : decode cL_setting 8 = .ok (.lastore, 1) := by decide +kernel
theorem dL_setting_9 : decode cL_setting 9 = .ok (.goto 6, 3) := by decide +kernel
theorem dL_setting_12 : decode cL_setting 12 = .ok (.astore_n 3, 1) := by decide +kernel
theorem dL_setting_13 : decode cL_setting 13 = .ok (.iconst 1, 1) := by decide +kernel
theorem dL_setting_14 : decode cL_setting 14 = .ok (.ireturn, 1) := by decide +kernel
theorem dL_setting_15 : decode cL_setting 15 = .ok (.iconst 0, 1) := by decide +kernel
theorem dL_setting_16 : decode cL_setting 16 = .ok (.ireturn, 1) := by decide +kernel
set_option maxRecDepth 20000 in
theorem ggL_why_X5_why : GoodIn wsL_why wsX5_why := goodIn_ca (goodIn_r _ [6, 7, 8, 9, 10, 11, 5, 12, 13, 14, 15, 16, 17, 18, 19, 20, 21, 22, 23, 24, 25, 26, 27, 28, 29, 30, 31, 32, 33, 34, 35, 36, 37, 38, 39, 40, 41, 42, 43, 44, 45, 46, 47, 48, 49, 50, 51, 52, 53, 54, 55, 56, 57, 58, 59, 60, 61, 62, 63, 64, 65, 66, 67, 68] (by decide +kernel) (by decide +kernel)) (goodIn_sub (fun _ h => List.mem_cons_of_mem _ (List.mem_append_right _ h)) (by decide +kernel))
set_option maxRecDepth 20000 in
theorem gL_why_X5_why : GoodIn wsL_why (wsV RL 68 RX5 yX5_why wsX5_why) := goodIn_app (goodIn_of _ (by decide +kernel)) ggL_why_X5_why
theorem dL_why_0 : decode cL_why 0 = .ok (.aload 4, 2) := by decide +kernel
theorem dL_why_2 : decode cL_why 2 = .ok (.iconst 0, 1) := by decide +kernel
theorem dL_why_3 : decode cL_why 3 = .ok (.aload_n 0, 1) := by decide +kernel
theorem dL_why_4 : decode cL_why 4 = .ok (.iload_n 1, 1) := by decide +kernel
theorem dL_why_5 : decode cL_why 5 = .ok (.iload_n 2, 1) := by decide +kernel
theorem dL_why_6 : decode cL_why 6 = .ok (.iload_n 3, 1) := by decide +kernel
theorem dL_why_7 : decode cL_why 7 = .ok (.invokevirtual 68, 3) := by decide +kernel
theorem dL_why_10 : decode cL_why 10 = .ok (.i2l, 1) := by decide +kernel
theorem dL_why_11 : decode cL_why 11 = .ok (.lastore, 1) := by decide +kernel
theorem dL_why_12 : decode cL_why 12 = .ok (.goto 7, 3) := by decide +kernel
theorem dL_why_15 : decode cL_why 15 = .ok (.astore 5, 2) := by decide +kernel
theorem dL_why_17 : decode cL_why 17 = .ok (.iconst 1, 1) := by decide +kernel
theorem dL_why_18 : decode cL_why 18 = .ok (.ireturn, 1) := by decide +kernel
theorem dL_why_19 : decode cL_why 19 = .ok (.iconst 0, 1) := by decide +kernel
theorem dL_why_20 : decode cL_why 20 = .ok (.ireturn, 1) := by decide +kernel
set_option maxRecDepth 20000 in
theorem ggL_ifSettled_X5_ifSettled : GoodIn wsL_ifSettled wsX5_ifSettled := goodIn_ca (goodIn_ca (goodIn_r _ [7, 8, 9, 10, 11, 12, 13, 6, 14, 15, 16, 17, 18, 19, 20, 21, 22, 23, 24, 25, 26, 27, 28, 29, 30, 31, 32, 33, 34, 35, 36, 37, 38, 39, 40, 41, 42, 43, 44, 45, 46, 47, 48, 49, 50, 51, 52, 53, 54, 55, 56, 57, 58, 59, 60, 61, 62, 63, 64, 65, 66, 67, 68, 69, 70, 71, 72, 73, 74, 75, 76, 77, 78, 79, 80, 81, 82, 83, 84, 85, 86, 87, 88, 89, 90, 91, 92, 93, 94, 95, 96, 97, 98, 99, 100, 101, 102, 103, 104, 105, 106, 107, 108, 109, 110, 111, 112, 113, 114, 115, 116, 117, 118, 119, 120, 121, 122, 123, 124, 125, 126, 127, 128, 129, 130, 131, 132, 133, 134, 135, 136, 137, 138, 139, 140, 141] (by decide +kernel) (by decide +kernel)) (goodIn_sub (fun _ h => List.mem_cons_of_mem _ (List.mem_append_left _ (List.mem_append_right _ h))) (by decide +kernel))) (goodIn_sub (fun _ h => List.mem_cons_of_mem _ (List.mem_append_right _ h)) (by decide +kernel))
set_option maxRecDepth 20000 in
theorem gL_ifSettled_X5_ifSettled : GoodIn wsL_ifSettled (wsV RL 71 RX5 yX5_ifSettled wsX5_ifSettled) := goodIn_app (goodIn_of _ (by decide +kernel)) ggL_ifSettled_X5_ifSettled
theorem dL_ifSettled_0 : decode cL_ifSettled 0 = .ok (.aload 4, 2) := by decide +kernel
theorem dL_ifSettled_2 : decode cL_ifSettled 2 = .ok (.iconst 0, 1) := by decide +kernel
theorem dL_ifSettled_3 : decode cL_ifSettled 3 = .ok (.aload_n 0, 1) := by decide +kernel
theorem dL_ifSettled_4 : decode cL_ifSettled 4 = .ok (.iload_n 1, 1) := by decide +kernel
theorem dL_ifSettled_5 : decode cL_ifSettled 5 = .ok (.iload_n 2, 1) := by decide +kernel
theorem dL_ifSettled_6 : decode cL_ifSettled 6 = .ok (.iload_n 3, 1) := by decide +kernel
theorem dL_ifSettled_7 : decode cL_ifSettled 7 = .ok (.invokevirtual 71, 3) := by decide +kernel
theorem dL_ifSettled_10 : decode cL_ifSettled 10 = .ok (.i2l, 1) := by decide +kernel
theorem dL_ifSettled_11 : decode cL_ifSettled 11 = .ok (.lastore, 1) := by decide +kernel
theorem dL_ifSettled_12 : decode cL_ifSettled 12 = .ok (.goto 11, 3) := by decide +kernel
theorem dL_ifSettled_15 : decode cL_ifSettled 15 = .ok (.astore 5, 2) := by decide +kernel
theorem dL_ifSettled_17 : decode cL_ifSettled 17 = .ok (.iconst 1, 1) := by decide +kernel
theorem dL_ifSettled_18 : decode cL_ifSettled 18 = .ok (.ireturn, 1) := by decide +kernel
theorem dL_ifSettled_19 : decode cL_ifSettled 19 = .ok (.astore 5, 2) := by decide +kernel
theorem dL_ifSettled_21 : decode cL_ifSettled 21 = .ok (.iconst 2, 1) := by decide +kernel
theorem dL_ifSettled_22 : decode cL_ifSettled 22 = .ok (.ireturn, 1) := by decide +kernel
theorem dL_ifSettled_23 : decode cL_ifSettled 23 = .ok (.iconst 0, 1) := by decide +kernel
theorem dL_ifSettled_24 : decode cL_ifSettled 24 = .ok (.ireturn, 1) := by decide +kernel
set_option maxRecDepth 20000 in
theorem ggL_clearIn_X5_clearIn : GoodIn wsL_clearIn wsX5_clearIn := goodIn_ca (goodIn_ca (goodIn_r _ [7, 8, 9, 10, 11, 12, 13, 6, 14, 15, 16, 17, 18, 19, 20, 21, 22, 23, 24, 25, 26, 27, 28, 29, 30, 31, 32, 33, 34, 35, 36, 37, 38, 39, 40, 41, 42, 43, 44, 45, 46, 47, 48, 49, 50, 51, 52, 53, 54, 55, 56, 57, 58, 59, 60, 61, 62, 63, 64, 65, 66, 67, 68, 69, 70, 71, 72, 73, 74, 75, 76, 77, 78, 79, 80, 81, 82, 83, 84, 85, 86, 87, 88, 89, 90, 91, 92, 93, 94, 95, 96, 97] (by decide +kernel) (by decide +kernel)) (goodIn_sub (fun _ h => List.mem_cons_of_mem _ (List.mem_append_left _ (List.mem_append_right _ h))) (by decide +kernel))) (goodIn_sub (fun _ h => List.mem_cons_of_mem _ (List.mem_append_right _ h)) (by decide +kernel))
set_option maxRecDepth 20000 in
theorem gL_clearIn_X5_clearIn : GoodIn wsL_clearIn (wsV RL 74 RX5 yX5_clearIn wsX5_clearIn) := goodIn_app (goodIn_of _ (by decide +kernel)) ggL_clearIn_X5_clearIn
theorem dL_clearIn_0 : decode cL_clearIn 0 = .ok (.aload_n 3, 1) := by decide +kernel
theorem dL_clearIn_1 : decode cL_clearIn 1 = .ok (.iconst 0, 1) := by decide +kernel
theorem dL_clearIn_2 : decode cL_clearIn 2 = .ok (.aload_n 0, 1) := by decide +kernel
theorem dL_clearIn_3 : decode cL_clearIn 3 = .ok (.iload_n 1, 1) := by decide +kernel
theorem dL_clearIn_4 : decode cL_clearIn 4 = .ok (.iload_n 2, 1) := by decide +kernel
theorem dL_clearIn_5 : decode cL_clearIn 5 = .ok (.invokevirtual 74, 3) := by decide +kernel
theorem dL_clearIn_8 : decode cL_clearIn 8 = .ok (.i2l, 1) := by decide +kernel
theorem dL_clearIn_9 : decode cL_clearIn 9 = .ok (.lastore, 1) := by decide +kernel
theorem dL_clearIn_10 : decode cL_clearIn 10 = .ok (.goto 11, 3) := by decide +kernel
theorem dL_clearIn_13 : decode cL_clearIn 13 = .ok (.astore 4, 2) := by decide +kernel
theorem dL_clearIn_15 : decode cL_clearIn 15 = .ok (.iconst 1, 1) := by decide +kernel
theorem dL_clearIn_16 : decode cL_clearIn 16 = .ok (.ireturn, 1) := by decide +kernel
theorem dL_clearIn_17 : decode cL_clearIn 17 = .ok (.astore 4, 2) := by decide +kernel
theorem dL_clearIn_19 : decode cL_clearIn 19 = .ok (.iconst 2, 1) := by decide +kernel
theorem dL_clearIn_20 : decode cL_clearIn 20 = .ok (.ireturn, 1) := by decide +kernel
theorem dL_clearIn_21 : decode cL_clearIn 21 = .ok (.iconst 0, 1) := by decide +kernel
theorem dL_clearIn_22 : decode cL_clearIn 22 = .ok (.ireturn, 1) := by decide +kernel
set_option maxRecDepth 20000 in
theorem ggL_restIn_X5_restIn : GoodIn wsL_restIn wsX5_restIn := goodIn_ca (goodIn_r _ [6, 7, 8, 9, 10, 11, 12, 5, 13, 14, 15, 16, 17, 18, 19, 20, 21, 22, 23, 24, 25, 26, 27, 28, 29, 30, 31, 32, 33, 34, 35, 36, 37, 38, 39, 40, 41, 42, 43, 44, 45, 46, 47, 48, 49, 50, 51, 52, 53, 54, 55, 56, 57, 58, 59, 60, 61, 62, 63, 64, 65, 66, 67, 68, 69, 70, 71, 72, 73, 74, 75, 76, 77, 78, 79, 80, 81, 82, 83] (by decide +kernel) (by decide +kernel)) (goodIn_sub (fun _ h => List.mem_cons_of_mem _ (List.mem_append_right _ h)) (by decide +kernel))
set_option maxRecDepth 20000 in
theorem gL_restIn_X5_restIn : GoodIn wsL_restIn (wsV RL 77 RX5 yX5_restIn wsX5_restIn) := goodIn_app (goodIn_of _ (by decide +kernel)) ggL_restIn_X5_restIn
theorem dL_restIn_0 : decode cL_restIn 0 = .ok (.aload_n 2, 1) := by decide +kernel
theorem dL_restIn_1 : decode cL_restIn 1 = .ok (.iconst 0, 1) := by decide +kernel
theorem dL_restIn_2 : decode cL_restIn 2 = .ok (.aload_n 0, 1) := by decide +kernel
theorem dL_restIn_3 : decode cL_restIn 3 = .ok (.iload_n 1, 1) := by decide +kernel
theorem dL_restIn_4 : decode cL_restIn 4 = .ok (.invokevirtual 77, 3) := by decide +kernel
theorem dL_restIn_7 : decode cL_restIn 7 = .ok (.i2l, 1) := by decide +kernel
theorem dL_restIn_8 : decode cL_restIn 8 = .ok (.lastore, 1) := by decide +kernel
theorem dL_restIn_9 : decode cL_restIn 9 = .ok (.goto 6, 3) := by decide +kernel
theorem dL_restIn_12 : decode cL_restIn 12 = .ok (.astore_n 3, 1) := by decide +kernel
theorem dL_restIn_13 : decode cL_restIn 13 = .ok (.iconst 1, 1) := by decide +kernel
theorem dL_restIn_14 : decode cL_restIn 14 = .ok (.ireturn, 1) := by decide +kernel
theorem dL_restIn_15 : decode cL_restIn 15 = .ok (.iconst 0, 1) := by decide +kernel
theorem dL_restIn_16 : decode cL_restIn 16 = .ok (.ireturn, 1) := by decide +kernel
set_option maxRecDepth 20000 in
theorem ggL_purest_X5_purest : GoodIn wsL_purest wsX5_purest := goodIn_ca (goodIn_r _ [6, 7, 8, 9, 10, 5, 11, 12, 13, 14, 15, 16, 17, 18, 19, 20, 21, 22, 23, 24, 25, 26, 27, 28, 29, 30, 31, 32, 33, 34, 35, 36, 37, 38] (by decide +kernel) (by decide +kernel)) (goodIn_sub (fun _ h => List.mem_cons_of_mem _ (List.mem_append_right _ h)) (by decide +kernel))
set_option maxRecDepth 20000 in
theorem gL_purest_X5_purest : GoodIn wsL_purest (wsV RL 80 RX5 yX5_purest wsX5_purest) := goodIn_app (goodIn_of _ (by decide +kernel)) ggL_purest_X5_purest
theorem dL_purest_0 : decode cL_purest 0 = .ok (.aload_n 3, 1) := by decide +kernel
theorem dL_purest_1 : decode cL_purest 1 = .ok (.iconst 0, 1) := by decide +kernel
theorem dL_purest_2 : decode cL_purest 2 = .ok (.aload_n 0, 1) := by decide +kernel
theorem dL_purest_3 : decode cL_purest 3 = .ok (.iload_n 1, 1) := by decide +kernel
theorem dL_purest_4 : decode cL_purest 4 = .ok (.iload_n 2, 1) := by decide +kernel
theorem dL_purest_5 : decode cL_purest 5 = .ok (.invokevirtual 80, 3) := by decide +kernel
theorem dL_purest_8 : decode cL_purest 8 = .ok (.i2l, 1) := by decide +kernel
theorem dL_purest_9 : decode cL_purest 9 = .ok (.lastore, 1) := by decide +kernel
theorem dL_purest_10 : decode cL_purest 10 = .ok (.goto 7, 3) := by decide +kernel
theorem dL_purest_13 : decode cL_purest 13 = .ok (.astore 4, 2) := by decide +kernel
theorem dL_purest_15 : decode cL_purest 15 = .ok (.iconst 1, 1) := by decide +kernel
theorem dL_purest_16 : decode cL_purest 16 = .ok (.ireturn, 1) := by decide +kernel
theorem dL_purest_17 : decode cL_purest 17 = .ok (.iconst 0, 1) := by decide +kernel
theorem dL_purest_18 : decode cL_purest 18 = .ok (.ireturn, 1) := by decide +kernel
set_option maxRecDepth 20000 in
theorem ggL_meanDepth_X5_meanDepth : GoodIn wsL_meanDepth wsX5_meanDepth := goodIn_ca (goodIn_r _ [6, 7, 8, 9, 10, 5, 11, 12, 13, 14, 15, 16, 17, 18, 19, 20, 21, 22, 23, 24, 25, 26, 27, 28, 29, 30, 31, 32, 33, 34, 35, 36, 37, 38, 39, 40, 41, 42, 43, 44, 45, 46] (by decide +kernel) (by decide +kernel)) (goodIn_sub (fun _ h => List.mem_cons_of_mem _ (List.mem_append_right _ h)) (by decide +kernel))
set_option maxRecDepth 20000 in
theorem gL_meanDepth_X5_meanDepth : GoodIn wsL_meanDepth (wsV RL 83 RX5 yX5_meanDepth wsX5_meanDepth) := goodIn_app (goodIn_of _ (by decide +kernel)) ggL_meanDepth_X5_meanDepth
theorem dL_meanDepth_0 : decode cL_meanDepth 0 = .ok (.aload_n 2, 1) := by decide +kernel
theorem dL_meanDepth_1 : decode cL_meanDepth 1 = .ok (.iconst 0, 1) := by decide +kernel
theorem dL_meanDepth_2 : decode cL_meanDepth 2 = .ok (.aload_n 0, 1) := by decide +kernel
theorem dL_meanDepth_3 : decode cL_meanDepth 3 = .ok (.iload_n 1, 1) := by decide +kernel
theorem dL_meanDepth_4 : decode cL_meanDepth 4 = .ok (.invokevirtual 83, 3) := by decide +kernel
theorem dL_meanDepth_7 : decode cL_meanDepth 7 = .ok (.dastore, 1) := by decide +kernel
theorem dL_meanDepth_8 : decode cL_meanDepth 8 = .ok (.goto 6, 3) := by decide +kernel
theorem dL_meanDepth_11 : decode cL_meanDepth 11 = .ok (.astore_n 3, 1) := by decide +kernel
theorem dL_meanDepth_12 : decode cL_meanDepth 12 = .ok (.iconst 1, 1) := by decide +kernel
theorem dL_meanDepth_13 : decode cL_meanDepth 13 = .ok (.ireturn, 1) := by decide +kernel
theorem dL_meanDepth_14 : decode cL_meanDepth 14 = .ok (.iconst 0, 1) := by decide +kernel
theorem dL_meanDepth_15 : decode cL_meanDepth 15 = .ok (.ireturn, 1) := by decide +kernel
set_option maxRecDepth 20000 in
theorem ggL_law_X5_init : GoodIn wsL_law wsX5_init := goodIn_r _ [10, 11, 12, 13, 14, 15, 16, 17, 18, 19, 20, 21, 22, 23, 24, 25, 26, 27, 28, 29, 30, 31, 32, 33, 34, 35, 36, 37, 38, 39, 40, 41, 42, 43, 44, 45, 46, 47, 48, 49, 50, 51, 52, 53, 54, 55, 56, 57, 58, 59, 60, 61, 62, 63, 877, 878, 879, 880, 881, 882, 861, 862, 863, 864, 883, 884, 885, 886, 887, 888, 889, 890] (by decide +kernel) (by decide +kernel)
set_option maxRecDepth 20000 in
theorem gL_law_X5_init : GoodIn wsL_law (wsX5_init) := ggL_law_X5_init
set_option maxRecDepth 20000 in
theorem ggL_law_X6_init : GoodIn wsL_law wsX6_init := goodIn_r _ [66, 67, 12, 13, 40, 68, 69, 70, 71, 72, 865, 866, 867, 868, 869, 870, 871, 872, 873, 874, 875, 876] (by decide +kernel) (by decide +kernel)
set_option maxRecDepth 20000 in
theorem gL_law_X6_init : GoodIn wsL_law (wsX6_init) := ggL_law_X6_init
set_option maxRecDepth 20000 in
theorem ggL_law_L_set : GoodIn wsL_law wsL_set := goodIn_ca (goodIn_ca (goodIn_r _ [76, 77, 78, 79, 80, 81, 2, 82, 83, 84, 21, 17, 85, 86, 87, 88, 89, 90, 91, 92, 93, 94, 95, 96, 97, 98, 99, 20, 100, 57, 101, 102, 103, 104, 105, 16, 106, 37, 39, 41, 107, 108, 109, 110, 42, 111, 112, 113, 114, 115, 36, 116, 46, 117, 47, 118, 119, 120, 28, 121, 51, 122, 861, 862, 863, 864, 877, 878, 879, 880, 881, 882, 889, 890, 883, 884, 885, 888] (by decide +kernel) (by decide +kernel)) (goodIn_sub (fun _ h => List.mem_append_left _ (List.mem_append_left _ (List.mem_append_right _ h))) (by decide +kernel))) (goodIn_sub (fun _ h => List.mem_append_left _ (List.mem_append_right _ h)) (by decide +kernel))
set_option maxRecDepth 20000 in
theorem gL_law_L_set : GoodIn wsL_law (va_wsS RL 91 yL_set wsL_set) := goodIn_app (goodIn_of _ (by decide +kernel)) ggL_law_L_set
set_option maxRecDepth 20000 in
theorem ggL_law_X6_set : GoodIn wsL_law wsX6_set := goodIn_r _ [126, 127, 128, 129, 5, 130, 131, 132, 133, 134, 135, 136, 137, 138, 139, 140, 68, 141, 142, 143, 144, 145, 69, 865, 866, 867, 868, 869, 870, 871, 872, 873, 874, 875, 876] (by decide +kernel) (by decide +kernel)
set_option maxRecDepth 20000 in
theorem gL_law_X6_set : GoodIn wsL_law (wsV RL 96 RX6 yX6_set wsX6_set) := goodIn_app (goodIn_of _ (by decide +kernel)) ggL_law_X6_set
set_option maxRecDepth 20000 in
theorem ggL_law_X6_thrown : GoodIn wsL_law wsX6_thrown := goodIn_r _ [149, 127, 865, 866, 867, 868, 869, 870, 871, 872, 873, 874, 875, 876] (by decide +kernel) (by decide +kernel)
set_option maxRecDepth 20000 in
theorem gL_law_X6_thrown : GoodIn wsL_law (wsV RL 97 RX6 yX6_thrown wsX6_thrown) := goodIn_app (goodIn_of _ (by decide +kernel)) ggL_law_X6_thrown
set_option maxRecDepth 20000 in
theorem ggL_law_L_setSpeed : GoodIn wsL_law wsL_setSpeed := goodIn_ca (goodIn_ca (goodIn_r _ [152, 77, 78, 153, 154, 155, 2, 156, 21, 17, 85, 157, 87, 88, 89, 90, 91, 92, 93, 94, 95, 96, 97, 98, 99, 20, 100, 57, 101, 102, 103, 104, 105, 16, 106, 37, 39, 41, 107, 108, 109, 110, 42, 111, 112, 113, 114, 115, 36, 116, 46, 117, 47, 118, 119, 120, 28, 121, 51, 122, 861, 862, 863, 864, 877, 878, 879, 880, 881, 882, 889, 890, 883, 884, 885, 888] (by decide +kernel) (by decide +kernel)) (goodIn_sub (fun _ h => List.mem_append_left _ (List.mem_append_left _ (List.mem_append_right _ h))) (by decide +kernel))) (goodIn_sub (fun _ h => List.mem_append_left _ (List.mem_append_right _ h)) (by decide +kernel))
set_option maxRecDepth 20000 in
theorem gL_law_L_setSpeed : GoodIn wsL_law (va_wsS RL 100 yL_setSpeed wsL_setSpeed) := goodIn_app (goodIn_of _ (by decide +kernel)) ggL_law_L_setSpeed
set_option maxRecDepth 20000 in
theorem ggL_law_X6_setSpeed : GoodIn wsL_law wsX6_setSpeed := goodIn_r _ [161, 127, 162, 163, 5, 164, 131, 132, 133, 137, 138, 139, 140, 68, 141, 142, 143, 144, 145, 69, 865, 866, 867, 868, 869, 870, 871, 872, 873, 874, 875, 876] (by decide +kernel) (by decide +kernel)
set_option maxRecDepth 20000 in
theorem gL_law_X6_setSpeed : GoodIn wsL_law (wsV RL 102 RX6 yX6_setSpeed wsX6_setSpeed) := goodIn_app (goodIn_of _ (by decide +kernel)) ggL_law_X6_setSpeed
set_option maxRecDepth 20000 in
theorem ggL_law_L_pour : GoodIn wsL_law wsL_pour := goodIn_ca (goodIn_ca (goodIn_ca (goodIn_r _ [167, 77, 78, 168, 169, 170, 171, 2, 172, 17, 173, 21, 174, 175, 176, 177, 87, 88, 89, 90, 91, 92, 93, 94, 95, 96, 178, 179, 180, 181, 182, 183, 184, 185, 28, 186, 187, 188, 189, 190, 191, 192, 193, 194, 195, 196, 197, 198, 51, 97, 98, 99, 20, 100, 57, 101, 102, 103, 104, 105, 16, 106, 37, 39, 41, 107, 108, 109, 110, 42, 111, 112, 113, 114, 115, 36, 116, 46, 117, 47, 118, 119, 120, 121, 122, 199, 200, 201, 202, 203, 861, 862, 863, 864, 877, 878, 879, 880, 881, 882, 888, 883, 884, 885, 889, 890] (by decide +kernel) (by decide +kernel)) (goodIn_sub (fun _ h => List.mem_append_left _ (List.mem_append_left _ (List.mem_append_right _ h))) (by decide +kernel))) (goodIn_sub (fun _ h => List.mem_append_left _ (List.mem_append_right _ h)) (by decide +kernel))) (goodIn_sub (fun _ h => List.mem_append_right _ h) (by decide +kernel))
set_option maxRecDepth 20000 in
theorem gL_law_L_pour : GoodIn wsL_law (va_wsS RL 103 yL_pour wsL_pour) := goodIn_app (goodIn_of _ (by decide +kernel)) ggL_law_L_pour
set_option maxRecDepth 20000 in
theorem ggL_law_X6_pour : GoodIn wsL_law wsX6_pour := goodIn_r _ [207, 127, 208, 209, 5, 210, 131, 132, 133, 211, 212, 213, 162, 163, 164, 214, 215, 216, 217, 218, 219, 220, 221, 68, 222, 223, 224, 141, 142, 143, 144, 145, 69, 225, 226, 227, 228, 865, 866, 867, 868, 869, 870, 871, 872, 873, 874, 875, 876] (by decide +kernel) (by decide +kernel)
set_option maxRecDepth 20000 in
theorem gL_law_X6_pour : GoodIn wsL_law (wsV RL 106 RX6 yX6_pour wsX6_pour) := goodIn_app (goodIn_of _ (by decide +kernel)) ggL_law_X6_pour
set_option maxRecDepth 20000 in
theorem ggL_law_L_stir : GoodIn wsL_law wsL_stir := goodIn_ca (goodIn_ca (goodIn_r _ [231, 77, 78, 232, 233, 234, 2, 235, 21, 17, 173, 175, 176, 177, 87, 88, 89, 90, 91, 92, 93, 94, 95, 96, 97, 98, 99, 20, 100, 57, 101, 102, 103, 104, 105, 16, 106, 37, 39, 41, 107, 108, 109, 110, 42, 111, 112, 113, 114, 115, 36, 116, 46, 117, 47, 118, 119, 120, 28, 121, 51, 122, 236, 237, 238, 239, 195, 196, 197, 198, 240, 200, 201, 202, 861, 862, 863, 864, 877, 878, 879, 880, 881, 882, 883, 884, 885, 889, 890, 888] (by decide +kernel) (by decide +kernel)) (goodIn_sub (fun _ h => List.mem_append_left _ (List.mem_append_left _ (List.mem_append_right _ h))) (by decide +kernel))) (goodIn_sub (fun _ h => List.mem_append_left _ (List.mem_append_right _ h)) (by decide +kernel))
set_option maxRecDepth 20000 in
theorem gL_law_L_stir : GoodIn wsL_law (va_wsS RL 107 yL_stir wsL_stir) := goodIn_app (goodIn_of _ (by decide +kernel)) ggL_law_L_stir
set_option maxRecDepth 20000 in
theorem ggL_law_X6_stir : GoodIn wsL_law wsX6_stir := goodIn_r _ [244, 127, 68, 208, 209, 5, 210, 131, 132, 133, 211, 212, 213, 141, 142, 143, 144, 145, 69, 222, 223, 224, 865, 866, 867, 868, 869, 870, 871, 872, 873, 874, 875, 876] (by decide +kernel) (by decide +kernel)
set_option maxRecDepth 20000 in
theorem gL_law_X6_stir : GoodIn wsL_law (wsV RL 110 RX6 yX6_stir wsX6_stir) := goodIn_app (goodIn_of _ (by decide +kernel)) ggL_law_X6_stir
set_option maxRecDepth 20000 in
theorem ggL_law_L_draw : GoodIn wsL_law wsL_draw := goodIn_ca (goodIn_ca (goodIn_r _ [247, 77, 78, 248, 249, 250, 2, 251, 21, 17, 173, 252, 175, 176, 177, 87, 88, 89, 90, 91, 92, 93, 94, 95, 96, 97, 98, 99, 20, 100, 57, 101, 102, 103, 104, 105, 16, 106, 37, 39, 41, 107, 108, 109, 110, 42, 111, 112, 113, 114, 115, 36, 116, 46, 117, 47, 118, 119, 120, 28, 121, 51, 122, 253, 196, 197, 198, 199, 200, 201, 202, 861, 862, 863, 864, 877, 878, 879, 880, 881, 882, 883, 884, 885, 889, 890, 888] (by decide +kernel) (by decide +kernel)) (goodIn_sub (fun _ h => List.mem_append_left _ (List.mem_append_left _ (List.mem_append_right _ h))) (by decide +kernel))) (goodIn_sub (fun _ h => List.mem_append_left _ (List.mem_append_right _ h)) (by decide +kernel))
set_option maxRecDepth 20000 in
theorem gL_law_L_draw : GoodIn wsL_law (va_wsS RL 111 yL_draw wsL_draw) := goodIn_app (goodIn_of _ (by decide +kernel)) ggL_law_L_draw
set_option maxRecDepth 20000 in
theorem ggL_law_X6_draw : GoodIn wsL_law wsX6_draw := goodIn_r _ [257, 127, 68, 208, 209, 5, 210, 131, 132, 133, 211, 212, 213, 141, 142, 143, 144, 145, 69, 222, 223, 224, 865, 866, 867, 868, 869, 870, 871, 872, 873, 874, 875, 876] (by decide +kernel) (by decide +kernel)
set_option maxRecDepth 20000 in
theorem gL_law_X6_draw : GoodIn wsL_law (wsV RL 113 RX6 yX6_draw wsX6_draw) := goodIn_app (goodIn_of _ (by decide +kernel)) ggL_law_X6_draw
set_option maxRecDepth 20000 in
theorem ggL_law_L_decant : GoodIn wsL_law wsL_decant := goodIn_ca (goodIn_ca (goodIn_ca (goodIn_r _ [260, 77, 78, 168, 261, 262, 263, 2, 264, 95, 96, 17, 173, 21, 87, 88, 89, 90, 91, 175, 176, 177, 265, 188, 189, 28, 190, 191, 192, 193, 194, 195, 196, 197, 198, 51, 178, 179, 180, 181, 182, 183, 184, 185, 186, 187, 97, 98, 99, 20, 100, 57, 101, 102, 103, 104, 105, 16, 106, 37, 39, 41, 107, 108, 109, 110, 42, 111, 112, 113, 114, 115, 36, 116, 46, 117, 47, 118, 119, 120, 121, 122, 266, 267, 268, 269, 240, 200, 201, 202, 861, 862, 863, 864, 877, 878, 879, 880, 881, 882, 888, 883, 884, 885, 889, 890] (by decide +kernel) (by decide +kernel)) (goodIn_sub (fun _ h => List.mem_append_left _ (List.mem_append_right _ h)) (by decide +kernel))) (goodIn_sub (fun _ h => List.mem_append_left _ (List.mem_append_left _ (List.mem_append_right _ h))) (by decide +kernel))) (goodIn_sub (fun _ h => List.mem_append_right _ h) (by decide +kernel))
set_option maxRecDepth 20000 in
theorem gL_law_L_decant : GoodIn wsL_law (va_wsS RL 114 yL_decant wsL_decant) := goodIn_app (goodIn_of _ (by decide +kernel)) ggL_law_L_decant
set_option maxRecDepth 20000 in
theorem ggL_law_X6_decant : GoodIn wsL_law wsX6_decant := goodIn_r _ [273, 127, 68, 208, 209, 5, 210, 131, 132, 133, 211, 212, 213, 214, 215, 216, 217, 218, 219, 220, 221, 222, 223, 224, 274, 275, 276, 277, 141, 142, 143, 144, 145, 69, 865, 866, 867, 868, 869, 870, 871, 872, 873, 874, 875, 876] (by decide +kernel) (by decide +kernel)
set_option maxRecDepth 20000 in
theorem gL_law_X6_decant : GoodIn wsL_law (wsV RL 116 RX6 yX6_decant wsX6_decant) := goodIn_app (goodIn_of _ (by decide +kernel)) ggL_law_X6_decant
set_option maxRecDepth 20000 in
theorem ggL_law_L_turn : GoodIn wsL_law wsL_turn := goodIn_ca (goodIn_r _ [280, 77, 281, 282, 283, 2, 284, 21, 17, 173, 85, 87, 88, 89, 90, 91, 97, 98, 99, 20, 100, 57, 101, 102, 103, 104, 105, 16, 106, 37, 39, 41, 107, 108, 109, 110, 42, 111, 112, 113, 114, 115, 36, 116, 46, 117, 47, 118, 119, 120, 28, 121, 51, 122, 285, 286, 287, 288, 195, 196, 197, 198, 240, 200, 201, 202, 289, 290, 291, 292, 191, 192, 193, 194, 293, 294, 295, 296, 861, 862, 863, 864, 877, 878, 879, 880, 881, 882, 883, 884, 885, 889, 890, 888] (by decide +kernel) (by decide +kernel)) (goodIn_sub (fun _ h => List.mem_append_left _ (List.mem_append_left _ (List.mem_append_right _ h))) (by decide +kernel))
set_option maxRecDepth 20000 in
theorem gL_law_L_turn : GoodIn wsL_law (va_wsS RL 117 yL_turn wsL_turn) := goodIn_app (goodIn_of _ (by decide +kernel)) ggL_law_L_turn
set_option maxRecDepth 20000 in
theorem ggL_law_X6_turn : GoodIn wsL_law wsX6_turn := goodIn_r _ [300, 127, 68, 208, 209, 5, 210, 131, 132, 133, 141, 142, 143, 144, 145, 69, 222, 223, 224, 301, 302, 303, 304, 305, 306, 307, 308, 218, 219, 220, 221, 309, 310, 311, 312, 865, 866, 867, 868, 869, 870, 871, 872, 873, 874, 875, 876] (by decide +kernel) (by decide +kernel)
set_option maxRecDepth 20000 in
theorem gL_law_X6_turn : GoodIn wsL_law (wsV RL 120 RX6 yX6_turn wsX6_turn) := goodIn_app (goodIn_of _ (by decide +kernel)) ggL_law_X6_turn
set_option maxRecDepth 20000 in
theorem ggL_law_L_settle : GoodIn wsL_law wsL_settle := goodIn_ca (goodIn_ca (goodIn_r _ [315, 78, 168, 316, 317, 318, 2, 319, 181, 182, 17, 320, 21, 173, 85, 321, 92, 93, 94, 95, 96, 97, 98, 99, 20, 100, 57, 101, 102, 103, 104, 105, 16, 106, 37, 39, 41, 107, 108, 109, 110, 42, 111, 112, 113, 114, 115, 36, 116, 46, 117, 47, 118, 119, 120, 28, 121, 51, 122, 322, 323, 324, 325, 326, 327, 328, 329, 330, 331, 332, 333, 334, 335, 336, 337, 191, 192, 193, 194, 195, 196, 197, 198, 338, 339, 340, 341, 342, 343, 344, 345, 346, 347, 348, 349, 350, 351, 352, 353, 354, 355, 240, 200, 201, 202, 861, 862, 863, 864, 877, 878, 879, 880, 881, 882, 883, 884, 885, 889, 890, 888] (by decide +kernel) (by decide +kernel)) (goodIn_sub (fun _ h => List.mem_append_right _ h) (by decide +kernel))) (goodIn_sub (fun _ h => List.mem_append_left _ (List.mem_append_right _ h)) (by decide +kernel))
set_option maxRecDepth 20000 in
theorem gL_law_L_settle : GoodIn wsL_law (va_wsS RL 121 yL_settle wsL_settle) := goodIn_app (goodIn_of _ (by decide +kernel)) ggL_law_L_settle
set_option maxRecDepth 20000 in
theorem ggL_law_X6_settle : GoodIn wsL_law wsX6_settle := goodIn_r _ [359, 68, 127, 131, 132, 5, 133, 141, 142, 143, 144, 145, 69, 360, 361, 362, 363, 364, 365, 366, 367, 368, 369, 370, 371, 372, 218, 219, 220, 221, 222, 223, 224, 309, 310, 311, 312, 373, 374, 375, 376, 377, 378, 379, 380, 381, 865, 866, 867, 868, 869, 870, 871, 872, 873, 874, 875, 876] (by decide +kernel) (by decide +kernel)
set_option maxRecDepth 20000 in
theorem gL_law_X6_settle : GoodIn wsL_law (wsV RL 123 RX6 yX6_settle wsX6_settle) := goodIn_app (goodIn_of _ (by decide +kernel)) ggL_law_X6_settle
set_option maxRecDepth 20000 in
theorem ggL_law_L_append : GoodIn wsL_law wsL_append := goodIn_ca (goodIn_ca (goodIn_r _ [384, 78, 168, 385, 386, 387, 2, 388, 181, 182, 25, 92, 93, 94, 95, 96, 389, 390, 391, 24, 392, 393, 394, 395, 396, 397, 63, 398, 399, 400, 401, 861, 862, 863, 864, 886, 887] (by decide +kernel) (by decide +kernel)) (goodIn_sub (fun _ h => List.mem_append_right _ h) (by decide +kernel))) (goodIn_sub (fun _ h => List.mem_append_left _ (List.mem_append_right _ h)) (by decide +kernel))
set_option maxRecDepth 20000 in
theorem gL_law_L_append : GoodIn wsL_law (va_wsS RL 124 yL_append wsL_append) := goodIn_app (goodIn_of _ (by decide +kernel)) ggL_law_L_append
set_option maxRecDepth 20000 in
theorem ggL_law_X6_append : GoodIn wsL_law wsX6_append := goodIn_r _ [405, 406, 127, 70, 131, 132, 5, 133, 865, 866, 867, 868, 869, 870, 871, 872, 873, 874, 875, 876] (by decide +kernel) (by decide +kernel)
set_option maxRecDepth 20000 in
theorem gL_law_X6_append : GoodIn wsL_law (wsV RL 126 RX6 yX6_append wsX6_append) := goodIn_app (goodIn_of _ (by decide +kernel)) ggL_law_X6_append
set_option maxRecDepth 20000 in
theorem ggL_law_X5_clearBuffer : GoodIn wsL_law wsX5_clearBuffer := goodIn_r _ [410, 25, 398, 399, 400, 24, 401, 393, 411, 412, 413, 414, 861, 862, 863, 864, 886, 887] (by decide +kernel) (by decide +kernel)
set_option maxRecDepth 20000 in
theorem gL_law_X5_clearBuffer : GoodIn wsL_law (wsV RL 127 RX5 yX5_clearBuffer wsX5_clearBuffer) := goodIn_app (goodIn_of _ (by decide +kernel)) ggL_law_X5_clearBuffer
set_option maxRecDepth 20000 in
theorem ggL_law_X6_clearBuffer : GoodIn wsL_law wsX6_clearBuffer := goodIn_r _ [418, 127, 406, 865, 866, 867, 868, 869, 870, 871, 872, 873, 874, 875, 876] (by decide +kernel) (by decide +kernel)
set_option maxRecDepth 20000 in
theorem gL_law_X6_clearBuffer : GoodIn wsL_law (wsV RL 130 RX6 yX6_clearBuffer wsX6_clearBuffer) := goodIn_app (goodIn_of _ (by decide +kernel)) ggL_law_X6_clearBuffer
set_option maxRecDepth 20000 in
theorem ggL_law_X5_firstError : GoodIn wsL_law wsX5_firstError := goodIn_r _ [422, 25, 423, 424, 425, 24, 426, 393, 63, 427, 428, 429, 430, 431, 432, 433, 434, 435, 436, 437, 438, 861, 862, 863, 864, 886, 887] (by decide +kernel) (by decide +kernel)
set_option maxRecDepth 20000 in
theorem gL_law_X5_firstError : GoodIn wsL_law (wsV RL 131 RX5 yX5_firstError wsX5_firstError) := goodIn_app (goodIn_of _ (by decide +kernel)) ggL_law_X5_firstError
set_option maxRecDepth 20000 in
theorem ggL_law_X6_firstError : GoodIn wsL_law wsX6_firstError := goodIn_r _ [442, 127, 443, 444, 445, 5, 446, 447, 448, 449, 72, 406, 70, 450, 451, 452, 453, 454, 455, 456, 457, 131, 132, 133, 458, 459, 460, 461, 462, 463, 464, 465, 466, 467, 468, 469, 470, 471, 472, 473, 474, 475, 476, 477, 865, 866, 867, 868, 869, 870, 871, 872, 873, 874, 875, 876] (by decide +kernel) (by decide +kernel)
set_option maxRecDepth 20000 in
theorem gL_law_X6_firstError : GoodIn wsL_law (wsV RL 134 RX6 yX6_firstError wsX6_firstError) := goodIn_app (goodIn_of _ (by decide +kernel)) ggL_law_X6_firstError
set_option maxRecDepth 20000 in
theorem ggL_law_L_load : GoodIn wsL_law wsL_load := goodIn_ca (goodIn_ca (goodIn_ca (goodIn_r _ [480, 77, 78, 168, 481, 482, 483, 2, 484, 95, 96, 25, 17, 173, 29, 21, 174, 87, 88, 89, 90, 91, 485, 486, 487, 24, 488, 393, 63, 427, 428, 429, 430, 431, 432, 433, 434, 435, 436, 437, 438, 489, 490, 491, 28, 492, 51, 493, 494, 495, 496, 497, 498, 499, 500, 501, 200, 201, 202, 183, 184, 185, 186, 187, 188, 189, 190, 191, 192, 193, 194, 195, 196, 197, 198, 178, 179, 180, 181, 182, 97, 98, 99, 20, 100, 57, 101, 102, 103, 104, 105, 16, 106, 37, 39, 41, 107, 108, 109, 110, 42, 111, 112, 113, 114, 115, 36, 116, 46, 117, 47, 118, 119, 120, 121, 122, 502, 503, 504, 505, 266, 267, 268, 269, 240, 411, 412, 413, 414, 861, 862, 863, 864, 877, 878, 879, 880, 881, 882, 886, 887, 888, 883, 884, 885, 889, 890] (by decide +kernel) (by decide +kernel)) (goodIn_sub (fun _ h => List.mem_append_left _ (List.mem_append_right _ h)) (by decide +kernel))) (goodIn_sub (fun _ h => List.mem_append_left _ (List.mem_append_left _ (List.mem_append_right _ h))) (by decide +kernel))) (goodIn_sub (fun _ h => List.mem_append_right _ h) (by decide +kernel))
set_option maxRecDepth 20000 in
theorem gL_law_L_load : GoodIn wsL_law (va_wsS RL 135 yL_load wsL_load) := goodIn_app (goodIn_of _ (by decide +kernel)) ggL_law_L_load
set_option maxRecDepth 20000 in
theorem ggL_law_X6_load : GoodIn wsL_law wsX6_load := goodIn_r _ [509, 127, 406, 447, 449, 448, 72, 208, 209, 5, 210, 131, 132, 133, 443, 444, 445, 446, 70, 450, 451, 452, 453, 454, 455, 456, 457, 458, 459, 460, 461, 462, 463, 464, 465, 466, 467, 468, 469, 470, 471, 472, 473, 474, 475, 476, 477, 214, 215, 216, 217, 218, 219, 220, 221, 68, 222, 223, 224, 141, 142, 143, 144, 145, 69, 225, 226, 227, 228, 865, 866, 867, 868, 869, 870, 871, 872, 873, 874, 875, 876] (by decide +kernel) (by decide +kernel)
set_option maxRecDepth 20000 in
theorem gL_law_X6_load : GoodIn wsL_law (wsV RL 137 RX6 yX6_load wsX6_load) := goodIn_app (goodIn_of _ (by decide +kernel)) ggL_law_X6_load
set_option maxRecDepth 20000 in
theorem ggL_law_L_undo : GoodIn wsL_law wsL_undo := goodIn_ca (goodIn_r _ [512, 168, 513, 514, 515, 2, 516, 181, 182, 21, 17, 517, 518, 519, 20, 520, 102, 521, 522, 523, 524, 57, 101, 103, 104, 105, 16, 106, 37, 39, 41, 107, 108, 109, 110, 42, 111, 112, 113, 114, 115, 36, 116, 46, 117, 47, 118, 119, 120, 28, 121, 51, 122, 861, 862, 863, 864, 883, 884, 885, 877, 878, 879, 880, 881, 882, 889, 890, 888] (by decide +kernel) (by decide +kernel)) (goodIn_sub (fun _ h => List.mem_append_right _ h) (by decide +kernel))
set_option maxRecDepth 20000 in
theorem gL_law_L_undo : GoodIn wsL_law (va_wsS RL 138 yL_undo wsL_undo) := goodIn_app (goodIn_of _ (by decide +kernel)) ggL_law_L_undo
set_option maxRecDepth 20000 in
theorem ggL_law_X6_undo : GoodIn wsL_law wsX6_undo := goodIn_r _ [528, 145, 127, 68, 69, 865, 866, 867, 868, 869, 870, 871, 872, 873, 874, 875, 876] (by decide +kernel) (by decide +kernel)
set_option maxRecDepth 20000 in
theorem gL_law_X6_undo : GoodIn wsL_law (wsV RL 141 RX6 yX6_undo wsX6_undo) := goodIn_app (goodIn_of _ (by decide +kernel)) ggL_law_X6_undo
set_option maxRecDepth 20000 in
theorem ggL_law_L_slice : GoodIn wsL_law wsL_slice := goodIn_ca (goodIn_ca (goodIn_r _ [531, 77, 78, 532, 533, 534, 2, 535, 17, 173, 85, 175, 176, 177, 87, 88, 89, 90, 91, 92, 93, 94, 95, 96, 536, 537, 538, 28, 539, 191, 192, 193, 194, 195, 196, 197, 198, 51, 293, 294, 295, 36, 296, 46, 540, 541, 542, 543, 544, 545, 546, 547, 338, 339, 340, 341, 342, 343, 344, 336, 345, 346, 347, 348, 349, 861, 862, 863, 864, 877, 878, 879, 880, 881, 882, 888, 889, 890] (by decide +kernel) (by decide +kernel)) (goodIn_sub (fun _ h => List.mem_append_left _ (List.mem_append_left _ (List.mem_append_right _ h))) (by decide +kernel))) (goodIn_sub (fun _ h => List.mem_append_left _ (List.mem_append_right _ h)) (by decide +kernel))
set_option maxRecDepth 20000 in
theorem gL_law_L_slice : GoodIn wsL_law (va_wsS RL 142 yL_slice wsL_slice) := goodIn_app (goodIn_of _ (by decide +kernel)) ggL_law_L_slice
set_option maxRecDepth 20000 in
theorem ggL_law_X6_slice : GoodIn wsL_law wsX6_slice := goodIn_r _ [551, 127, 208, 209, 5, 210, 131, 132, 133, 211, 212, 213, 552, 553, 554, 555, 68, 218, 219, 220, 221, 222, 223, 224, 305, 306, 307, 308, 309, 310, 311, 312, 556, 557, 558, 559, 560, 561, 562, 563, 368, 369, 370, 371, 372, 378, 379, 380, 381, 865, 866, 867, 868, 869, 870, 871, 872, 873, 874, 875, 876] (by decide +kernel) (by decide +kernel)
set_option maxRecDepth 20000 in
theorem gL_law_X6_slice : GoodIn wsL_law (wsV RL 144 RX6 yX6_slice wsX6_slice) := goodIn_app (goodIn_of _ (by decide +kernel)) ggL_law_X6_slice
set_option maxRecDepth 20000 in
theorem ggL_law_L_jar : GoodIn wsL_law wsL_jar := goodIn_ca (goodIn_ca (goodIn_r _ [566, 77, 78, 567, 568, 569, 2, 570, 17, 173, 85, 87, 88, 89, 90, 91, 92, 93, 94, 95, 96, 571, 572, 573, 28, 574, 575, 184, 185, 186, 187, 188, 189, 190, 191, 192, 193, 194, 195, 196, 197, 198, 51, 576, 577, 578, 579, 293, 294, 295, 36, 296, 46, 580, 581, 582, 583, 540, 541, 542, 543, 584, 585, 586, 587, 544, 545, 546, 547, 588, 589, 590, 591, 592, 593, 594, 595, 346, 347, 348, 349, 343, 344, 336, 345, 338, 339, 340, 341, 342, 350, 351, 352, 353, 47, 354, 355, 335, 337, 596, 503, 504, 505, 861, 862, 863, 864, 877, 878, 879, 880, 881, 882, 888, 889, 890] (by decide +kernel) (by decide +kernel)) (goodIn_sub (fun _ h => List.mem_append_left _ (List.mem_append_left _ (List.mem_append_right _ h))) (by decide +kernel))) (goodIn_sub (fun _ h => List.mem_append_left _ (List.mem_append_right _ h)) (by decide +kernel))
set_option maxRecDepth 20000 in
theorem gL_law_L_jar : GoodIn wsL_law (va_wsS RL 145 yL_jar wsL_jar) := goodIn_app (goodIn_of _ (by decide +kernel)) ggL_law_L_jar
set_option maxRecDepth 20000 in
theorem ggL_law_X6_jar : GoodIn wsL_law wsX6_jar := goodIn_r _ [600, 127, 208, 209, 5, 210, 131, 132, 133, 601, 602, 603, 604, 214, 215, 216, 217, 218, 219, 220, 221, 68, 222, 223, 224, 605, 606, 607, 608, 305, 306, 307, 308, 309, 310, 311, 312, 609, 610, 611, 612, 556, 557, 558, 559, 613, 614, 615, 616, 617, 618, 619, 620, 560, 561, 562, 563, 621, 622, 623, 624, 625, 626, 627, 628, 378, 379, 380, 381, 368, 369, 370, 371, 372, 373, 374, 375, 376, 377, 629, 630, 631, 632, 865, 866, 867, 868, 869, 870, 871, 872, 873, 874, 875, 876] (by decide +kernel) (by decide +kernel)
set_option maxRecDepth 20000 in
theorem gL_law_X6_jar : GoodIn wsL_law (wsV RL 147 RX6 yX6_jar wsX6_jar) := goodIn_app (goodIn_of _ (by decide +kernel)) ggL_law_X6_jar
set_option maxRecDepth 20000 in
theorem ggL_law_L_grains : GoodIn wsL_law wsL_grains := goodIn_ca (goodIn_ca (goodIn_r _ [635, 77, 78, 636, 637, 638, 2, 639, 17, 174, 252, 85, 157, 87, 88, 89, 90, 91, 92, 93, 94, 95, 96, 640, 641, 642, 16, 643, 39, 644, 503, 504, 28, 505, 195, 196, 197, 198, 51, 861, 862, 863, 864, 877, 878, 879, 880, 881, 882, 889, 890, 888] (by decide +kernel) (by decide +kernel)) (goodIn_sub (fun _ h => List.mem_append_left _ (List.mem_append_left _ (List.mem_append_right _ h))) (by decide +kernel))) (goodIn_sub (fun _ h => List.mem_append_left _ (List.mem_append_right _ h)) (by decide +kernel))
set_option maxRecDepth 20000 in
theorem gL_law_L_grains : GoodIn wsL_law (va_wsS RL 148 yL_grains wsL_grains) := goodIn_app (goodIn_of _ (by decide +kernel)) ggL_law_L_grains
set_option maxRecDepth 20000 in
theorem ggL_law_X6_grains : GoodIn wsL_law wsX6_grains := goodIn_r _ [648, 127, 162, 163, 5, 164, 131, 132, 133, 649, 650, 651, 652, 68, 629, 630, 631, 632, 222, 223, 224, 865, 866, 867, 868, 869, 870, 871, 872, 873, 874, 875, 876] (by decide +kernel) (by decide +kernel)
set_option maxRecDepth 20000 in
theorem gL_law_X6_grains : GoodIn wsL_law (wsV RL 150 RX6 yX6_grains wsX6_grains) := goodIn_app (goodIn_of _ (by decide +kernel)) ggL_law_X6_grains
set_option maxRecDepth 20000 in
theorem ggL_law_L_count : GoodIn wsL_law wsL_count := goodIn_ca (goodIn_r _ [655, 78, 656, 657, 658, 2, 659, 17, 320, 321, 21, 92, 93, 94, 95, 96, 660, 661, 662, 16, 663, 39, 664, 184, 185, 28, 186, 187, 188, 189, 190, 191, 192, 193, 194, 195, 196, 197, 198, 51, 665, 666, 667, 668, 37, 669, 290, 291, 292, 293, 294, 295, 36, 296, 46, 670, 671, 672, 673, 674, 675, 676, 677, 540, 541, 542, 543, 517, 518, 519, 20, 520, 102, 861, 862, 863, 864, 877, 878, 879, 880, 881, 882, 888, 889, 890, 883, 884, 885] (by decide +kernel) (by decide +kernel)) (goodIn_sub (fun _ h => List.mem_append_left _ (List.mem_append_right _ h)) (by decide +kernel))
set_option maxRecDepth 20000 in
theorem gL_law_L_count : GoodIn wsL_law (va_wsS RL 151 yL_count wsL_count) := goodIn_app (goodIn_of _ (by decide +kernel)) ggL_law_L_count
set_option maxRecDepth 20000 in
theorem ggL_law_X6_count : GoodIn wsL_law wsX6_count := goodIn_r _ [681, 127, 131, 132, 5, 133, 682, 683, 684, 685, 68, 145, 214, 215, 216, 217, 218, 219, 220, 221, 222, 223, 224, 301, 302, 303, 304, 305, 306, 307, 308, 309, 310, 311, 312, 686, 687, 688, 689, 556, 557, 558, 559, 865, 866, 867, 868, 869, 870, 871, 872, 873, 874, 875, 876] (by decide +kernel) (by decide +kernel)
set_option maxRecDepth 20000 in
theorem gL_law_X6_count : GoodIn wsL_law (wsV RL 153 RX6 yX6_count wsX6_count) := goodIn_app (goodIn_of _ (by decide +kernel)) ggL_law_X6_count
set_option maxRecDepth 20000 in
theorem ggL_law_L_setting : GoodIn wsL_law wsL_setting := goodIn_ca (goodIn_r _ [692, 77, 693, 694, 695, 2, 696, 17, 85, 86, 87, 88, 89, 90, 91, 861, 862, 863, 864, 877, 878, 879, 880, 881, 882, 889, 890] (by decide +kernel) (by decide +kernel)) (goodIn_sub (fun _ h => List.mem_append_left _ (List.mem_append_left _ (List.mem_append_right _ h))) (by decide +kernel))
set_option maxRecDepth 20000 in
theorem gL_law_L_setting : GoodIn wsL_law (va_wsS RL 154 yL_setting wsL_setting) := goodIn_app (goodIn_of _ (by decide +kernel)) ggL_law_L_setting
set_option maxRecDepth 20000 in
theorem ggL_law_X6_setting : GoodIn wsL_law wsX6_setting := goodIn_r _ [700, 127, 128, 129, 5, 130, 131, 132, 133, 309, 310, 311, 312, 68, 865, 866, 867, 868, 869, 870, 871, 872, 873, 874, 875, 876] (by decide +kernel) (by decide +kernel)
set_option maxRecDepth 20000 in
theorem gL_law_X6_setting : GoodIn wsL_law (wsV RL 156 RX6 yX6_setting wsX6_setting) := goodIn_app (goodIn_of _ (by decide +kernel)) ggL_law_X6_setting
set_option maxRecDepth 20000 in
theorem ggL_law_L_why : GoodIn wsL_law wsL_why := goodIn_ca (goodIn_r _ [703, 77, 704, 705, 706, 2, 707, 17, 173, 85, 175, 176, 177, 87, 88, 89, 90, 91, 708, 593, 594, 28, 595, 195, 196, 197, 198, 51, 191, 192, 193, 194, 346, 347, 348, 36, 349, 46, 343, 344, 336, 345, 338, 339, 340, 341, 342, 350, 351, 352, 353, 47, 354, 355, 335, 337, 861, 862, 863, 864, 877, 878, 879, 880, 881, 882, 888, 889, 890] (by decide +kernel) (by decide +kernel)) (goodIn_sub (fun _ h => List.mem_append_left _ (List.mem_append_left _ (List.mem_append_right _ h))) (by decide +kernel))
set_option maxRecDepth 20000 in
theorem gL_law_L_why : GoodIn wsL_law (va_wsS RL 157 yL_why wsL_why) := goodIn_app (goodIn_of _ (by decide +kernel)) ggL_law_L_why
set_option maxRecDepth 20000 in
theorem ggL_law_X6_why : GoodIn wsL_law wsX6_why := goodIn_r _ [712, 127, 208, 209, 5, 210, 131, 132, 133, 211, 212, 213, 162, 163, 164, 625, 626, 627, 628, 68, 222, 223, 224, 378, 379, 380, 381, 309, 310, 311, 312, 218, 219, 220, 221, 368, 369, 370, 371, 372, 373, 374, 375, 376, 377, 865, 866, 867, 868, 869, 870, 871, 872, 873, 874, 875, 876] (by decide +kernel) (by decide +kernel)
set_option maxRecDepth 20000 in
theorem gL_law_X6_why : GoodIn wsL_law (wsV RL 159 RX6 yX6_why wsX6_why) := goodIn_app (goodIn_of _ (by decide +kernel)) ggL_law_X6_why
set_option maxRecDepth 20000 in
theorem ggL_law_L_ifSettled : GoodIn wsL_law wsL_ifSettled := goodIn_ca (goodIn_ca (goodIn_r _ [715, 77, 78, 716, 717, 718, 2, 719, 29, 17, 173, 85, 87, 88, 89, 90, 91, 92, 93, 94, 95, 96, 720, 119, 120, 28, 121, 51, 122, 108, 109, 110, 322, 323, 324, 325, 326, 327, 328, 329, 330, 331, 332, 333, 334, 335, 336, 337, 191, 192, 193, 194, 195, 196, 197, 198, 338, 339, 340, 36, 341, 342, 46, 343, 344, 345, 346, 347, 348, 349, 350, 351, 352, 353, 47, 354, 355, 240, 200, 201, 202, 571, 572, 573, 574, 575, 184, 185, 186, 187, 188, 189, 190, 576, 577, 578, 579, 293, 294, 295, 296, 580, 581, 582, 583, 540, 541, 542, 543, 584, 585, 586, 587, 544, 545, 546, 547, 588, 589, 590, 591, 592, 593, 594, 595, 596, 503, 504, 505, 861, 862, 863, 864, 877, 878, 879, 880, 881, 882, 888, 889, 890] (by decide +kernel) (by decide +kernel)) (goodIn_sub (fun _ h => List.mem_append_left _ (List.mem_append_left _ (List.mem_append_right _ h))) (by decide +kernel))) (goodIn_sub (fun _ h => List.mem_append_left _ (List.mem_append_right _ h)) (by decide +kernel))
set_option maxRecDepth 20000 in
theorem gL_law_L_ifSettled : GoodIn wsL_law (va_wsS RL 160 yL_ifSettled wsL_ifSettled) := goodIn_app (goodIn_of _ (by decide +kernel)) ggL_law_L_ifSettled
set_option maxRecDepth 20000 in
theorem ggL_law_X6_ifSettled : GoodIn wsL_law wsX6_ifSettled := goodIn_r _ [724, 127, 208, 209, 5, 210, 131, 132, 133, 725, 726, 727, 728, 729, 730, 731, 732, 71, 68, 360, 361, 362, 363, 364, 365, 366, 367, 368, 369, 370, 371, 372, 218, 219, 220, 221, 222, 223, 224, 309, 310, 311, 312, 373, 374, 375, 376, 377, 378, 379, 380, 381, 601, 602, 603, 604, 214, 215, 216, 217, 605, 606, 607, 608, 305, 306, 307, 308, 609, 610, 611, 612, 556, 557, 558, 559, 613, 614, 615, 616, 617, 618, 619, 620, 560, 561, 562, 563, 621, 622, 623, 624, 625, 626, 627, 628, 629, 630, 631, 632, 733, 734, 735, 736, 865, 866, 867, 868, 869, 870, 871, 872, 873, 874, 875, 876] (by decide +kernel) (by decide +kernel)
set_option maxRecDepth 20000 in
theorem gL_law_X6_ifSettled : GoodIn wsL_law (wsV RL 162 RX6 yX6_ifSettled wsX6_ifSettled) := goodIn_app (goodIn_of _ (by decide +kernel)) ggL_law_X6_ifSettled
set_option maxRecDepth 20000 in
theorem ggL_law_L_clearIn : GoodIn wsL_law wsL_clearIn := goodIn_ca (goodIn_ca (goodIn_r _ [739, 77, 78, 740, 741, 742, 2, 743, 29, 17, 173, 85, 87, 88, 89, 90, 91, 92, 93, 94, 95, 96, 720, 119, 120, 28, 121, 51, 122, 108, 109, 110, 744, 581, 582, 583, 191, 192, 193, 194, 195, 196, 197, 198, 540, 541, 542, 36, 543, 46, 745, 327, 328, 329, 330, 331, 332, 333, 334, 335, 336, 337, 338, 339, 340, 341, 342, 343, 344, 345, 346, 347, 348, 349, 350, 351, 352, 353, 47, 354, 355, 240, 200, 201, 202, 861, 862, 863, 864, 877, 878, 879, 880, 881, 882, 888, 889, 890] (by decide +kernel) (by decide +kernel)) (goodIn_sub (fun _ h => List.mem_append_left _ (List.mem_append_left _ (List.mem_append_right _ h))) (by decide +kernel))) (goodIn_sub (fun _ h => List.mem_append_left _ (List.mem_append_right _ h)) (by decide +kernel))
set_option maxRecDepth 20000 in
theorem gL_law_L_clearIn : GoodIn wsL_law (va_wsS RL 163 yL_clearIn wsL_clearIn) := goodIn_app (goodIn_of _ (by decide +kernel)) ggL_law_L_clearIn
set_option maxRecDepth 20000 in
theorem ggL_law_X6_clearIn : GoodIn wsL_law wsX6_clearIn := goodIn_r _ [749, 127, 208, 209, 5, 210, 131, 132, 133, 750, 751, 752, 753, 729, 730, 731, 732, 71, 68, 609, 610, 611, 612, 556, 557, 558, 559, 218, 219, 220, 221, 222, 223, 224, 309, 310, 311, 312, 360, 361, 362, 363, 364, 365, 366, 367, 368, 369, 370, 371, 372, 373, 374, 375, 376, 377, 378, 379, 380, 381, 733, 734, 735, 736, 865, 866, 867, 868, 869, 870, 871, 872, 873, 874, 875, 876] (by decide +kernel) (by decide +kernel)
set_option maxRecDepth 20000 in
theorem gL_law_X6_clearIn : GoodIn wsL_law (wsV RL 165 RX6 yX6_clearIn wsX6_clearIn) := goodIn_app (goodIn_of _ (by decide +kernel)) ggL_law_X6_clearIn
set_option maxRecDepth 20000 in
theorem ggL_law_L_restIn : GoodIn wsL_law wsL_restIn := goodIn_ca (goodIn_r _ [756, 77, 757, 758, 759, 2, 760, 29, 17, 173, 85, 87, 88, 89, 90, 91, 720, 119, 120, 28, 121, 51, 122, 108, 109, 110, 745, 327, 328, 329, 330, 331, 332, 333, 334, 335, 336, 337, 191, 192, 193, 194, 195, 196, 197, 198, 338, 339, 340, 36, 341, 342, 46, 343, 344, 345, 346, 347, 348, 349, 350, 351, 352, 353, 47, 354, 355, 240, 200, 201, 202, 861, 862, 863, 864, 877, 878, 879, 880, 881, 882, 888, 889, 890] (by decide +kernel) (by decide +kernel)) (goodIn_sub (fun _ h => List.mem_append_left _ (List.mem_append_left _ (List.mem_append_right _ h))) (by decide +kernel))
set_option maxRecDepth 20000 in
theorem gL_law_L_restIn : GoodIn wsL_law (va_wsS RL 166 yL_restIn wsL_restIn) := goodIn_app (goodIn_of _ (by decide +kernel)) ggL_law_L_restIn
set_option maxRecDepth 20000 in
theorem ggL_law_X6_restIn : GoodIn wsL_law wsX6_restIn := goodIn_r _ [764, 127, 208, 209, 5, 210, 131, 132, 133, 765, 766, 767, 768, 729, 730, 731, 732, 71, 68, 360, 361, 362, 363, 364, 365, 366, 367, 368, 369, 370, 371, 372, 218, 219, 220, 221, 222, 223, 224, 309, 310, 311, 312, 373, 374, 375, 376, 377, 378, 379, 380, 381, 733, 734, 735, 736, 865, 866, 867, 868, 869, 870, 871, 872, 873, 874, 875, 876] (by decide +kernel) (by decide +kernel)
set_option maxRecDepth 20000 in
theorem gL_law_X6_restIn : GoodIn wsL_law (wsV RL 168 RX6 yX6_restIn wsX6_restIn) := goodIn_app (goodIn_of _ (by decide +kernel)) ggL_law_X6_restIn
set_option maxRecDepth 20000 in
theorem ggL_law_L_purest : GoodIn wsL_law wsL_purest := goodIn_ca (goodIn_r _ [771, 77, 772, 773, 774, 2, 775, 17, 173, 87, 88, 89, 90, 91, 776, 777, 778, 28, 779, 195, 196, 197, 198, 51, 191, 192, 193, 194, 861, 862, 863, 864, 877, 878, 879, 880, 881, 882, 888] (by decide +kernel) (by decide +kernel)) (goodIn_sub (fun _ h => List.mem_append_left _ (List.mem_append_left _ (List.mem_append_right _ h))) (by decide +kernel))
set_option maxRecDepth 20000 in
theorem gL_law_L_purest : GoodIn wsL_law (va_wsS RL 169 yL_purest wsL_purest) := goodIn_app (goodIn_of _ (by decide +kernel)) ggL_law_L_purest
set_option maxRecDepth 20000 in
theorem ggL_law_X6_purest : GoodIn wsL_law wsX6_purest := goodIn_r _ [783, 127, 208, 209, 5, 210, 131, 132, 133, 162, 163, 164, 784, 785, 786, 787, 68, 222, 223, 224, 218, 219, 220, 221, 865, 866, 867, 868, 869, 870, 871, 872, 873, 874, 875, 876] (by decide +kernel) (by decide +kernel)
set_option maxRecDepth 20000 in
theorem gL_law_X6_purest : GoodIn wsL_law (wsV RL 171 RX6 yX6_purest wsX6_purest) := goodIn_app (goodIn_of _ (by decide +kernel)) ggL_law_X6_purest
set_option maxRecDepth 20000 in
theorem ggL_law_L_meanDepth : GoodIn wsL_law wsL_meanDepth := goodIn_ca (goodIn_r _ [790, 77, 791, 792, 793, 2, 794, 17, 173, 87, 88, 89, 90, 91, 183, 184, 185, 28, 186, 187, 188, 189, 190, 191, 192, 193, 194, 195, 196, 197, 198, 51, 795, 796, 797, 798, 861, 862, 863, 864, 877, 878, 879, 880, 881, 882, 888] (by decide +kernel) (by decide +kernel)) (goodIn_sub (fun _ h => List.mem_append_left _ (List.mem_append_left _ (List.mem_append_right _ h))) (by decide +kernel))
set_option maxRecDepth 20000 in
theorem gL_law_L_meanDepth : GoodIn wsL_law (va_wsS RL 172 yL_meanDepth wsL_meanDepth) := goodIn_app (goodIn_of _ (by decide +kernel)) ggL_law_L_meanDepth
set_option maxRecDepth 20000 in
theorem ggL_law_X6_meanDepth : GoodIn wsL_law wsX6_meanDepth := goodIn_r _ [802, 127, 208, 209, 5, 210, 131, 132, 133, 803, 804, 805, 806, 218, 219, 220, 221, 68, 222, 223, 224, 214, 215, 216, 217, 865, 866, 867, 868, 869, 870, 871, 872, 873, 874, 875, 876] (by decide +kernel) (by decide +kernel)
set_option maxRecDepth 20000 in
theorem gL_law_X6_meanDepth : GoodIn wsL_law (wsV RL 175 RX6 yX6_meanDepth wsX6_meanDepth) := goodIn_app (goodIn_of _ (by decide +kernel)) ggL_law_X6_meanDepth
set_option maxRecDepth 20000 in
theorem ggL_law_X5_digest : GoodIn wsL_law wsX5_digest := goodIn_ca (goodIn_ca (goodIn_r _ [810, 811, 812, 25, 813, 657, 658, 2, 659, 17, 320, 321, 21, 92, 93, 94, 95, 96, 660, 661, 662, 16, 663, 39, 664, 184, 185, 28, 186, 187, 188, 189, 190, 191, 192, 193, 194, 195, 196, 197, 198, 51, 665, 666, 667, 668, 37, 669, 290, 291, 292, 293, 294, 295, 36, 296, 46, 670, 671, 672, 673, 674, 675, 676, 677, 540, 541, 542, 543, 517, 518, 519, 20, 520, 102, 814, 694, 695, 696, 85, 86, 87, 88, 89, 90, 91, 815, 637, 638, 639, 174, 252, 157, 640, 641, 642, 643, 644, 503, 504, 505, 816, 817, 818, 819, 173, 571, 572, 573, 574, 575, 576, 577, 578, 579, 580, 581, 582, 583, 584, 585, 586, 587, 544, 545, 546, 547, 588, 589, 590, 591, 592, 593, 594, 595, 346, 347, 348, 349, 343, 344, 336, 345, 338, 339, 340, 341, 342, 350, 351, 352, 353, 47, 354, 355, 335, 337, 596, 536, 537, 538, 539, 776, 777, 778, 779, 820, 741, 742, 743, 29, 720, 119, 120, 121, 122, 108, 109, 110, 744, 745, 327, 328, 329, 330, 331, 332, 333, 334, 240, 200, 201, 202, 821, 758, 759, 760, 822, 792, 793, 794, 183, 795, 796, 797, 798, 823, 824, 825, 826, 827, 828, 829, 830, 831, 24, 832, 833, 393, 63, 861, 862, 863, 864, 877, 878, 879, 880, 881, 882, 888, 889, 890, 883, 884, 885, 886, 887] (by decide +kernel) (by decide +kernel)) (goodIn_sub (fun _ h => List.mem_append_left _ (List.mem_append_right _ h)) (by decide +kernel))) (goodIn_sub (fun _ h => List.mem_append_left _ (List.mem_append_left _ (List.mem_append_right _ h))) (by decide +kernel))
set_option maxRecDepth 20000 in
theorem gL_law_X5_digest : GoodIn wsL_law (wsV RL 176 RX5 yX5_digest wsX5_digest) := goodIn_app (goodIn_of _ (by decide +kernel)) ggL_law_X5_digest
set_option maxRecDepth 20000 in
theorem ggL_law_X6_digest : GoodIn wsL_law wsX6_digest := goodIn_r _ [837, 127, 838, 839, 406, 70, 682, 683, 684, 5, 685, 68, 145, 214, 215, 216, 217, 218, 219, 220, 221, 222, 223, 224, 301, 302, 303, 304, 305, 306, 307, 308, 309, 310, 311, 312, 686, 687, 688, 689, 556, 557, 558, 559, 840, 841, 842, 843, 844, 649, 650, 651, 652, 629, 630, 631, 632, 845, 846, 847, 848, 601, 602, 603, 604, 605, 606, 607, 608, 609, 610, 611, 612, 613, 614, 615, 616, 617, 618, 619, 620, 560, 561, 562, 563, 621, 622, 623, 624, 625, 626, 627, 628, 378, 379, 380, 381, 368, 369, 370, 371, 372, 373, 374, 375, 376, 377, 552, 553, 554, 555, 784, 785, 786, 787, 750, 751, 752, 753, 729, 730, 731, 732, 71, 360, 361, 362, 363, 364, 365, 366, 367, 733, 734, 735, 736, 765, 766, 767, 768, 803, 804, 805, 806, 849, 850, 851, 852, 853, 854, 855, 856, 857, 858, 859, 860, 865, 866, 867, 868, 869, 870, 871, 872, 873, 874, 875, 876] (by decide +kernel) (by decide +kernel)
set_option maxRecDepth 20000 in
theorem gL_law_X6_digest : GoodIn wsL_law (wsV RL 180 RX6 yX6_digest wsX6_digest) := goodIn_app (goodIn_of _ (by decide +kernel)) ggL_law_X6_digest
