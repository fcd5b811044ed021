theorem dX6_init_0 : decode cX6_init 0 = .ok (.aload_n 0, 1) := by decide +kernel
theorem dX6_init_1 : decode cX6_init 1 = .ok (.invokespecial 1, 3) := by decide +kernel
theorem dX6_init_4 : decode cX6_init 4 = .ok (.aload_n 0, 1) := by decide +kernel
theorem dX6_init_5 : decode cX6_init 5 = .ok (.sipush 162, 3) := by decide +kernel
theorem dX6_init_8 : decode cX6_init 8 = .ok (.newarray .int, 2) := by decide +kernel
theorem dX6_init_10 : decode cX6_init 10 = .ok (.putfield 7, 3) := by decide +kernel
theorem dX6_init_13 : decode cX6_init 13 = .ok (.aload_n 0, 1) := by decide +kernel
theorem dX6_init_14 : decode cX6_init 14 = .ok (.sipush 972, 3) := by decide +kernel
theorem dX6_init_17 : decode cX6_init 17 = .ok (.newarray .int, 2) := by decide +kernel
theorem dX6_init_19 : decode cX6_init 19 = .ok (.putfield 13, 3) := by decide +kernel
theorem dX6_init_22 : decode cX6_init 22 = .ok (.aload_n 0, 1) := by decide +kernel
theorem dX6_init_23 : decode cX6_init 23 = .ok (.bipush 60, 2) := by decide +kernel
theorem dX6_init_25 : decode cX6_init 25 = .ok (.newarray .int, 2) := by decide +kernel
theorem dX6_init_27 : decode cX6_init 27 = .ok (.putfield 16, 3) := by decide +kernel
theorem dX6_init_30 : decode cX6_init 30 = .ok (.aload_n 0, 1) := by decide +kernel
theorem dX6_init_31 : decode cX6_init 31 = .ok (.sipush 162, 3) := by decide +kernel
theorem dX6_init_34 : decode cX6_init 34 = .ok (.newarray .int, 2) := by decide +kernel
theorem dX6_init_36 : decode cX6_init 36 = .ok (.putfield 19, 3) := by decide +kernel
theorem dX6_init_39 : decode cX6_init 39 = .ok (.aload_n 0, 1) := by decide +kernel
theorem dX6_init_40 : decode cX6_init 40 = .ok (.bipush 63, 2) := by decide +kernel
theorem dX6_init_42 : decode cX6_init 42 = .ok (.newarray .int, 2) := by decide +kernel
theorem dX6_init_44 : decode cX6_init 44 = .ok (.putfield 22, 3) := by decide +kernel
theorem dX6_init_47 : decode cX6_init 47 = .ok (.aload_n 0, 1) := by decide +kernel
theorem dX6_init_48 : decode cX6_init 48 = .ok (.getfield 7, 3) := by decide +kernel
theorem dX6_init_51 : decode cX6_init 51 = .ok (.sipush 144, 3) := by decide +kernel
theorem dX6_init_54 : decode cX6_init 54 = .ok (.bipush 100, 2) := by decide +kernel
theorem dX6_init_56 : decode cX6_init 56 = .ok (.iastore, 1) := by decide +kernel
theorem dX6_init_57 : decode cX6_init 57 = .ok (.aload_n 0, 1) := by decide +kernel
theorem dX6_init_58 : decode cX6_init 58 = .ok (.getfield 7, 3) := by decide +kernel
theorem dX6_init_61 : decode cX6_init 61 = .ok (.sipush 145, 3) := by decide +kernel
theorem dX6_init_64 : decode cX6_init 64 = .ok (.sipush 200, 3) := by decide +kernel
theorem dX6_init_67 : decode cX6_init 67 = .ok (.iastore, 1) := by decide +kernel
theorem dX6_init_68 : decode cX6_init 68 = .ok (.aload_n 0, 1) := by decide +kernel
theorem dX6_init_69 : decode cX6_init 69 = .ok (.getfield 7, 3) := by decide +kernel
theorem dX6_init_72 : decode cX6_init 72 = .ok (.sipush 146, 3) := by decide +kernel
theorem dX6_init_75 : decode cX6_init 75 = .ok (.iconst 3, 1) := by decide +kernel
theorem dX6_init_76 : decode cX6_init 76 = .ok (.iastore, 1) := by decide +kernel
theorem dX6_init_77 : decode cX6_init 77 = .ok (.bipush 40, 2) := by decide +kernel
theorem dX6_init_79 : decode cX6_init 79 = .ok (.istore_n 1, 1) := by decide +kernel
theorem dX6_init_80 : decode cX6_init 80 = .ok (.iconst 0, 1) := by decide +kernel
theorem dX6_init_81 : decode cX6_init 81 = .ok (.istore_n 2, 1) := by decide +kernel
theorem dX6_init_82 : decode cX6_init 82 = .ok (.iload_n 2, 1) := by decide +kernel
theorem dX6_init_83 : decode cX6_init 83 = .ok (.iconst 4, 1) := by decide +kernel
theorem dX6_init_84 : decode cX6_init 84 = .ok (.if_icmp .ge 24, 3) := by decide +kernel
theorem dX6_init_87 : decode cX6_init 87 = .ok (.aload_n 0, 1) := by decide +kernel
theorem dX6_init_88 : decode cX6_init 88 = .ok (.getfield 7, 3) := by decide +kernel
theorem dX6_init_91 : decode cX6_init 91 = .ok (.sipush 148, 3) := by decide +kernel
theorem dX6_init_94 : decode cX6_init 94 = .ok (.iload_n 2, 1) := by decide +kernel
theorem dX6_init_95 : decode cX6_init 95 = .ok (.iadd, 1) := by decide +kernel
theorem dX6_init_96 : decode cX6_init 96 = .ok (.iload_n 1, 1) := by decide +kernel
theorem dX6_init_97 : decode cX6_init 97 = .ok (.iastore, 1) := by decide +kernel
theorem dX6_init_98 : decode cX6_init 98 = .ok (.iload_n 1, 1) := by decide +kernel
theorem dX6_init_99 : decode cX6_init 99 = .ok (.iconst 2, 1) := by decide +kernel
theorem dX6_init_100 : decode cX6_init 100 = .ok (.idiv, 1) := by decide +kernel
theorem dX6_init_101 : decode cX6_init 101 = .ok (.istore_n 1, 1) := by decide +kernel
theorem dX6_init_102 : decode cX6_init 102 = .ok (.iinc 2 1, 3) := by decide +kernel
theorem dX6_init_105 : decode cX6_init 105 = .ok (.goto (-23), 3) := by decide +kernel
theorem dX6_init_108 : decode cX6_init 108 = .ok (.return_, 1) := by decide +kernel
theorem dX6_thrown_0 : decode cX6_thrown 0 = .ok (.aload_n 0, 1) := by decide +kernel
theorem dX6_thrown_1 : decode cX6_thrown 1 = .ok (.getfield 25, 3) := by decide +kernel
theorem dX6_thrown_4 : decode cX6_thrown 4 = .ok (.ireturn, 1) := by decide +kernel
theorem dX6_within_0 : decode cX6_within 0 = .ok (.iload_n 0, 1) := by decide +kernel
theorem dX6_within_1 : decode cX6_within 1 = .ok (.iload_n 1, 1) := by decide +kernel
theorem dX6_within_2 : decode cX6_within 2 = .ok (.if_icmp .lt 12, 3) := by decide +kernel
theorem dX6_within_5 : decode cX6_within 5 = .ok (.iload_n 0, 1) := by decide +kernel
theorem dX6_within_6 : decode cX6_within 6 = .ok (.iload_n 2, 1) := by decide +kernel
theorem dX6_within_7 : decode cX6_within 7 = .ok (.if_icmp .gt 7, 3) := by decide +kernel
theorem dX6_within_10 : decode cX6_within 10 = .ok (.iconst 1, 1) := by decide +kernel
theorem dX6_within_11 : decode cX6_within 11 = .ok (.goto 4, 3) := by decide +kernel
theorem dX6_within_14 : decode cX6_within 14 = .ok (.iconst 0, 1) := by decide +kernel
theorem dX6_within_15 : decode cX6_within 15 = .ok (.ireturn, 1) := by decide +kernel
theorem dX6_place_0 : decode cX6_place 0 = .ok (.iconst 4, 1) := by decide +kernel
theorem dX6_place_1 : decode cX6_place 1 = .ok (.bipush 12, 2) := by decide +kernel
theorem dX6_place_3 : decode cX6_place 3 = .ok (.iload_n 0, 1) := by decide +kernel
theorem dX6_place_4 : decode cX6_place 4 = .ok (.imul, 1) := by decide +kernel
theorem dX6_place_5 : decode cX6_place 5 = .ok (.iload_n 1, 1) := by decide +kernel
theorem dX6_place_6 : decode cX6_place 6 = .ok (.iadd, 1) := by decide +kernel
theorem dX6_place_7 : decode cX6_place 7 = .ok (.imul, 1) := by decide +kernel
theorem dX6_place_8 : decode cX6_place 8 = .ok (.iload_n 2, 1) := by decide +kernel
theorem dX6_place_9 : decode cX6_place 9 = .ok (.iadd, 1) := by decide +kernel
theorem dX6_place_10 : decode cX6_place 10 = .ok (.ireturn, 1) := by decide +kernel
theorem dX6_of_0 : decode cX6_of 0 = .ok (.aload_n 0, 1) := by decide +kernel
theorem dX6_of_1 : decode cX6_of 1 = .ok (.getfield 7, 3) := by decide +kernel
theorem dX6_of_4 : decode cX6_of 4 = .ok (.sipush 144, 3) := by decide +kernel
theorem dX6_of_7 : decode cX6_of 7 = .ok (.iload_n 1, 1) := by decide +kernel
theorem dX6_of_8 : decode cX6_of 8 = .ok (.iadd, 1) := by decide +kernel
theorem dX6_of_9 : decode cX6_of 9 = .ok (.iaload, 1) := by decide +kernel
theorem dX6_of_10 : decode cX6_of 10 = .ok (.ireturn, 1) := by decide +kernel
set_option maxRecDepth 20000 in
theorem ggX6_isJar_X6_within : GoodIn wsX6_isJar wsX6_within := goodIn_r _ [4] (by decide +kernel) (by decide +kernel)
set_option maxRecDepth 20000 in
theorem gX6_isJar_X6_within : GoodIn wsX6_isJar (va_wsS RX6 29 yX6_within wsX6_within) := goodIn_app (goodIn_of _ (by decide +kernel)) ggX6_isJar_X6_within
theorem dX6_isJar_0 : decode cX6_isJar 0 = .ok (.iload_n 0, 1) := by decide +kernel
theorem dX6_isJar_1 : decode cX6_isJar 1 = .ok (.iconst 0, 1) := by decide +kernel
theorem dX6_isJar_2 : decode cX6_isJar 2 = .ok (.iconst 2, 1) := by decide +kernel
theorem dX6_isJar_3 : decode cX6_isJar 3 = .ok (.invokestatic 29, 3) := by decide +kernel
theorem dX6_isJar_6 : decode cX6_isJar 6 = .ok (.ireturn, 1) := by decide +kernel
set_option maxRecDepth 20000 in
theorem ggX6_isSlice_X6_within : GoodIn wsX6_isSlice wsX6_within := goodIn_r _ [4] (by decide +kernel) (by decide +kernel)
set_option maxRecDepth 20000 in
theorem gX6_isSlice_X6_within : GoodIn wsX6_isSlice (va_wsS RX6 29 yX6_within wsX6_within) := goodIn_app (goodIn_of _ (by decide +kernel)) ggX6_isSlice_X6_within
theorem dX6_isSlice_0 : decode cX6_isSlice 0 = .ok (.iload_n 0, 1) := by decide +kernel
theorem dX6_isSlice_1 : decode cX6_isSlice 1 = .ok (.iconst 0, 1) := by decide +kernel
theorem dX6_isSlice_2 : decode cX6_isSlice 2 = .ok (.bipush 11, 2) := by decide +kernel
theorem dX6_isSlice_4 : decode cX6_isSlice 4 = .ok (.invokestatic 29, 3) := by decide +kernel
theorem dX6_isSlice_7 : decode cX6_isSlice 7 = .ok (.ireturn, 1) := by decide +kernel
set_option maxRecDepth 20000 in
theorem ggX6_isClass_X6_within : GoodIn wsX6_isClass wsX6_within := goodIn_r _ [4] (by decide +kernel) (by decide +kernel)
set_option maxRecDepth 20000 in
theorem gX6_isClass_X6_within : GoodIn wsX6_isClass (va_wsS RX6 29 yX6_within wsX6_within) := goodIn_app (goodIn_of _ (by decide +kernel)) ggX6_isClass_X6_within
theorem dX6_isClass_0 : decode cX6_isClass 0 = .ok (.iload_n 0, 1) := by decide +kernel
theorem dX6_isClass_1 : decode cX6_isClass 1 = .ok (.iconst 0, 1) := by decide +kernel
theorem dX6_isClass_2 : decode cX6_isClass 2 = .ok (.iconst 3, 1) := by decide +kernel
theorem dX6_isClass_3 : decode cX6_isClass 3 = .ok (.invokestatic 29, 3) := by decide +kernel
theorem dX6_isClass_6 : decode cX6_isClass 6 = .ok (.ireturn, 1) := by decide +kernel
set_option maxRecDepth 20000 in
theorem ggX6_inSlice_X6_place : GoodIn wsX6_inSlice wsX6_place := goodIn_r _ [5] (by decide +kernel) (by decide +kernel)
set_option maxRecDepth 20000 in
theorem gX6_inSlice_X6_place : GoodIn wsX6_inSlice (va_wsS RX6 33 yX6_place wsX6_place) := goodIn_app (goodIn_of _ (by decide +kernel)) ggX6_inSlice_X6_place
theorem dX6_inSlice_0 : decode cX6_inSlice 0 = .ok (.iconst 0, 1) := by decide +kernel
theorem dX6_inSlice_1 : decode cX6_inSlice 1 = .ok (.istore_n 3, 1) := by decide +kernel
theorem dX6_inSlice_2 : decode cX6_inSlice 2 = .ok (.iconst 0, 1) := by decide +kernel
theorem dX6_inSlice_3 : decode cX6_inSlice 3 = .ok (.istore 4, 2) := by decide +kernel
theorem dX6_inSlice_5 : decode cX6_inSlice 5 = .ok (.iload 4, 2) := by decide +kernel
theorem dX6_inSlice_7 : decode cX6_inSlice 7 = .ok (.iconst 4, 1) := by decide +kernel
theorem dX6_inSlice_8 : decode cX6_inSlice 8 = .ok (.if_icmp .ge 24, 3) := by decide +kernel
theorem dX6_inSlice_11 : decode cX6_inSlice 11 = .ok (.iload_n 3, 1) := by decide +kernel
theorem dX6_inSlice_12 : decode cX6_inSlice 12 = .ok (.aload_n 0, 1) := by decide +kernel
theorem dX6_inSlice_13 : decode cX6_inSlice 13 = .ok (.getfield 7, 3) := by decide +kernel
theorem dX6_inSlice_16 : decode cX6_inSlice 16 = .ok (.iload_n 1, 1) := by decide +kernel
theorem dX6_inSlice_17 : decode cX6_inSlice 17 = .ok (.iload_n 2, 1) := by decide +kernel
theorem dX6_inSlice_18 : decode cX6_inSlice 18 = .ok (.iload 4, 2) := by decide +kernel
theorem dX6_inSlice_20 : decode cX6_inSlice 20 = .ok (.invokestatic 33, 3) := by decide +kernel
theorem dX6_inSlice_23 : decode cX6_inSlice 23 = .ok (.iaload, 1) := by decide +kernel
theorem dX6_inSlice_24 : decode cX6_inSlice 24 = .ok (.iadd, 1) := by decide +kernel
theorem dX6_inSlice_25 : decode cX6_inSlice 25 = .ok (.istore_n 3, 1) := by decide +kernel
theorem dX6_inSlice_26 : decode cX6_inSlice 26 = .ok (.iinc 4 1, 3) := by decide +kernel
theorem dX6_inSlice_29 : decode cX6_inSlice 29 = .ok (.goto (-24), 3) := by decide +kernel
theorem dX6_inSlice_32 : decode cX6_inSlice 32 = .ok (.iload_n 3, 1) := by decide +kernel
theorem dX6_inSlice_33 : decode cX6_inSlice 33 = .ok (.ireturn, 1) := by decide +kernel
set_option maxRecDepth 20000 in
theorem ggX6_ofClass_X6_place : GoodIn wsX6_ofClass wsX6_place := goodIn_r _ [5] (by decide +kernel) (by decide +kernel)
set_option maxRecDepth 20000 in
theorem gX6_ofClass_X6_place : GoodIn wsX6_ofClass (va_wsS RX6 33 yX6_place wsX6_place) := goodIn_app (goodIn_of _ (by decide +kernel)) ggX6_ofClass_X6_place
theorem dX6_ofClass_0 : decode cX6_ofClass 0 = .ok (.iconst 0, 1) := by decide +kernel
theorem dX6_ofClass_1 : decode cX6_ofClass 1 = .ok (.istore_n 3, 1) := by decide +kernel
theorem dX6_ofClass_2 : decode cX6_ofClass 2 = .ok (.iconst 0, 1) := by decide +kernel
theorem dX6_ofClass_3 : decode cX6_ofClass 3 = .ok (.istore 4, 2) := by decide +kernel
theorem dX6_ofClass_5 : decode cX6_ofClass 5 = .ok (.iload 4, 2) := by decide +kernel
theorem dX6_ofClass_7 : decode cX6_ofClass 7 = .ok (.bipush 12, 2) := by decide +kernel
theorem dX6_ofClass_9 : decode cX6_ofClass 9 = .ok (.if_icmp .ge 24, 3) := by decide +kernel
theorem dX6_ofClass_12 : decode cX6_ofClass 12 = .ok (.iload_n 3, 1) := by decide +kernel
theorem dX6_ofClass_13 : decode cX6_ofClass 13 = .ok (.aload_n 0, 1) := by decide +kernel
theorem dX6_ofClass_14 : decode cX6_ofClass 14 = .ok (.getfield 7, 3) := by decide +kernel
theorem dX6_ofClass_17 : decode cX6_ofClass 17 = .ok (.iload_n 1, 1) := by decide +kernel
theorem dX6_ofClass_18 : decode cX6_ofClass 18 = .ok (.iload 4, 2) := by decide +kernel
theorem dX6_ofClass_20 : decode cX6_ofClass 20 = .ok (.iload_n 2, 1) := by decide +kernel
theorem dX6_ofClass_21 : decode cX6_ofClass 21 = .ok (.invokestatic 33, 3) := by decide +kernel
theorem dX6_ofClass_24 : decode cX6_ofClass 24 = .ok (.iaload, 1) := by decide +kernel
theorem dX6_ofClass_25 : decode cX6_ofClass 25 = .ok (.iadd, 1) := by decide +kernel
theorem dX6_ofClass_26 : decode cX6_ofClass 26 = .ok (.istore_n 3, 1) := by decide +kernel
theorem dX6_ofClass_27 : decode cX6_ofClass 27 = .ok (.iinc 4 1, 3) := by decide +kernel
theorem dX6_ofClass_30 : decode cX6_ofClass 30 = .ok (.goto (-25), 3) := by decide +kernel
theorem dX6_ofClass_33 : decode cX6_ofClass 33 = .ok (.iload_n 3, 1) := by decide +kernel
theorem dX6_ofClass_34 : decode cX6_ofClass 34 = .ok (.ireturn, 1) := by decide +kernel
set_option maxRecDepth 20000 in
theorem ggX6_inJar_X6_inSlice : GoodIn wsX6_inJar wsX6_inSlice := goodIn_r _ [5, 6, 7, 8, 4, 9, 10, 11, 12, 13, 14, 15, 16, 17, 18, 19, 20, 21] (by decide +kernel) (by decide +kernel)
set_option maxRecDepth 20000 in
theorem gX6_inJar_X6_inSlice : GoodIn wsX6_inJar (wsV RX6 37 RX6 yX6_inSlice wsX6_inSlice) := goodIn_app (goodIn_of _ (by decide +kernel)) ggX6_inJar_X6_inSlice
theorem dX6_inJar_0 : decode cX6_inJar 0 = .ok (.iconst 0, 1) := by decide +kernel
theorem dX6_inJar_1 : decode cX6_inJar 1 = .ok (.istore_n 2, 1) := by decide +kernel
theorem dX6_inJar_2 : decode cX6_inJar 2 = .ok (.iconst 0, 1) := by decide +kernel
theorem dX6_inJar_3 : decode cX6_inJar 3 = .ok (.istore_n 3, 1) := by decide +kernel
theorem dX6_inJar_4 : decode cX6_inJar 4 = .ok (.iload_n 3, 1) := by decide +kernel
theorem dX6_inJar_5 : decode cX6_inJar 5 = .ok (.bipush 12, 2) := by decide +kernel
theorem dX6_inJar_7 : decode cX6_inJar 7 = .ok (.if_icmp .ge 18, 3) := by decide +kernel
theorem dX6_inJar_10 : decode cX6_inJar 10 = .ok (.iload_n 2, 1) := by decide +kernel
theorem dX6_inJar_11 : decode cX6_inJar 11 = .ok (.aload_n 0, 1) := by decide +kernel
theorem dX6_inJar_12 : decode cX6_inJar 12 = .ok (.iload_n 1, 1) := by decide +kernel
theorem dX6_inJar_13 : decode cX6_inJar 13 = .ok (.iload_n 3, 1) := by decide +kernel
theorem dX6_inJar_14 : decode cX6_inJar 14 = .ok (.invokevirtual 37, 3) := by decide +kernel
theorem dX6_inJar_17 : decode cX6_inJar 17 = .ok (.iadd, 1) := by decide +kernel
theorem dX6_inJar_18 : decode cX6_inJar 18 = .ok (.istore_n 2, 1) := by decide +kernel
theorem dX6_inJar_19 : decode cX6_inJar 19 = .ok (.iinc 3 1, 3) := by decide +kernel
theorem dX6_inJar_22 : decode cX6_inJar 22 = .ok (.goto (-18), 3) := by decide +kernel
theorem dX6_inJar_25 : decode cX6_inJar 25 = .ok (.iload_n 2, 1) := by decide +kernel
theorem dX6_inJar_26 : decode cX6_inJar 26 = .ok (.ireturn, 1) := by decide +kernel
set_option maxRecDepth 20000 in
theorem ggX6_factor_X6_inSlice : GoodIn wsX6_factor wsX6_inSlice := goodIn_r _ [6, 7, 8, 9, 5, 10, 15, 16, 17, 18, 19, 20, 21, 22, 23, 24, 25, 26] (by decide +kernel) (by decide +kernel)
set_option maxRecDepth 20000 in
theorem gX6_factor_X6_inSlice : GoodIn wsX6_factor (wsV RX6 37 RX6 yX6_inSlice wsX6_inSlice) := goodIn_app (goodIn_of _ (by decide +kernel)) ggX6_factor_X6_inSlice
set_option maxRecDepth 20000 in
theorem ggX6_factor_X6_of : GoodIn wsX6_factor wsX6_of := goodIn_r _ [14, 7, 15, 16, 17, 18, 19, 20, 21, 22, 23, 24, 25, 26] (by decide +kernel) (by decide +kernel)
set_option maxRecDepth 20000 in
theorem gX6_factor_X6_of : GoodIn wsX6_factor (wsV RX6 42 RX6 yX6_of wsX6_of) := goodIn_app (goodIn_of _ (by decide +kernel)) ggX6_factor_X6_of
theorem dX6_factor_0 : decode cX6_factor 0 = .ok (.ldc 41, 2) := by decide +kernel
theorem dX6_factor_2 : decode cX6_factor 2 = .ok (.sipush 1000, 3) := by decide +kernel
theorem dX6_factor_5 : decode cX6_factor 5 = .ok (.aload_n 0, 1) := by decide +kernel
theorem dX6_factor_6 : decode cX6_factor 6 = .ok (.iload_n 1, 1) := by decide +kernel
theorem dX6_factor_7 : decode cX6_factor 7 = .ok (.iload_n 2, 1) := by decide +kernel
theorem dX6_factor_8 : decode cX6_factor 8 = .ok (.invokevirtual 37, 3) := by decide +kernel
theorem dX6_factor_11 : decode cX6_factor 11 = .ok (.aload_n 0, 1) := by decide +kernel
theorem dX6_factor_12 : decode cX6_factor 12 = .ok (.iconst 0, 1) := by decide +kernel
theorem dX6_factor_13 : decode cX6_factor 13 = .ok (.invokevirtual 42, 3) := by decide +kernel
theorem dX6_factor_16 : decode cX6_factor 16 = .ok (.imul, 1) := by decide +kernel
theorem dX6_factor_17 : decode cX6_factor 17 = .ok (.bipush 10, 2) := by decide +kernel
theorem dX6_factor_19 : decode cX6_factor 19 = .ok (.idiv, 1) := by decide +kernel
theorem dX6_factor_20 : decode cX6_factor 20 = .ok (.iadd, 1) := by decide +kernel
theorem dX6_factor_21 : decode cX6_factor 21 = .ok (.idiv, 1) := by decide +kernel
theorem dX6_factor_22 : decode cX6_factor 22 = .ok (.ireturn, 1) := by decide +kernel
set_option maxRecDepth 20000 in
theorem ggX6_room_X6_of : GoodIn wsX6_room wsX6_of := goodIn_r _ [5, 6, 14, 15, 16, 17, 18, 19, 20, 21, 22, 23, 24, 25] (by decide +kernel) (by decide +kernel)
set_option maxRecDepth 20000 in
theorem gX6_room_X6_of : GoodIn wsX6_room (wsV RX6 42 RX6 yX6_of wsX6_of) := goodIn_app (goodIn_of _ (by decide +kernel)) ggX6_room_X6_of
set_option maxRecDepth 20000 in
theorem ggX6_room_X6_inSlice : GoodIn wsX6_room wsX6_inSlice := goodIn_r _ [10, 6, 11, 12, 4, 13, 14, 15, 16, 17, 18, 19, 20, 21, 22, 23, 24, 25] (by decide +kernel) (by decide +kernel)
set_option maxRecDepth 20000 in
theorem gX6_room_X6_inSlice : GoodIn wsX6_room (wsV RX6 37 RX6 yX6_inSlice wsX6_inSlice) := goodIn_app (goodIn_of _ (by decide +kernel)) ggX6_room_X6_inSlice
theorem dX6_room_0 : decode cX6_room 0 = .ok (.aload_n 0, 1) := by decide +kernel
theorem dX6_room_1 : decode cX6_room 1 = .ok (.iconst 1, 1) := by decide +kernel
theorem dX6_room_2 : decode cX6_room 2 = .ok (.invokevirtual 42, 3) := by decide +kernel
theorem dX6_room_5 : decode cX6_room 5 = .ok (.aload_n 0, 1) := by decide +kernel
theorem dX6_room_6 : decode cX6_room 6 = .ok (.iload_n 1, 1) := by decide +kernel
theorem dX6_room_7 : decode cX6_room 7 = .ok (.iload_n 2, 1) := by decide +kernel
theorem dX6_room_8 : decode cX6_room 8 = .ok (.invokevirtual 37, 3) := by decide +kernel
theorem dX6_room_11 : decode cX6_room 11 = .ok (.isub, 1) := by decide +kernel
theorem dX6_room_12 : decode cX6_room 12 = .ok (.istore_n 3, 1) := by decide +kernel
theorem dX6_room_13 : decode cX6_room 13 = .ok (.iload_n 3, 1) := by decide +kernel
theorem dX6_room_14 : decode cX6_room 14 = .ok (.ifCond .ge 7, 3) := by decide +kernel
theorem dX6_room_17 : decode cX6_room 17 = .ok (.iconst 0, 1) := by decide +kernel
theorem dX6_room_18 : decode cX6_room 18 = .ok (.goto 4, 3) := by decide +kernel
theorem dX6_room_21 : decode cX6_room 21 = .ok (.iload_n 3, 1) := by decide +kernel
theorem dX6_room_22 : decode cX6_room 22 = .ok (.ireturn, 1) := by decide +kernel
set_option maxRecDepth 20000 in
theorem ggX6_wish_X6_place : GoodIn wsX6_wish wsX6_place := goodIn_r _ [6] (by decide +kernel) (by decide +kernel)
set_option maxRecDepth 20000 in
theorem gX6_wish_X6_place : GoodIn wsX6_wish (va_wsS RX6 33 yX6_place wsX6_place) := goodIn_app (goodIn_of _ (by decide +kernel)) ggX6_wish_X6_place
set_option maxRecDepth 20000 in
theorem ggX6_wish_X6_of : GoodIn wsX6_wish wsX6_of := goodIn_r _ [10, 1, 11, 12, 13, 14, 15, 16, 17, 18, 19, 20, 21, 22] (by decide +kernel) (by decide +kernel)
set_option maxRecDepth 20000 in
theorem gX6_wish_X6_of : GoodIn wsX6_wish (wsV RX6 42 RX6 yX6_of wsX6_of) := goodIn_app (goodIn_of _ (by decide +kernel)) ggX6_wish_X6_of
theorem dX6_wish_0 : decode cX6_wish 0 = .ok (.aload_n 0, 1) := by decide +kernel
theorem dX6_wish_1 : decode cX6_wish 1 = .ok (.getfield 7, 3) := by decide +kernel
theorem dX6_wish_4 : decode cX6_wish 4 = .ok (.iload_n 1, 1) := by decide +kernel
theorem dX6_wish_5 : decode cX6_wish 5 = .ok (.iload_n 2, 1) := by decide +kernel
theorem dX6_wish_6 : decode cX6_wish 6 = .ok (.iload_n 3, 1) := by decide +kernel
theorem dX6_wish_7 : decode cX6_wish 7 = .ok (.invokestatic 33, 3) := by decide +kernel
theorem dX6_wish_10 : decode cX6_wish 10 = .ok (.iaload, 1) := by decide +kernel
theorem dX6_wish_11 : decode cX6_wish 11 = .ok (.istore 5, 2) := by decide +kernel
theorem dX6_wish_13 : decode cX6_wish 13 = .ok (.iload 5, 2) := by decide +kernel
theorem dX6_wish_15 : decode cX6_wish 15 = .ok (.aload_n 0, 1) := by decide +kernel
theorem dX6_wish_16 : decode cX6_wish 16 = .ok (.getfield 7, 3) := by decide +kernel
theorem dX6_wish_19 : decode cX6_wish 19 = .ok (.sipush 148, 3) := by decide +kernel
theorem dX6_wish_22 : decode cX6_wish 22 = .ok (.iload_n 3, 1) := by decide +kernel
theorem dX6_wish_23 : decode cX6_wish 23 = .ok (.iadd, 1) := by decide +kernel
theorem dX6_wish_24 : decode cX6_wish 24 = .ok (.iaload, 1) := by decide +kernel
theorem dX6_wish_25 : decode cX6_wish 25 = .ok (.imul, 1) := by decide +kernel
theorem dX6_wish_26 : decode cX6_wish 26 = .ok (.iload 4, 2) := by decide +kernel
theorem dX6_wish_28 : decode cX6_wish 28 = .ok (.imul, 1) := by decide +kernel
theorem dX6_wish_29 : decode cX6_wish 29 = .ok (.ldc 46, 2) := by decide +kernel
theorem dX6_wish_31 : decode cX6_wish 31 = .ok (.idiv, 1) := by decide +kernel
theorem dX6_wish_32 : decode cX6_wish 32 = .ok (.istore 6, 2) := by decide +kernel
theorem dX6_wish_34 : decode cX6_wish 34 = .ok (.iload 6, 2) := by decide +kernel
theorem dX6_wish_36 : decode cX6_wish 36 = .ok (.ifCond .ne 17, 3) := by decide +kernel
theorem dX6_wish_39 : decode cX6_wish 39 = .ok (.iload 5, 2) := by decide +kernel
theorem dX6_wish_41 : decode cX6_wish 41 = .ok (.aload_n 0, 1) := by decide +kernel
theorem dX6_wish_42 : decode cX6_wish 42 = .ok (.iconst 3, 1) := by decide +kernel
theorem dX6_wish_43 : decode cX6_wish 43 = .ok (.invokevirtual 42, 3) := by decide +kernel
theorem dX6_wish_46 : decode cX6_wish 46 = .ok (.if_icmp .le 7, 3) := by decide +kernel
theorem dX6_wish_49 : decode cX6_wish 49 = .ok (.iconst 1, 1) := by decide +kernel
theorem dX6_wish_50 : decode cX6_wish 50 = .ok (.goto 5, 3) := by decide +kernel
theorem dX6_wish_53 : decode cX6_wish 53 = .ok (.iload 6, 2) := by decide +kernel
theorem dX6_wish_55 : decode cX6_wish 55 = .ok (.istore 6, 2) := by decide +kernel
theorem dX6_wish_57 : decode cX6_wish 57 = .ok (.iload 6, 2) := by decide +kernel
theorem dX6_wish_59 : decode cX6_wish 59 = .ok (.iload 5, 2) := by decide +kernel
theorem dX6_wish_61 : decode cX6_wish 61 = .ok (.if_icmp .ge 8, 3) := by decide +kernel
theorem dX6_wish_64 : decode cX6_wish 64 = .ok (.iload 6, 2) := by decide +kernel
theorem dX6_wish_66 : decode cX6_wish 66 = .ok (.goto 5, 3) := by decide +kernel
theorem dX6_wish_69 : decode cX6_wish 69 = .ok (.iload 5, 2) := by decide +kernel
theorem dX6_wish_71 : decode cX6_wish 71 = .ok (.ireturn, 1) := by decide +kernel
set_option maxRecDepth 20000 in
theorem ggX6_fallFrom_X6_factor : GoodIn wsX6_fallFrom wsX6_factor := goodIn_r _ [6, 7, 8, 9, 10, 5, 11, 1, 12, 13, 14, 15, 16, 17, 18, 28, 29, 30, 31, 32, 33, 34, 35, 36, 37, 38, 39] (by decide +kernel) (by decide +kernel)
set_option maxRecDepth 20000 in
theorem gX6_fallFrom_X6_factor : GoodIn wsX6_fallFrom (wsV RX6 47 RX6 yX6_factor wsX6_factor) := goodIn_app (goodIn_of _ (by decide +kernel)) ggX6_fallFrom_X6_factor
set_option maxRecDepth 20000 in
theorem ggX6_fallFrom_X6_wish : GoodIn wsX6_fallFrom wsX6_wish := goodIn_r _ [22, 1, 23, 12, 13, 5, 14, 15, 16, 17, 18, 28, 29, 30, 31, 32, 33, 34, 35, 36, 37, 38, 39] (by decide +kernel) (by decide +kernel)
set_option maxRecDepth 20000 in
theorem gX6_fallFrom_X6_wish : GoodIn wsX6_fallFrom (wsV RX6 50 RX6 yX6_wish wsX6_wish) := goodIn_app (goodIn_of _ (by decide +kernel)) ggX6_fallFrom_X6_wish
set_option maxRecDepth 20000 in
theorem ggX6_fallFrom_X6_room : GoodIn wsX6_fallFrom wsX6_room := goodIn_r _ [27, 15, 16, 17, 5, 18, 1, 8, 9, 10, 11, 12, 13, 14, 28, 29, 30, 31, 32, 33, 34, 35, 36, 37, 38, 39] (by decide +kernel) (by decide +kernel)
set_option maxRecDepth 20000 in
theorem gX6_fallFrom_X6_room : GoodIn wsX6_fallFrom (wsV RX6 54 RX6 yX6_room wsX6_room) := goodIn_app (goodIn_of _ (by decide +kernel)) ggX6_fallFrom_X6_room
set_option maxRecDepth 20000 in
theorem ggX6_fallFrom_X6_place : GoodIn wsX6_fallFrom wsX6_place := goodIn_r _ [14] (by decide +kernel) (by decide +kernel)
set_option maxRecDepth 20000 in
theorem gX6_fallFrom_X6_place : GoodIn wsX6_fallFrom (va_wsS RX6 33 yX6_place wsX6_place) := goodIn_app (goodIn_of _ (by decide +kernel)) ggX6_fallFrom_X6_place
theorem dX6_fallFrom_0 : decode cX6_fallFrom 0 = .ok (.aload_n 0, 1) := by decide +kernel
theorem dX6_fallFrom_1 : decode cX6_fallFrom 1 = .ok (.iload_n 1, 1) := by decide +kernel
theorem dX6_fallFrom_2 : decode cX6_fallFrom 2 = .ok (.iload_n 2, 1) := by decide +kernel
theorem dX6_fallFrom_3 : decode cX6_fallFrom 3 = .ok (.invokevirtual 47, 3) := by decide +kernel
theorem dX6_fallFrom_6 : decode cX6_fallFrom 6 = .ok (.istore_n 3, 1) := by decide +kernel
theorem dX6_fallFrom_7 : decode cX6_fallFrom 7 = .ok (.iconst 0, 1) := by decide +kernel
theorem dX6_fallFrom_8 : decode cX6_fallFrom 8 = .ok (.istore 4, 2) := by decide +kernel
theorem dX6_fallFrom_10 : decode cX6_fallFrom 10 = .ok (.iconst 0, 1) := by decide +kernel
theorem dX6_fallFrom_11 : decode cX6_fallFrom 11 = .ok (.istore 5, 2) := by decide +kernel
theorem dX6_fallFrom_13 : decode cX6_fallFrom 13 = .ok (.iload 5, 2) := by decide +kernel
theorem dX6_fallFrom_15 : decode cX6_fallFrom 15 = .ok (.iconst 4, 1) := by decide +kernel
theorem dX6_fallFrom_16 : decode cX6_fallFrom 16 = .ok (.if_icmp .ge 89, 3) := by decide +kernel
theorem dX6_fallFrom_19 : decode cX6_fallFrom 19 = .ok (.aload_n 0, 1) := by decide +kernel
theorem dX6_fallFrom_20 : decode cX6_fallFrom 20 = .ok (.iload_n 1, 1) := by decide +kernel
theorem dX6_fallFrom_21 : decode cX6_fallFrom 21 = .ok (.iload_n 2, 1) := by decide +kernel
theorem dX6_fallFrom_22 : decode cX6_fallFrom 22 = .ok (.iload 5, 2) := by decide +kernel
theorem dX6_fallFrom_24 : decode cX6_fallFrom 24 = .ok (.iload_n 3, 1) := by decide +kernel
theorem dX6_fallFrom_25 : decode cX6_fallFrom 25 = .ok (.invokevirtual 50, 3) := by decide +kernel
theorem dX6_fallFrom_28 : decode cX6_fallFrom 28 = .ok (.istore 6, 2) := by decide +kernel
theorem dX6_fallFrom_30 : decode cX6_fallFrom 30 = .ok (.aload_n 0, 1) := by decide +kernel
theorem dX6_fallFrom_31 : decode cX6_fallFrom 31 = .ok (.iload_n 1, 1) := by decide +kernel
theorem dX6_fallFrom_32 : decode cX6_fallFrom 32 = .ok (.iload_n 2, 1) := by decide +kernel
theorem dX6_fallFrom_33 : decode cX6_fallFrom 33 = .ok (.iconst 1, 1) := by decide +kernel
theorem dX6_fallFrom_34 : decode cX6_fallFrom 34 = .ok (.iadd, 1) := by decide +kernel
theorem dX6_fallFrom_35 : decode cX6_fallFrom 35 = .ok (.invokevirtual 54, 3) := by decide +kernel
theorem dX6_fallFrom_38 : decode cX6_fallFrom 38 = .ok (.istore 7, 2) := by decide +kernel
theorem dX6_fallFrom_40 : decode cX6_fallFrom 40 = .ok (.iload 6, 2) := by decide +kernel
theorem dX6_fallFrom_42 : decode cX6_fallFrom 42 = .ok (.iload 7, 2) := by decide +kernel
theorem dX6_fallFrom_44 : decode cX6_fallFrom 44 = .ok (.if_icmp .ge 8, 3) := by decide +kernel
theorem dX6_fallFrom_47 : decode cX6_fallFrom 47 = .ok (.iload 6, 2) := by decide +kernel
theorem dX6_fallFrom_49 : decode cX6_fallFrom 49 = .ok (.goto 5, 3) := by decide +kernel
theorem dX6_fallFrom_52 : decode cX6_fallFrom 52 = .ok (.iload 7, 2) := by decide +kernel
theorem dX6_fallFrom_54 : decode cX6_fallFrom 54 = .ok (.istore 6, 2) := by decide +kernel
theorem dX6_fallFrom_56 : decode cX6_fallFrom 56 = .ok (.aload_n 0, 1) := by decide +kernel
theorem dX6_fallFrom_57 : decode cX6_fallFrom 57 = .ok (.getfield 7, 3) := by decide +kernel
theorem dX6_fallFrom_60 : decode cX6_fallFrom 60 = .ok (.iload_n 1, 1) := by decide +kernel
theorem dX6_fallFrom_61 : decode cX6_fallFrom 61 = .ok (.iload_n 2, 1) := by decide +kernel
theorem dX6_fallFrom_62 : decode cX6_fallFrom 62 = .ok (.iload 5, 2) := by decide +kernel
theorem dX6_fallFrom_64 : decode cX6_fallFrom 64 = .ok (.invokestatic 33, 3) := by decide +kernel
theorem dX6_fallFrom_67 : decode cX6_fallFrom 67 = .ok (.dup2, 1) := by decide +kernel
theorem dX6_fallFrom_68 : decode cX6_fallFrom 68 = .ok (.iaload, 1) := by decide +kernel
theorem dX6_fallFrom_69 : decode cX6_fallFrom 69 = .ok (.iload 6, 2) := by decide +kernel
theorem dX6_fallFrom_71 : decode cX6_fallFrom 71 = .ok (.isub, 1) := by decide +kernel
theorem dX6_fallFrom_72 : decode cX6_fallFrom 72 = .ok (.iastore, 1) := by decide +kernel
theorem dX6_fallFrom_73 : decode cX6_fallFrom 73 = .ok (.aload_n 0, 1) := by decide +kernel
theorem dX6_fallFrom_74 : decode cX6_fallFrom 74 = .ok (.getfield 7, 3) := by decide +kernel
theorem dX6_fallFrom_77 : decode cX6_fallFrom 77 = .ok (.iload_n 1, 1) := by decide +kernel
theorem dX6_fallFrom_78 : decode cX6_fallFrom 78 = .ok (.iload_n 2, 1) := by decide +kernel
theorem dX6_fallFrom_79 : decode cX6_fallFrom 79 = .ok (.iconst 1, 1) := by decide +kernel
theorem dX6_fallFrom_80 : decode cX6_fallFrom 80 = .ok (.iadd, 1) := by decide +kernel
theorem dX6_fallFrom_81 : decode cX6_fallFrom 81 = .ok (.iload 5, 2) := by decide +kernel
theorem dX6_fallFrom_83 : decode cX6_fallFrom 83 = .ok (.invokestatic 33, 3) := by decide +kernel
theorem dX6_fallFrom_86 : decode cX6_fallFrom 86 = .ok (.dup2, 1) := by decide +kernel
theorem dX6_fallFrom_87 : decode cX6_fallFrom 87 = .ok (.iaload, 1) := by decide +kernel
theorem dX6_fallFrom_88 : decode cX6_fallFrom 88 = .ok (.iload 6, 2) := by decide +kernel
theorem dX6_fallFrom_90 : decode cX6_fallFrom 90 = .ok (.iadd, 1) := by decide +kernel
theorem dX6_fallFrom_91 : decode cX6_fallFrom 91 = .ok (.iastore, 1) := by decide +kernel
theorem dX6_fallFrom_92 : decode cX6_fallFrom 92 = .ok (.iload 4, 2) := by decide +kernel
theorem dX6_fallFrom_94 : decode cX6_fallFrom 94 = .ok (.iload 6, 2) := by decide +kernel
theorem dX6_fallFrom_96 : decode cX6_fallFrom 96 = .ok (.iadd, 1) := by decide +kernel
theorem dX6_fallFrom_97 : decode cX6_fallFrom 97 = .ok (.istore 4, 2) := by decide +kernel
theorem dX6_fallFrom_99 : decode cX6_fallFrom 99 = .ok (.iinc 5 1, 3) := by decide +kernel
theorem dX6_fallFrom_102 : decode cX6_fallFrom 102 = .ok (.goto (-89), 3) := by decide +kernel
theorem dX6_fallFrom_105 : decode cX6_fallFrom 105 = .ok (.iload 4, 2) := by decide +kernel
theorem dX6_fallFrom_107 : decode cX6_fallFrom 107 = .ok (.ireturn, 1) := by decide +kernel
set_option maxRecDepth 20000 in
theorem ggX6_stepOf_X6_fallFrom : GoodIn wsX6_stepOf wsX6_fallFrom := goodIn_r _ [5, 6, 7, 8, 9, 4, 10, 11, 12, 13, 14, 15, 16, 17, 18, 19, 20, 21, 22, 23, 24, 25, 26, 27, 28, 29, 30, 31, 32, 33, 34, 35, 36, 37, 38, 39, 40, 41, 42, 43] (by decide +kernel) (by decide +kernel)
set_option maxRecDepth 20000 in
theorem gX6_stepOf_X6_fallFrom : GoodIn wsX6_stepOf (wsV RX6 57 RX6 yX6_fallFrom wsX6_fallFrom) := goodIn_app (goodIn_of _ (by decide +kernel)) ggX6_stepOf_X6_fallFrom
theorem dX6_stepOf_0 : decode cX6_stepOf 0 = .ok (.iconst 0, 1) := by decide +kernel
theorem dX6_stepOf_1 : decode cX6_stepOf 1 = .ok (.istore_n 2, 1) := by decide +kernel
theorem dX6_stepOf_2 : decode cX6_stepOf 2 = .ok (.bipush 10, 2) := by decide +kernel
theorem dX6_stepOf_4 : decode cX6_stepOf 4 = .ok (.istore_n 3, 1) := by decide +kernel
theorem dX6_stepOf_5 : decode cX6_stepOf 5 = .ok (.iload_n 3, 1) := by decide +kernel
theorem dX6_stepOf_6 : decode cX6_stepOf 6 = .ok (.ifCond .lt 18, 3) := by decide +kernel
theorem dX6_stepOf_9 : decode cX6_stepOf 9 = .ok (.iload_n 2, 1) := by decide +kernel
theorem dX6_stepOf_10 : decode cX6_stepOf 10 = .ok (.aload_n 0, 1) := by decide +kernel
theorem dX6_stepOf_11 : decode cX6_stepOf 11 = .ok (.iload_n 1, 1) := by decide +kernel
theorem dX6_stepOf_12 : decode cX6_stepOf 12 = .ok (.iload_n 3, 1) := by decide +kernel
theorem dX6_stepOf_13 : decode cX6_stepOf 13 = .ok (.invokevirtual 57, 3) := by decide +kernel
theorem dX6_stepOf_16 : decode cX6_stepOf 16 = .ok (.iadd, 1) := by decide +kernel
theorem dX6_stepOf_17 : decode cX6_stepOf 17 = .ok (.istore_n 2, 1) := by decide +kernel
theorem dX6_stepOf_18 : decode cX6_stepOf 18 = .ok (.iinc 3 (-1), 3) := by decide +kernel
theorem dX6_stepOf_21 : decode cX6_stepOf 21 = .ok (.goto (-16), 3) := by decide +kernel
theorem dX6_stepOf_24 : decode cX6_stepOf 24 = .ok (.iload_n 2, 1) := by decide +kernel
theorem dX6_stepOf_25 : decode cX6_stepOf 25 = .ok (.ireturn, 1) := by decide +kernel
theorem dX6_keepAside_0 : decode cX6_keepAside 0 = .ok (.iconst 0, 1) := by decide +kernel
theorem dX6_keepAside_1 : decode cX6_keepAside 1 = .ok (.istore_n 1, 1) := by decide +kernel
theorem dX6_keepAside_2 : decode cX6_keepAside 2 = .ok (.iload_n 1, 1) := by decide +kernel
theorem dX6_keepAside_3 : decode cX6_keepAside 3 = .ok (.sipush 162, 3) := by decide +kernel
theorem dX6_keepAside_6 : decode cX6_keepAside 6 = .ok (.if_icmp .ge 21, 3) := by decide +kernel
theorem dX6_keepAside_9 : decode cX6_keepAside 9 = .ok (.aload_n 0, 1) := by decide +kernel
theorem dX6_keepAside_10 : decode cX6_keepAside 10 = .ok (.getfield 19, 3) := by decide +kernel
theorem dX6_keepAside_13 : decode cX6_keepAside 13 = .ok (.iload_n 1, 1) := by decide +kernel
theorem dX6_keepAside_14 : decode cX6_keepAside 14 = .ok (.aload_n 0, 1) := by decide +kernel
theorem dX6_keepAside_15 : decode cX6_keepAside 15 = .ok (.getfield 7, 3) := by decide +kernel
theorem dX6_keepAside_18 : decode cX6_keepAside 18 = .ok (.iload_n 1, 1) := by decide +kernel
theorem dX6_keepAside_19 : decode cX6_keepAside 19 = .ok (.iaload, 1) := by decide +kernel
theorem dX6_keepAside_20 : decode cX6_keepAside 20 = .ok (.iastore, 1) := by decide +kernel
theorem dX6_keepAside_21 : decode cX6_keepAside 21 = .ok (.iinc 1 1, 3) := by decide +kernel
theorem dX6_keepAside_24 : decode cX6_keepAside 24 = .ok (.goto (-22), 3) := by decide +kernel
theorem dX6_keepAside_27 : decode cX6_keepAside 27 = .ok (.return_, 1) := by decide +kernel
theorem dX6_takeBack_0 : decode cX6_takeBack 0 = .ok (.iconst 0, 1) := by decide +kernel
theorem dX6_takeBack_1 : decode cX6_takeBack 1 = .ok (.istore_n 1, 1) := by decide +kernel
theorem dX6_takeBack_2 : decode cX6_takeBack 2 = .ok (.iload_n 1, 1) := by decide +kernel
theorem dX6_takeBack_3 : decode cX6_takeBack 3 = .ok (.sipush 162, 3) := by decide +kernel
theorem dX6_takeBack_6 : decode cX6_takeBack 6 = .ok (.if_icmp .ge 21, 3) := by decide +kernel
theorem dX6_takeBack_9 : decode cX6_takeBack 9 = .ok (.aload_n 0, 1) := by decide +kernel
theorem dX6_takeBack_10 : decode cX6_takeBack 10 = .ok (.getfield 7, 3) := by decide +kernel
theorem dX6_takeBack_13 : decode cX6_takeBack 13 = .ok (.iload_n 1, 1) := by decide +kernel
theorem dX6_takeBack_14 : decode cX6_takeBack 14 = .ok (.aload_n 0, 1) := by decide +kernel
theorem dX6_takeBack_15 : decode cX6_takeBack 15 = .ok (.getfield 19, 3) := by decide +kernel
theorem dX6_takeBack_18 : decode cX6_takeBack 18 = .ok (.iload_n 1, 1) := by decide +kernel
theorem dX6_takeBack_19 : decode cX6_takeBack 19 = .ok (.iaload, 1) := by decide +kernel
theorem dX6_takeBack_20 : decode cX6_takeBack 20 = .ok (.iastore, 1) := by decide +kernel
theorem dX6_takeBack_21 : decode cX6_takeBack 21 = .ok (.iinc 1 1, 3) := by decide +kernel
theorem dX6_takeBack_24 : decode cX6_takeBack 24 = .ok (.goto (-22), 3) := by decide +kernel
theorem dX6_takeBack_27 : decode cX6_takeBack 27 = .ok (.return_, 1) := by decide +kernel
set_option maxRecDepth 20000 in
theorem ggX6_isPacked_X6_inSlice : GoodIn wsX6_isPacked wsX6_inSlice := goodIn_r _ [5, 6, 7, 8, 4, 9, 14, 15, 16, 17, 18, 19, 20, 21, 22, 23, 24, 25] (by decide +kernel) (by decide +kernel)
set_option maxRecDepth 20000 in
theorem gX6_isPacked_X6_inSlice : GoodIn wsX6_isPacked (wsV RX6 37 RX6 yX6_inSlice wsX6_inSlice) := goodIn_app (goodIn_of _ (by decide +kernel)) ggX6_isPacked_X6_inSlice
set_option maxRecDepth 20000 in
theorem ggX6_isPacked_X6_of : GoodIn wsX6_isPacked wsX6_of := goodIn_r _ [13, 6, 14, 15, 16, 17, 18, 19, 20, 21, 22, 23, 24, 25] (by decide +kernel) (by decide +kernel)
set_option maxRecDepth 20000 in
theorem gX6_isPacked_X6_of : GoodIn wsX6_isPacked (wsV RX6 42 RX6 yX6_of wsX6_of) := goodIn_app (goodIn_of _ (by decide +kernel)) ggX6_isPacked_X6_of
theorem dX6_isPacked_0 : decode cX6_isPacked 0 = .ok (.aload_n 0, 1) := by decide +kernel
theorem dX6_isPacked_1 : decode cX6_isPacked 1 = .ok (.iload_n 1, 1) := by decide +kernel
theorem dX6_isPacked_2 : decode cX6_isPacked 2 = .ok (.iload_n 2, 1) := by decide +kernel
theorem dX6_isPacked_3 : decode cX6_isPacked 3 = .ok (.invokevirtual 37, 3) := by decide +kernel
theorem dX6_isPacked_6 : decode cX6_isPacked 6 = .ok (.aload_n 0, 1) := by decide +kernel
theorem dX6_isPacked_7 : decode cX6_isPacked 7 = .ok (.iconst 1, 1) := by decide +kernel
theorem dX6_isPacked_8 : decode cX6_isPacked 8 = .ok (.invokevirtual 42, 3) := by decide +kernel
theorem dX6_isPacked_11 : decode cX6_isPacked 11 = .ok (.if_icmp .lt 7, 3) := by decide +kernel
theorem dX6_isPacked_14 : decode cX6_isPacked 14 = .ok (.iconst 1, 1) := by decide +kernel
theorem dX6_isPacked_15 : decode cX6_isPacked 15 = .ok (.goto 4, 3) := by decide +kernel
theorem dX6_isPacked_18 : decode cX6_isPacked 18 = .ok (.iconst 0, 1) := by decide +kernel
theorem dX6_isPacked_19 : decode cX6_isPacked 19 = .ok (.ireturn, 1) := by decide +kernel
set_option maxRecDepth 20000 in
theorem ggX6_isClear_X6_inSlice : GoodIn wsX6_isClear wsX6_inSlice := goodIn_r _ [5, 6, 7, 8, 4, 9, 14, 15, 16, 17, 18, 19, 20, 21, 22, 23, 24, 25] (by decide +kernel) (by decide +kernel)
set_option maxRecDepth 20000 in
theorem gX6_isClear_X6_inSlice : GoodIn wsX6_isClear (wsV RX6 37 RX6 yX6_inSlice wsX6_inSlice) := goodIn_app (goodIn_of _ (by decide +kernel)) ggX6_isClear_X6_inSlice
set_option maxRecDepth 20000 in
theorem ggX6_isClear_X6_of : GoodIn wsX6_isClear wsX6_of := goodIn_r _ [13, 6, 14, 15, 16, 17, 18, 19, 20, 21, 22, 23, 24, 25] (by decide +kernel) (by decide +kernel)
set_option maxRecDepth 20000 in
theorem gX6_isClear_X6_of : GoodIn wsX6_isClear (wsV RX6 42 RX6 yX6_of wsX6_of) := goodIn_app (goodIn_of _ (by decide +kernel)) ggX6_isClear_X6_of
theorem dX6_isClear_0 : decode cX6_isClear 0 = .ok (.aload_n 0, 1) := by decide +kernel
theorem dX6_isClear_1 : decode cX6_isClear 1 = .ok (.iload_n 1, 1) := by decide +kernel
theorem dX6_isClear_2 : decode cX6_isClear 2 = .ok (.iload_n 2, 1) := by decide +kernel
theorem dX6_isClear_3 : decode cX6_isClear 3 = .ok (.invokevirtual 37, 3) := by decide +kernel
theorem dX6_isClear_6 : decode cX6_isClear 6 = .ok (.aload_n 0, 1) := by decide +kernel
theorem dX6_isClear_7 : decode cX6_isClear 7 = .ok (.iconst 2, 1) := by decide +kernel
theorem dX6_isClear_8 : decode cX6_isClear 8 = .ok (.invokevirtual 42, 3) := by decide +kernel
theorem dX6_isClear_11 : decode cX6_isClear 11 = .ok (.if_icmp .gt 7, 3) := by decide +kernel
theorem dX6_isClear_14 : decode cX6_isClear 14 = .ok (.iconst 1, 1) := by decide +kernel
theorem dX6_isClear_15 : decode cX6_isClear 15 = .ok (.goto 4, 3) := by decide +kernel
theorem dX6_isClear_18 : decode cX6_isClear 18 = .ok (.iconst 0, 1) := by decide +kernel
theorem dX6_isClear_19 : decode cX6_isClear 19 = .ok (.ireturn, 1) := by decide +kernel
set_option maxRecDepth 20000 in
theorem ggX6_bed_X6_isPacked : GoodIn wsX6_bed wsX6_isPacked := goodIn_r _ [5, 6, 7, 8, 4, 9, 10, 11, 12, 13, 14, 15, 16, 17, 18, 19, 20, 21, 22, 23, 24, 25, 26, 27, 28, 29] (by decide +kernel) (by decide +kernel)
set_option maxRecDepth 20000 in
theorem gX6_bed_X6_isPacked : GoodIn wsX6_bed (wsV RX6 60 RX6 yX6_isPacked wsX6_isPacked) := goodIn_app (goodIn_of _ (by decide +kernel)) ggX6_bed_X6_isPacked
theorem dX6_bed_0 : decode cX6_bed 0 = .ok (.iconst 0, 1) := by decide +kernel
theorem dX6_bed_1 : decode cX6_bed 1 = .ok (.istore_n 2, 1) := by decide +kernel
theorem dX6_bed_2 : decode cX6_bed 2 = .ok (.iload_n 2, 1) := by decide +kernel
theorem dX6_bed_3 : decode cX6_bed 3 = .ok (.bipush 12, 2) := by decide +kernel
theorem dX6_bed_5 : decode cX6_bed 5 = .ok (.if_icmp .ge 21, 3) := by decide +kernel
theorem dX6_bed_8 : decode cX6_bed 8 = .ok (.aload_n 0, 1) := by decide +kernel
theorem dX6_bed_9 : decode cX6_bed 9 = .ok (.iload_n 1, 1) := by decide +kernel
theorem dX6_bed_10 : decode cX6_bed 10 = .ok (.bipush 11, 2) := by decide +kernel
theorem dX6_bed_12 : decode cX6_bed 12 = .ok (.iload_n 2, 1) := by decide +kernel
theorem dX6_bed_13 : decode cX6_bed 13 = .ok (.isub, 1) := by decide +kernel
theorem dX6_bed_14 : decode cX6_bed 14 = .ok (.invokevirtual 60, 3) := by decide +kernel
theorem dX6_bed_17 : decode cX6_bed 17 = .ok (.ifCond .eq 9, 3) := by decide +kernel
theorem dX6_bed_20 : decode cX6_bed 20 = .ok (.iinc 2 1, 3) := by decide +kernel
theorem dX6_bed_23 : decode cX6_bed 23 = .ok (.goto (-21), 3) := by decide +kernel
theorem dX6_bed_26 : decode cX6_bed 26 = .ok (.iload_n 2, 1) := by decide +kernel
theorem dX6_bed_27 : decode cX6_bed 27 = .ok (.ireturn, 1) := by decide +kernel
set_option maxRecDepth 20000 in
theorem ggX6_clearWater_X6_isClear : GoodIn wsX6_clearWater wsX6_isClear := goodIn_r _ [5, 6, 7, 8, 4, 9, 10, 11, 12, 13, 14, 15, 16, 17, 18, 19, 20, 21, 22, 23, 24, 25, 26, 27, 28, 29] (by decide +kernel) (by decide +kernel)
set_option maxRecDepth 20000 in
theorem gX6_clearWater_X6_isClear : GoodIn wsX6_clearWater (wsV RX6 64 RX6 yX6_isClear wsX6_isClear) := goodIn_app (goodIn_of _ (by decide +kernel)) ggX6_clearWater_X6_isClear
theorem dX6_clearWater_0 : decode cX6_clearWater 0 = .ok (.iconst 0, 1) := by decide +kernel
theorem dX6_clearWater_1 : decode cX6_clearWater 1 = .ok (.istore_n 2, 1) := by decide +kernel
theorem dX6_clearWater_2 : decode cX6_clearWater 2 = .ok (.iload_n 2, 1) := by decide +kernel
theorem dX6_clearWater_3 : decode cX6_clearWater 3 = .ok (.bipush 12, 2) := by decide +kernel
theorem dX6_clearWater_5 : decode cX6_clearWater 5 = .ok (.if_icmp .ge 18, 3) := by decide +kernel
theorem dX6_clearWater_8 : decode cX6_clearWater 8 = .ok (.aload_n 0, 1) := by decide +kernel
theorem dX6_clearWater_9 : decode cX6_clearWater 9 = .ok (.iload_n 1, 1) := by decide +kernel
theorem dX6_clearWater_10 : decode cX6_clearWater 10 = .ok (.iload_n 2, 1) := by decide +kernel
theorem dX6_clearWater_11 : decode cX6_clearWater 11 = .ok (.invokevirtual 64, 3) := by decide +kernel
theorem dX6_clearWater_14 : decode cX6_clearWater 14 = .ok (.ifCond .eq 9, 3) := by decide +kernel
theorem dX6_clearWater_17 : decode cX6_clearWater 17 = .ok (.iinc 2 1, 3) := by decide +kernel
theorem dX6_clearWater_20 : decode cX6_clearWater 20 = .ok (.goto (-18), 3) := by decide +kernel
theorem dX6_clearWater_23 : decode cX6_clearWater 23 = .ok (.iload_n 2, 1) := by decide +kernel
theorem dX6_clearWater_24 : decode cX6_clearWater 24 = .ok (.ireturn, 1) := by decide +kernel
set_option maxRecDepth 20000 in
theorem ggX6_leading_X6_place : GoodIn wsX6_leading wsX6_place := goodIn_r _ [5] (by decide +kernel) (by decide +kernel)
set_option maxRecDepth 20000 in
theorem gX6_leading_X6_place : GoodIn wsX6_leading (va_wsS RX6 33 yX6_place wsX6_place) := goodIn_app (goodIn_of _ (by decide +kernel)) ggX6_leading_X6_place
theorem dX6_leading_0 : decode cX6_leading 0 = .ok (.iconst (-1), 1) := by decide +kernel
theorem dX6_leading_1 : decode cX6_leading 1 = .ok (.istore_n 3, 1) := by decide +kernel
theorem dX6_leading_2 : decode cX6_leading 2 = .ok (.iconst 0, 1) := by decide +kernel
theorem dX6_leading_3 : decode cX6_leading 3 = .ok (.istore 4, 2) := by decide +kernel
theorem dX6_leading_5 : decode cX6_leading 5 = .ok (.iconst 0, 1) := by decide +kernel
theorem dX6_leading_6 : decode cX6_leading 6 = .ok (.istore 5, 2) := by decide +kernel
theorem dX6_leading_8 : decode cX6_leading 8 = .ok (.iload 5, 2) := by decide +kernel
theorem dX6_leading_10 : decode cX6_leading 10 = .ok (.iconst 4, 1) := by decide +kernel
theorem dX6_leading_11 : decode cX6_leading 11 = .ok (.if_icmp .ge 53, 3) := by decide +kernel
theorem dX6_leading_14 : decode cX6_leading 14 = .ok (.aload_n 0, 1) := by decide +kernel
theorem dX6_leading_15 : decode cX6_leading 15 = .ok (.getfield 7, 3) := by decide +kernel
theorem dX6_leading_18 : decode cX6_leading 18 = .ok (.iload_n 1, 1) := by decide +kernel
theorem dX6_leading_19 : decode cX6_leading 19 = .ok (.iload_n 2, 1) := by decide +kernel
theorem dX6_leading_20 : decode cX6_leading 20 = .ok (.iload 5, 2) := by decide +kernel
theorem dX6_leading_22 : decode cX6_leading 22 = .ok (.invokestatic 33, 3) := by decide +kernel
theorem dX6_leading_25 : decode cX6_leading 25 = .ok (.iaload, 1) := by decide +kernel
theorem dX6_leading_26 : decode cX6_leading 26 = .ok (.istore 6, 2) := by decide +kernel
theorem dX6_leading_28 : decode cX6_leading 28 = .ok (.iload 6, 2) := by decide +kernel
theorem dX6_leading_30 : decode cX6_leading 30 = .ok (.iload 4, 2) := by decide +kernel
theorem dX6_leading_32 : decode cX6_leading 32 = .ok (.if_icmp .le 8, 3) := by decide +kernel
theorem dX6_leading_35 : decode cX6_leading 35 = .ok (.iload 5, 2) := by decide +kernel
theorem dX6_leading_37 : decode cX6_leading 37 = .ok (.goto 4, 3) := by decide +kernel
theorem dX6_leading_40 : decode cX6_leading 40 = .ok (.iload_n 3, 1) := by decide +kernel
theorem dX6_leading_41 : decode cX6_leading 41 = .ok (.istore_n 3, 1) := by decide +kernel
theorem dX6_leading_42 : decode cX6_leading 42 = .ok (.iload 6, 2) := by decide +kernel
theorem dX6_leading_44 : decode cX6_leading 44 = .ok (.iload 4, 2) := by decide +kernel
theorem dX6_leading_46 : decode cX6_leading 46 = .ok (.if_icmp .le 8, 3) := by decide +kernel
theorem dX6_leading_49 : decode cX6_leading 49 = .ok (.iload 6, 2) := by decide +kernel
theorem dX6_leading_51 : decode cX6_leading 51 = .ok (.goto 5, 3) := by decide +kernel
theorem dX6_leading_54 : decode cX6_leading 54 = .ok (.iload 4, 2) := by decide +kernel
theorem dX6_leading_56 : decode cX6_leading 56 = .ok (.istore 4, 2) := by decide +kernel
theorem dX6_leading_58 : decode cX6_leading 58 = .ok (.iinc 5 1, 3) := by decide +kernel
theorem dX6_leading_61 : decode cX6_leading 61 = .ok (.goto (-53), 3) := by decide +kernel
theorem dX6_leading_64 : decode cX6_leading 64 = .ok (.iload_n 3, 1) := by decide +kernel
theorem dX6_leading_65 : decode cX6_leading 65 = .ok (.ireturn, 1) := by decide +kernel
set_option maxRecDepth 20000 in
theorem ggX6_inBed_X6_bed : GoodIn wsX6_inBed wsX6_bed := goodIn_r _ [5, 6, 7, 8, 4, 9, 10, 11, 12, 13, 14, 15, 16, 17, 18, 19, 20, 21, 22, 23, 24, 25, 26, 27, 28, 29, 30, 31, 32, 33] (by decide +kernel) (by decide +kernel)
set_option maxRecDepth 20000 in
theorem gX6_inBed_X6_bed : GoodIn wsX6_inBed (wsV RX6 67 RX6 yX6_bed wsX6_bed) := goodIn_app (goodIn_of _ (by decide +kernel)) ggX6_inBed_X6_bed
set_option maxRecDepth 20000 in
theorem ggX6_inBed_X6_inSlice : GoodIn wsX6_inBed wsX6_inSlice := goodIn_r _ [13, 14, 15, 16, 4, 17, 22, 23, 24, 25, 26, 27, 28, 29, 30, 31, 32, 33] (by decide +kernel) (by decide +kernel)
set_option maxRecDepth 20000 in
theorem gX6_inBed_X6_inSlice : GoodIn wsX6_inBed (wsV RX6 37 RX6 yX6_inSlice wsX6_inSlice) := goodIn_app (goodIn_of _ (by decide +kernel)) ggX6_inBed_X6_inSlice
theorem dX6_inBed_0 : decode cX6_inBed 0 = .ok (.iconst 0, 1) := by decide +kernel
theorem dX6_inBed_1 : decode cX6_inBed 1 = .ok (.istore_n 2, 1) := by decide +kernel
theorem dX6_inBed_2 : decode cX6_inBed 2 = .ok (.bipush 12, 2) := by decide +kernel
theorem dX6_inBed_4 : decode cX6_inBed 4 = .ok (.aload_n 0, 1) := by decide +kernel
theorem dX6_inBed_5 : decode cX6_inBed 5 = .ok (.iload_n 1, 1) := by decide +kernel
theorem dX6_inBed_6 : decode cX6_inBed 6 = .ok (.invokevirtual 67, 3) := by decide +kernel
theorem dX6_inBed_9 : decode cX6_inBed 9 = .ok (.isub, 1) := by decide +kernel
theorem dX6_inBed_10 : decode cX6_inBed 10 = .ok (.istore_n 3, 1) := by decide +kernel
theorem dX6_inBed_11 : decode cX6_inBed 11 = .ok (.iload_n 3, 1) := by decide +kernel
theorem dX6_inBed_12 : decode cX6_inBed 12 = .ok (.bipush 12, 2) := by decide +kernel
theorem dX6_inBed_14 : decode cX6_inBed 14 = .ok (.if_icmp .ge 18, 3) := by decide +kernel
theorem dX6_inBed_17 : decode cX6_inBed 17 = .ok (.iload_n 2, 1) := by decide +kernel
theorem dX6_inBed_18 : decode cX6_inBed 18 = .ok (.aload_n 0, 1) := by decide +kernel
theorem dX6_inBed_19 : decode cX6_inBed 19 = .ok (.iload_n 1, 1) := by decide +kernel
theorem dX6_inBed_20 : decode cX6_inBed 20 = .ok (.iload_n 3, 1) := by decide +kernel
theorem dX6_inBed_21 : decode cX6_inBed 21 = .ok (.invokevirtual 37, 3) := by decide +kernel
theorem dX6_inBed_24 : decode cX6_inBed 24 = .ok (.iadd, 1) := by decide +kernel
theorem dX6_inBed_25 : decode cX6_inBed 25 = .ok (.istore_n 2, 1) := by decide +kernel
theorem dX6_inBed_26 : decode cX6_inBed 26 = .ok (.iinc 3 1, 3) := by decide +kernel
theorem dX6_inBed_29 : decode cX6_inBed 29 = .ok (.goto (-18), 3) := by decide +kernel
theorem dX6_inBed_32 : decode cX6_inBed 32 = .ok (.iload_n 2, 1) := by decide +kernel
theorem dX6_inBed_33 : decode cX6_inBed 33 = .ok (.ireturn, 1) := by decide +kernel
set_option maxRecDepth 20000 in
theorem ggX6_changes_X6_leading : GoodIn wsX6_changes wsX6_leading := goodIn_r _ [5, 6, 7, 8, 4, 9, 10, 11, 12, 13, 14, 15, 16, 17, 18, 19, 20, 21] (by decide +kernel) (by decide +kernel)
set_option maxRecDepth 20000 in
theorem gX6_changes_X6_leading : GoodIn wsX6_changes (wsV RX6 70 RX6 yX6_leading wsX6_leading) := goodIn_app (goodIn_of _ (by decide +kernel)) ggX6_changes_X6_leading
theorem dX6_changes_0 : decode cX6_changes 0 = .ok (.iconst 0, 1) := by decide +kernel
theorem dX6_changes_1 : decode cX6_changes 1 = .ok (.istore_n 2, 1) := by decide +kernel
theorem dX6_changes_2 : decode cX6_changes 2 = .ok (.iconst (-1), 1) := by decide +kernel
theorem dX6_changes_3 : decode cX6_changes 3 = .ok (.istore_n 3, 1) := by decide +kernel
theorem dX6_changes_4 : decode cX6_changes 4 = .ok (.iconst 0, 1) := by decide +kernel
theorem dX6_changes_5 : decode cX6_changes 5 = .ok (.istore 4, 2) := by decide +kernel
theorem dX6_changes_7 : decode cX6_changes 7 = .ok (.iload 4, 2) := by decide +kernel
theorem dX6_changes_9 : decode cX6_changes 9 = .ok (.bipush 12, 2) := by decide +kernel
theorem dX6_changes_11 : decode cX6_changes 11 = .ok (.if_icmp .ge 56, 3) := by decide +kernel
theorem dX6_changes_14 : decode cX6_changes 14 = .ok (.aload_n 0, 1) := by decide +kernel
theorem dX6_changes_15 : decode cX6_changes 15 = .ok (.iload_n 1, 1) := by decide +kernel
theorem dX6_changes_16 : decode cX6_changes 16 = .ok (.iload 4, 2) := by decide +kernel
theorem dX6_changes_18 : decode cX6_changes 18 = .ok (.invokevirtual 70, 3) := by decide +kernel
theorem dX6_changes_21 : decode cX6_changes 21 = .ok (.istore 5, 2) := by decide +kernel
theorem dX6_changes_23 : decode cX6_changes 23 = .ok (.iload_n 2, 1) := by decide +kernel
theorem dX6_changes_24 : decode cX6_changes 24 = .ok (.iload 5, 2) := by decide +kernel
theorem dX6_changes_26 : decode cX6_changes 26 = .ok (.iconst (-1), 1) := by decide +kernel
theorem dX6_changes_27 : decode cX6_changes 27 = .ok (.if_icmp .eq 18, 3) := by decide +kernel
theorem dX6_changes_30 : decode cX6_changes 30 = .ok (.iload_n 3, 1) := by decide +kernel
theorem dX6_changes_31 : decode cX6_changes 31 = .ok (.iconst (-1), 1) := by decide +kernel
theorem dX6_changes_32 : decode cX6_changes 32 = .ok (.if_icmp .eq 13, 3) := by decide +kernel
theorem dX6_changes_35 : decode cX6_changes 35 = .ok (.iload 5, 2) := by decide +kernel
theorem dX6_changes_37 : decode cX6_changes 37 = .ok (.iload_n 3, 1) := by decide +kernel
theorem dX6_changes_38 : decode cX6_changes 38 = .ok (.if_icmp .eq 7, 3) := by decide +kernel
theorem dX6_changes_41 : decode cX6_changes 41 = .ok (.iconst 1, 1) := by decide +kernel
theorem dX6_changes_42 : decode cX6_changes 42 = .ok (.goto 4, 3) := by decide +kernel
theorem dX6_changes_45 : decode cX6_changes 45 = .ok (.iconst 0, 1) := by decide +kernel
theorem dX6_changes_46 : decode cX6_changes 46 = .ok (.iadd, 1) := by decide +kernel
theorem dX6_changes_47 : decode cX6_changes 47 = .ok (.istore_n 2, 1) := by decide +kernel
theorem dX6_changes_48 : decode cX6_changes 48 = .ok (.iload 5, 2) := by decide +kernel
theorem dX6_changes_50 : decode cX6_changes 50 = .ok (.iconst (-1), 1) := by decide +kernel
theorem dX6_changes_51 : decode cX6_changes 51 = .ok (.if_icmp .ne 7, 3) := by decide +kernel
theorem dX6_changes_54 : decode cX6_changes 54 = .ok (.iload_n 3, 1) := by decide +kernel
theorem dX6_changes_55 : decode cX6_changes 55 = .ok (.goto 5, 3) := by decide +kernel
theorem dX6_changes_58 : decode cX6_changes 58 = .ok (.iload 5, 2) := by decide +kernel
theorem dX6_changes_60 : decode cX6_changes 60 = .ok (.istore_n 3, 1) := by decide +kernel
theorem dX6_changes_61 : decode cX6_changes 61 = .ok (.iinc 4 1, 3) := by decide +kernel
theorem dX6_changes_64 : decode cX6_changes 64 = .ok (.goto (-57), 3) := by decide +kernel
theorem dX6_changes_67 : decode cX6_changes 67 = .ok (.iload_n 2, 1) := by decide +kernel
theorem dX6_changes_68 : decode cX6_changes 68 = .ok (.ireturn, 1) := by decide +kernel
theorem dX6_save_0 : decode cX6_save 0 = .ok (.aload_n 0, 1) := by decide +kernel
theorem dX6_save_1 : decode cX6_save 1 = .ok (.getfield 73, 3) := by decide +kernel
theorem dX6_save_4 : decode cX6_save 4 = .ok (.bipush 6, 2) := by decide +kernel
theorem dX6_save_6 : decode cX6_save 6 = .ok (.if_icmp .ne 46, 3) := by decide +kernel
theorem dX6_save_9 : decode cX6_save 9 = .ok (.sipush 162, 3) := by decide +kernel
theorem dX6_save_12 : decode cX6_save 12 = .ok (.istore_n 1, 1) := by decide +kernel
theorem dX6_save_13 : decode cX6_save 13 = .ok (.iload_n 1, 1) := by decide +kernel
theorem dX6_save_14 : decode cX6_save 14 = .ok (.sipush 972, 3) := by decide +kernel
theorem dX6_save_17 : decode cX6_save 17 = .ok (.if_icmp .ge 25, 3) := by decide +kernel
theorem dX6_save_20 : decode cX6_save 20 = .ok (.aload_n 0, 1) := by decide +kernel
theorem dX6_save_21 : decode cX6_save 21 = .ok (.getfield 13, 3) := by decide +kernel
theorem dX6_save_24 : decode cX6_save 24 = .ok (.iload_n 1, 1) := by decide +kernel
theorem dX6_save_25 : decode cX6_save 25 = .ok (.sipush 162, 3) := by decide +kernel
theorem dX6_save_28 : decode cX6_save 28 = .ok (.isub, 1) := by decide +kernel
theorem dX6_save_29 : decode cX6_save 29 = .ok (.aload_n 0, 1) := by decide +kernel
theorem dX6_save_30 : decode cX6_save 30 = .ok (.getfield 13, 3) := by decide +kernel
theorem dX6_save_33 : decode cX6_save 33 = .ok (.iload_n 1, 1) := by decide +kernel
theorem dX6_save_34 : decode cX6_save 34 = .ok (.iaload, 1) := by decide +kernel
theorem dX6_save_35 : decode cX6_save 35 = .ok (.iastore, 1) := by decide +kernel
theorem dX6_save_36 : decode cX6_save 36 = .ok (.iinc 1 1, 3) := by decide +kernel
theorem dX6_save_39 : decode cX6_save 39 = .ok (.goto (-26), 3) := by decide +kernel
theorem dX6_save_42 : decode cX6_save 42 = .ok (.aload_n 0, 1) := by decide +kernel
theorem dX6_save_43 : decode cX6_save 43 = .ok (.dup, 1) := by decide +kernel
theorem dX6_save_44 : decode cX6_save 44 = .ok (.getfield 73, 3) := by decide +kernel
theorem dX6_save_47 : decode cX6_save 47 = .ok (.iconst 1, 1) := by decide +kernel
theorem dX6_save_48 : decode cX6_save 48 = .ok (.isub, 1) := by decide +kernel
theorem dX6_save_49 : decode cX6_save 49 = .ok (.putfield 73, 3) := by decide +kernel
theorem dX6_save_52 : decode cX6_save 52 = .ok (.iconst 0, 1) := by decide +kernel
theorem dX6_save_53 : decode cX6_save 53 = .ok (.istore_n 1, 1) := by decide +kernel
theorem dX6_save_54 : decode cX6_save 54 = .ok (.iload_n 1, 1) := by decide +kernel
theorem dX6_save_55 : decode cX6_save 55 = .ok (.sipush 162, 3) := by decide +kernel
theorem dX6_save_58 : decode cX6_save 58 = .ok (.if_icmp .ge 30, 3) := by decide +kernel
theorem dX6_save_61 : decode cX6_save 61 = .ok (.aload_n 0, 1) := by decide +kernel
theorem dX6_save_62 : decode cX6_save 62 = .ok (.getfield 13, 3) := by decide +kernel
theorem dX6_save_65 : decode cX6_save 65 = .ok (.sipush 162, 3) := by decide +kernel
theorem dX6_save_68 : decode cX6_save 68 = .ok (.aload_n 0, 1) := by decide +kernel
theorem dX6_save_69 : decode cX6_save 69 = .ok (.getfield 73, 3) := by decide +kernel
theorem dX6_save_72 : decode cX6_save 72 = .ok (.imul, 1) := by decide +kernel
theorem dX6_save_73 : decode cX6_save 73 = .ok (.iload_n 1, 1) := by decide +kernel
theorem dX6_save_74 : decode cX6_save 74 = .ok (.iadd, 1) := by decide +kernel
theorem dX6_save_75 : decode cX6_save 75 = .ok (.aload_n 0, 1) := by decide +kernel
theorem dX6_save_76 : decode cX6_save 76 = .ok (.getfield 7, 3) := by decide +kernel
theorem dX6_save_79 : decode cX6_save 79 = .ok (.iload_n 1, 1) := by decide +kernel
theorem dX6_save_80 : decode cX6_save 80 = .ok (.iaload, 1) := by decide +kernel
theorem dX6_save_81 : decode cX6_save 81 = .ok (.iastore, 1) := by decide +kernel
theorem dX6_save_82 : decode cX6_save 82 = .ok (.iinc 1 1, 3) := by decide +kernel
theorem dX6_save_85 : decode cX6_save 85 = .ok (.goto (-31), 3) := by decide +kernel
theorem dX6_save_88 : decode cX6_save 88 = .ok (.aload_n 0, 1) := by decide +kernel
theorem dX6_save_89 : decode cX6_save 89 = .ok (.dup, 1) := by decide +kernel
theorem dX6_save_90 : decode cX6_save 90 = .ok (.getfield 73, 3) := by decide +kernel
theorem dX6_save_93 : decode cX6_save 93 = .ok (.iconst 1, 1) := by decide +kernel
theorem dX6_save_94 : decode cX6_save 94 = .ok (.iadd, 1) := by decide +kernel
theorem dX6_save_95 : decode cX6_save 95 = .ok (.putfield 73, 3) := by decide +kernel
theorem dX6_save_98 : decode cX6_save 98 = .ok (.return_, 1) := by decide +kernel
theorem dX6_undo_0 : decode cX6_undo 0 = .ok (.aload_n 0, 1) := by decide +kernel
theorem dX6_undo_1 : decode cX6_undo 1 = .ok (.aload_n 0, 1) := by decide +kernel
theorem dX6_undo_2 : decode cX6_undo 2 = .ok (.getfield 73, 3) := by decide +kernel
theorem dX6_undo_5 : decode cX6_undo 5 = .ok (.ifCond .le 7, 3) := by decide +kernel
theorem dX6_undo_8 : decode cX6_undo 8 = .ok (.iconst 0, 1) := by decide +kernel
theorem dX6_undo_9 : decode cX6_undo 9 = .ok (.goto 4, 3) := by decide +kernel
theorem dX6_undo_12 : decode cX6_undo 12 = .ok (.iconst 1, 1) := by decide +kernel
theorem dX6_undo_13 : decode cX6_undo 13 = .ok (.putfield 25, 3) := by decide +kernel
theorem dX6_undo_16 : decode cX6_undo 16 = .ok (.aload_n 0, 1) := by decide +kernel
theorem dX6_undo_17 : decode cX6_undo 17 = .ok (.getfield 25, 3) := by decide +kernel
theorem dX6_undo_20 : decode cX6_undo 20 = .ok (.ifCond .le 5, 3) := by decide +kernel
theorem dX6_undo_23 : decode cX6_undo 23 = .ok (.iconst 0, 1) := by decide +kernel
theorem dX6_undo_24 : decode cX6_undo 24 = .ok (.ireturn, 1) := by decide +kernel
theorem dX6_undo_25 : decode cX6_undo 25 = .ok (.aload_n 0, 1) := by decide +kernel
theorem dX6_undo_26 : decode cX6_undo 26 = .ok (.dup, 1) := by decide +kernel
theorem dX6_undo_27 : decode cX6_undo 27 = .ok (.getfield 73, 3) := by decide +kernel
theorem dX6_undo_30 : decode cX6_undo 30 = .ok (.iconst 1, 1) := by decide +kernel
theorem dX6_undo_31 : decode cX6_undo 31 = .ok (.isub, 1) := by decide +kernel
theorem dX6_undo_32 : decode cX6_undo 32 = .ok (.putfield 73, 3) := by decide +kernel
theorem dX6_undo_35 : decode cX6_undo 35 = .ok (.iconst 0, 1) := by decide +kernel
theorem dX6_undo_36 : decode cX6_undo 36 = .ok (.istore_n 1, 1) := by decide +kernel
theorem dX6_undo_37 : decode cX6_undo 37 = .ok (.iload_n 1, 1) := by decide +kernel
theorem dX6_undo_38 : decode cX6_undo 38 = .ok (.sipush 162, 3) := by decide +kernel
theorem dX6_undo_41 : decode cX6_undo 41 = .ok (.if_icmp .ge 30, 3) := by decide +kernel
theorem dX6_undo_44 : decode cX6_undo 44 = .ok (.aload_n 0, 1) := by decide +kernel
theorem dX6_undo_45 : decode cX6_undo 45 = .ok (.getfield 7, 3) := by decide +kernel
theorem dX6_undo_48 : decode cX6_undo 48 = .ok (.iload_n 1, 1) := by decide +kernel
theorem dX6_undo_49 : decode cX6_undo 49 = .ok (.aload_n 0, 1) := by decide +kernel
theorem dX6_undo_50 : decode cX6_undo 50 = .ok (.getfield 13, 3) := by decide +kernel
theorem dX6_undo_53 : decode cX6_undo 53 = .ok (.sipush 162, 3) := by decide +kernel
theorem dX6_undo_56 : decode cX6_undo 56 = .ok (.aload_n 0, 1) := by decide +kernel
theorem dX6_undo_57 : decode cX6_undo 57 = .ok (.getfield 73, 3) := by decide +kernel
theorem dX6_undo_60 : decode cX6_undo 60 = .ok (.imul, 1) := by decide +kernel
theorem dX6_undo_61 : decode cX6_undo 61 = .ok (.iload_n 1, 1) := by decide +kernel
theorem dX6_undo_62 : decode cX6_undo 62 = .ok (.iadd, 1) := by decide +kernel
theorem dX6_undo_63 : decode cX6_undo 63 = .ok (.iaload, 1) := by decide +kernel
theorem dX6_undo_64 : decode cX6_undo 64 = .ok (.iastore, 1) := by decide +kernel
theorem dX6_undo_65 : decode cX6_undo 65 = .ok (.iinc 1 1, 3) := by decide +kernel
theorem dX6_undo_68 : decode cX6_undo 68 = .ok (.goto (-31), 3) := by decide +kernel
theorem dX6_undo_71 : decode cX6_undo 71 = .ok (.aload_n 0, 1) := by decide +kernel
theorem dX6_undo_72 : decode cX6_undo 72 = .ok (.getfield 73, 3) := by decide +kernel
theorem dX6_undo_75 : decode cX6_undo 75 = .ok (.ireturn, 1) := by decide +kernel
set_option maxRecDepth 20000 in
theorem ggX6_isSetting_X6_within : GoodIn wsX6_isSetting wsX6_within := goodIn_r _ [4] (by decide +kernel) (by decide +kernel)
set_option maxRecDepth 20000 in
theorem gX6_isSetting_X6_within : GoodIn wsX6_isSetting (va_wsS RX6 29 yX6_within wsX6_within) := goodIn_app (goodIn_of _ (by decide +kernel)) ggX6_isSetting_X6_within
theorem dX6_isSetting_0 : decode cX6_isSetting 0 = .ok (.iload_n 0, 1) := by decide +kernel
theorem dX6_isSetting_1 : decode cX6_isSetting 1 = .ok (.iconst 0, 1) := by decide +kernel
theorem dX6_isSetting_2 : decode cX6_isSetting 2 = .ok (.iconst 3, 1) := by decide +kernel
theorem dX6_isSetting_3 : decode cX6_isSetting 3 = .ok (.invokestatic 29, 3) := by decide +kernel
theorem dX6_isSetting_6 : decode cX6_isSetting 6 = .ok (.ireturn, 1) := by decide +kernel
set_option maxRecDepth 20000 in
theorem ggX6_isValue_X6_within : GoodIn wsX6_isValue wsX6_within := goodIn_r _ [4] (by decide +kernel) (by decide +kernel)
set_option maxRecDepth 20000 in
theorem gX6_isValue_X6_within : GoodIn wsX6_isValue (va_wsS RX6 29 yX6_within wsX6_within) := goodIn_app (goodIn_of _ (by decide +kernel)) ggX6_isValue_X6_within
theorem dX6_isValue_0 : decode cX6_isValue 0 = .ok (.iload_n 0, 1) := by decide +kernel
theorem dX6_isValue_1 : decode cX6_isValue 1 = .ok (.tableswitch 54 0 2 #[27, 36, 46], 27) := by decide +kernel
theorem dX6_isValue_28 : decode cX6_isValue 28 = .ok (.iload_n 1, 1) := by decide +kernel
theorem dX6_isValue_29 : decode cX6_isValue 29 = .ok (.iconst 0, 1) := by decide +kernel
theorem dX6_isValue_30 : decode cX6_isValue 30 = .ok (.sipush 1000, 3) := by decide +kernel
theorem dX6_isValue_33 : decode cX6_isValue 33 = .ok (.invokestatic 29, 3) := by decide +kernel
theorem dX6_isValue_36 : decode cX6_isValue 36 = .ok (.ireturn, 1) := by decide +kernel
theorem dX6_isValue_37 : decode cX6_isValue 37 = .ok (.iload_n 1, 1) := by decide +kernel
theorem dX6_isValue_38 : decode cX6_isValue 38 = .ok (.bipush 10, 2) := by decide +kernel
theorem dX6_isValue_40 : decode cX6_isValue 40 = .ok (.sipush 1000, 3) := by decide +kernel
theorem dX6_isValue_43 : decode cX6_isValue 43 = .ok (.invokestatic 29, 3) := by decide +kernel
theorem dX6_isValue_46 : decode cX6_isValue 46 = .ok (.ireturn, 1) := by decide +kernel
theorem dX6_isValue_47 : decode cX6_isValue 47 = .ok (.iload_n 1, 1) := by decide +kernel
theorem dX6_isValue_48 : decode cX6_isValue 48 = .ok (.iconst 0, 1) := by decide +kernel
theorem dX6_isValue_49 : decode cX6_isValue 49 = .ok (.bipush 50, 2) := by decide +kernel
theorem dX6_isValue_51 : decode cX6_isValue 51 = .ok (.invokestatic 29, 3) := by decide +kernel
theorem dX6_isValue_54 : decode cX6_isValue 54 = .ok (.ireturn, 1) := by decide +kernel
theorem dX6_isValue_55 : decode cX6_isValue 55 = .ok (.iload_n 1, 1) := by decide +kernel
theorem dX6_isValue_56 : decode cX6_isValue 56 = .ok (.iconst 0, 1) := by decide +kernel
theorem dX6_isValue_57 : decode cX6_isValue 57 = .ok (.bipush 9, 2) := by decide +kernel
theorem dX6_isValue_59 : decode cX6_isValue 59 = .ok (.invokestatic 29, 3) := by decide +kernel
theorem dX6_isValue_62 : decode cX6_isValue 62 = .ok (.ireturn, 1) := by decide +kernel
set_option maxRecDepth 20000 in
theorem ggX6_replaced_X6_save : GoodIn wsX6_replaced wsX6_save := goodIn_r _ [6, 7, 8, 1, 9, 10, 11, 12, 13, 14, 15, 16, 17, 18, 19, 20] (by decide +kernel) (by decide +kernel)
set_option maxRecDepth 20000 in
theorem gX6_replaced_X6_save : GoodIn wsX6_replaced (wsV RX6 76 RX6 yX6_save wsX6_save) := goodIn_app (goodIn_of _ (by decide +kernel)) ggX6_replaced_X6_save
theorem dX6_replaced_0 : decode cX6_replaced 0 = .ok (.aload_n 0, 1) := by decide +kernel
theorem dX6_replaced_1 : decode cX6_replaced 1 = .ok (.invokevirtual 76, 3) := by decide +kernel
theorem dX6_replaced_4 : decode cX6_replaced 4 = .ok (.aload_n 0, 1) := by decide +kernel
theorem dX6_replaced_5 : decode cX6_replaced 5 = .ok (.getfield 7, 3) := by decide +kernel
theorem dX6_replaced_8 : decode cX6_replaced 8 = .ok (.iload_n 1, 1) := by decide +kernel
theorem dX6_replaced_9 : decode cX6_replaced 9 = .ok (.iaload, 1) := by decide +kernel
theorem dX6_replaced_10 : decode cX6_replaced 10 = .ok (.istore_n 3, 1) := by decide +kernel
theorem dX6_replaced_11 : decode cX6_replaced 11 = .ok (.aload_n 0, 1) := by decide +kernel
theorem dX6_replaced_12 : decode cX6_replaced 12 = .ok (.getfield 7, 3) := by decide +kernel
theorem dX6_replaced_15 : decode cX6_replaced 15 = .ok (.iload_n 1, 1) := by decide +kernel
theorem dX6_replaced_16 : decode cX6_replaced 16 = .ok (.iload_n 2, 1) := by decide +kernel
theorem dX6_replaced_17 : decode cX6_replaced 17 = .ok (.iastore, 1) := by decide +kernel
theorem dX6_replaced_18 : decode cX6_replaced 18 = .ok (.iload_n 3, 1) := by decide +kernel
theorem dX6_replaced_19 : decode cX6_replaced 19 = .ok (.ireturn, 1) := by decide +kernel
set_option maxRecDepth 20000 in
theorem ggX6_set_X6_isSetting : GoodIn wsX6_set wsX6_isSetting := goodIn_r _ [5, 6, 7, 4, 8] (by decide +kernel) (by decide +kernel)
set_option maxRecDepth 20000 in
theorem gX6_set_X6_isSetting : GoodIn wsX6_set (va_wsS RX6 79 yX6_isSetting wsX6_isSetting) := goodIn_app (goodIn_of _ (by decide +kernel)) ggX6_set_X6_isSetting
set_option maxRecDepth 20000 in
theorem ggX6_set_X6_isValue : GoodIn wsX6_set wsX6_isValue := goodIn_r _ [11, 6, 7, 4, 8] (by decide +kernel) (by decide +kernel)
set_option maxRecDepth 20000 in
theorem gX6_set_X6_isValue : GoodIn wsX6_set (va_wsS RX6 83 yX6_isValue wsX6_isValue) := goodIn_app (goodIn_of _ (by decide +kernel)) ggX6_set_X6_isValue
set_option maxRecDepth 20000 in
theorem ggX6_set_X6_replaced : GoodIn wsX6_set wsX6_replaced := goodIn_r _ [15, 16, 17, 18, 19, 4, 20, 21, 22, 23, 24, 25, 26, 27, 28, 29, 30, 31, 32, 33, 34] (by decide +kernel) (by decide +kernel)
set_option maxRecDepth 20000 in
theorem gX6_set_X6_replaced : GoodIn wsX6_set (wsV RX6 86 RX6 yX6_replaced wsX6_replaced) := goodIn_app (goodIn_of _ (by decide +kernel)) ggX6_set_X6_replaced
theorem dX6_set_0 : decode cX6_set 0 = .ok (.aload_n 0, 1) := by decide +kernel
theorem dX6_set_1 : decode cX6_set 1 = .ok (.iload_n 1, 1) := by decide +kernel
theorem dX6_set_2 : decode cX6_set 2 = .ok (.invokestatic 79, 3) := by decide +kernel
theorem dX6_set_5 : decode cX6_set 5 = .ok (.ifCond .ne 7, 3) := by decide +kernel
theorem dX6_set_8 : decode cX6_set 8 = .ok (.iconst 1, 1) := by decide +kernel
theorem dX6_set_9 : decode cX6_set 9 = .ok (.goto 16, 3) := by decide +kernel
theorem dX6_set_12 : decode cX6_set 12 = .ok (.iload_n 1, 1) := by decide +kernel
theorem dX6_set_13 : decode cX6_set 13 = .ok (.iload_n 2, 1) := by decide +kernel
theorem dX6_set_14 : decode cX6_set 14 = .ok (.invokestatic 83, 3) := by decide +kernel
theorem dX6_set_17 : decode cX6_set 17 = .ok (.ifCond .eq 7, 3) := by decide +kernel
theorem dX6_set_20 : decode cX6_set 20 = .ok (.iconst 0, 1) := by decide +kernel
theorem dX6_set_21 : decode cX6_set 21 = .ok (.goto 4, 3) := by decide +kernel
theorem dX6_set_24 : decode cX6_set 24 = .ok (.iconst 2, 1) := by decide +kernel
theorem dX6_set_25 : decode cX6_set 25 = .ok (.putfield 25, 3) := by decide +kernel
theorem dX6_set_28 : decode cX6_set 28 = .ok (.aload_n 0, 1) := by decide +kernel
theorem dX6_set_29 : decode cX6_set 29 = .ok (.getfield 25, 3) := by decide +kernel
theorem dX6_set_32 : decode cX6_set 32 = .ok (.ifCond .le 7, 3) := by decide +kernel
theorem dX6_set_35 : decode cX6_set 35 = .ok (.iconst 0, 1) := by decide +kernel
theorem dX6_set_36 : decode cX6_set 36 = .ok (.goto 13, 3) := by decide +kernel
theorem dX6_set_39 : decode cX6_set 39 = .ok (.aload_n 0, 1) := by decide +kernel
theorem dX6_set_40 : decode cX6_set 40 = .ok (.sipush 144, 3) := by decide +kernel
theorem dX6_set_43 : decode cX6_set 43 = .ok (.iload_n 1, 1) := by decide +kernel
theorem dX6_set_44 : decode cX6_set 44 = .ok (.iadd, 1) := by decide +kernel
theorem dX6_set_45 : decode cX6_set 45 = .ok (.iload_n 2, 1) := by decide +kernel
theorem dX6_set_46 : decode cX6_set 46 = .ok (.invokevirtual 86, 3) := by decide +kernel
theorem dX6_set_49 : decode cX6_set 49 = .ok (.ireturn, 1) := by decide +kernel
set_option maxRecDepth 20000 in
theorem ggX6_setSpeed_X6_isClass : GoodIn wsX6_setSpeed wsX6_isClass := goodIn_r _ [5, 6, 7, 4, 8] (by decide +kernel) (by decide +kernel)
set_option maxRecDepth 20000 in
theorem gX6_setSpeed_X6_isClass : GoodIn wsX6_setSpeed (va_wsS RX6 89 yX6_isClass wsX6_isClass) := goodIn_app (goodIn_of _ (by decide +kernel)) ggX6_setSpeed_X6_isClass
set_option maxRecDepth 20000 in
theorem ggX6_setSpeed_X6_within : GoodIn wsX6_setSpeed wsX6_within := goodIn_r _ [8] (by decide +kernel) (by decide +kernel)
set_option maxRecDepth 20000 in
theorem gX6_setSpeed_X6_within : GoodIn wsX6_setSpeed (va_wsS RX6 29 yX6_within wsX6_within) := goodIn_app (goodIn_of _ (by decide +kernel)) ggX6_setSpeed_X6_within
set_option maxRecDepth 20000 in
theorem ggX6_setSpeed_X6_replaced : GoodIn wsX6_setSpeed wsX6_replaced := goodIn_r _ [12, 13, 14, 15, 16, 4, 17, 18, 19, 20, 21, 22, 23, 24, 25, 26, 27, 28, 29, 30, 31] (by decide +kernel) (by decide +kernel)
set_option maxRecDepth 20000 in
theorem gX6_setSpeed_X6_replaced : GoodIn wsX6_setSpeed (wsV RX6 86 RX6 yX6_replaced wsX6_replaced) := goodIn_app (goodIn_of _ (by decide +kernel)) ggX6_setSpeed_X6_replaced
theorem dX6_setSpeed_0 : decode cX6_setSpeed 0 = .ok (.aload_n 0, 1) := by decide +kernel
theorem dX6_setSpeed_1 : decode cX6_setSpeed 1 = .ok (.iload_n 1, 1) := by decide +kernel
theorem dX6_setSpeed_2 : decode cX6_setSpeed 2 = .ok (.invokestatic 89, 3) := by decide +kernel
theorem dX6_setSpeed_5 : decode cX6_setSpeed 5 = .ok (.ifCond .ne 7, 3) := by decide +kernel
theorem dX6_setSpeed_8 : decode cX6_setSpeed 8 = .ok (.iconst 1, 1) := by decide +kernel
theorem dX6_setSpeed_9 : decode cX6_setSpeed 9 = .ok (.goto 18, 3) := by decide +kernel
theorem dX6_setSpeed_12 : decode cX6_setSpeed 12 = .ok (.iload_n 2, 1) := by decide +kernel
theorem dX6_setSpeed_13 : decode cX6_setSpeed 13 = .ok (.iconst 1, 1) := by decide +kernel
theorem dX6_setSpeed_14 : decode cX6_setSpeed 14 = .ok (.bipush 100, 2) := by decide +kernel
theorem dX6_setSpeed_16 : decode cX6_setSpeed 16 = .ok (.invokestatic 29, 3) := by decide +kernel
theorem dX6_setSpeed_19 : decode cX6_setSpeed 19 = .ok (.ifCond .eq 7, 3) := by decide +kernel
theorem dX6_setSpeed_22 : decode cX6_setSpeed 22 = .ok (.iconst 0, 1) := by decide +kernel
theorem dX6_setSpeed_23 : decode cX6_setSpeed 23 = .ok (.goto 4, 3) := by decide +kernel
theorem dX6_setSpeed_26 : decode cX6_setSpeed 26 = .ok (.iconst 2, 1) := by decide +kernel
theorem dX6_setSpeed_27 : decode cX6_setSpeed 27 = .ok (.putfield 25, 3) := by decide +kernel
theorem dX6_setSpeed_30 : decode cX6_setSpeed 30 = .ok (.aload_n 0, 1) := by decide +kernel
theorem dX6_setSpeed_31 : decode cX6_setSpeed 31 = .ok (.getfield 25, 3) := by decide +kernel
theorem dX6_setSpeed_34 : decode cX6_setSpeed 34 = .ok (.ifCond .le 7, 3) := by decide +kernel
theorem dX6_setSpeed_37 : decode cX6_setSpeed 37 = .ok (.iconst 0, 1) := by decide +kernel
theorem dX6_setSpeed_38 : decode cX6_setSpeed 38 = .ok (.goto 13, 3) := by decide +kernel
theorem dX6_setSpeed_41 : decode cX6_setSpeed 41 = .ok (.aload_n 0, 1) := by decide +kernel
theorem dX6_setSpeed_42 : decode cX6_setSpeed 42 = .ok (.sipush 148, 3) := by decide +kernel
theorem dX6_setSpeed_45 : decode cX6_setSpeed 45 = .ok (.iload_n 1, 1) := by decide +kernel
theorem dX6_setSpeed_46 : decode cX6_setSpeed 46 = .ok (.iadd, 1) := by decide +kernel
theorem dX6_setSpeed_47 : decode cX6_setSpeed 47 = .ok (.iload_n 2, 1) := by decide +kernel
theorem dX6_setSpeed_48 : decode cX6_setSpeed 48 = .ok (.invokevirtual 86, 3) := by decide +kernel
theorem dX6_setSpeed_51 : decode cX6_setSpeed 51 = .ok (.ireturn, 1) := by decide +kernel
set_option maxRecDepth 20000 in
theorem ggX6_bring_X6_place : GoodIn wsX6_bring wsX6_place := goodIn_r _ [5] (by decide +kernel) (by decide +kernel)
set_option maxRecDepth 20000 in
theorem gX6_bring_X6_place : GoodIn wsX6_bring (va_wsS RX6 33 yX6_place wsX6_place) := goodIn_app (goodIn_of _ (by decide +kernel)) ggX6_bring_X6_place
theorem dX6_bring_0 : decode cX6_bring 0 = .ok (.aload_n 0, 1) := by decide +kernel
theorem dX6_bring_1 : decode cX6_bring 1 = .ok (.getfield 7, 3) := by decide +kernel
theorem dX6_bring_4 : decode cX6_bring 4 = .ok (.iload_n 1, 1) := by decide +kernel
theorem dX6_bring_5 : decode cX6_bring 5 = .ok (.iload_n 2, 1) := by decide +kernel
theorem dX6_bring_6 : decode cX6_bring 6 = .ok (.iload_n 3, 1) := by decide +kernel
theorem dX6_bring_7 : decode cX6_bring 7 = .ok (.invokestatic 33, 3) := by decide +kernel
theorem dX6_bring_10 : decode cX6_bring 10 = .ok (.dup2, 1) := by decide +kernel
theorem dX6_bring_11 : decode cX6_bring 11 = .ok (.iaload, 1) := by decide +kernel
theorem dX6_bring_12 : decode cX6_bring 12 = .ok (.iload 4, 2) := by decide +kernel
theorem dX6_bring_14 : decode cX6_bring 14 = .ok (.iadd, 1) := by decide +kernel
theorem dX6_bring_15 : decode cX6_bring 15 = .ok (.iastore, 1) := by decide +kernel
theorem dX6_bring_16 : decode cX6_bring 16 = .ok (.aload_n 0, 1) := by decide +kernel
theorem dX6_bring_17 : decode cX6_bring 17 = .ok (.getfield 7, 3) := by decide +kernel
theorem dX6_bring_20 : decode cX6_bring 20 = .ok (.sipush 152, 3) := by decide +kernel
theorem dX6_bring_23 : decode cX6_bring 23 = .ok (.iload_n 3, 1) := by decide +kernel
theorem dX6_bring_24 : decode cX6_bring 24 = .ok (.iadd, 1) := by decide +kernel
theorem dX6_bring_25 : decode cX6_bring 25 = .ok (.dup2, 1) := by decide +kernel
theorem dX6_bring_26 : decode cX6_bring 26 = .ok (.iaload, 1) := by decide +kernel
theorem dX6_bring_27 : decode cX6_bring 27 = .ok (.iload 4, 2) := by decide +kernel
theorem dX6_bring_29 : decode cX6_bring 29 = .ok (.iadd, 1) := by decide +kernel
theorem dX6_bring_30 : decode cX6_bring 30 = .ok (.iastore, 1) := by decide +kernel
theorem dX6_bring_31 : decode cX6_bring 31 = .ok (.return_, 1) := by decide +kernel
set_option maxRecDepth 20000 in
theorem ggX6_pour_X6_isJar : GoodIn wsX6_pour wsX6_isJar := goodIn_r _ [5, 6, 7, 4, 8] (by decide +kernel) (by decide +kernel)
set_option maxRecDepth 20000 in
theorem gX6_pour_X6_isJar : GoodIn wsX6_pour (va_wsS RX6 92 yX6_isJar wsX6_isJar) := goodIn_app (goodIn_of _ (by decide +kernel)) ggX6_pour_X6_isJar
set_option maxRecDepth 20000 in
theorem ggX6_pour_X6_isSlice : GoodIn wsX6_pour wsX6_isSlice := goodIn_r _ [11, 6, 7, 4, 8] (by decide +kernel) (by decide +kernel)
set_option maxRecDepth 20000 in
theorem gX6_pour_X6_isSlice : GoodIn wsX6_pour (va_wsS RX6 95 yX6_isSlice wsX6_isSlice) := goodIn_app (goodIn_of _ (by decide +kernel)) ggX6_pour_X6_isSlice
set_option maxRecDepth 20000 in
theorem ggX6_pour_X6_isClass : GoodIn wsX6_pour wsX6_isClass := goodIn_r _ [14, 6, 7, 4, 8] (by decide +kernel) (by decide +kernel)
set_option maxRecDepth 20000 in
theorem gX6_pour_X6_isClass : GoodIn wsX6_pour (va_wsS RX6 89 yX6_isClass wsX6_isClass) := goodIn_app (goodIn_of _ (by decide +kernel)) ggX6_pour_X6_isClass
set_option maxRecDepth 20000 in
theorem ggX6_pour_X6_within : GoodIn wsX6_pour wsX6_within := goodIn_r _ [8] (by decide +kernel) (by decide +kernel)
set_option maxRecDepth 20000 in
theorem gX6_pour_X6_within : GoodIn wsX6_pour (va_wsS RX6 29 yX6_within wsX6_within) := goodIn_app (goodIn_of _ (by decide +kernel)) ggX6_pour_X6_within
set_option maxRecDepth 20000 in
theorem ggX6_pour_X6_inJar : GoodIn wsX6_pour wsX6_inJar := goodIn_r _ [18, 19, 20, 21, 4, 22, 23, 24, 25, 26, 37, 38, 39, 40, 41, 42, 43, 44, 45, 46, 47, 48] (by decide +kernel) (by decide +kernel)
set_option maxRecDepth 20000 in
theorem gX6_pour_X6_inJar : GoodIn wsX6_pour (wsV RX6 98 RX6 yX6_inJar wsX6_inJar) := goodIn_app (goodIn_of _ (by decide +kernel)) ggX6_pour_X6_inJar
set_option maxRecDepth 20000 in
theorem ggX6_pour_X6_save : GoodIn wsX6_pour wsX6_save := goodIn_r _ [30, 31, 32, 23, 37, 38, 39, 40, 41, 42, 43, 44, 45, 46, 47, 48] (by decide +kernel) (by decide +kernel)
set_option maxRecDepth 20000 in
theorem gX6_pour_X6_save : GoodIn wsX6_pour (wsV RX6 76 RX6 yX6_save wsX6_save) := goodIn_app (goodIn_of _ (by decide +kernel)) ggX6_pour_X6_save
set_option maxRecDepth 20000 in
theorem ggX6_pour_X6_bring : GoodIn wsX6_pour wsX6_bring := goodIn_r _ [36, 23, 24, 25, 4, 26, 37, 38, 39, 40, 41, 42, 43, 44, 45, 46, 47, 48] (by decide +kernel) (by decide +kernel)
set_option maxRecDepth 20000 in
theorem gX6_pour_X6_bring : GoodIn wsX6_pour (wsV RX6 101 RX6 yX6_bring wsX6_bring) := goodIn_app (goodIn_of _ (by decide +kernel)) ggX6_pour_X6_bring
set_option maxRecDepth 20000 in
theorem ggX6_pour_X6_inSlice : GoodIn wsX6_pour wsX6_inSlice := goodIn_r _ [22, 23, 24, 25, 4, 26, 37, 38, 39, 40, 41, 42, 43, 44, 45, 46, 47, 48] (by decide +kernel) (by decide +kernel)
set_option maxRecDepth 20000 in
theorem gX6_pour_X6_inSlice : GoodIn wsX6_pour (wsV RX6 37 RX6 yX6_inSlice wsX6_inSlice) := goodIn_app (goodIn_of _ (by decide +kernel)) ggX6_pour_X6_inSlice
theorem dX6_pour_0 : decode cX6_pour 0 = .ok (.iload_n 1, 1) := by decide +kernel
theorem dX6_pour_1 : decode cX6_pour 1 = .ok (.invokestatic 92, 3) := by decide +kernel
theorem dX6_pour_4 : decode cX6_pour 4 = .ok (.ifCond .eq 21, 3) := by decide +kernel
theorem dX6_pour_7 : decode cX6_pour 7 = .ok (.iload_n 2, 1) := by decide +kernel
theorem dX6_pour_8 : decode cX6_pour 8 = .ok (.invokestatic 95, 3) := by decide +kernel
theorem dX6_pour_11 : decode cX6_pour 11 = .ok (.ifCond .eq 14, 3) := by decide +kernel
theorem dX6_pour_14 : decode cX6_pour 14 = .ok (.iload_n 3, 1) := by decide +kernel
theorem dX6_pour_15 : decode cX6_pour 15 = .ok (.invokestatic 89, 3) := by decide +kernel
theorem dX6_pour_18 : decode cX6_pour 18 = .ok (.ifCond .eq 7, 3) := by decide +kernel
theorem dX6_pour_21 : decode cX6_pour 21 = .ok (.iconst 1, 1) := by decide +kernel
theorem dX6_pour_22 : decode cX6_pour 22 = .ok (.goto 4, 3) := by decide +kernel
theorem dX6_pour_25 : decode cX6_pour 25 = .ok (.iconst 0, 1) := by decide +kernel
theorem dX6_pour_26 : decode cX6_pour 26 = .ok (.istore 5, 2) := by decide +kernel
theorem dX6_pour_28 : decode cX6_pour 28 = .ok (.iload 5, 2) := by decide +kernel
theorem dX6_pour_30 : decode cX6_pour 30 = .ok (.ifCond .ne 10, 3) := by decide +kernel
theorem dX6_pour_33 : decode cX6_pour 33 = .ok (.aload_n 0, 1) := by decide +kernel
theorem dX6_pour_34 : decode cX6_pour 34 = .ok (.iconst 1, 1) := by decide +kernel
theorem dX6_pour_35 : decode cX6_pour 35 = .ok (.putfield 25, 3) := by decide +kernel
theorem dX6_pour_38 : decode cX6_pour 38 = .ok (.iconst 0, 1) := by decide +kernel
theorem dX6_pour_39 : decode cX6_pour 39 = .ok (.ireturn, 1) := by decide +kernel
theorem dX6_pour_40 : decode cX6_pour 40 = .ok (.aload_n 0, 1) := by decide +kernel
theorem dX6_pour_41 : decode cX6_pour 41 = .ok (.iload 4, 2) := by decide +kernel
theorem dX6_pour_43 : decode cX6_pour 43 = .ok (.iconst 1, 1) := by decide +kernel
theorem dX6_pour_44 : decode cX6_pour 44 = .ok (.sipush 999, 3) := by decide +kernel
theorem dX6_pour_47 : decode cX6_pour 47 = .ok (.invokestatic 29, 3) := by decide +kernel
theorem dX6_pour_50 : decode cX6_pour 50 = .ok (.ifCond .ne 7, 3) := by decide +kernel
theorem dX6_pour_53 : decode cX6_pour 53 = .ok (.iconst 2, 1) := by decide +kernel
theorem dX6_pour_54 : decode cX6_pour 54 = .ok (.goto 22, 3) := by decide +kernel
theorem dX6_pour_57 : decode cX6_pour 57 = .ok (.aload_n 0, 1) := by decide +kernel
theorem dX6_pour_58 : decode cX6_pour 58 = .ok (.iload_n 1, 1) := by decide +kernel
theorem dX6_pour_59 : decode cX6_pour 59 = .ok (.invokevirtual 98, 3) := by decide +kernel
theorem dX6_pour_62 : decode cX6_pour 62 = .ok (.iload 4, 2) := by decide +kernel
theorem dX6_pour_64 : decode cX6_pour 64 = .ok (.iadd, 1) := by decide +kernel
theorem dX6_pour_65 : decode cX6_pour 65 = .ok (.sipush 5000, 3) := by decide +kernel
theorem dX6_pour_68 : decode cX6_pour 68 = .ok (.if_icmp .le 7, 3) := by decide +kernel
theorem dX6_pour_71 : decode cX6_pour 71 = .ok (.iconst 3, 1) := by decide +kernel
theorem dX6_pour_72 : decode cX6_pour 72 = .ok (.goto 4, 3) := by decide +kernel
theorem dX6_pour_75 : decode cX6_pour 75 = .ok (.iconst 0, 1) := by decide +kernel
theorem dX6_pour_76 : decode cX6_pour 76 = .ok (.putfield 25, 3) := by decide +kernel
theorem dX6_pour_79 : decode cX6_pour 79 = .ok (.aload_n 0, 1) := by decide +kernel
theorem dX6_pour_80 : decode cX6_pour 80 = .ok (.getfield 25, 3) := by decide +kernel
theorem dX6_pour_83 : decode cX6_pour 83 = .ok (.ifCond .le 5, 3) := by decide +kernel
theorem dX6_pour_86 : decode cX6_pour 86 = .ok (.iconst 0, 1) := by decide +kernel
theorem dX6_pour_87 : decode cX6_pour 87 = .ok (.ireturn, 1) := by decide +kernel
theorem dX6_pour_88 : decode cX6_pour 88 = .ok (.aload_n 0, 1) := by decide +kernel
theorem dX6_pour_89 : decode cX6_pour 89 = .ok (.invokevirtual 76, 3) := by decide +kernel
theorem dX6_pour_92 : decode cX6_pour 92 = .ok (.aload_n 0, 1) := by decide +kernel
theorem dX6_pour_93 : decode cX6_pour 93 = .ok (.iload_n 1, 1) := by decide +kernel
theorem dX6_pour_94 : decode cX6_pour 94 = .ok (.iload_n 2, 1) := by decide +kernel
theorem dX6_pour_95 : decode cX6_pour 95 = .ok (.iload_n 3, 1) := by decide +kernel
theorem dX6_pour_96 : decode cX6_pour 96 = .ok (.iload 4, 2) := by decide +kernel
theorem dX6_pour_98 : decode cX6_pour 98 = .ok (.invokevirtual 101, 3) := by decide +kernel
theorem dX6_pour_101 : decode cX6_pour 101 = .ok (.aload_n 0, 1) := by decide +kernel
theorem dX6_pour_102 : decode cX6_pour 102 = .ok (.iload_n 1, 1) := by decide +kernel
theorem dX6_pour_103 : decode cX6_pour 103 = .ok (.iload_n 2, 1) := by decide +kernel
theorem dX6_pour_104 : decode cX6_pour 104 = .ok (.invokevirtual 37, 3) := by decide +kernel
theorem dX6_pour_107 : decode cX6_pour 107 = .ok (.ireturn, 1) := by decide +kernel
set_option maxRecDepth 20000 in
theorem ggX6_stir_X6_isJar : GoodIn wsX6_stir wsX6_isJar := goodIn_r _ [6, 7, 8, 5, 9] (by decide +kernel) (by decide +kernel)
set_option maxRecDepth 20000 in
theorem gX6_stir_X6_isJar : GoodIn wsX6_stir (va_wsS RX6 92 yX6_isJar wsX6_isJar) := goodIn_app (goodIn_of _ (by decide +kernel)) ggX6_stir_X6_isJar
set_option maxRecDepth 20000 in
theorem ggX6_stir_X6_isSlice : GoodIn wsX6_stir wsX6_isSlice := goodIn_r _ [12, 7, 8, 5, 9] (by decide +kernel) (by decide +kernel)
set_option maxRecDepth 20000 in
theorem gX6_stir_X6_isSlice : GoodIn wsX6_stir (va_wsS RX6 95 yX6_isSlice wsX6_isSlice) := goodIn_app (goodIn_of _ (by decide +kernel)) ggX6_stir_X6_isSlice
set_option maxRecDepth 20000 in
theorem ggX6_stir_X6_save : GoodIn wsX6_stir wsX6_save := goodIn_r _ [16, 17, 18, 2, 22, 23, 24, 25, 26, 27, 28, 29, 30, 31, 32, 33] (by decide +kernel) (by decide +kernel)
set_option maxRecDepth 20000 in
theorem gX6_stir_X6_save : GoodIn wsX6_stir (wsV RX6 76 RX6 yX6_save wsX6_save) := goodIn_app (goodIn_of _ (by decide +kernel)) ggX6_stir_X6_save
set_option maxRecDepth 20000 in
theorem ggX6_stir_X6_place : GoodIn wsX6_stir wsX6_place := goodIn_r _ [21] (by decide +kernel) (by decide +kernel)
set_option maxRecDepth 20000 in
theorem gX6_stir_X6_place : GoodIn wsX6_stir (va_wsS RX6 33 yX6_place wsX6_place) := goodIn_app (goodIn_of _ (by decide +kernel)) ggX6_stir_X6_place
theorem dX6_stir_0 : decode cX6_stir 0 = .ok (.iload_n 1, 1) := by decide +kernel
theorem dX6_stir_1 : decode cX6_stir 1 = .ok (.invokestatic 92, 3) := by decide +kernel
theorem dX6_stir_4 : decode cX6_stir 4 = .ok (.ifCond .eq 21, 3) := by decide +kernel
theorem dX6_stir_7 : decode cX6_stir 7 = .ok (.iload_n 2, 1) := by decide +kernel
theorem dX6_stir_8 : decode cX6_stir 8 = .ok (.invokestatic 95, 3) := by decide +kernel
theorem dX6_stir_11 : decode cX6_stir 11 = .ok (.ifCond .eq 14, 3) := by decide +kernel
theorem dX6_stir_14 : decode cX6_stir 14 = .ok (.iload_n 3, 1) := by decide +kernel
theorem dX6_stir_15 : decode cX6_stir 15 = .ok (.invokestatic 95, 3) := by decide +kernel
theorem dX6_stir_18 : decode cX6_stir 18 = .ok (.ifCond .eq 7, 3) := by decide +kernel
theorem dX6_stir_21 : decode cX6_stir 21 = .ok (.iconst 1, 1) := by decide +kernel
theorem dX6_stir_22 : decode cX6_stir 22 = .ok (.goto 4, 3) := by decide +kernel
theorem dX6_stir_25 : decode cX6_stir 25 = .ok (.iconst 0, 1) := by decide +kernel
theorem dX6_stir_26 : decode cX6_stir 26 = .ok (.istore 4, 2) := by decide +kernel
theorem dX6_stir_28 : decode cX6_stir 28 = .ok (.aload_n 0, 1) := by decide +kernel
theorem dX6_stir_29 : decode cX6_stir 29 = .ok (.iload 4, 2) := by decide +kernel
theorem dX6_stir_31 : decode cX6_stir 31 = .ok (.ifCond .ne 7, 3) := by decide +kernel
theorem dX6_stir_34 : decode cX6_stir 34 = .ok (.iconst 1, 1) := by decide +kernel
theorem dX6_stir_35 : decode cX6_stir 35 = .ok (.goto 13, 3) := by decide +kernel
theorem dX6_stir_38 : decode cX6_stir 38 = .ok (.iload_n 2, 1) := by decide +kernel
theorem dX6_stir_39 : decode cX6_stir 39 = .ok (.iload_n 3, 1) := by decide +kernel
theorem dX6_stir_40 : decode cX6_stir 40 = .ok (.if_icmp .le 7, 3) := by decide +kernel
theorem dX6_stir_43 : decode cX6_stir 43 = .ok (.iconst 2, 1) := by decide +kernel
theorem dX6_stir_44 : decode cX6_stir 44 = .ok (.goto 4, 3) := by decide +kernel
theorem dX6_stir_47 : decode cX6_stir 47 = .ok (.iconst 0, 1) := by decide +kernel
theorem dX6_stir_48 : decode cX6_stir 48 = .ok (.putfield 25, 3) := by decide +kernel
theorem dX6_stir_51 : decode cX6_stir 51 = .ok (.aload_n 0, 1) := by decide +kernel
theorem dX6_stir_52 : decode cX6_stir 52 = .ok (.getfield 25, 3) := by decide +kernel
theorem dX6_stir_55 : decode cX6_stir 55 = .ok (.ifCond .le 5, 3) := by decide +kernel
theorem dX6_stir_58 : decode cX6_stir 58 = .ok (.iconst 0, 1) := by decide +kernel
theorem dX6_stir_59 : decode cX6_stir 59 = .ok (.ireturn, 1) := by decide +kernel
theorem dX6_stir_60 : decode cX6_stir 60 = .ok (.aload_n 0, 1) := by decide +kernel
theorem dX6_stir_61 : decode cX6_stir 61 = .ok (.invokevirtual 76, 3) := by decide +kernel
theorem dX6_stir_64 : decode cX6_stir 64 = .ok (.iload_n 3, 1) := by decide +kernel
theorem dX6_stir_65 : decode cX6_stir 65 = .ok (.iload_n 2, 1) := by decide +kernel
theorem dX6_stir_66 : decode cX6_stir 66 = .ok (.isub, 1) := by decide +kernel
theorem dX6_stir_67 : decode cX6_stir 67 = .ok (.iconst 1, 1) := by decide +kernel
theorem dX6_stir_68 : decode cX6_stir 68 = .ok (.iadd, 1) := by decide +kernel
theorem dX6_stir_69 : decode cX6_stir 69 = .ok (.istore 5, 2) := by decide +kernel
theorem dX6_stir_71 : decode cX6_stir 71 = .ok (.iconst 0, 1) := by decide +kernel
theorem dX6_stir_72 : decode cX6_stir 72 = .ok (.istore 6, 2) := by decide +kernel
theorem dX6_stir_74 : decode cX6_stir 74 = .ok (.iconst 0, 1) := by decide +kernel
theorem dX6_stir_75 : decode cX6_stir 75 = .ok (.istore 7, 2) := by decide +kernel
theorem dX6_stir_77 : decode cX6_stir 77 = .ok (.iload 7, 2) := by decide +kernel
theorem dX6_stir_79 : decode cX6_stir 79 = .ok (.iconst 4, 1) := by decide +kernel
theorem dX6_stir_80 : decode cX6_stir 80 = .ok (.if_icmp .ge 103, 3) := by decide +kernel
theorem dX6_stir_83 : decode cX6_stir 83 = .ok (.iconst 0, 1) := by decide +kernel
theorem dX6_stir_84 : decode cX6_stir 84 = .ok (.istore 8, 2) := by decide +kernel
theorem dX6_stir_86 : decode cX6_stir 86 = .ok (.iload_n 2, 1) := by decide +kernel
theorem dX6_stir_87 : decode cX6_stir 87 = .ok (.istore 9, 2) := by decide +kernel
theorem dX6_stir_89 : decode cX6_stir 89 = .ok (.iload 9, 2) := by decide +kernel
theorem dX6_stir_91 : decode cX6_stir 91 = .ok (.iload_n 3, 1) := by decide +kernel
theorem dX6_stir_92 : decode cX6_stir 92 = .ok (.if_icmp .gt 27, 3) := by decide +kernel
theorem dX6_stir_95 : decode cX6_stir 95 = .ok (.iload 8, 2) := by decide +kernel
theorem dX6_stir_97 : decode cX6_stir 97 = .ok (.aload_n 0, 1) := by decide +kernel
theorem dX6_stir_98 : decode cX6_stir 98 = .ok (.getfield 7, 3) := by decide +kernel
theorem dX6_stir_101 : decode cX6_stir 101 = .ok (.iload_n 1, 1) := by decide +kernel
theorem dX6_stir_102 : decode cX6_stir 102 = .ok (.iload 9, 2) := by decide +kernel
theorem dX6_stir_104 : decode cX6_stir 104 = .ok (.iload 7, 2) := by decide +kernel
theorem dX6_stir_106 : decode cX6_stir 106 = .ok (.invokestatic 33, 3) := by decide +kernel
theorem dX6_stir_109 : decode cX6_stir 109 = .ok (.iaload, 1) := by decide +kernel
theorem dX6_stir_110 : decode cX6_stir 110 = .ok (.iadd, 1) := by decide +kernel
theorem dX6_stir_111 : decode cX6_stir 111 = .ok (.istore 8, 2) := by decide +kernel
theorem dX6_stir_113 : decode cX6_stir 113 = .ok (.iinc 9 1, 3) := by decide +kernel
theorem dX6_stir_116 : decode cX6_stir 116 = .ok (.goto (-27), 3) := by decide +kernel
theorem dX6_stir_119 : decode cX6_stir 119 = .ok (.iload_n 2, 1) := by decide +kernel
theorem dX6_stir_120 : decode cX6_stir 120 = .ok (.istore 9, 2) := by decide +kernel
theorem dX6_stir_122 : decode cX6_stir 122 = .ok (.iload 9, 2) := by decide +kernel
theorem dX6_stir_124 : decode cX6_stir 124 = .ok (.iload_n 3, 1) := by decide +kernel
theorem dX6_stir_125 : decode cX6_stir 125 = .ok (.if_icmp .gt 45, 3) := by decide +kernel
theorem dX6_stir_128 : decode cX6_stir 128 = .ok (.aload_n 0, 1) := by decide +kernel
theorem dX6_stir_129 : decode cX6_stir 129 = .ok (.getfield 7, 3) := by decide +kernel
theorem dX6_stir_132 : decode cX6_stir 132 = .ok (.iload_n 1, 1) := by decide +kernel
theorem dX6_stir_133 : decode cX6_stir 133 = .ok (.iload 9, 2) := by decide +kernel
theorem dX6_stir_135 : decode cX6_stir 135 = .ok (.iload 7, 2) := by decide +kernel
theorem dX6_stir_137 : decode cX6_stir 137 = .ok (.invokestatic 33, 3) := by decide +kernel
theorem dX6_stir_140 : decode cX6_stir 140 = .ok (.iload 8, 2) := by decide +kernel
theorem dX6_stir_142 : decode cX6_stir 142 = .ok (.iload 5, 2) := by decide +kernel
theorem dX6_stir_144 : decode cX6_stir 144 = .ok (.idiv, 1) := by decide +kernel
theorem dX6_stir_145 : decode cX6_stir 145 = .ok (.iload 9, 2) := by decide +kernel
theorem dX6_stir_147 : decode cX6_stir 147 = .ok (.iload_n 2, 1) := by decide +kernel
theorem dX6_stir_148 : decode cX6_stir 148 = .ok (.isub, 1) := by decide +kernel
theorem dX6_stir_149 : decode cX6_stir 149 = .ok (.iload 8, 2) := by decide +kernel
theorem dX6_stir_151 : decode cX6_stir 151 = .ok (.iload 5, 2) := by decide +kernel
theorem dX6_stir_153 : decode cX6_stir 153 = .ok (.irem, 1) := by decide +kernel
theorem dX6_stir_154 : decode cX6_stir 154 = .ok (.if_icmp .ge 7, 3) := by decide +kernel
theorem dX6_stir_157 : decode cX6_stir 157 = .ok (.iconst 1, 1) := by decide +kernel
theorem dX6_stir_158 : decode cX6_stir 158 = .ok (.goto 4, 3) := by decide +kernel
theorem dX6_stir_161 : decode cX6_stir 161 = .ok (.iconst 0, 1) := by decide +kernel
theorem dX6_stir_162 : decode cX6_stir 162 = .ok (.iadd, 1) := by decide +kernel
theorem dX6_stir_163 : decode cX6_stir 163 = .ok (.iastore, 1) := by decide +kernel
theorem dX6_stir_164 : decode cX6_stir 164 = .ok (.iinc 9 1, 3) := by decide +kernel
theorem dX6_stir_167 : decode cX6_stir 167 = .ok (.goto (-45), 3) := by decide +kernel
theorem dX6_stir_170 : decode cX6_stir 170 = .ok (.iload 6, 2) := by decide +kernel
theorem dX6_stir_172 : decode cX6_stir 172 = .ok (.iload 8, 2) := by decide +kernel
theorem dX6_stir_174 : decode cX6_stir 174 = .ok (.iadd, 1) := by decide +kernel
theorem dX6_stir_175 : decode cX6_stir 175 = .ok (.istore 6, 2) := by decide +kernel
theorem dX6_stir_177 : decode cX6_stir 177 = .ok (.iinc 7 1, 3) := by decide +kernel
theorem dX6_stir_180 : decode cX6_stir 180 = .ok (.goto (-103), 3) := by decide +kernel
theorem dX6_stir_183 : decode cX6_stir 183 = .ok (.iload 6, 2) := by decide +kernel
theorem dX6_stir_185 : decode cX6_stir 185 = .ok (.ireturn, 1) := by decide +kernel
set_option maxRecDepth 20000 in
theorem ggX6_draw_X6_isJar : GoodIn wsX6_draw wsX6_isJar := goodIn_r _ [6, 7, 8, 5, 9] (by decide +kernel) (by decide +kernel)
set_option maxRecDepth 20000 in
theorem gX6_draw_X6_isJar : GoodIn wsX6_draw (va_wsS RX6 92 yX6_isJar wsX6_isJar) := goodIn_app (goodIn_of _ (by decide +kernel)) ggX6_draw_X6_isJar
set_option maxRecDepth 20000 in
theorem ggX6_draw_X6_isSlice : GoodIn wsX6_draw wsX6_isSlice := goodIn_r _ [12, 7, 8, 5, 9] (by decide +kernel) (by decide +kernel)
set_option maxRecDepth 20000 in
theorem gX6_draw_X6_isSlice : GoodIn wsX6_draw (va_wsS RX6 95 yX6_isSlice wsX6_isSlice) := goodIn_app (goodIn_of _ (by decide +kernel)) ggX6_draw_X6_isSlice
set_option maxRecDepth 20000 in
theorem ggX6_draw_X6_within : GoodIn wsX6_draw wsX6_within := goodIn_r _ [9] (by decide +kernel) (by decide +kernel)
set_option maxRecDepth 20000 in
theorem gX6_draw_X6_within : GoodIn wsX6_draw (va_wsS RX6 29 yX6_within wsX6_within) := goodIn_app (goodIn_of _ (by decide +kernel)) ggX6_draw_X6_within
set_option maxRecDepth 20000 in
theorem ggX6_draw_X6_save : GoodIn wsX6_draw wsX6_save := goodIn_r _ [16, 17, 18, 2, 22, 23, 24, 25, 26, 27, 28, 29, 30, 31, 32, 33] (by decide +kernel) (by decide +kernel)
set_option maxRecDepth 20000 in
theorem gX6_draw_X6_save : GoodIn wsX6_draw (wsV RX6 76 RX6 yX6_save wsX6_save) := goodIn_app (goodIn_of _ (by decide +kernel)) ggX6_draw_X6_save
set_option maxRecDepth 20000 in
theorem ggX6_draw_X6_place : GoodIn wsX6_draw wsX6_place := goodIn_r _ [21] (by decide +kernel) (by decide +kernel)
set_option maxRecDepth 20000 in
theorem gX6_draw_X6_place : GoodIn wsX6_draw (va_wsS RX6 33 yX6_place wsX6_place) := goodIn_app (goodIn_of _ (by decide +kernel)) ggX6_draw_X6_place
theorem dX6_draw_0 : decode cX6_draw 0 = .ok (.iload_n 1, 1) := by decide +kernel
theorem dX6_draw_1 : decode cX6_draw 1 = .ok (.invokestatic 92, 3) := by decide +kernel
theorem dX6_draw_4 : decode cX6_draw 4 = .ok (.ifCond .eq 14, 3) := by decide +kernel
theorem dX6_draw_7 : decode cX6_draw 7 = .ok (.iload_n 2, 1) := by decide +kernel
theorem dX6_draw_8 : decode cX6_draw 8 = .ok (.invokestatic 95, 3) := by decide +kernel
theorem dX6_draw_11 : decode cX6_draw 11 = .ok (.ifCond .eq 7, 3) := by decide +kernel
theorem dX6_draw_14 : decode cX6_draw 14 = .ok (.iconst 1, 1) := by decide +kernel
theorem dX6_draw_15 : decode cX6_draw 15 = .ok (.goto 4, 3) := by decide +kernel
theorem dX6_draw_18 : decode cX6_draw 18 = .ok (.iconst 0, 1) := by decide +kernel
theorem dX6_draw_19 : decode cX6_draw 19 = .ok (.istore 4, 2) := by decide +kernel
theorem dX6_draw_21 : decode cX6_draw 21 = .ok (.aload_n 0, 1) := by decide +kernel
theorem dX6_draw_22 : decode cX6_draw 22 = .ok (.iload 4, 2) := by decide +kernel
theorem dX6_draw_24 : decode cX6_draw 24 = .ok (.ifCond .ne 7, 3) := by decide +kernel
theorem dX6_draw_27 : decode cX6_draw 27 = .ok (.iconst 1, 1) := by decide +kernel
theorem dX6_draw_28 : decode cX6_draw 28 = .ok (.goto 18, 3) := by decide +kernel
theorem dX6_draw_31 : decode cX6_draw 31 = .ok (.iload_n 3, 1) := by decide +kernel
theorem dX6_draw_32 : decode cX6_draw 32 = .ok (.iconst 1, 1) := by decide +kernel
theorem dX6_draw_33 : decode cX6_draw 33 = .ok (.bipush 100, 2) := by decide +kernel
theorem dX6_draw_35 : decode cX6_draw 35 = .ok (.invokestatic 29, 3) := by decide +kernel
theorem dX6_draw_38 : decode cX6_draw 38 = .ok (.ifCond .eq 7, 3) := by decide +kernel
theorem dX6_draw_41 : decode cX6_draw 41 = .ok (.iconst 0, 1) := by decide +kernel
theorem dX6_draw_42 : decode cX6_draw 42 = .ok (.goto 4, 3) := by decide +kernel
theorem dX6_draw_45 : decode cX6_draw 45 = .ok (.iconst 2, 1) := by decide +kernel
theorem dX6_draw_46 : decode cX6_draw 46 = .ok (.putfield 25, 3) := by decide +kernel
theorem dX6_draw_49 : decode cX6_draw 49 = .ok (.aload_n 0, 1) := by decide +kernel
theorem dX6_draw_50 : decode cX6_draw 50 = .ok (.getfield 25, 3) := by decide +kernel
theorem dX6_draw_53 : decode cX6_draw 53 = .ok (.ifCond .le 5, 3) := by decide +kernel
theorem dX6_draw_56 : decode cX6_draw 56 = .ok (.iconst 0, 1) := by decide +kernel
theorem dX6_draw_57 : decode cX6_draw 57 = .ok (.ireturn, 1) := by decide +kernel
theorem dX6_draw_58 : decode cX6_draw 58 = .ok (.aload_n 0, 1) := by decide +kernel
theorem dX6_draw_59 : decode cX6_draw 59 = .ok (.invokevirtual 76, 3) := by decide +kernel
theorem dX6_draw_62 : decode cX6_draw 62 = .ok (.iconst 0, 1) := by decide +kernel
theorem dX6_draw_63 : decode cX6_draw 63 = .ok (.istore 5, 2) := by decide +kernel
theorem dX6_draw_65 : decode cX6_draw 65 = .ok (.iconst 0, 1) := by decide +kernel
theorem dX6_draw_66 : decode cX6_draw 66 = .ok (.istore 6, 2) := by decide +kernel
theorem dX6_draw_68 : decode cX6_draw 68 = .ok (.iload 6, 2) := by decide +kernel
theorem dX6_draw_70 : decode cX6_draw 70 = .ok (.iconst 4, 1) := by decide +kernel
theorem dX6_draw_71 : decode cX6_draw 71 = .ok (.if_icmp .ge 68, 3) := by decide +kernel
theorem dX6_draw_74 : decode cX6_draw 74 = .ok (.aload_n 0, 1) := by decide +kernel
theorem dX6_draw_75 : decode cX6_draw 75 = .ok (.getfield 7, 3) := by decide +kernel
theorem dX6_draw_78 : decode cX6_draw 78 = .ok (.iload_n 1, 1) := by decide +kernel
theorem dX6_draw_79 : decode cX6_draw 79 = .ok (.iload_n 2, 1) := by decide +kernel
theorem dX6_draw_80 : decode cX6_draw 80 = .ok (.iload 6, 2) := by decide +kernel
theorem dX6_draw_82 : decode cX6_draw 82 = .ok (.invokestatic 33, 3) := by decide +kernel
theorem dX6_draw_85 : decode cX6_draw 85 = .ok (.iaload, 1) := by decide +kernel
theorem dX6_draw_86 : decode cX6_draw 86 = .ok (.iload_n 3, 1) := by decide +kernel
theorem dX6_draw_87 : decode cX6_draw 87 = .ok (.imul, 1) := by decide +kernel
theorem dX6_draw_88 : decode cX6_draw 88 = .ok (.bipush 100, 2) := by decide +kernel
theorem dX6_draw_90 : decode cX6_draw 90 = .ok (.idiv, 1) := by decide +kernel
theorem dX6_draw_91 : decode cX6_draw 91 = .ok (.istore 7, 2) := by decide +kernel
theorem dX6_draw_93 : decode cX6_draw 93 = .ok (.aload_n 0, 1) := by decide +kernel
theorem dX6_draw_94 : decode cX6_draw 94 = .ok (.getfield 7, 3) := by decide +kernel
theorem dX6_draw_97 : decode cX6_draw 97 = .ok (.iload_n 1, 1) := by decide +kernel
theorem dX6_draw_98 : decode cX6_draw 98 = .ok (.iload_n 2, 1) := by decide +kernel
theorem dX6_draw_99 : decode cX6_draw 99 = .ok (.iload 6, 2) := by decide +kernel
theorem dX6_draw_101 : decode cX6_draw 101 = .ok (.invokestatic 33, 3) := by decide +kernel
theorem dX6_draw_104 : decode cX6_draw 104 = .ok (.dup2, 1) := by decide +kernel
theorem dX6_draw_105 : decode cX6_draw 105 = .ok (.iaload, 1) := by decide +kernel
theorem dX6_draw_106 : decode cX6_draw 106 = .ok (.iload 7, 2) := by decide +kernel
theorem dX6_draw_108 : decode cX6_draw 108 = .ok (.isub, 1) := by decide +kernel
theorem dX6_draw_109 : decode cX6_draw 109 = .ok (.iastore, 1) := by decide +kernel
theorem dX6_draw_110 : decode cX6_draw 110 = .ok (.aload_n 0, 1) := by decide +kernel
theorem dX6_draw_111 : decode cX6_draw 111 = .ok (.getfield 7, 3) := by decide +kernel
theorem dX6_draw_114 : decode cX6_draw 114 = .ok (.sipush 156, 3) := by decide +kernel
theorem dX6_draw_117 : decode cX6_draw 117 = .ok (.iload 6, 2) := by decide +kernel
theorem dX6_draw_119 : decode cX6_draw 119 = .ok (.iadd, 1) := by decide +kernel
theorem dX6_draw_120 : decode cX6_draw 120 = .ok (.dup2, 1) := by decide +kernel
theorem dX6_draw_121 : decode cX6_draw 121 = .ok (.iaload, 1) := by decide +kernel
theorem dX6_draw_122 : decode cX6_draw 122 = .ok (.iload 7, 2) := by decide +kernel
theorem dX6_draw_124 : decode cX6_draw 124 = .ok (.iadd, 1) := by decide +kernel
theorem dX6_draw_125 : decode cX6_draw 125 = .ok (.iastore, 1) := by decide +kernel
theorem dX6_draw_126 : decode cX6_draw 126 = .ok (.iload 5, 2) := by decide +kernel
theorem dX6_draw_128 : decode cX6_draw 128 = .ok (.iload 7, 2) := by decide +kernel
theorem dX6_draw_130 : decode cX6_draw 130 = .ok (.iadd, 1) := by decide +kernel
theorem dX6_draw_131 : decode cX6_draw 131 = .ok (.istore 5, 2) := by decide +kernel
theorem dX6_draw_133 : decode cX6_draw 133 = .ok (.iinc 6 1, 3) := by decide +kernel
theorem dX6_draw_136 : decode cX6_draw 136 = .ok (.goto (-68), 3) := by decide +kernel
theorem dX6_draw_139 : decode cX6_draw 139 = .ok (.iload 5, 2) := by decide +kernel
theorem dX6_draw_141 : decode cX6_draw 141 = .ok (.ireturn, 1) := by decide +kernel
set_option maxRecDepth 20000 in
theorem ggX6_upTo_X6_inSlice : GoodIn wsX6_upTo wsX6_inSlice := goodIn_r _ [5, 6, 7, 8, 4, 9, 10, 11, 12, 13, 14, 15, 16, 17, 18, 19, 20, 21] (by decide +kernel) (by decide +kernel)
set_option maxRecDepth 20000 in
theorem gX6_upTo_X6_inSlice : GoodIn wsX6_upTo (wsV RX6 37 RX6 yX6_inSlice wsX6_inSlice) := goodIn_app (goodIn_of _ (by decide +kernel)) ggX6_upTo_X6_inSlice
theorem dX6_upTo_0 : decode cX6_upTo 0 = .ok (.iconst 0, 1) := by decide +kernel
theorem dX6_upTo_1 : decode cX6_upTo 1 = .ok (.istore_n 3, 1) := by decide +kernel
theorem dX6_upTo_2 : decode cX6_upTo 2 = .ok (.iconst 0, 1) := by decide +kernel
theorem dX6_upTo_3 : decode cX6_upTo 3 = .ok (.istore 4, 2) := by decide +kernel
theorem dX6_upTo_5 : decode cX6_upTo 5 = .ok (.iload 4, 2) := by decide +kernel
theorem dX6_upTo_7 : decode cX6_upTo 7 = .ok (.iload_n 2, 1) := by decide +kernel
theorem dX6_upTo_8 : decode cX6_upTo 8 = .ok (.if_icmp .gt 19, 3) := by decide +kernel
theorem dX6_upTo_11 : decode cX6_upTo 11 = .ok (.iload_n 3, 1) := by decide +kernel
theorem dX6_upTo_12 : decode cX6_upTo 12 = .ok (.aload_n 0, 1) := by decide +kernel
theorem dX6_upTo_13 : decode cX6_upTo 13 = .ok (.iload_n 1, 1) := by decide +kernel
theorem dX6_upTo_14 : decode cX6_upTo 14 = .ok (.iload 4, 2) := by decide +kernel
theorem dX6_upTo_16 : decode cX6_upTo 16 = .ok (.invokevirtual 37, 3) := by decide +kernel
theorem dX6_upTo_19 : decode cX6_upTo 19 = .ok (.iadd, 1) := by decide +kernel
theorem dX6_upTo_20 : decode cX6_upTo 20 = .ok (.istore_n 3, 1) := by decide +kernel
theorem dX6_upTo_21 : decode cX6_upTo 21 = .ok (.iinc 4 1, 3) := by decide +kernel
theorem dX6_upTo_24 : decode cX6_upTo 24 = .ok (.goto (-19), 3) := by decide +kernel
theorem dX6_upTo_27 : decode cX6_upTo 27 = .ok (.iload_n 3, 1) := by decide +kernel
theorem dX6_upTo_28 : decode cX6_upTo 28 = .ok (.ireturn, 1) := by decide +kernel
set_option maxRecDepth 20000 in
theorem ggX6_decant_X6_isJar : GoodIn wsX6_decant wsX6_isJar := goodIn_r _ [6, 7, 8, 5, 9] (by decide +kernel) (by decide +kernel)
set_option maxRecDepth 20000 in
theorem gX6_decant_X6_isJar : GoodIn wsX6_decant (va_wsS RX6 92 yX6_isJar wsX6_isJar) := goodIn_app (goodIn_of _ (by decide +kernel)) ggX6_decant_X6_isJar
set_option maxRecDepth 20000 in
theorem ggX6_decant_X6_isSlice : GoodIn wsX6_decant wsX6_isSlice := goodIn_r _ [12, 7, 8, 5, 9] (by decide +kernel) (by decide +kernel)
set_option maxRecDepth 20000 in
theorem gX6_decant_X6_isSlice : GoodIn wsX6_decant (va_wsS RX6 95 yX6_isSlice wsX6_isSlice) := goodIn_app (goodIn_of _ (by decide +kernel)) ggX6_decant_X6_isSlice
set_option maxRecDepth 20000 in
theorem ggX6_decant_X6_inJar : GoodIn wsX6_decant wsX6_inJar := goodIn_r _ [16, 17, 18, 19, 5, 20, 2, 21, 22, 23, 34, 35, 36, 37, 38, 39, 40, 41, 42, 43, 44, 45] (by decide +kernel) (by decide +kernel)
set_option maxRecDepth 20000 in
theorem gX6_decant_X6_inJar : GoodIn wsX6_decant (wsV RX6 98 RX6 yX6_inJar wsX6_inJar) := goodIn_app (goodIn_of _ (by decide +kernel)) ggX6_decant_X6_inJar
set_option maxRecDepth 20000 in
theorem ggX6_decant_X6_upTo : GoodIn wsX6_decant wsX6_upTo := goodIn_r _ [27, 17, 18, 19, 5, 20, 2, 21, 22, 23, 34, 35, 36, 37, 38, 39, 40, 41, 42, 43, 44, 45] (by decide +kernel) (by decide +kernel)
set_option maxRecDepth 20000 in
theorem gX6_decant_X6_upTo : GoodIn wsX6_decant (wsV RX6 105 RX6 yX6_upTo wsX6_upTo) := goodIn_app (goodIn_of _ (by decide +kernel)) ggX6_decant_X6_upTo
set_option maxRecDepth 20000 in
theorem ggX6_decant_X6_save : GoodIn wsX6_decant wsX6_save := goodIn_r _ [31, 32, 33, 2, 34, 35, 36, 37, 38, 39, 40, 41, 42, 43, 44, 45] (by decide +kernel) (by decide +kernel)
set_option maxRecDepth 20000 in
theorem gX6_decant_X6_save : GoodIn wsX6_decant (wsV RX6 76 RX6 yX6_save wsX6_save) := goodIn_app (goodIn_of _ (by decide +kernel)) ggX6_decant_X6_save
set_option maxRecDepth 20000 in
theorem ggX6_decant_X6_place : GoodIn wsX6_decant wsX6_place := goodIn_r _ [23] (by decide +kernel) (by decide +kernel)
set_option maxRecDepth 20000 in
theorem gX6_decant_X6_place : GoodIn wsX6_decant (va_wsS RX6 33 yX6_place wsX6_place) := goodIn_app (goodIn_of _ (by decide +kernel)) ggX6_decant_X6_place
theorem dX6_decant_0 : decode cX6_decant 0 = .ok (.iload_n 1, 1) := by decide +kernel
theorem dX6_decant_1 : decode cX6_decant 1 = .ok (.invokestatic 92, 3) := by decide +kernel
theorem dX6_decant_4 : decode cX6_decant 4 = .ok (.ifCond .eq 21, 3) := by decide +kernel
theorem dX6_decant_7 : decode cX6_decant 7 = .ok (.iload_n 2, 1) := by decide +kernel
theorem dX6_decant_8 : decode cX6_decant 8 = .ok (.invokestatic 92, 3) := by decide +kernel
theorem dX6_decant_11 : decode cX6_decant 11 = .ok (.ifCond .eq 14, 3) := by decide +kernel
theorem dX6_decant_14 : decode cX6_decant 14 = .ok (.iload_n 3, 1) := by decide +kernel
theorem dX6_decant_15 : decode cX6_decant 15 = .ok (.invokestatic 95, 3) := by decide +kernel
theorem dX6_decant_18 : decode cX6_decant 18 = .ok (.ifCond .eq 7, 3) := by decide +kernel
theorem dX6_decant_21 : decode cX6_decant 21 = .ok (.iconst 1, 1) := by decide +kernel
theorem dX6_decant_22 : decode cX6_decant 22 = .ok (.goto 4, 3) := by decide +kernel
theorem dX6_decant_25 : decode cX6_decant 25 = .ok (.iconst 0, 1) := by decide +kernel
theorem dX6_decant_26 : decode cX6_decant 26 = .ok (.istore 4, 2) := by decide +kernel
theorem dX6_decant_28 : decode cX6_decant 28 = .ok (.iload 4, 2) := by decide +kernel
theorem dX6_decant_30 : decode cX6_decant 30 = .ok (.ifCond .ne 10, 3) := by decide +kernel
theorem dX6_decant_33 : decode cX6_decant 33 = .ok (.aload_n 0, 1) := by decide +kernel
theorem dX6_decant_34 : decode cX6_decant 34 = .ok (.iconst 1, 1) := by decide +kernel
theorem dX6_decant_35 : decode cX6_decant 35 = .ok (.putfield 25, 3) := by decide +kernel
theorem dX6_decant_38 : decode cX6_decant 38 = .ok (.iconst 0, 1) := by decide +kernel
theorem dX6_decant_39 : decode cX6_decant 39 = .ok (.ireturn, 1) := by decide +kernel
theorem dX6_decant_40 : decode cX6_decant 40 = .ok (.aload_n 0, 1) := by decide +kernel
theorem dX6_decant_41 : decode cX6_decant 41 = .ok (.iload_n 1, 1) := by decide +kernel
theorem dX6_decant_42 : decode cX6_decant 42 = .ok (.iload_n 2, 1) := by decide +kernel
theorem dX6_decant_43 : decode cX6_decant 43 = .ok (.if_icmp .ne 7, 3) := by decide +kernel
theorem dX6_decant_46 : decode cX6_decant 46 = .ok (.iconst 2, 1) := by decide +kernel
theorem dX6_decant_47 : decode cX6_decant 47 = .ok (.goto 26, 3) := by decide +kernel
theorem dX6_decant_50 : decode cX6_decant 50 = .ok (.aload_n 0, 1) := by decide +kernel
theorem dX6_decant_51 : decode cX6_decant 51 = .ok (.iload_n 2, 1) := by decide +kernel
theorem dX6_decant_52 : decode cX6_decant 52 = .ok (.invokevirtual 98, 3) := by decide +kernel
theorem dX6_decant_55 : decode cX6_decant 55 = .ok (.aload_n 0, 1) := by decide +kernel
theorem dX6_decant_56 : decode cX6_decant 56 = .ok (.iload_n 1, 1) := by decide +kernel
theorem dX6_decant_57 : decode cX6_decant 57 = .ok (.iload_n 3, 1) := by decide +kernel
theorem dX6_decant_58 : decode cX6_decant 58 = .ok (.invokevirtual 105, 3) := by decide +kernel
theorem dX6_decant_61 : decode cX6_decant 61 = .ok (.iadd, 1) := by decide +kernel
theorem dX6_decant_62 : decode cX6_decant 62 = .ok (.sipush 5000, 3) := by decide +kernel
theorem dX6_decant_65 : decode cX6_decant 65 = .ok (.if_icmp .le 7, 3) := by decide +kernel
theorem dX6_decant_68 : decode cX6_decant 68 = .ok (.iconst 3, 1) := by decide +kernel
theorem dX6_decant_69 : decode cX6_decant 69 = .ok (.goto 4, 3) := by decide +kernel
theorem dX6_decant_72 : decode cX6_decant 72 = .ok (.iconst 0, 1) := by decide +kernel
theorem dX6_decant_73 : decode cX6_decant 73 = .ok (.putfield 25, 3) := by decide +kernel
theorem dX6_decant_76 : decode cX6_decant 76 = .ok (.aload_n 0, 1) := by decide +kernel
theorem dX6_decant_77 : decode cX6_decant 77 = .ok (.getfield 25, 3) := by decide +kernel
theorem dX6_decant_80 : decode cX6_decant 80 = .ok (.ifCond .le 5, 3) := by decide +kernel
theorem dX6_decant_83 : decode cX6_decant 83 = .ok (.iconst 0, 1) := by decide +kernel
theorem dX6_decant_84 : decode cX6_decant 84 = .ok (.ireturn, 1) := by decide +kernel
theorem dX6_decant_85 : decode cX6_decant 85 = .ok (.aload_n 0, 1) := by decide +kernel
theorem dX6_decant_86 : decode cX6_decant 86 = .ok (.invokevirtual 76, 3) := by decide +kernel
theorem dX6_decant_89 : decode cX6_decant 89 = .ok (.aload_n 0, 1) := by decide +kernel
theorem dX6_decant_90 : decode cX6_decant 90 = .ok (.iload_n 1, 1) := by decide +kernel
theorem dX6_decant_91 : decode cX6_decant 91 = .ok (.iload_n 3, 1) := by decide +kernel
theorem dX6_decant_92 : decode cX6_decant 92 = .ok (.invokevirtual 105, 3) := by decide +kernel
theorem dX6_decant_95 : decode cX6_decant 95 = .ok (.istore 5, 2) := by decide +kernel
theorem dX6_decant_97 : decode cX6_decant 97 = .ok (.iconst 0, 1) := by decide +kernel
theorem dX6_decant_98 : decode cX6_decant 98 = .ok (.istore 6, 2) := by decide +kernel
theorem dX6_decant_100 : decode cX6_decant 100 = .ok (.iload 6, 2) := by decide +kernel
theorem dX6_decant_102 : decode cX6_decant 102 = .ok (.iconst 4, 1) := by decide +kernel
theorem dX6_decant_103 : decode cX6_decant 103 = .ok (.iload_n 3, 1) := by decide +kernel
theorem dX6_decant_104 : decode cX6_decant 104 = .ok (.iconst 1, 1) := by decide +kernel
theorem dX6_decant_105 : decode cX6_decant 105 = .ok (.iadd, 1) := by decide +kernel
theorem dX6_decant_106 : decode cX6_decant 106 = .ok (.imul, 1) := by decide +kernel
theorem dX6_decant_107 : decode cX6_decant 107 = .ok (.if_icmp .ge 55, 3) := by decide +kernel
theorem dX6_decant_110 : decode cX6_decant 110 = .ok (.aload_n 0, 1) := by decide +kernel
theorem dX6_decant_111 : decode cX6_decant 111 = .ok (.getfield 7, 3) := by decide +kernel
theorem dX6_decant_114 : decode cX6_decant 114 = .ok (.iload_n 2, 1) := by decide +kernel
theorem dX6_decant_115 : decode cX6_decant 115 = .ok (.iconst 0, 1) := by decide +kernel
theorem dX6_decant_116 : decode cX6_decant 116 = .ok (.iconst 0, 1) := by decide +kernel
theorem dX6_decant_117 : decode cX6_decant 117 = .ok (.invokestatic 33, 3) := by decide +kernel
theorem dX6_decant_120 : decode cX6_decant 120 = .ok (.iload 6, 2) := by decide +kernel
theorem dX6_decant_122 : decode cX6_decant 122 = .ok (.iadd, 1) := by decide +kernel
theorem dX6_decant_123 : decode cX6_decant 123 = .ok (.dup2, 1) := by decide +kernel
theorem dX6_decant_124 : decode cX6_decant 124 = .ok (.iaload, 1) := by decide +kernel
theorem dX6_decant_125 : decode cX6_decant 125 = .ok (.aload_n 0, 1) := by decide +kernel
theorem dX6_decant_126 : decode cX6_decant 126 = .ok (.getfield 7, 3) := by decide +kernel
theorem dX6_decant_129 : decode cX6_decant 129 = .ok (.iload_n 1, 1) := by decide +kernel
theorem dX6_decant_130 : decode cX6_decant 130 = .ok (.iconst 0, 1) := by decide +kernel
theorem dX6_decant_131 : decode cX6_decant 131 = .ok (.iconst 0, 1) := by decide +kernel
theorem dX6_decant_132 : decode cX6_decant 132 = .ok (.invokestatic 33, 3) := by decide +kernel
theorem dX6_decant_135 : decode cX6_decant 135 = .ok (.iload 6, 2) := by decide +kernel
theorem dX6_decant_137 : decode cX6_decant 137 = .ok (.iadd, 1) := by decide +kernel
theorem dX6_decant_138 : decode cX6_decant 138 = .ok (.iaload, 1) := by decide +kernel
theorem dX6_decant_139 : decode cX6_decant 139 = .ok (.iadd, 1) := by decide +kernel
theorem dX6_decant_140 : decode cX6_decant 140 = .ok (.iastore, 1) := by decide +kernel
theorem dX6_decant_141 : decode cX6_decant 141 = .ok (.aload_n 0, 1) := by decide +kernel
theorem dX6_decant_142 : decode cX6_decant 142 = .ok (.getfield 7, 3) := by decide +kernel
theorem dX6_decant_145 : decode cX6_decant 145 = .ok (.iload_n 1, 1) := by decide +kernel
theorem dX6_decant_146 : decode cX6_decant 146 = .ok (.iconst 0, 1) := by decide +kernel
theorem dX6_decant_147 : decode cX6_decant 147 = .ok (.iconst 0, 1) := by decide +kernel
theorem dX6_decant_148 : decode cX6_decant 148 = .ok (.invokestatic 33, 3) := by decide +kernel
theorem dX6_decant_151 : decode cX6_decant 151 = .ok (.iload 6, 2) := by decide +kernel
theorem dX6_decant_153 : decode cX6_decant 153 = .ok (.iadd, 1) := by decide +kernel
theorem dX6_decant_154 : decode cX6_decant 154 = .ok (.iconst 0, 1) := by decide +kernel
theorem dX6_decant_155 : decode cX6_decant 155 = .ok (.iastore, 1) := by decide +kernel
theorem dX6_decant_156 : decode cX6_decant 156 = .ok (.iinc 6 1, 3) := by decide +kernel
theorem dX6_decant_159 : decode cX6_decant 159 = .ok (.goto (-59), 3) := by decide +kernel
theorem dX6_decant_162 : decode cX6_decant 162 = .ok (.iload 5, 2) := by decide +kernel
theorem dX6_decant_164 : decode cX6_decant 164 = .ok (.ireturn, 1) := by decide +kernel
set_option maxRecDepth 20000 in
theorem ggX6_packedIn_X6_isPacked : GoodIn wsX6_packedIn wsX6_isPacked := goodIn_r _ [5, 6, 7, 8, 4, 9, 10, 11, 12, 13, 14, 15, 16, 17, 18, 19, 20, 21, 22, 23, 24, 25, 26, 27, 28, 29] (by decide +kernel) (by decide +kernel)
set_option maxRecDepth 20000 in
theorem gX6_packedIn_X6_isPacked : GoodIn wsX6_packedIn (wsV RX6 60 RX6 yX6_isPacked wsX6_isPacked) := goodIn_app (goodIn_of _ (by decide +kernel)) ggX6_packedIn_X6_isPacked
theorem dX6_packedIn_0 : decode cX6_packedIn 0 = .ok (.iconst 0, 1) := by decide +kernel
theorem dX6_packedIn_1 : decode cX6_packedIn 1 = .ok (.istore_n 2, 1) := by decide +kernel
theorem dX6_packedIn_2 : decode cX6_packedIn 2 = .ok (.iconst 0, 1) := by decide +kernel
theorem dX6_packedIn_3 : decode cX6_packedIn 3 = .ok (.istore_n 3, 1) := by decide +kernel
theorem dX6_packedIn_4 : decode cX6_packedIn 4 = .ok (.iload_n 3, 1) := by decide +kernel
theorem dX6_packedIn_5 : decode cX6_packedIn 5 = .ok (.bipush 12, 2) := by decide +kernel
theorem dX6_packedIn_7 : decode cX6_packedIn 7 = .ok (.if_icmp .ge 26, 3) := by decide +kernel
theorem dX6_packedIn_10 : decode cX6_packedIn 10 = .ok (.iload_n 2, 1) := by decide +kernel
theorem dX6_packedIn_11 : decode cX6_packedIn 11 = .ok (.aload_n 0, 1) := by decide +kernel
theorem dX6_packedIn_12 : decode cX6_packedIn 12 = .ok (.iload_n 1, 1) := by decide +kernel
theorem dX6_packedIn_13 : decode cX6_packedIn 13 = .ok (.iload_n 3, 1) := by decide +kernel
theorem dX6_packedIn_14 : decode cX6_packedIn 14 = .ok (.invokevirtual 60, 3) := by decide +kernel
theorem dX6_packedIn_17 : decode cX6_packedIn 17 = .ok (.ifCond .eq 7, 3) := by decide +kernel
theorem dX6_packedIn_20 : decode cX6_packedIn 20 = .ok (.iconst 1, 1) := by decide +kernel
theorem dX6_packedIn_21 : decode cX6_packedIn 21 = .ok (.goto 4, 3) := by decide +kernel
theorem dX6_packedIn_24 : decode cX6_packedIn 24 = .ok (.iconst 0, 1) := by decide +kernel
theorem dX6_packedIn_25 : decode cX6_packedIn 25 = .ok (.iadd, 1) := by decide +kernel
theorem dX6_packedIn_26 : decode cX6_packedIn 26 = .ok (.istore_n 2, 1) := by decide +kernel
theorem dX6_packedIn_27 : decode cX6_packedIn 27 = .ok (.iinc 3 1, 3) := by decide +kernel
theorem dX6_packedIn_30 : decode cX6_packedIn 30 = .ok (.goto (-26), 3) := by decide +kernel
theorem dX6_packedIn_33 : decode cX6_packedIn 33 = .ok (.iload_n 2, 1) := by decide +kernel
theorem dX6_packedIn_34 : decode cX6_packedIn 34 = .ok (.ireturn, 1) := by decide +kernel
set_option maxRecDepth 20000 in
theorem ggX6_turn_X6_isJar : GoodIn wsX6_turn wsX6_isJar := goodIn_r _ [6, 7, 8, 5, 9] (by decide +kernel) (by decide +kernel)
set_option maxRecDepth 20000 in
theorem gX6_turn_X6_isJar : GoodIn wsX6_turn (va_wsS RX6 92 yX6_isJar wsX6_isJar) := goodIn_app (goodIn_of _ (by decide +kernel)) ggX6_turn_X6_isJar
set_option maxRecDepth 20000 in
theorem ggX6_turn_X6_save : GoodIn wsX6_turn wsX6_save := goodIn_r _ [13, 14, 15, 2, 35, 36, 37, 38, 39, 40, 41, 42, 43, 44, 45, 46] (by decide +kernel) (by decide +kernel)
set_option maxRecDepth 20000 in
theorem gX6_turn_X6_save : GoodIn wsX6_turn (wsV RX6 76 RX6 yX6_save wsX6_save) := goodIn_app (goodIn_of _ (by decide +kernel)) ggX6_turn_X6_save
set_option maxRecDepth 20000 in
theorem ggX6_turn_X6_place : GoodIn wsX6_turn wsX6_place := goodIn_r _ [18] (by decide +kernel) (by decide +kernel)
set_option maxRecDepth 20000 in
theorem gX6_turn_X6_place : GoodIn wsX6_turn (va_wsS RX6 33 yX6_place wsX6_place) := goodIn_app (goodIn_of _ (by decide +kernel)) ggX6_turn_X6_place
set_option maxRecDepth 20000 in
theorem ggX6_turn_X6_packedIn : GoodIn wsX6_turn wsX6_packedIn := goodIn_r _ [22, 23, 24, 25, 5, 26, 27, 28, 29, 30, 2, 16, 17, 18, 31, 32, 33, 34, 35, 36, 37, 38, 39, 40, 41, 42, 43, 44, 45, 46] (by decide +kernel) (by decide +kernel)
set_option maxRecDepth 20000 in
theorem gX6_turn_X6_packedIn : GoodIn wsX6_turn (wsV RX6 108 RX6 yX6_packedIn wsX6_packedIn) := goodIn_app (goodIn_of _ (by decide +kernel)) ggX6_turn_X6_packedIn
theorem dX6_turn_0 : decode cX6_turn 0 = .ok (.aload_n 0, 1) := by decide +kernel
theorem dX6_turn_1 : decode cX6_turn 1 = .ok (.iload_n 1, 1) := by decide +kernel
theorem dX6_turn_2 : decode cX6_turn 2 = .ok (.invokestatic 92, 3) := by decide +kernel
theorem dX6_turn_5 : decode cX6_turn 5 = .ok (.ifCond .eq 7, 3) := by decide +kernel
theorem dX6_turn_8 : decode cX6_turn 8 = .ok (.iconst 0, 1) := by decide +kernel
theorem dX6_turn_9 : decode cX6_turn 9 = .ok (.goto 4, 3) := by decide +kernel
theorem dX6_turn_12 : decode cX6_turn 12 = .ok (.iconst 1, 1) := by decide +kernel
theorem dX6_turn_13 : decode cX6_turn 13 = .ok (.putfield 25, 3) := by decide +kernel
theorem dX6_turn_16 : decode cX6_turn 16 = .ok (.aload_n 0, 1) := by decide +kernel
theorem dX6_turn_17 : decode cX6_turn 17 = .ok (.getfield 25, 3) := by decide +kernel
theorem dX6_turn_20 : decode cX6_turn 20 = .ok (.ifCond .le 5, 3) := by decide +kernel
theorem dX6_turn_23 : decode cX6_turn 23 = .ok (.iconst 0, 1) := by decide +kernel
theorem dX6_turn_24 : decode cX6_turn 24 = .ok (.ireturn, 1) := by decide +kernel
theorem dX6_turn_25 : decode cX6_turn 25 = .ok (.aload_n 0, 1) := by decide +kernel
theorem dX6_turn_26 : decode cX6_turn 26 = .ok (.invokevirtual 76, 3) := by decide +kernel
theorem dX6_turn_29 : decode cX6_turn 29 = .ok (.iconst 0, 1) := by decide +kernel
theorem dX6_turn_30 : decode cX6_turn 30 = .ok (.istore_n 2, 1) := by decide +kernel
theorem dX6_turn_31 : decode cX6_turn 31 = .ok (.iload_n 2, 1) := by decide +kernel
theorem dX6_turn_32 : decode cX6_turn 32 = .ok (.bipush 6, 2) := by decide +kernel
theorem dX6_turn_34 : decode cX6_turn 34 = .ok (.if_icmp .ge 76, 3) := by decide +kernel
theorem dX6_turn_37 : decode cX6_turn 37 = .ok (.iconst 0, 1) := by decide +kernel
theorem dX6_turn_38 : decode cX6_turn 38 = .ok (.istore_n 3, 1) := by decide +kernel
theorem dX6_turn_39 : decode cX6_turn 39 = .ok (.iload_n 3, 1) := by decide +kernel
theorem dX6_turn_40 : decode cX6_turn 40 = .ok (.iconst 4, 1) := by decide +kernel
theorem dX6_turn_41 : decode cX6_turn 41 = .ok (.if_icmp .ge 63, 3) := by decide +kernel
theorem dX6_turn_44 : decode cX6_turn 44 = .ok (.aload_n 0, 1) := by decide +kernel
theorem dX6_turn_45 : decode cX6_turn 45 = .ok (.getfield 7, 3) := by decide +kernel
theorem dX6_turn_48 : decode cX6_turn 48 = .ok (.iload_n 1, 1) := by decide +kernel
theorem dX6_turn_49 : decode cX6_turn 49 = .ok (.iload_n 2, 1) := by decide +kernel
theorem dX6_turn_50 : decode cX6_turn 50 = .ok (.iload_n 3, 1) := by decide +kernel
theorem dX6_turn_51 : decode cX6_turn 51 = .ok (.invokestatic 33, 3) := by decide +kernel
theorem dX6_turn_54 : decode cX6_turn 54 = .ok (.iaload, 1) := by decide +kernel
theorem dX6_turn_55 : decode cX6_turn 55 = .ok (.istore 4, 2) := by decide +kernel
theorem dX6_turn_57 : decode cX6_turn 57 = .ok (.aload_n 0, 1) := by decide +kernel
theorem dX6_turn_58 : decode cX6_turn 58 = .ok (.getfield 7, 3) := by decide +kernel
theorem dX6_turn_61 : decode cX6_turn 61 = .ok (.iload_n 1, 1) := by decide +kernel
theorem dX6_turn_62 : decode cX6_turn 62 = .ok (.iload_n 2, 1) := by decide +kernel
theorem dX6_turn_63 : decode cX6_turn 63 = .ok (.iload_n 3, 1) := by decide +kernel
theorem dX6_turn_64 : decode cX6_turn 64 = .ok (.invokestatic 33, 3) := by decide +kernel
theorem dX6_turn_67 : decode cX6_turn 67 = .ok (.aload_n 0, 1) := by decide +kernel
theorem dX6_turn_68 : decode cX6_turn 68 = .ok (.getfield 7, 3) := by decide +kernel
theorem dX6_turn_71 : decode cX6_turn 71 = .ok (.iload_n 1, 1) := by decide +kernel
theorem dX6_turn_72 : decode cX6_turn 72 = .ok (.bipush 11, 2) := by decide +kernel
theorem dX6_turn_74 : decode cX6_turn 74 = .ok (.iload_n 2, 1) := by decide +kernel
theorem dX6_turn_75 : decode cX6_turn 75 = .ok (.isub, 1) := by decide +kernel
theorem dX6_turn_76 : decode cX6_turn 76 = .ok (.iload_n 3, 1) := by decide +kernel
theorem dX6_turn_77 : decode cX6_turn 77 = .ok (.invokestatic 33, 3) := by decide +kernel
theorem dX6_turn_80 : decode cX6_turn 80 = .ok (.iaload, 1) := by decide +kernel
theorem dX6_turn_81 : decode cX6_turn 81 = .ok (.iastore, 1) := by decide +kernel
theorem dX6_turn_82 : decode cX6_turn 82 = .ok (.aload_n 0, 1) := by decide +kernel
theorem dX6_turn_83 : decode cX6_turn 83 = .ok (.getfield 7, 3) := by decide +kernel
theorem dX6_turn_86 : decode cX6_turn 86 = .ok (.iload_n 1, 1) := by decide +kernel
theorem dX6_turn_87 : decode cX6_turn 87 = .ok (.bipush 11, 2) := by decide +kernel
theorem dX6_turn_89 : decode cX6_turn 89 = .ok (.iload_n 2, 1) := by decide +kernel
theorem dX6_turn_90 : decode cX6_turn 90 = .ok (.isub, 1) := by decide +kernel
theorem dX6_turn_91 : decode cX6_turn 91 = .ok (.iload_n 3, 1) := by decide +kernel
theorem dX6_turn_92 : decode cX6_turn 92 = .ok (.invokestatic 33, 3) := by decide +kernel
theorem dX6_turn_95 : decode cX6_turn 95 = .ok (.iload 4, 2) := by decide +kernel
theorem dX6_turn_97 : decode cX6_turn 97 = .ok (.iastore, 1) := by decide +kernel
theorem dX6_turn_98 : decode cX6_turn 98 = .ok (.iinc 3 1, 3) := by decide +kernel
theorem dX6_turn_101 : decode cX6_turn 101 = .ok (.goto (-62), 3) := by decide +kernel
theorem dX6_turn_104 : decode cX6_turn 104 = .ok (.iinc 2 1, 3) := by decide +kernel
theorem dX6_turn_107 : decode cX6_turn 107 = .ok (.goto (-76), 3) := by decide +kernel
theorem dX6_turn_110 : decode cX6_turn 110 = .ok (.aload_n 0, 1) := by decide +kernel
theorem dX6_turn_111 : decode cX6_turn 111 = .ok (.iload_n 1, 1) := by decide +kernel
theorem dX6_turn_112 : decode cX6_turn 112 = .ok (.invokevirtual 108, 3) := by decide +kernel
theorem dX6_turn_115 : decode cX6_turn 115 = .ok (.ireturn, 1) := by decide +kernel
set_option maxRecDepth 20000 in
theorem ggX6_settle_X6_within : GoodIn wsX6_settle wsX6_within := goodIn_r _ [6] (by decide +kernel) (by decide +kernel)
set_option maxRecDepth 20000 in
theorem gX6_settle_X6_within : GoodIn wsX6_settle (va_wsS RX6 29 yX6_within wsX6_within) := goodIn_app (goodIn_of _ (by decide +kernel)) ggX6_settle_X6_within
set_option maxRecDepth 20000 in
theorem ggX6_settle_X6_save : GoodIn wsX6_settle wsX6_save := goodIn_r _ [10, 11, 12, 1, 46, 47, 48, 49, 50, 51, 52, 53, 54, 55, 56, 57] (by decide +kernel) (by decide +kernel)
set_option maxRecDepth 20000 in
theorem gX6_settle_X6_save : GoodIn wsX6_settle (wsV RX6 76 RX6 yX6_save wsX6_save) := goodIn_app (goodIn_of _ (by decide +kernel)) ggX6_settle_X6_save
set_option maxRecDepth 20000 in
theorem ggX6_settle_X6_stepOf : GoodIn wsX6_settle wsX6_stepOf := goodIn_r _ [16, 17, 18, 19, 5, 20, 1, 21, 22, 23, 24, 25, 26, 27, 28, 29, 30, 31, 32, 33, 34, 35, 36, 37, 38, 39, 40, 41, 42, 43, 44, 45, 46, 47, 48, 49, 50, 51, 52, 53, 54, 55, 56, 57] (by decide +kernel) (by decide +kernel)
set_option maxRecDepth 20000 in
theorem gX6_settle_X6_stepOf : GoodIn wsX6_settle (wsV RX6 111 RX6 yX6_stepOf wsX6_stepOf) := goodIn_app (goodIn_of _ (by decide +kernel)) ggX6_settle_X6_stepOf
theorem dX6_settle_0 : decode cX6_settle 0 = .ok (.aload_n 0, 1) := by decide +kernel
theorem dX6_settle_1 : decode cX6_settle 1 = .ok (.iload_n 1, 1) := by decide +kernel
theorem dX6_settle_2 : decode cX6_settle 2 = .ok (.iconst 1, 1) := by decide +kernel
theorem dX6_settle_3 : decode cX6_settle 3 = .ok (.bipush 100, 2) := by decide +kernel
theorem dX6_settle_5 : decode cX6_settle 5 = .ok (.invokestatic 29, 3) := by decide +kernel
theorem dX6_settle_8 : decode cX6_settle 8 = .ok (.ifCond .ne 7, 3) := by decide +kernel
theorem dX6_settle_11 : decode cX6_settle 11 = .ok (.iconst 1, 1) := by decide +kernel
theorem dX6_settle_12 : decode cX6_settle 12 = .ok (.goto 24, 3) := by decide +kernel
theorem dX6_settle_15 : decode cX6_settle 15 = .ok (.aload_n 0, 1) := by decide +kernel
theorem dX6_settle_16 : decode cX6_settle 16 = .ok (.getfield 7, 3) := by decide +kernel
theorem dX6_settle_19 : decode cX6_settle 19 = .ok (.sipush 160, 3) := by decide +kernel
theorem dX6_settle_22 : decode cX6_settle 22 = .ok (.iaload, 1) := by decide +kernel
theorem dX6_settle_23 : decode cX6_settle 23 = .ok (.iload_n 1, 1) := by decide +kernel
theorem dX6_settle_24 : decode cX6_settle 24 = .ok (.iadd, 1) := by decide +kernel
theorem dX6_settle_25 : decode cX6_settle 25 = .ok (.sipush 10000, 3) := by decide +kernel
theorem dX6_settle_28 : decode cX6_settle 28 = .ok (.if_icmp .le 7, 3) := by decide +kernel
theorem dX6_settle_31 : decode cX6_settle 31 = .ok (.iconst 2, 1) := by decide +kernel
theorem dX6_settle_32 : decode cX6_settle 32 = .ok (.goto 4, 3) := by decide +kernel
theorem dX6_settle_35 : decode cX6_settle 35 = .ok (.iconst 0, 1) := by decide +kernel
theorem dX6_settle_36 : decode cX6_settle 36 = .ok (.putfield 25, 3) := by decide +kernel
theorem dX6_settle_39 : decode cX6_settle 39 = .ok (.aload_n 0, 1) := by decide +kernel
theorem dX6_settle_40 : decode cX6_settle 40 = .ok (.getfield 25, 3) := by decide +kernel
theorem dX6_settle_43 : decode cX6_settle 43 = .ok (.ifCond .le 5, 3) := by decide +kernel
theorem dX6_settle_46 : decode cX6_settle 46 = .ok (.iconst 0, 1) := by decide +kernel
theorem dX6_settle_47 : decode cX6_settle 47 = .ok (.ireturn, 1) := by decide +kernel
theorem dX6_settle_48 : decode cX6_settle 48 = .ok (.aload_n 0, 1) := by decide +kernel
theorem dX6_settle_49 : decode cX6_settle 49 = .ok (.invokevirtual 76, 3) := by decide +kernel
theorem dX6_settle_52 : decode cX6_settle 52 = .ok (.iconst 0, 1) := by decide +kernel
theorem dX6_settle_53 : decode cX6_settle 53 = .ok (.istore_n 2, 1) := by decide +kernel
theorem dX6_settle_54 : decode cX6_settle 54 = .ok (.iconst 0, 1) := by decide +kernel
theorem dX6_settle_55 : decode cX6_settle 55 = .ok (.istore_n 3, 1) := by decide +kernel
theorem dX6_settle_56 : decode cX6_settle 56 = .ok (.iload_n 3, 1) := by decide +kernel
theorem dX6_settle_57 : decode cX6_settle 57 = .ok (.iconst 3, 1) := by decide +kernel
theorem dX6_settle_58 : decode cX6_settle 58 = .ok (.iload_n 1, 1) := by decide +kernel
theorem dX6_settle_59 : decode cX6_settle 59 = .ok (.imul, 1) := by decide +kernel
theorem dX6_settle_60 : decode cX6_settle 60 = .ok (.if_icmp .ge 19, 3) := by decide +kernel
theorem dX6_settle_63 : decode cX6_settle 63 = .ok (.iload_n 2, 1) := by decide +kernel
theorem dX6_settle_64 : decode cX6_settle 64 = .ok (.aload_n 0, 1) := by decide +kernel
theorem dX6_settle_65 : decode cX6_settle 65 = .ok (.iload_n 3, 1) := by decide +kernel
theorem dX6_settle_66 : decode cX6_settle 66 = .ok (.iconst 3, 1) := by decide +kernel
theorem dX6_settle_67 : decode cX6_settle 67 = .ok (.irem, 1) := by decide +kernel
theorem dX6_settle_68 : decode cX6_settle 68 = .ok (.invokevirtual 111, 3) := by decide +kernel
theorem dX6_settle_71 : decode cX6_settle 71 = .ok (.iadd, 1) := by decide +kernel
theorem dX6_settle_72 : decode cX6_settle 72 = .ok (.istore_n 2, 1) := by decide +kernel
theorem dX6_settle_73 : decode cX6_settle 73 = .ok (.iinc 3 1, 3) := by decide +kernel
theorem dX6_settle_76 : decode cX6_settle 76 = .ok (.goto (-20), 3) := by decide +kernel
theorem dX6_settle_79 : decode cX6_settle 79 = .ok (.aload_n 0, 1) := by decide +kernel
theorem dX6_settle_80 : decode cX6_settle 80 = .ok (.getfield 7, 3) := by decide +kernel
theorem dX6_settle_83 : decode cX6_settle 83 = .ok (.sipush 160, 3) := by decide +kernel
theorem dX6_settle_86 : decode cX6_settle 86 = .ok (.dup2, 1) := by decide +kernel
theorem dX6_settle_87 : decode cX6_settle 87 = .ok (.iaload, 1) := by decide +kernel
theorem dX6_settle_88 : decode cX6_settle 88 = .ok (.iload_n 1, 1) := by decide +kernel
theorem dX6_settle_89 : decode cX6_settle 89 = .ok (.iadd, 1) := by decide +kernel
theorem dX6_settle_90 : decode cX6_settle 90 = .ok (.iastore, 1) := by decide +kernel
theorem dX6_settle_91 : decode cX6_settle 91 = .ok (.aload_n 0, 1) := by decide +kernel
theorem dX6_settle_92 : decode cX6_settle 92 = .ok (.getfield 7, 3) := by decide +kernel
theorem dX6_settle_95 : decode cX6_settle 95 = .ok (.sipush 161, 3) := by decide +kernel
theorem dX6_settle_98 : decode cX6_settle 98 = .ok (.dup2, 1) := by decide +kernel
theorem dX6_settle_99 : decode cX6_settle 99 = .ok (.iaload, 1) := by decide +kernel
theorem dX6_settle_100 : decode cX6_settle 100 = .ok (.iload_n 2, 1) := by decide +kernel
theorem dX6_settle_101 : decode cX6_settle 101 = .ok (.iadd, 1) := by decide +kernel
theorem dX6_settle_102 : decode cX6_settle 102 = .ok (.iastore, 1) := by decide +kernel
theorem dX6_settle_103 : decode cX6_settle 103 = .ok (.iload_n 2, 1) := by decide +kernel
theorem dX6_settle_104 : decode cX6_settle 104 = .ok (.ireturn, 1) := by decide +kernel
set_option maxRecDepth 20000 in
theorem ggX6_append_X6_within : GoodIn wsX6_append wsX6_within := goodIn_r _ [7] (by decide +kernel) (by decide +kernel)
set_option maxRecDepth 20000 in
theorem gX6_append_X6_within : GoodIn wsX6_append (va_wsS RX6 29 yX6_within wsX6_within) := goodIn_app (goodIn_of _ (by decide +kernel)) ggX6_append_X6_within
theorem dX6_append_0 : decode cX6_append 0 = .ok (.aload_n 0, 1) := by decide +kernel
theorem dX6_append_1 : decode cX6_append 1 = .ok (.iload_n 1, 1) := by decide +kernel
theorem dX6_append_2 : decode cX6_append 2 = .ok (.bipush 33, 2) := by decide +kernel
theorem dX6_append_4 : decode cX6_append 4 = .ok (.bipush 126, 2) := by decide +kernel
theorem dX6_append_6 : decode cX6_append 6 = .ok (.invokestatic 29, 3) := by decide +kernel
theorem dX6_append_9 : decode cX6_append 9 = .ok (.ifCond .ne 7, 3) := by decide +kernel
theorem dX6_append_12 : decode cX6_append 12 = .ok (.iconst 1, 1) := by decide +kernel
theorem dX6_append_13 : decode cX6_append 13 = .ok (.goto 17, 3) := by decide +kernel
theorem dX6_append_16 : decode cX6_append 16 = .ok (.aload_n 0, 1) := by decide +kernel
theorem dX6_append_17 : decode cX6_append 17 = .ok (.getfield 114, 3) := by decide +kernel
theorem dX6_append_20 : decode cX6_append 20 = .ok (.bipush 60, 2) := by decide +kernel
theorem dX6_append_22 : decode cX6_append 22 = .ok (.if_icmp .ne 7, 3) := by decide +kernel
theorem dX6_append_25 : decode cX6_append 25 = .ok (.iconst 2, 1) := by decide +kernel
theorem dX6_append_26 : decode cX6_append 26 = .ok (.goto 4, 3) := by decide +kernel
theorem dX6_append_29 : decode cX6_append 29 = .ok (.iconst 0, 1) := by decide +kernel
theorem dX6_append_30 : decode cX6_append 30 = .ok (.putfield 25, 3) := by decide +kernel
theorem dX6_append_33 : decode cX6_append 33 = .ok (.aload_n 0, 1) := by decide +kernel
theorem dX6_append_34 : decode cX6_append 34 = .ok (.getfield 25, 3) := by decide +kernel
theorem dX6_append_37 : decode cX6_append 37 = .ok (.ifCond .le 5, 3) := by decide +kernel
theorem dX6_append_40 : decode cX6_append 40 = .ok (.iconst 0, 1) := by decide +kernel
theorem dX6_append_41 : decode cX6_append 41 = .ok (.ireturn, 1) := by decide +kernel
theorem dX6_append_42 : decode cX6_append 42 = .ok (.aload_n 0, 1) := by decide +kernel
theorem dX6_append_43 : decode cX6_append 43 = .ok (.getfield 16, 3) := by decide +kernel
theorem dX6_append_46 : decode cX6_append 46 = .ok (.aload_n 0, 1) := by decide +kernel
theorem dX6_append_47 : decode cX6_append 47 = .ok (.getfield 114, 3) := by decide +kernel
theorem dX6_append_50 : decode cX6_append 50 = .ok (.iload_n 1, 1) := by decide +kernel
theorem dX6_append_51 : decode cX6_append 51 = .ok (.iastore, 1) := by decide +kernel
theorem dX6_append_52 : decode cX6_append 52 = .ok (.aload_n 0, 1) := by decide +kernel
theorem dX6_append_53 : decode cX6_append 53 = .ok (.dup, 1) := by decide +kernel
theorem dX6_append_54 : decode cX6_append 54 = .ok (.getfield 114, 3) := by decide +kernel
theorem dX6_append_57 : decode cX6_append 57 = .ok (.iconst 1, 1) := by decide +kernel
theorem dX6_append_58 : decode cX6_append 58 = .ok (.iadd, 1) := by decide +kernel
theorem dX6_append_59 : decode cX6_append 59 = .ok (.putfield 114, 3) := by decide +kernel
theorem dX6_append_62 : decode cX6_append 62 = .ok (.aload_n 0, 1) := by decide +kernel
theorem dX6_append_63 : decode cX6_append 63 = .ok (.getfield 114, 3) := by decide +kernel
theorem dX6_append_66 : decode cX6_append 66 = .ok (.ireturn, 1) := by decide +kernel
theorem dX6_clearBuffer_0 : decode cX6_clearBuffer 0 = .ok (.aload_n 0, 1) := by decide +kernel
theorem dX6_clearBuffer_1 : decode cX6_clearBuffer 1 = .ok (.iconst 0, 1) := by decide +kernel
theorem dX6_clearBuffer_2 : decode cX6_clearBuffer 2 = .ok (.putfield 25, 3) := by decide +kernel
theorem dX6_clearBuffer_5 : decode cX6_clearBuffer 5 = .ok (.aload_n 0, 1) := by decide +kernel
theorem dX6_clearBuffer_6 : decode cX6_clearBuffer 6 = .ok (.getfield 114, 3) := by decide +kernel
theorem dX6_clearBuffer_9 : decode cX6_clearBuffer 9 = .ok (.istore_n 1, 1) := by decide +kernel
theorem dX6_clearBuffer_10 : decode cX6_clearBuffer 10 = .ok (.aload_n 0, 1) := by decide +kernel
theorem dX6_clearBuffer_11 : decode cX6_clearBuffer 11 = .ok (.iconst 0, 1) := by decide +kernel
theorem dX6_clearBuffer_12 : decode cX6_clearBuffer 12 = .ok (.putfield 114, 3) := by decide +kernel
theorem dX6_clearBuffer_15 : decode cX6_clearBuffer 15 = .ok (.iload_n 1, 1) := by decide +kernel
theorem dX6_clearBuffer_16 : decode cX6_clearBuffer 16 = .ok (.ireturn, 1) := by decide +kernel
theorem dX6_goes_0 : decode cX6_goes 0 = .ok (.aload_n 0, 1) := by decide +kernel
theorem dX6_goes_1 : decode cX6_goes 1 = .ok (.iload_n 1, 1) := by decide +kernel
theorem dX6_goes_2 : decode cX6_goes 2 = .ok (.ifCond .eq 7, 3) := by decide +kernel
theorem dX6_goes_5 : decode cX6_goes 5 = .ok (.iload_n 2, 1) := by decide +kernel
theorem dX6_goes_6 : decode cX6_goes 6 = .ok (.goto 7, 3) := by decide +kernel
theorem dX6_goes_9 : decode cX6_goes 9 = .ok (.aload_n 0, 1) := by decide +kernel
theorem dX6_goes_10 : decode cX6_goes 10 = .ok (.getfield 117, 3) := by decide +kernel
theorem dX6_goes_13 : decode cX6_goes 13 = .ok (.putfield 117, 3) := by decide +kernel
theorem dX6_goes_16 : decode cX6_goes 16 = .ok (.iload_n 1, 1) := by decide +kernel
theorem dX6_goes_17 : decode cX6_goes 17 = .ok (.ireturn, 1) := by decide +kernel
theorem dX6_endPortion_0 : decode cX6_endPortion 0 = .ok (.aload_n 0, 1) := by decide +kernel
theorem dX6_endPortion_1 : decode cX6_endPortion 1 = .ok (.dup, 1) := by decide +kernel
theorem dX6_endPortion_2 : decode cX6_endPortion 2 = .ok (.getfield 120, 3) := by decide +kernel
theorem dX6_endPortion_5 : decode cX6_endPortion 5 = .ok (.aload_n 0, 1) := by decide +kernel
theorem dX6_endPortion_6 : decode cX6_endPortion 6 = .ok (.getfield 22, 3) := by decide +kernel
theorem dX6_endPortion_9 : decode cX6_endPortion 9 = .ok (.iconst 3, 1) := by decide +kernel
theorem dX6_endPortion_10 : decode cX6_endPortion 10 = .ok (.aload_n 0, 1) := by decide +kernel
theorem dX6_endPortion_11 : decode cX6_endPortion 11 = .ok (.getfield 123, 3) := by decide +kernel
theorem dX6_endPortion_14 : decode cX6_endPortion 14 = .ok (.imul, 1) := by decide +kernel
theorem dX6_endPortion_15 : decode cX6_endPortion 15 = .ok (.iaload, 1) := by decide +kernel
theorem dX6_endPortion_16 : decode cX6_endPortion 16 = .ok (.iadd, 1) := by decide +kernel
theorem dX6_endPortion_17 : decode cX6_endPortion 17 = .ok (.putfield 120, 3) := by decide +kernel
theorem dX6_endPortion_20 : decode cX6_endPortion 20 = .ok (.aload_n 0, 1) := by decide +kernel
theorem dX6_endPortion_21 : decode cX6_endPortion 21 = .ok (.dup, 1) := by decide +kernel
theorem dX6_endPortion_22 : decode cX6_endPortion 22 = .ok (.getfield 123, 3) := by decide +kernel
theorem dX6_endPortion_25 : decode cX6_endPortion 25 = .ok (.iconst 1, 1) := by decide +kernel
theorem dX6_endPortion_26 : decode cX6_endPortion 26 = .ok (.iadd, 1) := by decide +kernel
theorem dX6_endPortion_27 : decode cX6_endPortion 27 = .ok (.putfield 123, 3) := by decide +kernel
theorem dX6_endPortion_30 : decode cX6_endPortion 30 = .ok (.aload_n 0, 1) := by decide +kernel
theorem dX6_endPortion_31 : decode cX6_endPortion 31 = .ok (.getfield 22, 3) := by decide +kernel
theorem dX6_endPortion_34 : decode cX6_endPortion 34 = .ok (.iconst 3, 1) := by decide +kernel
theorem dX6_endPortion_35 : decode cX6_endPortion 35 = .ok (.aload_n 0, 1) := by decide +kernel
theorem dX6_endPortion_36 : decode cX6_endPortion 36 = .ok (.getfield 123, 3) := by decide +kernel
theorem dX6_endPortion_39 : decode cX6_endPortion 39 = .ok (.imul, 1) := by decide +kernel
theorem dX6_endPortion_40 : decode cX6_endPortion 40 = .ok (.iconst 0, 1) := by decide +kernel
theorem dX6_endPortion_41 : decode cX6_endPortion 41 = .ok (.iastore, 1) := by decide +kernel
theorem dX6_endPortion_42 : decode cX6_endPortion 42 = .ok (.aload_n 0, 1) := by decide +kernel
theorem dX6_endPortion_43 : decode cX6_endPortion 43 = .ok (.getfield 22, 3) := by decide +kernel
theorem dX6_endPortion_46 : decode cX6_endPortion 46 = .ok (.iconst 3, 1) := by decide +kernel
theorem dX6_endPortion_47 : decode cX6_endPortion 47 = .ok (.aload_n 0, 1) := by decide +kernel
theorem dX6_endPortion_48 : decode cX6_endPortion 48 = .ok (.getfield 123, 3) := by decide +kernel
theorem dX6_endPortion_51 : decode cX6_endPortion 51 = .ok (.imul, 1) := by decide +kernel
theorem dX6_endPortion_52 : decode cX6_endPortion 52 = .ok (.iconst 2, 1) := by decide +kernel
theorem dX6_endPortion_53 : decode cX6_endPortion 53 = .ok (.iadd, 1) := by decide +kernel
theorem dX6_endPortion_54 : decode cX6_endPortion 54 = .ok (.iconst 0, 1) := by decide +kernel
theorem dX6_endPortion_55 : decode cX6_endPortion 55 = .ok (.iastore, 1) := by decide +kernel
theorem dX6_endPortion_56 : decode cX6_endPortion 56 = .ok (.return_, 1) := by decide +kernel
set_option maxRecDepth 20000 in
theorem ggX6_takesNumber_X6_within : GoodIn wsX6_takesNumber wsX6_within := goodIn_r _ [6] (by decide +kernel) (by decide +kernel)
set_option maxRecDepth 20000 in
theorem gX6_takesNumber_X6_within : GoodIn wsX6_takesNumber (va_wsS RX6 29 yX6_within wsX6_within) := goodIn_app (goodIn_of _ (by decide +kernel)) ggX6_takesNumber_X6_within
set_option maxRecDepth 20000 in
theorem ggX6_takesNumber_X6_goes : GoodIn wsX6_takesNumber wsX6_goes := goodIn_r _ [10, 11, 12, 13, 14, 15, 16, 17, 18, 19, 20, 21, 22, 23] (by decide +kernel) (by decide +kernel)
set_option maxRecDepth 20000 in
theorem gX6_takesNumber_X6_goes : GoodIn wsX6_takesNumber (wsV RX6 126 RX6 yX6_goes wsX6_goes) := goodIn_app (goodIn_of _ (by decide +kernel)) ggX6_takesNumber_X6_goes
theorem dX6_takesNumber_0 : decode cX6_takesNumber 0 = .ok (.bipush 10, 2) := by decide +kernel
theorem dX6_takesNumber_2 : decode cX6_takesNumber 2 = .ok (.aload_n 0, 1) := by decide +kernel
theorem dX6_takesNumber_3 : decode cX6_takesNumber 3 = .ok (.getfield 22, 3) := by decide +kernel
theorem dX6_takesNumber_6 : decode cX6_takesNumber 6 = .ok (.iconst 3, 1) := by decide +kernel
theorem dX6_takesNumber_7 : decode cX6_takesNumber 7 = .ok (.aload_n 0, 1) := by decide +kernel
theorem dX6_takesNumber_8 : decode cX6_takesNumber 8 = .ok (.getfield 123, 3) := by decide +kernel
theorem dX6_takesNumber_11 : decode cX6_takesNumber 11 = .ok (.imul, 1) := by decide +kernel
theorem dX6_takesNumber_12 : decode cX6_takesNumber 12 = .ok (.iaload, 1) := by decide +kernel
theorem dX6_takesNumber_13 : decode cX6_takesNumber 13 = .ok (.imul, 1) := by decide +kernel
theorem dX6_takesNumber_14 : decode cX6_takesNumber 14 = .ok (.iload_n 1, 1) := by decide +kernel
theorem dX6_takesNumber_15 : decode cX6_takesNumber 15 = .ok (.iadd, 1) := by decide +kernel
theorem dX6_takesNumber_16 : decode cX6_takesNumber 16 = .ok (.bipush 48, 2) := by decide +kernel
theorem dX6_takesNumber_18 : decode cX6_takesNumber 18 = .ok (.isub, 1) := by decide +kernel
theorem dX6_takesNumber_19 : decode cX6_takesNumber 19 = .ok (.istore_n 2, 1) := by decide +kernel
theorem dX6_takesNumber_20 : decode cX6_takesNumber 20 = .ok (.iload_n 1, 1) := by decide +kernel
theorem dX6_takesNumber_21 : decode cX6_takesNumber 21 = .ok (.bipush 48, 2) := by decide +kernel
theorem dX6_takesNumber_23 : decode cX6_takesNumber 23 = .ok (.bipush 57, 2) := by decide +kernel
theorem dX6_takesNumber_25 : decode cX6_takesNumber 25 = .ok (.invokestatic 29, 3) := by decide +kernel
theorem dX6_takesNumber_28 : decode cX6_takesNumber 28 = .ok (.ifCond .eq 18, 3) := by decide +kernel
theorem dX6_takesNumber_31 : decode cX6_takesNumber 31 = .ok (.iload_n 2, 1) := by decide +kernel
theorem dX6_takesNumber_32 : decode cX6_takesNumber 32 = .ok (.iconst 1, 1) := by decide +kernel
theorem dX6_takesNumber_33 : decode cX6_takesNumber 33 = .ok (.sipush 999, 3) := by decide +kernel
theorem dX6_takesNumber_36 : decode cX6_takesNumber 36 = .ok (.invokestatic 29, 3) := by decide +kernel
theorem dX6_takesNumber_39 : decode cX6_takesNumber 39 = .ok (.ifCond .eq 7, 3) := by decide +kernel
theorem dX6_takesNumber_42 : decode cX6_takesNumber 42 = .ok (.iconst 1, 1) := by decide +kernel
theorem dX6_takesNumber_43 : decode cX6_takesNumber 43 = .ok (.goto 4, 3) := by decide +kernel
theorem dX6_takesNumber_46 : decode cX6_takesNumber 46 = .ok (.iconst 0, 1) := by decide +kernel
theorem dX6_takesNumber_47 : decode cX6_takesNumber 47 = .ok (.istore_n 3, 1) := by decide +kernel
theorem dX6_takesNumber_48 : decode cX6_takesNumber 48 = .ok (.aload_n 0, 1) := by decide +kernel
theorem dX6_takesNumber_49 : decode cX6_takesNumber 49 = .ok (.getfield 22, 3) := by decide +kernel
theorem dX6_takesNumber_52 : decode cX6_takesNumber 52 = .ok (.iconst 3, 1) := by decide +kernel
theorem dX6_takesNumber_53 : decode cX6_takesNumber 53 = .ok (.aload_n 0, 1) := by decide +kernel
theorem dX6_takesNumber_54 : decode cX6_takesNumber 54 = .ok (.getfield 123, 3) := by decide +kernel
theorem dX6_takesNumber_57 : decode cX6_takesNumber 57 = .ok (.imul, 1) := by decide +kernel
theorem dX6_takesNumber_58 : decode cX6_takesNumber 58 = .ok (.iload_n 3, 1) := by decide +kernel
theorem dX6_takesNumber_59 : decode cX6_takesNumber 59 = .ok (.ifCond .eq 7, 3) := by decide +kernel
theorem dX6_takesNumber_62 : decode cX6_takesNumber 62 = .ok (.iload_n 2, 1) := by decide +kernel
theorem dX6_takesNumber_63 : decode cX6_takesNumber 63 = .ok (.goto 14, 3) := by decide +kernel
theorem dX6_takesNumber_66 : decode cX6_takesNumber 66 = .ok (.aload_n 0, 1) := by decide +kernel
theorem dX6_takesNumber_67 : decode cX6_takesNumber 67 = .ok (.getfield 22, 3) := by decide +kernel
theorem dX6_takesNumber_70 : decode cX6_takesNumber 70 = .ok (.iconst 3, 1) := by decide +kernel
theorem dX6_takesNumber_71 : decode cX6_takesNumber 71 = .ok (.aload_n 0, 1) := by decide +kernel
theorem dX6_takesNumber_72 : decode cX6_takesNumber 72 = .ok (.getfield 123, 3) := by decide +kernel
theorem dX6_takesNumber_75 : decode cX6_takesNumber 75 = .ok (.imul, 1) := by decide +kernel
theorem dX6_takesNumber_76 : decode cX6_takesNumber 76 = .ok (.iaload, 1) := by decide +kernel
theorem dX6_takesNumber_77 : decode cX6_takesNumber 77 = .ok (.iastore, 1) := by decide +kernel
theorem dX6_takesNumber_78 : decode cX6_takesNumber 78 = .ok (.aload_n 0, 1) := by decide +kernel
theorem dX6_takesNumber_79 : decode cX6_takesNumber 79 = .ok (.iload_n 3, 1) := by decide +kernel
theorem dX6_takesNumber_80 : decode cX6_takesNumber 80 = .ok (.iconst 1, 1) := by decide +kernel
theorem dX6_takesNumber_81 : decode cX6_takesNumber 81 = .ok (.invokevirtual 126, 3) := by decide +kernel
theorem dX6_takesNumber_84 : decode cX6_takesNumber 84 = .ok (.ireturn, 1) := by decide +kernel
set_option maxRecDepth 20000 in
theorem ggX6_takesLetter_X6_within : GoodIn wsX6_takesLetter wsX6_within := goodIn_r _ [6] (by decide +kernel) (by decide +kernel)
set_option maxRecDepth 20000 in
theorem gX6_takesLetter_X6_within : GoodIn wsX6_takesLetter (va_wsS RX6 29 yX6_within wsX6_within) := goodIn_app (goodIn_of _ (by decide +kernel)) ggX6_takesLetter_X6_within
set_option maxRecDepth 20000 in
theorem ggX6_takesLetter_X6_goes : GoodIn wsX6_takesLetter wsX6_goes := goodIn_r _ [10, 11, 12, 13, 14, 15, 16, 17, 18, 19, 20, 21, 22, 23] (by decide +kernel) (by decide +kernel)
set_option maxRecDepth 20000 in
theorem gX6_takesLetter_X6_goes : GoodIn wsX6_takesLetter (wsV RX6 126 RX6 yX6_goes wsX6_goes) := goodIn_app (goodIn_of _ (by decide +kernel)) ggX6_takesLetter_X6_goes
theorem dX6_takesLetter_0 : decode cX6_takesLetter 0 = .ok (.aload_n 0, 1) := by decide +kernel
theorem dX6_takesLetter_1 : decode cX6_takesLetter 1 = .ok (.getfield 22, 3) := by decide +kernel
theorem dX6_takesLetter_4 : decode cX6_takesLetter 4 = .ok (.iconst 3, 1) := by decide +kernel
theorem dX6_takesLetter_5 : decode cX6_takesLetter 5 = .ok (.aload_n 0, 1) := by decide +kernel
theorem dX6_takesLetter_6 : decode cX6_takesLetter 6 = .ok (.getfield 123, 3) := by decide +kernel
theorem dX6_takesLetter_9 : decode cX6_takesLetter 9 = .ok (.imul, 1) := by decide +kernel
theorem dX6_takesLetter_10 : decode cX6_takesLetter 10 = .ok (.iconst 1, 1) := by decide +kernel
theorem dX6_takesLetter_11 : decode cX6_takesLetter 11 = .ok (.iadd, 1) := by decide +kernel
theorem dX6_takesLetter_12 : decode cX6_takesLetter 12 = .ok (.iload_n 1, 1) := by decide +kernel
theorem dX6_takesLetter_13 : decode cX6_takesLetter 13 = .ok (.bipush 97, 2) := by decide +kernel
theorem dX6_takesLetter_15 : decode cX6_takesLetter 15 = .ok (.isub, 1) := by decide +kernel
theorem dX6_takesLetter_16 : decode cX6_takesLetter 16 = .ok (.iastore, 1) := by decide +kernel
theorem dX6_takesLetter_17 : decode cX6_takesLetter 17 = .ok (.aload_n 0, 1) := by decide +kernel
theorem dX6_takesLetter_18 : decode cX6_takesLetter 18 = .ok (.iload_n 1, 1) := by decide +kernel
theorem dX6_takesLetter_19 : decode cX6_takesLetter 19 = .ok (.bipush 97, 2) := by decide +kernel
theorem dX6_takesLetter_21 : decode cX6_takesLetter 21 = .ok (.bipush 100, 2) := by decide +kernel
theorem dX6_takesLetter_23 : decode cX6_takesLetter 23 = .ok (.invokestatic 29, 3) := by decide +kernel
theorem dX6_takesLetter_26 : decode cX6_takesLetter 26 = .ok (.iconst 2, 1) := by decide +kernel
theorem dX6_takesLetter_27 : decode cX6_takesLetter 27 = .ok (.invokevirtual 126, 3) := by decide +kernel
theorem dX6_takesLetter_30 : decode cX6_takesLetter 30 = .ok (.ireturn, 1) := by decide +kernel
set_option maxRecDepth 20000 in
theorem ggX6_takesPlus_X6_endPortion : GoodIn wsX6_takesPlus wsX6_endPortion := goodIn_r _ [5, 6, 7, 8, 14, 15, 16, 17, 18, 19, 20, 21, 22, 23, 24, 25] (by decide +kernel) (by decide +kernel)
set_option maxRecDepth 20000 in
theorem gX6_takesPlus_X6_endPortion : GoodIn wsX6_takesPlus (wsV RX6 130 RX6 yX6_endPortion wsX6_endPortion) := goodIn_app (goodIn_of _ (by decide +kernel)) ggX6_takesPlus_X6_endPortion
set_option maxRecDepth 20000 in
theorem ggX6_takesPlus_X6_goes : GoodIn wsX6_takesPlus wsX6_goes := goodIn_r _ [12, 13, 14, 15, 16, 17, 18, 19, 20, 21, 22, 23, 24, 25] (by decide +kernel) (by decide +kernel)
set_option maxRecDepth 20000 in
theorem gX6_takesPlus_X6_goes : GoodIn wsX6_takesPlus (wsV RX6 126 RX6 yX6_goes wsX6_goes) := goodIn_app (goodIn_of _ (by decide +kernel)) ggX6_takesPlus_X6_goes
theorem dX6_takesPlus_0 : decode cX6_takesPlus 0 = .ok (.iload_n 1, 1) := by decide +kernel
theorem dX6_takesPlus_1 : decode cX6_takesPlus 1 = .ok (.bipush 43, 2) := by decide +kernel
theorem dX6_takesPlus_3 : decode cX6_takesPlus 3 = .ok (.if_icmp .ne 7, 3) := by decide +kernel
theorem dX6_takesPlus_6 : decode cX6_takesPlus 6 = .ok (.aload_n 0, 1) := by decide +kernel
theorem dX6_takesPlus_7 : decode cX6_takesPlus 7 = .ok (.invokevirtual 130, 3) := by decide +kernel
theorem dX6_takesPlus_10 : decode cX6_takesPlus 10 = .ok (.aload_n 0, 1) := by decide +kernel
theorem dX6_takesPlus_11 : decode cX6_takesPlus 11 = .ok (.iload_n 1, 1) := by decide +kernel
theorem dX6_takesPlus_12 : decode cX6_takesPlus 12 = .ok (.bipush 43, 2) := by decide +kernel
theorem dX6_takesPlus_14 : decode cX6_takesPlus 14 = .ok (.if_icmp .ne 7, 3) := by decide +kernel
theorem dX6_takesPlus_17 : decode cX6_takesPlus 17 = .ok (.iconst 1, 1) := by decide +kernel
theorem dX6_takesPlus_18 : decode cX6_takesPlus 18 = .ok (.goto 4, 3) := by decide +kernel
theorem dX6_takesPlus_21 : decode cX6_takesPlus 21 = .ok (.iconst 0, 1) := by decide +kernel
theorem dX6_takesPlus_22 : decode cX6_takesPlus 22 = .ok (.iconst 0, 1) := by decide +kernel
theorem dX6_takesPlus_23 : decode cX6_takesPlus 23 = .ok (.invokevirtual 126, 3) := by decide +kernel
theorem dX6_takesPlus_26 : decode cX6_takesPlus 26 = .ok (.ireturn, 1) := by decide +kernel
set_option maxRecDepth 20000 in
theorem ggX6_takesSlice_X6_within : GoodIn wsX6_takesSlice wsX6_within := goodIn_r _ [7] (by decide +kernel) (by decide +kernel)
set_option maxRecDepth 20000 in
theorem gX6_takesSlice_X6_within : GoodIn wsX6_takesSlice (va_wsS RX6 29 yX6_within wsX6_within) := goodIn_app (goodIn_of _ (by decide +kernel)) ggX6_takesSlice_X6_within
set_option maxRecDepth 20000 in
theorem ggX6_takesSlice_X6_goes : GoodIn wsX6_takesSlice wsX6_goes := goodIn_r _ [11, 3, 12, 13, 14, 15, 16, 17, 18, 19, 20, 21, 22, 23] (by decide +kernel) (by decide +kernel)
set_option maxRecDepth 20000 in
theorem gX6_takesSlice_X6_goes : GoodIn wsX6_takesSlice (wsV RX6 126 RX6 yX6_goes wsX6_goes) := goodIn_app (goodIn_of _ (by decide +kernel)) ggX6_takesSlice_X6_goes
theorem dX6_takesSlice_0 : decode cX6_takesSlice 0 = .ok (.bipush 10, 2) := by decide +kernel
theorem dX6_takesSlice_2 : decode cX6_takesSlice 2 = .ok (.aload_n 0, 1) := by decide +kernel
theorem dX6_takesSlice_3 : decode cX6_takesSlice 3 = .ok (.getfield 22, 3) := by decide +kernel
theorem dX6_takesSlice_6 : decode cX6_takesSlice 6 = .ok (.iconst 3, 1) := by decide +kernel
theorem dX6_takesSlice_7 : decode cX6_takesSlice 7 = .ok (.aload_n 0, 1) := by decide +kernel
theorem dX6_takesSlice_8 : decode cX6_takesSlice 8 = .ok (.getfield 123, 3) := by decide +kernel
theorem dX6_takesSlice_11 : decode cX6_takesSlice 11 = .ok (.imul, 1) := by decide +kernel
theorem dX6_takesSlice_12 : decode cX6_takesSlice 12 = .ok (.iconst 2, 1) := by decide +kernel
theorem dX6_takesSlice_13 : decode cX6_takesSlice 13 = .ok (.iadd, 1) := by decide +kernel
theorem dX6_takesSlice_14 : decode cX6_takesSlice 14 = .ok (.iaload, 1) := by decide +kernel
theorem dX6_takesSlice_15 : decode cX6_takesSlice 15 = .ok (.imul, 1) := by decide +kernel
theorem dX6_takesSlice_16 : decode cX6_takesSlice 16 = .ok (.iload_n 1, 1) := by decide +kernel
theorem dX6_takesSlice_17 : decode cX6_takesSlice 17 = .ok (.iadd, 1) := by decide +kernel
theorem dX6_takesSlice_18 : decode cX6_takesSlice 18 = .ok (.bipush 48, 2) := by decide +kernel
theorem dX6_takesSlice_20 : decode cX6_takesSlice 20 = .ok (.isub, 1) := by decide +kernel
theorem dX6_takesSlice_21 : decode cX6_takesSlice 21 = .ok (.istore_n 2, 1) := by decide +kernel
theorem dX6_takesSlice_22 : decode cX6_takesSlice 22 = .ok (.iload_n 1, 1) := by decide +kernel
theorem dX6_takesSlice_23 : decode cX6_takesSlice 23 = .ok (.bipush 48, 2) := by decide +kernel
theorem dX6_takesSlice_25 : decode cX6_takesSlice 25 = .ok (.bipush 57, 2) := by decide +kernel
theorem dX6_takesSlice_27 : decode cX6_takesSlice 27 = .ok (.invokestatic 29, 3) := by decide +kernel
theorem dX6_takesSlice_30 : decode cX6_takesSlice 30 = .ok (.ifCond .eq 38, 3) := by decide +kernel
theorem dX6_takesSlice_33 : decode cX6_takesSlice 33 = .ok (.iload_n 2, 1) := by decide +kernel
theorem dX6_takesSlice_34 : decode cX6_takesSlice 34 = .ok (.bipush 12, 2) := by decide +kernel
theorem dX6_takesSlice_36 : decode cX6_takesSlice 36 = .ok (.if_icmp .ge 32, 3) := by decide +kernel
theorem dX6_takesSlice_39 : decode cX6_takesSlice 39 = .ok (.aload_n 0, 1) := by decide +kernel
theorem dX6_takesSlice_40 : decode cX6_takesSlice 40 = .ok (.getfield 117, 3) := by decide +kernel
theorem dX6_takesSlice_43 : decode cX6_takesSlice 43 = .ok (.iconst 3, 1) := by decide +kernel
theorem dX6_takesSlice_44 : decode cX6_takesSlice 44 = .ok (.if_icmp .eq 20, 3) := by decide +kernel
theorem dX6_takesSlice_47 : decode cX6_takesSlice 47 = .ok (.aload_n 0, 1) := by decide +kernel
theorem dX6_takesSlice_48 : decode cX6_takesSlice 48 = .ok (.getfield 22, 3) := by decide +kernel
theorem dX6_takesSlice_51 : decode cX6_takesSlice 51 = .ok (.iconst 3, 1) := by decide +kernel
theorem dX6_takesSlice_52 : decode cX6_takesSlice 52 = .ok (.aload_n 0, 1) := by decide +kernel
theorem dX6_takesSlice_53 : decode cX6_takesSlice 53 = .ok (.getfield 123, 3) := by decide +kernel
theorem dX6_takesSlice_56 : decode cX6_takesSlice 56 = .ok (.imul, 1) := by decide +kernel
theorem dX6_takesSlice_57 : decode cX6_takesSlice 57 = .ok (.iconst 2, 1) := by decide +kernel
theorem dX6_takesSlice_58 : decode cX6_takesSlice 58 = .ok (.iadd, 1) := by decide +kernel
theorem dX6_takesSlice_59 : decode cX6_takesSlice 59 = .ok (.iaload, 1) := by decide +kernel
theorem dX6_takesSlice_60 : decode cX6_takesSlice 60 = .ok (.iconst 1, 1) := by decide +kernel
theorem dX6_takesSlice_61 : decode cX6_takesSlice 61 = .ok (.if_icmp .ne 7, 3) := by decide +kernel
theorem dX6_takesSlice_64 : decode cX6_takesSlice 64 = .ok (.iconst 1, 1) := by decide +kernel
theorem dX6_takesSlice_65 : decode cX6_takesSlice 65 = .ok (.goto 4, 3) := by decide +kernel
theorem dX6_takesSlice_68 : decode cX6_takesSlice 68 = .ok (.iconst 0, 1) := by decide +kernel
theorem dX6_takesSlice_69 : decode cX6_takesSlice 69 = .ok (.istore_n 3, 1) := by decide +kernel
theorem dX6_takesSlice_70 : decode cX6_takesSlice 70 = .ok (.aload_n 0, 1) := by decide +kernel
theorem dX6_takesSlice_71 : decode cX6_takesSlice 71 = .ok (.getfield 22, 3) := by decide +kernel
theorem dX6_takesSlice_74 : decode cX6_takesSlice 74 = .ok (.iconst 3, 1) := by decide +kernel
theorem dX6_takesSlice_75 : decode cX6_takesSlice 75 = .ok (.aload_n 0, 1) := by decide +kernel
theorem dX6_takesSlice_76 : decode cX6_takesSlice 76 = .ok (.getfield 123, 3) := by decide +kernel
theorem dX6_takesSlice_79 : decode cX6_takesSlice 79 = .ok (.imul, 1) := by decide +kernel
theorem dX6_takesSlice_80 : decode cX6_takesSlice 80 = .ok (.iconst 2, 1) := by decide +kernel
theorem dX6_takesSlice_81 : decode cX6_takesSlice 81 = .ok (.iadd, 1) := by decide +kernel
theorem dX6_takesSlice_82 : decode cX6_takesSlice 82 = .ok (.iload_n 3, 1) := by decide +kernel
theorem dX6_takesSlice_83 : decode cX6_takesSlice 83 = .ok (.ifCond .eq 7, 3) := by decide +kernel
theorem dX6_takesSlice_86 : decode cX6_takesSlice 86 = .ok (.iload_n 2, 1) := by decide +kernel
theorem dX6_takesSlice_87 : decode cX6_takesSlice 87 = .ok (.goto 16, 3) := by decide +kernel
theorem dX6_takesSlice_90 : decode cX6_takesSlice 90 = .ok (.aload_n 0, 1) := by decide +kernel
theorem dX6_takesSlice_91 : decode cX6_takesSlice 91 = .ok (.getfield 22, 3) := by decide +kernel
theorem dX6_takesSlice_94 : decode cX6_takesSlice 94 = .ok (.iconst 3, 1) := by decide +kernel
theorem dX6_takesSlice_95 : decode cX6_takesSlice 95 = .ok (.aload_n 0, 1) := by decide +kernel
theorem dX6_takesSlice_96 : decode cX6_takesSlice 96 = .ok (.getfield 123, 3) := by decide +kernel
theorem dX6_takesSlice_99 : decode cX6_takesSlice 99 = .ok (.imul, 1) := by decide +kernel
theorem dX6_takesSlice_100 : decode cX6_takesSlice 100 = .ok (.iconst 2, 1) := by decide +kernel
theorem dX6_takesSlice_101 : decode cX6_takesSlice 101 = .ok (.iadd, 1) := by decide +kernel
theorem dX6_takesSlice_102 : decode cX6_takesSlice 102 = .ok (.iaload, 1) := by decide +kernel
theorem dX6_takesSlice_103 : decode cX6_takesSlice 103 = .ok (.iastore, 1) := by decide +kernel
theorem dX6_takesSlice_104 : decode cX6_takesSlice 104 = .ok (.aload_n 0, 1) := by decide +kernel
theorem dX6_takesSlice_105 : decode cX6_takesSlice 105 = .ok (.iload_n 3, 1) := by decide +kernel
theorem dX6_takesSlice_106 : decode cX6_takesSlice 106 = .ok (.iconst 4, 1) := by decide +kernel
theorem dX6_takesSlice_107 : decode cX6_takesSlice 107 = .ok (.invokevirtual 126, 3) := by decide +kernel
theorem dX6_takesSlice_110 : decode cX6_takesSlice 110 = .ok (.ireturn, 1) := by decide +kernel
set_option maxRecDepth 20000 in
theorem ggX6_takes_X6_takesNumber : GoodIn wsX6_takes wsX6_takesNumber := goodIn_r _ [6, 7, 8, 9, 10, 5, 11, 12, 13, 14, 15, 1, 33, 34, 35, 36, 37, 38, 39, 40, 41, 42, 43, 44] (by decide +kernel) (by decide +kernel)
set_option maxRecDepth 20000 in
theorem gX6_takes_X6_takesNumber : GoodIn wsX6_takes (wsV RX6 133 RX6 yX6_takesNumber wsX6_takesNumber) := goodIn_app (goodIn_of _ (by decide +kernel)) ggX6_takes_X6_takesNumber
set_option maxRecDepth 20000 in
theorem ggX6_takes_X6_takesLetter : GoodIn wsX6_takes wsX6_takesLetter := goodIn_r _ [19, 7, 8, 9, 10, 5, 11, 12, 13, 14, 15, 1, 33, 34, 35, 36, 37, 38, 39, 40, 41, 42, 43, 44] (by decide +kernel) (by decide +kernel)
set_option maxRecDepth 20000 in
theorem gX6_takes_X6_takesLetter : GoodIn wsX6_takes (wsV RX6 136 RX6 yX6_takesLetter wsX6_takesLetter) := goodIn_app (goodIn_of _ (by decide +kernel)) ggX6_takes_X6_takesLetter
set_option maxRecDepth 20000 in
theorem ggX6_takes_X6_goes : GoodIn wsX6_takes wsX6_goes := goodIn_r _ [15, 1, 33, 34, 35, 36, 37, 38, 39, 40, 41, 42, 43, 44] (by decide +kernel) (by decide +kernel)
set_option maxRecDepth 20000 in
theorem gX6_takes_X6_goes : GoodIn wsX6_takes (wsV RX6 126 RX6 yX6_goes wsX6_goes) := goodIn_app (goodIn_of _ (by decide +kernel)) ggX6_takes_X6_goes
set_option maxRecDepth 20000 in
theorem ggX6_takes_X6_takesPlus : GoodIn wsX6_takes wsX6_takesPlus := goodIn_r _ [23, 24, 25, 26, 5, 27, 28, 7, 8, 12, 13, 14, 15, 1, 33, 34, 35, 36, 37, 38, 39, 40, 41, 42, 43, 44] (by decide +kernel) (by decide +kernel)
set_option maxRecDepth 20000 in
theorem gX6_takes_X6_takesPlus : GoodIn wsX6_takes (wsV RX6 139 RX6 yX6_takesPlus wsX6_takesPlus) := goodIn_app (goodIn_of _ (by decide +kernel)) ggX6_takes_X6_takesPlus
set_option maxRecDepth 20000 in
theorem ggX6_takes_X6_takesSlice : GoodIn wsX6_takes wsX6_takesSlice := goodIn_r _ [32, 7, 8, 1, 9, 10, 5, 11, 12, 13, 14, 15, 33, 34, 35, 36, 37, 38, 39, 40, 41, 42, 43, 44] (by decide +kernel) (by decide +kernel)
set_option maxRecDepth 20000 in
theorem gX6_takes_X6_takesSlice : GoodIn wsX6_takes (wsV RX6 142 RX6 yX6_takesSlice wsX6_takesSlice) := goodIn_app (goodIn_of _ (by decide +kernel)) ggX6_takes_X6_takesSlice
theorem dX6_takes_0 : decode cX6_takes 0 = .ok (.aload_n 0, 1) := by decide +kernel
theorem dX6_takes_1 : decode cX6_takes 1 = .ok (.getfield 117, 3) := by decide +kernel
theorem dX6_takes_4 : decode cX6_takes 4 = .ok (.tableswitch 99 0 3 #[32, 38, 60, 93], 32) := by decide +kernel
theorem dX6_takes_36 : decode cX6_takes 36 = .ok (.aload_n 0, 1) := by decide +kernel
theorem dX6_takes_37 : decode cX6_takes 37 = .ok (.iload_n 1, 1) := by decide +kernel
theorem dX6_takes_38 : decode cX6_takes 38 = .ok (.invokevirtual 133, 3) := by decide +kernel
theorem dX6_takes_41 : decode cX6_takes 41 = .ok (.ireturn, 1) := by decide +kernel
theorem dX6_takes_42 : decode cX6_takes 42 = .ok (.aload_n 0, 1) := by decide +kernel
theorem dX6_takes_43 : decode cX6_takes 43 = .ok (.iload_n 1, 1) := by decide +kernel
theorem dX6_takes_44 : decode cX6_takes 44 = .ok (.invokevirtual 133, 3) := by decide +kernel
theorem dX6_takes_47 : decode cX6_takes 47 = .ok (.ifCond .ne 11, 3) := by decide +kernel
theorem dX6_takes_50 : decode cX6_takes 50 = .ok (.aload_n 0, 1) := by decide +kernel
theorem dX6_takes_51 : decode cX6_takes 51 = .ok (.iload_n 1, 1) := by decide +kernel
theorem dX6_takes_52 : decode cX6_takes 52 = .ok (.invokevirtual 136, 3) := by decide +kernel
theorem dX6_takes_55 : decode cX6_takes 55 = .ok (.ifCond .eq 7, 3) := by decide +kernel
theorem dX6_takes_58 : decode cX6_takes 58 = .ok (.iconst 1, 1) := by decide +kernel
theorem dX6_takes_59 : decode cX6_takes 59 = .ok (.goto 4, 3) := by decide +kernel
theorem dX6_takes_62 : decode cX6_takes 62 = .ok (.iconst 0, 1) := by decide +kernel
theorem dX6_takes_63 : decode cX6_takes 63 = .ok (.ireturn, 1) := by decide +kernel
theorem dX6_takes_64 : decode cX6_takes 64 = .ok (.aload_n 0, 1) := by decide +kernel
theorem dX6_takes_65 : decode cX6_takes 65 = .ok (.iload_n 1, 1) := by decide +kernel
theorem dX6_takes_66 : decode cX6_takes 66 = .ok (.bipush 64, 2) := by decide +kernel
theorem dX6_takes_68 : decode cX6_takes 68 = .ok (.if_icmp .ne 7, 3) := by decide +kernel
theorem dX6_takes_71 : decode cX6_takes 71 = .ok (.iconst 1, 1) := by decide +kernel
theorem dX6_takes_72 : decode cX6_takes 72 = .ok (.goto 4, 3) := by decide +kernel
theorem dX6_takes_75 : decode cX6_takes 75 = .ok (.iconst 0, 1) := by decide +kernel
theorem dX6_takes_76 : decode cX6_takes 76 = .ok (.iconst 3, 1) := by decide +kernel
theorem dX6_takes_77 : decode cX6_takes 77 = .ok (.invokevirtual 126, 3) := by decide +kernel
theorem dX6_takes_80 : decode cX6_takes 80 = .ok (.ifCond .ne 11, 3) := by decide +kernel
theorem dX6_takes_83 : decode cX6_takes 83 = .ok (.aload_n 0, 1) := by decide +kernel
theorem dX6_takes_84 : decode cX6_takes 84 = .ok (.iload_n 1, 1) := by decide +kernel
theorem dX6_takes_85 : decode cX6_takes 85 = .ok (.invokevirtual 139, 3) := by decide +kernel
theorem dX6_takes_88 : decode cX6_takes 88 = .ok (.ifCond .eq 7, 3) := by decide +kernel
theorem dX6_takes_91 : decode cX6_takes 91 = .ok (.iconst 1, 1) := by decide +kernel
theorem dX6_takes_92 : decode cX6_takes 92 = .ok (.goto 4, 3) := by decide +kernel
theorem dX6_takes_95 : decode cX6_takes 95 = .ok (.iconst 0, 1) := by decide +kernel
theorem dX6_takes_96 : decode cX6_takes 96 = .ok (.ireturn, 1) := by decide +kernel
theorem dX6_takes_97 : decode cX6_takes 97 = .ok (.aload_n 0, 1) := by decide +kernel
theorem dX6_takes_98 : decode cX6_takes 98 = .ok (.iload_n 1, 1) := by decide +kernel
theorem dX6_takes_99 : decode cX6_takes 99 = .ok (.invokevirtual 142, 3) := by decide +kernel
theorem dX6_takes_102 : decode cX6_takes 102 = .ok (.ireturn, 1) := by decide +kernel
theorem dX6_takes_103 : decode cX6_takes 103 = .ok (.aload_n 0, 1) := by decide +kernel
theorem dX6_takes_104 : decode cX6_takes 104 = .ok (.iload_n 1, 1) := by decide +kernel
theorem dX6_takes_105 : decode cX6_takes 105 = .ok (.invokevirtual 142, 3) := by decide +kernel
theorem dX6_takes_108 : decode cX6_takes 108 = .ok (.ifCond .ne 11, 3) := by decide +kernel
theorem dX6_takes_111 : decode cX6_takes 111 = .ok (.aload_n 0, 1) := by decide +kernel
theorem dX6_takes_112 : decode cX6_takes 112 = .ok (.iload_n 1, 1) := by decide +kernel
theorem dX6_takes_113 : decode cX6_takes 113 = .ok (.invokevirtual 139, 3) := by decide +kernel
theorem dX6_takes_116 : decode cX6_takes 116 = .ok (.ifCond .eq 7, 3) := by decide +kernel
theorem dX6_takes_119 : decode cX6_takes 119 = .ok (.iconst 1, 1) := by decide +kernel
theorem dX6_takes_120 : decode cX6_takes 120 = .ok (.goto 4, 3) := by decide +kernel
theorem dX6_takes_123 : decode cX6_takes 123 = .ok (.iconst 0, 1) := by decide +kernel
theorem dX6_takes_124 : decode cX6_takes 124 = .ok (.ireturn, 1) := by decide +kernel
set_option maxRecDepth 20000 in
theorem ggX6_readText_X6_takes : GoodIn wsX6_readText wsX6_takes := goodIn_r _ [11, 1, 12, 13, 14, 10, 15, 4, 2, 16, 17, 18, 19, 20, 21, 22, 23, 24, 25, 26, 27, 28, 29, 30, 31, 32, 33, 34, 3, 35, 36, 37, 38, 39, 40, 41, 42, 43, 44, 45, 46, 47, 48, 49, 50] (by decide +kernel) (by decide +kernel)
set_option maxRecDepth 20000 in
theorem gX6_readText_X6_takes : GoodIn wsX6_readText (wsV RX6 145 RX6 yX6_takes wsX6_takes) := goodIn_app (goodIn_of _ (by decide +kernel)) ggX6_readText_X6_takes
theorem dX6_readText_0 : decode cX6_readText 0 = .ok (.aload_n 0, 1) := by decide +kernel
theorem dX6_readText_1 : decode cX6_readText 1 = .ok (.iconst 0, 1) := by decide +kernel
theorem dX6_readText_2 : decode cX6_readText 2 = .ok (.putfield 117, 3) := by decide +kernel
theorem dX6_readText_5 : decode cX6_readText 5 = .ok (.aload_n 0, 1) := by decide +kernel
theorem dX6_readText_6 : decode cX6_readText 6 = .ok (.iconst 0, 1) := by decide +kernel
theorem dX6_readText_7 : decode cX6_readText 7 = .ok (.putfield 123, 3) := by decide +kernel
theorem dX6_readText_10 : decode cX6_readText 10 = .ok (.aload_n 0, 1) := by decide +kernel
theorem dX6_readText_11 : decode cX6_readText 11 = .ok (.iconst 0, 1) := by decide +kernel
theorem dX6_readText_12 : decode cX6_readText 12 = .ok (.putfield 120, 3) := by decide +kernel
theorem dX6_readText_15 : decode cX6_readText 15 = .ok (.aload_n 0, 1) := by decide +kernel
theorem dX6_readText_16 : decode cX6_readText 16 = .ok (.getfield 22, 3) := by decide +kernel
theorem dX6_readText_19 : decode cX6_readText 19 = .ok (.iconst 0, 1) := by decide +kernel
theorem dX6_readText_20 : decode cX6_readText 20 = .ok (.iconst 0, 1) := by decide +kernel
theorem dX6_readText_21 : decode cX6_readText 21 = .ok (.iastore, 1) := by decide +kernel
theorem dX6_readText_22 : decode cX6_readText 22 = .ok (.aload_n 0, 1) := by decide +kernel
theorem dX6_readText_23 : decode cX6_readText 23 = .ok (.getfield 22, 3) := by decide +kernel
theorem dX6_readText_26 : decode cX6_readText 26 = .ok (.iconst 2, 1) := by decide +kernel
theorem dX6_readText_27 : decode cX6_readText 27 = .ok (.iconst 0, 1) := by decide +kernel
theorem dX6_readText_28 : decode cX6_readText 28 = .ok (.iastore, 1) := by decide +kernel
theorem dX6_readText_29 : decode cX6_readText 29 = .ok (.iconst 0, 1) := by decide +kernel
theorem dX6_readText_30 : decode cX6_readText 30 = .ok (.istore_n 1, 1) := by decide +kernel
theorem dX6_readText_31 : decode cX6_readText 31 = .ok (.iload_n 1, 1) := by decide +kernel
theorem dX6_readText_32 : decode cX6_readText 32 = .ok (.aload_n 0, 1) := by decide +kernel
theorem dX6_readText_33 : decode cX6_readText 33 = .ok (.getfield 114, 3) := by decide +kernel
theorem dX6_readText_36 : decode cX6_readText 36 = .ok (.if_icmp .ge 22, 3) := by decide +kernel
theorem dX6_readText_39 : decode cX6_readText 39 = .ok (.aload_n 0, 1) := by decide +kernel
theorem dX6_readText_40 : decode cX6_readText 40 = .ok (.aload_n 0, 1) := by decide +kernel
theorem dX6_readText_41 : decode cX6_readText 41 = .ok (.getfield 16, 3) := by decide +kernel
theorem dX6_readText_44 : decode cX6_readText 44 = .ok (.iload_n 1, 1) := by decide +kernel
theorem dX6_readText_45 : decode cX6_readText 45 = .ok (.iaload, 1) := by decide +kernel
theorem dX6_readText_46 : decode cX6_readText 46 = .ok (.invokevirtual 145, 3) := by decide +kernel
theorem dX6_readText_49 : decode cX6_readText 49 = .ok (.ifCond .eq 9, 3) := by decide +kernel
theorem dX6_readText_52 : decode cX6_readText 52 = .ok (.iinc 1 1, 3) := by decide +kernel
theorem dX6_readText_55 : decode cX6_readText 55 = .ok (.goto (-24), 3) := by decide +kernel
theorem dX6_readText_58 : decode cX6_readText 58 = .ok (.iload_n 1, 1) := by decide +kernel
theorem dX6_readText_59 : decode cX6_readText 59 = .ok (.ireturn, 1) := by decide +kernel
set_option maxRecDepth 20000 in
theorem ggX6_firstError_X6_readText : GoodIn wsX6_firstError wsX6_readText := goodIn_r _ [6, 7, 8, 9, 10, 11, 12, 13, 14, 15, 5, 16, 17, 18, 19, 20, 21, 22, 23, 24, 25, 26, 27, 28, 29, 30, 31, 32, 33, 34, 35, 36, 37, 38, 39, 40, 41, 42, 43, 44, 45, 46, 47, 48, 49, 50, 51, 52, 53, 54, 55] (by decide +kernel) (by decide +kernel)
set_option maxRecDepth 20000 in
theorem gX6_firstError_X6_readText : GoodIn wsX6_firstError (wsV RX6 148 RX6 yX6_readText wsX6_readText) := goodIn_app (goodIn_of _ (by decide +kernel)) ggX6_firstError_X6_readText
theorem dX6_firstError_0 : decode cX6_firstError 0 = .ok (.aload_n 0, 1) := by decide +kernel
theorem dX6_firstError_1 : decode cX6_firstError 1 = .ok (.iconst 0, 1) := by decide +kernel
theorem dX6_firstError_2 : decode cX6_firstError 2 = .ok (.putfield 25, 3) := by decide +kernel
theorem dX6_firstError_5 : decode cX6_firstError 5 = .ok (.aload_n 0, 1) := by decide +kernel
