theorem dX2_clearWater_1 : decode cX2_clearWater 1 = .ok (.istore_n 2, 1) := by decide +kernel
theorem dX2_clearWater_2 : decode cX2_clearWater 2 = .ok (.iload_n 2, 1) := by decide +kernel
theorem dX2_clearWater_3 : decode cX2_clearWater 3 = .ok (.bipush 12, 2) := by decide +kernel
theorem dX2_clearWater_5 : decode cX2_clearWater 5 = .ok (.if_icmp .ge 21, 3) := by decide +kernel
theorem dX2_clearWater_8 : decode cX2_clearWater 8 = .ok (.aload_n 1, 1) := by decide +kernel
theorem dX2_clearWater_9 : decode cX2_clearWater 9 = .ok (.aload_n 0, 1) := by decide +kernel
theorem dX2_clearWater_10 : decode cX2_clearWater 10 = .ok (.iload_n 2, 1) := by decide +kernel
theorem dX2_clearWater_11 : decode cX2_clearWater 11 = .ok (.invokevirtual 25, 3) := by decide +kernel
theorem dX2_clearWater_14 : decode cX2_clearWater 14 = .ok (.invokevirtual 69, 3) := by decide +kernel
theorem dX2_clearWater_17 : decode cX2_clearWater 17 = .ok (.ifCond .eq 9, 3) := by decide +kernel
theorem dX2_clearWater_20 : decode cX2_clearWater 20 = .ok (.iinc 2 1, 3) := by decide +kernel
theorem dX2_clearWater_23 : decode cX2_clearWater 23 = .ok (.goto (-21), 3) := by decide +kernel
theorem dX2_clearWater_26 : decode cX2_clearWater 26 = .ok (.iload_n 2, 1) := by decide +kernel
theorem dX2_clearWater_27 : decode cX2_clearWater 27 = .ok (.ireturn, 1) := by decide +kernel
set_option maxRecDepth 20000 in
theorem ggX2_packedSlices_X2_allIn : GoodIn wsX2_packedSlices wsX2_allIn := goodIn_r _ [5, 6, 7, 8, 4, 9, 10, 17] (by decide +kernel) (by decide +kernel)
set_option maxRecDepth 20000 in
theorem gX2_packedSlices_X2_allIn : GoodIn wsX2_packedSlices (wsV RX2 25 RX2 yX2_allIn wsX2_allIn) := goodIn_app (goodIn_of _ (by decide +kernel)) ggX2_packedSlices_X2_allIn
set_option maxRecDepth 20000 in
theorem ggX2_packedSlices_X3_isPacked : GoodIn wsX2_packedSlices wsX3_isPacked := goodIn_r _ [15, 16, 18, 19] (by decide +kernel) (by decide +kernel)
set_option maxRecDepth 20000 in
theorem gX2_packedSlices_X3_isPacked : GoodIn wsX2_packedSlices (wsV RX2 65 RX3 yX3_isPacked wsX3_isPacked) := goodIn_app (goodIn_of _ (by decide +kernel)) ggX2_packedSlices_X3_isPacked
theorem dX2_packedSlices_0 : decode cX2_packedSlices 0 = .ok (.iconst 0, 1) := by decide +kernel
theorem dX2_packedSlices_1 : decode cX2_packedSlices 1 = .ok (.istore_n 2, 1) := by decide +kernel
theorem dX2_packedSlices_2 : decode cX2_packedSlices 2 = .ok (.iconst 0, 1) := by decide +kernel
theorem dX2_packedSlices_3 : decode cX2_packedSlices 3 = .ok (.istore_n 3, 1) := by decide +kernel
theorem dX2_packedSlices_4 : decode cX2_packedSlices 4 = .ok (.iload_n 3, 1) := by decide +kernel
theorem dX2_packedSlices_5 : decode cX2_packedSlices 5 = .ok (.bipush 12, 2) := by decide +kernel
theorem dX2_packedSlices_7 : decode cX2_packedSlices 7 = .ok (.if_icmp .ge 24, 3) := by decide +kernel
theorem dX2_packedSlices_10 : decode cX2_packedSlices 10 = .ok (.aload_n 1, 1) := by decide +kernel
theorem dX2_packedSlices_11 : decode cX2_packedSlices 11 = .ok (.aload_n 0, 1) := by decide +kernel
theorem dX2_packedSlices_12 : decode cX2_packedSlices 12 = .ok (.iload_n 3, 1) := by decide +kernel
theorem dX2_packedSlices_13 : decode cX2_packedSlices 13 = .ok (.invokevirtual 25, 3) := by decide +kernel
theorem dX2_packedSlices_16 : decode cX2_packedSlices 16 = .ok (.invokevirtual 65, 3) := by decide +kernel
theorem dX2_packedSlices_19 : decode cX2_packedSlices 19 = .ok (.ifCond .eq 6, 3) := by decide +kernel
theorem dX2_packedSlices_22 : decode cX2_packedSlices 22 = .ok (.iinc 2 1, 3) := by decide +kernel
theorem dX2_packedSlices_25 : decode cX2_packedSlices 25 = .ok (.iinc 3 1, 3) := by decide +kernel
theorem dX2_packedSlices_28 : decode cX2_packedSlices 28 = .ok (.goto (-24), 3) := by decide +kernel
theorem dX2_packedSlices_31 : decode cX2_packedSlices 31 = .ok (.iload_n 2, 1) := by decide +kernel
theorem dX2_packedSlices_32 : decode cX2_packedSlices 32 = .ok (.ireturn, 1) := by decide +kernel
set_option maxRecDepth 20000 in
theorem ggX2_clearSlices_X2_allIn : GoodIn wsX2_clearSlices wsX2_allIn := goodIn_r _ [5, 6, 7, 8, 4, 9, 10, 17] (by decide +kernel) (by decide +kernel)
set_option maxRecDepth 20000 in
theorem gX2_clearSlices_X2_allIn : GoodIn wsX2_clearSlices (wsV RX2 25 RX2 yX2_allIn wsX2_allIn) := goodIn_app (goodIn_of _ (by decide +kernel)) ggX2_clearSlices_X2_allIn
set_option maxRecDepth 20000 in
theorem ggX2_clearSlices_X3_isClear : GoodIn wsX2_clearSlices wsX3_isClear := goodIn_r _ [15, 16, 18, 19] (by decide +kernel) (by decide +kernel)
set_option maxRecDepth 20000 in
theorem gX2_clearSlices_X3_isClear : GoodIn wsX2_clearSlices (wsV RX2 69 RX3 yX3_isClear wsX3_isClear) := goodIn_app (goodIn_of _ (by decide +kernel)) ggX2_clearSlices_X3_isClear
theorem dX2_clearSlices_0 : decode cX2_clearSlices 0 = .ok (.iconst 0, 1) := by decide +kernel
theorem dX2_clearSlices_1 : decode cX2_clearSlices 1 = .ok (.istore_n 2, 1) := by decide +kernel
theorem dX2_clearSlices_2 : decode cX2_clearSlices 2 = .ok (.iconst 0, 1) := by decide +kernel
theorem dX2_clearSlices_3 : decode cX2_clearSlices 3 = .ok (.istore_n 3, 1) := by decide +kernel
theorem dX2_clearSlices_4 : decode cX2_clearSlices 4 = .ok (.iload_n 3, 1) := by decide +kernel
theorem dX2_clearSlices_5 : decode cX2_clearSlices 5 = .ok (.bipush 12, 2) := by decide +kernel
theorem dX2_clearSlices_7 : decode cX2_clearSlices 7 = .ok (.if_icmp .ge 24, 3) := by decide +kernel
theorem dX2_clearSlices_10 : decode cX2_clearSlices 10 = .ok (.aload_n 1, 1) := by decide +kernel
theorem dX2_clearSlices_11 : decode cX2_clearSlices 11 = .ok (.aload_n 0, 1) := by decide +kernel
theorem dX2_clearSlices_12 : decode cX2_clearSlices 12 = .ok (.iload_n 3, 1) := by decide +kernel
theorem dX2_clearSlices_13 : decode cX2_clearSlices 13 = .ok (.invokevirtual 25, 3) := by decide +kernel
theorem dX2_clearSlices_16 : decode cX2_clearSlices 16 = .ok (.invokevirtual 69, 3) := by decide +kernel
theorem dX2_clearSlices_19 : decode cX2_clearSlices 19 = .ok (.ifCond .eq 6, 3) := by decide +kernel
theorem dX2_clearSlices_22 : decode cX2_clearSlices 22 = .ok (.iinc 2 1, 3) := by decide +kernel
theorem dX2_clearSlices_25 : decode cX2_clearSlices 25 = .ok (.iinc 3 1, 3) := by decide +kernel
theorem dX2_clearSlices_28 : decode cX2_clearSlices 28 = .ok (.goto (-24), 3) := by decide +kernel
theorem dX2_clearSlices_31 : decode cX2_clearSlices 31 = .ok (.iload_n 2, 1) := by decide +kernel
theorem dX2_clearSlices_32 : decode cX2_clearSlices 32 = .ok (.ireturn, 1) := by decide +kernel
set_option maxRecDepth 20000 in
theorem ggX2_leadingClass_X2_many : GoodIn wsX2_leadingClass wsX2_many := goodIn_r _ [5, 6, 7] (by decide +kernel) (by decide +kernel)
set_option maxRecDepth 20000 in
theorem gX2_leadingClass_X2_many : GoodIn wsX2_leadingClass (wsV RX2 21 RX2 yX2_many wsX2_many) := goodIn_app (goodIn_of _ (by decide +kernel)) ggX2_leadingClass_X2_many
theorem dX2_leadingClass_0 : decode cX2_leadingClass 0 = .ok (.iconst (-1), 1) := by decide +kernel
theorem dX2_leadingClass_1 : decode cX2_leadingClass 1 = .ok (.istore_n 2, 1) := by decide +kernel
theorem dX2_leadingClass_2 : decode cX2_leadingClass 2 = .ok (.iconst 0, 1) := by decide +kernel
theorem dX2_leadingClass_3 : decode cX2_leadingClass 3 = .ok (.istore_n 3, 1) := by decide +kernel
theorem dX2_leadingClass_4 : decode cX2_leadingClass 4 = .ok (.iconst 0, 1) := by decide +kernel
theorem dX2_leadingClass_5 : decode cX2_leadingClass 5 = .ok (.istore 4, 2) := by decide +kernel
theorem dX2_leadingClass_7 : decode cX2_leadingClass 7 = .ok (.iload 4, 2) := by decide +kernel
theorem dX2_leadingClass_9 : decode cX2_leadingClass 9 = .ok (.iconst 4, 1) := by decide +kernel
theorem dX2_leadingClass_10 : decode cX2_leadingClass 10 = .ok (.if_icmp .ge 31, 3) := by decide +kernel
theorem dX2_leadingClass_13 : decode cX2_leadingClass 13 = .ok (.aload_n 0, 1) := by decide +kernel
theorem dX2_leadingClass_14 : decode cX2_leadingClass 14 = .ok (.iload_n 1, 1) := by decide +kernel
theorem dX2_leadingClass_15 : decode cX2_leadingClass 15 = .ok (.iload 4, 2) := by decide +kernel
theorem dX2_leadingClass_17 : decode cX2_leadingClass 17 = .ok (.invokevirtual 21, 3) := by decide +kernel
theorem dX2_leadingClass_20 : decode cX2_leadingClass 20 = .ok (.iload_n 3, 1) := by decide +kernel
theorem dX2_leadingClass_21 : decode cX2_leadingClass 21 = .ok (.if_icmp .le 14, 3) := by decide +kernel
theorem dX2_leadingClass_24 : decode cX2_leadingClass 24 = .ok (.iload 4, 2) := by decide +kernel
theorem dX2_leadingClass_26 : decode cX2_leadingClass 26 = .ok (.istore_n 2, 1) := by decide +kernel
theorem dX2_leadingClass_27 : decode cX2_leadingClass 27 = .ok (.aload_n 0, 1) := by decide +kernel
theorem dX2_leadingClass_28 : decode cX2_leadingClass 28 = .ok (.iload_n 1, 1) := by decide +kernel
theorem dX2_leadingClass_29 : decode cX2_leadingClass 29 = .ok (.iload 4, 2) := by decide +kernel
theorem dX2_leadingClass_31 : decode cX2_leadingClass 31 = .ok (.invokevirtual 21, 3) := by decide +kernel
theorem dX2_leadingClass_34 : decode cX2_leadingClass 34 = .ok (.istore_n 3, 1) := by decide +kernel
theorem dX2_leadingClass_35 : decode cX2_leadingClass 35 = .ok (.iinc 4 1, 3) := by decide +kernel
theorem dX2_leadingClass_38 : decode cX2_leadingClass 38 = .ok (.goto (-31), 3) := by decide +kernel
theorem dX2_leadingClass_41 : decode cX2_leadingClass 41 = .ok (.iload_n 2, 1) := by decide +kernel
theorem dX2_leadingClass_42 : decode cX2_leadingClass 42 = .ok (.ireturn, 1) := by decide +kernel
set_option maxRecDepth 20000 in
theorem ggX2_changesOfLeader_X2_leadingClass : GoodIn wsX2_changesOfLeader wsX2_leadingClass := goodIn_r _ [5, 6, 7, 8, 4, 9, 10, 11] (by decide +kernel) (by decide +kernel)
set_option maxRecDepth 20000 in
theorem gX2_changesOfLeader_X2_leadingClass : GoodIn wsX2_changesOfLeader (wsV RX2 72 RX2 yX2_leadingClass wsX2_leadingClass) := goodIn_app (goodIn_of _ (by decide +kernel)) ggX2_changesOfLeader_X2_leadingClass
theorem dX2_changesOfLeader_0 : decode cX2_changesOfLeader 0 = .ok (.iconst 0, 1) := by decide +kernel
theorem dX2_changesOfLeader_1 : decode cX2_changesOfLeader 1 = .ok (.istore_n 1, 1) := by decide +kernel
theorem dX2_changesOfLeader_2 : decode cX2_changesOfLeader 2 = .ok (.iconst (-1), 1) := by decide +kernel
theorem dX2_changesOfLeader_3 : decode cX2_changesOfLeader 3 = .ok (.istore_n 2, 1) := by decide +kernel
theorem dX2_changesOfLeader_4 : decode cX2_changesOfLeader 4 = .ok (.iconst 0, 1) := by decide +kernel
theorem dX2_changesOfLeader_5 : decode cX2_changesOfLeader 5 = .ok (.istore_n 3, 1) := by decide +kernel
theorem dX2_changesOfLeader_6 : decode cX2_changesOfLeader 6 = .ok (.iload_n 3, 1) := by decide +kernel
theorem dX2_changesOfLeader_7 : decode cX2_changesOfLeader 7 = .ok (.bipush 12, 2) := by decide +kernel
theorem dX2_changesOfLeader_9 : decode cX2_changesOfLeader 9 = .ok (.if_icmp .ge 45, 3) := by decide +kernel
theorem dX2_changesOfLeader_12 : decode cX2_changesOfLeader 12 = .ok (.aload_n 0, 1) := by decide +kernel
theorem dX2_changesOfLeader_13 : decode cX2_changesOfLeader 13 = .ok (.iload_n 3, 1) := by decide +kernel
theorem dX2_changesOfLeader_14 : decode cX2_changesOfLeader 14 = .ok (.invokevirtual 72, 3) := by decide +kernel
theorem dX2_changesOfLeader_17 : decode cX2_changesOfLeader 17 = .ok (.istore 4, 2) := by decide +kernel
theorem dX2_changesOfLeader_19 : decode cX2_changesOfLeader 19 = .ok (.iload 4, 2) := by decide +kernel
theorem dX2_changesOfLeader_21 : decode cX2_changesOfLeader 21 = .ok (.iconst (-1), 1) := by decide +kernel
theorem dX2_changesOfLeader_22 : decode cX2_changesOfLeader 22 = .ok (.if_icmp .eq 17, 3) := by decide +kernel
theorem dX2_changesOfLeader_25 : decode cX2_changesOfLeader 25 = .ok (.iload_n 2, 1) := by decide +kernel
theorem dX2_changesOfLeader_26 : decode cX2_changesOfLeader 26 = .ok (.iconst (-1), 1) := by decide +kernel
theorem dX2_changesOfLeader_27 : decode cX2_changesOfLeader 27 = .ok (.if_icmp .eq 12, 3) := by decide +kernel
theorem dX2_changesOfLeader_30 : decode cX2_changesOfLeader 30 = .ok (.iload 4, 2) := by decide +kernel
theorem dX2_changesOfLeader_32 : decode cX2_changesOfLeader 32 = .ok (.iload_n 2, 1) := by decide +kernel
theorem dX2_changesOfLeader_33 : decode cX2_changesOfLeader 33 = .ok (.if_icmp .eq 6, 3) := by decide +kernel
theorem dX2_changesOfLeader_36 : decode cX2_changesOfLeader 36 = .ok (.iinc 1 1, 3) := by decide +kernel
theorem dX2_changesOfLeader_39 : decode cX2_changesOfLeader 39 = .ok (.iload 4, 2) := by decide +kernel
theorem dX2_changesOfLeader_41 : decode cX2_changesOfLeader 41 = .ok (.iconst (-1), 1) := by decide +kernel
theorem dX2_changesOfLeader_42 : decode cX2_changesOfLeader 42 = .ok (.if_icmp .eq 6, 3) := by decide +kernel
theorem dX2_changesOfLeader_45 : decode cX2_changesOfLeader 45 = .ok (.iload 4, 2) := by decide +kernel
theorem dX2_changesOfLeader_47 : decode cX2_changesOfLeader 47 = .ok (.istore_n 2, 1) := by decide +kernel
theorem dX2_changesOfLeader_48 : decode cX2_changesOfLeader 48 = .ok (.iinc 3 1, 3) := by decide +kernel
theorem dX2_changesOfLeader_51 : decode cX2_changesOfLeader 51 = .ok (.goto (-45), 3) := by decide +kernel
theorem dX2_changesOfLeader_54 : decode cX2_changesOfLeader 54 = .ok (.iload_n 1, 1) := by decide +kernel
theorem dX2_changesOfLeader_55 : decode cX2_changesOfLeader 55 = .ok (.ireturn, 1) := by decide +kernel
set_option maxRecDepth 20000 in
theorem ggX2_purestSlice_X2_many : GoodIn wsX2_purestSlice wsX2_many := goodIn_r _ [5, 6, 11] (by decide +kernel) (by decide +kernel)
set_option maxRecDepth 20000 in
theorem gX2_purestSlice_X2_many : GoodIn wsX2_purestSlice (wsV RX2 21 RX2 yX2_many wsX2_many) := goodIn_app (goodIn_of _ (by decide +kernel)) ggX2_purestSlice_X2_many
set_option maxRecDepth 20000 in
theorem ggX2_purestSlice_X2_allIn : GoodIn wsX2_purestSlice wsX2_allIn := goodIn_r _ [10, 1, 2, 3, 4, 5, 6, 11] (by decide +kernel) (by decide +kernel)
set_option maxRecDepth 20000 in
theorem gX2_purestSlice_X2_allIn : GoodIn wsX2_purestSlice (wsV RX2 25 RX2 yX2_allIn wsX2_allIn) := goodIn_app (goodIn_of _ (by decide +kernel)) ggX2_purestSlice_X2_allIn
theorem dX2_purestSlice_0 : decode cX2_purestSlice 0 = .ok (.iconst (-1), 1) := by decide +kernel
theorem dX2_purestSlice_1 : decode cX2_purestSlice 1 = .ok (.istore_n 2, 1) := by decide +kernel
theorem dX2_purestSlice_2 : decode cX2_purestSlice 2 = .ok (.iconst 0, 1) := by decide +kernel
theorem dX2_purestSlice_3 : decode cX2_purestSlice 3 = .ok (.istore_n 3, 1) := by decide +kernel
theorem dX2_purestSlice_4 : decode cX2_purestSlice 4 = .ok (.iconst 1, 1) := by decide +kernel
theorem dX2_purestSlice_5 : decode cX2_purestSlice 5 = .ok (.istore 4, 2) := by decide +kernel
theorem dX2_purestSlice_7 : decode cX2_purestSlice 7 = .ok (.iconst 0, 1) := by decide +kernel
theorem dX2_purestSlice_8 : decode cX2_purestSlice 8 = .ok (.istore 5, 2) := by decide +kernel
theorem dX2_purestSlice_10 : decode cX2_purestSlice 10 = .ok (.iload 5, 2) := by decide +kernel
theorem dX2_purestSlice_12 : decode cX2_purestSlice 12 = .ok (.bipush 12, 2) := by decide +kernel
theorem dX2_purestSlice_14 : decode cX2_purestSlice 14 = .ok (.if_icmp .ge 48, 3) := by decide +kernel
theorem dX2_purestSlice_17 : decode cX2_purestSlice 17 = .ok (.aload_n 0, 1) := by decide +kernel
theorem dX2_purestSlice_18 : decode cX2_purestSlice 18 = .ok (.iload 5, 2) := by decide +kernel
theorem dX2_purestSlice_20 : decode cX2_purestSlice 20 = .ok (.iload_n 1, 1) := by decide +kernel
theorem dX2_purestSlice_21 : decode cX2_purestSlice 21 = .ok (.invokevirtual 21, 3) := by decide +kernel
theorem dX2_purestSlice_24 : decode cX2_purestSlice 24 = .ok (.istore 6, 2) := by decide +kernel
theorem dX2_purestSlice_26 : decode cX2_purestSlice 26 = .ok (.aload_n 0, 1) := by decide +kernel
theorem dX2_purestSlice_27 : decode cX2_purestSlice 27 = .ok (.iload 5, 2) := by decide +kernel
theorem dX2_purestSlice_29 : decode cX2_purestSlice 29 = .ok (.invokevirtual 25, 3) := by decide +kernel
theorem dX2_purestSlice_32 : decode cX2_purestSlice 32 = .ok (.istore 7, 2) := by decide +kernel
theorem dX2_purestSlice_34 : decode cX2_purestSlice 34 = .ok (.iload 6, 2) := by decide +kernel
theorem dX2_purestSlice_36 : decode cX2_purestSlice 36 = .ok (.iload 4, 2) := by decide +kernel
theorem dX2_purestSlice_38 : decode cX2_purestSlice 38 = .ok (.imul, 1) := by decide +kernel
theorem dX2_purestSlice_39 : decode cX2_purestSlice 39 = .ok (.iload_n 3, 1) := by decide +kernel
theorem dX2_purestSlice_40 : decode cX2_purestSlice 40 = .ok (.iload 7, 2) := by decide +kernel
theorem dX2_purestSlice_42 : decode cX2_purestSlice 42 = .ok (.imul, 1) := by decide +kernel
theorem dX2_purestSlice_43 : decode cX2_purestSlice 43 = .ok (.if_icmp .le 13, 3) := by decide +kernel
theorem dX2_purestSlice_46 : decode cX2_purestSlice 46 = .ok (.iload 5, 2) := by decide +kernel
theorem dX2_purestSlice_48 : decode cX2_purestSlice 48 = .ok (.istore_n 2, 1) := by decide +kernel
theorem dX2_purestSlice_49 : decode cX2_purestSlice 49 = .ok (.iload 6, 2) := by decide +kernel
theorem dX2_purestSlice_51 : decode cX2_purestSlice 51 = .ok (.istore_n 3, 1) := by decide +kernel
theorem dX2_purestSlice_52 : decode cX2_purestSlice 52 = .ok (.iload 7, 2) := by decide +kernel
theorem dX2_purestSlice_54 : decode cX2_purestSlice 54 = .ok (.istore 4, 2) := by decide +kernel
theorem dX2_purestSlice_56 : decode cX2_purestSlice 56 = .ok (.iinc 5 1, 3) := by decide +kernel
theorem dX2_purestSlice_59 : decode cX2_purestSlice 59 = .ok (.goto (-49), 3) := by decide +kernel
theorem dX2_purestSlice_62 : decode cX2_purestSlice 62 = .ok (.iload_n 2, 1) := by decide +kernel
theorem dX2_purestSlice_63 : decode cX2_purestSlice 63 = .ok (.ireturn, 1) := by decide +kernel
theorem dX3_init_0 : decode cX3_init 0 = .ok (.aload_n 0, 1) := by decide +kernel
theorem dX3_init_1 : decode cX3_init 1 = .ok (.invokespecial 3, 3) := by decide +kernel
theorem dX3_init_4 : decode cX3_init 4 = .ok (.aload_n 0, 1) := by decide +kernel
theorem dX3_init_5 : decode cX3_init 5 = .ok (.iconst 4, 1) := by decide +kernel
theorem dX3_init_6 : decode cX3_init 6 = .ok (.newarray .int, 2) := by decide +kernel
theorem dX3_init_8 : decode cX3_init 8 = .ok (.dup, 1) := by decide +kernel
theorem dX3_init_9 : decode cX3_init 9 = .ok (.iconst 0, 1) := by decide +kernel
theorem dX3_init_10 : decode cX3_init 10 = .ok (.bipush 100, 2) := by decide +kernel
theorem dX3_init_12 : decode cX3_init 12 = .ok (.iastore, 1) := by decide +kernel
theorem dX3_init_13 : decode cX3_init 13 = .ok (.dup, 1) := by decide +kernel
theorem dX3_init_14 : decode cX3_init 14 = .ok (.iconst 1, 1) := by decide +kernel
theorem dX3_init_15 : decode cX3_init 15 = .ok (.sipush 200, 3) := by decide +kernel
theorem dX3_init_18 : decode cX3_init 18 = .ok (.iastore, 1) := by decide +kernel
theorem dX3_init_19 : decode cX3_init 19 = .ok (.dup, 1) := by decide +kernel
theorem dX3_init_20 : decode cX3_init 20 = .ok (.iconst 2, 1) := by decide +kernel
theorem dX3_init_21 : decode cX3_init 21 = .ok (.iconst 3, 1) := by decide +kernel
theorem dX3_init_22 : decode cX3_init 22 = .ok (.iastore, 1) := by decide +kernel
theorem dX3_init_23 : decode cX3_init 23 = .ok (.dup, 1) := by decide +kernel
theorem dX3_init_24 : decode cX3_init 24 = .ok (.iconst 3, 1) := by decide +kernel
theorem dX3_init_25 : decode cX3_init 25 = .ok (.iconst 0, 1) := by decide +kernel
theorem dX3_init_26 : decode cX3_init 26 = .ok (.iastore, 1) := by decide +kernel
theorem dX3_init_27 : decode cX3_init 27 = .ok (.putfield 9, 3) := by decide +kernel
theorem dX3_init_30 : decode cX3_init 30 = .ok (.aload_n 0, 1) := by decide +kernel
theorem dX3_init_31 : decode cX3_init 31 = .ok (.iconst 4, 1) := by decide +kernel
theorem dX3_init_32 : decode cX3_init 32 = .ok (.newarray .int, 2) := by decide +kernel
theorem dX3_init_34 : decode cX3_init 34 = .ok (.dup, 1) := by decide +kernel
theorem dX3_init_35 : decode cX3_init 35 = .ok (.iconst 0, 1) := by decide +kernel
theorem dX3_init_36 : decode cX3_init 36 = .ok (.bipush 40, 2) := by decide +kernel
theorem dX3_init_38 : decode cX3_init 38 = .ok (.iastore, 1) := by decide +kernel
theorem dX3_init_39 : decode cX3_init 39 = .ok (.dup, 1) := by decide +kernel
theorem dX3_init_40 : decode cX3_init 40 = .ok (.iconst 1, 1) := by decide +kernel
theorem dX3_init_41 : decode cX3_init 41 = .ok (.bipush 20, 2) := by decide +kernel
theorem dX3_init_43 : decode cX3_init 43 = .ok (.iastore, 1) := by decide +kernel
theorem dX3_init_44 : decode cX3_init 44 = .ok (.dup, 1) := by decide +kernel
theorem dX3_init_45 : decode cX3_init 45 = .ok (.iconst 2, 1) := by decide +kernel
theorem dX3_init_46 : decode cX3_init 46 = .ok (.bipush 10, 2) := by decide +kernel
theorem dX3_init_48 : decode cX3_init 48 = .ok (.iastore, 1) := by decide +kernel
theorem dX3_init_49 : decode cX3_init 49 = .ok (.dup, 1) := by decide +kernel
theorem dX3_init_50 : decode cX3_init 50 = .ok (.iconst 3, 1) := by decide +kernel
theorem dX3_init_51 : decode cX3_init 51 = .ok (.iconst 5, 1) := by decide +kernel
theorem dX3_init_52 : decode cX3_init 52 = .ok (.iastore, 1) := by decide +kernel
theorem dX3_init_53 : decode cX3_init 53 = .ok (.putfield 15, 3) := by decide +kernel
theorem dX3_init_56 : decode cX3_init 56 = .ok (.return_, 1) := by decide +kernel
theorem dX3_copyFrom_0 : decode cX3_copyFrom 0 = .ok (.aload_n 1, 1) := by decide +kernel
theorem dX3_copyFrom_1 : decode cX3_copyFrom 1 = .ok (.getfield 9, 3) := by decide +kernel
theorem dX3_copyFrom_4 : decode cX3_copyFrom 4 = .ok (.iconst 0, 1) := by decide +kernel
theorem dX3_copyFrom_5 : decode cX3_copyFrom 5 = .ok (.aload_n 0, 1) := by decide +kernel
theorem dX3_copyFrom_6 : decode cX3_copyFrom 6 = .ok (.getfield 9, 3) := by decide +kernel
theorem dX3_copyFrom_9 : decode cX3_copyFrom 9 = .ok (.iconst 0, 1) := by decide +kernel
theorem dX3_copyFrom_10 : decode cX3_copyFrom 10 = .ok (.iconst 4, 1) := by decide +kernel
theorem dX3_copyFrom_11 : decode cX3_copyFrom 11 = .ok (.invokestatic 18, 3) := by decide +kernel
theorem dX3_copyFrom_14 : decode cX3_copyFrom 14 = .ok (.aload_n 1, 1) := by decide +kernel
theorem dX3_copyFrom_15 : decode cX3_copyFrom 15 = .ok (.getfield 15, 3) := by decide +kernel
theorem dX3_copyFrom_18 : decode cX3_copyFrom 18 = .ok (.iconst 0, 1) := by decide +kernel
theorem dX3_copyFrom_19 : decode cX3_copyFrom 19 = .ok (.aload_n 0, 1) := by decide +kernel
theorem dX3_copyFrom_20 : decode cX3_copyFrom 20 = .ok (.getfield 15, 3) := by decide +kernel
theorem dX3_copyFrom_23 : decode cX3_copyFrom 23 = .ok (.iconst 0, 1) := by decide +kernel
theorem dX3_copyFrom_24 : decode cX3_copyFrom 24 = .ok (.iconst 4, 1) := by decide +kernel
theorem dX3_copyFrom_25 : decode cX3_copyFrom 25 = .ok (.invokestatic 18, 3) := by decide +kernel
theorem dX3_copyFrom_28 : decode cX3_copyFrom 28 = .ok (.return_, 1) := by decide +kernel
theorem dX3_factorOf_0 : decode cX3_factorOf 0 = .ok (.ldc 24, 2) := by decide +kernel
theorem dX3_factorOf_2 : decode cX3_factorOf 2 = .ok (.iconst 1, 1) := by decide +kernel
theorem dX3_factorOf_3 : decode cX3_factorOf 3 = .ok (.sipush 1000, 3) := by decide +kernel
theorem dX3_factorOf_6 : decode cX3_factorOf 6 = .ok (.iload_n 1, 1) := by decide +kernel
theorem dX3_factorOf_7 : decode cX3_factorOf 7 = .ok (.aload_n 0, 1) := by decide +kernel
theorem dX3_factorOf_8 : decode cX3_factorOf 8 = .ok (.getfield 9, 3) := by decide +kernel
theorem dX3_factorOf_11 : decode cX3_factorOf 11 = .ok (.iconst 0, 1) := by decide +kernel
theorem dX3_factorOf_12 : decode cX3_factorOf 12 = .ok (.iaload, 1) := by decide +kernel
theorem dX3_factorOf_13 : decode cX3_factorOf 13 = .ok (.imul, 1) := by decide +kernel
theorem dX3_factorOf_14 : decode cX3_factorOf 14 = .ok (.bipush 10, 2) := by decide +kernel
theorem dX3_factorOf_16 : decode cX3_factorOf 16 = .ok (.idiv, 1) := by decide +kernel
theorem dX3_factorOf_17 : decode cX3_factorOf 17 = .ok (.iadd, 1) := by decide +kernel
theorem dX3_factorOf_18 : decode cX3_factorOf 18 = .ok (.invokestatic 25, 3) := by decide +kernel
theorem dX3_factorOf_21 : decode cX3_factorOf 21 = .ok (.idiv, 1) := by decide +kernel
theorem dX3_factorOf_22 : decode cX3_factorOf 22 = .ok (.ireturn, 1) := by decide +kernel
theorem dX3_roomOver_0 : decode cX3_roomOver 0 = .ok (.iconst 0, 1) := by decide +kernel
theorem dX3_roomOver_1 : decode cX3_roomOver 1 = .ok (.aload_n 0, 1) := by decide +kernel
theorem dX3_roomOver_2 : decode cX3_roomOver 2 = .ok (.getfield 9, 3) := by decide +kernel
theorem dX3_roomOver_5 : decode cX3_roomOver 5 = .ok (.iconst 1, 1) := by decide +kernel
theorem dX3_roomOver_6 : decode cX3_roomOver 6 = .ok (.iaload, 1) := by decide +kernel
theorem dX3_roomOver_7 : decode cX3_roomOver 7 = .ok (.iload_n 1, 1) := by decide +kernel
theorem dX3_roomOver_8 : decode cX3_roomOver 8 = .ok (.isub, 1) := by decide +kernel
theorem dX3_roomOver_9 : decode cX3_roomOver 9 = .ok (.invokestatic 25, 3) := by decide +kernel
theorem dX3_roomOver_12 : decode cX3_roomOver 12 = .ok (.ireturn, 1) := by decide +kernel
theorem dX3_isPacked_0 : decode cX3_isPacked 0 = .ok (.iload_n 1, 1) := by decide +kernel
theorem dX3_isPacked_1 : decode cX3_isPacked 1 = .ok (.aload_n 0, 1) := by decide +kernel
theorem dX3_isPacked_2 : decode cX3_isPacked 2 = .ok (.getfield 9, 3) := by decide +kernel
theorem dX3_isPacked_5 : decode cX3_isPacked 5 = .ok (.iconst 1, 1) := by decide +kernel
theorem dX3_isPacked_6 : decode cX3_isPacked 6 = .ok (.iaload, 1) := by decide +kernel
theorem dX3_isPacked_7 : decode cX3_isPacked 7 = .ok (.if_icmp .lt 7, 3) := by decide +kernel
theorem dX3_isPacked_10 : decode cX3_isPacked 10 = .ok (.iconst 1, 1) := by decide +kernel
theorem dX3_isPacked_11 : decode cX3_isPacked 11 = .ok (.goto 4, 3) := by decide +kernel
theorem dX3_isPacked_14 : decode cX3_isPacked 14 = .ok (.iconst 0, 1) := by decide +kernel
theorem dX3_isPacked_15 : decode cX3_isPacked 15 = .ok (.ireturn, 1) := by decide +kernel
theorem dX3_isClear_0 : decode cX3_isClear 0 = .ok (.iload_n 1, 1) := by decide +kernel
theorem dX3_isClear_1 : decode cX3_isClear 1 = .ok (.aload_n 0, 1) := by decide +kernel
theorem dX3_isClear_2 : decode cX3_isClear 2 = .ok (.getfield 9, 3) := by decide +kernel
theorem dX3_isClear_5 : decode cX3_isClear 5 = .ok (.iconst 2, 1) := by decide +kernel
theorem dX3_isClear_6 : decode cX3_isClear 6 = .ok (.iaload, 1) := by decide +kernel
theorem dX3_isClear_7 : decode cX3_isClear 7 = .ok (.if_icmp .gt 7, 3) := by decide +kernel
theorem dX3_isClear_10 : decode cX3_isClear 10 = .ok (.iconst 1, 1) := by decide +kernel
theorem dX3_isClear_11 : decode cX3_isClear 11 = .ok (.goto 4, 3) := by decide +kernel
theorem dX3_isClear_14 : decode cX3_isClear 14 = .ok (.iconst 0, 1) := by decide +kernel
theorem dX3_isClear_15 : decode cX3_isClear 15 = .ok (.ireturn, 1) := by decide +kernel
theorem dX3_wantingToFall_0 : decode cX3_wantingToFall 0 = .ok (.iload_n 2, 1) := by decide +kernel
theorem dX3_wantingToFall_1 : decode cX3_wantingToFall 1 = .ok (.aload_n 0, 1) := by decide +kernel
theorem dX3_wantingToFall_2 : decode cX3_wantingToFall 2 = .ok (.getfield 15, 3) := by decide +kernel
theorem dX3_wantingToFall_5 : decode cX3_wantingToFall 5 = .ok (.iload_n 1, 1) := by decide +kernel
theorem dX3_wantingToFall_6 : decode cX3_wantingToFall 6 = .ok (.iaload, 1) := by decide +kernel
theorem dX3_wantingToFall_7 : decode cX3_wantingToFall 7 = .ok (.imul, 1) := by decide +kernel
theorem dX3_wantingToFall_8 : decode cX3_wantingToFall 8 = .ok (.iload_n 3, 1) := by decide +kernel
theorem dX3_wantingToFall_9 : decode cX3_wantingToFall 9 = .ok (.imul, 1) := by decide +kernel
theorem dX3_wantingToFall_10 : decode cX3_wantingToFall 10 = .ok (.ldc 31, 2) := by decide +kernel
theorem dX3_wantingToFall_12 : decode cX3_wantingToFall 12 = .ok (.idiv, 1) := by decide +kernel
theorem dX3_wantingToFall_13 : decode cX3_wantingToFall 13 = .ok (.istore 4, 2) := by decide +kernel
theorem dX3_wantingToFall_15 : decode cX3_wantingToFall 15 = .ok (.iload 4, 2) := by decide +kernel
theorem dX3_wantingToFall_17 : decode cX3_wantingToFall 17 = .ok (.ifCond .ne 15, 3) := by decide +kernel
theorem dX3_wantingToFall_20 : decode cX3_wantingToFall 20 = .ok (.iload_n 2, 1) := by decide +kernel
theorem dX3_wantingToFall_21 : decode cX3_wantingToFall 21 = .ok (.aload_n 0, 1) := by decide +kernel
theorem dX3_wantingToFall_22 : decode cX3_wantingToFall 22 = .ok (.getfield 9, 3) := by decide +kernel
theorem dX3_wantingToFall_25 : decode cX3_wantingToFall 25 = .ok (.iconst 3, 1) := by decide +kernel
theorem dX3_wantingToFall_26 : decode cX3_wantingToFall 26 = .ok (.iaload, 1) := by decide +kernel
theorem dX3_wantingToFall_27 : decode cX3_wantingToFall 27 = .ok (.if_icmp .le 5, 3) := by decide +kernel
theorem dX3_wantingToFall_30 : decode cX3_wantingToFall 30 = .ok (.iconst 1, 1) := by decide +kernel
theorem dX3_wantingToFall_31 : decode cX3_wantingToFall 31 = .ok (.ireturn, 1) := by decide +kernel
theorem dX3_wantingToFall_32 : decode cX3_wantingToFall 32 = .ok (.iload 4, 2) := by decide +kernel
theorem dX3_wantingToFall_34 : decode cX3_wantingToFall 34 = .ok (.iload_n 2, 1) := by decide +kernel
theorem dX3_wantingToFall_35 : decode cX3_wantingToFall 35 = .ok (.invokestatic 32, 3) := by decide +kernel
theorem dX3_wantingToFall_38 : decode cX3_wantingToFall 38 = .ok (.ireturn, 1) := by decide +kernel
set_option maxRecDepth 20000 in
theorem ggX4_init_X3_init : GoodIn wsX4_init wsX3_init := goodIn_r _ [16, 17, 2, 3, 10, 18, 19, 24, 25] (by decide +kernel) (by decide +kernel)
set_option maxRecDepth 20000 in
theorem gX4_init_X3_init_n11 : GoodIn wsX4_init (wsX3_init) := ggX4_init_X3_init
set_option maxRecDepth 20000 in
theorem ggX4_init_X2_init : GoodIn wsX4_init wsX2_init := goodIn_r _ [21, 22, 2, 3, 10, 23, 32] (by decide +kernel) (by decide +kernel)
set_option maxRecDepth 20000 in
theorem gX4_init_X2_init_n31 : GoodIn wsX4_init (wsX2_init) := ggX4_init_X2_init
theorem dX4_init_0 : decode cX4_init 0 = .ok (.aload_n 0, 1) := by decide +kernel
theorem dX4_init_1 : decode cX4_init 1 = .ok (.invokespecial 3, 3) := by decide +kernel
theorem dX4_init_4 : decode cX4_init 4 = .ok (.aload_n 0, 1) := by decide +kernel
theorem dX4_init_5 : decode cX4_init 5 = .ok (.new 9, 3) := by decide +kernel
theorem dX4_init_8 : decode cX4_init 8 = .ok (.dup, 1) := by decide +kernel
theorem dX4_init_9 : decode cX4_init 9 = .ok (.invokespecial 11, 3) := by decide +kernel
theorem dX4_init_12 : decode cX4_init 12 = .ok (.putfield 12, 3) := by decide +kernel
theorem dX4_init_15 : decode cX4_init 15 = .ok (.aload_n 0, 1) := by decide +kernel
theorem dX4_init_16 : decode cX4_init 16 = .ok (.iconst 3, 1) := by decide +kernel
theorem dX4_init_17 : decode cX4_init 17 = .ok (.anewarray 18, 3) := by decide +kernel
theorem dX4_init_20 : decode cX4_init 20 = .ok (.putfield 20, 3) := by decide +kernel
theorem dX4_init_23 : decode cX4_init 23 = .ok (.aload_n 0, 1) := by decide +kernel
theorem dX4_init_24 : decode cX4_init 24 = .ok (.iconst 4, 1) := by decide +kernel
theorem dX4_init_25 : decode cX4_init 25 = .ok (.newarray .int, 2) := by decide +kernel
theorem dX4_init_27 : decode cX4_init 27 = .ok (.putfield 24, 3) := by decide +kernel
theorem dX4_init_30 : decode cX4_init 30 = .ok (.aload_n 0, 1) := by decide +kernel
theorem dX4_init_31 : decode cX4_init 31 = .ok (.iconst 4, 1) := by decide +kernel
theorem dX4_init_32 : decode cX4_init 32 = .ok (.newarray .int, 2) := by decide +kernel
theorem dX4_init_34 : decode cX4_init 34 = .ok (.putfield 28, 3) := by decide +kernel
theorem dX4_init_37 : decode cX4_init 37 = .ok (.iconst 0, 1) := by decide +kernel
theorem dX4_init_38 : decode cX4_init 38 = .ok (.istore_n 1, 1) := by decide +kernel
theorem dX4_init_39 : decode cX4_init 39 = .ok (.iload_n 1, 1) := by decide +kernel
theorem dX4_init_40 : decode cX4_init 40 = .ok (.iconst 3, 1) := by decide +kernel
theorem dX4_init_41 : decode cX4_init 41 = .ok (.if_icmp .ge 22, 3) := by decide +kernel
theorem dX4_init_44 : decode cX4_init 44 = .ok (.aload_n 0, 1) := by decide +kernel
theorem dX4_init_45 : decode cX4_init 45 = .ok (.getfield 20, 3) := by decide +kernel
theorem dX4_init_48 : decode cX4_init 48 = .ok (.iload_n 1, 1) := by decide +kernel
theorem dX4_init_49 : decode cX4_init 49 = .ok (.new 18, 3) := by decide +kernel
theorem dX4_init_52 : decode cX4_init 52 = .ok (.dup, 1) := by decide +kernel
theorem dX4_init_53 : decode cX4_init 53 = .ok (.invokespecial 31, 3) := by decide +kernel
theorem dX4_init_56 : decode cX4_init 56 = .ok (.aastore, 1) := by decide +kernel
theorem dX4_init_57 : decode cX4_init 57 = .ok (.iinc 1 1, 3) := by decide +kernel
theorem dX4_init_60 : decode cX4_init 60 = .ok (.goto (-21), 3) := by decide +kernel
theorem dX4_init_63 : decode cX4_init 63 = .ok (.return_, 1) := by decide +kernel
set_option maxRecDepth 20000 in
theorem ggX4_copyFrom_X3_copyFrom : GoodIn wsX4_copyFrom wsX3_copyFrom := goodIn_r _ [15, 16, 17, 5, 6, 7, 18, 32, 33] (by decide +kernel) (by decide +kernel)
set_option maxRecDepth 20000 in
theorem gX4_copyFrom_X3_copyFrom : GoodIn wsX4_copyFrom (wsV RX4 32 RX3 yX3_copyFrom wsX3_copyFrom) := goodIn_app (goodIn_of _ (by decide +kernel)) ggX4_copyFrom_X3_copyFrom
set_option maxRecDepth 20000 in
theorem ggX4_copyFrom_X2_copyFrom : GoodIn wsX4_copyFrom wsX2_copyFrom := goodIn_r _ [23, 24, 25, 5, 6, 7, 34] (by decide +kernel) (by decide +kernel)
set_option maxRecDepth 20000 in
theorem gX4_copyFrom_X2_copyFrom : GoodIn wsX4_copyFrom (wsV RX4 36 RX2 yX2_copyFrom wsX2_copyFrom) := goodIn_app (goodIn_of _ (by decide +kernel)) ggX4_copyFrom_X2_copyFrom
theorem dX4_copyFrom_0 : decode cX4_copyFrom 0 = .ok (.aload_n 0, 1) := by decide +kernel
theorem dX4_copyFrom_1 : decode cX4_copyFrom 1 = .ok (.getfield 12, 3) := by decide +kernel
theorem dX4_copyFrom_4 : decode cX4_copyFrom 4 = .ok (.aload_n 1, 1) := by decide +kernel
theorem dX4_copyFrom_5 : decode cX4_copyFrom 5 = .ok (.getfield 12, 3) := by decide +kernel
theorem dX4_copyFrom_8 : decode cX4_copyFrom 8 = .ok (.invokevirtual 32, 3) := by decide +kernel
theorem dX4_copyFrom_11 : decode cX4_copyFrom 11 = .ok (.iconst 0, 1) := by decide +kernel
theorem dX4_copyFrom_12 : decode cX4_copyFrom 12 = .ok (.istore_n 2, 1) := by decide +kernel
theorem dX4_copyFrom_13 : decode cX4_copyFrom 13 = .ok (.iload_n 2, 1) := by decide +kernel
theorem dX4_copyFrom_14 : decode cX4_copyFrom 14 = .ok (.iconst 3, 1) := by decide +kernel
theorem dX4_copyFrom_15 : decode cX4_copyFrom 15 = .ok (.if_icmp .ge 24, 3) := by decide +kernel
theorem dX4_copyFrom_18 : decode cX4_copyFrom 18 = .ok (.aload_n 0, 1) := by decide +kernel
theorem dX4_copyFrom_19 : decode cX4_copyFrom 19 = .ok (.getfield 20, 3) := by decide +kernel
theorem dX4_copyFrom_22 : decode cX4_copyFrom 22 = .ok (.iload_n 2, 1) := by decide +kernel
theorem dX4_copyFrom_23 : decode cX4_copyFrom 23 = .ok (.aaload, 1) := by decide +kernel
theorem dX4_copyFrom_24 : decode cX4_copyFrom 24 = .ok (.aload_n 1, 1) := by decide +kernel
theorem dX4_copyFrom_25 : decode cX4_copyFrom 25 = .ok (.getfield 20, 3) := by decide +kernel
theorem dX4_copyFrom_28 : decode cX4_copyFrom 28 = .ok (.iload_n 2, 1) := by decide +kernel
theorem dX4_copyFrom_29 : decode cX4_copyFrom 29 = .ok (.aaload, 1) := by decide +kernel
theorem dX4_copyFrom_30 : decode cX4_copyFrom 30 = .ok (.invokevirtual 36, 3) := by decide +kernel
theorem dX4_copyFrom_33 : decode cX4_copyFrom 33 = .ok (.iinc 2 1, 3) := by decide +kernel
theorem dX4_copyFrom_36 : decode cX4_copyFrom 36 = .ok (.goto (-23), 3) := by decide +kernel
theorem dX4_copyFrom_39 : decode cX4_copyFrom 39 = .ok (.aload_n 1, 1) := by decide +kernel
theorem dX4_copyFrom_40 : decode cX4_copyFrom 40 = .ok (.getfield 24, 3) := by decide +kernel
theorem dX4_copyFrom_43 : decode cX4_copyFrom 43 = .ok (.iconst 0, 1) := by decide +kernel
theorem dX4_copyFrom_44 : decode cX4_copyFrom 44 = .ok (.aload_n 0, 1) := by decide +kernel
theorem dX4_copyFrom_45 : decode cX4_copyFrom 45 = .ok (.getfield 24, 3) := by decide +kernel
theorem dX4_copyFrom_48 : decode cX4_copyFrom 48 = .ok (.iconst 0, 1) := by decide +kernel
theorem dX4_copyFrom_49 : decode cX4_copyFrom 49 = .ok (.iconst 4, 1) := by decide +kernel
theorem dX4_copyFrom_50 : decode cX4_copyFrom 50 = .ok (.invokestatic 39, 3) := by decide +kernel
theorem dX4_copyFrom_53 : decode cX4_copyFrom 53 = .ok (.aload_n 1, 1) := by decide +kernel
theorem dX4_copyFrom_54 : decode cX4_copyFrom 54 = .ok (.getfield 28, 3) := by decide +kernel
theorem dX4_copyFrom_57 : decode cX4_copyFrom 57 = .ok (.iconst 0, 1) := by decide +kernel
theorem dX4_copyFrom_58 : decode cX4_copyFrom 58 = .ok (.aload_n 0, 1) := by decide +kernel
theorem dX4_copyFrom_59 : decode cX4_copyFrom 59 = .ok (.getfield 28, 3) := by decide +kernel
theorem dX4_copyFrom_62 : decode cX4_copyFrom 62 = .ok (.iconst 0, 1) := by decide +kernel
theorem dX4_copyFrom_63 : decode cX4_copyFrom 63 = .ok (.iconst 4, 1) := by decide +kernel
theorem dX4_copyFrom_64 : decode cX4_copyFrom 64 = .ok (.invokestatic 39, 3) := by decide +kernel
theorem dX4_copyFrom_67 : decode cX4_copyFrom 67 = .ok (.aload_n 0, 1) := by decide +kernel
theorem dX4_copyFrom_68 : decode cX4_copyFrom 68 = .ok (.aload_n 1, 1) := by decide +kernel
theorem dX4_copyFrom_69 : decode cX4_copyFrom 69 = .ok (.getfield 45, 3) := by decide +kernel
theorem dX4_copyFrom_72 : decode cX4_copyFrom 72 = .ok (.putfield 45, 3) := by decide +kernel
theorem dX4_copyFrom_75 : decode cX4_copyFrom 75 = .ok (.aload_n 0, 1) := by decide +kernel
theorem dX4_copyFrom_76 : decode cX4_copyFrom 76 = .ok (.aload_n 1, 1) := by decide +kernel
theorem dX4_copyFrom_77 : decode cX4_copyFrom 77 = .ok (.getfield 49, 3) := by decide +kernel
theorem dX4_copyFrom_80 : decode cX4_copyFrom 80 = .ok (.putfield 49, 3) := by decide +kernel
theorem dX4_copyFrom_83 : decode cX4_copyFrom 83 = .ok (.return_, 1) := by decide +kernel
set_option maxRecDepth 20000 in
theorem ggX4_all_X2_all : GoodIn wsX4_all wsX2_all := goodIn_r _ [6, 7, 8, 9, 5, 10, 11, 12, 13, 14, 15, 16, 17, 18, 19, 26] (by decide +kernel) (by decide +kernel)
set_option maxRecDepth 20000 in
theorem gX4_all_X2_all : GoodIn wsX4_all (wsV RX4 52 RX2 yX2_all wsX2_all) := goodIn_app (goodIn_of _ (by decide +kernel)) ggX4_all_X2_all
theorem dX4_all_0 : decode cX4_all 0 = .ok (.iconst 0, 1) := by decide +kernel
theorem dX4_all_1 : decode cX4_all 1 = .ok (.istore_n 1, 1) := by decide +kernel
theorem dX4_all_2 : decode cX4_all 2 = .ok (.iconst 0, 1) := by decide +kernel
theorem dX4_all_3 : decode cX4_all 3 = .ok (.istore_n 2, 1) := by decide +kernel
theorem dX4_all_4 : decode cX4_all 4 = .ok (.iload_n 2, 1) := by decide +kernel
theorem dX4_all_5 : decode cX4_all 5 = .ok (.iconst 3, 1) := by decide +kernel
theorem dX4_all_6 : decode cX4_all 6 = .ok (.if_icmp .ge 21, 3) := by decide +kernel
theorem dX4_all_9 : decode cX4_all 9 = .ok (.iload_n 1, 1) := by decide +kernel
theorem dX4_all_10 : decode cX4_all 10 = .ok (.aload_n 0, 1) := by decide +kernel
theorem dX4_all_11 : decode cX4_all 11 = .ok (.getfield 20, 3) := by decide +kernel
theorem dX4_all_14 : decode cX4_all 14 = .ok (.iload_n 2, 1) := by decide +kernel
theorem dX4_all_15 : decode cX4_all 15 = .ok (.aaload, 1) := by decide +kernel
theorem dX4_all_16 : decode cX4_all 16 = .ok (.invokevirtual 52, 3) := by decide +kernel
theorem dX4_all_19 : decode cX4_all 19 = .ok (.iadd, 1) := by decide +kernel
theorem dX4_all_20 : decode cX4_all 20 = .ok (.istore_n 1, 1) := by decide +kernel
theorem dX4_all_21 : decode cX4_all 21 = .ok (.iinc 2 1, 3) := by decide +kernel
theorem dX4_all_24 : decode cX4_all 24 = .ok (.goto (-20), 3) := by decide +kernel
theorem dX4_all_27 : decode cX4_all 27 = .ok (.iload_n 1, 1) := by decide +kernel
theorem dX4_all_28 : decode cX4_all 28 = .ok (.ireturn, 1) := by decide +kernel
set_option maxRecDepth 20000 in
theorem ggX4_allOf_X2_allOf : GoodIn wsX4_allOf wsX2_allOf := goodIn_r _ [6, 7, 8, 9, 5, 10, 11, 18] (by decide +kernel) (by decide +kernel)
set_option maxRecDepth 20000 in
theorem gX4_allOf_X2_allOf : GoodIn wsX4_allOf (wsV RX4 56 RX2 yX2_allOf wsX2_allOf) := goodIn_app (goodIn_of _ (by decide +kernel)) ggX4_allOf_X2_allOf
theorem dX4_allOf_0 : decode cX4_allOf 0 = .ok (.iconst 0, 1) := by decide +kernel
theorem dX4_allOf_1 : decode cX4_allOf 1 = .ok (.istore_n 2, 1) := by decide +kernel
theorem dX4_allOf_2 : decode cX4_allOf 2 = .ok (.iconst 0, 1) := by decide +kernel
theorem dX4_allOf_3 : decode cX4_allOf 3 = .ok (.istore_n 3, 1) := by decide +kernel
theorem dX4_allOf_4 : decode cX4_allOf 4 = .ok (.iload_n 3, 1) := by decide +kernel
theorem dX4_allOf_5 : decode cX4_allOf 5 = .ok (.iconst 3, 1) := by decide +kernel
theorem dX4_allOf_6 : decode cX4_allOf 6 = .ok (.if_icmp .ge 22, 3) := by decide +kernel
theorem dX4_allOf_9 : decode cX4_allOf 9 = .ok (.iload_n 2, 1) := by decide +kernel
theorem dX4_allOf_10 : decode cX4_allOf 10 = .ok (.aload_n 0, 1) := by decide +kernel
theorem dX4_allOf_11 : decode cX4_allOf 11 = .ok (.getfield 20, 3) := by decide +kernel
theorem dX4_allOf_14 : decode cX4_allOf 14 = .ok (.iload_n 3, 1) := by decide +kernel
theorem dX4_allOf_15 : decode cX4_allOf 15 = .ok (.aaload, 1) := by decide +kernel
theorem dX4_allOf_16 : decode cX4_allOf 16 = .ok (.iload_n 1, 1) := by decide +kernel
theorem dX4_allOf_17 : decode cX4_allOf 17 = .ok (.invokevirtual 56, 3) := by decide +kernel
theorem dX4_allOf_20 : decode cX4_allOf 20 = .ok (.iadd, 1) := by decide +kernel
theorem dX4_allOf_21 : decode cX4_allOf 21 = .ok (.istore_n 2, 1) := by decide +kernel
theorem dX4_allOf_22 : decode cX4_allOf 22 = .ok (.iinc 3 1, 3) := by decide +kernel
theorem dX4_allOf_25 : decode cX4_allOf 25 = .ok (.goto (-21), 3) := by decide +kernel
theorem dX4_allOf_28 : decode cX4_allOf 28 = .ok (.iload_n 2, 1) := by decide +kernel
theorem dX4_allOf_29 : decode cX4_allOf 29 = .ok (.ireturn, 1) := by decide +kernel
set_option maxRecDepth 20000 in
theorem ggX4_packedSlices_X2_packedSlices : GoodIn wsX4_packedSlices wsX2_packedSlices := goodIn_r _ [7, 8, 9, 10, 6, 11, 12, 13, 14, 15, 16, 17, 18, 19, 20, 21, 22, 29, 30, 31] (by decide +kernel) (by decide +kernel)
set_option maxRecDepth 20000 in
theorem gX4_packedSlices_X2_packedSlices : GoodIn wsX4_packedSlices (wsV RX4 60 RX2 yX2_packedSlices wsX2_packedSlices) := goodIn_app (goodIn_of _ (by decide +kernel)) ggX4_packedSlices_X2_packedSlices
theorem dX4_packedSlices_0 : decode cX4_packedSlices 0 = .ok (.iconst 0, 1) := by decide +kernel
theorem dX4_packedSlices_1 : decode cX4_packedSlices 1 = .ok (.istore_n 1, 1) := by decide +kernel
theorem dX4_packedSlices_2 : decode cX4_packedSlices 2 = .ok (.iconst 0, 1) := by decide +kernel
theorem dX4_packedSlices_3 : decode cX4_packedSlices 3 = .ok (.istore_n 2, 1) := by decide +kernel
theorem dX4_packedSlices_4 : decode cX4_packedSlices 4 = .ok (.iload_n 2, 1) := by decide +kernel
theorem dX4_packedSlices_5 : decode cX4_packedSlices 5 = .ok (.iconst 3, 1) := by decide +kernel
theorem dX4_packedSlices_6 : decode cX4_packedSlices 6 = .ok (.if_icmp .ge 25, 3) := by decide +kernel
theorem dX4_packedSlices_9 : decode cX4_packedSlices 9 = .ok (.iload_n 1, 1) := by decide +kernel
theorem dX4_packedSlices_10 : decode cX4_packedSlices 10 = .ok (.aload_n 0, 1) := by decide +kernel
theorem dX4_packedSlices_11 : decode cX4_packedSlices 11 = .ok (.getfield 20, 3) := by decide +kernel
theorem dX4_packedSlices_14 : decode cX4_packedSlices 14 = .ok (.iload_n 2, 1) := by decide +kernel
theorem dX4_packedSlices_15 : decode cX4_packedSlices 15 = .ok (.aaload, 1) := by decide +kernel
theorem dX4_packedSlices_16 : decode cX4_packedSlices 16 = .ok (.aload_n 0, 1) := by decide +kernel
theorem dX4_packedSlices_17 : decode cX4_packedSlices 17 = .ok (.getfield 12, 3) := by decide +kernel
theorem dX4_packedSlices_20 : decode cX4_packedSlices 20 = .ok (.invokevirtual 60, 3) := by decide +kernel
theorem dX4_packedSlices_23 : decode cX4_packedSlices 23 = .ok (.iadd, 1) := by decide +kernel
theorem dX4_packedSlices_24 : decode cX4_packedSlices 24 = .ok (.istore_n 1, 1) := by decide +kernel
theorem dX4_packedSlices_25 : decode cX4_packedSlices 25 = .ok (.iinc 2 1, 3) := by decide +kernel
theorem dX4_packedSlices_28 : decode cX4_packedSlices 28 = .ok (.goto (-24), 3) := by decide +kernel
theorem dX4_packedSlices_31 : decode cX4_packedSlices 31 = .ok (.iload_n 1, 1) := by decide +kernel
theorem dX4_packedSlices_32 : decode cX4_packedSlices 32 = .ok (.ireturn, 1) := by decide +kernel
set_option maxRecDepth 20000 in
theorem ggX4_clearSlices_X2_clearSlices : GoodIn wsX4_clearSlices wsX2_clearSlices := goodIn_r _ [7, 8, 9, 10, 6, 11, 12, 13, 14, 15, 16, 17, 18, 19, 20, 21, 22, 29, 30, 31] (by decide +kernel) (by decide +kernel)
set_option maxRecDepth 20000 in
theorem gX4_clearSlices_X2_clearSlices : GoodIn wsX4_clearSlices (wsV RX4 64 RX2 yX2_clearSlices wsX2_clearSlices) := goodIn_app (goodIn_of _ (by decide +kernel)) ggX4_clearSlices_X2_clearSlices
theorem dX4_clearSlices_0 : decode cX4_clearSlices 0 = .ok (.iconst 0, 1) := by decide +kernel
theorem dX4_clearSlices_1 : decode cX4_clearSlices 1 = .ok (.istore_n 1, 1) := by decide +kernel
theorem dX4_clearSlices_2 : decode cX4_clearSlices 2 = .ok (.iconst 0, 1) := by decide +kernel
theorem dX4_clearSlices_3 : decode cX4_clearSlices 3 = .ok (.istore_n 2, 1) := by decide +kernel
theorem dX4_clearSlices_4 : decode cX4_clearSlices 4 = .ok (.iload_n 2, 1) := by decide +kernel
theorem dX4_clearSlices_5 : decode cX4_clearSlices 5 = .ok (.iconst 3, 1) := by decide +kernel
theorem dX4_clearSlices_6 : decode cX4_clearSlices 6 = .ok (.if_icmp .ge 25, 3) := by decide +kernel
theorem dX4_clearSlices_9 : decode cX4_clearSlices 9 = .ok (.iload_n 1, 1) := by decide +kernel
theorem dX4_clearSlices_10 : decode cX4_clearSlices 10 = .ok (.aload_n 0, 1) := by decide +kernel
theorem dX4_clearSlices_11 : decode cX4_clearSlices 11 = .ok (.getfield 20, 3) := by decide +kernel
theorem dX4_clearSlices_14 : decode cX4_clearSlices 14 = .ok (.iload_n 2, 1) := by decide +kernel
theorem dX4_clearSlices_15 : decode cX4_clearSlices 15 = .ok (.aaload, 1) := by decide +kernel
theorem dX4_clearSlices_16 : decode cX4_clearSlices 16 = .ok (.aload_n 0, 1) := by decide +kernel
theorem dX4_clearSlices_17 : decode cX4_clearSlices 17 = .ok (.getfield 12, 3) := by decide +kernel
theorem dX4_clearSlices_20 : decode cX4_clearSlices 20 = .ok (.invokevirtual 64, 3) := by decide +kernel
theorem dX4_clearSlices_23 : decode cX4_clearSlices 23 = .ok (.iadd, 1) := by decide +kernel
theorem dX4_clearSlices_24 : decode cX4_clearSlices 24 = .ok (.istore_n 1, 1) := by decide +kernel
theorem dX4_clearSlices_25 : decode cX4_clearSlices 25 = .ok (.iinc 2 1, 3) := by decide +kernel
theorem dX4_clearSlices_28 : decode cX4_clearSlices 28 = .ok (.goto (-24), 3) := by decide +kernel
theorem dX4_clearSlices_31 : decode cX4_clearSlices 31 = .ok (.iload_n 1, 1) := by decide +kernel
theorem dX4_clearSlices_32 : decode cX4_clearSlices 32 = .ok (.ireturn, 1) := by decide +kernel
set_option maxRecDepth 20000 in
theorem ggX5_init_X4_init : GoodIn wsX5_init wsX4_init := goodIn_r _ [22, 23, 2, 3, 24, 25, 26, 27, 28, 29, 30, 31, 32, 17, 18, 33, 34, 35, 36, 37, 38, 39, 40, 41, 70, 71, 54, 55, 56, 57, 58, 59, 69] (by decide +kernel) (by decide +kernel)
set_option maxRecDepth 20000 in
theorem gX5_init_X4_init : GoodIn wsX5_init (wsX4_init) := ggX5_init_X4_init
set_option maxRecDepth 20000 in
theorem ggX5_init_X1_init : GoodIn wsX5_init wsX1_init := goodIn_r _ [44, 45, 2, 3, 46, 47, 5, 6, 48, 21, 22, 23, 24, 25, 26, 27, 28, 29, 30, 31, 32, 17, 18, 33, 34, 35, 36, 37, 38, 39, 40, 41, 64, 65, 66, 54, 55, 56, 57, 58, 59, 70, 71, 69] (by decide +kernel) (by decide +kernel)
set_option maxRecDepth 20000 in
theorem gX5_init_X1_init : GoodIn wsX5_init (wsX1_init) := ggX5_init_X1_init
set_option maxRecDepth 20000 in
theorem ggX5_init_X0_init : GoodIn wsX5_init wsX0_init := goodIn_r _ [50, 51, 2, 3, 52, 53, 67, 68] (by decide +kernel) (by decide +kernel)
set_option maxRecDepth 20000 in
theorem gX5_init_X0_init_n25 : GoodIn wsX5_init (wsX0_init) := ggX5_init_X0_init
set_option maxRecDepth 20000 in
theorem ggX5_init_X2_init : GoodIn wsX5_init wsX2_init := goodIn_r _ [39, 40, 2, 3, 30, 41, 69] (by decide +kernel) (by decide +kernel)
set_option maxRecDepth 20000 in
theorem gX5_init_X2_init_n32 : GoodIn wsX5_init (wsX2_init) := ggX5_init_X2_init
theorem dX5_init_0 : decode cX5_init 0 = .ok (.aload_n 0, 1) := by decide +kernel
theorem dX5_init_1 : decode cX5_init 1 = .ok (.invokespecial 3, 3) := by decide +kernel
theorem dX5_init_4 : decode cX5_init 4 = .ok (.aload_n 0, 1) := by decide +kernel
theorem dX5_init_5 : decode cX5_init 5 = .ok (.new 9, 3) := by decide +kernel
theorem dX5_init_8 : decode cX5_init 8 = .ok (.dup, 1) := by decide +kernel
theorem dX5_init_9 : decode cX5_init 9 = .ok (.invokespecial 11, 3) := by decide +kernel
theorem dX5_init_12 : decode cX5_init 12 = .ok (.putfield 12, 3) := by decide +kernel
theorem dX5_init_15 : decode cX5_init 15 = .ok (.aload_n 0, 1) := by decide +kernel
theorem dX5_init_16 : decode cX5_init 16 = .ok (.new 16, 3) := by decide +kernel
theorem dX5_init_19 : decode cX5_init 19 = .ok (.dup, 1) := by decide +kernel
theorem dX5_init_20 : decode cX5_init 20 = .ok (.invokespecial 18, 3) := by decide +kernel
theorem dX5_init_23 : decode cX5_init 23 = .ok (.putfield 19, 3) := by decide +kernel
theorem dX5_init_26 : decode cX5_init 26 = .ok (.aload_n 0, 1) := by decide +kernel
theorem dX5_init_27 : decode cX5_init 27 = .ok (.new 23, 3) := by decide +kernel
theorem dX5_init_30 : decode cX5_init 30 = .ok (.dup, 1) := by decide +kernel
theorem dX5_init_31 : decode cX5_init 31 = .ok (.invokespecial 25, 3) := by decide +kernel
theorem dX5_init_34 : decode cX5_init 34 = .ok (.putfield 26, 3) := by decide +kernel
theorem dX5_init_37 : decode cX5_init 37 = .ok (.aload_n 0, 1) := by decide +kernel
theorem dX5_init_38 : decode cX5_init 38 = .ok (.new 30, 3) := by decide +kernel
theorem dX5_init_41 : decode cX5_init 41 = .ok (.dup, 1) := by decide +kernel
theorem dX5_init_42 : decode cX5_init 42 = .ok (.invokespecial 32, 3) := by decide +kernel
theorem dX5_init_45 : decode cX5_init 45 = .ok (.putfield 33, 3) := by decide +kernel
theorem dX5_init_48 : decode cX5_init 48 = .ok (.return_, 1) := by decide +kernel
set_option maxRecDepth 20000 in
theorem ggX5_set_X5_needIndex : GoodIn wsX5_set wsX5_needIndex := goodIn_ca (goodIn_r _ [10, 11, 12] (by decide +kernel) (by decide +kernel)) (goodIn_sub (fun _ h => List.mem_cons_of_mem _ (List.mem_append_left _ (List.mem_append_right _ h))) (by decide +kernel))
set_option maxRecDepth 20000 in
theorem gX5_set_X5_needIndex : GoodIn wsX5_set (va_wsS RX5 37 yX5_needIndex wsX5_needIndex) := goodIn_app (goodIn_of _ (by decide +kernel)) ggX5_set_X5_needIndex
set_option maxRecDepth 20000 in
theorem ggX5_set_X5_needRange : GoodIn wsX5_set wsX5_needRange := goodIn_ca (goodIn_r _ [15, 16, 17] (by decide +kernel) (by decide +kernel)) (goodIn_sub (fun _ h => List.mem_cons_of_mem _ (List.mem_append_right _ h)) (by decide +kernel))
set_option maxRecDepth 20000 in
theorem gX5_set_X5_needRange : GoodIn wsX5_set (va_wsS RX5 50 yX5_needRange wsX5_needRange) := goodIn_app (goodIn_of _ (by decide +kernel)) ggX5_set_X5_needRange
set_option maxRecDepth 20000 in
theorem ggX5_set_X1_keep : GoodIn wsX5_set wsX1_keep := goodIn_r _ [22, 23, 24, 25, 26, 27, 28, 29, 30, 31, 32, 33, 34, 35, 36, 37, 38, 39, 40, 41, 42, 43, 44, 45, 46, 47, 48, 49, 50, 51, 52, 53, 54, 55, 68, 69, 70, 60, 61, 62, 63, 64, 65, 66, 67, 71] (by decide +kernel) (by decide +kernel)
set_option maxRecDepth 20000 in
theorem gX5_set_X1_keep : GoodIn wsX5_set (wsV RX5 54 RX1 yX1_keep wsX1_keep) := goodIn_app (goodIn_of _ (by decide +kernel)) ggX5_set_X1_keep
theorem dX5_set_0 : decode cX5_set 0 = .ok (.iload_n 1, 1) := by decide +kernel
theorem dX5_set_1 : decode cX5_set 1 = .ok (.iconst 4, 1) := by decide +kernel
theorem dX5_set_2 : decode cX5_set 2 = .ok (.invokestatic 37, 3) := by decide +kernel
theorem dX5_set_5 : decode cX5_set 5 = .ok (.iload_n 2, 1) := by decide +kernel
theorem dX5_set_6 : decode cX5_set 6 = .ok (.getstatic 41, 3) := by decide +kernel
theorem dX5_set_9 : decode cX5_set 9 = .ok (.iload_n 1, 1) := by decide +kernel
theorem dX5_set_10 : decode cX5_set 10 = .ok (.iaload, 1) := by decide +kernel
theorem dX5_set_11 : decode cX5_set 11 = .ok (.getstatic 47, 3) := by decide +kernel
theorem dX5_set_14 : decode cX5_set 14 = .ok (.iload_n 1, 1) := by decide +kernel
theorem dX5_set_15 : decode cX5_set 15 = .ok (.iaload, 1) := by decide +kernel
theorem dX5_set_16 : decode cX5_set 16 = .ok (.invokestatic 50, 3) := by decide +kernel
theorem dX5_set_19 : decode cX5_set 19 = .ok (.aload_n 0, 1) := by decide +kernel
theorem dX5_set_20 : decode cX5_set 20 = .ok (.getfield 19, 3) := by decide +kernel
theorem dX5_set_23 : decode cX5_set 23 = .ok (.aload_n 0, 1) := by decide +kernel
theorem dX5_set_24 : decode cX5_set 24 = .ok (.getfield 12, 3) := by decide +kernel
theorem dX5_set_27 : decode cX5_set 27 = .ok (.invokevirtual 54, 3) := by decide +kernel
theorem dX5_set_30 : decode cX5_set 30 = .ok (.aload_n 0, 1) := by decide +kernel
theorem dX5_set_31 : decode cX5_set 31 = .ok (.getfield 12, 3) := by decide +kernel
theorem dX5_set_34 : decode cX5_set 34 = .ok (.getfield 58, 3) := by decide +kernel
theorem dX5_set_37 : decode cX5_set 37 = .ok (.getfield 62, 3) := by decide +kernel
theorem dX5_set_40 : decode cX5_set 40 = .ok (.iload_n 1, 1) := by decide +kernel
theorem dX5_set_41 : decode cX5_set 41 = .ok (.iaload, 1) := by decide +kernel
theorem dX5_set_42 : decode cX5_set 42 = .ok (.istore_n 3, 1) := by decide +kernel
theorem dX5_set_43 : decode cX5_set 43 = .ok (.aload_n 0, 1) := by decide +kernel
theorem dX5_set_44 : decode cX5_set 44 = .ok (.getfield 12, 3) := by decide +kernel
theorem dX5_set_47 : decode cX5_set 47 = .ok (.getfield 58, 3) := by decide +kernel
theorem dX5_set_50 : decode cX5_set 50 = .ok (.getfield 62, 3) := by decide +kernel
theorem dX5_set_53 : decode cX5_set 53 = .ok (.iload_n 1, 1) := by decide +kernel
theorem dX5_set_54 : decode cX5_set 54 = .ok (.iload_n 2, 1) := by decide +kernel
theorem dX5_set_55 : decode cX5_set 55 = .ok (.iastore, 1) := by decide +kernel
theorem dX5_set_56 : decode cX5_set 56 = .ok (.iload_n 3, 1) := by decide +kernel
theorem dX5_set_57 : decode cX5_set 57 = .ok (.ireturn, 1) := by decide +kernel
set_option maxRecDepth 20000 in
theorem ggX5_setSpeed_X5_needIndex : GoodIn wsX5_setSpeed wsX5_needIndex := goodIn_ca (goodIn_r _ [8, 9, 10] (by decide +kernel) (by decide +kernel)) (goodIn_sub (fun _ h => List.mem_cons_of_mem _ (List.mem_append_left _ (List.mem_append_right _ h))) (by decide +kernel))
set_option maxRecDepth 20000 in
theorem gX5_setSpeed_X5_needIndex : GoodIn wsX5_setSpeed (va_wsS RX5 37 yX5_needIndex wsX5_needIndex) := goodIn_app (goodIn_of _ (by decide +kernel)) ggX5_setSpeed_X5_needIndex
set_option maxRecDepth 20000 in
theorem ggX5_setSpeed_X5_needRange : GoodIn wsX5_setSpeed wsX5_needRange := goodIn_ca (goodIn_r _ [13, 14, 15] (by decide +kernel) (by decide +kernel)) (goodIn_sub (fun _ h => List.mem_cons_of_mem _ (List.mem_append_right _ h)) (by decide +kernel))
set_option maxRecDepth 20000 in
theorem gX5_setSpeed_X5_needRange : GoodIn wsX5_setSpeed (va_wsS RX5 50 yX5_needRange wsX5_needRange) := goodIn_app (goodIn_of _ (by decide +kernel)) ggX5_setSpeed_X5_needRange
set_option maxRecDepth 20000 in
theorem ggX5_setSpeed_X1_keep : GoodIn wsX5_setSpeed wsX1_keep := goodIn_r _ [20, 21, 22, 23, 24, 25, 26, 27, 28, 29, 30, 31, 32, 33, 34, 35, 36, 37, 38, 39, 40, 41, 42, 43, 44, 45, 46, 47, 48, 49, 50, 51, 52, 53, 66, 67, 68, 58, 59, 60, 61, 62, 63, 64, 65, 69] (by decide +kernel) (by decide +kernel)
set_option maxRecDepth 20000 in
theorem gX5_setSpeed_X1_keep : GoodIn wsX5_setSpeed (wsV RX5 54 RX1 yX1_keep wsX1_keep) := goodIn_app (goodIn_of _ (by decide +kernel)) ggX5_setSpeed_X1_keep
theorem dX5_setSpeed_0 : decode cX5_setSpeed 0 = .ok (.iload_n 1, 1) := by decide +kernel
theorem dX5_setSpeed_1 : decode cX5_setSpeed 1 = .ok (.iconst 4, 1) := by decide +kernel
theorem dX5_setSpeed_2 : decode cX5_setSpeed 2 = .ok (.invokestatic 37, 3) := by decide +kernel
theorem dX5_setSpeed_5 : decode cX5_setSpeed 5 = .ok (.iload_n 2, 1) := by decide +kernel
theorem dX5_setSpeed_6 : decode cX5_setSpeed 6 = .ok (.iconst 1, 1) := by decide +kernel
theorem dX5_setSpeed_7 : decode cX5_setSpeed 7 = .ok (.bipush 100, 2) := by decide +kernel
theorem dX5_setSpeed_9 : decode cX5_setSpeed 9 = .ok (.invokestatic 50, 3) := by decide +kernel
theorem dX5_setSpeed_12 : decode cX5_setSpeed 12 = .ok (.aload_n 0, 1) := by decide +kernel
theorem dX5_setSpeed_13 : decode cX5_setSpeed 13 = .ok (.getfield 19, 3) := by decide +kernel
theorem dX5_setSpeed_16 : decode cX5_setSpeed 16 = .ok (.aload_n 0, 1) := by decide +kernel
theorem dX5_setSpeed_17 : decode cX5_setSpeed 17 = .ok (.getfield 12, 3) := by decide +kernel
theorem dX5_setSpeed_20 : decode cX5_setSpeed 20 = .ok (.invokevirtual 54, 3) := by decide +kernel
theorem dX5_setSpeed_23 : decode cX5_setSpeed 23 = .ok (.aload_n 0, 1) := by decide +kernel
theorem dX5_setSpeed_24 : decode cX5_setSpeed 24 = .ok (.getfield 12, 3) := by decide +kernel
theorem dX5_setSpeed_27 : decode cX5_setSpeed 27 = .ok (.getfield 58, 3) := by decide +kernel
theorem dX5_setSpeed_30 : decode cX5_setSpeed 30 = .ok (.getfield 65, 3) := by decide +kernel
theorem dX5_setSpeed_33 : decode cX5_setSpeed 33 = .ok (.iload_n 1, 1) := by decide +kernel
theorem dX5_setSpeed_34 : decode cX5_setSpeed 34 = .ok (.iaload, 1) := by decide +kernel
theorem dX5_setSpeed_35 : decode cX5_setSpeed 35 = .ok (.istore_n 3, 1) := by decide +kernel
theorem dX5_setSpeed_36 : decode cX5_setSpeed 36 = .ok (.aload_n 0, 1) := by decide +kernel
theorem dX5_setSpeed_37 : decode cX5_setSpeed 37 = .ok (.getfield 12, 3) := by decide +kernel
theorem dX5_setSpeed_40 : decode cX5_setSpeed 40 = .ok (.getfield 58, 3) := by decide +kernel
theorem dX5_setSpeed_43 : decode cX5_setSpeed 43 = .ok (.getfield 65, 3) := by decide +kernel
theorem dX5_setSpeed_46 : decode cX5_setSpeed 46 = .ok (.iload_n 1, 1) := by decide +kernel
theorem dX5_setSpeed_47 : decode cX5_setSpeed 47 = .ok (.iload_n 2, 1) := by decide +kernel
theorem dX5_setSpeed_48 : decode cX5_setSpeed 48 = .ok (.iastore, 1) := by decide +kernel
theorem dX5_setSpeed_49 : decode cX5_setSpeed 49 = .ok (.iload_n 3, 1) := by decide +kernel
theorem dX5_setSpeed_50 : decode cX5_setSpeed 50 = .ok (.ireturn, 1) := by decide +kernel
set_option maxRecDepth 20000 in
theorem ggX5_pour_X5_needSlice : GoodIn wsX5_pour wsX5_needSlice := goodIn_ca (goodIn_r _ [8, 9, 10, 7, 11, 12, 13] (by decide +kernel) (by decide +kernel)) (goodIn_sub (fun _ h => List.mem_cons_of_mem _ (List.mem_append_left _ (List.mem_append_left _ (List.mem_append_right _ h)))) (by decide +kernel))
set_option maxRecDepth 20000 in
theorem gX5_pour_X5_needSlice : GoodIn wsX5_pour (va_wsS RX5 68 yX5_needSlice wsX5_needSlice) := goodIn_app (goodIn_of _ (by decide +kernel)) ggX5_pour_X5_needSlice
set_option maxRecDepth 20000 in
theorem ggX5_pour_X5_needIndex : GoodIn wsX5_pour wsX5_needIndex := goodIn_ca (goodIn_r _ [11, 12, 13] (by decide +kernel) (by decide +kernel)) (goodIn_sub (fun _ h => List.mem_cons_of_mem _ (List.mem_append_left _ (List.mem_append_left _ (List.mem_append_right _ h)))) (by decide +kernel))
set_option maxRecDepth 20000 in
theorem gX5_pour_X5_needIndex : GoodIn wsX5_pour (va_wsS RX5 37 yX5_needIndex wsX5_needIndex) := goodIn_app (goodIn_of _ (by decide +kernel)) ggX5_pour_X5_needIndex
set_option maxRecDepth 20000 in
theorem ggX5_pour_X5_needRange : GoodIn wsX5_pour wsX5_needRange := goodIn_ca (goodIn_r _ [16, 17, 18] (by decide +kernel) (by decide +kernel)) (goodIn_sub (fun _ h => List.mem_cons_of_mem _ (List.mem_append_left _ (List.mem_append_right _ h))) (by decide +kernel))
set_option maxRecDepth 20000 in
theorem gX5_pour_X5_needRange : GoodIn wsX5_pour (va_wsS RX5 50 yX5_needRange wsX5_needRange) := goodIn_app (goodIn_of _ (by decide +kernel)) ggX5_pour_X5_needRange
set_option maxRecDepth 20000 in
theorem ggX5_pour_X5_needRoom : GoodIn wsX5_pour wsX5_needRoom := goodIn_ca (goodIn_r _ [21, 22, 23, 24, 25, 26, 27, 28, 29, 30, 31, 32, 33, 34, 35, 36, 37, 38, 39, 40, 41, 93] (by decide +kernel) (by decide +kernel)) (goodIn_sub (fun _ h => List.mem_cons_of_mem _ (List.mem_append_right _ h)) (by decide +kernel))
set_option maxRecDepth 20000 in
theorem gX5_pour_X5_needRoom : GoodIn wsX5_pour (va_wsS RX5 75 yX5_needRoom wsX5_needRoom) := goodIn_app (goodIn_of _ (by decide +kernel)) ggX5_pour_X5_needRoom
set_option maxRecDepth 20000 in
theorem ggX5_pour_X1_keep : GoodIn wsX5_pour wsX1_keep := goodIn_r _ [46, 47, 48, 49, 50, 51, 52, 53, 54, 55, 56, 57, 58, 59, 60, 61, 62, 63, 64, 65, 66, 67, 68, 69, 70, 71, 72, 73, 74, 75, 27, 76, 41, 77, 94, 95, 96, 87, 88, 89, 90, 91, 92, 97, 98, 93] (by decide +kernel) (by decide +kernel)
set_option maxRecDepth 20000 in
theorem gX5_pour_X1_keep : GoodIn wsX5_pour (wsV RX5 54 RX1 yX1_keep wsX1_keep) := goodIn_app (goodIn_of _ (by decide +kernel)) ggX5_pour_X1_keep
set_option maxRecDepth 20000 in
theorem ggX5_pour_X2_put : GoodIn wsX5_pour wsX2_put := goodIn_r _ [81, 41, 93] (by decide +kernel) (by decide +kernel)
set_option maxRecDepth 20000 in
theorem gX5_pour_X2_put : GoodIn wsX5_pour (wsV RX5 79 RX2 yX2_put wsX2_put) := goodIn_app (goodIn_of _ (by decide +kernel)) ggX5_pour_X2_put
set_option maxRecDepth 20000 in
theorem ggX5_pour_X2_allIn : GoodIn wsX5_pour wsX2_allIn := goodIn_r _ [36, 37, 38, 39, 27, 40, 41, 93] (by decide +kernel) (by decide +kernel)
set_option maxRecDepth 20000 in
theorem gX5_pour_X2_allIn : GoodIn wsX5_pour (wsV RX5 85 RX2 yX2_allIn wsX2_allIn) := goodIn_app (goodIn_of _ (by decide +kernel)) ggX5_pour_X2_allIn
theorem dX5_pour_0 : decode cX5_pour 0 = .ok (.iload_n 1, 1) := by decide +kernel
theorem dX5_pour_1 : decode cX5_pour 1 = .ok (.iload_n 2, 1) := by decide +kernel
theorem dX5_pour_2 : decode cX5_pour 2 = .ok (.invokestatic 68, 3) := by decide +kernel
theorem dX5_pour_5 : decode cX5_pour 5 = .ok (.iload_n 3, 1) := by decide +kernel
theorem dX5_pour_6 : decode cX5_pour 6 = .ok (.iconst 4, 1) := by decide +kernel
theorem dX5_pour_7 : decode cX5_pour 7 = .ok (.invokestatic 37, 3) := by decide +kernel
theorem dX5_pour_10 : decode cX5_pour 10 = .ok (.iload 4, 2) := by decide +kernel
theorem dX5_pour_12 : decode cX5_pour 12 = .ok (.iconst 1, 1) := by decide +kernel
theorem dX5_pour_13 : decode cX5_pour 13 = .ok (.sipush 999, 3) := by decide +kernel
theorem dX5_pour_16 : decode cX5_pour 16 = .ok (.invokestatic 50, 3) := by decide +kernel
theorem dX5_pour_19 : decode cX5_pour 19 = .ok (.aload_n 0, 1) := by decide +kernel
theorem dX5_pour_20 : decode cX5_pour 20 = .ok (.getfield 12, 3) := by decide +kernel
theorem dX5_pour_23 : decode cX5_pour 23 = .ok (.getfield 71, 3) := by decide +kernel
theorem dX5_pour_26 : decode cX5_pour 26 = .ok (.iload_n 1, 1) := by decide +kernel
theorem dX5_pour_27 : decode cX5_pour 27 = .ok (.aaload, 1) := by decide +kernel
theorem dX5_pour_28 : decode cX5_pour 28 = .ok (.astore 5, 2) := by decide +kernel
theorem dX5_pour_30 : decode cX5_pour 30 = .ok (.aload 5, 2) := by decide +kernel
theorem dX5_pour_32 : decode cX5_pour 32 = .ok (.iload 4, 2) := by decide +kernel
theorem dX5_pour_34 : decode cX5_pour 34 = .ok (.invokestatic 75, 3) := by decide +kernel
theorem dX5_pour_37 : decode cX5_pour 37 = .ok (.aload_n 0, 1) := by decide +kernel
theorem dX5_pour_38 : decode cX5_pour 38 = .ok (.getfield 19, 3) := by decide +kernel
theorem dX5_pour_41 : decode cX5_pour 41 = .ok (.aload_n 0, 1) := by decide +kernel
theorem dX5_pour_42 : decode cX5_pour 42 = .ok (.getfield 12, 3) := by decide +kernel
theorem dX5_pour_45 : decode cX5_pour 45 = .ok (.invokevirtual 54, 3) := by decide +kernel
theorem dX5_pour_48 : decode cX5_pour 48 = .ok (.aload 5, 2) := by decide +kernel
theorem dX5_pour_50 : decode cX5_pour 50 = .ok (.iload_n 2, 1) := by decide +kernel
theorem dX5_pour_51 : decode cX5_pour 51 = .ok (.iload_n 3, 1) := by decide +kernel
theorem dX5_pour_52 : decode cX5_pour 52 = .ok (.iload 4, 2) := by decide +kernel
theorem dX5_pour_54 : decode cX5_pour 54 = .ok (.invokevirtual 79, 3) := by decide +kernel
theorem dX5_pour_57 : decode cX5_pour 57 = .ok (.aload_n 0, 1) := by decide +kernel
theorem dX5_pour_58 : decode cX5_pour 58 = .ok (.getfield 12, 3) := by decide +kernel
theorem dX5_pour_61 : decode cX5_pour 61 = .ok (.getfield 82, 3) := by decide +kernel
theorem dX5_pour_64 : decode cX5_pour 64 = .ok (.iload_n 3, 1) := by decide +kernel
theorem dX5_pour_65 : decode cX5_pour 65 = .ok (.dup2, 1) := by decide +kernel
theorem dX5_pour_66 : decode cX5_pour 66 = .ok (.iaload, 1) := by decide +kernel
theorem dX5_pour_67 : decode cX5_pour 67 = .ok (.iload 4, 2) := by decide +kernel
theorem dX5_pour_69 : decode cX5_pour 69 = .ok (.iadd, 1) := by decide +kernel
theorem dX5_pour_70 : decode cX5_pour 70 = .ok (.iastore, 1) := by decide +kernel
theorem dX5_pour_71 : decode cX5_pour 71 = .ok (.aload 5, 2) := by decide +kernel
theorem dX5_pour_73 : decode cX5_pour 73 = .ok (.iload_n 2, 1) := by decide +kernel
theorem dX5_pour_74 : decode cX5_pour 74 = .ok (.invokevirtual 85, 3) := by decide +kernel
theorem dX5_pour_77 : decode cX5_pour 77 = .ok (.ireturn, 1) := by decide +kernel
set_option maxRecDepth 20000 in
theorem ggX5_stir_X5_needSlice : GoodIn wsX5_stir wsX5_needSlice := goodIn_ca (goodIn_r _ [7, 8, 9, 6, 10, 11, 12] (by decide +kernel) (by decide +kernel)) (goodIn_sub (fun _ h => List.mem_cons_of_mem _ (List.mem_append_left _ (List.mem_append_right _ h))) (by decide +kernel))
set_option maxRecDepth 20000 in
theorem gX5_stir_X5_needSlice : GoodIn wsX5_stir (va_wsS RX5 68 yX5_needSlice wsX5_needSlice) := goodIn_app (goodIn_of _ (by decide +kernel)) ggX5_stir_X5_needSlice
set_option maxRecDepth 20000 in
theorem ggX5_stir_X5_needIndex : GoodIn wsX5_stir wsX5_needIndex := goodIn_ca (goodIn_r _ [10, 11, 12] (by decide +kernel) (by decide +kernel)) (goodIn_sub (fun _ h => List.mem_cons_of_mem _ (List.mem_append_left _ (List.mem_append_right _ h))) (by decide +kernel))
set_option maxRecDepth 20000 in
theorem gX5_stir_X5_needIndex : GoodIn wsX5_stir (va_wsS RX5 37 yX5_needIndex wsX5_needIndex) := goodIn_app (goodIn_of _ (by decide +kernel)) ggX5_stir_X5_needIndex
set_option maxRecDepth 20000 in
theorem ggX5_stir_X5_needRange : GoodIn wsX5_stir wsX5_needRange := goodIn_ca (goodIn_r _ [15, 16, 17] (by decide +kernel) (by decide +kernel)) (goodIn_sub (fun _ h => List.mem_cons_of_mem _ (List.mem_append_right _ h)) (by decide +kernel))
set_option maxRecDepth 20000 in
theorem gX5_stir_X5_needRange : GoodIn wsX5_stir (va_wsS RX5 50 yX5_needRange wsX5_needRange) := goodIn_app (goodIn_of _ (by decide +kernel)) ggX5_stir_X5_needRange
set_option maxRecDepth 20000 in
theorem ggX5_stir_X1_keep : GoodIn wsX5_stir wsX1_keep := goodIn_r _ [22, 23, 24, 25, 26, 27, 28, 29, 30, 31, 32, 33, 34, 35, 36, 37, 38, 39, 40, 41, 42, 43, 44, 45, 46, 47, 48, 49, 50, 51, 52, 53, 54, 55, 78, 79, 80, 72, 73, 74, 75, 76, 77, 81, 82, 83] (by decide +kernel) (by decide +kernel)
set_option maxRecDepth 20000 in
theorem gX5_stir_X1_keep : GoodIn wsX5_stir (wsV RX5 54 RX1 yX1_keep wsX1_keep) := goodIn_app (goodIn_of _ (by decide +kernel)) ggX5_stir_X1_keep
set_option maxRecDepth 20000 in
theorem ggX5_stir_X2_spread : GoodIn wsX5_stir wsX2_spread := goodIn_r _ [59, 60, 61, 62, 52, 63, 54, 64, 65, 66, 67, 83] (by decide +kernel) (by decide +kernel)
set_option maxRecDepth 20000 in
theorem gX5_stir_X2_spread : GoodIn wsX5_stir (wsV RX5 89 RX2 yX2_spread wsX2_spread) := goodIn_app (goodIn_of _ (by decide +kernel)) ggX5_stir_X2_spread
theorem dX5_stir_0 : decode cX5_stir 0 = .ok (.iload_n 1, 1) := by decide +kernel
theorem dX5_stir_1 : decode cX5_stir 1 = .ok (.iload_n 2, 1) := by decide +kernel
theorem dX5_stir_2 : decode cX5_stir 2 = .ok (.invokestatic 68, 3) := by decide +kernel
theorem dX5_stir_5 : decode cX5_stir 5 = .ok (.iload_n 3, 1) := by decide +kernel
theorem dX5_stir_6 : decode cX5_stir 6 = .ok (.bipush 12, 2) := by decide +kernel
theorem dX5_stir_8 : decode cX5_stir 8 = .ok (.invokestatic 37, 3) := by decide +kernel
theorem dX5_stir_11 : decode cX5_stir 11 = .ok (.iload_n 2, 1) := by decide +kernel
theorem dX5_stir_12 : decode cX5_stir 12 = .ok (.iconst 0, 1) := by decide +kernel
theorem dX5_stir_13 : decode cX5_stir 13 = .ok (.iload_n 3, 1) := by decide +kernel
theorem dX5_stir_14 : decode cX5_stir 14 = .ok (.invokestatic 50, 3) := by decide +kernel
theorem dX5_stir_17 : decode cX5_stir 17 = .ok (.aload_n 0, 1) := by decide +kernel
theorem dX5_stir_18 : decode cX5_stir 18 = .ok (.getfield 19, 3) := by decide +kernel
theorem dX5_stir_21 : decode cX5_stir 21 = .ok (.aload_n 0, 1) := by decide +kernel
theorem dX5_stir_22 : decode cX5_stir 22 = .ok (.getfield 12, 3) := by decide +kernel
theorem dX5_stir_25 : decode cX5_stir 25 = .ok (.invokevirtual 54, 3) := by decide +kernel
theorem dX5_stir_28 : decode cX5_stir 28 = .ok (.iconst 0, 1) := by decide +kernel
theorem dX5_stir_29 : decode cX5_stir 29 = .ok (.istore 4, 2) := by decide +kernel
theorem dX5_stir_31 : decode cX5_stir 31 = .ok (.iconst 0, 1) := by decide +kernel
theorem dX5_stir_32 : decode cX5_stir 32 = .ok (.istore 5, 2) := by decide +kernel
theorem dX5_stir_34 : decode cX5_stir 34 = .ok (.iload 5, 2) := by decide +kernel
theorem dX5_stir_36 : decode cX5_stir 36 = .ok (.iconst 4, 1) := by decide +kernel
theorem dX5_stir_37 : decode cX5_stir 37 = .ok (.if_icmp .ge 30, 3) := by decide +kernel
theorem dX5_stir_40 : decode cX5_stir 40 = .ok (.iload 4, 2) := by decide +kernel
theorem dX5_stir_42 : decode cX5_stir 42 = .ok (.aload_n 0, 1) := by decide +kernel
theorem dX5_stir_43 : decode cX5_stir 43 = .ok (.getfield 12, 3) := by decide +kernel
theorem dX5_stir_46 : decode cX5_stir 46 = .ok (.getfield 71, 3) := by decide +kernel
theorem dX5_stir_49 : decode cX5_stir 49 = .ok (.iload_n 1, 1) := by decide +kernel
theorem dX5_stir_50 : decode cX5_stir 50 = .ok (.aaload, 1) := by decide +kernel
theorem dX5_stir_51 : decode cX5_stir 51 = .ok (.iload_n 2, 1) := by decide +kernel
theorem dX5_stir_52 : decode cX5_stir 52 = .ok (.iload_n 3, 1) := by decide +kernel
theorem dX5_stir_53 : decode cX5_stir 53 = .ok (.iload 5, 2) := by decide +kernel
