theorem dX0_init_0 : decode cX0_init 0 = .ok (.aload_n 0, 1) := by decide +kernel
theorem dX0_init_1 : decode cX0_init 1 = .ok (.invokespecial 3, 3) := by decide +kernel
theorem dX0_init_4 : decode cX0_init 4 = .ok (.aload_n 0, 1) := by decide +kernel
theorem dX0_init_5 : decode cX0_init 5 = .ok (.bipush 60, 2) := by decide +kernel
theorem dX0_init_7 : decode cX0_init 7 = .ok (.newarray .char, 2) := by decide +kernel
theorem dX0_init_9 : decode cX0_init 9 = .ok (.putfield 11, 3) := by decide +kernel
theorem dX0_init_12 : decode cX0_init 12 = .ok (.return_, 1) := by decide +kernel
set_option maxRecDepth 20000 in
theorem ggX1_init_X4_init : GoodIn wsX1_init wsX4_init := goodIn_r _ [10, 11, 2, 3, 12, 13, 14, 15, 16, 17, 18, 19, 20, 21, 22, 23, 24, 25, 26, 27, 28, 29, 30, 31, 41, 42, 35, 36, 37, 38, 39, 40, 43] (by decide +kernel) (by decide +kernel)
set_option maxRecDepth 20000 in
theorem gX1_init_X4_init : GoodIn wsX1_init (wsX4_init) := ggX1_init_X4_init
theorem dX1_init_0 : decode cX1_init 0 = .ok (.aload_n 0, 1) := by decide +kernel
theorem dX1_init_1 : decode cX1_init 1 = .ok (.invokespecial 1, 3) := by decide +kernel
theorem dX1_init_4 : decode cX1_init 4 = .ok (.aload_n 0, 1) := by decide +kernel
theorem dX1_init_5 : decode cX1_init 5 = .ok (.bipush 6, 2) := by decide +kernel
theorem dX1_init_7 : decode cX1_init 7 = .ok (.anewarray 9, 3) := by decide +kernel
theorem dX1_init_10 : decode cX1_init 10 = .ok (.putfield 11, 3) := by decide +kernel
theorem dX1_init_13 : decode cX1_init 13 = .ok (.iconst 0, 1) := by decide +kernel
theorem dX1_init_14 : decode cX1_init 14 = .ok (.istore_n 1, 1) := by decide +kernel
theorem dX1_init_15 : decode cX1_init 15 = .ok (.iload_n 1, 1) := by decide +kernel
theorem dX1_init_16 : decode cX1_init 16 = .ok (.bipush 6, 2) := by decide +kernel
theorem dX1_init_18 : decode cX1_init 18 = .ok (.if_icmp .ge 22, 3) := by decide +kernel
theorem dX1_init_21 : decode cX1_init 21 = .ok (.aload_n 0, 1) := by decide +kernel
theorem dX1_init_22 : decode cX1_init 22 = .ok (.getfield 11, 3) := by decide +kernel
theorem dX1_init_25 : decode cX1_init 25 = .ok (.iload_n 1, 1) := by decide +kernel
theorem dX1_init_26 : decode cX1_init 26 = .ok (.new 9, 3) := by decide +kernel
theorem dX1_init_29 : decode cX1_init 29 = .ok (.dup, 1) := by decide +kernel
theorem dX1_init_30 : decode cX1_init 30 = .ok (.invokespecial 15, 3) := by decide +kernel
theorem dX1_init_33 : decode cX1_init 33 = .ok (.aastore, 1) := by decide +kernel
theorem dX1_init_34 : decode cX1_init 34 = .ok (.iinc 1 1, 3) := by decide +kernel
theorem dX1_init_37 : decode cX1_init 37 = .ok (.goto (-22), 3) := by decide +kernel
theorem dX1_init_40 : decode cX1_init 40 = .ok (.return_, 1) := by decide +kernel
theorem dX1_size_0 : decode cX1_size 0 = .ok (.aload_n 0, 1) := by decide +kernel
theorem dX1_size_1 : decode cX1_size 1 = .ok (.getfield 16, 3) := by decide +kernel
theorem dX1_size_4 : decode cX1_size 4 = .ok (.ireturn, 1) := by decide +kernel
set_option maxRecDepth 20000 in
theorem ggX1_keep_X4_copyFrom : GoodIn wsX1_keep wsX4_copyFrom := goodIn_r _ [8, 9, 10, 11, 12, 13, 14, 15, 16, 17, 18, 19, 20, 21, 22, 23, 24, 25, 26, 27, 28, 29, 30, 31, 32, 33, 37, 38, 39, 40, 41, 42, 43, 44, 45] (by decide +kernel) (by decide +kernel)
set_option maxRecDepth 20000 in
theorem gX1_keep_X4_copyFrom : GoodIn wsX1_keep (wsV RX1 23 RX4 yX4_copyFrom wsX4_copyFrom) := goodIn_app (goodIn_of _ (by decide +kernel)) ggX1_keep_X4_copyFrom
theorem dX1_keep_0 : decode cX1_keep 0 = .ok (.aload_n 0, 1) := by decide +kernel
theorem dX1_keep_1 : decode cX1_keep 1 = .ok (.getfield 11, 3) := by decide +kernel
theorem dX1_keep_4 : decode cX1_keep 4 = .ok (.aload_n 0, 1) := by decide +kernel
theorem dX1_keep_5 : decode cX1_keep 5 = .ok (.getfield 20, 3) := by decide +kernel
theorem dX1_keep_8 : decode cX1_keep 8 = .ok (.aload_n 0, 1) := by decide +kernel
theorem dX1_keep_9 : decode cX1_keep 9 = .ok (.getfield 16, 3) := by decide +kernel
theorem dX1_keep_12 : decode cX1_keep 12 = .ok (.iadd, 1) := by decide +kernel
theorem dX1_keep_13 : decode cX1_keep 13 = .ok (.bipush 6, 2) := by decide +kernel
theorem dX1_keep_15 : decode cX1_keep 15 = .ok (.irem, 1) := by decide +kernel
theorem dX1_keep_16 : decode cX1_keep 16 = .ok (.aaload, 1) := by decide +kernel
theorem dX1_keep_17 : decode cX1_keep 17 = .ok (.aload_n 1, 1) := by decide +kernel
theorem dX1_keep_18 : decode cX1_keep 18 = .ok (.invokevirtual 23, 3) := by decide +kernel
theorem dX1_keep_21 : decode cX1_keep 21 = .ok (.aload_n 0, 1) := by decide +kernel
theorem dX1_keep_22 : decode cX1_keep 22 = .ok (.getfield 16, 3) := by decide +kernel
theorem dX1_keep_25 : decode cX1_keep 25 = .ok (.bipush 6, 2) := by decide +kernel
theorem dX1_keep_27 : decode cX1_keep 27 = .ok (.if_icmp .ge 16, 3) := by decide +kernel
theorem dX1_keep_30 : decode cX1_keep 30 = .ok (.aload_n 0, 1) := by decide +kernel
theorem dX1_keep_31 : decode cX1_keep 31 = .ok (.dup, 1) := by decide +kernel
theorem dX1_keep_32 : decode cX1_keep 32 = .ok (.getfield 16, 3) := by decide +kernel
theorem dX1_keep_35 : decode cX1_keep 35 = .ok (.iconst 1, 1) := by decide +kernel
theorem dX1_keep_36 : decode cX1_keep 36 = .ok (.iadd, 1) := by decide +kernel
theorem dX1_keep_37 : decode cX1_keep 37 = .ok (.putfield 16, 3) := by decide +kernel
theorem dX1_keep_40 : decode cX1_keep 40 = .ok (.goto 16, 3) := by decide +kernel
theorem dX1_keep_43 : decode cX1_keep 43 = .ok (.aload_n 0, 1) := by decide +kernel
theorem dX1_keep_44 : decode cX1_keep 44 = .ok (.aload_n 0, 1) := by decide +kernel
theorem dX1_keep_45 : decode cX1_keep 45 = .ok (.getfield 20, 3) := by decide +kernel
theorem dX1_keep_48 : decode cX1_keep 48 = .ok (.iconst 1, 1) := by decide +kernel
theorem dX1_keep_49 : decode cX1_keep 49 = .ok (.iadd, 1) := by decide +kernel
theorem dX1_keep_50 : decode cX1_keep 50 = .ok (.bipush 6, 2) := by decide +kernel
theorem dX1_keep_52 : decode cX1_keep 52 = .ok (.irem, 1) := by decide +kernel
theorem dX1_keep_53 : decode cX1_keep 53 = .ok (.putfield 20, 3) := by decide +kernel
theorem dX1_keep_56 : decode cX1_keep 56 = .ok (.return_, 1) := by decide +kernel
theorem dX2_init_0 : decode cX2_init 0 = .ok (.aload_n 0, 1) := by decide +kernel
theorem dX2_init_1 : decode cX2_init 1 = .ok (.invokespecial 3, 3) := by decide +kernel
theorem dX2_init_4 : decode cX2_init 4 = .ok (.aload_n 0, 1) := by decide +kernel
theorem dX2_init_5 : decode cX2_init 5 = .ok (.bipush 48, 2) := by decide +kernel
theorem dX2_init_7 : decode cX2_init 7 = .ok (.newarray .int, 2) := by decide +kernel
theorem dX2_init_9 : decode cX2_init 9 = .ok (.putfield 9, 3) := by decide +kernel
theorem dX2_init_12 : decode cX2_init 12 = .ok (.return_, 1) := by decide +kernel
theorem dX2_copyFrom_0 : decode cX2_copyFrom 0 = .ok (.aload_n 1, 1) := by decide +kernel
theorem dX2_copyFrom_1 : decode cX2_copyFrom 1 = .ok (.getfield 9, 3) := by decide +kernel
theorem dX2_copyFrom_4 : decode cX2_copyFrom 4 = .ok (.iconst 0, 1) := by decide +kernel
theorem dX2_copyFrom_5 : decode cX2_copyFrom 5 = .ok (.aload_n 0, 1) := by decide +kernel
theorem dX2_copyFrom_6 : decode cX2_copyFrom 6 = .ok (.getfield 9, 3) := by decide +kernel
theorem dX2_copyFrom_9 : decode cX2_copyFrom 9 = .ok (.iconst 0, 1) := by decide +kernel
theorem dX2_copyFrom_10 : decode cX2_copyFrom 10 = .ok (.aload_n 0, 1) := by decide +kernel
theorem dX2_copyFrom_11 : decode cX2_copyFrom 11 = .ok (.getfield 9, 3) := by decide +kernel
theorem dX2_copyFrom_14 : decode cX2_copyFrom 14 = .ok (.arraylength, 1) := by decide +kernel
theorem dX2_copyFrom_15 : decode cX2_copyFrom 15 = .ok (.invokestatic 15, 3) := by decide +kernel
theorem dX2_copyFrom_18 : decode cX2_copyFrom 18 = .ok (.return_, 1) := by decide +kernel
theorem dX2_many_0 : decode cX2_many 0 = .ok (.aload_n 0, 1) := by decide +kernel
theorem dX2_many_1 : decode cX2_many 1 = .ok (.getfield 9, 3) := by decide +kernel
theorem dX2_many_4 : decode cX2_many 4 = .ok (.iload_n 1, 1) := by decide +kernel
theorem dX2_many_5 : decode cX2_many 5 = .ok (.iconst 4, 1) := by decide +kernel
theorem dX2_many_6 : decode cX2_many 6 = .ok (.imul, 1) := by decide +kernel
theorem dX2_many_7 : decode cX2_many 7 = .ok (.iload_n 2, 1) := by decide +kernel
theorem dX2_many_8 : decode cX2_many 8 = .ok (.iadd, 1) := by decide +kernel
theorem dX2_many_9 : decode cX2_many 9 = .ok (.iaload, 1) := by decide +kernel
theorem dX2_many_10 : decode cX2_many 10 = .ok (.ireturn, 1) := by decide +kernel
theorem dX2_put_0 : decode cX2_put 0 = .ok (.aload_n 0, 1) := by decide +kernel
theorem dX2_put_1 : decode cX2_put 1 = .ok (.getfield 9, 3) := by decide +kernel
theorem dX2_put_4 : decode cX2_put 4 = .ok (.iload_n 1, 1) := by decide +kernel
theorem dX2_put_5 : decode cX2_put 5 = .ok (.iconst 4, 1) := by decide +kernel
theorem dX2_put_6 : decode cX2_put 6 = .ok (.imul, 1) := by decide +kernel
theorem dX2_put_7 : decode cX2_put 7 = .ok (.iload_n 2, 1) := by decide +kernel
theorem dX2_put_8 : decode cX2_put 8 = .ok (.iadd, 1) := by decide +kernel
theorem dX2_put_9 : decode cX2_put 9 = .ok (.dup2, 1) := by decide +kernel
theorem dX2_put_10 : decode cX2_put 10 = .ok (.iaload, 1) := by decide +kernel
theorem dX2_put_11 : decode cX2_put 11 = .ok (.iload_n 3, 1) := by decide +kernel
theorem dX2_put_12 : decode cX2_put 12 = .ok (.iadd, 1) := by decide +kernel
theorem dX2_put_13 : decode cX2_put 13 = .ok (.iastore, 1) := by decide +kernel
theorem dX2_put_14 : decode cX2_put 14 = .ok (.return_, 1) := by decide +kernel
set_option maxRecDepth 20000 in
theorem ggX2_allIn_X2_many : GoodIn wsX2_allIn wsX2_many := goodIn_r _ [5, 6, 7] (by decide +kernel) (by decide +kernel)
set_option maxRecDepth 20000 in
theorem gX2_allIn_X2_many : GoodIn wsX2_allIn (wsV RX2 21 RX2 yX2_many wsX2_many) := goodIn_app (goodIn_of _ (by decide +kernel)) ggX2_allIn_X2_many
theorem dX2_allIn_0 : decode cX2_allIn 0 = .ok (.iconst 0, 1) := by decide +kernel
theorem dX2_allIn_1 : decode cX2_allIn 1 = .ok (.istore_n 2, 1) := by decide +kernel
theorem dX2_allIn_2 : decode cX2_allIn 2 = .ok (.iconst 0, 1) := by decide +kernel
theorem dX2_allIn_3 : decode cX2_allIn 3 = .ok (.istore_n 3, 1) := by decide +kernel
theorem dX2_allIn_4 : decode cX2_allIn 4 = .ok (.iload_n 3, 1) := by decide +kernel
theorem dX2_allIn_5 : decode cX2_allIn 5 = .ok (.iconst 4, 1) := by decide +kernel
theorem dX2_allIn_6 : decode cX2_allIn 6 = .ok (.if_icmp .ge 18, 3) := by decide +kernel
theorem dX2_allIn_9 : decode cX2_allIn 9 = .ok (.iload_n 2, 1) := by decide +kernel
theorem dX2_allIn_10 : decode cX2_allIn 10 = .ok (.aload_n 0, 1) := by decide +kernel
theorem dX2_allIn_11 : decode cX2_allIn 11 = .ok (.iload_n 1, 1) := by decide +kernel
theorem dX2_allIn_12 : decode cX2_allIn 12 = .ok (.iload_n 3, 1) := by decide +kernel
theorem dX2_allIn_13 : decode cX2_allIn 13 = .ok (.invokevirtual 21, 3) := by decide +kernel
theorem dX2_allIn_16 : decode cX2_allIn 16 = .ok (.iadd, 1) := by decide +kernel
theorem dX2_allIn_17 : decode cX2_allIn 17 = .ok (.istore_n 2, 1) := by decide +kernel
theorem dX2_allIn_18 : decode cX2_allIn 18 = .ok (.iinc 3 1, 3) := by decide +kernel
theorem dX2_allIn_21 : decode cX2_allIn 21 = .ok (.goto (-17), 3) := by decide +kernel
theorem dX2_allIn_24 : decode cX2_allIn 24 = .ok (.iload_n 2, 1) := by decide +kernel
theorem dX2_allIn_25 : decode cX2_allIn 25 = .ok (.ireturn, 1) := by decide +kernel
set_option maxRecDepth 20000 in
theorem ggX2_allOf_X2_many : GoodIn wsX2_allOf wsX2_many := goodIn_r _ [5, 6, 7] (by decide +kernel) (by decide +kernel)
set_option maxRecDepth 20000 in
theorem gX2_allOf_X2_many : GoodIn wsX2_allOf (wsV RX2 21 RX2 yX2_many wsX2_many) := goodIn_app (goodIn_of _ (by decide +kernel)) ggX2_allOf_X2_many
theorem dX2_allOf_0 : decode cX2_allOf 0 = .ok (.iconst 0, 1) := by decide +kernel
theorem dX2_allOf_1 : decode cX2_allOf 1 = .ok (.istore_n 2, 1) := by decide +kernel
theorem dX2_allOf_2 : decode cX2_allOf 2 = .ok (.iconst 0, 1) := by decide +kernel
theorem dX2_allOf_3 : decode cX2_allOf 3 = .ok (.istore_n 3, 1) := by decide +kernel
theorem dX2_allOf_4 : decode cX2_allOf 4 = .ok (.iload_n 3, 1) := by decide +kernel
theorem dX2_allOf_5 : decode cX2_allOf 5 = .ok (.bipush 12, 2) := by decide +kernel
theorem dX2_allOf_7 : decode cX2_allOf 7 = .ok (.if_icmp .ge 18, 3) := by decide +kernel
theorem dX2_allOf_10 : decode cX2_allOf 10 = .ok (.iload_n 2, 1) := by decide +kernel
theorem dX2_allOf_11 : decode cX2_allOf 11 = .ok (.aload_n 0, 1) := by decide +kernel
theorem dX2_allOf_12 : decode cX2_allOf 12 = .ok (.iload_n 3, 1) := by decide +kernel
theorem dX2_allOf_13 : decode cX2_allOf 13 = .ok (.iload_n 1, 1) := by decide +kernel
theorem dX2_allOf_14 : decode cX2_allOf 14 = .ok (.invokevirtual 21, 3) := by decide +kernel
theorem dX2_allOf_17 : decode cX2_allOf 17 = .ok (.iadd, 1) := by decide +kernel
theorem dX2_allOf_18 : decode cX2_allOf 18 = .ok (.istore_n 2, 1) := by decide +kernel
theorem dX2_allOf_19 : decode cX2_allOf 19 = .ok (.iinc 3 1, 3) := by decide +kernel
theorem dX2_allOf_22 : decode cX2_allOf 22 = .ok (.goto (-18), 3) := by decide +kernel
theorem dX2_allOf_25 : decode cX2_allOf 25 = .ok (.iload_n 2, 1) := by decide +kernel
theorem dX2_allOf_26 : decode cX2_allOf 26 = .ok (.ireturn, 1) := by decide +kernel
set_option maxRecDepth 20000 in
theorem ggX2_allDownTo_X2_allIn : GoodIn wsX2_allDownTo wsX2_allIn := goodIn_r _ [5, 6, 7, 8, 4, 9, 10, 11] (by decide +kernel) (by decide +kernel)
set_option maxRecDepth 20000 in
theorem gX2_allDownTo_X2_allIn : GoodIn wsX2_allDownTo (wsV RX2 25 RX2 yX2_allIn wsX2_allIn) := goodIn_app (goodIn_of _ (by decide +kernel)) ggX2_allDownTo_X2_allIn
theorem dX2_allDownTo_0 : decode cX2_allDownTo 0 = .ok (.iconst 0, 1) := by decide +kernel
theorem dX2_allDownTo_1 : decode cX2_allDownTo 1 = .ok (.istore_n 2, 1) := by decide +kernel
theorem dX2_allDownTo_2 : decode cX2_allDownTo 2 = .ok (.iconst 0, 1) := by decide +kernel
theorem dX2_allDownTo_3 : decode cX2_allDownTo 3 = .ok (.istore_n 3, 1) := by decide +kernel
theorem dX2_allDownTo_4 : decode cX2_allDownTo 4 = .ok (.iload_n 3, 1) := by decide +kernel
theorem dX2_allDownTo_5 : decode cX2_allDownTo 5 = .ok (.iload_n 1, 1) := by decide +kernel
theorem dX2_allDownTo_6 : decode cX2_allDownTo 6 = .ok (.if_icmp .gt 17, 3) := by decide +kernel
theorem dX2_allDownTo_9 : decode cX2_allDownTo 9 = .ok (.iload_n 2, 1) := by decide +kernel
theorem dX2_allDownTo_10 : decode cX2_allDownTo 10 = .ok (.aload_n 0, 1) := by decide +kernel
theorem dX2_allDownTo_11 : decode cX2_allDownTo 11 = .ok (.iload_n 3, 1) := by decide +kernel
theorem dX2_allDownTo_12 : decode cX2_allDownTo 12 = .ok (.invokevirtual 25, 3) := by decide +kernel
theorem dX2_allDownTo_15 : decode cX2_allDownTo 15 = .ok (.iadd, 1) := by decide +kernel
theorem dX2_allDownTo_16 : decode cX2_allDownTo 16 = .ok (.istore_n 2, 1) := by decide +kernel
theorem dX2_allDownTo_17 : decode cX2_allDownTo 17 = .ok (.iinc 3 1, 3) := by decide +kernel
theorem dX2_allDownTo_20 : decode cX2_allDownTo 20 = .ok (.goto (-16), 3) := by decide +kernel
theorem dX2_allDownTo_23 : decode cX2_allDownTo 23 = .ok (.iload_n 2, 1) := by decide +kernel
theorem dX2_allDownTo_24 : decode cX2_allDownTo 24 = .ok (.ireturn, 1) := by decide +kernel
set_option maxRecDepth 20000 in
theorem ggX2_all_X2_allDownTo : GoodIn wsX2_all wsX2_allDownTo := goodIn_r _ [5, 6, 7, 8, 4, 9, 10, 11, 12, 13, 14, 15] (by decide +kernel) (by decide +kernel)
set_option maxRecDepth 20000 in
theorem gX2_all_X2_allDownTo : GoodIn wsX2_all (wsV RX2 29 RX2 yX2_allDownTo wsX2_allDownTo) := goodIn_app (goodIn_of _ (by decide +kernel)) ggX2_all_X2_allDownTo
theorem dX2_all_0 : decode cX2_all 0 = .ok (.aload_n 0, 1) := by decide +kernel
theorem dX2_all_1 : decode cX2_all 1 = .ok (.bipush 11, 2) := by decide +kernel
theorem dX2_all_3 : decode cX2_all 3 = .ok (.invokevirtual 29, 3) := by decide +kernel
theorem dX2_all_6 : decode cX2_all 6 = .ok (.ireturn, 1) := by decide +kernel
set_option maxRecDepth 20000 in
theorem ggX2_sumOfDepths_X2_allIn : GoodIn wsX2_sumOfDepths wsX2_allIn := goodIn_r _ [5, 6, 7, 8, 4, 9, 10, 11] (by decide +kernel) (by decide +kernel)
set_option maxRecDepth 20000 in
theorem gX2_sumOfDepths_X2_allIn : GoodIn wsX2_sumOfDepths (wsV RX2 25 RX2 yX2_allIn wsX2_allIn) := goodIn_app (goodIn_of _ (by decide +kernel)) ggX2_sumOfDepths_X2_allIn
theorem dX2_sumOfDepths_0 : decode cX2_sumOfDepths 0 = .ok (.iconst 0, 1) := by decide +kernel
theorem dX2_sumOfDepths_1 : decode cX2_sumOfDepths 1 = .ok (.istore_n 1, 1) := by decide +kernel
theorem dX2_sumOfDepths_2 : decode cX2_sumOfDepths 2 = .ok (.iconst 0, 1) := by decide +kernel
theorem dX2_sumOfDepths_3 : decode cX2_sumOfDepths 3 = .ok (.istore_n 2, 1) := by decide +kernel
theorem dX2_sumOfDepths_4 : decode cX2_sumOfDepths 4 = .ok (.iload_n 2, 1) := by decide +kernel
theorem dX2_sumOfDepths_5 : decode cX2_sumOfDepths 5 = .ok (.bipush 12, 2) := by decide +kernel
theorem dX2_sumOfDepths_7 : decode cX2_sumOfDepths 7 = .ok (.if_icmp .ge 19, 3) := by decide +kernel
theorem dX2_sumOfDepths_10 : decode cX2_sumOfDepths 10 = .ok (.iload_n 1, 1) := by decide +kernel
theorem dX2_sumOfDepths_11 : decode cX2_sumOfDepths 11 = .ok (.iload_n 2, 1) := by decide +kernel
theorem dX2_sumOfDepths_12 : decode cX2_sumOfDepths 12 = .ok (.aload_n 0, 1) := by decide +kernel
theorem dX2_sumOfDepths_13 : decode cX2_sumOfDepths 13 = .ok (.iload_n 2, 1) := by decide +kernel
theorem dX2_sumOfDepths_14 : decode cX2_sumOfDepths 14 = .ok (.invokevirtual 25, 3) := by decide +kernel
theorem dX2_sumOfDepths_17 : decode cX2_sumOfDepths 17 = .ok (.imul, 1) := by decide +kernel
theorem dX2_sumOfDepths_18 : decode cX2_sumOfDepths 18 = .ok (.iadd, 1) := by decide +kernel
theorem dX2_sumOfDepths_19 : decode cX2_sumOfDepths 19 = .ok (.istore_n 1, 1) := by decide +kernel
theorem dX2_sumOfDepths_20 : decode cX2_sumOfDepths 20 = .ok (.iinc 2 1, 3) := by decide +kernel
theorem dX2_sumOfDepths_23 : decode cX2_sumOfDepths 23 = .ok (.goto (-19), 3) := by decide +kernel
theorem dX2_sumOfDepths_26 : decode cX2_sumOfDepths 26 = .ok (.iload_n 1, 1) := by decide +kernel
theorem dX2_sumOfDepths_27 : decode cX2_sumOfDepths 27 = .ok (.ireturn, 1) := by decide +kernel
set_option maxRecDepth 20000 in
theorem ggX2_spread_X2_many : GoodIn wsX2_spread wsX2_many := goodIn_r _ [5, 6, 11] (by decide +kernel) (by decide +kernel)
set_option maxRecDepth 20000 in
theorem gX2_spread_X2_many : GoodIn wsX2_spread (wsV RX2 21 RX2 yX2_many wsX2_many) := goodIn_app (goodIn_of _ (by decide +kernel)) ggX2_spread_X2_many
set_option maxRecDepth 20000 in
theorem ggX2_spread_X2_put : GoodIn wsX2_spread wsX2_put := goodIn_r _ [10, 6, 11] (by decide +kernel) (by decide +kernel)
set_option maxRecDepth 20000 in
theorem gX2_spread_X2_put : GoodIn wsX2_spread (wsV RX2 32 RX2 yX2_put wsX2_put) := goodIn_app (goodIn_of _ (by decide +kernel)) ggX2_spread_X2_put
theorem dX2_spread_0 : decode cX2_spread 0 = .ok (.iconst 0, 1) := by decide +kernel
theorem dX2_spread_1 : decode cX2_spread 1 = .ok (.istore 4, 2) := by decide +kernel
theorem dX2_spread_3 : decode cX2_spread 3 = .ok (.iload_n 1, 1) := by decide +kernel
theorem dX2_spread_4 : decode cX2_spread 4 = .ok (.istore 5, 2) := by decide +kernel
theorem dX2_spread_6 : decode cX2_spread 6 = .ok (.iload 5, 2) := by decide +kernel
theorem dX2_spread_8 : decode cX2_spread 8 = .ok (.iload_n 2, 1) := by decide +kernel
theorem dX2_spread_9 : decode cX2_spread 9 = .ok (.if_icmp .gt 21, 3) := by decide +kernel
theorem dX2_spread_12 : decode cX2_spread 12 = .ok (.iload 4, 2) := by decide +kernel
theorem dX2_spread_14 : decode cX2_spread 14 = .ok (.aload_n 0, 1) := by decide +kernel
theorem dX2_spread_15 : decode cX2_spread 15 = .ok (.iload 5, 2) := by decide +kernel
theorem dX2_spread_17 : decode cX2_spread 17 = .ok (.iload_n 3, 1) := by decide +kernel
theorem dX2_spread_18 : decode cX2_spread 18 = .ok (.invokevirtual 21, 3) := by decide +kernel
theorem dX2_spread_21 : decode cX2_spread 21 = .ok (.iadd, 1) := by decide +kernel
theorem dX2_spread_22 : decode cX2_spread 22 = .ok (.istore 4, 2) := by decide +kernel
theorem dX2_spread_24 : decode cX2_spread 24 = .ok (.iinc 5 1, 3) := by decide +kernel
theorem dX2_spread_27 : decode cX2_spread 27 = .ok (.goto (-21), 3) := by decide +kernel
theorem dX2_spread_30 : decode cX2_spread 30 = .ok (.iload 4, 2) := by decide +kernel
theorem dX2_spread_32 : decode cX2_spread 32 = .ok (.istore 5, 2) := by decide +kernel
theorem dX2_spread_34 : decode cX2_spread 34 = .ok (.iload_n 1, 1) := by decide +kernel
theorem dX2_spread_35 : decode cX2_spread 35 = .ok (.istore 6, 2) := by decide +kernel
theorem dX2_spread_37 : decode cX2_spread 37 = .ok (.iload 6, 2) := by decide +kernel
theorem dX2_spread_39 : decode cX2_spread 39 = .ok (.iload_n 2, 1) := by decide +kernel
theorem dX2_spread_40 : decode cX2_spread 40 = .ok (.if_icmp .gt 51, 3) := by decide +kernel
theorem dX2_spread_43 : decode cX2_spread 43 = .ok (.iload_n 2, 1) := by decide +kernel
theorem dX2_spread_44 : decode cX2_spread 44 = .ok (.iload 6, 2) := by decide +kernel
theorem dX2_spread_46 : decode cX2_spread 46 = .ok (.isub, 1) := by decide +kernel
theorem dX2_spread_47 : decode cX2_spread 47 = .ok (.istore 7, 2) := by decide +kernel
theorem dX2_spread_49 : decode cX2_spread 49 = .ok (.iload 5, 2) := by decide +kernel
theorem dX2_spread_51 : decode cX2_spread 51 = .ok (.iload 7, 2) := by decide +kernel
theorem dX2_spread_53 : decode cX2_spread 53 = .ok (.iadd, 1) := by decide +kernel
theorem dX2_spread_54 : decode cX2_spread 54 = .ok (.iload 7, 2) := by decide +kernel
theorem dX2_spread_56 : decode cX2_spread 56 = .ok (.iconst 1, 1) := by decide +kernel
theorem dX2_spread_57 : decode cX2_spread 57 = .ok (.iadd, 1) := by decide +kernel
theorem dX2_spread_58 : decode cX2_spread 58 = .ok (.idiv, 1) := by decide +kernel
theorem dX2_spread_59 : decode cX2_spread 59 = .ok (.istore 8, 2) := by decide +kernel
theorem dX2_spread_61 : decode cX2_spread 61 = .ok (.aload_n 0, 1) := by decide +kernel
theorem dX2_spread_62 : decode cX2_spread 62 = .ok (.iload 6, 2) := by decide +kernel
theorem dX2_spread_64 : decode cX2_spread 64 = .ok (.iload_n 3, 1) := by decide +kernel
theorem dX2_spread_65 : decode cX2_spread 65 = .ok (.iload 8, 2) := by decide +kernel
theorem dX2_spread_67 : decode cX2_spread 67 = .ok (.aload_n 0, 1) := by decide +kernel
theorem dX2_spread_68 : decode cX2_spread 68 = .ok (.iload 6, 2) := by decide +kernel
theorem dX2_spread_70 : decode cX2_spread 70 = .ok (.iload_n 3, 1) := by decide +kernel
theorem dX2_spread_71 : decode cX2_spread 71 = .ok (.invokevirtual 21, 3) := by decide +kernel
theorem dX2_spread_74 : decode cX2_spread 74 = .ok (.isub, 1) := by decide +kernel
theorem dX2_spread_75 : decode cX2_spread 75 = .ok (.invokevirtual 32, 3) := by decide +kernel
theorem dX2_spread_78 : decode cX2_spread 78 = .ok (.iload 5, 2) := by decide +kernel
theorem dX2_spread_80 : decode cX2_spread 80 = .ok (.iload 8, 2) := by decide +kernel
theorem dX2_spread_82 : decode cX2_spread 82 = .ok (.isub, 1) := by decide +kernel
theorem dX2_spread_83 : decode cX2_spread 83 = .ok (.istore 5, 2) := by decide +kernel
theorem dX2_spread_85 : decode cX2_spread 85 = .ok (.iinc 6 1, 3) := by decide +kernel
theorem dX2_spread_88 : decode cX2_spread 88 = .ok (.goto (-51), 3) := by decide +kernel
theorem dX2_spread_91 : decode cX2_spread 91 = .ok (.iload 4, 2) := by decide +kernel
theorem dX2_spread_93 : decode cX2_spread 93 = .ok (.ireturn, 1) := by decide +kernel
set_option maxRecDepth 20000 in
theorem ggX2_pourInto_X2_many : GoodIn wsX2_pourInto wsX2_many := goodIn_r _ [5, 6, 11] (by decide +kernel) (by decide +kernel)
set_option maxRecDepth 20000 in
theorem gX2_pourInto_X2_many : GoodIn wsX2_pourInto (wsV RX2 21 RX2 yX2_many wsX2_many) := goodIn_app (goodIn_of _ (by decide +kernel)) ggX2_pourInto_X2_many
set_option maxRecDepth 20000 in
theorem ggX2_pourInto_X2_put : GoodIn wsX2_pourInto wsX2_put := goodIn_r _ [10, 6, 11] (by decide +kernel) (by decide +kernel)
set_option maxRecDepth 20000 in
theorem gX2_pourInto_X2_put : GoodIn wsX2_pourInto (wsV RX2 32 RX2 yX2_put wsX2_put) := goodIn_app (goodIn_of _ (by decide +kernel)) ggX2_pourInto_X2_put
theorem dX2_pourInto_0 : decode cX2_pourInto 0 = .ok (.iconst 0, 1) := by decide +kernel
theorem dX2_pourInto_1 : decode cX2_pourInto 1 = .ok (.istore_n 3, 1) := by decide +kernel
theorem dX2_pourInto_2 : decode cX2_pourInto 2 = .ok (.iload_n 3, 1) := by decide +kernel
theorem dX2_pourInto_3 : decode cX2_pourInto 3 = .ok (.iload_n 2, 1) := by decide +kernel
theorem dX2_pourInto_4 : decode cX2_pourInto 4 = .ok (.if_icmp .gt 52, 3) := by decide +kernel
theorem dX2_pourInto_7 : decode cX2_pourInto 7 = .ok (.iconst 0, 1) := by decide +kernel
theorem dX2_pourInto_8 : decode cX2_pourInto 8 = .ok (.istore 4, 2) := by decide +kernel
theorem dX2_pourInto_10 : decode cX2_pourInto 10 = .ok (.iload 4, 2) := by decide +kernel
theorem dX2_pourInto_12 : decode cX2_pourInto 12 = .ok (.iconst 4, 1) := by decide +kernel
theorem dX2_pourInto_13 : decode cX2_pourInto 13 = .ok (.if_icmp .ge 37, 3) := by decide +kernel
theorem dX2_pourInto_16 : decode cX2_pourInto 16 = .ok (.aload_n 0, 1) := by decide +kernel
theorem dX2_pourInto_17 : decode cX2_pourInto 17 = .ok (.iload_n 3, 1) := by decide +kernel
theorem dX2_pourInto_18 : decode cX2_pourInto 18 = .ok (.iload 4, 2) := by decide +kernel
theorem dX2_pourInto_20 : decode cX2_pourInto 20 = .ok (.invokevirtual 21, 3) := by decide +kernel
theorem dX2_pourInto_23 : decode cX2_pourInto 23 = .ok (.istore 5, 2) := by decide +kernel
theorem dX2_pourInto_25 : decode cX2_pourInto 25 = .ok (.aload_n 1, 1) := by decide +kernel
theorem dX2_pourInto_26 : decode cX2_pourInto 26 = .ok (.iload_n 3, 1) := by decide +kernel
theorem dX2_pourInto_27 : decode cX2_pourInto 27 = .ok (.iload 4, 2) := by decide +kernel
theorem dX2_pourInto_29 : decode cX2_pourInto 29 = .ok (.iload 5, 2) := by decide +kernel
theorem dX2_pourInto_31 : decode cX2_pourInto 31 = .ok (.invokevirtual 32, 3) := by decide +kernel
theorem dX2_pourInto_34 : decode cX2_pourInto 34 = .ok (.aload_n 0, 1) := by decide +kernel
theorem dX2_pourInto_35 : decode cX2_pourInto 35 = .ok (.iload_n 3, 1) := by decide +kernel
theorem dX2_pourInto_36 : decode cX2_pourInto 36 = .ok (.iload 4, 2) := by decide +kernel
theorem dX2_pourInto_38 : decode cX2_pourInto 38 = .ok (.iload 5, 2) := by decide +kernel
theorem dX2_pourInto_40 : decode cX2_pourInto 40 = .ok (.ineg, 1) := by decide +kernel
theorem dX2_pourInto_41 : decode cX2_pourInto 41 = .ok (.invokevirtual 32, 3) := by decide +kernel
theorem dX2_pourInto_44 : decode cX2_pourInto 44 = .ok (.iinc 4 1, 3) := by decide +kernel
theorem dX2_pourInto_47 : decode cX2_pourInto 47 = .ok (.goto (-37), 3) := by decide +kernel
theorem dX2_pourInto_50 : decode cX2_pourInto 50 = .ok (.iinc 3 1, 3) := by decide +kernel
theorem dX2_pourInto_53 : decode cX2_pourInto 53 = .ok (.goto (-51), 3) := by decide +kernel
theorem dX2_pourInto_56 : decode cX2_pourInto 56 = .ok (.return_, 1) := by decide +kernel
set_option maxRecDepth 20000 in
theorem ggX2_turnOver_X2_many : GoodIn wsX2_turnOver wsX2_many := goodIn_r _ [5, 6, 11] (by decide +kernel) (by decide +kernel)
set_option maxRecDepth 20000 in
theorem gX2_turnOver_X2_many : GoodIn wsX2_turnOver (wsV RX2 21 RX2 yX2_many wsX2_many) := goodIn_app (goodIn_of _ (by decide +kernel)) ggX2_turnOver_X2_many
set_option maxRecDepth 20000 in
theorem ggX2_turnOver_X2_put : GoodIn wsX2_turnOver wsX2_put := goodIn_r _ [10, 6, 11] (by decide +kernel) (by decide +kernel)
set_option maxRecDepth 20000 in
theorem gX2_turnOver_X2_put : GoodIn wsX2_turnOver (wsV RX2 32 RX2 yX2_put wsX2_put) := goodIn_app (goodIn_of _ (by decide +kernel)) ggX2_turnOver_X2_put
theorem dX2_turnOver_0 : decode cX2_turnOver 0 = .ok (.iconst 0, 1) := by decide +kernel
theorem dX2_turnOver_1 : decode cX2_turnOver 1 = .ok (.istore_n 1, 1) := by decide +kernel
theorem dX2_turnOver_2 : decode cX2_turnOver 2 = .ok (.iload_n 1, 1) := by decide +kernel
theorem dX2_turnOver_3 : decode cX2_turnOver 3 = .ok (.bipush 11, 2) := by decide +kernel
theorem dX2_turnOver_5 : decode cX2_turnOver 5 = .ok (.iload_n 1, 1) := by decide +kernel
theorem dX2_turnOver_6 : decode cX2_turnOver 6 = .ok (.isub, 1) := by decide +kernel
theorem dX2_turnOver_7 : decode cX2_turnOver 7 = .ok (.if_icmp .ge 57, 3) := by decide +kernel
theorem dX2_turnOver_10 : decode cX2_turnOver 10 = .ok (.iconst 0, 1) := by decide +kernel
theorem dX2_turnOver_11 : decode cX2_turnOver 11 = .ok (.istore_n 2, 1) := by decide +kernel
theorem dX2_turnOver_12 : decode cX2_turnOver 12 = .ok (.iload_n 2, 1) := by decide +kernel
theorem dX2_turnOver_13 : decode cX2_turnOver 13 = .ok (.iconst 4, 1) := by decide +kernel
theorem dX2_turnOver_14 : decode cX2_turnOver 14 = .ok (.if_icmp .ge 44, 3) := by decide +kernel
theorem dX2_turnOver_17 : decode cX2_turnOver 17 = .ok (.aload_n 0, 1) := by decide +kernel
theorem dX2_turnOver_18 : decode cX2_turnOver 18 = .ok (.bipush 11, 2) := by decide +kernel
theorem dX2_turnOver_20 : decode cX2_turnOver 20 = .ok (.iload_n 1, 1) := by decide +kernel
theorem dX2_turnOver_21 : decode cX2_turnOver 21 = .ok (.isub, 1) := by decide +kernel
theorem dX2_turnOver_22 : decode cX2_turnOver 22 = .ok (.iload_n 2, 1) := by decide +kernel
theorem dX2_turnOver_23 : decode cX2_turnOver 23 = .ok (.invokevirtual 21, 3) := by decide +kernel
theorem dX2_turnOver_26 : decode cX2_turnOver 26 = .ok (.aload_n 0, 1) := by decide +kernel
theorem dX2_turnOver_27 : decode cX2_turnOver 27 = .ok (.iload_n 1, 1) := by decide +kernel
theorem dX2_turnOver_28 : decode cX2_turnOver 28 = .ok (.iload_n 2, 1) := by decide +kernel
theorem dX2_turnOver_29 : decode cX2_turnOver 29 = .ok (.invokevirtual 21, 3) := by decide +kernel
theorem dX2_turnOver_32 : decode cX2_turnOver 32 = .ok (.isub, 1) := by decide +kernel
theorem dX2_turnOver_33 : decode cX2_turnOver 33 = .ok (.istore_n 3, 1) := by decide +kernel
theorem dX2_turnOver_34 : decode cX2_turnOver 34 = .ok (.aload_n 0, 1) := by decide +kernel
theorem dX2_turnOver_35 : decode cX2_turnOver 35 = .ok (.iload_n 1, 1) := by decide +kernel
theorem dX2_turnOver_36 : decode cX2_turnOver 36 = .ok (.iload_n 2, 1) := by decide +kernel
theorem dX2_turnOver_37 : decode cX2_turnOver 37 = .ok (.iload_n 3, 1) := by decide +kernel
theorem dX2_turnOver_38 : decode cX2_turnOver 38 = .ok (.invokevirtual 32, 3) := by decide +kernel
theorem dX2_turnOver_41 : decode cX2_turnOver 41 = .ok (.aload_n 0, 1) := by decide +kernel
theorem dX2_turnOver_42 : decode cX2_turnOver 42 = .ok (.bipush 11, 2) := by decide +kernel
theorem dX2_turnOver_44 : decode cX2_turnOver 44 = .ok (.iload_n 1, 1) := by decide +kernel
theorem dX2_turnOver_45 : decode cX2_turnOver 45 = .ok (.isub, 1) := by decide +kernel
theorem dX2_turnOver_46 : decode cX2_turnOver 46 = .ok (.iload_n 2, 1) := by decide +kernel
theorem dX2_turnOver_47 : decode cX2_turnOver 47 = .ok (.iload_n 3, 1) := by decide +kernel
theorem dX2_turnOver_48 : decode cX2_turnOver 48 = .ok (.ineg, 1) := by decide +kernel
theorem dX2_turnOver_49 : decode cX2_turnOver 49 = .ok (.invokevirtual 32, 3) := by decide +kernel
theorem dX2_turnOver_52 : decode cX2_turnOver 52 = .ok (.iinc 2 1, 3) := by decide +kernel
theorem dX2_turnOver_55 : decode cX2_turnOver 55 = .ok (.goto (-43), 3) := by decide +kernel
theorem dX2_turnOver_58 : decode cX2_turnOver 58 = .ok (.iinc 1 1, 3) := by decide +kernel
theorem dX2_turnOver_61 : decode cX2_turnOver 61 = .ok (.goto (-59), 3) := by decide +kernel
theorem dX2_turnOver_64 : decode cX2_turnOver 64 = .ok (.return_, 1) := by decide +kernel
set_option maxRecDepth 20000 in
theorem ggX2_goOn_X2_goOneStep : GoodIn wsX2_goOn wsX2_goOneStep := goodIn_r _ [5, 6, 7, 8, 4, 9, 10, 11, 12, 13, 14, 15, 16, 17, 18, 19, 20, 21, 22, 23, 24, 25, 26, 27, 28, 29, 30, 31, 32, 33, 34, 35, 36, 37, 38, 39, 40, 41, 42, 43, 44, 45, 46, 47, 48, 49, 50] (by decide +kernel) (by decide +kernel)
set_option maxRecDepth 20000 in
theorem gX2_goOn_X2_goOneStep : GoodIn wsX2_goOn (wsV RX2 36 RX2 yX2_goOneStep wsX2_goOneStep) := goodIn_app (goodIn_of _ (by decide +kernel)) ggX2_goOn_X2_goOneStep
theorem dX2_goOn_0 : decode cX2_goOn 0 = .ok (.iconst 0, 1) := by decide +kernel
theorem dX2_goOn_1 : decode cX2_goOn 1 = .ok (.istore_n 3, 1) := by decide +kernel
theorem dX2_goOn_2 : decode cX2_goOn 2 = .ok (.iconst 0, 1) := by decide +kernel
theorem dX2_goOn_3 : decode cX2_goOn 3 = .ok (.istore 4, 2) := by decide +kernel
theorem dX2_goOn_5 : decode cX2_goOn 5 = .ok (.iload 4, 2) := by decide +kernel
theorem dX2_goOn_7 : decode cX2_goOn 7 = .ok (.iload_n 1, 1) := by decide +kernel
theorem dX2_goOn_8 : decode cX2_goOn 8 = .ok (.if_icmp .ge 28, 3) := by decide +kernel
theorem dX2_goOn_11 : decode cX2_goOn 11 = .ok (.aload_n 0, 1) := by decide +kernel
theorem dX2_goOn_12 : decode cX2_goOn 12 = .ok (.aload_n 2, 1) := by decide +kernel
theorem dX2_goOn_13 : decode cX2_goOn 13 = .ok (.invokevirtual 36, 3) := by decide +kernel
theorem dX2_goOn_16 : decode cX2_goOn 16 = .ok (.istore 5, 2) := by decide +kernel
theorem dX2_goOn_18 : decode cX2_goOn 18 = .ok (.iload 5, 2) := by decide +kernel
theorem dX2_goOn_20 : decode cX2_goOn 20 = .ok (.ifCond .ne 5, 3) := by decide +kernel
theorem dX2_goOn_23 : decode cX2_goOn 23 = .ok (.iload_n 3, 1) := by decide +kernel
theorem dX2_goOn_24 : decode cX2_goOn 24 = .ok (.ireturn, 1) := by decide +kernel
theorem dX2_goOn_25 : decode cX2_goOn 25 = .ok (.iload_n 3, 1) := by decide +kernel
theorem dX2_goOn_26 : decode cX2_goOn 26 = .ok (.iload 5, 2) := by decide +kernel
theorem dX2_goOn_28 : decode cX2_goOn 28 = .ok (.iadd, 1) := by decide +kernel
theorem dX2_goOn_29 : decode cX2_goOn 29 = .ok (.istore_n 3, 1) := by decide +kernel
theorem dX2_goOn_30 : decode cX2_goOn 30 = .ok (.iinc 4 1, 3) := by decide +kernel
theorem dX2_goOn_33 : decode cX2_goOn 33 = .ok (.goto (-28), 3) := by decide +kernel
theorem dX2_goOn_36 : decode cX2_goOn 36 = .ok (.iload_n 3, 1) := by decide +kernel
theorem dX2_goOn_37 : decode cX2_goOn 37 = .ok (.ireturn, 1) := by decide +kernel
set_option maxRecDepth 20000 in
theorem ggX2_goOneStep_X2_fallFrom : GoodIn wsX2_goOneStep wsX2_fallFrom := goodIn_r _ [5, 6, 7, 8, 9, 10, 11, 12, 4, 13, 14, 15, 16, 17, 18, 19, 20, 21, 22, 23, 24, 25, 26, 27, 28, 29, 30, 31, 32, 33, 34, 35, 36, 37, 38, 39, 40, 41, 42, 43, 44, 45, 46] (by decide +kernel) (by decide +kernel)
set_option maxRecDepth 20000 in
theorem gX2_goOneStep_X2_fallFrom : GoodIn wsX2_goOneStep (wsV RX2 40 RX2 yX2_fallFrom wsX2_fallFrom) := goodIn_app (goodIn_of _ (by decide +kernel)) ggX2_goOneStep_X2_fallFrom
theorem dX2_goOneStep_0 : decode cX2_goOneStep 0 = .ok (.iconst 0, 1) := by decide +kernel
theorem dX2_goOneStep_1 : decode cX2_goOneStep 1 = .ok (.istore_n 2, 1) := by decide +kernel
theorem dX2_goOneStep_2 : decode cX2_goOneStep 2 = .ok (.bipush 10, 2) := by decide +kernel
theorem dX2_goOneStep_4 : decode cX2_goOneStep 4 = .ok (.istore_n 3, 1) := by decide +kernel
theorem dX2_goOneStep_5 : decode cX2_goOneStep 5 = .ok (.iload_n 3, 1) := by decide +kernel
theorem dX2_goOneStep_6 : decode cX2_goOneStep 6 = .ok (.ifCond .lt 18, 3) := by decide +kernel
theorem dX2_goOneStep_9 : decode cX2_goOneStep 9 = .ok (.iload_n 2, 1) := by decide +kernel
theorem dX2_goOneStep_10 : decode cX2_goOneStep 10 = .ok (.aload_n 0, 1) := by decide +kernel
theorem dX2_goOneStep_11 : decode cX2_goOneStep 11 = .ok (.iload_n 3, 1) := by decide +kernel
theorem dX2_goOneStep_12 : decode cX2_goOneStep 12 = .ok (.aload_n 1, 1) := by decide +kernel
theorem dX2_goOneStep_13 : decode cX2_goOneStep 13 = .ok (.invokevirtual 40, 3) := by decide +kernel
theorem dX2_goOneStep_16 : decode cX2_goOneStep 16 = .ok (.iadd, 1) := by decide +kernel
theorem dX2_goOneStep_17 : decode cX2_goOneStep 17 = .ok (.istore_n 2, 1) := by decide +kernel
theorem dX2_goOneStep_18 : decode cX2_goOneStep 18 = .ok (.iinc 3 (-1), 3) := by decide +kernel
theorem dX2_goOneStep_21 : decode cX2_goOneStep 21 = .ok (.goto (-16), 3) := by decide +kernel
theorem dX2_goOneStep_24 : decode cX2_goOneStep 24 = .ok (.iload_n 2, 1) := by decide +kernel
theorem dX2_goOneStep_25 : decode cX2_goOneStep 25 = .ok (.ireturn, 1) := by decide +kernel
set_option maxRecDepth 20000 in
theorem ggX2_fallFrom_X2_allIn : GoodIn wsX2_fallFrom wsX2_allIn := goodIn_r _ [9, 10, 11, 12, 8, 13, 14, 40] (by decide +kernel) (by decide +kernel)
set_option maxRecDepth 20000 in
theorem gX2_fallFrom_X2_allIn : GoodIn wsX2_fallFrom (wsV RX2 25 RX2 yX2_allIn wsX2_allIn) := goodIn_app (goodIn_of _ (by decide +kernel)) ggX2_fallFrom_X2_allIn
set_option maxRecDepth 20000 in
theorem ggX2_fallFrom_X3_factorOf : GoodIn wsX2_fallFrom wsX3_factorOf := goodIn_r _ [19, 20, 21, 22, 23, 3, 24, 41, 42] (by decide +kernel) (by decide +kernel)
set_option maxRecDepth 20000 in
theorem gX2_fallFrom_X3_factorOf : GoodIn wsX2_fallFrom (wsV RX2 44 RX3 yX3_factorOf wsX3_factorOf) := goodIn_app (goodIn_of _ (by decide +kernel)) ggX2_fallFrom_X3_factorOf
set_option maxRecDepth 20000 in
theorem ggX2_fallFrom_X3_roomOver : GoodIn wsX2_fallFrom wsX3_roomOver := goodIn_r _ [28, 21, 22, 23, 3, 24, 41, 42] (by decide +kernel) (by decide +kernel)
set_option maxRecDepth 20000 in
theorem gX2_fallFrom_X3_roomOver : GoodIn wsX2_fallFrom (wsV RX2 49 RX3 yX3_roomOver wsX3_roomOver) := goodIn_app (goodIn_of _ (by decide +kernel)) ggX2_fallFrom_X3_roomOver
set_option maxRecDepth 20000 in
theorem ggX2_fallFrom_X2_many : GoodIn wsX2_fallFrom wsX2_many := goodIn_r _ [13, 14, 40] (by decide +kernel) (by decide +kernel)
set_option maxRecDepth 20000 in
theorem gX2_fallFrom_X2_many : GoodIn wsX2_fallFrom (wsV RX2 21 RX2 yX2_many wsX2_many) := goodIn_app (goodIn_of _ (by decide +kernel)) ggX2_fallFrom_X2_many
set_option maxRecDepth 20000 in
theorem ggX2_fallFrom_X3_wantingToFall : GoodIn wsX2_fallFrom wsX3_wantingToFall := goodIn_r _ [32, 33, 34, 21, 35, 2, 3, 4, 41, 42] (by decide +kernel) (by decide +kernel)
set_option maxRecDepth 20000 in
theorem gX2_fallFrom_X3_wantingToFall : GoodIn wsX2_fallFrom (wsV RX2 52 RX3 yX3_wantingToFall wsX3_wantingToFall) := goodIn_app (goodIn_of _ (by decide +kernel)) ggX2_fallFrom_X3_wantingToFall
set_option maxRecDepth 20000 in
theorem ggX2_fallFrom_X2_put : GoodIn wsX2_fallFrom wsX2_put := goodIn_r _ [39, 14, 40] (by decide +kernel) (by decide +kernel)
set_option maxRecDepth 20000 in
theorem gX2_fallFrom_X2_put : GoodIn wsX2_fallFrom (wsV RX2 32 RX2 yX2_put wsX2_put) := goodIn_app (goodIn_of _ (by decide +kernel)) ggX2_fallFrom_X2_put
theorem dX2_fallFrom_0 : decode cX2_fallFrom 0 = .ok (.aload_n 2, 1) := by decide +kernel
theorem dX2_fallFrom_1 : decode cX2_fallFrom 1 = .ok (.aload_n 0, 1) := by decide +kernel
theorem dX2_fallFrom_2 : decode cX2_fallFrom 2 = .ok (.iload_n 1, 1) := by decide +kernel
theorem dX2_fallFrom_3 : decode cX2_fallFrom 3 = .ok (.invokevirtual 25, 3) := by decide +kernel
theorem dX2_fallFrom_6 : decode cX2_fallFrom 6 = .ok (.invokevirtual 44, 3) := by decide +kernel
theorem dX2_fallFrom_9 : decode cX2_fallFrom 9 = .ok (.istore_n 3, 1) := by decide +kernel
theorem dX2_fallFrom_10 : decode cX2_fallFrom 10 = .ok (.aload_n 2, 1) := by decide +kernel
theorem dX2_fallFrom_11 : decode cX2_fallFrom 11 = .ok (.aload_n 0, 1) := by decide +kernel
theorem dX2_fallFrom_12 : decode cX2_fallFrom 12 = .ok (.iload_n 1, 1) := by decide +kernel
theorem dX2_fallFrom_13 : decode cX2_fallFrom 13 = .ok (.iconst 1, 1) := by decide +kernel
theorem dX2_fallFrom_14 : decode cX2_fallFrom 14 = .ok (.iadd, 1) := by decide +kernel
theorem dX2_fallFrom_15 : decode cX2_fallFrom 15 = .ok (.invokevirtual 25, 3) := by decide +kernel
theorem dX2_fallFrom_18 : decode cX2_fallFrom 18 = .ok (.invokevirtual 49, 3) := by decide +kernel
theorem dX2_fallFrom_21 : decode cX2_fallFrom 21 = .ok (.istore 4, 2) := by decide +kernel
theorem dX2_fallFrom_23 : decode cX2_fallFrom 23 = .ok (.iconst 0, 1) := by decide +kernel
theorem dX2_fallFrom_24 : decode cX2_fallFrom 24 = .ok (.istore 5, 2) := by decide +kernel
theorem dX2_fallFrom_26 : decode cX2_fallFrom 26 = .ok (.iconst 0, 1) := by decide +kernel
theorem dX2_fallFrom_27 : decode cX2_fallFrom 27 = .ok (.istore 6, 2) := by decide +kernel
theorem dX2_fallFrom_29 : decode cX2_fallFrom 29 = .ok (.iload 6, 2) := by decide +kernel
theorem dX2_fallFrom_31 : decode cX2_fallFrom 31 = .ok (.iconst 4, 1) := by decide +kernel
theorem dX2_fallFrom_32 : decode cX2_fallFrom 32 = .ok (.if_icmp .ge 65, 3) := by decide +kernel
theorem dX2_fallFrom_35 : decode cX2_fallFrom 35 = .ok (.aload_n 2, 1) := by decide +kernel
theorem dX2_fallFrom_36 : decode cX2_fallFrom 36 = .ok (.iload 6, 2) := by decide +kernel
theorem dX2_fallFrom_38 : decode cX2_fallFrom 38 = .ok (.aload_n 0, 1) := by decide +kernel
theorem dX2_fallFrom_39 : decode cX2_fallFrom 39 = .ok (.iload_n 1, 1) := by decide +kernel
theorem dX2_fallFrom_40 : decode cX2_fallFrom 40 = .ok (.iload 6, 2) := by decide +kernel
theorem dX2_fallFrom_42 : decode cX2_fallFrom 42 = .ok (.invokevirtual 21, 3) := by decide +kernel
theorem dX2_fallFrom_45 : decode cX2_fallFrom 45 = .ok (.iload_n 3, 1) := by decide +kernel
theorem dX2_fallFrom_46 : decode cX2_fallFrom 46 = .ok (.invokevirtual 52, 3) := by decide +kernel
theorem dX2_fallFrom_49 : decode cX2_fallFrom 49 = .ok (.istore 7, 2) := by decide +kernel
theorem dX2_fallFrom_51 : decode cX2_fallFrom 51 = .ok (.iload 7, 2) := by decide +kernel
theorem dX2_fallFrom_53 : decode cX2_fallFrom 53 = .ok (.iload 4, 2) := by decide +kernel
theorem dX2_fallFrom_55 : decode cX2_fallFrom 55 = .ok (.iload 5, 2) := by decide +kernel
theorem dX2_fallFrom_57 : decode cX2_fallFrom 57 = .ok (.isub, 1) := by decide +kernel
theorem dX2_fallFrom_58 : decode cX2_fallFrom 58 = .ok (.invokestatic 56, 3) := by decide +kernel
theorem dX2_fallFrom_61 : decode cX2_fallFrom 61 = .ok (.istore 8, 2) := by decide +kernel
theorem dX2_fallFrom_63 : decode cX2_fallFrom 63 = .ok (.aload_n 0, 1) := by decide +kernel
theorem dX2_fallFrom_64 : decode cX2_fallFrom 64 = .ok (.iload_n 1, 1) := by decide +kernel
theorem dX2_fallFrom_65 : decode cX2_fallFrom 65 = .ok (.iload 6, 2) := by decide +kernel
theorem dX2_fallFrom_67 : decode cX2_fallFrom 67 = .ok (.iload 8, 2) := by decide +kernel
theorem dX2_fallFrom_69 : decode cX2_fallFrom 69 = .ok (.ineg, 1) := by decide +kernel
theorem dX2_fallFrom_70 : decode cX2_fallFrom 70 = .ok (.invokevirtual 32, 3) := by decide +kernel
theorem dX2_fallFrom_73 : decode cX2_fallFrom 73 = .ok (.aload_n 0, 1) := by decide +kernel
theorem dX2_fallFrom_74 : decode cX2_fallFrom 74 = .ok (.iload_n 1, 1) := by decide +kernel
theorem dX2_fallFrom_75 : decode cX2_fallFrom 75 = .ok (.iconst 1, 1) := by decide +kernel
theorem dX2_fallFrom_76 : decode cX2_fallFrom 76 = .ok (.iadd, 1) := by decide +kernel
theorem dX2_fallFrom_77 : decode cX2_fallFrom 77 = .ok (.iload 6, 2) := by decide +kernel
theorem dX2_fallFrom_79 : decode cX2_fallFrom 79 = .ok (.iload 8, 2) := by decide +kernel
theorem dX2_fallFrom_81 : decode cX2_fallFrom 81 = .ok (.invokevirtual 32, 3) := by decide +kernel
theorem dX2_fallFrom_84 : decode cX2_fallFrom 84 = .ok (.iload 5, 2) := by decide +kernel
theorem dX2_fallFrom_86 : decode cX2_fallFrom 86 = .ok (.iload 8, 2) := by decide +kernel
theorem dX2_fallFrom_88 : decode cX2_fallFrom 88 = .ok (.iadd, 1) := by decide +kernel
theorem dX2_fallFrom_89 : decode cX2_fallFrom 89 = .ok (.istore 5, 2) := by decide +kernel
theorem dX2_fallFrom_91 : decode cX2_fallFrom 91 = .ok (.iinc 6 1, 3) := by decide +kernel
theorem dX2_fallFrom_94 : decode cX2_fallFrom 94 = .ok (.goto (-65), 3) := by decide +kernel
theorem dX2_fallFrom_97 : decode cX2_fallFrom 97 = .ok (.iload 5, 2) := by decide +kernel
theorem dX2_fallFrom_99 : decode cX2_fallFrom 99 = .ok (.ireturn, 1) := by decide +kernel
set_option maxRecDepth 20000 in
theorem ggX2_reasonToStay_X2_many : GoodIn wsX2_reasonToStay wsX2_many := goodIn_r _ [5, 6, 35] (by decide +kernel) (by decide +kernel)
set_option maxRecDepth 20000 in
theorem gX2_reasonToStay_X2_many : GoodIn wsX2_reasonToStay (wsV RX2 21 RX2 yX2_many wsX2_many) := goodIn_app (goodIn_of _ (by decide +kernel)) ggX2_reasonToStay_X2_many
set_option maxRecDepth 20000 in
theorem ggX2_reasonToStay_X2_allIn : GoodIn wsX2_reasonToStay wsX2_allIn := goodIn_r _ [10, 1, 2, 3, 4, 5, 6, 35] (by decide +kernel) (by decide +kernel)
set_option maxRecDepth 20000 in
theorem gX2_reasonToStay_X2_allIn : GoodIn wsX2_reasonToStay (wsV RX2 25 RX2 yX2_allIn wsX2_allIn) := goodIn_app (goodIn_of _ (by decide +kernel)) ggX2_reasonToStay_X2_allIn
set_option maxRecDepth 20000 in
theorem ggX2_reasonToStay_X3_roomOver : GoodIn wsX2_reasonToStay wsX3_roomOver := goodIn_r _ [15, 16, 17, 18, 19, 20, 36, 37] (by decide +kernel) (by decide +kernel)
set_option maxRecDepth 20000 in
theorem gX2_reasonToStay_X3_roomOver : GoodIn wsX2_reasonToStay (wsV RX2 49 RX3 yX3_roomOver wsX3_roomOver) := goodIn_app (goodIn_of _ (by decide +kernel)) ggX2_reasonToStay_X3_roomOver
set_option maxRecDepth 20000 in
theorem ggX2_reasonToStay_X3_factorOf : GoodIn wsX2_reasonToStay wsX3_factorOf := goodIn_r _ [24, 25, 16, 17, 18, 19, 20, 36, 37] (by decide +kernel) (by decide +kernel)
set_option maxRecDepth 20000 in
theorem gX2_reasonToStay_X3_factorOf : GoodIn wsX2_reasonToStay (wsV RX2 44 RX3 yX3_factorOf wsX3_factorOf) := goodIn_app (goodIn_of _ (by decide +kernel)) ggX2_reasonToStay_X3_factorOf
set_option maxRecDepth 20000 in
theorem ggX2_reasonToStay_X3_wantingToFall : GoodIn wsX2_reasonToStay wsX3_wantingToFall := goodIn_r _ [29, 30, 31, 16, 32, 33, 19, 34, 36, 37] (by decide +kernel) (by decide +kernel)
set_option maxRecDepth 20000 in
theorem gX2_reasonToStay_X3_wantingToFall : GoodIn wsX2_reasonToStay (wsV RX2 52 RX3 yX3_wantingToFall wsX3_wantingToFall) := goodIn_app (goodIn_of _ (by decide +kernel)) ggX2_reasonToStay_X3_wantingToFall
theorem dX2_reasonToStay_0 : decode cX2_reasonToStay 0 = .ok (.iload_n 1, 1) := by decide +kernel
theorem dX2_reasonToStay_1 : decode cX2_reasonToStay 1 = .ok (.bipush 11, 2) := by decide +kernel
theorem dX2_reasonToStay_3 : decode cX2_reasonToStay 3 = .ok (.if_icmp .ne 5, 3) := by decide +kernel
theorem dX2_reasonToStay_6 : decode cX2_reasonToStay 6 = .ok (.iconst 1, 1) := by decide +kernel
theorem dX2_reasonToStay_7 : decode cX2_reasonToStay 7 = .ok (.ireturn, 1) := by decide +kernel
theorem dX2_reasonToStay_8 : decode cX2_reasonToStay 8 = .ok (.aload_n 0, 1) := by decide +kernel
theorem dX2_reasonToStay_9 : decode cX2_reasonToStay 9 = .ok (.iload_n 1, 1) := by decide +kernel
theorem dX2_reasonToStay_10 : decode cX2_reasonToStay 10 = .ok (.iload_n 2, 1) := by decide +kernel
theorem dX2_reasonToStay_11 : decode cX2_reasonToStay 11 = .ok (.invokevirtual 21, 3) := by decide +kernel
theorem dX2_reasonToStay_14 : decode cX2_reasonToStay 14 = .ok (.istore 4, 2) := by decide +kernel
theorem dX2_reasonToStay_16 : decode cX2_reasonToStay 16 = .ok (.iload 4, 2) := by decide +kernel
theorem dX2_reasonToStay_18 : decode cX2_reasonToStay 18 = .ok (.ifCond .ne 5, 3) := by decide +kernel
theorem dX2_reasonToStay_21 : decode cX2_reasonToStay 21 = .ok (.iconst 2, 1) := by decide +kernel
theorem dX2_reasonToStay_22 : decode cX2_reasonToStay 22 = .ok (.ireturn, 1) := by decide +kernel
theorem dX2_reasonToStay_23 : decode cX2_reasonToStay 23 = .ok (.aload_n 3, 1) := by decide +kernel
theorem dX2_reasonToStay_24 : decode cX2_reasonToStay 24 = .ok (.aload_n 0, 1) := by decide +kernel
theorem dX2_reasonToStay_25 : decode cX2_reasonToStay 25 = .ok (.iload_n 1, 1) := by decide +kernel
theorem dX2_reasonToStay_26 : decode cX2_reasonToStay 26 = .ok (.iconst 1, 1) := by decide +kernel
theorem dX2_reasonToStay_27 : decode cX2_reasonToStay 27 = .ok (.iadd, 1) := by decide +kernel
theorem dX2_reasonToStay_28 : decode cX2_reasonToStay 28 = .ok (.invokevirtual 25, 3) := by decide +kernel
theorem dX2_reasonToStay_31 : decode cX2_reasonToStay 31 = .ok (.invokevirtual 49, 3) := by decide +kernel
theorem dX2_reasonToStay_34 : decode cX2_reasonToStay 34 = .ok (.ifCond .ne 5, 3) := by decide +kernel
theorem dX2_reasonToStay_37 : decode cX2_reasonToStay 37 = .ok (.iconst 3, 1) := by decide +kernel
theorem dX2_reasonToStay_38 : decode cX2_reasonToStay 38 = .ok (.ireturn, 1) := by decide +kernel
theorem dX2_reasonToStay_39 : decode cX2_reasonToStay 39 = .ok (.aload_n 3, 1) := by decide +kernel
theorem dX2_reasonToStay_40 : decode cX2_reasonToStay 40 = .ok (.aload_n 0, 1) := by decide +kernel
theorem dX2_reasonToStay_41 : decode cX2_reasonToStay 41 = .ok (.iload_n 1, 1) := by decide +kernel
theorem dX2_reasonToStay_42 : decode cX2_reasonToStay 42 = .ok (.invokevirtual 25, 3) := by decide +kernel
theorem dX2_reasonToStay_45 : decode cX2_reasonToStay 45 = .ok (.invokevirtual 44, 3) := by decide +kernel
theorem dX2_reasonToStay_48 : decode cX2_reasonToStay 48 = .ok (.istore 5, 2) := by decide +kernel
theorem dX2_reasonToStay_50 : decode cX2_reasonToStay 50 = .ok (.aload_n 3, 1) := by decide +kernel
theorem dX2_reasonToStay_51 : decode cX2_reasonToStay 51 = .ok (.iload_n 2, 1) := by decide +kernel
theorem dX2_reasonToStay_52 : decode cX2_reasonToStay 52 = .ok (.iload 4, 2) := by decide +kernel
theorem dX2_reasonToStay_54 : decode cX2_reasonToStay 54 = .ok (.iload 5, 2) := by decide +kernel
theorem dX2_reasonToStay_56 : decode cX2_reasonToStay 56 = .ok (.invokevirtual 52, 3) := by decide +kernel
theorem dX2_reasonToStay_59 : decode cX2_reasonToStay 59 = .ok (.ifCond .ne 7, 3) := by decide +kernel
theorem dX2_reasonToStay_62 : decode cX2_reasonToStay 62 = .ok (.iconst 4, 1) := by decide +kernel
theorem dX2_reasonToStay_63 : decode cX2_reasonToStay 63 = .ok (.goto 4, 3) := by decide +kernel
theorem dX2_reasonToStay_66 : decode cX2_reasonToStay 66 = .ok (.iconst 0, 1) := by decide +kernel
theorem dX2_reasonToStay_67 : decode cX2_reasonToStay 67 = .ok (.ireturn, 1) := by decide +kernel
set_option maxRecDepth 20000 in
theorem ggX2_isAtRest_X2_reasonToStay : GoodIn wsX2_isAtRest wsX2_reasonToStay := goodIn_r _ [5, 6, 7, 8, 4, 9, 10, 11, 12, 13, 14, 15, 16, 17, 18, 19, 20, 21, 22, 23, 24, 25, 26, 27, 28, 29, 30, 31, 32, 33, 34, 35, 36, 37, 38, 39, 40, 41] (by decide +kernel) (by decide +kernel)
set_option maxRecDepth 20000 in
theorem gX2_isAtRest_X2_reasonToStay : GoodIn wsX2_isAtRest (wsV RX2 61 RX2 yX2_reasonToStay wsX2_reasonToStay) := goodIn_app (goodIn_of _ (by decide +kernel)) ggX2_isAtRest_X2_reasonToStay
theorem dX2_isAtRest_0 : decode cX2_isAtRest 0 = .ok (.iconst 0, 1) := by decide +kernel
theorem dX2_isAtRest_1 : decode cX2_isAtRest 1 = .ok (.istore_n 2, 1) := by decide +kernel
theorem dX2_isAtRest_2 : decode cX2_isAtRest 2 = .ok (.iload_n 2, 1) := by decide +kernel
theorem dX2_isAtRest_3 : decode cX2_isAtRest 3 = .ok (.bipush 11, 2) := by decide +kernel
theorem dX2_isAtRest_5 : decode cX2_isAtRest 5 = .ok (.if_icmp .ge 34, 3) := by decide +kernel
theorem dX2_isAtRest_8 : decode cX2_isAtRest 8 = .ok (.iconst 0, 1) := by decide +kernel
theorem dX2_isAtRest_9 : decode cX2_isAtRest 9 = .ok (.istore_n 3, 1) := by decide +kernel
theorem dX2_isAtRest_10 : decode cX2_isAtRest 10 = .ok (.iload_n 3, 1) := by decide +kernel
theorem dX2_isAtRest_11 : decode cX2_isAtRest 11 = .ok (.iconst 4, 1) := by decide +kernel
theorem dX2_isAtRest_12 : decode cX2_isAtRest 12 = .ok (.if_icmp .ge 21, 3) := by decide +kernel
theorem dX2_isAtRest_15 : decode cX2_isAtRest 15 = .ok (.aload_n 0, 1) := by decide +kernel
theorem dX2_isAtRest_16 : decode cX2_isAtRest 16 = .ok (.iload_n 2, 1) := by decide +kernel
theorem dX2_isAtRest_17 : decode cX2_isAtRest 17 = .ok (.iload_n 3, 1) := by decide +kernel
theorem dX2_isAtRest_18 : decode cX2_isAtRest 18 = .ok (.aload_n 1, 1) := by decide +kernel
theorem dX2_isAtRest_19 : decode cX2_isAtRest 19 = .ok (.invokevirtual 61, 3) := by decide +kernel
theorem dX2_isAtRest_22 : decode cX2_isAtRest 22 = .ok (.ifCond .ne 5, 3) := by decide +kernel
theorem dX2_isAtRest_25 : decode cX2_isAtRest 25 = .ok (.iconst 0, 1) := by decide +kernel
theorem dX2_isAtRest_26 : decode cX2_isAtRest 26 = .ok (.ireturn, 1) := by decide +kernel
theorem dX2_isAtRest_27 : decode cX2_isAtRest 27 = .ok (.iinc 3 1, 3) := by decide +kernel
theorem dX2_isAtRest_30 : decode cX2_isAtRest 30 = .ok (.goto (-20), 3) := by decide +kernel
theorem dX2_isAtRest_33 : decode cX2_isAtRest 33 = .ok (.iinc 2 1, 3) := by decide +kernel
theorem dX2_isAtRest_36 : decode cX2_isAtRest 36 = .ok (.goto (-34), 3) := by decide +kernel
theorem dX2_isAtRest_39 : decode cX2_isAtRest 39 = .ok (.iconst 1, 1) := by decide +kernel
theorem dX2_isAtRest_40 : decode cX2_isAtRest 40 = .ok (.ireturn, 1) := by decide +kernel
set_option maxRecDepth 20000 in
theorem ggX2_sliceProperty_X2_allIn : GoodIn wsX2_sliceProperty wsX2_allIn := goodIn_r _ [5, 6, 7, 8, 4, 9, 10, 38] (by decide +kernel) (by decide +kernel)
set_option maxRecDepth 20000 in
theorem gX2_sliceProperty_X2_allIn : GoodIn wsX2_sliceProperty (wsV RX2 25 RX2 yX2_allIn wsX2_allIn) := goodIn_app (goodIn_of _ (by decide +kernel)) ggX2_sliceProperty_X2_allIn
set_option maxRecDepth 20000 in
theorem ggX2_sliceProperty_X3_isPacked : GoodIn wsX2_sliceProperty wsX3_isPacked := goodIn_r _ [15, 16, 39, 40] (by decide +kernel) (by decide +kernel)
set_option maxRecDepth 20000 in
theorem gX2_sliceProperty_X3_isPacked : GoodIn wsX2_sliceProperty (wsV RX2 65 RX3 yX3_isPacked wsX3_isPacked) := goodIn_app (goodIn_of _ (by decide +kernel)) ggX2_sliceProperty_X3_isPacked
set_option maxRecDepth 20000 in
theorem ggX2_sliceProperty_X3_isClear : GoodIn wsX2_sliceProperty wsX3_isClear := goodIn_r _ [20, 16, 39, 40] (by decide +kernel) (by decide +kernel)
set_option maxRecDepth 20000 in
theorem gX2_sliceProperty_X3_isClear : GoodIn wsX2_sliceProperty (wsV RX2 69 RX3 yX3_isClear wsX3_isClear) := goodIn_app (goodIn_of _ (by decide +kernel)) ggX2_sliceProperty_X3_isClear
set_option maxRecDepth 20000 in
theorem ggX2_sliceProperty_X2_leadingClass : GoodIn wsX2_sliceProperty wsX2_leadingClass := goodIn_r _ [24, 6, 7, 8, 4, 9, 10, 38] (by decide +kernel) (by decide +kernel)
set_option maxRecDepth 20000 in
theorem gX2_sliceProperty_X2_leadingClass : GoodIn wsX2_sliceProperty (wsV RX2 72 RX2 yX2_leadingClass wsX2_leadingClass) := goodIn_app (goodIn_of _ (by decide +kernel)) ggX2_sliceProperty_X2_leadingClass
set_option maxRecDepth 20000 in
theorem ggX2_sliceProperty_X3_factorOf : GoodIn wsX2_sliceProperty wsX3_factorOf := goodIn_r _ [28, 29, 16, 30, 31, 32, 33, 39, 40] (by decide +kernel) (by decide +kernel)
set_option maxRecDepth 20000 in
theorem gX2_sliceProperty_X3_factorOf : GoodIn wsX2_sliceProperty (wsV RX2 44 RX3 yX3_factorOf wsX3_factorOf) := goodIn_app (goodIn_of _ (by decide +kernel)) ggX2_sliceProperty_X3_factorOf
set_option maxRecDepth 20000 in
theorem ggX2_sliceProperty_X3_roomOver : GoodIn wsX2_sliceProperty wsX3_roomOver := goodIn_r _ [37, 16, 30, 31, 32, 33, 39, 40] (by decide +kernel) (by decide +kernel)
set_option maxRecDepth 20000 in
theorem gX2_sliceProperty_X3_roomOver : GoodIn wsX2_sliceProperty (wsV RX2 49 RX3 yX3_roomOver wsX3_roomOver) := goodIn_app (goodIn_of _ (by decide +kernel)) ggX2_sliceProperty_X3_roomOver
set_option maxRecDepth 20000 in
theorem ggX2_sliceProperty_X2_many : GoodIn wsX2_sliceProperty wsX2_many := goodIn_r _ [9, 10, 38] (by decide +kernel) (by decide +kernel)
set_option maxRecDepth 20000 in
theorem gX2_sliceProperty_X2_many : GoodIn wsX2_sliceProperty (wsV RX2 21 RX2 yX2_many wsX2_many) := goodIn_app (goodIn_of _ (by decide +kernel)) ggX2_sliceProperty_X2_many
theorem dX2_sliceProperty_0 : decode cX2_sliceProperty 0 = .ok (.iload_n 2, 1) := by decide +kernel
theorem dX2_sliceProperty_1 : decode cX2_sliceProperty 1 = .ok (.tableswitch 107 4 9 #[39, 45, 63, 81, 87, 97], 39) := by decide +kernel
theorem dX2_sliceProperty_40 : decode cX2_sliceProperty 40 = .ok (.aload_n 0, 1) := by decide +kernel
theorem dX2_sliceProperty_41 : decode cX2_sliceProperty 41 = .ok (.iload_n 1, 1) := by decide +kernel
theorem dX2_sliceProperty_42 : decode cX2_sliceProperty 42 = .ok (.invokevirtual 25, 3) := by decide +kernel
theorem dX2_sliceProperty_45 : decode cX2_sliceProperty 45 = .ok (.ireturn, 1) := by decide +kernel
theorem dX2_sliceProperty_46 : decode cX2_sliceProperty 46 = .ok (.aload_n 3, 1) := by decide +kernel
theorem dX2_sliceProperty_47 : decode cX2_sliceProperty 47 = .ok (.aload_n 0, 1) := by decide +kernel
theorem dX2_sliceProperty_48 : decode cX2_sliceProperty 48 = .ok (.iload_n 1, 1) := by decide +kernel
theorem dX2_sliceProperty_49 : decode cX2_sliceProperty 49 = .ok (.invokevirtual 25, 3) := by decide +kernel
theorem dX2_sliceProperty_52 : decode cX2_sliceProperty 52 = .ok (.invokevirtual 65, 3) := by decide +kernel
theorem dX2_sliceProperty_55 : decode cX2_sliceProperty 55 = .ok (.ifCond .eq 7, 3) := by decide +kernel
theorem dX2_sliceProperty_58 : decode cX2_sliceProperty 58 = .ok (.iconst 1, 1) := by decide +kernel
theorem dX2_sliceProperty_59 : decode cX2_sliceProperty 59 = .ok (.goto 4, 3) := by decide +kernel
theorem dX2_sliceProperty_62 : decode cX2_sliceProperty 62 = .ok (.iconst 0, 1) := by decide +kernel
theorem dX2_sliceProperty_63 : decode cX2_sliceProperty 63 = .ok (.ireturn, 1) := by decide +kernel
theorem dX2_sliceProperty_64 : decode cX2_sliceProperty 64 = .ok (.aload_n 3, 1) := by decide +kernel
theorem dX2_sliceProperty_65 : decode cX2_sliceProperty 65 = .ok (.aload_n 0, 1) := by decide +kernel
theorem dX2_sliceProperty_66 : decode cX2_sliceProperty 66 = .ok (.iload_n 1, 1) := by decide +kernel
theorem dX2_sliceProperty_67 : decode cX2_sliceProperty 67 = .ok (.invokevirtual 25, 3) := by decide +kernel
theorem dX2_sliceProperty_70 : decode cX2_sliceProperty 70 = .ok (.invokevirtual 69, 3) := by decide +kernel
theorem dX2_sliceProperty_73 : decode cX2_sliceProperty 73 = .ok (.ifCond .eq 7, 3) := by decide +kernel
theorem dX2_sliceProperty_76 : decode cX2_sliceProperty 76 = .ok (.iconst 1, 1) := by decide +kernel
theorem dX2_sliceProperty_77 : decode cX2_sliceProperty 77 = .ok (.goto 4, 3) := by decide +kernel
theorem dX2_sliceProperty_80 : decode cX2_sliceProperty 80 = .ok (.iconst 0, 1) := by decide +kernel
theorem dX2_sliceProperty_81 : decode cX2_sliceProperty 81 = .ok (.ireturn, 1) := by decide +kernel
theorem dX2_sliceProperty_82 : decode cX2_sliceProperty 82 = .ok (.aload_n 0, 1) := by decide +kernel
theorem dX2_sliceProperty_83 : decode cX2_sliceProperty 83 = .ok (.iload_n 1, 1) := by decide +kernel
theorem dX2_sliceProperty_84 : decode cX2_sliceProperty 84 = .ok (.invokevirtual 72, 3) := by decide +kernel
theorem dX2_sliceProperty_87 : decode cX2_sliceProperty 87 = .ok (.ireturn, 1) := by decide +kernel
theorem dX2_sliceProperty_88 : decode cX2_sliceProperty 88 = .ok (.aload_n 3, 1) := by decide +kernel
theorem dX2_sliceProperty_89 : decode cX2_sliceProperty 89 = .ok (.aload_n 0, 1) := by decide +kernel
theorem dX2_sliceProperty_90 : decode cX2_sliceProperty 90 = .ok (.iload_n 1, 1) := by decide +kernel
theorem dX2_sliceProperty_91 : decode cX2_sliceProperty 91 = .ok (.invokevirtual 25, 3) := by decide +kernel
theorem dX2_sliceProperty_94 : decode cX2_sliceProperty 94 = .ok (.invokevirtual 44, 3) := by decide +kernel
theorem dX2_sliceProperty_97 : decode cX2_sliceProperty 97 = .ok (.ireturn, 1) := by decide +kernel
theorem dX2_sliceProperty_98 : decode cX2_sliceProperty 98 = .ok (.aload_n 3, 1) := by decide +kernel
theorem dX2_sliceProperty_99 : decode cX2_sliceProperty 99 = .ok (.aload_n 0, 1) := by decide +kernel
theorem dX2_sliceProperty_100 : decode cX2_sliceProperty 100 = .ok (.iload_n 1, 1) := by decide +kernel
theorem dX2_sliceProperty_101 : decode cX2_sliceProperty 101 = .ok (.invokevirtual 25, 3) := by decide +kernel
theorem dX2_sliceProperty_104 : decode cX2_sliceProperty 104 = .ok (.invokevirtual 49, 3) := by decide +kernel
theorem dX2_sliceProperty_107 : decode cX2_sliceProperty 107 = .ok (.ireturn, 1) := by decide +kernel
theorem dX2_sliceProperty_108 : decode cX2_sliceProperty 108 = .ok (.aload_n 0, 1) := by decide +kernel
theorem dX2_sliceProperty_109 : decode cX2_sliceProperty 109 = .ok (.iload_n 1, 1) := by decide +kernel
theorem dX2_sliceProperty_110 : decode cX2_sliceProperty 110 = .ok (.iload_n 2, 1) := by decide +kernel
theorem dX2_sliceProperty_111 : decode cX2_sliceProperty 111 = .ok (.invokevirtual 21, 3) := by decide +kernel
theorem dX2_sliceProperty_114 : decode cX2_sliceProperty 114 = .ok (.ireturn, 1) := by decide +kernel
set_option maxRecDepth 20000 in
theorem ggX2_property_X2_all : GoodIn wsX2_property wsX2_all := goodIn_r _ [5, 6, 7, 8, 4, 9, 10, 11, 12, 13, 14, 15, 16, 17, 18, 79] (by decide +kernel) (by decide +kernel)
set_option maxRecDepth 20000 in
theorem gX2_property_X2_all : GoodIn wsX2_property (wsV RX2 75 RX2 yX2_all wsX2_all) := goodIn_app (goodIn_of _ (by decide +kernel)) ggX2_property_X2_all
set_option maxRecDepth 20000 in
theorem ggX2_property_X2_bedSlices : GoodIn wsX2_property wsX2_bedSlices := goodIn_r _ [22, 10, 11, 12, 4, 13, 14, 15, 16, 17, 18, 23, 24, 25, 26, 27, 28, 79, 80, 81] (by decide +kernel) (by decide +kernel)
set_option maxRecDepth 20000 in
theorem gX2_property_X2_bedSlices : GoodIn wsX2_property (wsV RX2 79 RX2 yX2_bedSlices wsX2_bedSlices) := goodIn_app (goodIn_of _ (by decide +kernel)) ggX2_property_X2_bedSlices
set_option maxRecDepth 20000 in
theorem ggX2_property_X2_clearWater : GoodIn wsX2_property wsX2_clearWater := goodIn_r _ [32, 10, 11, 12, 4, 13, 14, 15, 16, 17, 18, 33, 34, 35, 26, 36, 28, 79, 80, 81] (by decide +kernel) (by decide +kernel)
set_option maxRecDepth 20000 in
theorem gX2_property_X2_clearWater : GoodIn wsX2_property (wsV RX2 82 RX2 yX2_clearWater wsX2_clearWater) := goodIn_app (goodIn_of _ (by decide +kernel)) ggX2_property_X2_clearWater
set_option maxRecDepth 20000 in
theorem ggX2_property_X2_allDownTo : GoodIn wsX2_property wsX2_allDownTo := goodIn_r _ [9, 10, 11, 12, 4, 13, 14, 15, 16, 17, 18, 79] (by decide +kernel) (by decide +kernel)
set_option maxRecDepth 20000 in
theorem gX2_property_X2_allDownTo : GoodIn wsX2_property (wsV RX2 29 RX2 yX2_allDownTo wsX2_allDownTo) := goodIn_app (goodIn_of _ (by decide +kernel)) ggX2_property_X2_allDownTo
set_option maxRecDepth 20000 in
theorem ggX2_property_X2_changesOfLeader : GoodIn wsX2_property wsX2_changesOfLeader := goodIn_r _ [40, 41, 42, 43, 4, 44, 14, 15, 16, 17, 18, 79] (by decide +kernel) (by decide +kernel)
set_option maxRecDepth 20000 in
theorem gX2_property_X2_changesOfLeader : GoodIn wsX2_property (wsV RX2 85 RX2 yX2_changesOfLeader wsX2_changesOfLeader) := goodIn_app (goodIn_of _ (by decide +kernel)) ggX2_property_X2_changesOfLeader
set_option maxRecDepth 20000 in
theorem ggX2_property_X2_isAtRest : GoodIn wsX2_property wsX2_isAtRest := goodIn_r _ [48, 49, 50, 51, 4, 52, 14, 15, 16, 17, 18, 10, 11, 12, 13, 53, 54, 55, 26, 56, 28, 57, 58, 59, 60, 61, 62, 63, 64, 65, 66, 67, 68, 69, 70, 71, 72, 73, 74, 79, 80, 81] (by decide +kernel) (by decide +kernel)
set_option maxRecDepth 20000 in
theorem gX2_property_X2_isAtRest : GoodIn wsX2_property (wsV RX2 88 RX2 yX2_isAtRest wsX2_isAtRest) := goodIn_app (goodIn_of _ (by decide +kernel)) ggX2_property_X2_isAtRest
set_option maxRecDepth 20000 in
theorem ggX2_property_X2_allOf : GoodIn wsX2_property wsX2_allOf := goodIn_r _ [78, 14, 15, 16, 4, 17, 18, 79] (by decide +kernel) (by decide +kernel)
set_option maxRecDepth 20000 in
theorem gX2_property_X2_allOf : GoodIn wsX2_property (wsV RX2 92 RX2 yX2_allOf wsX2_allOf) := goodIn_app (goodIn_of _ (by decide +kernel)) ggX2_property_X2_allOf
theorem dX2_property_0 : decode cX2_property 0 = .ok (.iload_n 1, 1) := by decide +kernel
theorem dX2_property_1 : decode cX2_property 1 = .ok (.tableswitch 109 0 9 #[55, 109, 109, 109, 109, 60, 66, 72, 90, 95], 55) := by decide +kernel
theorem dX2_property_56 : decode cX2_property 56 = .ok (.aload_n 0, 1) := by decide +kernel
theorem dX2_property_57 : decode cX2_property 57 = .ok (.invokevirtual 75, 3) := by decide +kernel
theorem dX2_property_60 : decode cX2_property 60 = .ok (.ireturn, 1) := by decide +kernel
theorem dX2_property_61 : decode cX2_property 61 = .ok (.aload_n 0, 1) := by decide +kernel
theorem dX2_property_62 : decode cX2_property 62 = .ok (.aload_n 2, 1) := by decide +kernel
theorem dX2_property_63 : decode cX2_property 63 = .ok (.invokevirtual 79, 3) := by decide +kernel
theorem dX2_property_66 : decode cX2_property 66 = .ok (.ireturn, 1) := by decide +kernel
theorem dX2_property_67 : decode cX2_property 67 = .ok (.aload_n 0, 1) := by decide +kernel
theorem dX2_property_68 : decode cX2_property 68 = .ok (.aload_n 2, 1) := by decide +kernel
theorem dX2_property_69 : decode cX2_property 69 = .ok (.invokevirtual 82, 3) := by decide +kernel
theorem dX2_property_72 : decode cX2_property 72 = .ok (.ireturn, 1) := by decide +kernel
theorem dX2_property_73 : decode cX2_property 73 = .ok (.aload_n 0, 1) := by decide +kernel
theorem dX2_property_74 : decode cX2_property 74 = .ok (.invokevirtual 75, 3) := by decide +kernel
theorem dX2_property_77 : decode cX2_property 77 = .ok (.aload_n 0, 1) := by decide +kernel
theorem dX2_property_78 : decode cX2_property 78 = .ok (.bipush 11, 2) := by decide +kernel
theorem dX2_property_80 : decode cX2_property 80 = .ok (.aload_n 0, 1) := by decide +kernel
theorem dX2_property_81 : decode cX2_property 81 = .ok (.aload_n 2, 1) := by decide +kernel
theorem dX2_property_82 : decode cX2_property 82 = .ok (.invokevirtual 79, 3) := by decide +kernel
theorem dX2_property_85 : decode cX2_property 85 = .ok (.isub, 1) := by decide +kernel
theorem dX2_property_86 : decode cX2_property 86 = .ok (.invokevirtual 29, 3) := by decide +kernel
theorem dX2_property_89 : decode cX2_property 89 = .ok (.isub, 1) := by decide +kernel
theorem dX2_property_90 : decode cX2_property 90 = .ok (.ireturn, 1) := by decide +kernel
theorem dX2_property_91 : decode cX2_property 91 = .ok (.aload_n 0, 1) := by decide +kernel
theorem dX2_property_92 : decode cX2_property 92 = .ok (.invokevirtual 85, 3) := by decide +kernel
theorem dX2_property_95 : decode cX2_property 95 = .ok (.ireturn, 1) := by decide +kernel
theorem dX2_property_96 : decode cX2_property 96 = .ok (.aload_n 0, 1) := by decide +kernel
theorem dX2_property_97 : decode cX2_property 97 = .ok (.aload_n 2, 1) := by decide +kernel
theorem dX2_property_98 : decode cX2_property 98 = .ok (.invokevirtual 88, 3) := by decide +kernel
theorem dX2_property_101 : decode cX2_property 101 = .ok (.ifCond .eq 7, 3) := by decide +kernel
theorem dX2_property_104 : decode cX2_property 104 = .ok (.iconst 1, 1) := by decide +kernel
theorem dX2_property_105 : decode cX2_property 105 = .ok (.goto 4, 3) := by decide +kernel
theorem dX2_property_108 : decode cX2_property 108 = .ok (.iconst 0, 1) := by decide +kernel
theorem dX2_property_109 : decode cX2_property 109 = .ok (.ireturn, 1) := by decide +kernel
theorem dX2_property_110 : decode cX2_property 110 = .ok (.aload_n 0, 1) := by decide +kernel
theorem dX2_property_111 : decode cX2_property 111 = .ok (.iload_n 1, 1) := by decide +kernel
theorem dX2_property_112 : decode cX2_property 112 = .ok (.iconst 1, 1) := by decide +kernel
theorem dX2_property_113 : decode cX2_property 113 = .ok (.isub, 1) := by decide +kernel
theorem dX2_property_114 : decode cX2_property 114 = .ok (.invokevirtual 92, 3) := by decide +kernel
theorem dX2_property_117 : decode cX2_property 117 = .ok (.ireturn, 1) := by decide +kernel
set_option maxRecDepth 20000 in
theorem ggX2_bedSlices_X2_allIn : GoodIn wsX2_bedSlices wsX2_allIn := goodIn_r _ [5, 6, 7, 8, 4, 9, 10, 17] (by decide +kernel) (by decide +kernel)
set_option maxRecDepth 20000 in
theorem gX2_bedSlices_X2_allIn : GoodIn wsX2_bedSlices (wsV RX2 25 RX2 yX2_allIn wsX2_allIn) := goodIn_app (goodIn_of _ (by decide +kernel)) ggX2_bedSlices_X2_allIn
set_option maxRecDepth 20000 in
theorem ggX2_bedSlices_X3_isPacked : GoodIn wsX2_bedSlices wsX3_isPacked := goodIn_r _ [15, 16, 18, 19] (by decide +kernel) (by decide +kernel)
set_option maxRecDepth 20000 in
theorem gX2_bedSlices_X3_isPacked : GoodIn wsX2_bedSlices (wsV RX2 65 RX3 yX3_isPacked wsX3_isPacked) := goodIn_app (goodIn_of _ (by decide +kernel)) ggX2_bedSlices_X3_isPacked
theorem dX2_bedSlices_0 : decode cX2_bedSlices 0 = .ok (.iconst 0, 1) := by decide +kernel
theorem dX2_bedSlices_1 : decode cX2_bedSlices 1 = .ok (.istore_n 2, 1) := by decide +kernel
theorem dX2_bedSlices_2 : decode cX2_bedSlices 2 = .ok (.iload_n 2, 1) := by decide +kernel
theorem dX2_bedSlices_3 : decode cX2_bedSlices 3 = .ok (.bipush 12, 2) := by decide +kernel
theorem dX2_bedSlices_5 : decode cX2_bedSlices 5 = .ok (.if_icmp .ge 24, 3) := by decide +kernel
theorem dX2_bedSlices_8 : decode cX2_bedSlices 8 = .ok (.aload_n 1, 1) := by decide +kernel
theorem dX2_bedSlices_9 : decode cX2_bedSlices 9 = .ok (.aload_n 0, 1) := by decide +kernel
theorem dX2_bedSlices_10 : decode cX2_bedSlices 10 = .ok (.bipush 11, 2) := by decide +kernel
theorem dX2_bedSlices_12 : decode cX2_bedSlices 12 = .ok (.iload_n 2, 1) := by decide +kernel
theorem dX2_bedSlices_13 : decode cX2_bedSlices 13 = .ok (.isub, 1) := by decide +kernel
theorem dX2_bedSlices_14 : decode cX2_bedSlices 14 = .ok (.invokevirtual 25, 3) := by decide +kernel
theorem dX2_bedSlices_17 : decode cX2_bedSlices 17 = .ok (.invokevirtual 65, 3) := by decide +kernel
theorem dX2_bedSlices_20 : decode cX2_bedSlices 20 = .ok (.ifCond .eq 9, 3) := by decide +kernel
theorem dX2_bedSlices_23 : decode cX2_bedSlices 23 = .ok (.iinc 2 1, 3) := by decide +kernel
theorem dX2_bedSlices_26 : decode cX2_bedSlices 26 = .ok (.goto (-24), 3) := by decide +kernel
theorem dX2_bedSlices_29 : decode cX2_bedSlices 29 = .ok (.iload_n 2, 1) := by decide +kernel
theorem dX2_bedSlices_30 : decode cX2_bedSlices 30 = .ok (.ireturn, 1) := by decide +kernel
set_option maxRecDepth 20000 in
theorem ggX2_clearWater_X2_allIn : GoodIn wsX2_clearWater wsX2_allIn := goodIn_r _ [5, 6, 7, 8, 4, 9, 10, 17] (by decide +kernel) (by decide +kernel)
set_option maxRecDepth 20000 in
theorem gX2_clearWater_X2_allIn : GoodIn wsX2_clearWater (wsV RX2 25 RX2 yX2_allIn wsX2_allIn) := goodIn_app (goodIn_of _ (by decide +kernel)) ggX2_clearWater_X2_allIn
set_option maxRecDepth 20000 in
theorem ggX2_clearWater_X3_isClear : GoodIn wsX2_clearWater wsX3_isClear := goodIn_r _ [15, 16, 18, 19] (by decide +kernel) (by decide +kernel)
set_option maxRecDepth 20000 in
theorem gX2_clearWater_X3_isClear : GoodIn wsX2_clearWater (wsV RX2 69 RX3 yX3_isClear wsX3_isClear) := goodIn_app (goodIn_of _ (by decide +kernel)) ggX2_clearWater_X3_isClear
theorem dX2_clearWater_0 : decode cX2_clearWater 0 = .ok (.iconst 0, 1) := by decide +kernel
