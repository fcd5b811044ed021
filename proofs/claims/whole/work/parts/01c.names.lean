theorem dX3_init_0 : decode cX3_init 0 = .ok (.aload_n 0, 1) := by decide +kernel
theorem dX3_init_1 : decode cX3_init 1 = .ok (.invokespecial 3, 3) := by decide +kernel
theorem dX3_init_4 : decode cX3_init 4 = .ok (.aload_n 0, 1) := by decide +kernel
theorem dX3_init_5 : decode cX3_init 5 = .ok (.iconst 4, 1) := by decide +kernel
theorem dX3_init_6 : decode cX3_init 6 = .ok (.newarray .int, 2) := by decide +kernel
theorem dX3_init_8 : decode cX3_init 8 = .ok (.dup, 1) := by decide +kernel
theorem dX3_init_9 : decode cX3_init 9 = .ok (.iconst 0, 1) := by decide +kernel
theorem dX3_init_10 : decode cX3_init 10 = .ok (.bipush 100, 2) := by decide +kernel
theorem dX3_init_12 : decode cX3_init 12 = .ok (.iastore, 1) := by decide +kernel
theorem dX3_init_13 : decode cX3_init 13 = .ok (.dup, 1) := by decide +kernel
theorem dX3_init_14 : decode cX3_init 14 = .ok (.iconst 1, 1) := by decide +kernel
theorem dX3_init_15 : decode cX3_init 15 = .ok (.sipush 200, 3) := by decide +kernel
theorem dX3_init_18 : decode cX3_init 18 = .ok (.iastore, 1) := by decide +kernel
theorem dX3_init_19 : decode cX3_init 19 = .ok (.dup, 1) := by decide +kernel
theorem dX3_init_20 : decode cX3_init 20 = .ok (.iconst 2, 1) := by decide +kernel
theorem dX3_init_21 : decode cX3_init 21 = .ok (.iconst 3, 1) := by decide +kernel
theorem dX3_init_22 : decode cX3_init 22 = .ok (.iastore, 1) := by decide +kernel
theorem dX3_init_23 : decode cX3_init 23 = .ok (.dup, 1) := by decide +kernel
theorem dX3_init_24 : decode cX3_init 24 = .ok (.iconst 3, 1) := by decide +kernel
theorem dX3_init_25 : decode cX3_init 25 = .ok (.iconst 0, 1) := by decide +kernel
theorem dX3_init_26 : decode cX3_init 26 = .ok (.iastore, 1) := by decide +kernel
theorem dX3_init_27 : decode cX3_init 27 = .ok (.putfield 9, 3) := by decide +kernel
theorem dX3_init_30 : decode cX3_init 30 = .ok (.aload_n 0, 1) := by decide +kernel
theorem dX3_init_31 : decode cX3_init 31 = .ok (.iconst 4, 1) := by decide +kernel
theorem dX3_init_32 : decode cX3_init 32 = .ok (.newarray .int, 2) := by decide +kernel
theorem dX3_init_34 : decode cX3_init 34 = .ok (.dup, 1) := by decide +kernel
theorem dX3_init_35 : decode cX3_init 35 = .ok (.iconst 0, 1) := by decide +kernel
theorem dX3_init_36 : decode cX3_init 36 = .ok (.bipush 40, 2) := by decide +kernel
theorem dX3_init_38 : decode cX3_init 38 = .ok (.iastore, 1) := by decide +kernel
theorem dX3_init_39 : decode cX3_init 39 = .ok (.dup, 1) := by decide +kernel
theorem dX3_init_40 : decode cX3_init 40 = .ok (.iconst 1, 1) := by decide +kernel
theorem dX3_init_41 : decode cX3_init 41 = .ok (.bipush 20, 2) := by decide +kernel
theorem dX3_init_43 : decode cX3_init 43 = .ok (.iastore, 1) := by decide +kernel
theorem dX3_init_44 : decode cX3_init 44 = .ok (.dup, 1) := by decide +kernel
theorem dX3_init_45 : decode cX3_init 45 = .ok (.iconst 2, 1) := by decide +kernel
theorem dX3_init_46 : decode cX3_init 46 = .ok (.bipush 10, 2) := by decide +kernel
theorem dX3_init_48 : decode cX3_init 48 = .ok (.iastore, 1) := by decide +kernel
theorem dX3_init_49 : decode cX3_init 49 = .ok (.dup, 1) := by decide +kernel
theorem dX3_init_50 : decode cX3_init 50 = .ok (.iconst 3, 1) := by decide +kernel
theorem dX3_init_51 : decode cX3_init 51 = .ok (.iconst 5, 1) := by decide +kernel
theorem dX3_init_52 : decode cX3_init 52 = .ok (.iastore, 1) := by decide +kernel
theorem dX3_init_53 : decode cX3_init 53 = .ok (.putfield 15, 3) := by decide +kernel
theorem dX3_init_56 : decode cX3_init 56 = .ok (.return_, 1) := by decide +kernel
theorem dX3_copyFrom_0 : decode cX3_copyFrom 0 = .ok (.aload_n 1, 1) := by decide +kernel
theorem dX3_copyFrom_1 : decode cX3_copyFrom 1 = .ok (.getfield 9, 3) := by decide +kernel
theorem dX3_copyFrom_4 : decode cX3_copyFrom 4 = .ok (.iconst 0, 1) := by decide +kernel
theorem dX3_copyFrom_5 : decode cX3_copyFrom 5 = .ok (.aload_n 0, 1) := by decide +kernel
theorem dX3_copyFrom_6 : decode cX3_copyFrom 6 = .ok (.getfield 9, 3) := by decide +kernel
theorem dX3_copyFrom_9 : decode cX3_copyFrom 9 = .ok (.iconst 0, 1) := by decide +kernel
theorem dX3_copyFrom_10 : decode cX3_copyFrom 10 = .ok (.iconst 4, 1) := by decide +kernel
theorem dX3_copyFrom_11 : decode cX3_copyFrom 11 = .ok (.invokestatic 18, 3) := by decide +kernel
theorem dX3_copyFrom_14 : decode cX3_copyFrom 14 = .ok (.aload_n 1, 1) := by decide +kernel
theorem dX3_copyFrom_15 : decode cX3_copyFrom 15 = .ok (.getfield 15, 3) := by decide +kernel
theorem dX3_copyFrom_18 : decode cX3_copyFrom 18 = .ok (.iconst 0, 1) := by decide +kernel
theorem dX3_copyFrom_19 : decode cX3_copyFrom 19 = .ok (.aload_n 0, 1) := by decide +kernel
theorem dX3_copyFrom_20 : decode cX3_copyFrom 20 = .ok (.getfield 15, 3) := by decide +kernel
theorem dX3_copyFrom_23 : decode cX3_copyFrom 23 = .ok (.iconst 0, 1) := by decide +kernel
theorem dX3_copyFrom_24 : decode cX3_copyFrom 24 = .ok (.iconst 4, 1) := by decide +kernel
theorem dX3_copyFrom_25 : decode cX3_copyFrom 25 = .ok (.invokestatic 18, 3) := by decide +kernel
theorem dX3_copyFrom_28 : decode cX3_copyFrom 28 = .ok (.return_, 1) := by decide +kernel
theorem dX3_factorOf_0 : decode cX3_factorOf 0 = .ok (.ldc 24, 2) := by decide +kernel
theorem dX3_factorOf_2 : decode cX3_factorOf 2 = .ok (.iconst 1, 1) := by decide +kernel
theorem dX3_factorOf_3 : decode cX3_factorOf 3 = .ok (.sipush 1000, 3) := by decide +kernel
theorem dX3_factorOf_6 : decode cX3_factorOf 6 = .ok (.iload_n 1, 1) := by decide +kernel
theorem dX3_factorOf_7 : decode cX3_factorOf 7 = .ok (.aload_n 0, 1) := by decide +kernel
theorem dX3_factorOf_8 : decode cX3_factorOf 8 = .ok (.getfield 9, 3) := by decide +kernel
theorem dX3_factorOf_11 : decode cX3_factorOf 11 = .ok (.iconst 0, 1) := by decide +kernel
theorem dX3_factorOf_12 : decode cX3_factorOf 12 = .ok (.iaload, 1) := by decide +kernel
theorem dX3_factorOf_13 : decode cX3_factorOf 13 = .ok (.imul, 1) := by decide +kernel
theorem dX3_factorOf_14 : decode cX3_factorOf 14 = .ok (.bipush 10, 2) := by decide +kernel
theorem dX3_factorOf_16 : decode cX3_factorOf 16 = .ok (.idiv, 1) := by decide +kernel
theorem dX3_factorOf_17 : decode cX3_factorOf 17 = .ok (.iadd, 1) := by decide +kernel
theorem dX3_factorOf_18 : decode cX3_factorOf 18 = .ok (.invokestatic 25, 3) := by decide +kernel
theorem dX3_factorOf_21 : decode cX3_factorOf 21 = .ok (.idiv, 1) := by decide +kernel
theorem dX3_factorOf_22 : decode cX3_factorOf 22 = .ok (.ireturn, 1) := by decide +kernel
theorem dX3_roomOver_0 : decode cX3_roomOver 0 = .ok (.iconst 0, 1) := by decide +kernel
theorem dX3_roomOver_1 : decode cX3_roomOver 1 = .ok (.aload_n 0, 1) := by decide +kernel
theorem dX3_roomOver_2 : decode cX3_roomOver 2 = .ok (.getfield 9, 3) := by decide +kernel
theorem dX3_roomOver_5 : decode cX3_roomOver 5 = .ok (.iconst 1, 1) := by decide +kernel
theorem dX3_roomOver_6 : decode cX3_roomOver 6 = .ok (.iaload, 1) := by decide +kernel
theorem dX3_roomOver_7 : decode cX3_roomOver 7 = .ok (.iload_n 1, 1) := by decide +kernel
theorem dX3_roomOver_8 : decode cX3_roomOver 8 = .ok (.isub, 1) := by decide +kernel
theorem dX3_roomOver_9 : decode cX3_roomOver 9 = .ok (.invokestatic 25, 3) := by decide +kernel
theorem dX3_roomOver_12 : decode cX3_roomOver 12 = .ok (.ireturn, 1) := by decide +kernel
theorem dX3_isPacked_0 : decode cX3_isPacked 0 = .ok (.iload_n 1, 1) := by decide +kernel
theorem dX3_isPacked_1 : decode cX3_isPacked 1 = .ok (.aload_n 0, 1) := by decide +kernel
theorem dX3_isPacked_2 : decode cX3_isPacked 2 = .ok (.getfield 9, 3) := by decide +kernel
theorem dX3_isPacked_5 : decode cX3_isPacked 5 = .ok (.iconst 1, 1) := by decide +kernel
theorem dX3_isPacked_6 : decode cX3_isPacked 6 = .ok (.iaload, 1) := by decide +kernel
theorem dX3_isPacked_7 : decode cX3_isPacked 7 = .ok (.if_icmp .lt 7, 3) := by decide +kernel
theorem dX3_isPacked_10 : decode cX3_isPacked 10 = .ok (.iconst 1, 1) := by decide +kernel
theorem dX3_isPacked_11 : decode cX3_isPacked 11 = .ok (.goto 4, 3) := by decide +kernel
theorem dX3_isPacked_14 : decode cX3_isPacked 14 = .ok (.iconst 0, 1) := by decide +kernel
theorem dX3_isPacked_15 : decode cX3_isPacked 15 = .ok (.ireturn, 1) := by decide +kernel
theorem dX3_isClear_0 : decode cX3_isClear 0 = .ok (.iload_n 1, 1) := by decide +kernel
theorem dX3_isClear_1 : decode cX3_isClear 1 = .ok (.aload_n 0, 1) := by decide +kernel
theorem dX3_isClear_2 : decode cX3_isClear 2 = .ok (.getfield 9, 3) := by decide +kernel
theorem dX3_isClear_5 : decode cX3_isClear 5 = .ok (.iconst 2, 1) := by decide +kernel
theorem dX3_isClear_6 : decode cX3_isClear 6 = .ok (.iaload, 1) := by decide +kernel
theorem dX3_isClear_7 : decode cX3_isClear 7 = .ok (.if_icmp .gt 7, 3) := by decide +kernel
theorem dX3_isClear_10 : decode cX3_isClear 10 = .ok (.iconst 1, 1) := by decide +kernel
theorem dX3_isClear_11 : decode cX3_isClear 11 = .ok (.goto 4, 3) := by decide +kernel
theorem dX3_isClear_14 : decode cX3_isClear 14 = .ok (.iconst 0, 1) := by decide +kernel
theorem dX3_isClear_15 : decode cX3_isClear 15 = .ok (.ireturn, 1) := by decide +kernel
theorem dX3_wantingToFall_0 : decode cX3_wantingToFall 0 = .ok (.iload_n 2, 1) := by decide +kernel
theorem dX3_wantingToFall_1 : decode cX3_wantingToFall 1 = .ok (.aload_n 0, 1) := by decide +kernel
theorem dX3_wantingToFall_2 : decode cX3_wantingToFall 2 = .ok (.getfield 15, 3) := by decide +kernel
theorem dX3_wantingToFall_5 : decode cX3_wantingToFall 5 = .ok (.iload_n 1, 1) := by decide +kernel
theorem dX3_wantingToFall_6 : decode cX3_wantingToFall 6 = .ok (.iaload, 1) := by decide +kernel
theorem dX3_wantingToFall_7 : decode cX3_wantingToFall 7 = .ok (.imul, 1) := by decide +kernel
theorem dX3_wantingToFall_8 : decode cX3_wantingToFall 8 = .ok (.iload_n 3, 1) := by decide +kernel
theorem dX3_wantingToFall_9 : decode cX3_wantingToFall 9 = .ok (.imul, 1) := by decide +kernel
theorem dX3_wantingToFall_10 : decode cX3_wantingToFall 10 = .ok (.ldc 31, 2) := by decide +kernel
theorem dX3_wantingToFall_12 : decode cX3_wantingToFall 12 = .ok (.idiv, 1) := by decide +kernel
theorem dX3_wantingToFall_13 : decode cX3_wantingToFall 13 = .ok (.istore 4, 2) := by decide +kernel
theorem dX3_wantingToFall_15 : decode cX3_wantingToFall 15 = .ok (.iload 4, 2) := by decide +kernel
theorem dX3_wantingToFall_17 : decode cX3_wantingToFall 17 = .ok (.ifCond .ne 15, 3) := by decide +kernel
theorem dX3_wantingToFall_20 : decode cX3_wantingToFall 20 = .ok (.iload_n 2, 1) := by decide +kernel
theorem dX3_wantingToFall_21 : decode cX3_wantingToFall 21 = .ok (.aload_n 0, 1) := by decide +kernel
theorem dX3_wantingToFall_22 : decode cX3_wantingToFall 22 = .ok (.getfield 9, 3) := by decide +kernel
theorem dX3_wantingToFall_25 : decode cX3_wantingToFall 25 = .ok (.iconst 3, 1) := by decide +kernel
theorem dX3_wantingToFall_26 : decode cX3_wantingToFall 26 = .ok (.iaload, 1) := by decide +kernel
theorem dX3_wantingToFall_27 : decode cX3_wantingToFall 27 = .ok (.if_icmp .le 5, 3) := by decide +kernel
theorem dX3_wantingToFall_30 : decode cX3_wantingToFall 30 = .ok (.iconst 1, 1) := by decide +kernel
theorem dX3_wantingToFall_31 : decode cX3_wantingToFall 31 = .ok (.ireturn, 1) := by decide +kernel
theorem dX3_wantingToFall_32 : decode cX3_wantingToFall 32 = .ok (.iload 4, 2) := by decide +kernel
theorem dX3_wantingToFall_34 : decode cX3_wantingToFall 34 = .ok (.iload_n 2, 1) := by decide +kernel
theorem dX3_wantingToFall_35 : decode cX3_wantingToFall 35 = .ok (.invokestatic 32, 3) := by decide +kernel
theorem dX3_wantingToFall_38 : decode cX3_wantingToFall 38 = .ok (.ireturn, 1) := by decide +kernel
set_option maxRecDepth 20000 in
theorem ggX4_init_X3_init : GoodIn wsX4_init wsX3_init := goodIn_r _ [16, 17, 2, 3, 10, 18, 19, 24, 25] (by decide +kernel) (by decide +kernel)
set_option maxRecDepth 20000 in
theorem gX4_init_X3_init_n11 : GoodIn wsX4_init (wsX3_init) := ggX4_init_X3_init
set_option maxRecDepth 20000 in
theorem ggX4_init_X2_init : GoodIn wsX4_init wsX2_init := goodIn_r _ [21, 22, 2, 3, 10, 23, 32] (by decide +kernel) (by decide +kernel)
set_option maxRecDepth 20000 in
theorem gX4_init_X2_init_n31 : GoodIn wsX4_init (wsX2_init) := ggX4_init_X2_init
theorem dX4_init_0 : decode cX4_init 0 = .ok (.aload_n 0, 1) := by decide +kernel
theorem dX4_init_1 : decode cX4_init 1 = .ok (.invokespecial 3, 3) := by decide +kernel
theorem dX4_init_4 : decode cX4_init 4 = .ok (.aload_n 0, 1) := by decide +kernel
theorem dX4_init_5 : decode cX4_init 5 = .ok (.new 9, 3) := by decide +kernel
theorem dX4_init_8 : decode cX4_init 8 = .ok (.dup, 1) := by decide +kernel
theorem dX4_init_9 : decode cX4_init 9 = .ok (.invokespecial 11, 3) := by decide +kernel
theorem dX4_init_12 : decode cX4_init 12 = .ok (.putfield 12, 3) := by decide +kernel
theorem dX4_init_15 : decode cX4_init 15 = .ok (.aload_n 0, 1) := by decide +kernel
theorem dX4_init_16 : decode cX4_init 16 = .ok (.iconst 3, 1) := by decide +kernel
theorem dX4_init_17 : decode cX4_init 17 = .ok (.anewarray 18, 3) := by decide +kernel
theorem dX4_init_20 : decode cX4_init 20 = .ok (.putfield 20, 3) := by decide +kernel
theorem dX4_init_23 : decode cX4_init 23 = .ok (.aload_n 0, 1) := by decide +kernel
theorem dX4_init_24 : decode cX4_init 24 = .ok (.iconst 4, 1) := by decide +kernel
theorem dX4_init_25 : decode cX4_init 25 = .ok (.newarray .int, 2) := by decide +kernel
theorem dX4_init_27 : decode cX4_init 27 = .ok (.putfield 24, 3) := by decide +kernel
theorem dX4_init_30 : decode cX4_init 30 = .ok (.aload_n 0, 1) := by decide +kernel
theorem dX4_init_31 : decode cX4_init 31 = .ok (.iconst 4, 1) := by decide +kernel
theorem dX4_init_32 : decode cX4_init 32 = .ok (.newarray .int, 2) := by decide +kernel
theorem dX4_init_34 : decode cX4_init 34 = .ok (.putfield 28, 3) := by decide +kernel
theorem dX4_init_37 : decode cX4_init 37 = .ok (.iconst 0, 1) := by decide +kernel
theorem dX4_init_38 : decode cX4_init 38 = .ok (.istore_n 1, 1) := by decide +kernel
theorem dX4_init_39 : decode cX4_init 39 = .ok (.iload_n 1, 1) := by decide +kernel
theorem dX4_init_40 : decode cX4_init 40 = .ok (.iconst 3, 1) := by decide +kernel
theorem dX4_init_41 : decode cX4_init 41 = .ok (.if_icmp .ge 22, 3) := by decide +kernel
theorem dX4_init_44 : decode cX4_init 44 = .ok (.aload_n 0, 1) := by decide +kernel
theorem dX4_init_45 : decode cX4_init 45 = .ok (.getfield 20, 3) := by decide +kernel
theorem dX4_init_48 : decode cX4_init 48 = .ok (.iload_n 1, 1) := by decide +kernel
theorem dX4_init_49 : decode cX4_init 49 = .ok (.new 18, 3) := by decide +kernel
theorem dX4_init_52 : decode cX4_init 52 = .ok (.dup, 1) := by decide +kernel
theorem dX4_init_53 : decode cX4_init 53 = .ok (.invokespecial 31, 3) := by decide +kernel
theorem dX4_init_56 : decode cX4_init 56 = .ok (.aastore, 1) := by decide +kernel
theorem dX4_init_57 : decode cX4_init 57 = .ok (.iinc 1 1, 3) := by decide +kernel
theorem dX4_init_60 : decode cX4_init 60 = .ok (.goto (-21), 3) := by decide +kernel
theorem dX4_init_63 : decode cX4_init 63 = .ok (.return_, 1) := by decide +kernel
set_option maxRecDepth 20000 in
theorem ggX4_copyFrom_X3_copyFrom : GoodIn wsX4_copyFrom wsX3_copyFrom := goodIn_r _ [15, 16, 17, 5, 6, 7, 18, 32, 33] (by decide +kernel) (by decide +kernel)
set_option maxRecDepth 20000 in
theorem gX4_copyFrom_X3_copyFrom : GoodIn wsX4_copyFrom (wsV RX4 32 RX3 yX3_copyFrom wsX3_copyFrom) := goodIn_app (goodIn_of _ (by decide +kernel)) ggX4_copyFrom_X3_copyFrom
set_option maxRecDepth 20000 in
theorem ggX4_copyFrom_X2_copyFrom : GoodIn wsX4_copyFrom wsX2_copyFrom := goodIn_r _ [23, 24, 25, 5, 6, 7, 34] (by decide +kernel) (by decide +kernel)
set_option maxRecDepth 20000 in
theorem gX4_copyFrom_X2_copyFrom : GoodIn wsX4_copyFrom (wsV RX4 36 RX2 yX2_copyFrom wsX2_copyFrom) := goodIn_app (goodIn_of _ (by decide +kernel)) ggX4_copyFrom_X2_copyFrom
theorem dX4_copyFrom_0 : decode cX4_copyFrom 0 = .ok (.aload_n 0, 1) := by decide +kernel
theorem dX4_copyFrom_1 : decode cX4_copyFrom 1 = .ok (.getfield 12, 3) := by decide +kernel
theorem dX4_copyFrom_4 : decode cX4_copyFrom 4 = .ok (.aload_n 1, 1) := by decide +kernel
theorem dX4_copyFrom_5 : decode cX4_copyFrom 5 = .ok (.getfield 12, 3) := by decide +kernel
theorem dX4_copyFrom_8 : decode cX4_copyFrom 8 = .ok (.invokevirtual 32, 3) := by decide +kernel
theorem dX4_copyFrom_11 : decode cX4_copyFrom 11 = .ok (.iconst 0, 1) := by decide +kernel
theorem dX4_copyFrom_12 : decode cX4_copyFrom 12 = .ok (.istore_n 2, 1) := by decide +kernel
theorem dX4_copyFrom_13 : decode cX4_copyFrom 13 = .ok (.iload_n 2, 1) := by decide +kernel
theorem dX4_copyFrom_14 : decode cX4_copyFrom 14 = .ok (.iconst 3, 1) := by decide +kernel
theorem dX4_copyFrom_15 : decode cX4_copyFrom 15 = .ok (.if_icmp .ge 24, 3) := by decide +kernel
theorem dX4_copyFrom_18 : decode cX4_copyFrom 18 = .ok (.aload_n 0, 1) := by decide +kernel
theorem dX4_copyFrom_19 : decode cX4_copyFrom 19 = .ok (.getfield 20, 3) := by decide +kernel
theorem dX4_copyFrom_22 : decode cX4_copyFrom 22 = .ok (.iload_n 2, 1) := by decide +kernel
theorem dX4_copyFrom_23 : decode cX4_copyFrom 23 = .ok (.aaload, 1) := by decide +kernel
theorem dX4_copyFrom_24 : decode cX4_copyFrom 24 = .ok (.aload_n 1, 1) := by decide +kernel
theorem dX4_copyFrom_25 : decode cX4_copyFrom 25 = .ok (.getfield 20, 3) := by decide +kernel
theorem dX4_copyFrom_28 : decode cX4_copyFrom 28 = .ok (.iload_n 2, 1) := by decide +kernel
theorem dX4_copyFrom_29 : decode cX4_copyFrom 29 = .ok (.aaload, 1) := by decide +kernel
theorem dX4_copyFrom_30 : decode cX4_copyFrom 30 = .ok (.invokevirtual 36, 3) := by decide +kernel
theorem dX4_copyFrom_33 : decode cX4_copyFrom 33 = .ok (.iinc 2 1, 3) := by decide +kernel
theorem dX4_copyFrom_36 : decode cX4_copyFrom 36 = .ok (.goto (-23), 3) := by decide +kernel
theorem dX4_copyFrom_39 : decode cX4_copyFrom 39 = .ok (.aload_n 1, 1) := by decide +kernel
theorem dX4_copyFrom_40 : decode cX4_copyFrom 40 = .ok (.getfield 24, 3) := by decide +kernel
theorem dX4_copyFrom_43 : decode cX4_copyFrom 43 = .ok (.iconst 0, 1) := by decide +kernel
theorem dX4_copyFrom_44 : decode cX4_copyFrom 44 = .ok (.aload_n 0, 1) := by decide +kernel
theorem dX4_copyFrom_45 : decode cX4_copyFrom 45 = .ok (.getfield 24, 3) := by decide +kernel
theorem dX4_copyFrom_48 : decode cX4_copyFrom 48 = .ok (.iconst 0, 1) := by decide +kernel
theorem dX4_copyFrom_49 : decode cX4_copyFrom 49 = .ok (.iconst 4, 1) := by decide +kernel
theorem dX4_copyFrom_50 : decode cX4_copyFrom 50 = .ok (.invokestatic 39, 3) := by decide +kernel
theorem dX4_copyFrom_53 : decode cX4_copyFrom 53 = .ok (.aload_n 1, 1) := by decide +kernel
theorem dX4_copyFrom_54 : decode cX4_copyFrom 54 = .ok (.getfield 28, 3) := by decide +kernel
theorem dX4_copyFrom_57 : decode cX4_copyFrom 57 = .ok (.iconst 0, 1) := by decide +kernel
theorem dX4_copyFrom_58 : decode cX4_copyFrom 58 = .ok (.aload_n 0, 1) := by decide +kernel
theorem dX4_copyFrom_59 : decode cX4_copyFrom 59 = .ok (.getfield 28, 3) := by decide +kernel
theorem dX4_copyFrom_62 : decode cX4_copyFrom 62 = .ok (.iconst 0, 1) := by decide +kernel
theorem dX4_copyFrom_63 : decode cX4_copyFrom 63 = .ok (.iconst 4, 1) := by decide +kernel
theorem dX4_copyFrom_64 : decode cX4_copyFrom 64 = .ok (.invokestatic 39, 3) := by decide +kernel
theorem dX4_copyFrom_67 : decode cX4_copyFrom 67 = .ok (.aload_n 0, 1) := by decide +kernel
theorem dX4_copyFrom_68 : decode cX4_copyFrom 68 = .ok (.aload_n 1, 1) := by decide +kernel
theorem dX4_copyFrom_69 : decode cX4_copyFrom 69 = .ok (.getfield 45, 3) := by decide +kernel
theorem dX4_copyFrom_72 : decode cX4_copyFrom 72 = .ok (.putfield 45, 3) := by decide +kernel
theorem dX4_copyFrom_75 : decode cX4_copyFrom 75 = .ok (.aload_n 0, 1) := by decide +kernel
theorem dX4_copyFrom_76 : decode cX4_copyFrom 76 = .ok (.aload_n 1, 1) := by decide +kernel
theorem dX4_copyFrom_77 : decode cX4_copyFrom 77 = .ok (.getfield 49, 3) := by decide +kernel
theorem dX4_copyFrom_80 : decode cX4_copyFrom 80 = .ok (.putfield 49, 3) := by decide +kernel
theorem dX4_copyFrom_83 : decode cX4_copyFrom 83 = .ok (.return_, 1) := by decide +kernel
set_option maxRecDepth 20000 in
theorem ggX4_all_X2_all : GoodIn wsX4_all wsX2_all := goodIn_r _ [6, 7, 8, 9, 5, 10, 11, 12, 13, 14, 15, 16, 17, 18, 19, 26] (by decide +kernel) (by decide +kernel)
set_option maxRecDepth 20000 in
theorem gX4_all_X2_all : GoodIn wsX4_all (wsV RX4 52 RX2 yX2_all wsX2_all) := goodIn_app (goodIn_of _ (by decide +kernel)) ggX4_all_X2_all
theorem dX4_all_0 : decode cX4_all 0 = .ok (.iconst 0, 1) := by decide +kernel
theorem dX4_all_1 : decode cX4_all 1 = .ok (.istore_n 1, 1) := by decide +kernel
theorem dX4_all_2 : decode cX4_all 2 = .ok (.iconst 0, 1) := by decide +kernel
theorem dX4_all_3 : decode cX4_all 3 = .ok (.istore_n 2, 1) := by decide +kernel
theorem dX4_all_4 : decode cX4_all 4 = .ok (.iload_n 2, 1) := by decide +kernel
theorem dX4_all_5 : decode cX4_all 5 = .ok (.iconst 3, 1) := by decide +kernel
theorem dX4_all_6 : decode cX4_all 6 = .ok (.if_icmp .ge 21, 3) := by decide +kernel
theorem dX4_all_9 : decode cX4_all 9 = .ok (.iload_n 1, 1) := by decide +kernel
theorem dX4_all_10 : decode cX4_all 10 = .ok (.aload_n 0, 1) := by decide +kernel
theorem dX4_all_11 : decode cX4_all 11 = .ok (.getfield 20, 3) := by decide +kernel
theorem dX4_all_14 : decode cX4_all 14 = .ok (.iload_n 2, 1) := by decide +kernel
theorem dX4_all_15 : decode cX4_all 15 = .ok (.aaload, 1) := by decide +kernel
theorem dX4_all_16 : decode cX4_all 16 = .ok (.invokevirtual 52, 3) := by decide +kernel
theorem dX4_all_19 : decode cX4_all 19 = .ok (.iadd, 1) := by decide +kernel
theorem dX4_all_20 : decode cX4_all 20 = .ok (.istore_n 1, 1) := by decide +kernel
theorem dX4_all_21 : decode cX4_all 21 = .ok (.iinc 2 1, 3) := by decide +kernel
theorem dX4_all_24 : decode cX4_all 24 = .ok (.goto (-20), 3) := by decide +kernel
theorem dX4_all_27 : decode cX4_all 27 = .ok (.iload_n 1, 1) := by decide +kernel
theorem dX4_all_28 : decode cX4_all 28 = .ok (.ireturn, 1) := by decide +kernel
set_option maxRecDepth 20000 in
theorem ggX4_allOf_X2_allOf : GoodIn wsX4_allOf wsX2_allOf := goodIn_r _ [6, 7, 8, 9, 5, 10, 11, 18] (by decide +kernel) (by decide +kernel)
set_option maxRecDepth 20000 in
theorem gX4_allOf_X2_allOf : GoodIn wsX4_allOf (wsV RX4 56 RX2 yX2_allOf wsX2_allOf) := goodIn_app (goodIn_of _ (by decide +kernel)) ggX4_allOf_X2_allOf
theorem dX4_allOf_0 : decode cX4_allOf 0 = .ok (.iconst 0, 1) := by decide +kernel
theorem dX4_allOf_1 : decode cX4_allOf 1 = .ok (.istore_n 2, 1) := by decide +kernel
theorem dX4_allOf_2 : decode cX4_allOf 2 = .ok (.iconst 0, 1) := by decide +kernel
theorem dX4_allOf_3 : decode cX4_allOf 3 = .ok (.istore_n 3, 1) := by decide +kernel
theorem dX4_allOf_4 : decode cX4_allOf 4 = .ok (.iload_n 3, 1) := by decide +kernel
theorem dX4_allOf_5 : decode cX4_allOf 5 = .ok (.iconst 3, 1) := by decide +kernel
theorem dX4_allOf_6 : decode cX4_allOf 6 = .ok (.if_icmp .ge 22, 3) := by decide +kernel
theorem dX4_allOf_9 : decode cX4_allOf 9 = .ok (.iload_n 2, 1) := by decide +kernel
theorem dX4_allOf_10 : decode cX4_allOf 10 = .ok (.aload_n 0, 1) := by decide +kernel
theorem dX4_allOf_11 : decode cX4_allOf 11 = .ok (.getfield 20, 3) := by decide +kernel
theorem dX4_allOf_14 : decode cX4_allOf 14 = .ok (.iload_n 3, 1) := by decide +kernel
theorem dX4_allOf_15 : decode cX4_allOf 15 = .ok (.aaload, 1) := by decide +kernel
theorem dX4_allOf_16 : decode cX4_allOf 16 = .ok (.iload_n 1, 1) := by decide +kernel
theorem dX4_allOf_17 : decode cX4_allOf 17 = .ok (.invokevirtual 56, 3) := by decide +kernel
theorem dX4_allOf_20 : decode cX4_allOf 20 = .ok (.iadd, 1) := by decide +kernel
theorem dX4_allOf_21 : decode cX4_allOf 21 = .ok (.istore_n 2, 1) := by decide +kernel
theorem dX4_allOf_22 : decode cX4_allOf 22 = .ok (.iinc 3 1, 3) := by decide +kernel
theorem dX4_allOf_25 : decode cX4_allOf 25 = .ok (.goto (-21), 3) := by decide +kernel
theorem dX4_allOf_28 : decode cX4_allOf 28 = .ok (.iload_n 2, 1) := by decide +kernel
theorem dX4_allOf_29 : decode cX4_allOf 29 = .ok (.ireturn, 1) := by decide +kernel
set_option maxRecDepth 20000 in
theorem ggX4_packedSlices_X2_packedSlices : GoodIn wsX4_packedSlices wsX2_packedSlices := goodIn_r _ [7, 8, 9, 10, 6, 11, 12, 13, 14, 15, 16, 17, 18, 19, 20, 21, 22, 29, 30, 31] (by decide +kernel) (by decide +kernel)
set_option maxRecDepth 20000 in
theorem gX4_packedSlices_X2_packedSlices : GoodIn wsX4_packedSlices (wsV RX4 60 RX2 yX2_packedSlices wsX2_packedSlices) := goodIn_app (goodIn_of _ (by decide +kernel)) ggX4_packedSlices_X2_packedSlices
theorem dX4_packedSlices_0 : decode cX4_packedSlices 0 = .ok (.iconst 0, 1) := by decide +kernel
theorem dX4_packedSlices_1 : decode cX4_packedSlices 1 = .ok (.istore_n 1, 1) := by decide +kernel
theorem dX4_packedSlices_2 : decode cX4_packedSlices 2 = .ok (.iconst 0, 1) := by decide +kernel
theorem dX4_packedSlices_3 : decode cX4_packedSlices 3 = .ok (.istore_n 2, 1) := by decide +kernel
theorem dX4_packedSlices_4 : decode cX4_packedSlices 4 = .ok (.iload_n 2, 1) := by decide +kernel
theorem dX4_packedSlices_5 : decode cX4_packedSlices 5 = .ok (.iconst 3, 1) := by decide +kernel
theorem dX4_packedSlices_6 : decode cX4_packedSlices 6 = .ok (.if_icmp .ge 25, 3) := by decide +kernel
theorem dX4_packedSlices_9 : decode cX4_packedSlices 9 = .ok (.iload_n 1, 1) := by decide +kernel
theorem dX4_packedSlices_10 : decode cX4_packedSlices 10 = .ok (.aload_n 0, 1) := by decide +kernel
theorem dX4_packedSlices_11 : decode cX4_packedSlices 11 = .ok (.getfield 20, 3) := by decide +kernel
theorem dX4_packedSlices_14 : decode cX4_packedSlices 14 = .ok (.iload_n 2, 1) := by decide +kernel
theorem dX4_packedSlices_15 : decode cX4_packedSlices 15 = .ok (.aaload, 1) := by decide +kernel
theorem dX4_packedSlices_16 : decode cX4_packedSlices 16 = .ok (.aload_n 0, 1) := by decide +kernel
theorem dX4_packedSlices_17 : decode cX4_packedSlices 17 = .ok (.getfield 12, 3) := by decide +kernel
theorem dX4_packedSlices_20 : decode cX4_packedSlices 20 = .ok (.invokevirtual 60, 3) := by decide +kernel
theorem dX4_packedSlices_23 : decode cX4_packedSlices 23 = .ok (.iadd, 1) := by decide +kernel
theorem dX4_packedSlices_24 : decode cX4_packedSlices 24 = .ok (.istore_n 1, 1) := by decide +kernel
theorem dX4_packedSlices_25 : decode cX4_packedSlices 25 = .ok (.iinc 2 1, 3) := by decide +kernel
theorem dX4_packedSlices_28 : decode cX4_packedSlices 28 = .ok (.goto (-24), 3) := by decide +kernel
theorem dX4_packedSlices_31 : decode cX4_packedSlices 31 = .ok (.iload_n 1, 1) := by decide +kernel
theorem dX4_packedSlices_32 : decode cX4_packedSlices 32 = .ok (.ireturn, 1) := by decide +kernel
set_option maxRecDepth 20000 in
theorem ggX4_clearSlices_X2_clearSlices : GoodIn wsX4_clearSlices wsX2_clearSlices := goodIn_r _ [7, 8, 9, 10, 6, 11, 12, 13, 14, 15, 16, 17, 18, 19, 20, 21, 22, 29, 30, 31] (by decide +kernel) (by decide +kernel)
set_option maxRecDepth 20000 in
theorem gX4_clearSlices_X2_clearSlices : GoodIn wsX4_clearSlices (wsV RX4 64 RX2 yX2_clearSlices wsX2_clearSlices) := goodIn_app (goodIn_of _ (by decide +kernel)) ggX4_clearSlices_X2_clearSlices
theorem dX4_clearSlices_0 : decode cX4_clearSlices 0 = .ok (.iconst 0, 1) := by decide +kernel
theorem dX4_clearSlices_1 : decode cX4_clearSlices 1 = .ok (.istore_n 1, 1) := by decide +kernel
theorem dX4_clearSlices_2 : decode cX4_clearSlices 2 = .ok (.iconst 0, 1) := by decide +kernel
theorem dX4_clearSlices_3 : decode cX4_clearSlices 3 = .ok (.istore_n 2, 1) := by decide +kernel
theorem dX4_clearSlices_4 : decode cX4_clearSlices 4 = .ok (.iload_n 2, 1) := by decide +kernel
theorem dX4_clearSlices_5 : decode cX4_clearSlices 5 = .ok (.iconst 3, 1) := by decide +kernel
theorem dX4_clearSlices_6 : decode cX4_clearSlices 6 = .ok (.if_icmp .ge 25, 3) := by decide +kernel
theorem dX4_clearSlices_9 : decode cX4_clearSlices 9 = .ok (.iload_n 1, 1) := by decide +kernel
theorem dX4_clearSlices_10 : decode cX4_clearSlices 10 = .ok (.aload_n 0, 1) := by decide +kernel
theorem dX4_clearSlices_11 : decode cX4_clearSlices 11 = .ok (.getfield 20, 3) := by decide +kernel
theorem dX4_clearSlices_14 : decode cX4_clearSlices 14 = .ok (.iload_n 2, 1) := by decide +kernel
theorem dX4_clearSlices_15 : decode cX4_clearSlices 15 = .ok (.aaload, 1) := by decide +kernel
theorem dX4_clearSlices_16 : decode cX4_clearSlices 16 = .ok (.aload_n 0, 1) := by decide +kernel
theorem dX4_clearSlices_17 : decode cX4_clearSlices 17 = .ok (.getfield 12, 3) := by decide +kernel
theorem dX4_clearSlices_20 : decode cX4_clearSlices 20 = .ok (.invokevirtual 64, 3) := by decide +kernel
theorem dX4_clearSlices_23 : decode cX4_clearSlices 23 = .ok (.iadd, 1) := by decide +kernel
theorem dX4_clearSlices_24 : decode cX4_clearSlices 24 = .ok (.istore_n 1, 1) := by decide +kernel
theorem dX4_clearSlices_25 : decode cX4_clearSlices 25 = .ok (.iinc 2 1, 3) := by decide +kernel
theorem dX4_clearSlices_28 : decode cX4_clearSlices 28 = .ok (.goto (-24), 3) := by decide +kernel
theorem dX4_clearSlices_31 : decode cX4_clearSlices 31 = .ok (.iload_n 1, 1) := by decide +kernel
theorem dX4_clearSlices_32 : decode cX4_clearSlices 32 = .ok (.ireturn, 1) := by decide +kernel
set_option maxRecDepth 20000 in
theorem ggX5_init_X4_init : GoodIn wsX5_init wsX4_init := goodIn_r _ [22, 23, 2, 3, 24, 25, 26, 27, 28, 29, 30, 31, 32, 17, 18, 33, 34, 35, 36, 37, 38, 39, 40, 41, 70, 71, 54, 55, 56, 57, 58, 59, 69] (by decide +kernel) (by decide +kernel)
set_option maxRecDepth 20000 in
theorem gX5_init_X4_init : GoodIn wsX5_init (wsX4_init) := ggX5_init_X4_init
set_option maxRecDepth 20000 in
theorem ggX5_init_X1_init : GoodIn wsX5_init wsX1_init := goodIn_r _ [44, 45, 2, 3, 46, 47, 5, 6, 48, 21, 22, 23, 24, 25, 26, 27, 28, 29, 30, 31, 32, 17, 18, 33, 34, 35, 36, 37, 38, 39, 40, 41, 64, 65, 66, 54, 55, 56, 57, 58, 59, 70, 71, 69] (by decide +kernel) (by decide +kernel)
set_option maxRecDepth 20000 in
theorem gX5_init_X1_init : GoodIn wsX5_init (wsX1_init) := ggX5_init_X1_init
set_option maxRecDepth 20000 in
theorem ggX5_init_X0_init : GoodIn wsX5_init wsX0_init := goodIn_r _ [50, 51, 2, 3, 52, 53, 67, 68] (by decide +kernel) (by decide +kernel)
set_option maxRecDepth 20000 in
theorem gX5_init_X0_init_n25 : GoodIn wsX5_init (wsX0_init) := ggX5_init_X0_init
set_option maxRecDepth 20000 in
theorem ggX5_init_X2_init : GoodIn wsX5_init wsX2_init := goodIn_r _ [39, 40, 2, 3, 30, 41, 69] (by decide +kernel) (by decide +kernel)
set_option maxRecDepth 20000 in
theorem gX5_init_X2_init_n32 : GoodIn wsX5_init (wsX2_init) := ggX5_init_X2_init
theorem dX5_init_0 : decode cX5_init 0 = .ok (.aload_n 0, 1) := by decide +kernel
theorem dX5_init_1 : decode cX5_init 1 = .ok (.invokespecial 3, 3) := by decide +kernel
theorem dX5_init_4 : decode cX5_init 4 = .ok (.aload_n 0, 1) := by decide +kernel
theorem dX5_init_5 : decode cX5_init 5 = .ok (.new 9, 3) := by decide +kernel
theorem dX5_init_8 : decode cX5_init 8 = .ok (.dup, 1) := by decide +kernel
theorem dX5_init_9 : decode cX5_init 9 = .ok (.invokespecial 11, 3) := by decide +kernel
theorem dX5_init_12 : decode cX5_init 12 = .ok (.putfield 12, 3) := by decide +kernel
theorem dX5_init_15 : decode cX5_init 15 = .ok (.aload_n 0, 1) := by decide +kernel
theorem dX5_init_16 : decode cX5_init 16 = .ok (.new 16, 3) := by decide +kernel
theorem dX5_init_19 : decode cX5_init 19 = .ok (.dup, 1) := by decide +kernel
theorem dX5_init_20 : decode cX5_init 20 = .ok (.invokespecial 18, 3) := by decide +kernel
theorem dX5_init_23 : decode cX5_init 23 = .ok (.putfield 19, 3) := by decide +kernel
theorem dX5_init_26 : decode cX5_init 26 = .ok (.aload_n 0, 1) := by decide +kernel
theorem dX5_init_27 : decode cX5_init 27 = .ok (.new 23, 3) := by decide +kernel
theorem dX5_init_30 : decode cX5_init 30 = .ok (.dup, 1) := by decide +kernel
theorem dX5_init_31 : decode cX5_init 31 = .ok (.invokespecial 25, 3) := by decide +kernel
theorem dX5_init_34 : decode cX5_init 34 = .ok (.putfield 26, 3) := by decide +kernel
theorem dX5_init_37 : decode cX5_init 37 = .ok (.aload_n 0, 1) := by decide +kernel
theorem dX5_init_38 : decode cX5_init 38 = .ok (.new 30, 3) := by decide +kernel
theorem dX5_init_41 : decode cX5_init 41 = .ok (.dup, 1) := by decide +kernel
theorem dX5_init_42 : decode cX5_init 42 = .ok (.invokespecial 32, 3) := by decide +kernel
theorem dX5_init_45 : decode cX5_init 45 = .ok (.putfield 33, 3) := by decide +kernel
theorem dX5_init_48 : decode cX5_init 48 = .ok (.return_, 1) := by decide +kernel
set_option maxRecDepth 20000 in
theorem ggX5_set_X5_needIndex : GoodIn wsX5_set wsX5_needIndex := goodIn_ca (goodIn_r _ [10, 11, 12] (by decide +kernel) (by decide +kernel)) (goodIn_sub (fun _ h => List.mem_cons_of_mem _ (List.mem_append_left _ (List.mem_append_right _ h))) (by decide +kernel))
set_option maxRecDepth 20000 in
theorem gX5_set_X5_needIndex : GoodIn wsX5_set (va_wsS RX5 37 yX5_needIndex wsX5_needIndex) := goodIn_app (goodIn_of _ (by decide +kernel)) ggX5_set_X5_needIndex
set_option maxRecDepth 20000 in
theorem ggX5_set_X5_needRange : GoodIn wsX5_set wsX5_needRange := goodIn_ca (goodIn_r _ [15, 16, 17] (by decide +kernel) (by decide +kernel)) (goodIn_sub (fun _ h => List.mem_cons_of_mem _ (List.mem_append_right _ h)) (by decide +kernel))
set_option maxRecDepth 20000 in
theorem gX5_set_X5_needRange : GoodIn wsX5_set (va_wsS RX5 50 yX5_needRange wsX5_needRange) := goodIn_app (goodIn_of _ (by decide +kernel)) ggX5_set_X5_needRange
set_option maxRecDepth 20000 in
theorem ggX5_set_X1_keep : GoodIn wsX5_set wsX1_keep := goodIn_r _ [22, 23, 24, 25, 26, 27, 28, 29, 30, 31, 32, 33, 34, 35, 36, 37, 38, 39, 40, 41, 42, 43, 44, 45, 46, 47, 48, 49, 50, 51, 52, 53, 54, 55, 68, 69, 70, 60, 61, 62, 63, 64, 65, 66, 67, 71] (by decide +kernel) (by decide +kernel)
set_option maxRecDepth 20000 in
theorem gX5_set_X1_keep : GoodIn wsX5_set (wsV RX5 54 RX1 yX1_keep wsX1_keep) := goodIn_app (goodIn_of _ (by decide +kernel)) ggX5_set_X1_keep
theorem dX5_set_0 : decode cX5_set 0 = .ok (.iload_n 1, 1) := by decide +kernel
theorem dX5_set_1 : decode cX5_set 1 = .ok (.iconst 4, 1) := by decide +kernel
theorem dX5_set_2 : decode cX5_set 2 = .ok (.invokestatic 37, 3) := by decide +kernel
theorem dX5_set_5 : decode cX5_set 5 = .ok (.iload_n 2, 1) := by decide +kernel
theorem dX5_set_6 : decode cX5_set 6 = .ok (.getstatic 41, 3) := by decide +kernel
theorem dX5_set_9 : decode cX5_set 9 = .ok (.iload_n 1, 1) := by decide +kernel
theorem dX5_set_10 : decode cX5_set 10 = .ok (.iaload, 1) := by decide +kernel
theorem dX5_set_11 : decode cX5_set 11 = .ok (.getstatic 47, 3) := by decide +kernel
theorem dX5_set_14 : decode cX5_set 14 = .ok (.iload_n 1, 1) := by decide +kernel
theorem dX5_set_15 : decode cX5_set 15 = .ok (.iaload, 1) := by decide +kernel
theorem dX5_set_16 : decode cX5_set 16 = .ok (.invokestatic 50, 3) := by decide +kernel
theorem dX5_set_19 : decode cX5_set 19 = .ok (.aload_n 0, 1) := by decide +kernel
theorem dX5_set_20 : decode cX5_set 20 = .ok (.getfield 19, 3) := by decide +kernel
theorem dX5_set_23 : decode cX5_set 23 = .ok (.aload_n 0, 1) := by decide +kernel
theorem dX5_set_24 : decode cX5_set 24 = .ok (.getfield 12, 3) := by decide +kernel
theorem dX5_set_27 : decode cX5_set 27 = .ok (.invokevirtual 54, 3) := by decide +kernel
theorem dX5_set_30 : decode cX5_set 30 = .ok (.aload_n 0, 1) := by decide +kernel
theorem dX5_set_31 : decode cX5_set 31 = .ok (.getfield 12, 3) := by decide +kernel
theorem dX5_set_34 : decode cX5_set 34 = .ok (.getfield 58, 3) := by decide +kernel
theorem dX5_set_37 : decode cX5_set 37 = .ok (.getfield 62, 3) := by decide +kernel
theorem dX5_set_40 : decode cX5_set 40 = .ok (.iload_n 1, 1) := by decide +kernel
theorem dX5_set_41 : decode cX5_set 41 = .ok (.iaload, 1) := by decide +kernel
theorem dX5_set_42 : decode cX5_set 42 = .ok (.istore_n 3, 1) := by decide +kernel
theorem dX5_set_43 : decode cX5_set 43 = .ok (.aload_n 0, 1) := by decide +kernel
theorem dX5_set_44 : decode cX5_set 44 = .ok (.getfield 12, 3) := by decide +kernel
theorem dX5_set_47 : decode cX5_set 47 = .ok (.getfield 58, 3) := by decide +kernel
theorem dX5_set_50 : decode cX5_set 50 = .ok (.getfield 62, 3) := by decide +kernel
theorem dX5_set_53 : decode cX5_set 53 = .ok (.iload_n 1, 1) := by decide +kernel
theorem dX5_set_54 : decode cX5_set 54 = .ok (.iload_n 2, 1) := by decide +kernel
theorem dX5_set_55 : decode cX5_set 55 = .ok (.iastore, 1) := by decide +kernel
theorem dX5_set_56 : decode cX5_set 56 = .ok (.iload_n 3, 1) := by decide +kernel
theorem dX5_set_57 : decode cX5_set 57 = .ok (.ireturn, 1) := by decide +kernel
set_option maxRecDepth 20000 in
theorem ggX5_setSpeed_X5_needIndex : GoodIn wsX5_setSpeed wsX5_needIndex := goodIn_ca (goodIn_r _ [8, 9, 10] (by decide +kernel) (by decide +kernel)) (goodIn_sub (fun _ h => List.mem_cons_of_mem _ (List.mem_append_left _ (List.mem_append_right _ h))) (by decide +kernel))
set_option maxRecDepth 20000 in
theorem gX5_setSpeed_X5_needIndex : GoodIn wsX5_setSpeed (va_wsS RX5 37 yX5_needIndex wsX5_needIndex) := goodIn_app (goodIn_of _ (by decide +kernel)) ggX5_setSpeed_X5_needIndex
set_option maxRecDepth 20000 in
theorem ggX5_setSpeed_X5_needRange : GoodIn wsX5_setSpeed wsX5_needRange := goodIn_ca (goodIn_r _ [13, 14, 15] (by decide +kernel) (by decide +kernel)) (goodIn_sub (fun _ h => List.mem_cons_of_mem _ (List.mem_append_right _ h)) (by decide +kernel))
set_option maxRecDepth 20000 in
theorem gX5_setSpeed_X5_needRange : GoodIn wsX5_setSpeed (va_wsS RX5 50 yX5_needRange wsX5_needRange) := goodIn_app (goodIn_of _ (by decide +kernel)) ggX5_setSpeed_X5_needRange
set_option maxRecDepth 20000 in
theorem ggX5_setSpeed_X1_keep : GoodIn wsX5_setSpeed wsX1_keep := goodIn_r _ [20, 21, 22, 23, 24, 25, 26, 27, 28, 29, 30, 31, 32, 33, 34, 35, 36, 37, 38, 39, 40, 41, 42, 43, 44, 45, 46, 47, 48, 49, 50, 51, 52, 53, 66, 67, 68, 58, 59, 60, 61, 62, 63, 64, 65, 69] (by decide +kernel) (by decide +kernel)
set_option maxRecDepth 20000 in
theorem gX5_setSpeed_X1_keep : GoodIn wsX5_setSpeed (wsV RX5 54 RX1 yX1_keep wsX1_keep) := goodIn_app (goodIn_of _ (by decide +kernel)) ggX5_setSpeed_X1_keep
theorem dX5_setSpeed_0 : decode cX5_setSpeed 0 = .ok (.iload_n 1, 1) := by decide +kernel
theorem dX5_setSpeed_1 : decode cX5_setSpeed 1 = .ok (.iconst 4, 1) := by decide +kernel
theorem dX5_setSpeed_2 : decode cX5_setSpeed 2 = .ok (.invokestatic 37, 3) := by decide +kernel
theorem dX5_setSpeed_5 : decode cX5_setSpeed 5 = .ok (.iload_n 2, 1) := by decide +kernel
theorem dX5_setSpeed_6 : decode cX5_setSpeed 6 = .ok (.iconst 1, 1) := by decide +kernel
theorem dX5_setSpeed_7 : decode cX5_setSpeed 7 = .ok (.bipush 100, 2) := by decide +kernel
theorem dX5_setSpeed_9 : decode cX5_setSpeed 9 = .ok (.invokestatic 50, 3) := by decide +kernel
theorem dX5_setSpeed_12 : decode cX5_setSpeed 12 = .ok (.aload_n 0, 1) := by decide +kernel
theorem dX5_setSpeed_13 : decode cX5_setSpeed 13 = .ok (.getfield 19, 3) := by decide +kernel
theorem dX5_setSpeed_16 : decode cX5_setSpeed 16 = .ok (.aload_n 0, 1) := by decide +kernel
theorem dX5_setSpeed_17 : decode cX5_setSpeed 17 = .ok (.getfield 12, 3) := by decide +kernel
theorem dX5_setSpeed_20 : decode cX5_setSpeed 20 = .ok (.invokevirtual 54, 3) := by decide +kernel
theorem dX5_setSpeed_23 : decode cX5_setSpeed 23 = .ok (.aload_n 0, 1) := by decide +kernel
theorem dX5_setSpeed_24 : decode cX5_setSpeed 24 = .ok (.getfield 12, 3) := by decide +kernel
theorem dX5_setSpeed_27 : decode cX5_setSpeed 27 = .ok (.getfield 58, 3) := by decide +kernel
theorem dX5_setSpeed_30 : decode cX5_setSpeed 30 = .ok (.getfield 65, 3) := by decide +kernel
theorem dX5_setSpeed_33 : decode cX5_setSpeed 33 = .ok (.iload_n 1, 1) := by decide +kernel
theorem dX5_setSpeed_34 : decode cX5_setSpeed 34 = .ok (.iaload, 1) := by decide +kernel
theorem dX5_setSpeed_35 : decode cX5_setSpeed 35 = .ok (.istore_n 3, 1) := by decide +kernel
theorem dX5_setSpeed_36 : decode cX5_setSpeed 36 = .ok (.aload_n 0, 1) := by decide +kernel
theorem dX5_setSpeed_37 : decode cX5_setSpeed 37 = .ok (.getfield 12, 3) := by decide +kernel
theorem dX5_setSpeed_40 : decode cX5_setSpeed 40 = .ok (.getfield 58, 3) := by decide +kernel
theorem dX5_setSpeed_43 : decode cX5_setSpeed 43 = .ok (.getfield 65, 3) := by decide +kernel
theorem dX5_setSpeed_46 : decode cX5_setSpeed 46 = .ok (.iload_n 1, 1) := by decide +kernel
theorem dX5_setSpeed_47 : decode cX5_setSpeed 47 = .ok (.iload_n 2, 1) := by decide +kernel
theorem dX5_setSpeed_48 : decode cX5_setSpeed 48 = .ok (.iastore, 1) := by decide +kernel
theorem dX5_setSpeed_49 : decode cX5_setSpeed 49 = .ok (.iload_n 3, 1) := by decide +kernel
theorem dX5_setSpeed_50 : decode cX5_setSpeed 50 = .ok (.ireturn, 1) := by decide +kernel
set_option maxRecDepth 20000 in
theorem ggX5_pour_X5_needSlice : GoodIn wsX5_pour wsX5_needSlice := goodIn_ca (goodIn_r _ [8, 9, 10, 7, 11, 12, 13] (by decide +kernel) (by decide +kernel)) (goodIn_sub (fun _ h => List.mem_cons_of_mem _ (List.mem_append_left _ (List.mem_append_left _ (List.mem_append_right _ h)))) (by decide +kernel))
set_option maxRecDepth 20000 in
theorem gX5_pour_X5_needSlice : GoodIn wsX5_pour (va_wsS RX5 68 yX5_needSlice wsX5_needSlice) := goodIn_app (goodIn_of _ (by decide +kernel)) ggX5_pour_X5_needSlice
set_option maxRecDepth 20000 in
theorem ggX5_pour_X5_needIndex : GoodIn wsX5_pour wsX5_needIndex := goodIn_ca (goodIn_r _ [11, 12, 13] (by decide +kernel) (by decide +kernel)) (goodIn_sub (fun _ h => List.mem_cons_of_mem _ (List.mem_append_left _ (List.mem_append_left _ (List.mem_append_right _ h)))) (by decide +kernel))
set_option maxRecDepth 20000 in
theorem gX5_pour_X5_needIndex : GoodIn wsX5_pour (va_wsS RX5 37 yX5_needIndex wsX5_needIndex) := goodIn_app (goodIn_of _ (by decide +kernel)) ggX5_pour_X5_needIndex
set_option maxRecDepth 20000 in
theorem ggX5_pour_X5_needRange : GoodIn wsX5_pour wsX5_needRange := goodIn_ca (goodIn_r _ [16, 17, 18] (by decide +kernel) (by decide +kernel)) (goodIn_sub (fun _ h => List.mem_cons_of_mem _ (List.mem_append_left _ (List.mem_append_right _ h))) (by decide +kernel))
set_option maxRecDepth 20000 in
theorem gX5_pour_X5_needRange : GoodIn wsX5_pour (va_wsS RX5 50 yX5_needRange wsX5_needRange) := goodIn_app (goodIn_of _ (by decide +kernel)) ggX5_pour_X5_needRange
set_option maxRecDepth 20000 in
theorem ggX5_pour_X5_needRoom : GoodIn wsX5_pour wsX5_needRoom := goodIn_ca (goodIn_r _ [21, 22, 23, 24, 25, 26, 27, 28, 29, 30, 31, 32, 33, 34, 35, 36, 37, 38, 39, 40, 41, 93] (by decide +kernel) (by decide +kernel)) (goodIn_sub (fun _ h => List.mem_cons_of_mem _ (List.mem_append_right _ h)) (by decide +kernel))
set_option maxRecDepth 20000 in
theorem gX5_pour_X5_needRoom : GoodIn wsX5_pour (va_wsS RX5 75 yX5_needRoom wsX5_needRoom) := goodIn_app (goodIn_of _ (by decide +kernel)) ggX5_pour_X5_needRoom
set_option maxRecDepth 20000 in
theorem ggX5_pour_X1_keep : GoodIn wsX5_pour wsX1_keep := goodIn_r _ [46, 47, 48, 49, 50, 51, 52, 53, 54, 55, 56, 57, 58, 59, 60, 61, 62, 63, 64, 65, 66, 67, 68, 69, 70, 71, 72, 73, 74, 75, 27, 76, 41, 77, 94, 95, 96, 87, 88, 89, 90, 91, 92, 97, 98, 93] (by decide +kernel) (by decide +kernel)
set_option maxRecDepth 20000 in
theorem gX5_pour_X1_keep : GoodIn wsX5_pour (wsV RX5 54 RX1 yX1_keep wsX1_keep) := goodIn_app (goodIn_of _ (by decide +kernel)) ggX5_pour_X1_keep
set_option maxRecDepth 20000 in
theorem ggX5_pour_X2_put : GoodIn wsX5_pour wsX2_put := goodIn_r _ [81, 41, 93] (by decide +kernel) (by decide +kernel)
set_option maxRecDepth 20000 in
theorem gX5_pour_X2_put : GoodIn wsX5_pour (wsV RX5 79 RX2 yX2_put wsX2_put) := goodIn_app (goodIn_of _ (by decide +kernel)) ggX5_pour_X2_put
set_option maxRecDepth 20000 in
theorem ggX5_pour_X2_allIn : GoodIn wsX5_pour wsX2_allIn := goodIn_r _ [36, 37, 38, 39, 27, 40, 41, 93] (by decide +kernel) (by decide +kernel)
set_option maxRecDepth 20000 in
theorem gX5_pour_X2_allIn : GoodIn wsX5_pour (wsV RX5 85 RX2 yX2_allIn wsX2_allIn) := goodIn_app (goodIn_of _ (by decide +kernel)) ggX5_pour_X2_allIn
theorem dX5_pour_0 : decode cX5_pour 0 = .ok (.iload_n 1, 1) := by decide +kernel
theorem dX5_pour_1 : decode cX5_pour 1 = .ok (.iload_n 2, 1) := by decide +kernel
theorem dX5_pour_2 : decode cX5_pour 2 = .ok (.invokestatic 68, 3) := by decide +kernel
theorem dX5_pour_5 : decode cX5_pour 5 = .ok (.iload_n 3, 1) := by decide +kernel
theorem dX5_pour_6 : decode cX5_pour 6 = .ok (.iconst 4, 1) := by decide +kernel
theorem dX5_pour_7 : decode cX5_pour 7 = .ok (.invokestatic 37, 3) := by decide +kernel
theorem dX5_pour_10 : decode cX5_pour 10 = .ok (.iload 4, 2) := by decide +kernel
theorem dX5_pour_12 : decode cX5_pour 12 = .ok (.iconst 1, 1) := by decide +kernel
theorem dX5_pour_13 : decode cX5_pour 13 = .ok (.sipush 999, 3) := by decide +kernel
theorem dX5_pour_16 : decode cX5_pour 16 = .ok (.invokestatic 50, 3) := by decide +kernel
theorem dX5_pour_19 : decode cX5_pour 19 = .ok (.aload_n 0, 1) := by decide +kernel
theorem dX5_pour_20 : decode cX5_pour 20 = .ok (.getfield 12, 3) := by decide +kernel
theorem dX5_pour_23 : decode cX5_pour 23 = .ok (.getfield 71, 3) := by decide +kernel
theorem dX5_pour_26 : decode cX5_pour 26 = .ok (.iload_n 1, 1) := by decide +kernel
theorem dX5_pour_27 : decode cX5_pour 27 = .ok (.aaload, 1) := by decide +kernel
theorem dX5_pour_28 : decode cX5_pour 28 = .ok (.astore 5, 2) := by decide +kernel
theorem dX5_pour_30 : decode cX5_pour 30 = .ok (.aload 5, 2) := by decide +kernel
theorem dX5_pour_32 : decode cX5_pour 32 = .ok (.iload 4, 2) := by decide +kernel
theorem dX5_pour_34 : decode cX5_pour 34 = .ok (.invokestatic 75, 3) := by decide +kernel
theorem dX5_pour_37 : decode cX5_pour 37 = .ok (.aload_n 0, 1) := by decide +kernel
theorem dX5_pour_38 : decode cX5_pour 38 = .ok (.getfield 19, 3) := by decide +kernel
theorem dX5_pour_41 : decode cX5_pour 41 = .ok (.aload_n 0, 1) := by decide +kernel
theorem dX5_pour_42 : decode cX5_pour 42 = .ok (.getfield 12, 3) := by decide +kernel
theorem dX5_pour_45 : decode cX5_pour 45 = .ok (.invokevirtual 54, 3) := by decide +kernel
theorem dX5_pour_48 : decode cX5_pour 48 = .ok (.aload 5, 2) := by decide +kernel
theorem dX5_pour_50 : decode cX5_pour 50 = .ok (.iload_n 2, 1) := by decide +kernel
theorem dX5_pour_51 : decode cX5_pour 51 = .ok (.iload_n 3, 1) := by decide +kernel
theorem dX5_pour_52 : decode cX5_pour 52 = .ok (.iload 4, 2) := by decide +kernel
theorem dX5_pour_54 : decode cX5_pour 54 = .ok (.invokevirtual 79, 3) := by decide +kernel
theorem dX5_pour_57 : decode cX5_pour 57 = .ok (.aload_n 0, 1) := by decide +kernel
theorem dX5_pour_58 : decode cX5_pour 58 = .ok (.getfield 12, 3) := by decide +kernel
theorem dX5_pour_61 : decode cX5_pour 61 = .ok (.getfield 82, 3) := by decide +kernel
theorem dX5_pour_64 : decode cX5_pour 64 = .ok (.iload_n 3, 1) := by decide +kernel
theorem dX5_pour_65 : decode cX5_pour 65 = .ok (.dup2, 1) := by decide +kernel
theorem dX5_pour_66 : decode cX5_pour 66 = .ok (.iaload, 1) := by decide +kernel
theorem dX5_pour_67 : decode cX5_pour 67 = .ok (.iload 4, 2) := by decide +kernel
theorem dX5_pour_69 : decode cX5_pour 69 = .ok (.iadd, 1) := by decide +kernel
theorem dX5_pour_70 : decode cX5_pour 70 = .ok (.iastore, 1) := by decide +kernel
theorem dX5_pour_71 : decode cX5_pour 71 = .ok (.aload 5, 2) := by decide +kernel
theorem dX5_pour_73 : decode cX5_pour 73 = .ok (.iload_n 2, 1) := by decide +kernel
theorem dX5_pour_74 : decode cX5_pour 74 = .ok (.invokevirtual 85, 3) := by decide +kernel
theorem dX5_pour_77 : decode cX5_pour 77 = .ok (.ireturn, 1) := by decide +kernel
set_option maxRecDepth 20000 in
theorem ggX5_stir_X5_needSlice : GoodIn wsX5_stir wsX5_needSlice := goodIn_ca (goodIn_r _ [7, 8, 9, 6, 10, 11, 12] (by decide +kernel) (by decide +kernel)) (goodIn_sub (fun _ h => List.mem_cons_of_mem _ (List.mem_append_left _ (List.mem_append_right _ h))) (by decide +kernel))
set_option maxRecDepth 20000 in
theorem gX5_stir_X5_needSlice : GoodIn wsX5_stir (va_wsS RX5 68 yX5_needSlice wsX5_needSlice) := goodIn_app (goodIn_of _ (by decide +kernel)) ggX5_stir_X5_needSlice
set_option maxRecDepth 20000 in
theorem ggX5_stir_X5_needIndex : GoodIn wsX5_stir wsX5_needIndex := goodIn_ca (goodIn_r _ [10, 11, 12] (by decide +kernel) (by decide +kernel)) (goodIn_sub (fun _ h => List.mem_cons_of_mem _ (List.mem_append_left _ (List.mem_append_right _ h))) (by decide +kernel))
set_option maxRecDepth 20000 in
theorem gX5_stir_X5_needIndex : GoodIn wsX5_stir (va_wsS RX5 37 yX5_needIndex wsX5_needIndex) := goodIn_app (goodIn_of _ (by decide +kernel)) ggX5_stir_X5_needIndex
set_option maxRecDepth 20000 in
theorem ggX5_stir_X5_needRange : GoodIn wsX5_stir wsX5_needRange := goodIn_ca (goodIn_r _ [15, 16, 17] (by decide +kernel) (by decide +kernel)) (goodIn_sub (fun _ h => List.mem_cons_of_mem _ (List.mem_append_right _ h)) (by decide +kernel))
set_option maxRecDepth 20000 in
theorem gX5_stir_X5_needRange : GoodIn wsX5_stir (va_wsS RX5 50 yX5_needRange wsX5_needRange) := goodIn_app (goodIn_of _ (by decide +kernel)) ggX5_stir_X5_needRange
set_option maxRecDepth 20000 in
theorem ggX5_stir_X1_keep : GoodIn wsX5_stir wsX1_keep := goodIn_r _ [22, 23, 24, 25, 26, 27, 28, 29, 30, 31, 32, 33, 34, 35, 36, 37, 38, 39, 40, 41, 42, 43, 44, 45, 46, 47, 48, 49, 50, 51, 52, 53, 54, 55, 78, 79, 80, 72, 73, 74, 75, 76, 77, 81, 82, 83] (by decide +kernel) (by decide +kernel)
set_option maxRecDepth 20000 in
theorem gX5_stir_X1_keep : GoodIn wsX5_stir (wsV RX5 54 RX1 yX1_keep wsX1_keep) := goodIn_app (goodIn_of _ (by decide +kernel)) ggX5_stir_X1_keep
set_option maxRecDepth 20000 in
theorem ggX5_stir_X2_spread : GoodIn wsX5_stir wsX2_spread := goodIn_r _ [59, 60, 61, 62, 52, 63, 54, 64, 65, 66, 67, 83] (by decide +kernel) (by decide +kernel)
set_option maxRecDepth 20000 in
theorem gX5_stir_X2_spread : GoodIn wsX5_stir (wsV RX5 89 RX2 yX2_spread wsX2_spread) := goodIn_app (goodIn_of _ (by decide +kernel)) ggX5_stir_X2_spread
theorem dX5_stir_0 : decode cX5_stir 0 = .ok (.iload_n 1, 1) := by decide +kernel
theorem dX5_stir_1 : decode cX5_stir 1 = .ok (.iload_n 2, 1) := by decide +kernel
theorem dX5_stir_2 : decode cX5_stir 2 = .ok (.invokestatic 68, 3) := by decide +kernel
theorem dX5_stir_5 : decode cX5_stir 5 = .ok (.iload_n 3, 1) := by decide +kernel
theorem dX5_stir_6 : decode cX5_stir 6 = .ok (.bipush 12, 2) := by decide +kernel
theorem dX5_stir_8 : decode cX5_stir 8 = .ok (.invokestatic 37, 3) := by decide +kernel
theorem dX5_stir_11 : decode cX5_stir 11 = .ok (.iload_n 2, 1) := by decide +kernel
theorem dX5_stir_12 : decode cX5_stir 12 = .ok (.iconst 0, 1) := by decide +kernel
theorem dX5_stir_13 : decode cX5_stir 13 = .ok (.iload_n 3, 1) := by decide +kernel
theorem dX5_stir_14 : decode cX5_stir 14 = .ok (.invokestatic 50, 3) := by decide +kernel
theorem dX5_stir_17 : decode cX5_stir 17 = .ok (.aload_n 0, 1) := by decide +kernel
theorem dX5_stir_18 : decode cX5_stir 18 = .ok (.getfield 19, 3) := by decide +kernel
theorem dX5_stir_21 : decode cX5_stir 21 = .ok (.aload_n 0, 1) := by decide +kernel
theorem dX5_stir_22 : decode cX5_stir 22 = .ok (.getfield 12, 3) := by decide +kernel
theorem dX5_stir_25 : decode cX5_stir 25 = .ok (.invokevirtual 54, 3) := by decide +kernel
theorem dX5_stir_28 : decode cX5_stir 28 = .ok (.iconst 0, 1) := by decide +kernel
theorem dX5_stir_29 : decode cX5_stir 29 = .ok (.istore 4, 2) := by decide +kernel
theorem dX5_stir_31 : decode cX5_stir 31 = .ok (.iconst 0, 1) := by decide +kernel
theorem dX5_stir_32 : decode cX5_stir 32 = .ok (.istore 5, 2) := by decide +kernel
theorem dX5_stir_34 : decode cX5_stir 34 = .ok (.iload 5, 2) := by decide +kernel
theorem dX5_stir_36 : decode cX5_stir 36 = .ok (.iconst 4, 1) := by decide +kernel
theorem dX5_stir_37 : decode cX5_stir 37 = .ok (.if_icmp .ge 30, 3) := by decide +kernel
theorem dX5_stir_40 : decode cX5_stir 40 = .ok (.iload 4, 2) := by decide +kernel
theorem dX5_stir_42 : decode cX5_stir 42 = .ok (.aload_n 0, 1) := by decide +kernel
theorem dX5_stir_43 : decode cX5_stir 43 = .ok (.getfield 12, 3) := by decide +kernel
theorem dX5_stir_46 : decode cX5_stir 46 = .ok (.getfield 71, 3) := by decide +kernel
theorem dX5_stir_49 : decode cX5_stir 49 = .ok (.iload_n 1, 1) := by decide +kernel
theorem dX5_stir_50 : decode cX5_stir 50 = .ok (.aaload, 1) := by decide +kernel
theorem dX5_stir_51 : decode cX5_stir 51 = .ok (.iload_n 2, 1) := by decide +kernel
theorem dX5_stir_52 : decode cX5_stir 52 = .ok (.iload_n 3, 1) := by decide +kernel
theorem dX5_stir_53 : decode cX5_stir 53 = .ok (.iload 5, 2) := by decide +kernel
theorem dX5_stir_55 : decode cX5_stir 55 = .ok (.invokevirtual 89, 3) := by decide +kernel
theorem dX5_stir_58 : decode cX5_stir 58 = .ok (.iadd, 1) := by decide +kernel
theorem dX5_stir_59 : decode cX5_stir 59 = .ok (.istore 4, 2) := by decide +kernel
theorem dX5_stir_61 : decode cX5_stir 61 = .ok (.iinc 5 1, 3) := by decide +kernel
theorem dX5_stir_64 : decode cX5_stir 64 = .ok (.goto (-30), 3) := by decide +kernel
theorem dX5_stir_67 : decode cX5_stir 67 = .ok (.iload 4, 2) := by decide +kernel
theorem dX5_stir_69 : decode cX5_stir 69 = .ok (.ireturn, 1) := by decide +kernel
set_option maxRecDepth 20000 in
theorem ggX5_draw_X5_needSlice : GoodIn wsX5_draw wsX5_needSlice := goodIn_ca (goodIn_r _ [8, 9, 10, 7, 11, 12, 13] (by decide +kernel) (by decide +kernel)) (goodIn_sub (fun _ h => List.mem_cons_of_mem _ (List.mem_append_left _ (List.mem_append_right _ h))) (by decide +kernel))
set_option maxRecDepth 20000 in
theorem gX5_draw_X5_needSlice : GoodIn wsX5_draw (va_wsS RX5 68 yX5_needSlice wsX5_needSlice) := goodIn_app (goodIn_of _ (by decide +kernel)) ggX5_draw_X5_needSlice
set_option maxRecDepth 20000 in
theorem ggX5_draw_X5_needRange : GoodIn wsX5_draw wsX5_needRange := goodIn_ca (goodIn_r _ [16, 17, 18] (by decide +kernel) (by decide +kernel)) (goodIn_sub (fun _ h => List.mem_cons_of_mem _ (List.mem_append_right _ h)) (by decide +kernel))
set_option maxRecDepth 20000 in
theorem gX5_draw_X5_needRange : GoodIn wsX5_draw (va_wsS RX5 50 yX5_needRange wsX5_needRange) := goodIn_app (goodIn_of _ (by decide +kernel)) ggX5_draw_X5_needRange
set_option maxRecDepth 20000 in
theorem ggX5_draw_X1_keep : GoodIn wsX5_draw wsX1_keep := goodIn_r _ [23, 24, 25, 26, 27, 28, 29, 30, 31, 32, 33, 34, 35, 36, 37, 38, 39, 40, 41, 42, 43, 44, 45, 46, 47, 48, 49, 50, 51, 52, 53, 54, 55, 56, 75, 76, 77, 69, 70, 71, 72, 73, 74, 78, 79, 80] (by decide +kernel) (by decide +kernel)
set_option maxRecDepth 20000 in
theorem gX5_draw_X1_keep : GoodIn wsX5_draw (wsV RX5 54 RX1 yX1_keep wsX1_keep) := goodIn_app (goodIn_of _ (by decide +kernel)) ggX5_draw_X1_keep
set_option maxRecDepth 20000 in
theorem ggX5_draw_X2_many : GoodIn wsX5_draw wsX2_many := goodIn_r _ [60, 55, 80] (by decide +kernel) (by decide +kernel)
set_option maxRecDepth 20000 in
theorem gX5_draw_X2_many : GoodIn wsX5_draw (wsV RX5 93 RX2 yX2_many wsX2_many) := goodIn_app (goodIn_of _ (by decide +kernel)) ggX5_draw_X2_many
set_option maxRecDepth 20000 in
theorem ggX5_draw_X2_put : GoodIn wsX5_draw wsX2_put := goodIn_r _ [64, 55, 80] (by decide +kernel) (by decide +kernel)
set_option maxRecDepth 20000 in
theorem gX5_draw_X2_put : GoodIn wsX5_draw (wsV RX5 79 RX2 yX2_put wsX2_put) := goodIn_app (goodIn_of _ (by decide +kernel)) ggX5_draw_X2_put
theorem dX5_draw_0 : decode cX5_draw 0 = .ok (.iload_n 1, 1) := by decide +kernel
theorem dX5_draw_1 : decode cX5_draw 1 = .ok (.iload_n 2, 1) := by decide +kernel
theorem dX5_draw_2 : decode cX5_draw 2 = .ok (.invokestatic 68, 3) := by decide +kernel
theorem dX5_draw_5 : decode cX5_draw 5 = .ok (.iload_n 3, 1) := by decide +kernel
theorem dX5_draw_6 : decode cX5_draw 6 = .ok (.iconst 1, 1) := by decide +kernel
theorem dX5_draw_7 : decode cX5_draw 7 = .ok (.bipush 100, 2) := by decide +kernel
theorem dX5_draw_9 : decode cX5_draw 9 = .ok (.invokestatic 50, 3) := by decide +kernel
theorem dX5_draw_12 : decode cX5_draw 12 = .ok (.aload_n 0, 1) := by decide +kernel
theorem dX5_draw_13 : decode cX5_draw 13 = .ok (.getfield 19, 3) := by decide +kernel
theorem dX5_draw_16 : decode cX5_draw 16 = .ok (.aload_n 0, 1) := by decide +kernel
theorem dX5_draw_17 : decode cX5_draw 17 = .ok (.getfield 12, 3) := by decide +kernel
theorem dX5_draw_20 : decode cX5_draw 20 = .ok (.invokevirtual 54, 3) := by decide +kernel
theorem dX5_draw_23 : decode cX5_draw 23 = .ok (.aload_n 0, 1) := by decide +kernel
theorem dX5_draw_24 : decode cX5_draw 24 = .ok (.getfield 12, 3) := by decide +kernel
theorem dX5_draw_27 : decode cX5_draw 27 = .ok (.getfield 71, 3) := by decide +kernel
theorem dX5_draw_30 : decode cX5_draw 30 = .ok (.iload_n 1, 1) := by decide +kernel
theorem dX5_draw_31 : decode cX5_draw 31 = .ok (.aaload, 1) := by decide +kernel
theorem dX5_draw_32 : decode cX5_draw 32 = .ok (.astore 4, 2) := by decide +kernel
theorem dX5_draw_34 : decode cX5_draw 34 = .ok (.iconst 0, 1) := by decide +kernel
theorem dX5_draw_35 : decode cX5_draw 35 = .ok (.istore 5, 2) := by decide +kernel
theorem dX5_draw_37 : decode cX5_draw 37 = .ok (.iconst 0, 1) := by decide +kernel
theorem dX5_draw_38 : decode cX5_draw 38 = .ok (.istore 6, 2) := by decide +kernel
theorem dX5_draw_40 : decode cX5_draw 40 = .ok (.iload 6, 2) := by decide +kernel
theorem dX5_draw_42 : decode cX5_draw 42 = .ok (.iconst 4, 1) := by decide +kernel
theorem dX5_draw_43 : decode cX5_draw 43 = .ok (.if_icmp .ge 57, 3) := by decide +kernel
theorem dX5_draw_46 : decode cX5_draw 46 = .ok (.aload 4, 2) := by decide +kernel
theorem dX5_draw_48 : decode cX5_draw 48 = .ok (.iload_n 2, 1) := by decide +kernel
theorem dX5_draw_49 : decode cX5_draw 49 = .ok (.iload 6, 2) := by decide +kernel
theorem dX5_draw_51 : decode cX5_draw 51 = .ok (.invokevirtual 93, 3) := by decide +kernel
theorem dX5_draw_54 : decode cX5_draw 54 = .ok (.iload_n 3, 1) := by decide +kernel
theorem dX5_draw_55 : decode cX5_draw 55 = .ok (.imul, 1) := by decide +kernel
theorem dX5_draw_56 : decode cX5_draw 56 = .ok (.bipush 100, 2) := by decide +kernel
theorem dX5_draw_58 : decode cX5_draw 58 = .ok (.idiv, 1) := by decide +kernel
theorem dX5_draw_59 : decode cX5_draw 59 = .ok (.istore 7, 2) := by decide +kernel
theorem dX5_draw_61 : decode cX5_draw 61 = .ok (.aload 4, 2) := by decide +kernel
theorem dX5_draw_63 : decode cX5_draw 63 = .ok (.iload_n 2, 1) := by decide +kernel
theorem dX5_draw_64 : decode cX5_draw 64 = .ok (.iload 6, 2) := by decide +kernel
theorem dX5_draw_66 : decode cX5_draw 66 = .ok (.iload 7, 2) := by decide +kernel
theorem dX5_draw_68 : decode cX5_draw 68 = .ok (.ineg, 1) := by decide +kernel
theorem dX5_draw_69 : decode cX5_draw 69 = .ok (.invokevirtual 79, 3) := by decide +kernel
theorem dX5_draw_72 : decode cX5_draw 72 = .ok (.aload_n 0, 1) := by decide +kernel
theorem dX5_draw_73 : decode cX5_draw 73 = .ok (.getfield 12, 3) := by decide +kernel
theorem dX5_draw_76 : decode cX5_draw 76 = .ok (.getfield 97, 3) := by decide +kernel
theorem dX5_draw_79 : decode cX5_draw 79 = .ok (.iload 6, 2) := by decide +kernel
theorem dX5_draw_81 : decode cX5_draw 81 = .ok (.dup2, 1) := by decide +kernel
theorem dX5_draw_82 : decode cX5_draw 82 = .ok (.iaload, 1) := by decide +kernel
theorem dX5_draw_83 : decode cX5_draw 83 = .ok (.iload 7, 2) := by decide +kernel
theorem dX5_draw_85 : decode cX5_draw 85 = .ok (.iadd, 1) := by decide +kernel
theorem dX5_draw_86 : decode cX5_draw 86 = .ok (.iastore, 1) := by decide +kernel
theorem dX5_draw_87 : decode cX5_draw 87 = .ok (.iload 5, 2) := by decide +kernel
theorem dX5_draw_89 : decode cX5_draw 89 = .ok (.iload 7, 2) := by decide +kernel
theorem dX5_draw_91 : decode cX5_draw 91 = .ok (.iadd, 1) := by decide +kernel
theorem dX5_draw_92 : decode cX5_draw 92 = .ok (.istore 5, 2) := by decide +kernel
theorem dX5_draw_94 : decode cX5_draw 94 = .ok (.iinc 6 1, 3) := by decide +kernel
theorem dX5_draw_97 : decode cX5_draw 97 = .ok (.goto (-57), 3) := by decide +kernel
theorem dX5_draw_100 : decode cX5_draw 100 = .ok (.iload 5, 2) := by decide +kernel
theorem dX5_draw_102 : decode cX5_draw 102 = .ok (.ireturn, 1) := by decide +kernel
set_option maxRecDepth 20000 in
theorem ggX5_decant_X5_needIndex : GoodIn wsX5_decant wsX5_needIndex := goodIn_ca (goodIn_r _ [9, 10, 11] (by decide +kernel) (by decide +kernel)) (goodIn_sub (fun _ h => List.mem_cons_of_mem _ (List.mem_append_left _ (List.mem_append_right _ h))) (by decide +kernel))
set_option maxRecDepth 20000 in
theorem gX5_decant_X5_needIndex : GoodIn wsX5_decant (va_wsS RX5 37 yX5_needIndex wsX5_needIndex) := goodIn_app (goodIn_of _ (by decide +kernel)) ggX5_decant_X5_needIndex
set_option maxRecDepth 20000 in
theorem ggX5_decant_X5_needSlice : GoodIn wsX5_decant wsX5_needSlice := goodIn_ca (goodIn_r _ [14, 6, 7, 8, 9, 10, 11] (by decide +kernel) (by decide +kernel)) (goodIn_sub (fun _ h => List.mem_cons_of_mem _ (List.mem_append_left _ (List.mem_append_right _ h))) (by decide +kernel))
set_option maxRecDepth 20000 in
theorem gX5_decant_X5_needSlice : GoodIn wsX5_decant (va_wsS RX5 68 yX5_needSlice wsX5_needSlice) := goodIn_app (goodIn_of _ (by decide +kernel)) ggX5_decant_X5_needSlice
set_option maxRecDepth 20000 in
theorem ggX5_decant_X2_allDownTo : GoodIn wsX5_decant wsX2_allDownTo := goodIn_r _ [19, 20, 21, 22, 18, 23, 24, 25, 26, 27, 28, 93] (by decide +kernel) (by decide +kernel)
set_option maxRecDepth 20000 in
theorem gX5_decant_X2_allDownTo : GoodIn wsX5_decant (wsV RX5 107 RX2 yX2_allDownTo wsX2_allDownTo) := goodIn_app (goodIn_of _ (by decide +kernel)) ggX5_decant_X2_allDownTo
set_option maxRecDepth 20000 in
theorem ggX5_decant_X5_needRoom : GoodIn wsX5_decant wsX5_needRoom := goodIn_ca (goodIn_r _ [31, 32, 33, 34, 35, 36, 18, 37, 38, 16, 17, 19, 20, 21, 22, 23, 24, 25, 26, 27, 28, 93] (by decide +kernel) (by decide +kernel)) (goodIn_sub (fun _ h => List.mem_cons_of_mem _ (List.mem_append_right _ h)) (by decide +kernel))
set_option maxRecDepth 20000 in
theorem gX5_decant_X5_needRoom : GoodIn wsX5_decant (va_wsS RX5 75 yX5_needRoom wsX5_needRoom) := goodIn_app (goodIn_of _ (by decide +kernel)) ggX5_decant_X5_needRoom
set_option maxRecDepth 20000 in
theorem ggX5_decant_X1_keep : GoodIn wsX5_decant wsX1_keep := goodIn_r _ [43, 44, 45, 46, 47, 48, 49, 50, 51, 52, 53, 54, 55, 56, 57, 58, 59, 60, 61, 62, 63, 64, 65, 66, 67, 68, 69, 70, 71, 72, 18, 73, 28, 74, 94, 95, 96, 87, 88, 89, 90, 91, 92, 97, 98, 93] (by decide +kernel) (by decide +kernel)
set_option maxRecDepth 20000 in
theorem gX5_decant_X1_keep : GoodIn wsX5_decant (wsV RX5 54 RX1 yX1_keep wsX1_keep) := goodIn_app (goodIn_of _ (by decide +kernel)) ggX5_decant_X1_keep
set_option maxRecDepth 20000 in
theorem ggX5_decant_X2_pourInto : GoodIn wsX5_decant wsX2_pourInto := goodIn_r _ [78, 24, 25, 26, 18, 27, 28, 79, 80, 81, 82, 93] (by decide +kernel) (by decide +kernel)
set_option maxRecDepth 20000 in
theorem gX5_decant_X2_pourInto : GoodIn wsX5_decant (wsV RX5 110 RX2 yX2_pourInto wsX2_pourInto) := goodIn_app (goodIn_of _ (by decide +kernel)) ggX5_decant_X2_pourInto
theorem dX5_decant_0 : decode cX5_decant 0 = .ok (.iload_n 1, 1) := by decide +kernel
theorem dX5_decant_1 : decode cX5_decant 1 = .ok (.iconst 3, 1) := by decide +kernel
theorem dX5_decant_2 : decode cX5_decant 2 = .ok (.invokestatic 37, 3) := by decide +kernel
theorem dX5_decant_5 : decode cX5_decant 5 = .ok (.iload_n 2, 1) := by decide +kernel
theorem dX5_decant_6 : decode cX5_decant 6 = .ok (.iload_n 3, 1) := by decide +kernel
theorem dX5_decant_7 : decode cX5_decant 7 = .ok (.invokestatic 68, 3) := by decide +kernel
theorem dX5_decant_10 : decode cX5_decant 10 = .ok (.iload_n 1, 1) := by decide +kernel
theorem dX5_decant_11 : decode cX5_decant 11 = .ok (.iload_n 2, 1) := by decide +kernel
theorem dX5_decant_12 : decode cX5_decant 12 = .ok (.if_icmp .ne 13, 3) := by decide +kernel
theorem dX5_decant_15 : decode cX5_decant 15 = .ok (.new 100, 3) := by decide +kernel
theorem dX5_decant_18 : decode cX5_decant 18 = .ok (.dup, 1) := by decide +kernel
theorem dX5_decant_19 : decode cX5_decant 19 = .ok (.ldc 102, 2) := by decide +kernel
theorem dX5_decant_21 : decode cX5_decant 21 = .ok (.invokespecial 104, 3) := by decide +kernel
theorem dX5_decant_24 : decode cX5_decant 24 = .ok (.athrow, 1) := by decide +kernel
theorem dX5_decant_25 : decode cX5_decant 25 = .ok (.aload_n 0, 1) := by decide +kernel
theorem dX5_decant_26 : decode cX5_decant 26 = .ok (.getfield 12, 3) := by decide +kernel
theorem dX5_decant_29 : decode cX5_decant 29 = .ok (.getfield 71, 3) := by decide +kernel
theorem dX5_decant_32 : decode cX5_decant 32 = .ok (.iload_n 1, 1) := by decide +kernel
theorem dX5_decant_33 : decode cX5_decant 33 = .ok (.aaload, 1) := by decide +kernel
theorem dX5_decant_34 : decode cX5_decant 34 = .ok (.iload_n 3, 1) := by decide +kernel
theorem dX5_decant_35 : decode cX5_decant 35 = .ok (.invokevirtual 107, 3) := by decide +kernel
theorem dX5_decant_38 : decode cX5_decant 38 = .ok (.istore 4, 2) := by decide +kernel
theorem dX5_decant_40 : decode cX5_decant 40 = .ok (.aload_n 0, 1) := by decide +kernel
theorem dX5_decant_41 : decode cX5_decant 41 = .ok (.getfield 12, 3) := by decide +kernel
theorem dX5_decant_44 : decode cX5_decant 44 = .ok (.getfield 71, 3) := by decide +kernel
theorem dX5_decant_47 : decode cX5_decant 47 = .ok (.iload_n 2, 1) := by decide +kernel
theorem dX5_decant_48 : decode cX5_decant 48 = .ok (.aaload, 1) := by decide +kernel
theorem dX5_decant_49 : decode cX5_decant 49 = .ok (.iload 4, 2) := by decide +kernel
theorem dX5_decant_51 : decode cX5_decant 51 = .ok (.invokestatic 75, 3) := by decide +kernel
theorem dX5_decant_54 : decode cX5_decant 54 = .ok (.aload_n 0, 1) := by decide +kernel
theorem dX5_decant_55 : decode cX5_decant 55 = .ok (.getfield 19, 3) := by decide +kernel
theorem dX5_decant_58 : decode cX5_decant 58 = .ok (.aload_n 0, 1) := by decide +kernel
theorem dX5_decant_59 : decode cX5_decant 59 = .ok (.getfield 12, 3) := by decide +kernel
theorem dX5_decant_62 : decode cX5_decant 62 = .ok (.invokevirtual 54, 3) := by decide +kernel
theorem dX5_decant_65 : decode cX5_decant 65 = .ok (.aload_n 0, 1) := by decide +kernel
theorem dX5_decant_66 : decode cX5_decant 66 = .ok (.getfield 12, 3) := by decide +kernel
theorem dX5_decant_69 : decode cX5_decant 69 = .ok (.getfield 71, 3) := by decide +kernel
theorem dX5_decant_72 : decode cX5_decant 72 = .ok (.iload_n 1, 1) := by decide +kernel
theorem dX5_decant_73 : decode cX5_decant 73 = .ok (.aaload, 1) := by decide +kernel
theorem dX5_decant_74 : decode cX5_decant 74 = .ok (.aload_n 0, 1) := by decide +kernel
theorem dX5_decant_75 : decode cX5_decant 75 = .ok (.getfield 12, 3) := by decide +kernel
theorem dX5_decant_78 : decode cX5_decant 78 = .ok (.getfield 71, 3) := by decide +kernel
theorem dX5_decant_81 : decode cX5_decant 81 = .ok (.iload_n 2, 1) := by decide +kernel
theorem dX5_decant_82 : decode cX5_decant 82 = .ok (.aaload, 1) := by decide +kernel
theorem dX5_decant_83 : decode cX5_decant 83 = .ok (.iload_n 3, 1) := by decide +kernel
theorem dX5_decant_84 : decode cX5_decant 84 = .ok (.invokevirtual 110, 3) := by decide +kernel
theorem dX5_decant_87 : decode cX5_decant 87 = .ok (.iload 4, 2) := by decide +kernel
theorem dX5_decant_89 : decode cX5_decant 89 = .ok (.ireturn, 1) := by decide +kernel
set_option maxRecDepth 20000 in
theorem ggX5_turn_X5_needIndex : GoodIn wsX5_turn wsX5_needIndex := goodIn_ca (goodIn_r _ [8, 9, 10] (by decide +kernel) (by decide +kernel)) (goodIn_sub (fun _ h => List.mem_cons_of_mem _ (List.mem_append_right _ h)) (by decide +kernel))
set_option maxRecDepth 20000 in
theorem gX5_turn_X5_needIndex : GoodIn wsX5_turn (va_wsS RX5 37 yX5_needIndex wsX5_needIndex) := goodIn_app (goodIn_of _ (by decide +kernel)) ggX5_turn_X5_needIndex
set_option maxRecDepth 20000 in
theorem ggX5_turn_X1_keep : GoodIn wsX5_turn wsX1_keep := goodIn_r _ [15, 16, 17, 18, 19, 20, 21, 22, 23, 24, 25, 26, 27, 28, 29, 30, 31, 32, 33, 34, 35, 36, 37, 38, 39, 40, 41, 42, 43, 44, 45, 46, 47, 48, 83, 84, 85, 77, 78, 79, 80, 81, 82, 86, 87, 88] (by decide +kernel) (by decide +kernel)
set_option maxRecDepth 20000 in
theorem gX5_turn_X1_keep : GoodIn wsX5_turn (wsV RX5 54 RX1 yX1_keep wsX1_keep) := goodIn_app (goodIn_of _ (by decide +kernel)) ggX5_turn_X1_keep
set_option maxRecDepth 20000 in
theorem ggX5_turn_X2_turnOver : GoodIn wsX5_turn wsX2_turnOver := goodIn_r _ [52, 53, 54, 55, 45, 56, 47, 57, 58, 59, 60, 88] (by decide +kernel) (by decide +kernel)
set_option maxRecDepth 20000 in
theorem gX5_turn_X2_turnOver : GoodIn wsX5_turn (wsV RX5 113 RX2 yX2_turnOver wsX2_turnOver) := goodIn_app (goodIn_of _ (by decide +kernel)) ggX5_turn_X2_turnOver
set_option maxRecDepth 20000 in
theorem ggX5_turn_X2_packedSlices : GoodIn wsX5_turn wsX2_packedSlices := goodIn_r _ [64, 65, 66, 67, 45, 68, 53, 54, 55, 56, 47, 69, 70, 71, 37, 72, 39, 88, 86, 87] (by decide +kernel) (by decide +kernel)
set_option maxRecDepth 20000 in
theorem gX5_turn_X2_packedSlices : GoodIn wsX5_turn (wsV RX5 116 RX2 yX2_packedSlices wsX2_packedSlices) := goodIn_app (goodIn_of _ (by decide +kernel)) ggX5_turn_X2_packedSlices
theorem dX5_turn_0 : decode cX5_turn 0 = .ok (.iload_n 1, 1) := by decide +kernel
theorem dX5_turn_1 : decode cX5_turn 1 = .ok (.iconst 3, 1) := by decide +kernel
theorem dX5_turn_2 : decode cX5_turn 2 = .ok (.invokestatic 37, 3) := by decide +kernel
theorem dX5_turn_5 : decode cX5_turn 5 = .ok (.aload_n 0, 1) := by decide +kernel
theorem dX5_turn_6 : decode cX5_turn 6 = .ok (.getfield 19, 3) := by decide +kernel
theorem dX5_turn_9 : decode cX5_turn 9 = .ok (.aload_n 0, 1) := by decide +kernel
theorem dX5_turn_10 : decode cX5_turn 10 = .ok (.getfield 12, 3) := by decide +kernel
theorem dX5_turn_13 : decode cX5_turn 13 = .ok (.invokevirtual 54, 3) := by decide +kernel
theorem dX5_turn_16 : decode cX5_turn 16 = .ok (.aload_n 0, 1) := by decide +kernel
theorem dX5_turn_17 : decode cX5_turn 17 = .ok (.getfield 12, 3) := by decide +kernel
theorem dX5_turn_20 : decode cX5_turn 20 = .ok (.getfield 71, 3) := by decide +kernel
theorem dX5_turn_23 : decode cX5_turn 23 = .ok (.iload_n 1, 1) := by decide +kernel
theorem dX5_turn_24 : decode cX5_turn 24 = .ok (.aaload, 1) := by decide +kernel
theorem dX5_turn_25 : decode cX5_turn 25 = .ok (.invokevirtual 113, 3) := by decide +kernel
theorem dX5_turn_28 : decode cX5_turn 28 = .ok (.aload_n 0, 1) := by decide +kernel
theorem dX5_turn_29 : decode cX5_turn 29 = .ok (.getfield 12, 3) := by decide +kernel
theorem dX5_turn_32 : decode cX5_turn 32 = .ok (.getfield 71, 3) := by decide +kernel
theorem dX5_turn_35 : decode cX5_turn 35 = .ok (.iload_n 1, 1) := by decide +kernel
theorem dX5_turn_36 : decode cX5_turn 36 = .ok (.aaload, 1) := by decide +kernel
theorem dX5_turn_37 : decode cX5_turn 37 = .ok (.aload_n 0, 1) := by decide +kernel
theorem dX5_turn_38 : decode cX5_turn 38 = .ok (.getfield 12, 3) := by decide +kernel
theorem dX5_turn_41 : decode cX5_turn 41 = .ok (.getfield 58, 3) := by decide +kernel
theorem dX5_turn_44 : decode cX5_turn 44 = .ok (.invokevirtual 116, 3) := by decide +kernel
theorem dX5_turn_47 : decode cX5_turn 47 = .ok (.ireturn, 1) := by decide +kernel
set_option maxRecDepth 20000 in
theorem ggX5_settle_X5_needRange : GoodIn wsX5_settle wsX5_needRange := goodIn_ca (goodIn_r _ [12, 13, 14] (by decide +kernel) (by decide +kernel)) (goodIn_sub (fun _ h => List.mem_cons_of_mem _ (List.mem_append_right _ h)) (by decide +kernel))
set_option maxRecDepth 20000 in
theorem gX5_settle_X5_needRange : GoodIn wsX5_settle (va_wsS RX5 50 yX5_needRange wsX5_needRange) := goodIn_app (goodIn_of _ (by decide +kernel)) ggX5_settle_X5_needRange
set_option maxRecDepth 20000 in
theorem ggX5_settle_X1_keep : GoodIn wsX5_settle wsX1_keep := goodIn_r _ [19, 20, 21, 22, 23, 24, 25, 26, 27, 28, 29, 30, 31, 32, 33, 34, 35, 36, 37, 38, 39, 40, 41, 42, 43, 44, 45, 46, 47, 48, 49, 50, 51, 52, 109, 110, 111, 103, 104, 105, 106, 107, 108, 112, 113, 114] (by decide +kernel) (by decide +kernel)
set_option maxRecDepth 20000 in
theorem gX5_settle_X1_keep : GoodIn wsX5_settle (wsV RX5 54 RX1 yX1_keep wsX1_keep) := goodIn_app (goodIn_of _ (by decide +kernel)) ggX5_settle_X1_keep
set_option maxRecDepth 20000 in
theorem ggX5_settle_X2_goOn : GoodIn wsX5_settle wsX2_goOn := goodIn_r _ [56, 57, 58, 59, 49, 60, 61, 62, 63, 64, 65, 66, 67, 68, 69, 70, 71, 72, 73, 74, 75, 76, 51, 77, 78, 79, 41, 80, 81, 43, 82, 83, 84, 85, 86, 87, 88, 89, 90, 91, 92, 45, 93, 94, 95, 96, 97, 98, 114, 112, 113] (by decide +kernel) (by decide +kernel)
set_option maxRecDepth 20000 in
theorem gX5_settle_X2_goOn : GoodIn wsX5_settle (wsV RX5 129 RX2 yX2_goOn wsX2_goOn) := goodIn_app (goodIn_of _ (by decide +kernel)) ggX5_settle_X2_goOn
theorem dX5_settle_0 : decode cX5_settle 0 = .ok (.iload_n 1, 1) := by decide +kernel
theorem dX5_settle_1 : decode cX5_settle 1 = .ok (.iconst 1, 1) := by decide +kernel
theorem dX5_settle_2 : decode cX5_settle 2 = .ok (.bipush 100, 2) := by decide +kernel
theorem dX5_settle_4 : decode cX5_settle 4 = .ok (.invokestatic 50, 3) := by decide +kernel
theorem dX5_settle_7 : decode cX5_settle 7 = .ok (.aload_n 0, 1) := by decide +kernel
theorem dX5_settle_8 : decode cX5_settle 8 = .ok (.getfield 12, 3) := by decide +kernel
theorem dX5_settle_11 : decode cX5_settle 11 = .ok (.getfield 120, 3) := by decide +kernel
theorem dX5_settle_14 : decode cX5_settle 14 = .ok (.iload_n 1, 1) := by decide +kernel
theorem dX5_settle_15 : decode cX5_settle 15 = .ok (.iadd, 1) := by decide +kernel
theorem dX5_settle_16 : decode cX5_settle 16 = .ok (.sipush 10000, 3) := by decide +kernel
theorem dX5_settle_19 : decode cX5_settle 19 = .ok (.if_icmp .le 13, 3) := by decide +kernel
theorem dX5_settle_22 : decode cX5_settle 22 = .ok (.new 124, 3) := by decide +kernel
theorem dX5_settle_25 : decode cX5_settle 25 = .ok (.dup, 1) := by decide +kernel
theorem dX5_settle_26 : decode cX5_settle 26 = .ok (.ldc 126, 2) := by decide +kernel
theorem dX5_settle_28 : decode cX5_settle 28 = .ok (.invokespecial 128, 3) := by decide +kernel
theorem dX5_settle_31 : decode cX5_settle 31 = .ok (.athrow, 1) := by decide +kernel
theorem dX5_settle_32 : decode cX5_settle 32 = .ok (.aload_n 0, 1) := by decide +kernel
theorem dX5_settle_33 : decode cX5_settle 33 = .ok (.getfield 19, 3) := by decide +kernel
theorem dX5_settle_36 : decode cX5_settle 36 = .ok (.aload_n 0, 1) := by decide +kernel
theorem dX5_settle_37 : decode cX5_settle 37 = .ok (.getfield 12, 3) := by decide +kernel
theorem dX5_settle_40 : decode cX5_settle 40 = .ok (.invokevirtual 54, 3) := by decide +kernel
theorem dX5_settle_43 : decode cX5_settle 43 = .ok (.iconst 0, 1) := by decide +kernel
theorem dX5_settle_44 : decode cX5_settle 44 = .ok (.istore_n 2, 1) := by decide +kernel
theorem dX5_settle_45 : decode cX5_settle 45 = .ok (.iconst 0, 1) := by decide +kernel
theorem dX5_settle_46 : decode cX5_settle 46 = .ok (.istore_n 3, 1) := by decide +kernel
theorem dX5_settle_47 : decode cX5_settle 47 = .ok (.iload_n 3, 1) := by decide +kernel
theorem dX5_settle_48 : decode cX5_settle 48 = .ok (.iconst 3, 1) := by decide +kernel
theorem dX5_settle_49 : decode cX5_settle 49 = .ok (.if_icmp .ge 32, 3) := by decide +kernel
theorem dX5_settle_52 : decode cX5_settle 52 = .ok (.iload_n 2, 1) := by decide +kernel
theorem dX5_settle_53 : decode cX5_settle 53 = .ok (.aload_n 0, 1) := by decide +kernel
theorem dX5_settle_54 : decode cX5_settle 54 = .ok (.getfield 12, 3) := by decide +kernel
theorem dX5_settle_57 : decode cX5_settle 57 = .ok (.getfield 71, 3) := by decide +kernel
theorem dX5_settle_60 : decode cX5_settle 60 = .ok (.iload_n 3, 1) := by decide +kernel
theorem dX5_settle_61 : decode cX5_settle 61 = .ok (.aaload, 1) := by decide +kernel
theorem dX5_settle_62 : decode cX5_settle 62 = .ok (.iload_n 1, 1) := by decide +kernel
theorem dX5_settle_63 : decode cX5_settle 63 = .ok (.aload_n 0, 1) := by decide +kernel
theorem dX5_settle_64 : decode cX5_settle 64 = .ok (.getfield 12, 3) := by decide +kernel
theorem dX5_settle_67 : decode cX5_settle 67 = .ok (.getfield 58, 3) := by decide +kernel
theorem dX5_settle_70 : decode cX5_settle 70 = .ok (.invokevirtual 129, 3) := by decide +kernel
theorem dX5_settle_73 : decode cX5_settle 73 = .ok (.iadd, 1) := by decide +kernel
theorem dX5_settle_74 : decode cX5_settle 74 = .ok (.istore_n 2, 1) := by decide +kernel
theorem dX5_settle_75 : decode cX5_settle 75 = .ok (.iinc 3 1, 3) := by decide +kernel
theorem dX5_settle_78 : decode cX5_settle 78 = .ok (.goto (-31), 3) := by decide +kernel
theorem dX5_settle_81 : decode cX5_settle 81 = .ok (.aload_n 0, 1) := by decide +kernel
theorem dX5_settle_82 : decode cX5_settle 82 = .ok (.getfield 12, 3) := by decide +kernel
theorem dX5_settle_85 : decode cX5_settle 85 = .ok (.dup, 1) := by decide +kernel
theorem dX5_settle_86 : decode cX5_settle 86 = .ok (.getfield 120, 3) := by decide +kernel
theorem dX5_settle_89 : decode cX5_settle 89 = .ok (.iload_n 1, 1) := by decide +kernel
theorem dX5_settle_90 : decode cX5_settle 90 = .ok (.iadd, 1) := by decide +kernel
theorem dX5_settle_91 : decode cX5_settle 91 = .ok (.putfield 120, 3) := by decide +kernel
theorem dX5_settle_94 : decode cX5_settle 94 = .ok (.aload_n 0, 1) := by decide +kernel
theorem dX5_settle_95 : decode cX5_settle 95 = .ok (.getfield 12, 3) := by decide +kernel
theorem dX5_settle_98 : decode cX5_settle 98 = .ok (.dup, 1) := by decide +kernel
theorem dX5_settle_99 : decode cX5_settle 99 = .ok (.getfield 133, 3) := by decide +kernel
theorem dX5_settle_102 : decode cX5_settle 102 = .ok (.iload_n 2, 1) := by decide +kernel
theorem dX5_settle_103 : decode cX5_settle 103 = .ok (.iadd, 1) := by decide +kernel
theorem dX5_settle_104 : decode cX5_settle 104 = .ok (.putfield 133, 3) := by decide +kernel
theorem dX5_settle_107 : decode cX5_settle 107 = .ok (.iload_n 2, 1) := by decide +kernel
theorem dX5_settle_108 : decode cX5_settle 108 = .ok (.ireturn, 1) := by decide +kernel
set_option maxRecDepth 20000 in
theorem ggX5_append_X5_needRange : GoodIn wsX5_append wsX5_needRange := goodIn_ca (goodIn_r _ [7, 8, 9] (by decide +kernel) (by decide +kernel)) (goodIn_sub (fun _ h => List.mem_cons_of_mem _ (List.mem_append_right _ h)) (by decide +kernel))
set_option maxRecDepth 20000 in
theorem gX5_append_X5_needRange : GoodIn wsX5_append (va_wsS RX5 50 yX5_needRange wsX5_needRange) := goodIn_app (goodIn_of _ (by decide +kernel)) ggX5_append_X5_needRange
set_option maxRecDepth 20000 in
theorem ggX5_append_X0_isFull : GoodIn wsX5_append wsX0_isFull := goodIn_r _ [14, 15, 29, 30] (by decide +kernel) (by decide +kernel)
set_option maxRecDepth 20000 in
theorem gX5_append_X0_isFull : GoodIn wsX5_append (wsV RX5 136 RX0 yX0_isFull wsX0_isFull) := goodIn_app (goodIn_of _ (by decide +kernel)) ggX5_append_X0_isFull
set_option maxRecDepth 20000 in
theorem ggX5_append_X0_write : GoodIn wsX5_append wsX0_write := goodIn_r _ [19, 20, 15, 29, 30] (by decide +kernel) (by decide +kernel)
set_option maxRecDepth 20000 in
theorem gX5_append_X0_write : GoodIn wsX5_append (wsV RX5 142 RX0 yX0_write wsX0_write) := goodIn_app (goodIn_of _ (by decide +kernel)) ggX5_append_X0_write
set_option maxRecDepth 20000 in
theorem ggX5_append_X0_size : GoodIn wsX5_append wsX0_size := goodIn_r _ [24, 15, 29, 30] (by decide +kernel) (by decide +kernel)
set_option maxRecDepth 20000 in
theorem gX5_append_X0_size : GoodIn wsX5_append (wsV RX5 146 RX0 yX0_size wsX0_size) := goodIn_app (goodIn_of _ (by decide +kernel)) ggX5_append_X0_size
theorem dX5_append_0 : decode cX5_append 0 = .ok (.iload_n 1, 1) := by decide +kernel
theorem dX5_append_1 : decode cX5_append 1 = .ok (.bipush 33, 2) := by decide +kernel
theorem dX5_append_3 : decode cX5_append 3 = .ok (.bipush 126, 2) := by decide +kernel
theorem dX5_append_5 : decode cX5_append 5 = .ok (.invokestatic 50, 3) := by decide +kernel
theorem dX5_append_8 : decode cX5_append 8 = .ok (.aload_n 0, 1) := by decide +kernel
theorem dX5_append_9 : decode cX5_append 9 = .ok (.getfield 26, 3) := by decide +kernel
theorem dX5_append_12 : decode cX5_append 12 = .ok (.invokevirtual 136, 3) := by decide +kernel
theorem dX5_append_15 : decode cX5_append 15 = .ok (.ifCond .eq 13, 3) := by decide +kernel
theorem dX5_append_18 : decode cX5_append 18 = .ok (.new 124, 3) := by decide +kernel
theorem dX5_append_21 : decode cX5_append 21 = .ok (.dup, 1) := by decide +kernel
theorem dX5_append_22 : decode cX5_append 22 = .ok (.ldc 140, 2) := by decide +kernel
theorem dX5_append_24 : decode cX5_append 24 = .ok (.invokespecial 128, 3) := by decide +kernel
theorem dX5_append_27 : decode cX5_append 27 = .ok (.athrow, 1) := by decide +kernel
theorem dX5_append_28 : decode cX5_append 28 = .ok (.aload_n 0, 1) := by decide +kernel
theorem dX5_append_29 : decode cX5_append 29 = .ok (.getfield 26, 3) := by decide +kernel
theorem dX5_append_32 : decode cX5_append 32 = .ok (.iload_n 1, 1) := by decide +kernel
theorem dX5_append_33 : decode cX5_append 33 = .ok (.i2c, 1) := by decide +kernel
theorem dX5_append_34 : decode cX5_append 34 = .ok (.invokevirtual 142, 3) := by decide +kernel
theorem dX5_append_37 : decode cX5_append 37 = .ok (.aload_n 0, 1) := by decide +kernel
theorem dX5_append_38 : decode cX5_append 38 = .ok (.getfield 26, 3) := by decide +kernel
theorem dX5_append_41 : decode cX5_append 41 = .ok (.invokevirtual 146, 3) := by decide +kernel
theorem dX5_append_44 : decode cX5_append 44 = .ok (.ireturn, 1) := by decide +kernel
set_option maxRecDepth 20000 in
theorem ggX5_clearBuffer_X0_size : GoodIn wsX5_clearBuffer wsX0_size := goodIn_r _ [6, 7, 16, 17] (by decide +kernel) (by decide +kernel)
set_option maxRecDepth 20000 in
theorem gX5_clearBuffer_X0_size : GoodIn wsX5_clearBuffer (wsV RX5 146 RX0 yX0_size wsX0_size) := goodIn_app (goodIn_of _ (by decide +kernel)) ggX5_clearBuffer_X0_size
set_option maxRecDepth 20000 in
theorem ggX5_clearBuffer_X0_wipe : GoodIn wsX5_clearBuffer wsX0_wipe := goodIn_r _ [11, 7, 16, 17] (by decide +kernel) (by decide +kernel)
set_option maxRecDepth 20000 in
theorem gX5_clearBuffer_X0_wipe : GoodIn wsX5_clearBuffer (wsV RX5 150 RX0 yX0_wipe wsX0_wipe) := goodIn_app (goodIn_of _ (by decide +kernel)) ggX5_clearBuffer_X0_wipe
theorem dX5_clearBuffer_0 : decode cX5_clearBuffer 0 = .ok (.aload_n 0, 1) := by decide +kernel
theorem dX5_clearBuffer_1 : decode cX5_clearBuffer 1 = .ok (.getfield 26, 3) := by decide +kernel
theorem dX5_clearBuffer_4 : decode cX5_clearBuffer 4 = .ok (.invokevirtual 146, 3) := by decide +kernel
theorem dX5_clearBuffer_7 : decode cX5_clearBuffer 7 = .ok (.istore_n 1, 1) := by decide +kernel
theorem dX5_clearBuffer_8 : decode cX5_clearBuffer 8 = .ok (.aload_n 0, 1) := by decide +kernel
theorem dX5_clearBuffer_9 : decode cX5_clearBuffer 9 = .ok (.getfield 26, 3) := by decide +kernel
theorem dX5_clearBuffer_12 : decode cX5_clearBuffer 12 = .ok (.invokevirtual 150, 3) := by decide +kernel
theorem dX5_clearBuffer_15 : decode cX5_clearBuffer 15 = .ok (.iload_n 1, 1) := by decide +kernel
theorem dX5_clearBuffer_16 : decode cX5_clearBuffer 16 = .ok (.ireturn, 1) := by decide +kernel
set_option maxRecDepth 20000 in
theorem ggX5_firstError_X0_firstWrong : GoodIn wsX5_firstError wsX0_firstWrong := goodIn_r _ [6, 7, 8, 9, 10, 5, 11, 12, 13, 14, 15, 16, 17, 18, 19, 20, 25, 26] (by decide +kernel) (by decide +kernel)
set_option maxRecDepth 20000 in
theorem gX5_firstError_X0_firstWrong : GoodIn wsX5_firstError (wsV RX5 153 RX0 yX0_firstWrong wsX0_firstWrong) := goodIn_app (goodIn_of _ (by decide +kernel)) ggX5_firstError_X0_firstWrong
theorem dX5_firstError_0 : decode cX5_firstError 0 = .ok (.aload_n 0, 1) := by decide +kernel
theorem dX5_firstError_1 : decode cX5_firstError 1 = .ok (.getfield 26, 3) := by decide +kernel
theorem dX5_firstError_4 : decode cX5_firstError 4 = .ok (.invokevirtual 153, 3) := by decide +kernel
theorem dX5_firstError_7 : decode cX5_firstError 7 = .ok (.ireturn, 1) := by decide +kernel
set_option maxRecDepth 20000 in
theorem ggX5_load_X5_needIndex : GoodIn wsX5_load wsX5_needIndex := goodIn_ca (goodIn_r _ [12, 13, 14] (by decide +kernel) (by decide +kernel)) (goodIn_sub (fun _ h => List.mem_cons_of_mem _ (List.mem_append_left _ (List.mem_append_right _ h))) (by decide +kernel))
set_option maxRecDepth 20000 in
theorem gX5_load_X5_needIndex : GoodIn wsX5_load (va_wsS RX5 37 yX5_needIndex wsX5_needIndex) := goodIn_app (goodIn_of _ (by decide +kernel)) ggX5_load_X5_needIndex
set_option maxRecDepth 20000 in
theorem ggX5_load_X0_isComplete : GoodIn wsX5_load wsX0_isComplete := goodIn_r _ [19, 20, 21, 22, 23, 18, 24, 25, 26, 27, 28, 29, 30, 31, 32, 33, 132, 133] (by decide +kernel) (by decide +kernel)
set_option maxRecDepth 20000 in
theorem gX5_load_X0_isComplete : GoodIn wsX5_load (wsV RX5 156 RX0 yX0_isComplete wsX0_isComplete) := goodIn_app (goodIn_of _ (by decide +kernel)) ggX5_load_X0_isComplete
set_option maxRecDepth 20000 in
theorem ggX5_load_X2_empty : GoodIn wsX5_load wsX2_empty := goodIn_r _ [38, 39, 134] (by decide +kernel) (by decide +kernel)
set_option maxRecDepth 20000 in
theorem gX5_load_X2_empty : GoodIn wsX5_load (wsV RX5 161 RX2 yX2_empty wsX2_empty) := goodIn_app (goodIn_of _ (by decide +kernel)) ggX5_load_X2_empty
set_option maxRecDepth 20000 in
theorem ggX5_load_X0_readInto : GoodIn wsX5_load wsX0_readInto := goodIn_r _ [43, 20, 21, 44, 45, 46, 18, 47, 25, 26, 27, 48, 49, 50, 37, 51, 39, 132, 133, 134] (by decide +kernel) (by decide +kernel)
set_option maxRecDepth 20000 in
theorem gX5_load_X0_readInto : GoodIn wsX5_load (wsV RX5 164 RX0 yX0_readInto wsX0_readInto) := goodIn_app (goodIn_of _ (by decide +kernel)) ggX5_load_X0_readInto
set_option maxRecDepth 20000 in
theorem ggX5_load_X2_all : GoodIn wsX5_load wsX2_all := goodIn_r _ [55, 56, 57, 58, 37, 59, 60, 61, 62, 63, 64, 65, 66, 67, 39, 134] (by decide +kernel) (by decide +kernel)
set_option maxRecDepth 20000 in
theorem gX5_load_X2_all : GoodIn wsX5_load (wsV RX5 168 RX2 yX2_all wsX2_all) := goodIn_app (goodIn_of _ (by decide +kernel)) ggX5_load_X2_all
set_option maxRecDepth 20000 in
theorem ggX5_load_X5_needRoom : GoodIn wsX5_load wsX5_needRoom := goodIn_ca (goodIn_r _ [70, 71, 72, 52, 53, 54, 37, 55, 56, 57, 58, 59, 60, 61, 62, 63, 64, 65, 66, 67, 39, 134] (by decide +kernel) (by decide +kernel)) (goodIn_sub (fun _ h => List.mem_cons_of_mem _ (List.mem_append_right _ h)) (by decide +kernel))
set_option maxRecDepth 20000 in
theorem gX5_load_X5_needRoom : GoodIn wsX5_load (va_wsS RX5 75 yX5_needRoom wsX5_needRoom) := goodIn_app (goodIn_of _ (by decide +kernel)) ggX5_load_X5_needRoom
set_option maxRecDepth 20000 in
theorem ggX5_load_X1_keep : GoodIn wsX5_load wsX1_keep := goodIn_r _ [77, 78, 79, 80, 81, 82, 83, 84, 85, 86, 87, 88, 89, 90, 91, 92, 93, 94, 95, 96, 97, 98, 99, 100, 101, 102, 103, 104, 105, 106, 37, 107, 39, 108, 135, 136, 137, 126, 127, 128, 129, 130, 131, 138, 139, 134] (by decide +kernel) (by decide +kernel)
set_option maxRecDepth 20000 in
theorem gX5_load_X1_keep : GoodIn wsX5_load (wsV RX5 54 RX1 yX1_keep wsX1_keep) := goodIn_app (goodIn_of _ (by decide +kernel)) ggX5_load_X1_keep
set_option maxRecDepth 20000 in
theorem ggX5_load_X2_allOf : GoodIn wsX5_load wsX2_allOf := goodIn_r _ [112, 64, 65, 66, 37, 67, 39, 134] (by decide +kernel) (by decide +kernel)
set_option maxRecDepth 20000 in
theorem gX5_load_X2_allOf : GoodIn wsX5_load (wsV RX5 171 RX2 yX2_allOf wsX2_allOf) := goodIn_app (goodIn_of _ (by decide +kernel)) ggX5_load_X2_allOf
set_option maxRecDepth 20000 in
theorem ggX5_load_X2_pourInto : GoodIn wsX5_load wsX2_pourInto := goodIn_r _ [116, 64, 65, 66, 37, 67, 39, 117, 49, 50, 51, 134] (by decide +kernel) (by decide +kernel)
set_option maxRecDepth 20000 in
theorem gX5_load_X2_pourInto : GoodIn wsX5_load (wsV RX5 110 RX2 yX2_pourInto wsX2_pourInto) := goodIn_app (goodIn_of _ (by decide +kernel)) ggX5_load_X2_pourInto
set_option maxRecDepth 20000 in
theorem ggX5_load_X0_wipe : GoodIn wsX5_load wsX0_wipe := goodIn_r _ [121, 20, 132, 133] (by decide +kernel) (by decide +kernel)
set_option maxRecDepth 20000 in
theorem gX5_load_X0_wipe : GoodIn wsX5_load (wsV RX5 150 RX0 yX0_wipe wsX0_wipe) := goodIn_app (goodIn_of _ (by decide +kernel)) ggX5_load_X0_wipe
theorem dX5_load_0 : decode cX5_load 0 = .ok (.iload_n 1, 1) := by decide +kernel
theorem dX5_load_1 : decode cX5_load 1 = .ok (.iconst 3, 1) := by decide +kernel
theorem dX5_load_2 : decode cX5_load 2 = .ok (.invokestatic 37, 3) := by decide +kernel
theorem dX5_load_5 : decode cX5_load 5 = .ok (.aload_n 0, 1) := by decide +kernel
theorem dX5_load_6 : decode cX5_load 6 = .ok (.getfield 26, 3) := by decide +kernel
theorem dX5_load_9 : decode cX5_load 9 = .ok (.invokevirtual 156, 3) := by decide +kernel
theorem dX5_load_12 : decode cX5_load 12 = .ok (.ifCond .ne 13, 3) := by decide +kernel
theorem dX5_load_15 : decode cX5_load 15 = .ok (.new 100, 3) := by decide +kernel
theorem dX5_load_18 : decode cX5_load 18 = .ok (.dup, 1) := by decide +kernel
theorem dX5_load_19 : decode cX5_load 19 = .ok (.ldc 159, 2) := by decide +kernel
theorem dX5_load_21 : decode cX5_load 21 = .ok (.invokespecial 104, 3) := by decide +kernel
theorem dX5_load_24 : decode cX5_load 24 = .ok (.athrow, 1) := by decide +kernel
theorem dX5_load_25 : decode cX5_load 25 = .ok (.aload_n 0, 1) := by decide +kernel
theorem dX5_load_26 : decode cX5_load 26 = .ok (.getfield 12, 3) := by decide +kernel
theorem dX5_load_29 : decode cX5_load 29 = .ok (.getfield 71, 3) := by decide +kernel
theorem dX5_load_32 : decode cX5_load 32 = .ok (.iload_n 1, 1) := by decide +kernel
theorem dX5_load_33 : decode cX5_load 33 = .ok (.aaload, 1) := by decide +kernel
theorem dX5_load_34 : decode cX5_load 34 = .ok (.astore_n 2, 1) := by decide +kernel
theorem dX5_load_35 : decode cX5_load 35 = .ok (.aload_n 0, 1) := by decide +kernel
theorem dX5_load_36 : decode cX5_load 36 = .ok (.getfield 33, 3) := by decide +kernel
theorem dX5_load_39 : decode cX5_load 39 = .ok (.invokevirtual 161, 3) := by decide +kernel
theorem dX5_load_42 : decode cX5_load 42 = .ok (.aload_n 0, 1) := by decide +kernel
theorem dX5_load_43 : decode cX5_load 43 = .ok (.getfield 26, 3) := by decide +kernel
theorem dX5_load_46 : decode cX5_load 46 = .ok (.aload_n 0, 1) := by decide +kernel
theorem dX5_load_47 : decode cX5_load 47 = .ok (.getfield 33, 3) := by decide +kernel
theorem dX5_load_50 : decode cX5_load 50 = .ok (.invokevirtual 164, 3) := by decide +kernel
theorem dX5_load_53 : decode cX5_load 53 = .ok (.aload_n 2, 1) := by decide +kernel
theorem dX5_load_54 : decode cX5_load 54 = .ok (.aload_n 0, 1) := by decide +kernel
theorem dX5_load_55 : decode cX5_load 55 = .ok (.getfield 33, 3) := by decide +kernel
theorem dX5_load_58 : decode cX5_load 58 = .ok (.invokevirtual 168, 3) := by decide +kernel
theorem dX5_load_61 : decode cX5_load 61 = .ok (.invokestatic 75, 3) := by decide +kernel
theorem dX5_load_64 : decode cX5_load 64 = .ok (.aload_n 0, 1) := by decide +kernel
theorem dX5_load_65 : decode cX5_load 65 = .ok (.getfield 19, 3) := by decide +kernel
theorem dX5_load_68 : decode cX5_load 68 = .ok (.aload_n 0, 1) := by decide +kernel
theorem dX5_load_69 : decode cX5_load 69 = .ok (.getfield 12, 3) := by decide +kernel
theorem dX5_load_72 : decode cX5_load 72 = .ok (.invokevirtual 54, 3) := by decide +kernel
theorem dX5_load_75 : decode cX5_load 75 = .ok (.iconst 0, 1) := by decide +kernel
theorem dX5_load_76 : decode cX5_load 76 = .ok (.istore_n 3, 1) := by decide +kernel
theorem dX5_load_77 : decode cX5_load 77 = .ok (.iload_n 3, 1) := by decide +kernel
theorem dX5_load_78 : decode cX5_load 78 = .ok (.iconst 4, 1) := by decide +kernel
theorem dX5_load_79 : decode cX5_load 79 = .ok (.if_icmp .ge 29, 3) := by decide +kernel
theorem dX5_load_82 : decode cX5_load 82 = .ok (.aload_n 0, 1) := by decide +kernel
theorem dX5_load_83 : decode cX5_load 83 = .ok (.getfield 12, 3) := by decide +kernel
theorem dX5_load_86 : decode cX5_load 86 = .ok (.getfield 82, 3) := by decide +kernel
theorem dX5_load_89 : decode cX5_load 89 = .ok (.iload_n 3, 1) := by decide +kernel
theorem dX5_load_90 : decode cX5_load 90 = .ok (.dup2, 1) := by decide +kernel
theorem dX5_load_91 : decode cX5_load 91 = .ok (.iaload, 1) := by decide +kernel
theorem dX5_load_92 : decode cX5_load 92 = .ok (.aload_n 0, 1) := by decide +kernel
theorem dX5_load_93 : decode cX5_load 93 = .ok (.getfield 33, 3) := by decide +kernel
theorem dX5_load_96 : decode cX5_load 96 = .ok (.iload_n 3, 1) := by decide +kernel
theorem dX5_load_97 : decode cX5_load 97 = .ok (.invokevirtual 171, 3) := by decide +kernel
theorem dX5_load_100 : decode cX5_load 100 = .ok (.iadd, 1) := by decide +kernel
theorem dX5_load_101 : decode cX5_load 101 = .ok (.iastore, 1) := by decide +kernel
theorem dX5_load_102 : decode cX5_load 102 = .ok (.iinc 3 1, 3) := by decide +kernel
theorem dX5_load_105 : decode cX5_load 105 = .ok (.goto (-28), 3) := by decide +kernel
theorem dX5_load_108 : decode cX5_load 108 = .ok (.aload_n 0, 1) := by decide +kernel
theorem dX5_load_109 : decode cX5_load 109 = .ok (.getfield 33, 3) := by decide +kernel
theorem dX5_load_112 : decode cX5_load 112 = .ok (.aload_n 2, 1) := by decide +kernel
theorem dX5_load_113 : decode cX5_load 113 = .ok (.bipush 11, 2) := by decide +kernel
theorem dX5_load_115 : decode cX5_load 115 = .ok (.invokevirtual 110, 3) := by decide +kernel
theorem dX5_load_118 : decode cX5_load 118 = .ok (.aload_n 0, 1) := by decide +kernel
theorem dX5_load_119 : decode cX5_load 119 = .ok (.getfield 26, 3) := by decide +kernel
theorem dX5_load_122 : decode cX5_load 122 = .ok (.invokevirtual 150, 3) := by decide +kernel
theorem dX5_load_125 : decode cX5_load 125 = .ok (.aload_n 2, 1) := by decide +kernel
theorem dX5_load_126 : decode cX5_load 126 = .ok (.invokevirtual 168, 3) := by decide +kernel
theorem dX5_load_129 : decode cX5_load 129 = .ok (.ireturn, 1) := by decide +kernel
set_option maxRecDepth 20000 in
theorem ggX5_undo_X1_size : GoodIn wsX5_undo wsX1_size := goodIn_r _ [9, 10, 51, 52, 53] (by decide +kernel) (by decide +kernel)
set_option maxRecDepth 20000 in
theorem gX5_undo_X1_size : GoodIn wsX5_undo (wsV RX5 174 RX1 yX1_size wsX1_size) := goodIn_app (goodIn_of _ (by decide +kernel)) ggX5_undo_X1_size
set_option maxRecDepth 20000 in
theorem ggX5_undo_X1_giveBack : GoodIn wsX5_undo wsX1_giveBack := goodIn_r _ [14, 10, 15, 16, 17, 18, 19, 20, 21, 22, 23, 24, 25, 26, 27, 28, 29, 30, 31, 32, 33, 34, 35, 36, 37, 38, 39, 40, 41, 42, 43, 44, 45, 46, 51, 52, 53, 54, 55, 56, 57, 58, 59, 60, 61, 62] (by decide +kernel) (by decide +kernel)
set_option maxRecDepth 20000 in
theorem gX5_undo_X1_giveBack : GoodIn wsX5_undo (wsV RX5 177 RX1 yX1_giveBack wsX1_giveBack) := goodIn_app (goodIn_of _ (by decide +kernel)) ggX5_undo_X1_giveBack
theorem dX5_undo_0 : decode cX5_undo 0 = .ok (.aload_n 0, 1) := by decide +kernel
theorem dX5_undo_1 : decode cX5_undo 1 = .ok (.getfield 19, 3) := by decide +kernel
theorem dX5_undo_4 : decode cX5_undo 4 = .ok (.invokevirtual 174, 3) := by decide +kernel
theorem dX5_undo_7 : decode cX5_undo 7 = .ok (.ifCond .ne 13, 3) := by decide +kernel
theorem dX5_undo_10 : decode cX5_undo 10 = .ok (.new 124, 3) := by decide +kernel
theorem dX5_undo_13 : decode cX5_undo 13 = .ok (.dup, 1) := by decide +kernel
theorem dX5_undo_14 : decode cX5_undo 14 = .ok (.ldc 175, 2) := by decide +kernel
theorem dX5_undo_16 : decode cX5_undo 16 = .ok (.invokespecial 128, 3) := by decide +kernel
theorem dX5_undo_19 : decode cX5_undo 19 = .ok (.athrow, 1) := by decide +kernel
theorem dX5_undo_20 : decode cX5_undo 20 = .ok (.aload_n 0, 1) := by decide +kernel
theorem dX5_undo_21 : decode cX5_undo 21 = .ok (.getfield 19, 3) := by decide +kernel
theorem dX5_undo_24 : decode cX5_undo 24 = .ok (.aload_n 0, 1) := by decide +kernel
theorem dX5_undo_25 : decode cX5_undo 25 = .ok (.getfield 12, 3) := by decide +kernel
theorem dX5_undo_28 : decode cX5_undo 28 = .ok (.invokevirtual 177, 3) := by decide +kernel
theorem dX5_undo_31 : decode cX5_undo 31 = .ok (.aload_n 0, 1) := by decide +kernel
theorem dX5_undo_32 : decode cX5_undo 32 = .ok (.getfield 19, 3) := by decide +kernel
theorem dX5_undo_35 : decode cX5_undo 35 = .ok (.invokevirtual 174, 3) := by decide +kernel
theorem dX5_undo_38 : decode cX5_undo 38 = .ok (.ireturn, 1) := by decide +kernel
set_option maxRecDepth 20000 in
theorem ggX5_slice_X5_needSlice : GoodIn wsX5_slice wsX5_needSlice := goodIn_ca (goodIn_r _ [7, 8, 9, 6, 10, 11, 12] (by decide +kernel) (by decide +kernel)) (goodIn_sub (fun _ h => List.mem_cons_of_mem _ (List.mem_append_left _ (List.mem_append_right _ h))) (by decide +kernel))
set_option maxRecDepth 20000 in
theorem gX5_slice_X5_needSlice : GoodIn wsX5_slice (va_wsS RX5 68 yX5_needSlice wsX5_needSlice) := goodIn_app (goodIn_of _ (by decide +kernel)) ggX5_slice_X5_needSlice
set_option maxRecDepth 20000 in
theorem ggX5_slice_X5_needRange : GoodIn wsX5_slice wsX5_needRange := goodIn_ca (goodIn_r _ [15, 16, 17] (by decide +kernel) (by decide +kernel)) (goodIn_sub (fun _ h => List.mem_cons_of_mem _ (List.mem_append_right _ h)) (by decide +kernel))
set_option maxRecDepth 20000 in
theorem gX5_slice_X5_needRange : GoodIn wsX5_slice (va_wsS RX5 50 yX5_needRange wsX5_needRange) := goodIn_app (goodIn_of _ (by decide +kernel)) ggX5_slice_X5_needRange
set_option maxRecDepth 20000 in
theorem ggX5_slice_X2_sliceProperty : GoodIn wsX5_slice wsX2_sliceProperty := goodIn_r _ [22, 23, 24, 25, 21, 26, 27, 28, 29, 30, 31, 32, 33, 34, 35, 36, 37, 38, 39, 40, 41, 42, 43, 44, 45, 46, 47, 48, 49, 50, 51, 52, 53, 54, 55, 56, 57, 58, 69, 70, 71] (by decide +kernel) (by decide +kernel)
set_option maxRecDepth 20000 in
theorem gX5_slice_X2_sliceProperty : GoodIn wsX5_slice (wsV RX5 180 RX2 yX2_sliceProperty wsX2_sliceProperty) := goodIn_app (goodIn_of _ (by decide +kernel)) ggX5_slice_X2_sliceProperty
theorem dX5_slice_0 : decode cX5_slice 0 = .ok (.iload_n 1, 1) := by decide +kernel
theorem dX5_slice_1 : decode cX5_slice 1 = .ok (.iload_n 2, 1) := by decide +kernel
theorem dX5_slice_2 : decode cX5_slice 2 = .ok (.invokestatic 68, 3) := by decide +kernel
theorem dX5_slice_5 : decode cX5_slice 5 = .ok (.iload_n 3, 1) := by decide +kernel
theorem dX5_slice_6 : decode cX5_slice 6 = .ok (.iconst 0, 1) := by decide +kernel
theorem dX5_slice_7 : decode cX5_slice 7 = .ok (.bipush 9, 2) := by decide +kernel
theorem dX5_slice_9 : decode cX5_slice 9 = .ok (.invokestatic 50, 3) := by decide +kernel
theorem dX5_slice_12 : decode cX5_slice 12 = .ok (.aload_n 0, 1) := by decide +kernel
theorem dX5_slice_13 : decode cX5_slice 13 = .ok (.getfield 12, 3) := by decide +kernel
theorem dX5_slice_16 : decode cX5_slice 16 = .ok (.getfield 71, 3) := by decide +kernel
theorem dX5_slice_19 : decode cX5_slice 19 = .ok (.iload_n 1, 1) := by decide +kernel
theorem dX5_slice_20 : decode cX5_slice 20 = .ok (.aaload, 1) := by decide +kernel
theorem dX5_slice_21 : decode cX5_slice 21 = .ok (.iload_n 2, 1) := by decide +kernel
theorem dX5_slice_22 : decode cX5_slice 22 = .ok (.iload_n 3, 1) := by decide +kernel
theorem dX5_slice_23 : decode cX5_slice 23 = .ok (.aload_n 0, 1) := by decide +kernel
theorem dX5_slice_24 : decode cX5_slice 24 = .ok (.getfield 12, 3) := by decide +kernel
theorem dX5_slice_27 : decode cX5_slice 27 = .ok (.getfield 58, 3) := by decide +kernel
theorem dX5_slice_30 : decode cX5_slice 30 = .ok (.invokevirtual 180, 3) := by decide +kernel
theorem dX5_slice_33 : decode cX5_slice 33 = .ok (.ireturn, 1) := by decide +kernel
set_option maxRecDepth 20000 in
theorem ggX5_jar_X5_needIndex : GoodIn wsX5_jar wsX5_needIndex := goodIn_ca (goodIn_r _ [7, 8, 9] (by decide +kernel) (by decide +kernel)) (goodIn_sub (fun _ h => List.mem_cons_of_mem _ (List.mem_append_left _ (List.mem_append_right _ h))) (by decide +kernel))
set_option maxRecDepth 20000 in
theorem gX5_jar_X5_needIndex : GoodIn wsX5_jar (va_wsS RX5 37 yX5_needIndex wsX5_needIndex) := goodIn_app (goodIn_of _ (by decide +kernel)) ggX5_jar_X5_needIndex
set_option maxRecDepth 20000 in
theorem ggX5_jar_X5_needRange : GoodIn wsX5_jar wsX5_needRange := goodIn_ca (goodIn_r _ [12, 13, 14] (by decide +kernel) (by decide +kernel)) (goodIn_sub (fun _ h => List.mem_cons_of_mem _ (List.mem_append_right _ h)) (by decide +kernel))
set_option maxRecDepth 20000 in
theorem gX5_jar_X5_needRange : GoodIn wsX5_jar (va_wsS RX5 50 yX5_needRange wsX5_needRange) := goodIn_app (goodIn_of _ (by decide +kernel)) ggX5_jar_X5_needRange
set_option maxRecDepth 20000 in
theorem ggX5_jar_X2_property : GoodIn wsX5_jar wsX2_property := goodIn_r _ [19, 20, 21, 22, 18, 23, 24, 25, 26, 27, 28, 29, 30, 31, 32, 33, 34, 35, 36, 37, 38, 39, 40, 41, 42, 43, 44, 45, 46, 47, 48, 49, 50, 51, 52, 53, 54, 55, 56, 57, 58, 59, 60, 61, 62, 63, 64, 65, 66, 67, 68, 69, 70, 71, 72, 73, 74, 75, 76, 77, 78, 79, 80, 81, 82, 83, 84, 85, 86, 87, 88, 89, 90, 91, 92, 93, 94, 95, 96, 107, 108, 109] (by decide +kernel) (by decide +kernel)
set_option maxRecDepth 20000 in
theorem gX5_jar_X2_property : GoodIn wsX5_jar (wsV RX5 184 RX2 yX2_property wsX2_property) := goodIn_app (goodIn_of _ (by decide +kernel)) ggX5_jar_X2_property
theorem dX5_jar_0 : decode cX5_jar 0 = .ok (.iload_n 1, 1) := by decide +kernel
theorem dX5_jar_1 : decode cX5_jar 1 = .ok (.iconst 3, 1) := by decide +kernel
theorem dX5_jar_2 : decode cX5_jar 2 = .ok (.invokestatic 37, 3) := by decide +kernel
theorem dX5_jar_5 : decode cX5_jar 5 = .ok (.iload_n 2, 1) := by decide +kernel
theorem dX5_jar_6 : decode cX5_jar 6 = .ok (.iconst 0, 1) := by decide +kernel
theorem dX5_jar_7 : decode cX5_jar 7 = .ok (.bipush 9, 2) := by decide +kernel
theorem dX5_jar_9 : decode cX5_jar 9 = .ok (.invokestatic 50, 3) := by decide +kernel
theorem dX5_jar_12 : decode cX5_jar 12 = .ok (.aload_n 0, 1) := by decide +kernel
theorem dX5_jar_13 : decode cX5_jar 13 = .ok (.getfield 12, 3) := by decide +kernel
theorem dX5_jar_16 : decode cX5_jar 16 = .ok (.getfield 71, 3) := by decide +kernel
theorem dX5_jar_19 : decode cX5_jar 19 = .ok (.iload_n 1, 1) := by decide +kernel
theorem dX5_jar_20 : decode cX5_jar 20 = .ok (.aaload, 1) := by decide +kernel
theorem dX5_jar_21 : decode cX5_jar 21 = .ok (.iload_n 2, 1) := by decide +kernel
theorem dX5_jar_22 : decode cX5_jar 22 = .ok (.aload_n 0, 1) := by decide +kernel
theorem dX5_jar_23 : decode cX5_jar 23 = .ok (.getfield 12, 3) := by decide +kernel
theorem dX5_jar_26 : decode cX5_jar 26 = .ok (.getfield 58, 3) := by decide +kernel
theorem dX5_jar_29 : decode cX5_jar 29 = .ok (.invokevirtual 184, 3) := by decide +kernel
theorem dX5_jar_32 : decode cX5_jar 32 = .ok (.ireturn, 1) := by decide +kernel
set_option maxRecDepth 20000 in
theorem ggX5_grains_X5_needIndex : GoodIn wsX5_grains wsX5_needIndex := goodIn_ca (goodIn_r _ [9, 10, 11] (by decide +kernel) (by decide +kernel)) (goodIn_sub (fun _ h => List.mem_cons_of_mem _ (List.mem_append_left _ (List.mem_append_right _ h))) (by decide +kernel))
set_option maxRecDepth 20000 in
theorem gX5_grains_X5_needIndex : GoodIn wsX5_grains (va_wsS RX5 37 yX5_needIndex wsX5_needIndex) := goodIn_app (goodIn_of _ (by decide +kernel)) ggX5_grains_X5_needIndex
set_option maxRecDepth 20000 in
theorem ggX5_grains_X5_needRange : GoodIn wsX5_grains wsX5_needRange := goodIn_ca (goodIn_r _ [14, 15, 16] (by decide +kernel) (by decide +kernel)) (goodIn_sub (fun _ h => List.mem_cons_of_mem _ (List.mem_append_right _ h)) (by decide +kernel))
set_option maxRecDepth 20000 in
theorem gX5_grains_X5_needRange : GoodIn wsX5_grains (va_wsS RX5 50 yX5_needRange wsX5_needRange) := goodIn_app (goodIn_of _ (by decide +kernel)) ggX5_grains_X5_needRange
set_option maxRecDepth 20000 in
theorem ggX5_grains_X4_allOf : GoodIn wsX5_grains wsX4_allOf := goodIn_r _ [21, 22, 23, 24, 25, 26, 27, 28, 29, 30, 31, 32, 37, 38, 39, 40, 41, 42, 45] (by decide +kernel) (by decide +kernel)
set_option maxRecDepth 20000 in
theorem gX5_grains_X4_allOf : GoodIn wsX5_grains (wsV RX5 187 RX4 yX4_allOf wsX4_allOf) := goodIn_app (goodIn_of _ (by decide +kernel)) ggX5_grains_X4_allOf
theorem dX5_grains_0 : decode cX5_grains 0 = .ok (.iload_n 1, 1) := by decide +kernel
theorem dX5_grains_1 : decode cX5_grains 1 = .ok (.iconst 4, 1) := by decide +kernel
theorem dX5_grains_2 : decode cX5_grains 2 = .ok (.invokestatic 37, 3) := by decide +kernel
theorem dX5_grains_5 : decode cX5_grains 5 = .ok (.iload_n 2, 1) := by decide +kernel
theorem dX5_grains_6 : decode cX5_grains 6 = .ok (.iconst 0, 1) := by decide +kernel
theorem dX5_grains_7 : decode cX5_grains 7 = .ok (.iconst 3, 1) := by decide +kernel
theorem dX5_grains_8 : decode cX5_grains 8 = .ok (.invokestatic 50, 3) := by decide +kernel
theorem dX5_grains_11 : decode cX5_grains 11 = .ok (.iload_n 2, 1) := by decide +kernel
theorem dX5_grains_12 : decode cX5_grains 12 = .ok (.tableswitch 57 0 2 #[28, 38, 48], 28) := by decide +kernel
theorem dX5_grains_40 : decode cX5_grains 40 = .ok (.aload_n 0, 1) := by decide +kernel
theorem dX5_grains_41 : decode cX5_grains 41 = .ok (.getfield 12, 3) := by decide +kernel
theorem dX5_grains_44 : decode cX5_grains 44 = .ok (.getfield 82, 3) := by decide +kernel
theorem dX5_grains_47 : decode cX5_grains 47 = .ok (.iload_n 1, 1) := by decide +kernel
theorem dX5_grains_48 : decode cX5_grains 48 = .ok (.iaload, 1) := by decide +kernel
theorem dX5_grains_49 : decode cX5_grains 49 = .ok (.ireturn, 1) := by decide +kernel
theorem dX5_grains_50 : decode cX5_grains 50 = .ok (.aload_n 0, 1) := by decide +kernel
theorem dX5_grains_51 : decode cX5_grains 51 = .ok (.getfield 12, 3) := by decide +kernel
theorem dX5_grains_54 : decode cX5_grains 54 = .ok (.getfield 97, 3) := by decide +kernel
theorem dX5_grains_57 : decode cX5_grains 57 = .ok (.iload_n 1, 1) := by decide +kernel
theorem dX5_grains_58 : decode cX5_grains 58 = .ok (.iaload, 1) := by decide +kernel
theorem dX5_grains_59 : decode cX5_grains 59 = .ok (.ireturn, 1) := by decide +kernel
theorem dX5_grains_60 : decode cX5_grains 60 = .ok (.aload_n 0, 1) := by decide +kernel
theorem dX5_grains_61 : decode cX5_grains 61 = .ok (.getfield 12, 3) := by decide +kernel
theorem dX5_grains_64 : decode cX5_grains 64 = .ok (.iload_n 1, 1) := by decide +kernel
theorem dX5_grains_65 : decode cX5_grains 65 = .ok (.invokevirtual 187, 3) := by decide +kernel
theorem dX5_grains_68 : decode cX5_grains 68 = .ok (.ireturn, 1) := by decide +kernel
theorem dX5_grains_69 : decode cX5_grains 69 = .ok (.aload_n 0, 1) := by decide +kernel
theorem dX5_grains_70 : decode cX5_grains 70 = .ok (.getfield 12, 3) := by decide +kernel
theorem dX5_grains_73 : decode cX5_grains 73 = .ok (.getfield 58, 3) := by decide +kernel
theorem dX5_grains_76 : decode cX5_grains 76 = .ok (.getfield 65, 3) := by decide +kernel
theorem dX5_grains_79 : decode cX5_grains 79 = .ok (.iload_n 1, 1) := by decide +kernel
theorem dX5_grains_80 : decode cX5_grains 80 = .ok (.iaload, 1) := by decide +kernel
theorem dX5_grains_81 : decode cX5_grains 81 = .ok (.ireturn, 1) := by decide +kernel
set_option maxRecDepth 20000 in
theorem ggX5_count_X5_needRange : GoodIn wsX5_count wsX5_needRange := goodIn_ca (goodIn_r _ [8, 9, 10] (by decide +kernel) (by decide +kernel)) (goodIn_sub (fun _ h => List.mem_cons_of_mem _ (List.mem_append_right _ h)) (by decide +kernel))
set_option maxRecDepth 20000 in
theorem gX5_count_X5_needRange : GoodIn wsX5_count (va_wsS RX5 50 yX5_needRange wsX5_needRange) := goodIn_app (goodIn_of _ (by decide +kernel)) ggX5_count_X5_needRange
set_option maxRecDepth 20000 in
theorem ggX5_count_X4_all : GoodIn wsX5_count wsX4_all := goodIn_r _ [15, 16, 17, 18, 19, 20, 21, 22, 23, 24, 25, 26, 27, 28, 29, 30, 31, 32, 33, 34, 72, 73, 74, 75, 76, 77, 78] (by decide +kernel) (by decide +kernel)
set_option maxRecDepth 20000 in
theorem gX5_count_X4_all : GoodIn wsX5_count (wsV RX5 188 RX4 yX4_all wsX4_all) := goodIn_app (goodIn_of _ (by decide +kernel)) ggX5_count_X4_all
set_option maxRecDepth 20000 in
theorem ggX5_count_X4_packedSlices : GoodIn wsX5_count wsX4_packedSlices := goodIn_r _ [38, 16, 39, 40, 41, 42, 20, 43, 26, 27, 28, 29, 30, 31, 32, 33, 34, 44, 45, 46, 47, 48, 49, 72, 73, 74, 75, 76, 77, 78, 79, 80] (by decide +kernel) (by decide +kernel)
set_option maxRecDepth 20000 in
theorem gX5_count_X4_packedSlices : GoodIn wsX5_count (wsV RX5 189 RX4 yX4_packedSlices wsX4_packedSlices) := goodIn_app (goodIn_of _ (by decide +kernel)) ggX5_count_X4_packedSlices
set_option maxRecDepth 20000 in
theorem ggX5_count_X4_clearSlices : GoodIn wsX5_count wsX4_clearSlices := goodIn_r _ [53, 16, 39, 54, 55, 56, 20, 57, 26, 27, 28, 29, 30, 31, 32, 33, 34, 58, 59, 60, 47, 61, 49, 72, 73, 74, 75, 76, 77, 78, 79, 80] (by decide +kernel) (by decide +kernel)
set_option maxRecDepth 20000 in
theorem gX5_count_X4_clearSlices : GoodIn wsX5_count (wsV RX5 191 RX4 yX4_clearSlices wsX4_clearSlices) := goodIn_app (goodIn_of _ (by decide +kernel)) ggX5_count_X4_clearSlices
set_option maxRecDepth 20000 in
theorem ggX5_count_X1_size : GoodIn wsX5_count wsX1_size := goodIn_r _ [66, 67, 81, 82, 83] (by decide +kernel) (by decide +kernel)
set_option maxRecDepth 20000 in
theorem gX5_count_X1_size : GoodIn wsX5_count (wsV RX5 174 RX1 yX1_size wsX1_size) := goodIn_app (goodIn_of _ (by decide +kernel)) ggX5_count_X1_size
theorem dX5_count_0 : decode cX5_count 0 = .ok (.iload_n 1, 1) := by decide +kernel
theorem dX5_count_1 : decode cX5_count 1 = .ok (.iconst 0, 1) := by decide +kernel
theorem dX5_count_2 : decode cX5_count 2 = .ok (.iconst 5, 1) := by decide +kernel
theorem dX5_count_3 : decode cX5_count 3 = .ok (.invokestatic 50, 3) := by decide +kernel
theorem dX5_count_6 : decode cX5_count 6 = .ok (.iload_n 1, 1) := by decide +kernel
theorem dX5_count_7 : decode cX5_count 7 = .ok (.tableswitch 73 0 4 #[33, 41, 49, 57, 65], 33) := by decide +kernel
theorem dX5_count_40 : decode cX5_count 40 = .ok (.aload_n 0, 1) := by decide +kernel
theorem dX5_count_41 : decode cX5_count 41 = .ok (.getfield 12, 3) := by decide +kernel
theorem dX5_count_44 : decode cX5_count 44 = .ok (.getfield 120, 3) := by decide +kernel
theorem dX5_count_47 : decode cX5_count 47 = .ok (.ireturn, 1) := by decide +kernel
theorem dX5_count_48 : decode cX5_count 48 = .ok (.aload_n 0, 1) := by decide +kernel
theorem dX5_count_49 : decode cX5_count 49 = .ok (.getfield 12, 3) := by decide +kernel
theorem dX5_count_52 : decode cX5_count 52 = .ok (.invokevirtual 188, 3) := by decide +kernel
theorem dX5_count_55 : decode cX5_count 55 = .ok (.ireturn, 1) := by decide +kernel
theorem dX5_count_56 : decode cX5_count 56 = .ok (.aload_n 0, 1) := by decide +kernel
theorem dX5_count_57 : decode cX5_count 57 = .ok (.getfield 12, 3) := by decide +kernel
theorem dX5_count_60 : decode cX5_count 60 = .ok (.invokevirtual 189, 3) := by decide +kernel
theorem dX5_count_63 : decode cX5_count 63 = .ok (.ireturn, 1) := by decide +kernel
theorem dX5_count_64 : decode cX5_count 64 = .ok (.aload_n 0, 1) := by decide +kernel
theorem dX5_count_65 : decode cX5_count 65 = .ok (.getfield 12, 3) := by decide +kernel
theorem dX5_count_68 : decode cX5_count 68 = .ok (.invokevirtual 191, 3) := by decide +kernel
theorem dX5_count_71 : decode cX5_count 71 = .ok (.ireturn, 1) := by decide +kernel
theorem dX5_count_72 : decode cX5_count 72 = .ok (.aload_n 0, 1) := by decide +kernel
theorem dX5_count_73 : decode cX5_count 73 = .ok (.getfield 12, 3) := by decide +kernel
theorem dX5_count_76 : decode cX5_count 76 = .ok (.getfield 133, 3) := by decide +kernel
theorem dX5_count_79 : decode cX5_count 79 = .ok (.ireturn, 1) := by decide +kernel
theorem dX5_count_80 : decode cX5_count 80 = .ok (.aload_n 0, 1) := by decide +kernel
theorem dX5_count_81 : decode cX5_count 81 = .ok (.getfield 19, 3) := by decide +kernel
theorem dX5_count_84 : decode cX5_count 84 = .ok (.invokevirtual 174, 3) := by decide +kernel
theorem dX5_count_87 : decode cX5_count 87 = .ok (.ireturn, 1) := by decide +kernel
set_option maxRecDepth 20000 in
theorem ggX5_setting_X5_needIndex : GoodIn wsX5_setting wsX5_needIndex := goodIn_ca (goodIn_r _ [7, 8, 9] (by decide +kernel) (by decide +kernel)) (goodIn_sub (fun _ h => List.mem_cons_of_mem _ (List.mem_append_right _ h)) (by decide +kernel))
set_option maxRecDepth 20000 in
theorem gX5_setting_X5_needIndex : GoodIn wsX5_setting (va_wsS RX5 37 yX5_needIndex wsX5_needIndex) := goodIn_app (goodIn_of _ (by decide +kernel)) ggX5_setting_X5_needIndex
theorem dX5_setting_0 : decode cX5_setting 0 = .ok (.iload_n 1, 1) := by decide +kernel
theorem dX5_setting_1 : decode cX5_setting 1 = .ok (.iconst 4, 1) := by decide +kernel
theorem dX5_setting_2 : decode cX5_setting 2 = .ok (.invokestatic 37, 3) := by decide +kernel
theorem dX5_setting_5 : decode cX5_setting 5 = .ok (.aload_n 0, 1) := by decide +kernel
theorem dX5_setting_6 : decode cX5_setting 6 = .ok (.getfield 12, 3) := by decide +kernel
theorem dX5_setting_9 : decode cX5_setting 9 = .ok (.getfield 58, 3) := by decide +kernel
theorem dX5_setting_12 : decode cX5_setting 12 = .ok (.getfield 62, 3) := by decide +kernel
theorem dX5_setting_15 : decode cX5_setting 15 = .ok (.iload_n 1, 1) := by decide +kernel
theorem dX5_setting_16 : decode cX5_setting 16 = .ok (.iaload, 1) := by decide +kernel
theorem dX5_setting_17 : decode cX5_setting 17 = .ok (.ireturn, 1) := by decide +kernel
set_option maxRecDepth 20000 in
theorem ggX5_why_X5_needSlice : GoodIn wsX5_why wsX5_needSlice := goodIn_ca (goodIn_r _ [7, 8, 9, 6, 10, 11, 12] (by decide +kernel) (by decide +kernel)) (goodIn_sub (fun _ h => List.mem_cons_of_mem _ (List.mem_append_right _ h)) (by decide +kernel))
set_option maxRecDepth 20000 in
theorem gX5_why_X5_needSlice : GoodIn wsX5_why (va_wsS RX5 68 yX5_needSlice wsX5_needSlice) := goodIn_app (goodIn_of _ (by decide +kernel)) ggX5_why_X5_needSlice
set_option maxRecDepth 20000 in
theorem ggX5_why_X5_needIndex : GoodIn wsX5_why wsX5_needIndex := goodIn_ca (goodIn_r _ [10, 11, 12] (by decide +kernel) (by decide +kernel)) (goodIn_sub (fun _ h => List.mem_cons_of_mem _ (List.mem_append_right _ h)) (by decide +kernel))
set_option maxRecDepth 20000 in
theorem gX5_why_X5_needIndex : GoodIn wsX5_why (va_wsS RX5 37 yX5_needIndex wsX5_needIndex) := goodIn_app (goodIn_of _ (by decide +kernel)) ggX5_why_X5_needIndex
set_option maxRecDepth 20000 in
theorem ggX5_why_X2_reasonToStay : GoodIn wsX5_why wsX2_reasonToStay := goodIn_r _ [17, 18, 19, 20, 16, 21, 22, 23, 24, 25, 26, 27, 28, 29, 30, 31, 32, 33, 34, 35, 36, 37, 38, 39, 40, 41, 42, 43, 44, 45, 46, 47, 48, 49, 50, 61, 62, 63] (by decide +kernel) (by decide +kernel)
set_option maxRecDepth 20000 in
theorem gX5_why_X2_reasonToStay : GoodIn wsX5_why (wsV RX5 194 RX2 yX2_reasonToStay wsX2_reasonToStay) := goodIn_app (goodIn_of _ (by decide +kernel)) ggX5_why_X2_reasonToStay
theorem dX5_why_0 : decode cX5_why 0 = .ok (.iload_n 1, 1) := by decide +kernel
theorem dX5_why_1 : decode cX5_why 1 = .ok (.iload_n 2, 1) := by decide +kernel
theorem dX5_why_2 : decode cX5_why 2 = .ok (.invokestatic 68, 3) := by decide +kernel
theorem dX5_why_5 : decode cX5_why 5 = .ok (.iload_n 3, 1) := by decide +kernel
theorem dX5_why_6 : decode cX5_why 6 = .ok (.iconst 4, 1) := by decide +kernel
theorem dX5_why_7 : decode cX5_why 7 = .ok (.invokestatic 37, 3) := by decide +kernel
theorem dX5_why_10 : decode cX5_why 10 = .ok (.aload_n 0, 1) := by decide +kernel
theorem dX5_why_11 : decode cX5_why 11 = .ok (.getfield 12, 3) := by decide +kernel
theorem dX5_why_14 : decode cX5_why 14 = .ok (.getfield 71, 3) := by decide +kernel
theorem dX5_why_17 : decode cX5_why 17 = .ok (.iload_n 1, 1) := by decide +kernel
theorem dX5_why_18 : decode cX5_why 18 = .ok (.aaload, 1) := by decide +kernel
theorem dX5_why_19 : decode cX5_why 19 = .ok (.iload_n 2, 1) := by decide +kernel
theorem dX5_why_20 : decode cX5_why 20 = .ok (.iload_n 3, 1) := by decide +kernel
theorem dX5_why_21 : decode cX5_why 21 = .ok (.aload_n 0, 1) := by decide +kernel
theorem dX5_why_22 : decode cX5_why 22 = .ok (.getfield 12, 3) := by decide +kernel
theorem dX5_why_25 : decode cX5_why 25 = .ok (.getfield 58, 3) := by decide +kernel
theorem dX5_why_28 : decode cX5_why 28 = .ok (.invokevirtual 194, 3) := by decide +kernel
theorem dX5_why_31 : decode cX5_why 31 = .ok (.ireturn, 1) := by decide +kernel
set_option maxRecDepth 20000 in
theorem ggX5_ifSettled_X5_needIndex : GoodIn wsX5_ifSettled wsX5_needIndex := goodIn_ca (goodIn_r _ [8, 9, 10] (by decide +kernel) (by decide +kernel)) (goodIn_sub (fun _ h => List.mem_cons_of_mem _ (List.mem_append_left _ (List.mem_append_right _ h))) (by decide +kernel))
set_option maxRecDepth 20000 in
theorem gX5_ifSettled_X5_needIndex : GoodIn wsX5_ifSettled (va_wsS RX5 37 yX5_needIndex wsX5_needIndex) := goodIn_app (goodIn_of _ (by decide +kernel)) ggX5_ifSettled_X5_needIndex
set_option maxRecDepth 20000 in
theorem ggX5_ifSettled_X5_needRange : GoodIn wsX5_ifSettled wsX5_needRange := goodIn_ca (goodIn_r _ [13, 14, 15] (by decide +kernel) (by decide +kernel)) (goodIn_sub (fun _ h => List.mem_cons_of_mem _ (List.mem_append_right _ h)) (by decide +kernel))
set_option maxRecDepth 20000 in
theorem gX5_ifSettled_X5_needRange : GoodIn wsX5_ifSettled (va_wsS RX5 50 yX5_needRange wsX5_needRange) := goodIn_app (goodIn_of _ (by decide +kernel)) ggX5_ifSettled_X5_needRange
set_option maxRecDepth 20000 in
theorem ggX5_ifSettled_X2_copyFrom : GoodIn wsX5_ifSettled wsX2_copyFrom := goodIn_r _ [20, 21, 22, 23, 24, 25, 133] (by decide +kernel) (by decide +kernel)
set_option maxRecDepth 20000 in
theorem gX5_ifSettled_X2_copyFrom : GoodIn wsX5_ifSettled (wsV RX5 197 RX2 yX2_copyFrom wsX2_copyFrom) := goodIn_app (goodIn_of _ (by decide +kernel)) ggX5_ifSettled_X2_copyFrom
set_option maxRecDepth 20000 in
theorem ggX5_ifSettled_X2_goOn : GoodIn wsX5_ifSettled wsX2_goOn := goodIn_r _ [29, 30, 31, 32, 19, 33, 34, 35, 36, 37, 38, 39, 40, 41, 42, 43, 44, 45, 46, 47, 48, 49, 21, 50, 51, 52, 53, 54, 55, 56, 57, 58, 59, 60, 61, 62, 63, 64, 65, 66, 67, 68, 69, 70, 71, 72, 73, 74, 133, 134, 135] (by decide +kernel) (by decide +kernel)
set_option maxRecDepth 20000 in
theorem gX5_ifSettled_X2_goOn : GoodIn wsX5_ifSettled (wsV RX5 129 RX2 yX2_goOn wsX2_goOn) := goodIn_app (goodIn_of _ (by decide +kernel)) ggX5_ifSettled_X2_goOn
set_option maxRecDepth 20000 in
theorem ggX5_ifSettled_X2_property : GoodIn wsX5_ifSettled wsX2_property := goodIn_r _ [78, 79, 80, 81, 19, 82, 83, 84, 85, 86, 42, 43, 44, 45, 46, 47, 48, 49, 21, 87, 88, 89, 90, 91, 92, 93, 53, 94, 56, 95, 96, 97, 98, 99, 100, 101, 102, 103, 104, 105, 106, 107, 108, 109, 110, 111, 112, 113, 114, 115, 116, 117, 118, 60, 61, 62, 63, 57, 58, 40, 59, 50, 51, 52, 54, 55, 64, 65, 66, 67, 68, 69, 70, 39, 41, 119, 120, 121, 122, 133, 134, 135] (by decide +kernel) (by decide +kernel)
set_option maxRecDepth 20000 in
theorem gX5_ifSettled_X2_property : GoodIn wsX5_ifSettled (wsV RX5 184 RX2 yX2_property wsX2_property) := goodIn_app (goodIn_of _ (by decide +kernel)) ggX5_ifSettled_X2_property
theorem dX5_ifSettled_0 : decode cX5_ifSettled 0 = .ok (.iload_n 1, 1) := by decide +kernel
theorem dX5_ifSettled_1 : decode cX5_ifSettled 1 = .ok (.iconst 3, 1) := by decide +kernel
theorem dX5_ifSettled_2 : decode cX5_ifSettled 2 = .ok (.invokestatic 37, 3) := by decide +kernel
theorem dX5_ifSettled_5 : decode cX5_ifSettled 5 = .ok (.iload_n 2, 1) := by decide +kernel
theorem dX5_ifSettled_6 : decode cX5_ifSettled 6 = .ok (.iconst 1, 1) := by decide +kernel
theorem dX5_ifSettled_7 : decode cX5_ifSettled 7 = .ok (.bipush 100, 2) := by decide +kernel
theorem dX5_ifSettled_9 : decode cX5_ifSettled 9 = .ok (.invokestatic 50, 3) := by decide +kernel
theorem dX5_ifSettled_12 : decode cX5_ifSettled 12 = .ok (.iload_n 3, 1) := by decide +kernel
theorem dX5_ifSettled_13 : decode cX5_ifSettled 13 = .ok (.iconst 0, 1) := by decide +kernel
theorem dX5_ifSettled_14 : decode cX5_ifSettled 14 = .ok (.bipush 8, 2) := by decide +kernel
theorem dX5_ifSettled_16 : decode cX5_ifSettled 16 = .ok (.invokestatic 50, 3) := by decide +kernel
theorem dX5_ifSettled_19 : decode cX5_ifSettled 19 = .ok (.aload_n 0, 1) := by decide +kernel
theorem dX5_ifSettled_20 : decode cX5_ifSettled 20 = .ok (.getfield 33, 3) := by decide +kernel
theorem dX5_ifSettled_23 : decode cX5_ifSettled 23 = .ok (.aload_n 0, 1) := by decide +kernel
theorem dX5_ifSettled_24 : decode cX5_ifSettled 24 = .ok (.getfield 12, 3) := by decide +kernel
theorem dX5_ifSettled_27 : decode cX5_ifSettled 27 = .ok (.getfield 71, 3) := by decide +kernel
theorem dX5_ifSettled_30 : decode cX5_ifSettled 30 = .ok (.iload_n 1, 1) := by decide +kernel
theorem dX5_ifSettled_31 : decode cX5_ifSettled 31 = .ok (.aaload, 1) := by decide +kernel
theorem dX5_ifSettled_32 : decode cX5_ifSettled 32 = .ok (.invokevirtual 197, 3) := by decide +kernel
theorem dX5_ifSettled_35 : decode cX5_ifSettled 35 = .ok (.aload_n 0, 1) := by decide +kernel
theorem dX5_ifSettled_36 : decode cX5_ifSettled 36 = .ok (.getfield 33, 3) := by decide +kernel
theorem dX5_ifSettled_39 : decode cX5_ifSettled 39 = .ok (.iload_n 2, 1) := by decide +kernel
theorem dX5_ifSettled_40 : decode cX5_ifSettled 40 = .ok (.aload_n 0, 1) := by decide +kernel
theorem dX5_ifSettled_41 : decode cX5_ifSettled 41 = .ok (.getfield 12, 3) := by decide +kernel
theorem dX5_ifSettled_44 : decode cX5_ifSettled 44 = .ok (.getfield 58, 3) := by decide +kernel
theorem dX5_ifSettled_47 : decode cX5_ifSettled 47 = .ok (.invokevirtual 129, 3) := by decide +kernel
theorem dX5_ifSettled_50 : decode cX5_ifSettled 50 = .ok (.pop, 1) := by decide +kernel
theorem dX5_ifSettled_51 : decode cX5_ifSettled 51 = .ok (.aload_n 0, 1) := by decide +kernel
theorem dX5_ifSettled_52 : decode cX5_ifSettled 52 = .ok (.getfield 33, 3) := by decide +kernel
theorem dX5_ifSettled_55 : decode cX5_ifSettled 55 = .ok (.iload_n 3, 1) := by decide +kernel
theorem dX5_ifSettled_56 : decode cX5_ifSettled 56 = .ok (.aload_n 0, 1) := by decide +kernel
theorem dX5_ifSettled_57 : decode cX5_ifSettled 57 = .ok (.getfield 12, 3) := by decide +kernel
theorem dX5_ifSettled_60 : decode cX5_ifSettled 60 = .ok (.getfield 58, 3) := by decide +kernel
theorem dX5_ifSettled_63 : decode cX5_ifSettled 63 = .ok (.invokevirtual 184, 3) := by decide +kernel
theorem dX5_ifSettled_66 : decode cX5_ifSettled 66 = .ok (.ireturn, 1) := by decide +kernel
set_option maxRecDepth 20000 in
theorem ggX5_clearIn_X5_needIndex : GoodIn wsX5_clearIn wsX5_needIndex := goodIn_ca (goodIn_r _ [8, 9, 10] (by decide +kernel) (by decide +kernel)) (goodIn_sub (fun _ h => List.mem_cons_of_mem _ (List.mem_append_left _ (List.mem_append_right _ h))) (by decide +kernel))
set_option maxRecDepth 20000 in
theorem gX5_clearIn_X5_needIndex : GoodIn wsX5_clearIn (va_wsS RX5 37 yX5_needIndex wsX5_needIndex) := goodIn_app (goodIn_of _ (by decide +kernel)) ggX5_clearIn_X5_needIndex
set_option maxRecDepth 20000 in
theorem ggX5_clearIn_X5_needRange : GoodIn wsX5_clearIn wsX5_needRange := goodIn_ca (goodIn_r _ [13, 14, 15] (by decide +kernel) (by decide +kernel)) (goodIn_sub (fun _ h => List.mem_cons_of_mem _ (List.mem_append_right _ h)) (by decide +kernel))
set_option maxRecDepth 20000 in
theorem gX5_clearIn_X5_needRange : GoodIn wsX5_clearIn (va_wsS RX5 50 yX5_needRange wsX5_needRange) := goodIn_app (goodIn_of _ (by decide +kernel)) ggX5_clearIn_X5_needRange
set_option maxRecDepth 20000 in
theorem ggX5_clearIn_X2_copyFrom : GoodIn wsX5_clearIn wsX2_copyFrom := goodIn_r _ [20, 21, 22, 23, 24, 25, 89] (by decide +kernel) (by decide +kernel)
set_option maxRecDepth 20000 in
theorem gX5_clearIn_X2_copyFrom : GoodIn wsX5_clearIn (wsV RX5 197 RX2 yX2_copyFrom wsX2_copyFrom) := goodIn_app (goodIn_of _ (by decide +kernel)) ggX5_clearIn_X2_copyFrom
set_option maxRecDepth 20000 in
theorem ggX5_clearIn_X2_clearWater : GoodIn wsX5_clearIn wsX2_clearWater := goodIn_r _ [29, 30, 31, 32, 19, 33, 34, 35, 36, 37, 21, 38, 39, 40, 41, 42, 43, 89, 90, 91] (by decide +kernel) (by decide +kernel)
set_option maxRecDepth 20000 in
theorem gX5_clearIn_X2_clearWater : GoodIn wsX5_clearIn (wsV RX5 200 RX2 yX2_clearWater wsX2_clearWater) := goodIn_app (goodIn_of _ (by decide +kernel)) ggX5_clearIn_X2_clearWater
set_option maxRecDepth 20000 in
theorem ggX5_clearIn_X2_goOneStep : GoodIn wsX5_clearIn wsX2_goOneStep := goodIn_r _ [47, 48, 49, 50, 19, 51, 52, 53, 54, 55, 30, 31, 32, 33, 34, 35, 36, 37, 21, 56, 57, 58, 41, 59, 60, 43, 61, 62, 63, 64, 65, 66, 67, 68, 69, 70, 71, 72, 73, 74, 75, 76, 77, 78, 89, 90, 91] (by decide +kernel) (by decide +kernel)
set_option maxRecDepth 20000 in
theorem gX5_clearIn_X2_goOneStep : GoodIn wsX5_clearIn (wsV RX5 203 RX2 yX2_goOneStep wsX2_goOneStep) := goodIn_app (goodIn_of _ (by decide +kernel)) ggX5_clearIn_X2_goOneStep
theorem dX5_clearIn_0 : decode cX5_clearIn 0 = .ok (.iload_n 1, 1) := by decide +kernel
theorem dX5_clearIn_1 : decode cX5_clearIn 1 = .ok (.iconst 3, 1) := by decide +kernel
theorem dX5_clearIn_2 : decode cX5_clearIn 2 = .ok (.invokestatic 37, 3) := by decide +kernel
theorem dX5_clearIn_5 : decode cX5_clearIn 5 = .ok (.iload_n 2, 1) := by decide +kernel
theorem dX5_clearIn_6 : decode cX5_clearIn 6 = .ok (.iconst 1, 1) := by decide +kernel
theorem dX5_clearIn_7 : decode cX5_clearIn 7 = .ok (.bipush 12, 2) := by decide +kernel
theorem dX5_clearIn_9 : decode cX5_clearIn 9 = .ok (.invokestatic 50, 3) := by decide +kernel
theorem dX5_clearIn_12 : decode cX5_clearIn 12 = .ok (.aload_n 0, 1) := by decide +kernel
theorem dX5_clearIn_13 : decode cX5_clearIn 13 = .ok (.getfield 33, 3) := by decide +kernel
theorem dX5_clearIn_16 : decode cX5_clearIn 16 = .ok (.aload_n 0, 1) := by decide +kernel
theorem dX5_clearIn_17 : decode cX5_clearIn 17 = .ok (.getfield 12, 3) := by decide +kernel
theorem dX5_clearIn_20 : decode cX5_clearIn 20 = .ok (.getfield 71, 3) := by decide +kernel
theorem dX5_clearIn_23 : decode cX5_clearIn 23 = .ok (.iload_n 1, 1) := by decide +kernel
theorem dX5_clearIn_24 : decode cX5_clearIn 24 = .ok (.aaload, 1) := by decide +kernel
theorem dX5_clearIn_25 : decode cX5_clearIn 25 = .ok (.invokevirtual 197, 3) := by decide +kernel
theorem dX5_clearIn_28 : decode cX5_clearIn 28 = .ok (.iconst 0, 1) := by decide +kernel
theorem dX5_clearIn_29 : decode cX5_clearIn 29 = .ok (.istore_n 3, 1) := by decide +kernel
theorem dX5_clearIn_30 : decode cX5_clearIn 30 = .ok (.iload_n 3, 1) := by decide +kernel
theorem dX5_clearIn_31 : decode cX5_clearIn 31 = .ok (.sipush 300, 3) := by decide +kernel
theorem dX5_clearIn_34 : decode cX5_clearIn 34 = .ok (.if_icmp .gt 48, 3) := by decide +kernel
theorem dX5_clearIn_37 : decode cX5_clearIn 37 = .ok (.aload_n 0, 1) := by decide +kernel
theorem dX5_clearIn_38 : decode cX5_clearIn 38 = .ok (.getfield 33, 3) := by decide +kernel
theorem dX5_clearIn_41 : decode cX5_clearIn 41 = .ok (.aload_n 0, 1) := by decide +kernel
theorem dX5_clearIn_42 : decode cX5_clearIn 42 = .ok (.getfield 12, 3) := by decide +kernel
theorem dX5_clearIn_45 : decode cX5_clearIn 45 = .ok (.getfield 58, 3) := by decide +kernel
theorem dX5_clearIn_48 : decode cX5_clearIn 48 = .ok (.invokevirtual 200, 3) := by decide +kernel
theorem dX5_clearIn_51 : decode cX5_clearIn 51 = .ok (.iload_n 2, 1) := by decide +kernel
theorem dX5_clearIn_52 : decode cX5_clearIn 52 = .ok (.if_icmp .lt 5, 3) := by decide +kernel
theorem dX5_clearIn_55 : decode cX5_clearIn 55 = .ok (.iload_n 3, 1) := by decide +kernel
theorem dX5_clearIn_56 : decode cX5_clearIn 56 = .ok (.ireturn, 1) := by decide +kernel
theorem dX5_clearIn_57 : decode cX5_clearIn 57 = .ok (.aload_n 0, 1) := by decide +kernel
theorem dX5_clearIn_58 : decode cX5_clearIn 58 = .ok (.getfield 33, 3) := by decide +kernel
theorem dX5_clearIn_61 : decode cX5_clearIn 61 = .ok (.aload_n 0, 1) := by decide +kernel
theorem dX5_clearIn_62 : decode cX5_clearIn 62 = .ok (.getfield 12, 3) := by decide +kernel
theorem dX5_clearIn_65 : decode cX5_clearIn 65 = .ok (.getfield 58, 3) := by decide +kernel
theorem dX5_clearIn_68 : decode cX5_clearIn 68 = .ok (.invokevirtual 203, 3) := by decide +kernel
theorem dX5_clearIn_71 : decode cX5_clearIn 71 = .ok (.ifCond .ne 5, 3) := by decide +kernel
theorem dX5_clearIn_74 : decode cX5_clearIn 74 = .ok (.iconst (-1), 1) := by decide +kernel
theorem dX5_clearIn_75 : decode cX5_clearIn 75 = .ok (.ireturn, 1) := by decide +kernel
theorem dX5_clearIn_76 : decode cX5_clearIn 76 = .ok (.iinc 3 1, 3) := by decide +kernel
theorem dX5_clearIn_79 : decode cX5_clearIn 79 = .ok (.goto (-49), 3) := by decide +kernel
theorem dX5_clearIn_82 : decode cX5_clearIn 82 = .ok (.iconst (-1), 1) := by decide +kernel
theorem dX5_clearIn_83 : decode cX5_clearIn 83 = .ok (.ireturn, 1) := by decide +kernel
set_option maxRecDepth 20000 in
theorem ggX5_restIn_X5_needIndex : GoodIn wsX5_restIn wsX5_needIndex := goodIn_ca (goodIn_r _ [8, 9, 10] (by decide +kernel) (by decide +kernel)) (goodIn_sub (fun _ h => List.mem_cons_of_mem _ (List.mem_append_right _ h)) (by decide +kernel))
set_option maxRecDepth 20000 in
theorem gX5_restIn_X5_needIndex : GoodIn wsX5_restIn (va_wsS RX5 37 yX5_needIndex wsX5_needIndex) := goodIn_app (goodIn_of _ (by decide +kernel)) ggX5_restIn_X5_needIndex
set_option maxRecDepth 20000 in
theorem ggX5_restIn_X2_copyFrom : GoodIn wsX5_restIn wsX2_copyFrom := goodIn_r _ [15, 16, 17, 18, 19, 20, 76] (by decide +kernel) (by decide +kernel)
set_option maxRecDepth 20000 in
theorem gX5_restIn_X2_copyFrom : GoodIn wsX5_restIn (wsV RX5 197 RX2 yX2_copyFrom wsX2_copyFrom) := goodIn_app (goodIn_of _ (by decide +kernel)) ggX5_restIn_X2_copyFrom
set_option maxRecDepth 20000 in
theorem ggX5_restIn_X2_goOneStep : GoodIn wsX5_restIn wsX2_goOneStep := goodIn_r _ [24, 25, 26, 27, 14, 28, 29, 30, 31, 32, 33, 34, 35, 36, 37, 38, 39, 40, 16, 41, 42, 43, 44, 45, 46, 47, 48, 49, 50, 51, 52, 53, 54, 55, 56, 57, 58, 59, 60, 61, 62, 63, 64, 65, 76, 77, 78] (by decide +kernel) (by decide +kernel)
set_option maxRecDepth 20000 in
theorem gX5_restIn_X2_goOneStep : GoodIn wsX5_restIn (wsV RX5 203 RX2 yX2_goOneStep wsX2_goOneStep) := goodIn_app (goodIn_of _ (by decide +kernel)) ggX5_restIn_X2_goOneStep
theorem dX5_restIn_0 : decode cX5_restIn 0 = .ok (.iload_n 1, 1) := by decide +kernel
theorem dX5_restIn_1 : decode cX5_restIn 1 = .ok (.iconst 3, 1) := by decide +kernel
theorem dX5_restIn_2 : decode cX5_restIn 2 = .ok (.invokestatic 37, 3) := by decide +kernel
theorem dX5_restIn_5 : decode cX5_restIn 5 = .ok (.aload_n 0, 1) := by decide +kernel
theorem dX5_restIn_6 : decode cX5_restIn 6 = .ok (.getfield 33, 3) := by decide +kernel
theorem dX5_restIn_9 : decode cX5_restIn 9 = .ok (.aload_n 0, 1) := by decide +kernel
theorem dX5_restIn_10 : decode cX5_restIn 10 = .ok (.getfield 12, 3) := by decide +kernel
theorem dX5_restIn_13 : decode cX5_restIn 13 = .ok (.getfield 71, 3) := by decide +kernel
theorem dX5_restIn_16 : decode cX5_restIn 16 = .ok (.iload_n 1, 1) := by decide +kernel
theorem dX5_restIn_17 : decode cX5_restIn 17 = .ok (.aaload, 1) := by decide +kernel
theorem dX5_restIn_18 : decode cX5_restIn 18 = .ok (.invokevirtual 197, 3) := by decide +kernel
theorem dX5_restIn_21 : decode cX5_restIn 21 = .ok (.iconst 0, 1) := by decide +kernel
theorem dX5_restIn_22 : decode cX5_restIn 22 = .ok (.istore_n 2, 1) := by decide +kernel
theorem dX5_restIn_23 : decode cX5_restIn 23 = .ok (.iload_n 2, 1) := by decide +kernel
theorem dX5_restIn_24 : decode cX5_restIn 24 = .ok (.sipush 600, 3) := by decide +kernel
theorem dX5_restIn_27 : decode cX5_restIn 27 = .ok (.if_icmp .gt 28, 3) := by decide +kernel
theorem dX5_restIn_30 : decode cX5_restIn 30 = .ok (.aload_n 0, 1) := by decide +kernel
theorem dX5_restIn_31 : decode cX5_restIn 31 = .ok (.getfield 33, 3) := by decide +kernel
theorem dX5_restIn_34 : decode cX5_restIn 34 = .ok (.aload_n 0, 1) := by decide +kernel
theorem dX5_restIn_35 : decode cX5_restIn 35 = .ok (.getfield 12, 3) := by decide +kernel
theorem dX5_restIn_38 : decode cX5_restIn 38 = .ok (.getfield 58, 3) := by decide +kernel
theorem dX5_restIn_41 : decode cX5_restIn 41 = .ok (.invokevirtual 203, 3) := by decide +kernel
theorem dX5_restIn_44 : decode cX5_restIn 44 = .ok (.ifCond .ne 5, 3) := by decide +kernel
theorem dX5_restIn_47 : decode cX5_restIn 47 = .ok (.iload_n 2, 1) := by decide +kernel
theorem dX5_restIn_48 : decode cX5_restIn 48 = .ok (.ireturn, 1) := by decide +kernel
theorem dX5_restIn_49 : decode cX5_restIn 49 = .ok (.iinc 2 1, 3) := by decide +kernel
theorem dX5_restIn_52 : decode cX5_restIn 52 = .ok (.goto (-29), 3) := by decide +kernel
theorem dX5_restIn_55 : decode cX5_restIn 55 = .ok (.iconst (-1), 1) := by decide +kernel
theorem dX5_restIn_56 : decode cX5_restIn 56 = .ok (.ireturn, 1) := by decide +kernel
set_option maxRecDepth 20000 in
theorem ggX5_purest_X5_needIndex : GoodIn wsX5_purest wsX5_needIndex := goodIn_ca (goodIn_r _ [6, 7, 8] (by decide +kernel) (by decide +kernel)) (goodIn_sub (fun _ h => List.mem_cons_of_mem _ (List.mem_append_right _ h)) (by decide +kernel))
set_option maxRecDepth 20000 in
theorem gX5_purest_X5_needIndex : GoodIn wsX5_purest (va_wsS RX5 37 yX5_needIndex wsX5_needIndex) := goodIn_app (goodIn_of _ (by decide +kernel)) ggX5_purest_X5_needIndex
set_option maxRecDepth 20000 in
theorem ggX5_purest_X2_purestSlice : GoodIn wsX5_purest wsX2_purestSlice := goodIn_r _ [13, 14, 15, 16, 12, 17, 18, 19, 20, 21, 22, 33] (by decide +kernel) (by decide +kernel)
set_option maxRecDepth 20000 in
theorem gX5_purest_X2_purestSlice : GoodIn wsX5_purest (wsV RX5 206 RX2 yX2_purestSlice wsX2_purestSlice) := goodIn_app (goodIn_of _ (by decide +kernel)) ggX5_purest_X2_purestSlice
theorem dX5_purest_0 : decode cX5_purest 0 = .ok (.iload_n 1, 1) := by decide +kernel
theorem dX5_purest_1 : decode cX5_purest 1 = .ok (.iconst 3, 1) := by decide +kernel
theorem dX5_purest_2 : decode cX5_purest 2 = .ok (.invokestatic 37, 3) := by decide +kernel
theorem dX5_purest_5 : decode cX5_purest 5 = .ok (.iload_n 2, 1) := by decide +kernel
theorem dX5_purest_6 : decode cX5_purest 6 = .ok (.iconst 4, 1) := by decide +kernel
theorem dX5_purest_7 : decode cX5_purest 7 = .ok (.invokestatic 37, 3) := by decide +kernel
theorem dX5_purest_10 : decode cX5_purest 10 = .ok (.aload_n 0, 1) := by decide +kernel
theorem dX5_purest_11 : decode cX5_purest 11 = .ok (.getfield 12, 3) := by decide +kernel
theorem dX5_purest_14 : decode cX5_purest 14 = .ok (.getfield 71, 3) := by decide +kernel
theorem dX5_purest_17 : decode cX5_purest 17 = .ok (.iload_n 1, 1) := by decide +kernel
theorem dX5_purest_18 : decode cX5_purest 18 = .ok (.aaload, 1) := by decide +kernel
theorem dX5_purest_19 : decode cX5_purest 19 = .ok (.iload_n 2, 1) := by decide +kernel
theorem dX5_purest_20 : decode cX5_purest 20 = .ok (.invokevirtual 206, 3) := by decide +kernel
theorem dX5_purest_23 : decode cX5_purest 23 = .ok (.ireturn, 1) := by decide +kernel
set_option maxRecDepth 20000 in
theorem ggX5_meanDepth_X5_needIndex : GoodIn wsX5_meanDepth wsX5_needIndex := goodIn_ca (goodIn_r _ [6, 7, 8] (by decide +kernel) (by decide +kernel)) (goodIn_sub (fun _ h => List.mem_cons_of_mem _ (List.mem_append_right _ h)) (by decide +kernel))
set_option maxRecDepth 20000 in
theorem gX5_meanDepth_X5_needIndex : GoodIn wsX5_meanDepth (va_wsS RX5 37 yX5_needIndex wsX5_needIndex) := goodIn_app (goodIn_of _ (by decide +kernel)) ggX5_meanDepth_X5_needIndex
set_option maxRecDepth 20000 in
theorem ggX5_meanDepth_X2_all : GoodIn wsX5_meanDepth wsX2_all := goodIn_r _ [13, 14, 15, 16, 12, 17, 18, 19, 20, 21, 22, 23, 24, 25, 26, 41] (by decide +kernel) (by decide +kernel)
set_option maxRecDepth 20000 in
theorem gX5_meanDepth_X2_all : GoodIn wsX5_meanDepth (wsV RX5 168 RX2 yX2_all wsX2_all) := goodIn_app (goodIn_of _ (by decide +kernel)) ggX5_meanDepth_X2_all
set_option maxRecDepth 20000 in
theorem ggX5_meanDepth_X2_sumOfDepths : GoodIn wsX5_meanDepth wsX2_sumOfDepths := goodIn_r _ [30, 18, 19, 20, 12, 21, 22, 23, 24, 25, 26, 41] (by decide +kernel) (by decide +kernel)
set_option maxRecDepth 20000 in
theorem gX5_meanDepth_X2_sumOfDepths : GoodIn wsX5_meanDepth (wsV RX5 209 RX2 yX2_sumOfDepths wsX2_sumOfDepths) := goodIn_app (goodIn_of _ (by decide +kernel)) ggX5_meanDepth_X2_sumOfDepths
theorem dX5_meanDepth_0 : decode cX5_meanDepth 0 = .ok (.iload_n 1, 1) := by decide +kernel
theorem dX5_meanDepth_1 : decode cX5_meanDepth 1 = .ok (.iconst 3, 1) := by decide +kernel
theorem dX5_meanDepth_2 : decode cX5_meanDepth 2 = .ok (.invokestatic 37, 3) := by decide +kernel
theorem dX5_meanDepth_5 : decode cX5_meanDepth 5 = .ok (.aload_n 0, 1) := by decide +kernel
theorem dX5_meanDepth_6 : decode cX5_meanDepth 6 = .ok (.getfield 12, 3) := by decide +kernel
theorem dX5_meanDepth_9 : decode cX5_meanDepth 9 = .ok (.getfield 71, 3) := by decide +kernel
theorem dX5_meanDepth_12 : decode cX5_meanDepth 12 = .ok (.iload_n 1, 1) := by decide +kernel
theorem dX5_meanDepth_13 : decode cX5_meanDepth 13 = .ok (.aaload, 1) := by decide +kernel
theorem dX5_meanDepth_14 : decode cX5_meanDepth 14 = .ok (.invokevirtual 168, 3) := by decide +kernel
theorem dX5_meanDepth_17 : decode cX5_meanDepth 17 = .ok (.istore_n 2, 1) := by decide +kernel
theorem dX5_meanDepth_18 : decode cX5_meanDepth 18 = .ok (.iload_n 2, 1) := by decide +kernel
theorem dX5_meanDepth_19 : decode cX5_meanDepth 19 = .ok (.ifCond .ne 7, 3) := by decide +kernel
theorem dX5_meanDepth_22 : decode cX5_meanDepth 22 = .ok (.dconst 0, 1) := by decide +kernel
theorem dX5_meanDepth_23 : decode cX5_meanDepth 23 = .ok (.goto 19, 3) := by decide +kernel
theorem dX5_meanDepth_26 : decode cX5_meanDepth 26 = .ok (.aload_n 0, 1) := by decide +kernel
theorem dX5_meanDepth_27 : decode cX5_meanDepth 27 = .ok (.getfield 12, 3) := by decide +kernel
theorem dX5_meanDepth_30 : decode cX5_meanDepth 30 = .ok (.getfield 71, 3) := by decide +kernel
theorem dX5_meanDepth_33 : decode cX5_meanDepth 33 = .ok (.iload_n 1, 1) := by decide +kernel
theorem dX5_meanDepth_34 : decode cX5_meanDepth 34 = .ok (.aaload, 1) := by decide +kernel
theorem dX5_meanDepth_35 : decode cX5_meanDepth 35 = .ok (.invokevirtual 209, 3) := by decide +kernel
theorem dX5_meanDepth_38 : decode cX5_meanDepth 38 = .ok (.i2d, 1) := by decide +kernel
theorem dX5_meanDepth_39 : decode cX5_meanDepth 39 = .ok (.iload_n 2, 1) := by decide +kernel
theorem dX5_meanDepth_40 : decode cX5_meanDepth 40 = .ok (.i2d, 1) := by decide +kernel
theorem dX5_meanDepth_41 : decode cX5_meanDepth 41 = .ok (.ddiv, 1) := by decide +kernel
theorem dX5_meanDepth_42 : decode cX5_meanDepth 42 = .ok (.dreturn, 1) := by decide +kernel
set_option maxRecDepth 20000 in
theorem ggX5_digest_X5_count : GoodIn wsX5_digest wsX5_count := goodIn_ca (goodIn_r _ [8, 9, 10, 11, 12, 13, 14, 7, 15, 16, 17, 18, 19, 20, 21, 22, 23, 24, 25, 26, 27, 28, 29, 30, 31, 32, 33, 34, 35, 36, 37, 38, 39, 40, 41, 42, 43, 44, 45, 46, 47, 48, 49, 50, 51, 52, 53, 54, 55, 56, 57, 58, 59, 60, 61, 62, 63, 64, 65, 66, 67, 68, 69, 70, 71, 72, 73, 74, 220, 221, 222, 223, 224, 225, 226, 227, 228, 229, 230, 231, 232, 233, 234, 235] (by decide +kernel) (by decide +kernel)) (goodIn_sub (fun _ h => List.mem_cons_of_mem _ (List.mem_append_left _ (List.mem_append_right _ h))) (by decide +kernel))
set_option maxRecDepth 20000 in
theorem gX5_digest_X5_count : GoodIn wsX5_digest (wsV RX5 216 RX5 yX5_count wsX5_count) := goodIn_app (goodIn_of _ (by decide +kernel)) ggX5_digest_X5_count
set_option maxRecDepth 20000 in
theorem ggX5_digest_X5_setting : GoodIn wsX5_digest wsX5_setting := goodIn_ca (goodIn_r _ [78, 9, 79, 80, 81, 82, 7, 83, 84, 85, 220, 221, 222, 223, 224, 225, 226, 227, 228, 229, 231, 232] (by decide +kernel) (by decide +kernel)) (goodIn_sub (fun _ h => List.mem_cons_of_mem _ (List.mem_append_right _ h)) (by decide +kernel))
set_option maxRecDepth 20000 in
theorem gX5_digest_X5_setting : GoodIn wsX5_digest (wsV RX5 219 RX5 yX5_setting wsX5_setting) := goodIn_app (goodIn_of _ (by decide +kernel)) ggX5_digest_X5_setting
set_option maxRecDepth 20000 in
theorem ggX5_digest_X5_grains : GoodIn wsX5_digest wsX5_grains := goodIn_ca (goodIn_ca (goodIn_r _ [89, 9, 90, 91, 79, 92, 81, 82, 7, 83, 84, 85, 13, 14, 15, 16, 17, 93, 94, 95, 21, 96, 23, 97, 98, 99, 27, 100, 37, 38, 39, 40, 41, 220, 221, 222, 223, 224, 225, 226, 227, 228, 229, 231, 232, 230] (by decide +kernel) (by decide +kernel)) (goodIn_sub (fun _ h => List.mem_cons_of_mem _ (List.mem_append_right _ h)) (by decide +kernel))) (goodIn_sub (fun _ h => List.mem_cons_of_mem _ (List.mem_append_left _ (List.mem_append_right _ h))) (by decide +kernel))
set_option maxRecDepth 20000 in
theorem gX5_digest_X5_grains : GoodIn wsX5_digest (wsV RX5 222 RX5 yX5_grains wsX5_grains) := goodIn_app (goodIn_of _ (by decide +kernel)) ggX5_digest_X5_grains
set_option maxRecDepth 20000 in
theorem ggX5_digest_X5_hashWithJar : GoodIn wsX5_digest wsX5_hashWithJar := goodIn_ca (goodIn_ca (goodIn_r _ [104, 9, 105, 2, 79, 106, 107, 108, 27, 109, 110, 25, 26, 28, 29, 30, 31, 32, 33, 34, 35, 36, 37, 38, 39, 40, 41, 111, 112, 113, 114, 51, 52, 53, 54, 55, 56, 115, 116, 117, 118, 65, 66, 67, 68, 119, 120, 121, 122, 123, 124, 125, 126, 127, 128, 129, 130, 131, 132, 133, 134, 135, 136, 137, 138, 139, 140, 141, 142, 143, 144, 145, 146, 147, 148, 149, 150, 151, 152, 153, 154, 155, 156, 157, 98, 99, 100, 158, 159, 160, 161, 162, 163, 164, 165, 166, 167, 168, 7, 169, 170, 81, 82, 83, 84, 85, 13, 14, 15, 16, 17, 171, 172, 173, 174, 175, 176, 177, 178, 179, 180, 181, 182, 183, 184, 185, 186, 187, 188, 189, 190, 191, 192, 193, 194, 195, 196, 197, 198, 199, 200, 201, 202, 203, 204, 205, 206, 207, 208, 209, 210, 211, 220, 221, 222, 223, 224, 225, 226, 227, 228, 229, 230, 231, 232] (by decide +kernel) (by decide +kernel)) (goodIn_sub (fun _ h => List.mem_cons_of_mem _ (List.mem_append_right _ h)) (by decide +kernel))) (goodIn_sub (fun _ h => List.mem_cons_of_mem _ (List.mem_append_left _ (List.mem_append_right _ h))) (by decide +kernel))
set_option maxRecDepth 20000 in
theorem gX5_digest_X5_hashWithJar : GoodIn wsX5_digest (wsV RX5 225 RX5 yX5_hashWithJar wsX5_hashWithJar) := goodIn_app (goodIn_of _ (by decide +kernel)) ggX5_digest_X5_hashWithJar
set_option maxRecDepth 20000 in
theorem ggX5_digest_X0_hashWithCodes : GoodIn wsX5_digest wsX0_hashWithCodes := goodIn_r _ [216, 217, 218, 219, 236, 237] (by decide +kernel) (by decide +kernel)
set_option maxRecDepth 20000 in
theorem gX5_digest_X0_hashWithCodes : GoodIn wsX5_digest (wsV RX5 229 RX0 yX0_hashWithCodes wsX0_hashWithCodes) := goodIn_app (goodIn_of _ (by decide +kernel)) ggX5_digest_X0_hashWithCodes
theorem dX5_digest_0 : decode cX5_digest 0 = .ok (.ldc2_w 212, 3) := by decide +kernel
theorem dX5_digest_3 : decode cX5_digest 3 = .ok (.lstore_n 1, 1) := by decide +kernel
theorem dX5_digest_4 : decode cX5_digest 4 = .ok (.iconst 0, 1) := by decide +kernel
theorem dX5_digest_5 : decode cX5_digest 5 = .ok (.istore_n 3, 1) := by decide +kernel
theorem dX5_digest_6 : decode cX5_digest 6 = .ok (.iload_n 3, 1) := by decide +kernel
theorem dX5_digest_7 : decode cX5_digest 7 = .ok (.bipush 6, 2) := by decide +kernel
theorem dX5_digest_9 : decode cX5_digest 9 = .ok (.if_icmp .ge 22, 3) := by decide +kernel
theorem dX5_digest_12 : decode cX5_digest 12 = .ok (.ldc2_w 214, 3) := by decide +kernel
theorem dX5_digest_15 : decode cX5_digest 15 = .ok (.lload_n 1, 1) := by decide +kernel
theorem dX5_digest_16 : decode cX5_digest 16 = .ok (.lmul, 1) := by decide +kernel
theorem dX5_digest_17 : decode cX5_digest 17 = .ok (.aload_n 0, 1) := by decide +kernel
theorem dX5_digest_18 : decode cX5_digest 18 = .ok (.iload_n 3, 1) := by decide +kernel
theorem dX5_digest_19 : decode cX5_digest 19 = .ok (.invokevirtual 216, 3) := by decide +kernel
theorem dX5_digest_22 : decode cX5_digest 22 = .ok (.i2l, 1) := by decide +kernel
theorem dX5_digest_23 : decode cX5_digest 23 = .ok (.ladd, 1) := by decide +kernel
theorem dX5_digest_24 : decode cX5_digest 24 = .ok (.lstore_n 1, 1) := by decide +kernel
theorem dX5_digest_25 : decode cX5_digest 25 = .ok (.iinc 3 1, 3) := by decide +kernel
theorem dX5_digest_28 : decode cX5_digest 28 = .ok (.goto (-22), 3) := by decide +kernel
theorem dX5_digest_31 : decode cX5_digest 31 = .ok (.iconst 0, 1) := by decide +kernel
theorem dX5_digest_32 : decode cX5_digest 32 = .ok (.istore_n 3, 1) := by decide +kernel
theorem dX5_digest_33 : decode cX5_digest 33 = .ok (.iload_n 3, 1) := by decide +kernel
theorem dX5_digest_34 : decode cX5_digest 34 = .ok (.iconst 4, 1) := by decide +kernel
theorem dX5_digest_35 : decode cX5_digest 35 = .ok (.if_icmp .ge 22, 3) := by decide +kernel
theorem dX5_digest_38 : decode cX5_digest 38 = .ok (.ldc2_w 214, 3) := by decide +kernel
theorem dX5_digest_41 : decode cX5_digest 41 = .ok (.lload_n 1, 1) := by decide +kernel
theorem dX5_digest_42 : decode cX5_digest 42 = .ok (.lmul, 1) := by decide +kernel
theorem dX5_digest_43 : decode cX5_digest 43 = .ok (.aload_n 0, 1) := by decide +kernel
theorem dX5_digest_44 : decode cX5_digest 44 = .ok (.iload_n 3, 1) := by decide +kernel
theorem dX5_digest_45 : decode cX5_digest 45 = .ok (.invokevirtual 219, 3) := by decide +kernel
theorem dX5_digest_48 : decode cX5_digest 48 = .ok (.i2l, 1) := by decide +kernel
theorem dX5_digest_49 : decode cX5_digest 49 = .ok (.ladd, 1) := by decide +kernel
theorem dX5_digest_50 : decode cX5_digest 50 = .ok (.lstore_n 1, 1) := by decide +kernel
theorem dX5_digest_51 : decode cX5_digest 51 = .ok (.iinc 3 1, 3) := by decide +kernel
theorem dX5_digest_54 : decode cX5_digest 54 = .ok (.goto (-21), 3) := by decide +kernel
theorem dX5_digest_57 : decode cX5_digest 57 = .ok (.iconst 0, 1) := by decide +kernel
theorem dX5_digest_58 : decode cX5_digest 58 = .ok (.istore_n 3, 1) := by decide +kernel
theorem dX5_digest_59 : decode cX5_digest 59 = .ok (.iload_n 3, 1) := by decide +kernel
theorem dX5_digest_60 : decode cX5_digest 60 = .ok (.iconst 4, 1) := by decide +kernel
theorem dX5_digest_61 : decode cX5_digest 61 = .ok (.if_icmp .ge 39, 3) := by decide +kernel
theorem dX5_digest_64 : decode cX5_digest 64 = .ok (.iconst 0, 1) := by decide +kernel
theorem dX5_digest_65 : decode cX5_digest 65 = .ok (.istore 4, 2) := by decide +kernel
theorem dX5_digest_67 : decode cX5_digest 67 = .ok (.iload 4, 2) := by decide +kernel
theorem dX5_digest_69 : decode cX5_digest 69 = .ok (.iconst 4, 1) := by decide +kernel
theorem dX5_digest_70 : decode cX5_digest 70 = .ok (.if_icmp .ge 24, 3) := by decide +kernel
theorem dX5_digest_73 : decode cX5_digest 73 = .ok (.ldc2_w 214, 3) := by decide +kernel
theorem dX5_digest_76 : decode cX5_digest 76 = .ok (.lload_n 1, 1) := by decide +kernel
theorem dX5_digest_77 : decode cX5_digest 77 = .ok (.lmul, 1) := by decide +kernel
theorem dX5_digest_78 : decode cX5_digest 78 = .ok (.aload_n 0, 1) := by decide +kernel
theorem dX5_digest_79 : decode cX5_digest 79 = .ok (.iload_n 3, 1) := by decide +kernel
theorem dX5_digest_80 : decode cX5_digest 80 = .ok (.iload 4, 2) := by decide +kernel
theorem dX5_digest_82 : decode cX5_digest 82 = .ok (.invokevirtual 222, 3) := by decide +kernel
theorem dX5_digest_85 : decode cX5_digest 85 = .ok (.i2l, 1) := by decide +kernel
theorem dX5_digest_86 : decode cX5_digest 86 = .ok (.ladd, 1) := by decide +kernel
theorem dX5_digest_87 : decode cX5_digest 87 = .ok (.lstore_n 1, 1) := by decide +kernel
theorem dX5_digest_88 : decode cX5_digest 88 = .ok (.iinc 4 1, 3) := by decide +kernel
theorem dX5_digest_91 : decode cX5_digest 91 = .ok (.goto (-24), 3) := by decide +kernel
theorem dX5_digest_94 : decode cX5_digest 94 = .ok (.iinc 3 1, 3) := by decide +kernel
theorem dX5_digest_97 : decode cX5_digest 97 = .ok (.goto (-38), 3) := by decide +kernel
theorem dX5_digest_100 : decode cX5_digest 100 = .ok (.iconst 0, 1) := by decide +kernel
theorem dX5_digest_101 : decode cX5_digest 101 = .ok (.istore_n 3, 1) := by decide +kernel
theorem dX5_digest_102 : decode cX5_digest 102 = .ok (.iload_n 3, 1) := by decide +kernel
theorem dX5_digest_103 : decode cX5_digest 103 = .ok (.iconst 3, 1) := by decide +kernel
theorem dX5_digest_104 : decode cX5_digest 104 = .ok (.if_icmp .ge 16, 3) := by decide +kernel
theorem dX5_digest_107 : decode cX5_digest 107 = .ok (.aload_n 0, 1) := by decide +kernel
theorem dX5_digest_108 : decode cX5_digest 108 = .ok (.lload_n 1, 1) := by decide +kernel
theorem dX5_digest_109 : decode cX5_digest 109 = .ok (.iload_n 3, 1) := by decide +kernel
theorem dX5_digest_110 : decode cX5_digest 110 = .ok (.invokevirtual 225, 3) := by decide +kernel
theorem dX5_digest_113 : decode cX5_digest 113 = .ok (.lstore_n 1, 1) := by decide +kernel
theorem dX5_digest_114 : decode cX5_digest 114 = .ok (.iinc 3 1, 3) := by decide +kernel
theorem dX5_digest_117 : decode cX5_digest 117 = .ok (.goto (-15), 3) := by decide +kernel
theorem dX5_digest_120 : decode cX5_digest 120 = .ok (.aload_n 0, 1) := by decide +kernel
theorem dX5_digest_121 : decode cX5_digest 121 = .ok (.getfield 26, 3) := by decide +kernel
theorem dX5_digest_124 : decode cX5_digest 124 = .ok (.lload_n 1, 1) := by decide +kernel
theorem dX5_digest_125 : decode cX5_digest 125 = .ok (.invokevirtual 229, 3) := by decide +kernel
theorem dX5_digest_128 : decode cX5_digest 128 = .ok (.lreturn, 1) := by decide +kernel
set_option maxRecDepth 20000 in
theorem ggX5_hashWithJar_X2_property : GoodIn wsX5_hashWithJar wsX2_property := goodIn_r _ [9, 10, 11, 12, 8, 13, 14, 15, 16, 17, 18, 19, 20, 21, 22, 23, 24, 25, 26, 27, 28, 29, 30, 31, 32, 33, 34, 35, 36, 37, 38, 39, 40, 41, 42, 43, 44, 45, 46, 47, 48, 49, 50, 51, 52, 53, 54, 55, 56, 57, 58, 59, 60, 61, 62, 63, 64, 65, 66, 67, 68, 69, 70, 71, 72, 73, 74, 75, 76, 77, 78, 79, 80, 81, 82, 83, 84, 85, 86, 162, 163, 164] (by decide +kernel) (by decide +kernel)
set_option maxRecDepth 20000 in
theorem gX5_hashWithJar_X2_property : GoodIn wsX5_hashWithJar (wsV RX5 184 RX2 yX2_property wsX2_property) := goodIn_app (goodIn_of _ (by decide +kernel)) ggX5_hashWithJar_X2_property
set_option maxRecDepth 20000 in
theorem ggX5_hashWithJar_X2_sliceProperty : GoodIn wsX5_hashWithJar wsX2_sliceProperty := goodIn_r _ [90, 18, 19, 20, 8, 21, 22, 23, 24, 25, 26, 31, 32, 33, 34, 35, 36, 41, 42, 43, 44, 49, 50, 51, 52, 69, 70, 71, 72, 73, 65, 66, 67, 68, 61, 62, 63, 64, 162, 163, 164] (by decide +kernel) (by decide +kernel)
set_option maxRecDepth 20000 in
theorem gX5_hashWithJar_X2_sliceProperty : GoodIn wsX5_hashWithJar (wsV RX5 180 RX2 yX2_sliceProperty wsX2_sliceProperty) := goodIn_app (goodIn_of _ (by decide +kernel)) ggX5_hashWithJar_X2_sliceProperty
set_option maxRecDepth 20000 in
theorem ggX5_hashWithJar_X2_purestSlice : GoodIn wsX5_hashWithJar wsX2_purestSlice := goodIn_r _ [94, 22, 23, 24, 8, 25, 26, 18, 19, 20, 21, 162] (by decide +kernel) (by decide +kernel)
set_option maxRecDepth 20000 in
theorem gX5_hashWithJar_X2_purestSlice : GoodIn wsX5_hashWithJar (wsV RX5 206 RX2 yX2_purestSlice wsX2_purestSlice) := goodIn_app (goodIn_of _ (by decide +kernel)) ggX5_hashWithJar_X2_purestSlice
set_option maxRecDepth 20000 in
theorem ggX5_hashWithJar_X5_clearIn : GoodIn wsX5_hashWithJar wsX5_clearIn := goodIn_ca (goodIn_ca (goodIn_r _ [99, 100, 1, 2, 4, 101, 102, 98, 103, 104, 105, 106, 107, 108, 109, 110, 111, 112, 113, 8, 114, 26, 115, 116, 117, 118, 119, 38, 39, 40, 18, 19, 20, 21, 22, 23, 24, 25, 41, 42, 43, 34, 44, 36, 120, 121, 122, 123, 124, 125, 126, 127, 128, 81, 67, 82, 69, 70, 71, 72, 73, 65, 66, 68, 61, 62, 63, 64, 74, 75, 76, 77, 78, 79, 80, 129, 130, 131, 132, 152, 153, 154, 155, 156, 157, 158, 159, 160, 161, 162, 163, 164] (by decide +kernel) (by decide +kernel)) (goodIn_sub (fun _ h => List.mem_cons_of_mem _ (List.mem_append_left _ (List.mem_append_right _ h))) (by decide +kernel))) (goodIn_sub (fun _ h => List.mem_cons_of_mem _ (List.mem_append_right _ h)) (by decide +kernel))
set_option maxRecDepth 20000 in
theorem gX5_hashWithJar_X5_clearIn : GoodIn wsX5_hashWithJar (wsV RX5 233 RX5 yX5_clearIn wsX5_clearIn) := goodIn_app (goodIn_of _ (by decide +kernel)) ggX5_hashWithJar_X5_clearIn
set_option maxRecDepth 20000 in
theorem ggX5_hashWithJar_X5_restIn : GoodIn wsX5_hashWithJar wsX5_restIn := goodIn_ca (goodIn_r _ [136, 100, 1, 2, 4, 101, 102, 98, 103, 104, 105, 111, 112, 113, 8, 114, 26, 115, 116, 117, 118, 120, 121, 122, 123, 124, 125, 126, 127, 128, 81, 67, 82, 18, 19, 20, 21, 22, 23, 24, 25, 69, 70, 71, 34, 72, 73, 36, 65, 66, 68, 61, 62, 63, 64, 74, 75, 76, 77, 78, 79, 80, 129, 130, 131, 132, 152, 153, 154, 155, 156, 157, 158, 159, 160, 161, 162, 163, 164] (by decide +kernel) (by decide +kernel)) (goodIn_sub (fun _ h => List.mem_cons_of_mem _ (List.mem_append_left _ (List.mem_append_right _ h))) (by decide +kernel))
set_option maxRecDepth 20000 in
theorem gX5_hashWithJar_X5_restIn : GoodIn wsX5_hashWithJar (wsV RX5 236 RX5 yX5_restIn wsX5_restIn) := goodIn_app (goodIn_of _ (by decide +kernel)) ggX5_hashWithJar_X5_restIn
set_option maxRecDepth 20000 in
theorem ggX5_hashWithJar_X5_meanDepth : GoodIn wsX5_hashWithJar wsX5_meanDepth := goodIn_ca (goodIn_r _ [140, 1, 2, 101, 102, 98, 103, 104, 105, 141, 11, 12, 8, 13, 14, 15, 16, 17, 18, 19, 20, 21, 22, 23, 24, 25, 26, 142, 143, 144, 145, 152, 153, 154, 155, 156, 157, 158, 159, 160, 161, 162] (by decide +kernel) (by decide +kernel)) (goodIn_sub (fun _ h => List.mem_cons_of_mem _ (List.mem_append_left _ (List.mem_append_right _ h))) (by decide +kernel))
set_option maxRecDepth 20000 in
theorem gX5_hashWithJar_X5_meanDepth : GoodIn wsX5_hashWithJar (wsV RX5 239 RX5 yX5_meanDepth wsX5_meanDepth) := goodIn_app (goodIn_of _ (by decide +kernel)) ggX5_hashWithJar_X5_meanDepth
set_option maxRecDepth 20000 in
theorem ggX5_hashWithJar_X5_bitsOf : GoodIn wsX5_hashWithJar wsX5_bitsOf := goodIn_r _ [148, 149, 150, 151] (by decide +kernel) (by decide +kernel)
set_option maxRecDepth 20000 in
theorem gX5_hashWithJar_X5_bitsOf : GoodIn wsX5_hashWithJar (va_wsS RX5 243 yX5_bitsOf wsX5_bitsOf) := goodIn_app (goodIn_of _ (by decide +kernel)) ggX5_hashWithJar_X5_bitsOf
theorem dX5_hashWithJar_0 : decode cX5_hashWithJar 0 = .ok (.lload_n 1, 1) := by decide +kernel
theorem dX5_hashWithJar_1 : decode cX5_hashWithJar 1 = .ok (.lstore 4, 2) := by decide +kernel
theorem dX5_hashWithJar_3 : decode cX5_hashWithJar 3 = .ok (.aload_n 0, 1) := by decide +kernel
theorem dX5_hashWithJar_4 : decode cX5_hashWithJar 4 = .ok (.getfield 12, 3) := by decide +kernel
theorem dX5_hashWithJar_7 : decode cX5_hashWithJar 7 = .ok (.getfield 71, 3) := by decide +kernel
theorem dX5_hashWithJar_10 : decode cX5_hashWithJar 10 = .ok (.iload_n 3, 1) := by decide +kernel
theorem dX5_hashWithJar_11 : decode cX5_hashWithJar 11 = .ok (.aaload, 1) := by decide +kernel
theorem dX5_hashWithJar_12 : decode cX5_hashWithJar 12 = .ok (.astore 6, 2) := by decide +kernel
theorem dX5_hashWithJar_14 : decode cX5_hashWithJar 14 = .ok (.iconst 0, 1) := by decide +kernel
theorem dX5_hashWithJar_15 : decode cX5_hashWithJar 15 = .ok (.istore 7, 2) := by decide +kernel
theorem dX5_hashWithJar_17 : decode cX5_hashWithJar 17 = .ok (.iload 7, 2) := by decide +kernel
theorem dX5_hashWithJar_19 : decode cX5_hashWithJar 19 = .ok (.bipush 10, 2) := by decide +kernel
theorem dX5_hashWithJar_21 : decode cX5_hashWithJar 21 = .ok (.if_icmp .ge 33, 3) := by decide +kernel
theorem dX5_hashWithJar_24 : decode cX5_hashWithJar 24 = .ok (.ldc2_w 214, 3) := by decide +kernel
theorem dX5_hashWithJar_27 : decode cX5_hashWithJar 27 = .ok (.lload 4, 2) := by decide +kernel
theorem dX5_hashWithJar_29 : decode cX5_hashWithJar 29 = .ok (.lmul, 1) := by decide +kernel
theorem dX5_hashWithJar_30 : decode cX5_hashWithJar 30 = .ok (.aload 6, 2) := by decide +kernel
theorem dX5_hashWithJar_32 : decode cX5_hashWithJar 32 = .ok (.iload 7, 2) := by decide +kernel
theorem dX5_hashWithJar_34 : decode cX5_hashWithJar 34 = .ok (.aload_n 0, 1) := by decide +kernel
theorem dX5_hashWithJar_35 : decode cX5_hashWithJar 35 = .ok (.getfield 12, 3) := by decide +kernel
theorem dX5_hashWithJar_38 : decode cX5_hashWithJar 38 = .ok (.getfield 58, 3) := by decide +kernel
theorem dX5_hashWithJar_41 : decode cX5_hashWithJar 41 = .ok (.invokevirtual 184, 3) := by decide +kernel
theorem dX5_hashWithJar_44 : decode cX5_hashWithJar 44 = .ok (.i2l, 1) := by decide +kernel
theorem dX5_hashWithJar_45 : decode cX5_hashWithJar 45 = .ok (.ladd, 1) := by decide +kernel
theorem dX5_hashWithJar_46 : decode cX5_hashWithJar 46 = .ok (.lstore 4, 2) := by decide +kernel
theorem dX5_hashWithJar_48 : decode cX5_hashWithJar 48 = .ok (.iinc 7 1, 3) := by decide +kernel
theorem dX5_hashWithJar_51 : decode cX5_hashWithJar 51 = .ok (.goto (-34), 3) := by decide +kernel
theorem dX5_hashWithJar_54 : decode cX5_hashWithJar 54 = .ok (.iconst 0, 1) := by decide +kernel
theorem dX5_hashWithJar_55 : decode cX5_hashWithJar 55 = .ok (.istore 7, 2) := by decide +kernel
theorem dX5_hashWithJar_57 : decode cX5_hashWithJar 57 = .ok (.iload 7, 2) := by decide +kernel
theorem dX5_hashWithJar_59 : decode cX5_hashWithJar 59 = .ok (.bipush 12, 2) := by decide +kernel
theorem dX5_hashWithJar_61 : decode cX5_hashWithJar 61 = .ok (.if_icmp .ge 51, 3) := by decide +kernel
theorem dX5_hashWithJar_64 : decode cX5_hashWithJar 64 = .ok (.iconst 0, 1) := by decide +kernel
theorem dX5_hashWithJar_65 : decode cX5_hashWithJar 65 = .ok (.istore 8, 2) := by decide +kernel
theorem dX5_hashWithJar_67 : decode cX5_hashWithJar 67 = .ok (.iload 8, 2) := by decide +kernel
theorem dX5_hashWithJar_69 : decode cX5_hashWithJar 69 = .ok (.bipush 10, 2) := by decide +kernel
theorem dX5_hashWithJar_71 : decode cX5_hashWithJar 71 = .ok (.if_icmp .ge 35, 3) := by decide +kernel
theorem dX5_hashWithJar_74 : decode cX5_hashWithJar 74 = .ok (.ldc2_w 214, 3) := by decide +kernel
theorem dX5_hashWithJar_77 : decode cX5_hashWithJar 77 = .ok (.lload 4, 2) := by decide +kernel
theorem dX5_hashWithJar_79 : decode cX5_hashWithJar 79 = .ok (.lmul, 1) := by decide +kernel
theorem dX5_hashWithJar_80 : decode cX5_hashWithJar 80 = .ok (.aload 6, 2) := by decide +kernel
theorem dX5_hashWithJar_82 : decode cX5_hashWithJar 82 = .ok (.iload 7, 2) := by decide +kernel
theorem dX5_hashWithJar_84 : decode cX5_hashWithJar 84 = .ok (.iload 8, 2) := by decide +kernel
theorem dX5_hashWithJar_86 : decode cX5_hashWithJar 86 = .ok (.aload_n 0, 1) := by decide +kernel
theorem dX5_hashWithJar_87 : decode cX5_hashWithJar 87 = .ok (.getfield 12, 3) := by decide +kernel
theorem dX5_hashWithJar_90 : decode cX5_hashWithJar 90 = .ok (.getfield 58, 3) := by decide +kernel
theorem dX5_hashWithJar_93 : decode cX5_hashWithJar 93 = .ok (.invokevirtual 180, 3) := by decide +kernel
theorem dX5_hashWithJar_96 : decode cX5_hashWithJar 96 = .ok (.i2l, 1) := by decide +kernel
theorem dX5_hashWithJar_97 : decode cX5_hashWithJar 97 = .ok (.ladd, 1) := by decide +kernel
theorem dX5_hashWithJar_98 : decode cX5_hashWithJar 98 = .ok (.lstore 4, 2) := by decide +kernel
theorem dX5_hashWithJar_100 : decode cX5_hashWithJar 100 = .ok (.iinc 8 1, 3) := by decide +kernel
theorem dX5_hashWithJar_103 : decode cX5_hashWithJar 103 = .ok (.goto (-36), 3) := by decide +kernel
theorem dX5_hashWithJar_106 : decode cX5_hashWithJar 106 = .ok (.iinc 7 1, 3) := by decide +kernel
theorem dX5_hashWithJar_109 : decode cX5_hashWithJar 109 = .ok (.goto (-52), 3) := by decide +kernel
theorem dX5_hashWithJar_112 : decode cX5_hashWithJar 112 = .ok (.iconst 0, 1) := by decide +kernel
theorem dX5_hashWithJar_113 : decode cX5_hashWithJar 113 = .ok (.istore 7, 2) := by decide +kernel
theorem dX5_hashWithJar_115 : decode cX5_hashWithJar 115 = .ok (.iload 7, 2) := by decide +kernel
theorem dX5_hashWithJar_117 : decode cX5_hashWithJar 117 = .ok (.iconst 4, 1) := by decide +kernel
theorem dX5_hashWithJar_118 : decode cX5_hashWithJar 118 = .ok (.if_icmp .ge 26, 3) := by decide +kernel
theorem dX5_hashWithJar_121 : decode cX5_hashWithJar 121 = .ok (.ldc2_w 214, 3) := by decide +kernel
theorem dX5_hashWithJar_124 : decode cX5_hashWithJar 124 = .ok (.lload 4, 2) := by decide +kernel
theorem dX5_hashWithJar_126 : decode cX5_hashWithJar 126 = .ok (.lmul, 1) := by decide +kernel
theorem dX5_hashWithJar_127 : decode cX5_hashWithJar 127 = .ok (.aload 6, 2) := by decide +kernel
theorem dX5_hashWithJar_129 : decode cX5_hashWithJar 129 = .ok (.iload 7, 2) := by decide +kernel
theorem dX5_hashWithJar_131 : decode cX5_hashWithJar 131 = .ok (.invokevirtual 206, 3) := by decide +kernel
theorem dX5_hashWithJar_134 : decode cX5_hashWithJar 134 = .ok (.i2l, 1) := by decide +kernel
theorem dX5_hashWithJar_135 : decode cX5_hashWithJar 135 = .ok (.ladd, 1) := by decide +kernel
theorem dX5_hashWithJar_136 : decode cX5_hashWithJar 136 = .ok (.lstore 4, 2) := by decide +kernel
theorem dX5_hashWithJar_138 : decode cX5_hashWithJar 138 = .ok (.iinc 7 1, 3) := by decide +kernel
theorem dX5_hashWithJar_141 : decode cX5_hashWithJar 141 = .ok (.goto (-26), 3) := by decide +kernel
theorem dX5_hashWithJar_144 : decode cX5_hashWithJar 144 = .ok (.ldc2_w 214, 3) := by decide +kernel
theorem dX5_hashWithJar_147 : decode cX5_hashWithJar 147 = .ok (.lload 4, 2) := by decide +kernel
theorem dX5_hashWithJar_149 : decode cX5_hashWithJar 149 = .ok (.lmul, 1) := by decide +kernel
theorem dX5_hashWithJar_150 : decode cX5_hashWithJar 150 = .ok (.aload_n 0, 1) := by decide +kernel
theorem dX5_hashWithJar_151 : decode cX5_hashWithJar 151 = .ok (.iload_n 3, 1) := by decide +kernel
theorem dX5_hashWithJar_152 : decode cX5_hashWithJar 152 = .ok (.iconst 3, 1) := by decide +kernel
theorem dX5_hashWithJar_153 : decode cX5_hashWithJar 153 = .ok (.invokevirtual 233, 3) := by decide +kernel
theorem dX5_hashWithJar_156 : decode cX5_hashWithJar 156 = .ok (.i2l, 1) := by decide +kernel
theorem dX5_hashWithJar_157 : decode cX5_hashWithJar 157 = .ok (.ladd, 1) := by decide +kernel
theorem dX5_hashWithJar_158 : decode cX5_hashWithJar 158 = .ok (.lstore 4, 2) := by decide +kernel
theorem dX5_hashWithJar_160 : decode cX5_hashWithJar 160 = .ok (.ldc2_w 214, 3) := by decide +kernel
theorem dX5_hashWithJar_163 : decode cX5_hashWithJar 163 = .ok (.lload 4, 2) := by decide +kernel
theorem dX5_hashWithJar_165 : decode cX5_hashWithJar 165 = .ok (.lmul, 1) := by decide +kernel
theorem dX5_hashWithJar_166 : decode cX5_hashWithJar 166 = .ok (.aload_n 0, 1) := by decide +kernel
theorem dX5_hashWithJar_167 : decode cX5_hashWithJar 167 = .ok (.iload_n 3, 1) := by decide +kernel
theorem dX5_hashWithJar_168 : decode cX5_hashWithJar 168 = .ok (.invokevirtual 236, 3) := by decide +kernel
theorem dX5_hashWithJar_171 : decode cX5_hashWithJar 171 = .ok (.i2l, 1) := by decide +kernel
theorem dX5_hashWithJar_172 : decode cX5_hashWithJar 172 = .ok (.ladd, 1) := by decide +kernel
theorem dX5_hashWithJar_173 : decode cX5_hashWithJar 173 = .ok (.lstore 4, 2) := by decide +kernel
theorem dX5_hashWithJar_175 : decode cX5_hashWithJar 175 = .ok (.ldc2_w 214, 3) := by decide +kernel
theorem dX5_hashWithJar_178 : decode cX5_hashWithJar 178 = .ok (.lload 4, 2) := by decide +kernel
theorem dX5_hashWithJar_180 : decode cX5_hashWithJar 180 = .ok (.lmul, 1) := by decide +kernel
theorem dX5_hashWithJar_181 : decode cX5_hashWithJar 181 = .ok (.aload_n 0, 1) := by decide +kernel
theorem dX5_hashWithJar_182 : decode cX5_hashWithJar 182 = .ok (.iload_n 3, 1) := by decide +kernel
theorem dX5_hashWithJar_183 : decode cX5_hashWithJar 183 = .ok (.invokevirtual 239, 3) := by decide +kernel
theorem dX5_hashWithJar_186 : decode cX5_hashWithJar 186 = .ok (.invokestatic 243, 3) := by decide +kernel
theorem dX5_hashWithJar_189 : decode cX5_hashWithJar 189 = .ok (.ladd, 1) := by decide +kernel
theorem dX5_hashWithJar_190 : decode cX5_hashWithJar 190 = .ok (.lreturn, 1) := by decide +kernel
theorem dX5_bitsOf_0 : decode cX5_bitsOf 0 = .ok (.dload_n 0, 1) := by decide +kernel
theorem dX5_bitsOf_1 : decode cX5_bitsOf 1 = .ok (.dconst 0, 1) := by decide +kernel
theorem dX5_bitsOf_2 : decode cX5_bitsOf 2 = .ok (.dcmp .l, 1) := by decide +kernel
theorem dX5_bitsOf_3 : decode cX5_bitsOf 3 = .ok (.ifCond .gt 5, 3) := by decide +kernel
theorem dX5_bitsOf_6 : decode cX5_bitsOf 6 = .ok (.lconst 0, 1) := by decide +kernel
theorem dX5_bitsOf_7 : decode cX5_bitsOf 7 = .ok (.lreturn, 1) := by decide +kernel
theorem dX5_bitsOf_8 : decode cX5_bitsOf 8 = .ok (.dload_n 0, 1) := by decide +kernel
theorem dX5_bitsOf_9 : decode cX5_bitsOf 9 = .ok (.dstore_n 2, 1) := by decide +kernel
theorem dX5_bitsOf_10 : decode cX5_bitsOf 10 = .ok (.ldc2_w 247, 3) := by decide +kernel
theorem dX5_bitsOf_13 : decode cX5_bitsOf 13 = .ok (.lstore 4, 2) := by decide +kernel
theorem dX5_bitsOf_15 : decode cX5_bitsOf 15 = .ok (.iconst 0, 1) := by decide +kernel
theorem dX5_bitsOf_16 : decode cX5_bitsOf 16 = .ok (.istore 6, 2) := by decide +kernel
theorem dX5_bitsOf_18 : decode cX5_bitsOf 18 = .ok (.iload 6, 2) := by decide +kernel
theorem dX5_bitsOf_20 : decode cX5_bitsOf 20 = .ok (.bipush 64, 2) := by decide +kernel
theorem dX5_bitsOf_22 : decode cX5_bitsOf 22 = .ok (.if_icmp .ge 29, 3) := by decide +kernel
theorem dX5_bitsOf_25 : decode cX5_bitsOf 25 = .ok (.dload_n 2, 1) := by decide +kernel
theorem dX5_bitsOf_26 : decode cX5_bitsOf 26 = .ok (.ldc2_w 249, 3) := by decide +kernel
theorem dX5_bitsOf_29 : decode cX5_bitsOf 29 = .ok (.dcmp .l, 1) := by decide +kernel
theorem dX5_bitsOf_30 : decode cX5_bitsOf 30 = .ok (.ifCond .lt 21, 3) := by decide +kernel
theorem dX5_bitsOf_33 : decode cX5_bitsOf 33 = .ok (.dload_n 2, 1) := by decide +kernel
theorem dX5_bitsOf_34 : decode cX5_bitsOf 34 = .ok (.ldc2_w 249, 3) := by decide +kernel
theorem dX5_bitsOf_37 : decode cX5_bitsOf 37 = .ok (.ddiv, 1) := by decide +kernel
theorem dX5_bitsOf_38 : decode cX5_bitsOf 38 = .ok (.dstore_n 2, 1) := by decide +kernel
theorem dX5_bitsOf_39 : decode cX5_bitsOf 39 = .ok (.lload 4, 2) := by decide +kernel
theorem dX5_bitsOf_41 : decode cX5_bitsOf 41 = .ok (.lconst 1, 1) := by decide +kernel
theorem dX5_bitsOf_42 : decode cX5_bitsOf 42 = .ok (.ladd, 1) := by decide +kernel
theorem dX5_bitsOf_43 : decode cX5_bitsOf 43 = .ok (.lstore 4, 2) := by decide +kernel
theorem dX5_bitsOf_45 : decode cX5_bitsOf 45 = .ok (.iinc 6 1, 3) := by decide +kernel
theorem dX5_bitsOf_48 : decode cX5_bitsOf 48 = .ok (.goto (-30), 3) := by decide +kernel
theorem dX5_bitsOf_51 : decode cX5_bitsOf 51 = .ok (.iconst 0, 1) := by decide +kernel
theorem dX5_bitsOf_52 : decode cX5_bitsOf 52 = .ok (.istore 6, 2) := by decide +kernel
theorem dX5_bitsOf_54 : decode cX5_bitsOf 54 = .ok (.iload 6, 2) := by decide +kernel
theorem dX5_bitsOf_56 : decode cX5_bitsOf 56 = .ok (.bipush 64, 2) := by decide +kernel
theorem dX5_bitsOf_58 : decode cX5_bitsOf 58 = .ok (.if_icmp .ge 27, 3) := by decide +kernel
theorem dX5_bitsOf_61 : decode cX5_bitsOf 61 = .ok (.dload_n 2, 1) := by decide +kernel
theorem dX5_bitsOf_62 : decode cX5_bitsOf 62 = .ok (.dconst 1, 1) := by decide +kernel
theorem dX5_bitsOf_63 : decode cX5_bitsOf 63 = .ok (.dcmp .g, 1) := by decide +kernel
theorem dX5_bitsOf_64 : decode cX5_bitsOf 64 = .ok (.ifCond .ge 21, 3) := by decide +kernel
theorem dX5_bitsOf_67 : decode cX5_bitsOf 67 = .ok (.dload_n 2, 1) := by decide +kernel
theorem dX5_bitsOf_68 : decode cX5_bitsOf 68 = .ok (.ldc2_w 249, 3) := by decide +kernel
theorem dX5_bitsOf_71 : decode cX5_bitsOf 71 = .ok (.dmul, 1) := by decide +kernel
theorem dX5_bitsOf_72 : decode cX5_bitsOf 72 = .ok (.dstore_n 2, 1) := by decide +kernel
theorem dX5_bitsOf_73 : decode cX5_bitsOf 73 = .ok (.lload 4, 2) := by decide +kernel
theorem dX5_bitsOf_75 : decode cX5_bitsOf 75 = .ok (.lconst 1, 1) := by decide +kernel
theorem dX5_bitsOf_76 : decode cX5_bitsOf 76 = .ok (.lsub, 1) := by decide +kernel
theorem dX5_bitsOf_77 : decode cX5_bitsOf 77 = .ok (.lstore 4, 2) := by decide +kernel
theorem dX5_bitsOf_79 : decode cX5_bitsOf 79 = .ok (.iinc 6 1, 3) := by decide +kernel
theorem dX5_bitsOf_82 : decode cX5_bitsOf 82 = .ok (.goto (-28), 3) := by decide +kernel
theorem dX5_bitsOf_85 : decode cX5_bitsOf 85 = .ok (.lload 4, 2) := by decide +kernel
theorem dX5_bitsOf_87 : decode cX5_bitsOf 87 = .ok (.bipush 52, 2) := by decide +kernel
theorem dX5_bitsOf_89 : decode cX5_bitsOf 89 = .ok (.lshl, 1) := by decide +kernel
theorem dX5_bitsOf_90 : decode cX5_bitsOf 90 = .ok (.dload_n 2, 1) := by decide +kernel
theorem dX5_bitsOf_91 : decode cX5_bitsOf 91 = .ok (.dconst 1, 1) := by decide +kernel
theorem dX5_bitsOf_92 : decode cX5_bitsOf 92 = .ok (.dsub, 1) := by decide +kernel
theorem dX5_bitsOf_93 : decode cX5_bitsOf 93 = .ok (.ldc2_w 251, 3) := by decide +kernel
theorem dX5_bitsOf_96 : decode cX5_bitsOf 96 = .ok (.dmul, 1) := by decide +kernel
theorem dX5_bitsOf_97 : decode cX5_bitsOf 97 = .ok (.d2l, 1) := by decide +kernel
theorem dX5_bitsOf_98 : decode cX5_bitsOf 98 = .ok (.ladd, 1) := by decide +kernel
theorem dX5_bitsOf_99 : decode cX5_bitsOf 99 = .ok (.lreturn, 1) := by decide +kernel
theorem dX5_needIndex_0 : decode cX5_needIndex 0 = .ok (.iload_n 0, 1) := by decide +kernel
theorem dX5_needIndex_1 : decode cX5_needIndex 1 = .ok (.ifCond .lt 8, 3) := by decide +kernel
theorem dX5_needIndex_4 : decode cX5_needIndex 4 = .ok (.iload_n 0, 1) := by decide +kernel
theorem dX5_needIndex_5 : decode cX5_needIndex 5 = .ok (.iload_n 1, 1) := by decide +kernel
theorem dX5_needIndex_6 : decode cX5_needIndex 6 = .ok (.if_icmp .lt 13, 3) := by decide +kernel
theorem dX5_needIndex_9 : decode cX5_needIndex 9 = .ok (.new 253, 3) := by decide +kernel
theorem dX5_needIndex_12 : decode cX5_needIndex 12 = .ok (.dup, 1) := by decide +kernel
theorem dX5_needIndex_13 : decode cX5_needIndex 13 = .ok (.ldc 255, 2) := by decide +kernel
theorem dX5_needIndex_15 : decode cX5_needIndex 15 = .ok (.invokespecial 257, 3) := by decide +kernel
theorem dX5_needIndex_18 : decode cX5_needIndex 18 = .ok (.athrow, 1) := by decide +kernel
theorem dX5_needIndex_19 : decode cX5_needIndex 19 = .ok (.return_, 1) := by decide +kernel
set_option maxRecDepth 20000 in
theorem ggX5_needSlice_X5_needIndex : GoodIn wsX5_needSlice wsX5_needIndex := goodIn_ca (goodIn_r _ [4, 5, 6] (by decide +kernel) (by decide +kernel)) (goodIn_sub (fun _ h => List.mem_cons_of_mem _ (List.mem_append_right _ h)) (by decide +kernel))
set_option maxRecDepth 20000 in
theorem gX5_needSlice_X5_needIndex : GoodIn wsX5_needSlice (va_wsS RX5 37 yX5_needIndex wsX5_needIndex) := goodIn_app (goodIn_of _ (by decide +kernel)) ggX5_needSlice_X5_needIndex
theorem dX5_needSlice_0 : decode cX5_needSlice 0 = .ok (.iload_n 0, 1) := by decide +kernel
theorem dX5_needSlice_1 : decode cX5_needSlice 1 = .ok (.iconst 3, 1) := by decide +kernel
theorem dX5_needSlice_2 : decode cX5_needSlice 2 = .ok (.invokestatic 37, 3) := by decide +kernel
theorem dX5_needSlice_5 : decode cX5_needSlice 5 = .ok (.iload_n 1, 1) := by decide +kernel
theorem dX5_needSlice_6 : decode cX5_needSlice 6 = .ok (.bipush 12, 2) := by decide +kernel
theorem dX5_needSlice_8 : decode cX5_needSlice 8 = .ok (.invokestatic 37, 3) := by decide +kernel
theorem dX5_needSlice_11 : decode cX5_needSlice 11 = .ok (.return_, 1) := by decide +kernel
theorem dX5_needRange_0 : decode cX5_needRange 0 = .ok (.iload_n 0, 1) := by decide +kernel
theorem dX5_needRange_1 : decode cX5_needRange 1 = .ok (.iload_n 1, 1) := by decide +kernel
theorem dX5_needRange_2 : decode cX5_needRange 2 = .ok (.if_icmp .lt 8, 3) := by decide +kernel
theorem dX5_needRange_5 : decode cX5_needRange 5 = .ok (.iload_n 0, 1) := by decide +kernel
theorem dX5_needRange_6 : decode cX5_needRange 6 = .ok (.iload_n 2, 1) := by decide +kernel
theorem dX5_needRange_7 : decode cX5_needRange 7 = .ok (.if_icmp .le 14, 3) := by decide +kernel
theorem dX5_needRange_10 : decode cX5_needRange 10 = .ok (.new 100, 3) := by decide +kernel
theorem dX5_needRange_13 : decode cX5_needRange 13 = .ok (.dup, 1) := by decide +kernel
theorem dX5_needRange_14 : decode cX5_needRange 14 = .ok (.ldc_w 258, 3) := by decide +kernel
theorem dX5_needRange_17 : decode cX5_needRange 17 = .ok (.invokespecial 104, 3) := by decide +kernel
theorem dX5_needRange_20 : decode cX5_needRange 20 = .ok (.athrow, 1) := by decide +kernel
theorem dX5_needRange_21 : decode cX5_needRange 21 = .ok (.return_, 1) := by decide +kernel
set_option maxRecDepth 20000 in
theorem ggX5_needRoom_X2_all : GoodIn wsX5_needRoom wsX2_all := goodIn_r _ [7, 8, 9, 10, 6, 11, 12, 13, 14, 15, 16, 17, 18, 19, 20, 21] (by decide +kernel) (by decide +kernel)
set_option maxRecDepth 20000 in
theorem gX5_needRoom_X2_all : GoodIn wsX5_needRoom (wsV RX5 168 RX2 yX2_all wsX2_all) := goodIn_app (goodIn_of _ (by decide +kernel)) ggX5_needRoom_X2_all
theorem dX5_needRoom_0 : decode cX5_needRoom 0 = .ok (.aload_n 0, 1) := by decide +kernel
theorem dX5_needRoom_1 : decode cX5_needRoom 1 = .ok (.invokevirtual 168, 3) := by decide +kernel
theorem dX5_needRoom_4 : decode cX5_needRoom 4 = .ok (.iload_n 1, 1) := by decide +kernel
theorem dX5_needRoom_5 : decode cX5_needRoom 5 = .ok (.iadd, 1) := by decide +kernel
theorem dX5_needRoom_6 : decode cX5_needRoom 6 = .ok (.sipush 5000, 3) := by decide +kernel
theorem dX5_needRoom_9 : decode cX5_needRoom 9 = .ok (.if_icmp .le 14, 3) := by decide +kernel
theorem dX5_needRoom_12 : decode cX5_needRoom 12 = .ok (.new 124, 3) := by decide +kernel
theorem dX5_needRoom_15 : decode cX5_needRoom 15 = .ok (.dup, 1) := by decide +kernel
theorem dX5_needRoom_16 : decode cX5_needRoom 16 = .ok (.ldc_w 260, 3) := by decide +kernel
theorem dX5_needRoom_19 : decode cX5_needRoom 19 = .ok (.invokespecial 128, 3) := by decide +kernel
theorem dX5_needRoom_22 : decode cX5_needRoom 22 = .ok (.athrow, 1) := by decide +kernel
theorem dX5_needRoom_23 : decode cX5_needRoom 23 = .ok (.return_, 1) := by decide +kernel
