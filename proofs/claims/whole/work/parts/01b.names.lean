theorem dX0_init_0 : decode cX0_init 0 = .ok (.aload_n 0, 1) := by decide +kernel
theorem dX0_init_1 : decode cX0_init 1 = .ok (.invokespecial 3, 3) := by decide +kernel
theorem dX0_init_4 : decode cX0_init 4 = .ok (.aload_n 0, 1) := by decide +kernel
theorem dX0_init_5 : decode cX0_init 5 = .ok (.bipush 60, 2) := by decide +kernel
theorem dX0_init_7 : decode cX0_init 7 = .ok (.newarray .char, 2) := by decide +kernel
theorem dX0_init_9 : decode cX0_init 9 = .ok (.putfield 11, 3) := by decide +kernel
theorem dX0_init_12 : decode cX0_init 12 = .ok (.return_, 1) := by decide +kernel
theorem dX0_size_0 : decode cX0_size 0 = .ok (.aload_n 0, 1) := by decide +kernel
theorem dX0_size_1 : decode cX0_size 1 = .ok (.getfield 15, 3) := by decide +kernel
theorem dX0_size_4 : decode cX0_size 4 = .ok (.ireturn, 1) := by decide +kernel
theorem dX0_isFull_0 : decode cX0_isFull 0 = .ok (.aload_n 0, 1) := by decide +kernel
theorem dX0_isFull_1 : decode cX0_isFull 1 = .ok (.getfield 15, 3) := by decide +kernel
theorem dX0_isFull_4 : decode cX0_isFull 4 = .ok (.bipush 60, 2) := by decide +kernel
theorem dX0_isFull_6 : decode cX0_isFull 6 = .ok (.if_icmp .lt 7, 3) := by decide +kernel
theorem dX0_isFull_9 : decode cX0_isFull 9 = .ok (.iconst 1, 1) := by decide +kernel
theorem dX0_isFull_10 : decode cX0_isFull 10 = .ok (.goto 4, 3) := by decide +kernel
theorem dX0_isFull_13 : decode cX0_isFull 13 = .ok (.iconst 0, 1) := by decide +kernel
theorem dX0_isFull_14 : decode cX0_isFull 14 = .ok (.ireturn, 1) := by decide +kernel
theorem dX0_write_0 : decode cX0_write 0 = .ok (.aload_n 0, 1) := by decide +kernel
theorem dX0_write_1 : decode cX0_write 1 = .ok (.getfield 11, 3) := by decide +kernel
theorem dX0_write_4 : decode cX0_write 4 = .ok (.aload_n 0, 1) := by decide +kernel
theorem dX0_write_5 : decode cX0_write 5 = .ok (.getfield 15, 3) := by decide +kernel
theorem dX0_write_8 : decode cX0_write 8 = .ok (.iload_n 1, 1) := by decide +kernel
theorem dX0_write_9 : decode cX0_write 9 = .ok (.castore, 1) := by decide +kernel
theorem dX0_write_10 : decode cX0_write 10 = .ok (.aload_n 0, 1) := by decide +kernel
theorem dX0_write_11 : decode cX0_write 11 = .ok (.dup, 1) := by decide +kernel
theorem dX0_write_12 : decode cX0_write 12 = .ok (.getfield 15, 3) := by decide +kernel
theorem dX0_write_15 : decode cX0_write 15 = .ok (.iconst 1, 1) := by decide +kernel
theorem dX0_write_16 : decode cX0_write 16 = .ok (.iadd, 1) := by decide +kernel
theorem dX0_write_17 : decode cX0_write 17 = .ok (.putfield 15, 3) := by decide +kernel
theorem dX0_write_20 : decode cX0_write 20 = .ok (.return_, 1) := by decide +kernel
theorem dX0_wipe_0 : decode cX0_wipe 0 = .ok (.aload_n 0, 1) := by decide +kernel
theorem dX0_wipe_1 : decode cX0_wipe 1 = .ok (.iconst 0, 1) := by decide +kernel
theorem dX0_wipe_2 : decode cX0_wipe 2 = .ok (.putfield 15, 3) := by decide +kernel
theorem dX0_wipe_5 : decode cX0_wipe 5 = .ok (.return_, 1) := by decide +kernel
set_option maxRecDepth 20000 in
theorem ggX0_firstWrong_X0_placeBehind : GoodIn wsX0_firstWrong wsX0_placeBehind := goodIn_r _ [6, 7, 8, 5, 9, 10, 11, 12, 13, 14, 15] (by decide +kernel) (by decide +kernel)
set_option maxRecDepth 20000 in
theorem gX0_firstWrong_X0_placeBehind : GoodIn wsX0_firstWrong (va_wsS RX0 19 yX0_placeBehind wsX0_placeBehind) := goodIn_app (goodIn_of _ (by decide +kernel)) ggX0_firstWrong_X0_placeBehind
theorem dX0_firstWrong_0 : decode cX0_firstWrong 0 = .ok (.iconst 0, 1) := by decide +kernel
theorem dX0_firstWrong_1 : decode cX0_firstWrong 1 = .ok (.istore_n 1, 1) := by decide +kernel
theorem dX0_firstWrong_2 : decode cX0_firstWrong 2 = .ok (.iconst 0, 1) := by decide +kernel
theorem dX0_firstWrong_3 : decode cX0_firstWrong 3 = .ok (.istore_n 2, 1) := by decide +kernel
theorem dX0_firstWrong_4 : decode cX0_firstWrong 4 = .ok (.iload_n 2, 1) := by decide +kernel
theorem dX0_firstWrong_5 : decode cX0_firstWrong 5 = .ok (.aload_n 0, 1) := by decide +kernel
theorem dX0_firstWrong_6 : decode cX0_firstWrong 6 = .ok (.getfield 15, 3) := by decide +kernel
theorem dX0_firstWrong_9 : decode cX0_firstWrong 9 = .ok (.if_icmp .ge 27, 3) := by decide +kernel
theorem dX0_firstWrong_12 : decode cX0_firstWrong 12 = .ok (.iload_n 1, 1) := by decide +kernel
theorem dX0_firstWrong_13 : decode cX0_firstWrong 13 = .ok (.aload_n 0, 1) := by decide +kernel
theorem dX0_firstWrong_14 : decode cX0_firstWrong 14 = .ok (.getfield 11, 3) := by decide +kernel
theorem dX0_firstWrong_17 : decode cX0_firstWrong 17 = .ok (.iload_n 2, 1) := by decide +kernel
theorem dX0_firstWrong_18 : decode cX0_firstWrong 18 = .ok (.caload, 1) := by decide +kernel
theorem dX0_firstWrong_19 : decode cX0_firstWrong 19 = .ok (.invokestatic 19, 3) := by decide +kernel
theorem dX0_firstWrong_22 : decode cX0_firstWrong 22 = .ok (.istore_n 1, 1) := by decide +kernel
theorem dX0_firstWrong_23 : decode cX0_firstWrong 23 = .ok (.iload_n 1, 1) := by decide +kernel
theorem dX0_firstWrong_24 : decode cX0_firstWrong 24 = .ok (.iconst (-1), 1) := by decide +kernel
theorem dX0_firstWrong_25 : decode cX0_firstWrong 25 = .ok (.if_icmp .ne 5, 3) := by decide +kernel
theorem dX0_firstWrong_28 : decode cX0_firstWrong 28 = .ok (.iload_n 2, 1) := by decide +kernel
theorem dX0_firstWrong_29 : decode cX0_firstWrong 29 = .ok (.ireturn, 1) := by decide +kernel
theorem dX0_firstWrong_30 : decode cX0_firstWrong 30 = .ok (.iinc 2 1, 3) := by decide +kernel
theorem dX0_firstWrong_33 : decode cX0_firstWrong 33 = .ok (.goto (-29), 3) := by decide +kernel
theorem dX0_firstWrong_36 : decode cX0_firstWrong 36 = .ok (.aload_n 0, 1) := by decide +kernel
theorem dX0_firstWrong_37 : decode cX0_firstWrong 37 = .ok (.getfield 15, 3) := by decide +kernel
theorem dX0_firstWrong_40 : decode cX0_firstWrong 40 = .ok (.ireturn, 1) := by decide +kernel
set_option maxRecDepth 20000 in
theorem ggX0_isComplete_X0_placeBehind : GoodIn wsX0_isComplete wsX0_placeBehind := goodIn_r _ [6, 7, 8, 5, 9, 10, 11, 12, 13, 14, 15] (by decide +kernel) (by decide +kernel)
set_option maxRecDepth 20000 in
theorem gX0_isComplete_X0_placeBehind : GoodIn wsX0_isComplete (va_wsS RX0 19 yX0_placeBehind wsX0_placeBehind) := goodIn_app (goodIn_of _ (by decide +kernel)) ggX0_isComplete_X0_placeBehind
theorem dX0_isComplete_0 : decode cX0_isComplete 0 = .ok (.iconst 0, 1) := by decide +kernel
theorem dX0_isComplete_1 : decode cX0_isComplete 1 = .ok (.istore_n 1, 1) := by decide +kernel
theorem dX0_isComplete_2 : decode cX0_isComplete 2 = .ok (.iconst 0, 1) := by decide +kernel
theorem dX0_isComplete_3 : decode cX0_isComplete 3 = .ok (.istore_n 2, 1) := by decide +kernel
theorem dX0_isComplete_4 : decode cX0_isComplete 4 = .ok (.iload_n 2, 1) := by decide +kernel
theorem dX0_isComplete_5 : decode cX0_isComplete 5 = .ok (.aload_n 0, 1) := by decide +kernel
theorem dX0_isComplete_6 : decode cX0_isComplete 6 = .ok (.getfield 15, 3) := by decide +kernel
theorem dX0_isComplete_9 : decode cX0_isComplete 9 = .ok (.if_icmp .ge 20, 3) := by decide +kernel
theorem dX0_isComplete_12 : decode cX0_isComplete 12 = .ok (.iload_n 1, 1) := by decide +kernel
theorem dX0_isComplete_13 : decode cX0_isComplete 13 = .ok (.aload_n 0, 1) := by decide +kernel
theorem dX0_isComplete_14 : decode cX0_isComplete 14 = .ok (.getfield 11, 3) := by decide +kernel
theorem dX0_isComplete_17 : decode cX0_isComplete 17 = .ok (.iload_n 2, 1) := by decide +kernel
theorem dX0_isComplete_18 : decode cX0_isComplete 18 = .ok (.caload, 1) := by decide +kernel
theorem dX0_isComplete_19 : decode cX0_isComplete 19 = .ok (.invokestatic 19, 3) := by decide +kernel
theorem dX0_isComplete_22 : decode cX0_isComplete 22 = .ok (.istore_n 1, 1) := by decide +kernel
theorem dX0_isComplete_23 : decode cX0_isComplete 23 = .ok (.iinc 2 1, 3) := by decide +kernel
theorem dX0_isComplete_26 : decode cX0_isComplete 26 = .ok (.goto (-22), 3) := by decide +kernel
theorem dX0_isComplete_29 : decode cX0_isComplete 29 = .ok (.iload_n 1, 1) := by decide +kernel
theorem dX0_isComplete_30 : decode cX0_isComplete 30 = .ok (.iconst 4, 1) := by decide +kernel
theorem dX0_isComplete_31 : decode cX0_isComplete 31 = .ok (.if_icmp .eq 15, 3) := by decide +kernel
theorem dX0_isComplete_34 : decode cX0_isComplete 34 = .ok (.iload_n 1, 1) := by decide +kernel
theorem dX0_isComplete_35 : decode cX0_isComplete 35 = .ok (.bipush 6, 2) := by decide +kernel
theorem dX0_isComplete_37 : decode cX0_isComplete 37 = .ok (.if_icmp .eq 9, 3) := by decide +kernel
theorem dX0_isComplete_40 : decode cX0_isComplete 40 = .ok (.iload_n 1, 1) := by decide +kernel
theorem dX0_isComplete_41 : decode cX0_isComplete 41 = .ok (.bipush 7, 2) := by decide +kernel
theorem dX0_isComplete_43 : decode cX0_isComplete 43 = .ok (.if_icmp .ne 7, 3) := by decide +kernel
theorem dX0_isComplete_46 : decode cX0_isComplete 46 = .ok (.iconst 1, 1) := by decide +kernel
theorem dX0_isComplete_47 : decode cX0_isComplete 47 = .ok (.goto 4, 3) := by decide +kernel
theorem dX0_isComplete_50 : decode cX0_isComplete 50 = .ok (.iconst 0, 1) := by decide +kernel
theorem dX0_isComplete_51 : decode cX0_isComplete 51 = .ok (.ireturn, 1) := by decide +kernel
set_option maxRecDepth 20000 in
theorem ggX0_readInto_X0_readPortion : GoodIn wsX0_readInto wsX0_readPortion := goodIn_r _ [7, 2, 8, 9, 6, 10, 11, 12, 13, 14, 15, 16, 17, 18, 19] (by decide +kernel) (by decide +kernel)
set_option maxRecDepth 20000 in
theorem gX0_readInto_X0_readPortion : GoodIn wsX0_readInto (wsV RX0 23 RX0 yX0_readPortion wsX0_readPortion) := goodIn_app (goodIn_of _ (by decide +kernel)) ggX0_readInto_X0_readPortion
theorem dX0_readInto_0 : decode cX0_readInto 0 = .ok (.iconst 0, 1) := by decide +kernel
theorem dX0_readInto_1 : decode cX0_readInto 1 = .ok (.istore_n 2, 1) := by decide +kernel
theorem dX0_readInto_2 : decode cX0_readInto 2 = .ok (.iconst 0, 1) := by decide +kernel
theorem dX0_readInto_3 : decode cX0_readInto 3 = .ok (.istore_n 3, 1) := by decide +kernel
theorem dX0_readInto_4 : decode cX0_readInto 4 = .ok (.iload_n 3, 1) := by decide +kernel
theorem dX0_readInto_5 : decode cX0_readInto 5 = .ok (.aload_n 0, 1) := by decide +kernel
theorem dX0_readInto_6 : decode cX0_readInto 6 = .ok (.getfield 15, 3) := by decide +kernel
theorem dX0_readInto_9 : decode cX0_readInto 9 = .ok (.if_icmp .ge 31, 3) := by decide +kernel
theorem dX0_readInto_12 : decode cX0_readInto 12 = .ok (.aload_n 0, 1) := by decide +kernel
theorem dX0_readInto_13 : decode cX0_readInto 13 = .ok (.getfield 11, 3) := by decide +kernel
theorem dX0_readInto_16 : decode cX0_readInto 16 = .ok (.iload_n 3, 1) := by decide +kernel
theorem dX0_readInto_17 : decode cX0_readInto 17 = .ok (.caload, 1) := by decide +kernel
theorem dX0_readInto_18 : decode cX0_readInto 18 = .ok (.bipush 43, 2) := by decide +kernel
theorem dX0_readInto_20 : decode cX0_readInto 20 = .ok (.if_icmp .ne 14, 3) := by decide +kernel
theorem dX0_readInto_23 : decode cX0_readInto 23 = .ok (.aload_n 0, 1) := by decide +kernel
theorem dX0_readInto_24 : decode cX0_readInto 24 = .ok (.iload_n 2, 1) := by decide +kernel
theorem dX0_readInto_25 : decode cX0_readInto 25 = .ok (.iload_n 3, 1) := by decide +kernel
theorem dX0_readInto_26 : decode cX0_readInto 26 = .ok (.aload_n 1, 1) := by decide +kernel
theorem dX0_readInto_27 : decode cX0_readInto 27 = .ok (.invokevirtual 23, 3) := by decide +kernel
theorem dX0_readInto_30 : decode cX0_readInto 30 = .ok (.iload_n 3, 1) := by decide +kernel
theorem dX0_readInto_31 : decode cX0_readInto 31 = .ok (.iconst 1, 1) := by decide +kernel
theorem dX0_readInto_32 : decode cX0_readInto 32 = .ok (.iadd, 1) := by decide +kernel
theorem dX0_readInto_33 : decode cX0_readInto 33 = .ok (.istore_n 2, 1) := by decide +kernel
theorem dX0_readInto_34 : decode cX0_readInto 34 = .ok (.iinc 3 1, 3) := by decide +kernel
theorem dX0_readInto_37 : decode cX0_readInto 37 = .ok (.goto (-33), 3) := by decide +kernel
theorem dX0_readInto_40 : decode cX0_readInto 40 = .ok (.aload_n 0, 1) := by decide +kernel
theorem dX0_readInto_41 : decode cX0_readInto 41 = .ok (.iload_n 2, 1) := by decide +kernel
theorem dX0_readInto_42 : decode cX0_readInto 42 = .ok (.aload_n 0, 1) := by decide +kernel
theorem dX0_readInto_43 : decode cX0_readInto 43 = .ok (.getfield 15, 3) := by decide +kernel
theorem dX0_readInto_46 : decode cX0_readInto 46 = .ok (.aload_n 1, 1) := by decide +kernel
theorem dX0_readInto_47 : decode cX0_readInto 47 = .ok (.invokevirtual 23, 3) := by decide +kernel
theorem dX0_readInto_50 : decode cX0_readInto 50 = .ok (.return_, 1) := by decide +kernel
set_option maxRecDepth 20000 in
theorem ggX0_readPortion_X0_isDigit : GoodIn wsX0_readPortion wsX0_isDigit := goodIn_r _ [5] (by decide +kernel) (by decide +kernel)
set_option maxRecDepth 20000 in
theorem gX0_readPortion_X0_isDigit : GoodIn wsX0_readPortion (va_wsS RX0 27 yX0_isDigit wsX0_isDigit) := goodIn_app (goodIn_of _ (by decide +kernel)) ggX0_readPortion_X0_isDigit
set_option maxRecDepth 20000 in
theorem ggX0_readPortion_X2_put : GoodIn wsX0_readPortion wsX2_put := goodIn_r _ [10, 11, 14] (by decide +kernel) (by decide +kernel)
set_option maxRecDepth 20000 in
theorem gX0_readPortion_X2_put : GoodIn wsX0_readPortion (wsV RX0 31 RX2 yX2_put wsX2_put) := goodIn_app (goodIn_of _ (by decide +kernel)) ggX0_readPortion_X2_put
theorem dX0_readPortion_0 : decode cX0_readPortion 0 = .ok (.iconst 0, 1) := by decide +kernel
theorem dX0_readPortion_1 : decode cX0_readPortion 1 = .ok (.istore 4, 2) := by decide +kernel
theorem dX0_readPortion_3 : decode cX0_readPortion 3 = .ok (.iload_n 1, 1) := by decide +kernel
theorem dX0_readPortion_4 : decode cX0_readPortion 4 = .ok (.istore 5, 2) := by decide +kernel
theorem dX0_readPortion_6 : decode cX0_readPortion 6 = .ok (.iload 5, 2) := by decide +kernel
theorem dX0_readPortion_8 : decode cX0_readPortion 8 = .ok (.iload_n 2, 1) := by decide +kernel
theorem dX0_readPortion_9 : decode cX0_readPortion 9 = .ok (.if_icmp .ge 40, 3) := by decide +kernel
theorem dX0_readPortion_12 : decode cX0_readPortion 12 = .ok (.aload_n 0, 1) := by decide +kernel
theorem dX0_readPortion_13 : decode cX0_readPortion 13 = .ok (.getfield 11, 3) := by decide +kernel
theorem dX0_readPortion_16 : decode cX0_readPortion 16 = .ok (.iload 5, 2) := by decide +kernel
theorem dX0_readPortion_18 : decode cX0_readPortion 18 = .ok (.caload, 1) := by decide +kernel
theorem dX0_readPortion_19 : decode cX0_readPortion 19 = .ok (.invokestatic 27, 3) := by decide +kernel
theorem dX0_readPortion_22 : decode cX0_readPortion 22 = .ok (.ifCond .eq 27, 3) := by decide +kernel
theorem dX0_readPortion_25 : decode cX0_readPortion 25 = .ok (.iload 4, 2) := by decide +kernel
theorem dX0_readPortion_27 : decode cX0_readPortion 27 = .ok (.bipush 10, 2) := by decide +kernel
theorem dX0_readPortion_29 : decode cX0_readPortion 29 = .ok (.imul, 1) := by decide +kernel
theorem dX0_readPortion_30 : decode cX0_readPortion 30 = .ok (.aload_n 0, 1) := by decide +kernel
theorem dX0_readPortion_31 : decode cX0_readPortion 31 = .ok (.getfield 11, 3) := by decide +kernel
theorem dX0_readPortion_34 : decode cX0_readPortion 34 = .ok (.iload 5, 2) := by decide +kernel
theorem dX0_readPortion_36 : decode cX0_readPortion 36 = .ok (.caload, 1) := by decide +kernel
theorem dX0_readPortion_37 : decode cX0_readPortion 37 = .ok (.bipush 48, 2) := by decide +kernel
theorem dX0_readPortion_39 : decode cX0_readPortion 39 = .ok (.isub, 1) := by decide +kernel
theorem dX0_readPortion_40 : decode cX0_readPortion 40 = .ok (.iadd, 1) := by decide +kernel
theorem dX0_readPortion_41 : decode cX0_readPortion 41 = .ok (.istore 4, 2) := by decide +kernel
theorem dX0_readPortion_43 : decode cX0_readPortion 43 = .ok (.iinc 5 1, 3) := by decide +kernel
theorem dX0_readPortion_46 : decode cX0_readPortion 46 = .ok (.goto (-40), 3) := by decide +kernel
theorem dX0_readPortion_49 : decode cX0_readPortion 49 = .ok (.iload 5, 2) := by decide +kernel
theorem dX0_readPortion_51 : decode cX0_readPortion 51 = .ok (.iload_n 2, 1) := by decide +kernel
theorem dX0_readPortion_52 : decode cX0_readPortion 52 = .ok (.if_icmp .ge 16, 3) := by decide +kernel
theorem dX0_readPortion_55 : decode cX0_readPortion 55 = .ok (.aload_n 0, 1) := by decide +kernel
theorem dX0_readPortion_56 : decode cX0_readPortion 56 = .ok (.getfield 11, 3) := by decide +kernel
theorem dX0_readPortion_59 : decode cX0_readPortion 59 = .ok (.iload 5, 2) := by decide +kernel
theorem dX0_readPortion_61 : decode cX0_readPortion 61 = .ok (.caload, 1) := by decide +kernel
theorem dX0_readPortion_62 : decode cX0_readPortion 62 = .ok (.bipush 97, 2) := by decide +kernel
theorem dX0_readPortion_64 : decode cX0_readPortion 64 = .ok (.isub, 1) := by decide +kernel
theorem dX0_readPortion_65 : decode cX0_readPortion 65 = .ok (.goto 4, 3) := by decide +kernel
theorem dX0_readPortion_68 : decode cX0_readPortion 68 = .ok (.iconst 0, 1) := by decide +kernel
theorem dX0_readPortion_69 : decode cX0_readPortion 69 = .ok (.istore 6, 2) := by decide +kernel
theorem dX0_readPortion_71 : decode cX0_readPortion 71 = .ok (.iconst 0, 1) := by decide +kernel
theorem dX0_readPortion_72 : decode cX0_readPortion 72 = .ok (.istore 7, 2) := by decide +kernel
theorem dX0_readPortion_74 : decode cX0_readPortion 74 = .ok (.iload 5, 2) := by decide +kernel
theorem dX0_readPortion_76 : decode cX0_readPortion 76 = .ok (.iconst 2, 1) := by decide +kernel
theorem dX0_readPortion_77 : decode cX0_readPortion 77 = .ok (.iadd, 1) := by decide +kernel
theorem dX0_readPortion_78 : decode cX0_readPortion 78 = .ok (.istore 5, 2) := by decide +kernel
theorem dX0_readPortion_80 : decode cX0_readPortion 80 = .ok (.iload 5, 2) := by decide +kernel
theorem dX0_readPortion_82 : decode cX0_readPortion 82 = .ok (.iload_n 2, 1) := by decide +kernel
theorem dX0_readPortion_83 : decode cX0_readPortion 83 = .ok (.if_icmp .ge 27, 3) := by decide +kernel
theorem dX0_readPortion_86 : decode cX0_readPortion 86 = .ok (.iload 7, 2) := by decide +kernel
theorem dX0_readPortion_88 : decode cX0_readPortion 88 = .ok (.bipush 10, 2) := by decide +kernel
theorem dX0_readPortion_90 : decode cX0_readPortion 90 = .ok (.imul, 1) := by decide +kernel
theorem dX0_readPortion_91 : decode cX0_readPortion 91 = .ok (.aload_n 0, 1) := by decide +kernel
theorem dX0_readPortion_92 : decode cX0_readPortion 92 = .ok (.getfield 11, 3) := by decide +kernel
theorem dX0_readPortion_95 : decode cX0_readPortion 95 = .ok (.iload 5, 2) := by decide +kernel
theorem dX0_readPortion_97 : decode cX0_readPortion 97 = .ok (.caload, 1) := by decide +kernel
theorem dX0_readPortion_98 : decode cX0_readPortion 98 = .ok (.bipush 48, 2) := by decide +kernel
theorem dX0_readPortion_100 : decode cX0_readPortion 100 = .ok (.isub, 1) := by decide +kernel
theorem dX0_readPortion_101 : decode cX0_readPortion 101 = .ok (.iadd, 1) := by decide +kernel
theorem dX0_readPortion_102 : decode cX0_readPortion 102 = .ok (.istore 7, 2) := by decide +kernel
theorem dX0_readPortion_104 : decode cX0_readPortion 104 = .ok (.iinc 5 1, 3) := by decide +kernel
theorem dX0_readPortion_107 : decode cX0_readPortion 107 = .ok (.goto (-27), 3) := by decide +kernel
theorem dX0_readPortion_110 : decode cX0_readPortion 110 = .ok (.iload 7, 2) := by decide +kernel
theorem dX0_readPortion_112 : decode cX0_readPortion 112 = .ok (.bipush 12, 2) := by decide +kernel
theorem dX0_readPortion_114 : decode cX0_readPortion 114 = .ok (.if_icmp .ge 24, 3) := by decide +kernel
theorem dX0_readPortion_117 : decode cX0_readPortion 117 = .ok (.iload 6, 2) := by decide +kernel
theorem dX0_readPortion_119 : decode cX0_readPortion 119 = .ok (.ifCond .lt 19, 3) := by decide +kernel
theorem dX0_readPortion_122 : decode cX0_readPortion 122 = .ok (.iload 6, 2) := by decide +kernel
theorem dX0_readPortion_124 : decode cX0_readPortion 124 = .ok (.iconst 4, 1) := by decide +kernel
theorem dX0_readPortion_125 : decode cX0_readPortion 125 = .ok (.if_icmp .ge 13, 3) := by decide +kernel
theorem dX0_readPortion_128 : decode cX0_readPortion 128 = .ok (.aload_n 3, 1) := by decide +kernel
theorem dX0_readPortion_129 : decode cX0_readPortion 129 = .ok (.iload 7, 2) := by decide +kernel
theorem dX0_readPortion_131 : decode cX0_readPortion 131 = .ok (.iload 6, 2) := by decide +kernel
theorem dX0_readPortion_133 : decode cX0_readPortion 133 = .ok (.iload 4, 2) := by decide +kernel
theorem dX0_readPortion_135 : decode cX0_readPortion 135 = .ok (.invokevirtual 31, 3) := by decide +kernel
theorem dX0_readPortion_138 : decode cX0_readPortion 138 = .ok (.return_, 1) := by decide +kernel
theorem dX0_hashWithCodes_0 : decode cX0_hashWithCodes 0 = .ok (.ldc2_w 37, 3) := by decide +kernel
theorem dX0_hashWithCodes_3 : decode cX0_hashWithCodes 3 = .ok (.lload_n 1, 1) := by decide +kernel
theorem dX0_hashWithCodes_4 : decode cX0_hashWithCodes 4 = .ok (.lmul, 1) := by decide +kernel
theorem dX0_hashWithCodes_5 : decode cX0_hashWithCodes 5 = .ok (.aload_n 0, 1) := by decide +kernel
theorem dX0_hashWithCodes_6 : decode cX0_hashWithCodes 6 = .ok (.getfield 15, 3) := by decide +kernel
theorem dX0_hashWithCodes_9 : decode cX0_hashWithCodes 9 = .ok (.i2l, 1) := by decide +kernel
theorem dX0_hashWithCodes_10 : decode cX0_hashWithCodes 10 = .ok (.ladd, 1) := by decide +kernel
theorem dX0_hashWithCodes_11 : decode cX0_hashWithCodes 11 = .ok (.lstore_n 3, 1) := by decide +kernel
theorem dX0_hashWithCodes_12 : decode cX0_hashWithCodes 12 = .ok (.iconst 0, 1) := by decide +kernel
theorem dX0_hashWithCodes_13 : decode cX0_hashWithCodes 13 = .ok (.istore 5, 2) := by decide +kernel
theorem dX0_hashWithCodes_15 : decode cX0_hashWithCodes 15 = .ok (.iload 5, 2) := by decide +kernel
theorem dX0_hashWithCodes_17 : decode cX0_hashWithCodes 17 = .ok (.aload_n 0, 1) := by decide +kernel
theorem dX0_hashWithCodes_18 : decode cX0_hashWithCodes 18 = .ok (.getfield 15, 3) := by decide +kernel
theorem dX0_hashWithCodes_21 : decode cX0_hashWithCodes 21 = .ok (.if_icmp .ge 24, 3) := by decide +kernel
theorem dX0_hashWithCodes_24 : decode cX0_hashWithCodes 24 = .ok (.ldc2_w 37, 3) := by decide +kernel
theorem dX0_hashWithCodes_27 : decode cX0_hashWithCodes 27 = .ok (.lload_n 3, 1) := by decide +kernel
theorem dX0_hashWithCodes_28 : decode cX0_hashWithCodes 28 = .ok (.lmul, 1) := by decide +kernel
theorem dX0_hashWithCodes_29 : decode cX0_hashWithCodes 29 = .ok (.aload_n 0, 1) := by decide +kernel
theorem dX0_hashWithCodes_30 : decode cX0_hashWithCodes 30 = .ok (.getfield 11, 3) := by decide +kernel
theorem dX0_hashWithCodes_33 : decode cX0_hashWithCodes 33 = .ok (.iload 5, 2) := by decide +kernel
theorem dX0_hashWithCodes_35 : decode cX0_hashWithCodes 35 = .ok (.caload, 1) := by decide +kernel
theorem dX0_hashWithCodes_36 : decode cX0_hashWithCodes 36 = .ok (.i2l, 1) := by decide +kernel
theorem dX0_hashWithCodes_37 : decode cX0_hashWithCodes 37 = .ok (.ladd, 1) := by decide +kernel
theorem dX0_hashWithCodes_38 : decode cX0_hashWithCodes 38 = .ok (.lstore_n 3, 1) := by decide +kernel
theorem dX0_hashWithCodes_39 : decode cX0_hashWithCodes 39 = .ok (.iinc 5 1, 3) := by decide +kernel
theorem dX0_hashWithCodes_42 : decode cX0_hashWithCodes 42 = .ok (.goto (-27), 3) := by decide +kernel
theorem dX0_hashWithCodes_45 : decode cX0_hashWithCodes 45 = .ok (.lload_n 3, 1) := by decide +kernel
theorem dX0_hashWithCodes_46 : decode cX0_hashWithCodes 46 = .ok (.lreturn, 1) := by decide +kernel
set_option maxRecDepth 20000 in
theorem ggX0_placeBehind_X0_isDigit : GoodIn wsX0_placeBehind wsX0_isDigit := goodIn_r _ [4] (by decide +kernel) (by decide +kernel)
set_option maxRecDepth 20000 in
theorem gX0_placeBehind_X0_isDigit : GoodIn wsX0_placeBehind (va_wsS RX0 27 yX0_isDigit wsX0_isDigit) := goodIn_app (goodIn_of _ (by decide +kernel)) ggX0_placeBehind_X0_isDigit
set_option maxRecDepth 20000 in
theorem ggX0_placeBehind_X0_placeBehindNumber : GoodIn wsX0_placeBehind wsX0_placeBehindNumber := goodIn_r _ [7] (by decide +kernel) (by decide +kernel)
set_option maxRecDepth 20000 in
theorem gX0_placeBehind_X0_placeBehindNumber : GoodIn wsX0_placeBehind (va_wsS RX0 39 yX0_placeBehindNumber wsX0_placeBehindNumber) := goodIn_app (goodIn_of _ (by decide +kernel)) ggX0_placeBehind_X0_placeBehindNumber
set_option maxRecDepth 20000 in
theorem ggX0_placeBehind_X0_placeBehindPortion : GoodIn wsX0_placeBehind wsX0_placeBehindPortion := goodIn_r _ [10] (by decide +kernel) (by decide +kernel)
set_option maxRecDepth 20000 in
theorem gX0_placeBehind_X0_placeBehindPortion : GoodIn wsX0_placeBehind (va_wsS RX0 43 yX0_placeBehindPortion wsX0_placeBehindPortion) := goodIn_app (goodIn_of _ (by decide +kernel)) ggX0_placeBehind_X0_placeBehindPortion
theorem dX0_placeBehind_0 : decode cX0_placeBehind 0 = .ok (.iload_n 0, 1) := by decide +kernel
theorem dX0_placeBehind_1 : decode cX0_placeBehind 1 = .ok (.tableswitch 170 0 7 #[47, 66, 82, 98, 103, 118, 143, 165], 47) := by decide +kernel
theorem dX0_placeBehind_48 : decode cX0_placeBehind 48 = .ok (.iload_n 1, 1) := by decide +kernel
theorem dX0_placeBehind_49 : decode cX0_placeBehind 49 = .ok (.invokestatic 27, 3) := by decide +kernel
theorem dX0_placeBehind_52 : decode cX0_placeBehind 52 = .ok (.ifCond .eq 13, 3) := by decide +kernel
theorem dX0_placeBehind_55 : decode cX0_placeBehind 55 = .ok (.iload_n 1, 1) := by decide +kernel
theorem dX0_placeBehind_56 : decode cX0_placeBehind 56 = .ok (.bipush 48, 2) := by decide +kernel
theorem dX0_placeBehind_58 : decode cX0_placeBehind 58 = .ok (.if_icmp .eq 7, 3) := by decide +kernel
theorem dX0_placeBehind_61 : decode cX0_placeBehind 61 = .ok (.iconst 1, 1) := by decide +kernel
theorem dX0_placeBehind_62 : decode cX0_placeBehind 62 = .ok (.goto 4, 3) := by decide +kernel
theorem dX0_placeBehind_65 : decode cX0_placeBehind 65 = .ok (.iconst (-1), 1) := by decide +kernel
theorem dX0_placeBehind_66 : decode cX0_placeBehind 66 = .ok (.ireturn, 1) := by decide +kernel
theorem dX0_placeBehind_67 : decode cX0_placeBehind 67 = .ok (.iload_n 1, 1) := by decide +kernel
theorem dX0_placeBehind_68 : decode cX0_placeBehind 68 = .ok (.invokestatic 27, 3) := by decide +kernel
theorem dX0_placeBehind_71 : decode cX0_placeBehind 71 = .ok (.ifCond .eq 7, 3) := by decide +kernel
theorem dX0_placeBehind_74 : decode cX0_placeBehind 74 = .ok (.iconst 2, 1) := by decide +kernel
theorem dX0_placeBehind_75 : decode cX0_placeBehind 75 = .ok (.goto 7, 3) := by decide +kernel
theorem dX0_placeBehind_78 : decode cX0_placeBehind 78 = .ok (.iload_n 1, 1) := by decide +kernel
theorem dX0_placeBehind_79 : decode cX0_placeBehind 79 = .ok (.invokestatic 39, 3) := by decide +kernel
theorem dX0_placeBehind_82 : decode cX0_placeBehind 82 = .ok (.ireturn, 1) := by decide +kernel
theorem dX0_placeBehind_83 : decode cX0_placeBehind 83 = .ok (.iload_n 1, 1) := by decide +kernel
theorem dX0_placeBehind_84 : decode cX0_placeBehind 84 = .ok (.invokestatic 27, 3) := by decide +kernel
theorem dX0_placeBehind_87 : decode cX0_placeBehind 87 = .ok (.ifCond .eq 7, 3) := by decide +kernel
theorem dX0_placeBehind_90 : decode cX0_placeBehind 90 = .ok (.iconst 3, 1) := by decide +kernel
theorem dX0_placeBehind_91 : decode cX0_placeBehind 91 = .ok (.goto 7, 3) := by decide +kernel
theorem dX0_placeBehind_94 : decode cX0_placeBehind 94 = .ok (.iload_n 1, 1) := by decide +kernel
theorem dX0_placeBehind_95 : decode cX0_placeBehind 95 = .ok (.invokestatic 39, 3) := by decide +kernel
theorem dX0_placeBehind_98 : decode cX0_placeBehind 98 = .ok (.ireturn, 1) := by decide +kernel
theorem dX0_placeBehind_99 : decode cX0_placeBehind 99 = .ok (.iload_n 1, 1) := by decide +kernel
theorem dX0_placeBehind_100 : decode cX0_placeBehind 100 = .ok (.invokestatic 39, 3) := by decide +kernel
theorem dX0_placeBehind_103 : decode cX0_placeBehind 103 = .ok (.ireturn, 1) := by decide +kernel
theorem dX0_placeBehind_104 : decode cX0_placeBehind 104 = .ok (.iload_n 1, 1) := by decide +kernel
theorem dX0_placeBehind_105 : decode cX0_placeBehind 105 = .ok (.bipush 64, 2) := by decide +kernel
theorem dX0_placeBehind_107 : decode cX0_placeBehind 107 = .ok (.if_icmp .ne 7, 3) := by decide +kernel
theorem dX0_placeBehind_110 : decode cX0_placeBehind 110 = .ok (.iconst 5, 1) := by decide +kernel
theorem dX0_placeBehind_111 : decode cX0_placeBehind 111 = .ok (.goto 7, 3) := by decide +kernel
theorem dX0_placeBehind_114 : decode cX0_placeBehind 114 = .ok (.iload_n 1, 1) := by decide +kernel
theorem dX0_placeBehind_115 : decode cX0_placeBehind 115 = .ok (.invokestatic 43, 3) := by decide +kernel
theorem dX0_placeBehind_118 : decode cX0_placeBehind 118 = .ok (.ireturn, 1) := by decide +kernel
theorem dX0_placeBehind_119 : decode cX0_placeBehind 119 = .ok (.iload_n 1, 1) := by decide +kernel
theorem dX0_placeBehind_120 : decode cX0_placeBehind 120 = .ok (.bipush 49, 2) := by decide +kernel
theorem dX0_placeBehind_122 : decode cX0_placeBehind 122 = .ok (.if_icmp .ne 8, 3) := by decide +kernel
theorem dX0_placeBehind_125 : decode cX0_placeBehind 125 = .ok (.bipush 6, 2) := by decide +kernel
theorem dX0_placeBehind_127 : decode cX0_placeBehind 127 = .ok (.goto 16, 3) := by decide +kernel
theorem dX0_placeBehind_130 : decode cX0_placeBehind 130 = .ok (.iload_n 1, 1) := by decide +kernel
theorem dX0_placeBehind_131 : decode cX0_placeBehind 131 = .ok (.invokestatic 27, 3) := by decide +kernel
theorem dX0_placeBehind_134 : decode cX0_placeBehind 134 = .ok (.ifCond .eq 8, 3) := by decide +kernel
theorem dX0_placeBehind_137 : decode cX0_placeBehind 137 = .ok (.bipush 7, 2) := by decide +kernel
theorem dX0_placeBehind_139 : decode cX0_placeBehind 139 = .ok (.goto 4, 3) := by decide +kernel
theorem dX0_placeBehind_142 : decode cX0_placeBehind 142 = .ok (.iconst (-1), 1) := by decide +kernel
theorem dX0_placeBehind_143 : decode cX0_placeBehind 143 = .ok (.ireturn, 1) := by decide +kernel
theorem dX0_placeBehind_144 : decode cX0_placeBehind 144 = .ok (.iload_n 1, 1) := by decide +kernel
theorem dX0_placeBehind_145 : decode cX0_placeBehind 145 = .ok (.bipush 48, 2) := by decide +kernel
theorem dX0_placeBehind_147 : decode cX0_placeBehind 147 = .ok (.if_icmp .eq 9, 3) := by decide +kernel
theorem dX0_placeBehind_150 : decode cX0_placeBehind 150 = .ok (.iload_n 1, 1) := by decide +kernel
theorem dX0_placeBehind_151 : decode cX0_placeBehind 151 = .ok (.bipush 49, 2) := by decide +kernel
theorem dX0_placeBehind_153 : decode cX0_placeBehind 153 = .ok (.if_icmp .ne 8, 3) := by decide +kernel
theorem dX0_placeBehind_156 : decode cX0_placeBehind 156 = .ok (.bipush 7, 2) := by decide +kernel
theorem dX0_placeBehind_158 : decode cX0_placeBehind 158 = .ok (.goto 7, 3) := by decide +kernel
theorem dX0_placeBehind_161 : decode cX0_placeBehind 161 = .ok (.iload_n 1, 1) := by decide +kernel
theorem dX0_placeBehind_162 : decode cX0_placeBehind 162 = .ok (.invokestatic 43, 3) := by decide +kernel
theorem dX0_placeBehind_165 : decode cX0_placeBehind 165 = .ok (.ireturn, 1) := by decide +kernel
theorem dX0_placeBehind_166 : decode cX0_placeBehind 166 = .ok (.iload_n 1, 1) := by decide +kernel
theorem dX0_placeBehind_167 : decode cX0_placeBehind 167 = .ok (.invokestatic 43, 3) := by decide +kernel
theorem dX0_placeBehind_170 : decode cX0_placeBehind 170 = .ok (.ireturn, 1) := by decide +kernel
theorem dX0_placeBehind_171 : decode cX0_placeBehind 171 = .ok (.iconst (-1), 1) := by decide +kernel
theorem dX0_placeBehind_172 : decode cX0_placeBehind 172 = .ok (.ireturn, 1) := by decide +kernel
theorem dX0_placeBehindNumber_0 : decode cX0_placeBehindNumber 0 = .ok (.iload_n 0, 1) := by decide +kernel
theorem dX0_placeBehindNumber_1 : decode cX0_placeBehindNumber 1 = .ok (.bipush 97, 2) := by decide +kernel
theorem dX0_placeBehindNumber_3 : decode cX0_placeBehindNumber 3 = .ok (.if_icmp .lt 13, 3) := by decide +kernel
theorem dX0_placeBehindNumber_6 : decode cX0_placeBehindNumber 6 = .ok (.iload_n 0, 1) := by decide +kernel
theorem dX0_placeBehindNumber_7 : decode cX0_placeBehindNumber 7 = .ok (.bipush 101, 2) := by decide +kernel
theorem dX0_placeBehindNumber_9 : decode cX0_placeBehindNumber 9 = .ok (.if_icmp .ge 7, 3) := by decide +kernel
theorem dX0_placeBehindNumber_12 : decode cX0_placeBehindNumber 12 = .ok (.iconst 4, 1) := by decide +kernel
theorem dX0_placeBehindNumber_13 : decode cX0_placeBehindNumber 13 = .ok (.goto 4, 3) := by decide +kernel
theorem dX0_placeBehindNumber_16 : decode cX0_placeBehindNumber 16 = .ok (.iconst (-1), 1) := by decide +kernel
theorem dX0_placeBehindNumber_17 : decode cX0_placeBehindNumber 17 = .ok (.ireturn, 1) := by decide +kernel
theorem dX0_placeBehindPortion_0 : decode cX0_placeBehindPortion 0 = .ok (.iload_n 0, 1) := by decide +kernel
theorem dX0_placeBehindPortion_1 : decode cX0_placeBehindPortion 1 = .ok (.bipush 43, 2) := by decide +kernel
theorem dX0_placeBehindPortion_3 : decode cX0_placeBehindPortion 3 = .ok (.if_icmp .ne 7, 3) := by decide +kernel
theorem dX0_placeBehindPortion_6 : decode cX0_placeBehindPortion 6 = .ok (.iconst 0, 1) := by decide +kernel
theorem dX0_placeBehindPortion_7 : decode cX0_placeBehindPortion 7 = .ok (.goto 4, 3) := by decide +kernel
theorem dX0_placeBehindPortion_10 : decode cX0_placeBehindPortion 10 = .ok (.iconst (-1), 1) := by decide +kernel
theorem dX0_placeBehindPortion_11 : decode cX0_placeBehindPortion 11 = .ok (.ireturn, 1) := by decide +kernel
theorem dX0_isDigit_0 : decode cX0_isDigit 0 = .ok (.iload_n 0, 1) := by decide +kernel
theorem dX0_isDigit_1 : decode cX0_isDigit 1 = .ok (.bipush 48, 2) := by decide +kernel
theorem dX0_isDigit_3 : decode cX0_isDigit 3 = .ok (.if_icmp .lt 13, 3) := by decide +kernel
theorem dX0_isDigit_6 : decode cX0_isDigit 6 = .ok (.iload_n 0, 1) := by decide +kernel
theorem dX0_isDigit_7 : decode cX0_isDigit 7 = .ok (.bipush 57, 2) := by decide +kernel
theorem dX0_isDigit_9 : decode cX0_isDigit 9 = .ok (.if_icmp .gt 7, 3) := by decide +kernel
theorem dX0_isDigit_12 : decode cX0_isDigit 12 = .ok (.iconst 1, 1) := by decide +kernel
theorem dX0_isDigit_13 : decode cX0_isDigit 13 = .ok (.goto 4, 3) := by decide +kernel
theorem dX0_isDigit_16 : decode cX0_isDigit 16 = .ok (.iconst 0, 1) := by decide +kernel
theorem dX0_isDigit_17 : decode cX0_isDigit 17 = .ok (.ireturn, 1) := by decide +kernel
set_option maxRecDepth 20000 in
theorem ggX1_init_X4_init : GoodIn wsX1_init wsX4_init := goodIn_r _ [10, 11, 2, 3, 12, 13, 14, 15, 16, 17, 18, 19, 20, 21, 22, 23, 24, 25, 26, 27, 28, 29, 30, 31, 41, 42, 35, 36, 37, 38, 39, 40, 43] (by decide +kernel) (by decide +kernel)
set_option maxRecDepth 20000 in
theorem gX1_init_X4_init : GoodIn wsX1_init (wsX4_init) := ggX1_init_X4_init
theorem dX1_init_0 : decode cX1_init 0 = .ok (.aload_n 0, 1) := by decide +kernel
theorem dX1_init_1 : decode cX1_init 1 = .ok (.invokespecial 1, 3) := by decide +kernel
theorem dX1_init_4 : decode cX1_init 4 = .ok (.aload_n 0, 1) := by decide +kernel
theorem dX1_init_5 : decode cX1_init 5 = .ok (.bipush 6, 2) := by decide +kernel
theorem dX1_init_7 : decode cX1_init 7 = .ok (.anewarray 9, 3) := by decide +kernel
theorem dX1_init_10 : decode cX1_init 10 = .ok (.putfield 11, 3) := by decide +kernel
theorem dX1_init_13 : decode cX1_init 13 = .ok (.iconst 0, 1) := by decide +kernel
theorem dX1_init_14 : decode cX1_init 14 = .ok (.istore_n 1, 1) := by decide +kernel
theorem dX1_init_15 : decode cX1_init 15 = .ok (.iload_n 1, 1) := by decide +kernel
theorem dX1_init_16 : decode cX1_init 16 = .ok (.bipush 6, 2) := by decide +kernel
theorem dX1_init_18 : decode cX1_init 18 = .ok (.if_icmp .ge 22, 3) := by decide +kernel
theorem dX1_init_21 : decode cX1_init 21 = .ok (.aload_n 0, 1) := by decide +kernel
theorem dX1_init_22 : decode cX1_init 22 = .ok (.getfield 11, 3) := by decide +kernel
theorem dX1_init_25 : decode cX1_init 25 = .ok (.iload_n 1, 1) := by decide +kernel
theorem dX1_init_26 : decode cX1_init 26 = .ok (.new 9, 3) := by decide +kernel
theorem dX1_init_29 : decode cX1_init 29 = .ok (.dup, 1) := by decide +kernel
theorem dX1_init_30 : decode cX1_init 30 = .ok (.invokespecial 15, 3) := by decide +kernel
theorem dX1_init_33 : decode cX1_init 33 = .ok (.aastore, 1) := by decide +kernel
theorem dX1_init_34 : decode cX1_init 34 = .ok (.iinc 1 1, 3) := by decide +kernel
theorem dX1_init_37 : decode cX1_init 37 = .ok (.goto (-22), 3) := by decide +kernel
theorem dX1_init_40 : decode cX1_init 40 = .ok (.return_, 1) := by decide +kernel
theorem dX1_size_0 : decode cX1_size 0 = .ok (.aload_n 0, 1) := by decide +kernel
theorem dX1_size_1 : decode cX1_size 1 = .ok (.getfield 16, 3) := by decide +kernel
theorem dX1_size_4 : decode cX1_size 4 = .ok (.ireturn, 1) := by decide +kernel
set_option maxRecDepth 20000 in
theorem ggX1_keep_X4_copyFrom : GoodIn wsX1_keep wsX4_copyFrom := goodIn_r _ [8, 9, 10, 11, 12, 13, 14, 15, 16, 17, 18, 19, 20, 21, 22, 23, 24, 25, 26, 27, 28, 29, 30, 31, 32, 33, 37, 38, 39, 40, 41, 42, 43, 44, 45] (by decide +kernel) (by decide +kernel)
set_option maxRecDepth 20000 in
theorem gX1_keep_X4_copyFrom : GoodIn wsX1_keep (wsV RX1 23 RX4 yX4_copyFrom wsX4_copyFrom) := goodIn_app (goodIn_of _ (by decide +kernel)) ggX1_keep_X4_copyFrom
theorem dX1_keep_0 : decode cX1_keep 0 = .ok (.aload_n 0, 1) := by decide +kernel
theorem dX1_keep_1 : decode cX1_keep 1 = .ok (.getfield 11, 3) := by decide +kernel
theorem dX1_keep_4 : decode cX1_keep 4 = .ok (.aload_n 0, 1) := by decide +kernel
theorem dX1_keep_5 : decode cX1_keep 5 = .ok (.getfield 20, 3) := by decide +kernel
theorem dX1_keep_8 : decode cX1_keep 8 = .ok (.aload_n 0, 1) := by decide +kernel
theorem dX1_keep_9 : decode cX1_keep 9 = .ok (.getfield 16, 3) := by decide +kernel
theorem dX1_keep_12 : decode cX1_keep 12 = .ok (.iadd, 1) := by decide +kernel
theorem dX1_keep_13 : decode cX1_keep 13 = .ok (.bipush 6, 2) := by decide +kernel
theorem dX1_keep_15 : decode cX1_keep 15 = .ok (.irem, 1) := by decide +kernel
theorem dX1_keep_16 : decode cX1_keep 16 = .ok (.aaload, 1) := by decide +kernel
theorem dX1_keep_17 : decode cX1_keep 17 = .ok (.aload_n 1, 1) := by decide +kernel
theorem dX1_keep_18 : decode cX1_keep 18 = .ok (.invokevirtual 23, 3) := by decide +kernel
theorem dX1_keep_21 : decode cX1_keep 21 = .ok (.aload_n 0, 1) := by decide +kernel
theorem dX1_keep_22 : decode cX1_keep 22 = .ok (.getfield 16, 3) := by decide +kernel
theorem dX1_keep_25 : decode cX1_keep 25 = .ok (.bipush 6, 2) := by decide +kernel
theorem dX1_keep_27 : decode cX1_keep 27 = .ok (.if_icmp .ge 16, 3) := by decide +kernel
theorem dX1_keep_30 : decode cX1_keep 30 = .ok (.aload_n 0, 1) := by decide +kernel
theorem dX1_keep_31 : decode cX1_keep 31 = .ok (.dup, 1) := by decide +kernel
theorem dX1_keep_32 : decode cX1_keep 32 = .ok (.getfield 16, 3) := by decide +kernel
theorem dX1_keep_35 : decode cX1_keep 35 = .ok (.iconst 1, 1) := by decide +kernel
theorem dX1_keep_36 : decode cX1_keep 36 = .ok (.iadd, 1) := by decide +kernel
theorem dX1_keep_37 : decode cX1_keep 37 = .ok (.putfield 16, 3) := by decide +kernel
theorem dX1_keep_40 : decode cX1_keep 40 = .ok (.goto 16, 3) := by decide +kernel
theorem dX1_keep_43 : decode cX1_keep 43 = .ok (.aload_n 0, 1) := by decide +kernel
theorem dX1_keep_44 : decode cX1_keep 44 = .ok (.aload_n 0, 1) := by decide +kernel
theorem dX1_keep_45 : decode cX1_keep 45 = .ok (.getfield 20, 3) := by decide +kernel
theorem dX1_keep_48 : decode cX1_keep 48 = .ok (.iconst 1, 1) := by decide +kernel
theorem dX1_keep_49 : decode cX1_keep 49 = .ok (.iadd, 1) := by decide +kernel
theorem dX1_keep_50 : decode cX1_keep 50 = .ok (.bipush 6, 2) := by decide +kernel
theorem dX1_keep_52 : decode cX1_keep 52 = .ok (.irem, 1) := by decide +kernel
theorem dX1_keep_53 : decode cX1_keep 53 = .ok (.putfield 20, 3) := by decide +kernel
theorem dX1_keep_56 : decode cX1_keep 56 = .ok (.return_, 1) := by decide +kernel
set_option maxRecDepth 20000 in
theorem ggX1_giveBack_X4_copyFrom : GoodIn wsX1_giveBack wsX4_copyFrom := goodIn_r _ [8, 9, 10, 11, 12, 13, 14, 15, 16, 17, 18, 19, 20, 21, 22, 23, 24, 25, 26, 27, 28, 29, 30, 31, 32, 33, 37, 38, 39, 40, 41, 42, 43, 44, 45] (by decide +kernel) (by decide +kernel)
set_option maxRecDepth 20000 in
theorem gX1_giveBack_X4_copyFrom : GoodIn wsX1_giveBack (wsV RX1 23 RX4 yX4_copyFrom wsX4_copyFrom) := goodIn_app (goodIn_of _ (by decide +kernel)) ggX1_giveBack_X4_copyFrom
theorem dX1_giveBack_0 : decode cX1_giveBack 0 = .ok (.aload_n 0, 1) := by decide +kernel
theorem dX1_giveBack_1 : decode cX1_giveBack 1 = .ok (.dup, 1) := by decide +kernel
theorem dX1_giveBack_2 : decode cX1_giveBack 2 = .ok (.getfield 16, 3) := by decide +kernel
theorem dX1_giveBack_5 : decode cX1_giveBack 5 = .ok (.iconst 1, 1) := by decide +kernel
theorem dX1_giveBack_6 : decode cX1_giveBack 6 = .ok (.isub, 1) := by decide +kernel
theorem dX1_giveBack_7 : decode cX1_giveBack 7 = .ok (.putfield 16, 3) := by decide +kernel
theorem dX1_giveBack_10 : decode cX1_giveBack 10 = .ok (.aload_n 1, 1) := by decide +kernel
theorem dX1_giveBack_11 : decode cX1_giveBack 11 = .ok (.aload_n 0, 1) := by decide +kernel
theorem dX1_giveBack_12 : decode cX1_giveBack 12 = .ok (.getfield 11, 3) := by decide +kernel
theorem dX1_giveBack_15 : decode cX1_giveBack 15 = .ok (.aload_n 0, 1) := by decide +kernel
theorem dX1_giveBack_16 : decode cX1_giveBack 16 = .ok (.getfield 20, 3) := by decide +kernel
theorem dX1_giveBack_19 : decode cX1_giveBack 19 = .ok (.aload_n 0, 1) := by decide +kernel
theorem dX1_giveBack_20 : decode cX1_giveBack 20 = .ok (.getfield 16, 3) := by decide +kernel
theorem dX1_giveBack_23 : decode cX1_giveBack 23 = .ok (.iadd, 1) := by decide +kernel
theorem dX1_giveBack_24 : decode cX1_giveBack 24 = .ok (.bipush 6, 2) := by decide +kernel
theorem dX1_giveBack_26 : decode cX1_giveBack 26 = .ok (.irem, 1) := by decide +kernel
theorem dX1_giveBack_27 : decode cX1_giveBack 27 = .ok (.aaload, 1) := by decide +kernel
theorem dX1_giveBack_28 : decode cX1_giveBack 28 = .ok (.invokevirtual 23, 3) := by decide +kernel
theorem dX1_giveBack_31 : decode cX1_giveBack 31 = .ok (.return_, 1) := by decide +kernel
theorem dX2_init_0 : decode cX2_init 0 = .ok (.aload_n 0, 1) := by decide +kernel
theorem dX2_init_1 : decode cX2_init 1 = .ok (.invokespecial 3, 3) := by decide +kernel
theorem dX2_init_4 : decode cX2_init 4 = .ok (.aload_n 0, 1) := by decide +kernel
theorem dX2_init_5 : decode cX2_init 5 = .ok (.bipush 48, 2) := by decide +kernel
theorem dX2_init_7 : decode cX2_init 7 = .ok (.newarray .int, 2) := by decide +kernel
theorem dX2_init_9 : decode cX2_init 9 = .ok (.putfield 9, 3) := by decide +kernel
theorem dX2_init_12 : decode cX2_init 12 = .ok (.return_, 1) := by decide +kernel
theorem dX2_copyFrom_0 : decode cX2_copyFrom 0 = .ok (.aload_n 1, 1) := by decide +kernel
theorem dX2_copyFrom_1 : decode cX2_copyFrom 1 = .ok (.getfield 9, 3) := by decide +kernel
theorem dX2_copyFrom_4 : decode cX2_copyFrom 4 = .ok (.iconst 0, 1) := by decide +kernel
theorem dX2_copyFrom_5 : decode cX2_copyFrom 5 = .ok (.aload_n 0, 1) := by decide +kernel
theorem dX2_copyFrom_6 : decode cX2_copyFrom 6 = .ok (.getfield 9, 3) := by decide +kernel
theorem dX2_copyFrom_9 : decode cX2_copyFrom 9 = .ok (.iconst 0, 1) := by decide +kernel
theorem dX2_copyFrom_10 : decode cX2_copyFrom 10 = .ok (.aload_n 0, 1) := by decide +kernel
theorem dX2_copyFrom_11 : decode cX2_copyFrom 11 = .ok (.getfield 9, 3) := by decide +kernel
theorem dX2_copyFrom_14 : decode cX2_copyFrom 14 = .ok (.arraylength, 1) := by decide +kernel
theorem dX2_copyFrom_15 : decode cX2_copyFrom 15 = .ok (.invokestatic 15, 3) := by decide +kernel
theorem dX2_copyFrom_18 : decode cX2_copyFrom 18 = .ok (.return_, 1) := by decide +kernel
theorem dX2_empty_0 : decode cX2_empty 0 = .ok (.iconst 0, 1) := by decide +kernel
theorem dX2_empty_1 : decode cX2_empty 1 = .ok (.istore_n 1, 1) := by decide +kernel
theorem dX2_empty_2 : decode cX2_empty 2 = .ok (.iload_n 1, 1) := by decide +kernel
theorem dX2_empty_3 : decode cX2_empty 3 = .ok (.aload_n 0, 1) := by decide +kernel
theorem dX2_empty_4 : decode cX2_empty 4 = .ok (.getfield 9, 3) := by decide +kernel
theorem dX2_empty_7 : decode cX2_empty 7 = .ok (.arraylength, 1) := by decide +kernel
theorem dX2_empty_8 : decode cX2_empty 8 = .ok (.if_icmp .ge 16, 3) := by decide +kernel
theorem dX2_empty_11 : decode cX2_empty 11 = .ok (.aload_n 0, 1) := by decide +kernel
theorem dX2_empty_12 : decode cX2_empty 12 = .ok (.getfield 9, 3) := by decide +kernel
theorem dX2_empty_15 : decode cX2_empty 15 = .ok (.iload_n 1, 1) := by decide +kernel
theorem dX2_empty_16 : decode cX2_empty 16 = .ok (.iconst 0, 1) := by decide +kernel
theorem dX2_empty_17 : decode cX2_empty 17 = .ok (.iastore, 1) := by decide +kernel
theorem dX2_empty_18 : decode cX2_empty 18 = .ok (.iinc 1 1, 3) := by decide +kernel
theorem dX2_empty_21 : decode cX2_empty 21 = .ok (.goto (-19), 3) := by decide +kernel
theorem dX2_empty_24 : decode cX2_empty 24 = .ok (.return_, 1) := by decide +kernel
theorem dX2_many_0 : decode cX2_many 0 = .ok (.aload_n 0, 1) := by decide +kernel
theorem dX2_many_1 : decode cX2_many 1 = .ok (.getfield 9, 3) := by decide +kernel
theorem dX2_many_4 : decode cX2_many 4 = .ok (.iload_n 1, 1) := by decide +kernel
theorem dX2_many_5 : decode cX2_many 5 = .ok (.iconst 4, 1) := by decide +kernel
theorem dX2_many_6 : decode cX2_many 6 = .ok (.imul, 1) := by decide +kernel
theorem dX2_many_7 : decode cX2_many 7 = .ok (.iload_n 2, 1) := by decide +kernel
theorem dX2_many_8 : decode cX2_many 8 = .ok (.iadd, 1) := by decide +kernel
theorem dX2_many_9 : decode cX2_many 9 = .ok (.iaload, 1) := by decide +kernel
theorem dX2_many_10 : decode cX2_many 10 = .ok (.ireturn, 1) := by decide +kernel
theorem dX2_put_0 : decode cX2_put 0 = .ok (.aload_n 0, 1) := by decide +kernel
theorem dX2_put_1 : decode cX2_put 1 = .ok (.getfield 9, 3) := by decide +kernel
theorem dX2_put_4 : decode cX2_put 4 = .ok (.iload_n 1, 1) := by decide +kernel
theorem dX2_put_5 : decode cX2_put 5 = .ok (.iconst 4, 1) := by decide +kernel
theorem dX2_put_6 : decode cX2_put 6 = .ok (.imul, 1) := by decide +kernel
theorem dX2_put_7 : decode cX2_put 7 = .ok (.iload_n 2, 1) := by decide +kernel
theorem dX2_put_8 : decode cX2_put 8 = .ok (.iadd, 1) := by decide +kernel
theorem dX2_put_9 : decode cX2_put 9 = .ok (.dup2, 1) := by decide +kernel
theorem dX2_put_10 : decode cX2_put 10 = .ok (.iaload, 1) := by decide +kernel
theorem dX2_put_11 : decode cX2_put 11 = .ok (.iload_n 3, 1) := by decide +kernel
theorem dX2_put_12 : decode cX2_put 12 = .ok (.iadd, 1) := by decide +kernel
theorem dX2_put_13 : decode cX2_put 13 = .ok (.iastore, 1) := by decide +kernel
theorem dX2_put_14 : decode cX2_put 14 = .ok (.return_, 1) := by decide +kernel
set_option maxRecDepth 20000 in
theorem ggX2_allIn_X2_many : GoodIn wsX2_allIn wsX2_many := goodIn_r _ [5, 6, 7] (by decide +kernel) (by decide +kernel)
set_option maxRecDepth 20000 in
theorem gX2_allIn_X2_many : GoodIn wsX2_allIn (wsV RX2 21 RX2 yX2_many wsX2_many) := goodIn_app (goodIn_of _ (by decide +kernel)) ggX2_allIn_X2_many
theorem dX2_allIn_0 : decode cX2_allIn 0 = .ok (.iconst 0, 1) := by decide +kernel
theorem dX2_allIn_1 : decode cX2_allIn 1 = .ok (.istore_n 2, 1) := by decide +kernel
theorem dX2_allIn_2 : decode cX2_allIn 2 = .ok (.iconst 0, 1) := by decide +kernel
theorem dX2_allIn_3 : decode cX2_allIn 3 = .ok (.istore_n 3, 1) := by decide +kernel
theorem dX2_allIn_4 : decode cX2_allIn 4 = .ok (.iload_n 3, 1) := by decide +kernel
theorem dX2_allIn_5 : decode cX2_allIn 5 = .ok (.iconst 4, 1) := by decide +kernel
theorem dX2_allIn_6 : decode cX2_allIn 6 = .ok (.if_icmp .ge 18, 3) := by decide +kernel
theorem dX2_allIn_9 : decode cX2_allIn 9 = .ok (.iload_n 2, 1) := by decide +kernel
theorem dX2_allIn_10 : decode cX2_allIn 10 = .ok (.aload_n 0, 1) := by decide +kernel
theorem dX2_allIn_11 : decode cX2_allIn 11 = .ok (.iload_n 1, 1) := by decide +kernel
theorem dX2_allIn_12 : decode cX2_allIn 12 = .ok (.iload_n 3, 1) := by decide +kernel
theorem dX2_allIn_13 : decode cX2_allIn 13 = .ok (.invokevirtual 21, 3) := by decide +kernel
theorem dX2_allIn_16 : decode cX2_allIn 16 = .ok (.iadd, 1) := by decide +kernel
theorem dX2_allIn_17 : decode cX2_allIn 17 = .ok (.istore_n 2, 1) := by decide +kernel
theorem dX2_allIn_18 : decode cX2_allIn 18 = .ok (.iinc 3 1, 3) := by decide +kernel
theorem dX2_allIn_21 : decode cX2_allIn 21 = .ok (.goto (-17), 3) := by decide +kernel
theorem dX2_allIn_24 : decode cX2_allIn 24 = .ok (.iload_n 2, 1) := by decide +kernel
theorem dX2_allIn_25 : decode cX2_allIn 25 = .ok (.ireturn, 1) := by decide +kernel
set_option maxRecDepth 20000 in
theorem ggX2_allOf_X2_many : GoodIn wsX2_allOf wsX2_many := goodIn_r _ [5, 6, 7] (by decide +kernel) (by decide +kernel)
set_option maxRecDepth 20000 in
theorem gX2_allOf_X2_many : GoodIn wsX2_allOf (wsV RX2 21 RX2 yX2_many wsX2_many) := goodIn_app (goodIn_of _ (by decide +kernel)) ggX2_allOf_X2_many
theorem dX2_allOf_0 : decode cX2_allOf 0 = .ok (.iconst 0, 1) := by decide +kernel
theorem dX2_allOf_1 : decode cX2_allOf 1 = .ok (.istore_n 2, 1) := by decide +kernel
theorem dX2_allOf_2 : decode cX2_allOf 2 = .ok (.iconst 0, 1) := by decide +kernel
theorem dX2_allOf_3 : decode cX2_allOf 3 = .ok (.istore_n 3, 1) := by decide +kernel
theorem dX2_allOf_4 : decode cX2_allOf 4 = .ok (.iload_n 3, 1) := by decide +kernel
theorem dX2_allOf_5 : decode cX2_allOf 5 = .ok (.bipush 12, 2) := by decide +kernel
theorem dX2_allOf_7 : decode cX2_allOf 7 = .ok (.if_icmp .ge 18, 3) := by decide +kernel
theorem dX2_allOf_10 : decode cX2_allOf 10 = .ok (.iload_n 2, 1) := by decide +kernel
theorem dX2_allOf_11 : decode cX2_allOf 11 = .ok (.aload_n 0, 1) := by decide +kernel
theorem dX2_allOf_12 : decode cX2_allOf 12 = .ok (.iload_n 3, 1) := by decide +kernel
theorem dX2_allOf_13 : decode cX2_allOf 13 = .ok (.iload_n 1, 1) := by decide +kernel
theorem dX2_allOf_14 : decode cX2_allOf 14 = .ok (.invokevirtual 21, 3) := by decide +kernel
theorem dX2_allOf_17 : decode cX2_allOf 17 = .ok (.iadd, 1) := by decide +kernel
theorem dX2_allOf_18 : decode cX2_allOf 18 = .ok (.istore_n 2, 1) := by decide +kernel
theorem dX2_allOf_19 : decode cX2_allOf 19 = .ok (.iinc 3 1, 3) := by decide +kernel
theorem dX2_allOf_22 : decode cX2_allOf 22 = .ok (.goto (-18), 3) := by decide +kernel
theorem dX2_allOf_25 : decode cX2_allOf 25 = .ok (.iload_n 2, 1) := by decide +kernel
theorem dX2_allOf_26 : decode cX2_allOf 26 = .ok (.ireturn, 1) := by decide +kernel
set_option maxRecDepth 20000 in
theorem ggX2_allDownTo_X2_allIn : GoodIn wsX2_allDownTo wsX2_allIn := goodIn_r _ [5, 6, 7, 8, 4, 9, 10, 11] (by decide +kernel) (by decide +kernel)
set_option maxRecDepth 20000 in
theorem gX2_allDownTo_X2_allIn : GoodIn wsX2_allDownTo (wsV RX2 25 RX2 yX2_allIn wsX2_allIn) := goodIn_app (goodIn_of _ (by decide +kernel)) ggX2_allDownTo_X2_allIn
theorem dX2_allDownTo_0 : decode cX2_allDownTo 0 = .ok (.iconst 0, 1) := by decide +kernel
theorem dX2_allDownTo_1 : decode cX2_allDownTo 1 = .ok (.istore_n 2, 1) := by decide +kernel
theorem dX2_allDownTo_2 : decode cX2_allDownTo 2 = .ok (.iconst 0, 1) := by decide +kernel
theorem dX2_allDownTo_3 : decode cX2_allDownTo 3 = .ok (.istore_n 3, 1) := by decide +kernel
theorem dX2_allDownTo_4 : decode cX2_allDownTo 4 = .ok (.iload_n 3, 1) := by decide +kernel
theorem dX2_allDownTo_5 : decode cX2_allDownTo 5 = .ok (.iload_n 1, 1) := by decide +kernel
theorem dX2_allDownTo_6 : decode cX2_allDownTo 6 = .ok (.if_icmp .gt 17, 3) := by decide +kernel
theorem dX2_allDownTo_9 : decode cX2_allDownTo 9 = .ok (.iload_n 2, 1) := by decide +kernel
theorem dX2_allDownTo_10 : decode cX2_allDownTo 10 = .ok (.aload_n 0, 1) := by decide +kernel
theorem dX2_allDownTo_11 : decode cX2_allDownTo 11 = .ok (.iload_n 3, 1) := by decide +kernel
theorem dX2_allDownTo_12 : decode cX2_allDownTo 12 = .ok (.invokevirtual 25, 3) := by decide +kernel
theorem dX2_allDownTo_15 : decode cX2_allDownTo 15 = .ok (.iadd, 1) := by decide +kernel
theorem dX2_allDownTo_16 : decode cX2_allDownTo 16 = .ok (.istore_n 2, 1) := by decide +kernel
theorem dX2_allDownTo_17 : decode cX2_allDownTo 17 = .ok (.iinc 3 1, 3) := by decide +kernel
theorem dX2_allDownTo_20 : decode cX2_allDownTo 20 = .ok (.goto (-16), 3) := by decide +kernel
theorem dX2_allDownTo_23 : decode cX2_allDownTo 23 = .ok (.iload_n 2, 1) := by decide +kernel
theorem dX2_allDownTo_24 : decode cX2_allDownTo 24 = .ok (.ireturn, 1) := by decide +kernel
set_option maxRecDepth 20000 in
theorem ggX2_all_X2_allDownTo : GoodIn wsX2_all wsX2_allDownTo := goodIn_r _ [5, 6, 7, 8, 4, 9, 10, 11, 12, 13, 14, 15] (by decide +kernel) (by decide +kernel)
set_option maxRecDepth 20000 in
theorem gX2_all_X2_allDownTo : GoodIn wsX2_all (wsV RX2 29 RX2 yX2_allDownTo wsX2_allDownTo) := goodIn_app (goodIn_of _ (by decide +kernel)) ggX2_all_X2_allDownTo
theorem dX2_all_0 : decode cX2_all 0 = .ok (.aload_n 0, 1) := by decide +kernel
theorem dX2_all_1 : decode cX2_all 1 = .ok (.bipush 11, 2) := by decide +kernel
theorem dX2_all_3 : decode cX2_all 3 = .ok (.invokevirtual 29, 3) := by decide +kernel
theorem dX2_all_6 : decode cX2_all 6 = .ok (.ireturn, 1) := by decide +kernel
set_option maxRecDepth 20000 in
theorem ggX2_sumOfDepths_X2_allIn : GoodIn wsX2_sumOfDepths wsX2_allIn := goodIn_r _ [5, 6, 7, 8, 4, 9, 10, 11] (by decide +kernel) (by decide +kernel)
set_option maxRecDepth 20000 in
theorem gX2_sumOfDepths_X2_allIn : GoodIn wsX2_sumOfDepths (wsV RX2 25 RX2 yX2_allIn wsX2_allIn) := goodIn_app (goodIn_of _ (by decide +kernel)) ggX2_sumOfDepths_X2_allIn
theorem dX2_sumOfDepths_0 : decode cX2_sumOfDepths 0 = .ok (.iconst 0, 1) := by decide +kernel
theorem dX2_sumOfDepths_1 : decode cX2_sumOfDepths 1 = .ok (.istore_n 1, 1) := by decide +kernel
theorem dX2_sumOfDepths_2 : decode cX2_sumOfDepths 2 = .ok (.iconst 0, 1) := by decide +kernel
theorem dX2_sumOfDepths_3 : decode cX2_sumOfDepths 3 = .ok (.istore_n 2, 1) := by decide +kernel
theorem dX2_sumOfDepths_4 : decode cX2_sumOfDepths 4 = .ok (.iload_n 2, 1) := by decide +kernel
theorem dX2_sumOfDepths_5 : decode cX2_sumOfDepths 5 = .ok (.bipush 12, 2) := by decide +kernel
theorem dX2_sumOfDepths_7 : decode cX2_sumOfDepths 7 = .ok (.if_icmp .ge 19, 3) := by decide +kernel
theorem dX2_sumOfDepths_10 : decode cX2_sumOfDepths 10 = .ok (.iload_n 1, 1) := by decide +kernel
theorem dX2_sumOfDepths_11 : decode cX2_sumOfDepths 11 = .ok (.iload_n 2, 1) := by decide +kernel
theorem dX2_sumOfDepths_12 : decode cX2_sumOfDepths 12 = .ok (.aload_n 0, 1) := by decide +kernel
theorem dX2_sumOfDepths_13 : decode cX2_sumOfDepths 13 = .ok (.iload_n 2, 1) := by decide +kernel
theorem dX2_sumOfDepths_14 : decode cX2_sumOfDepths 14 = .ok (.invokevirtual 25, 3) := by decide +kernel
theorem dX2_sumOfDepths_17 : decode cX2_sumOfDepths 17 = .ok (.imul, 1) := by decide +kernel
theorem dX2_sumOfDepths_18 : decode cX2_sumOfDepths 18 = .ok (.iadd, 1) := by decide +kernel
theorem dX2_sumOfDepths_19 : decode cX2_sumOfDepths 19 = .ok (.istore_n 1, 1) := by decide +kernel
theorem dX2_sumOfDepths_20 : decode cX2_sumOfDepths 20 = .ok (.iinc 2 1, 3) := by decide +kernel
theorem dX2_sumOfDepths_23 : decode cX2_sumOfDepths 23 = .ok (.goto (-19), 3) := by decide +kernel
theorem dX2_sumOfDepths_26 : decode cX2_sumOfDepths 26 = .ok (.iload_n 1, 1) := by decide +kernel
theorem dX2_sumOfDepths_27 : decode cX2_sumOfDepths 27 = .ok (.ireturn, 1) := by decide +kernel
set_option maxRecDepth 20000 in
theorem ggX2_spread_X2_many : GoodIn wsX2_spread wsX2_many := goodIn_r _ [5, 6, 11] (by decide +kernel) (by decide +kernel)
set_option maxRecDepth 20000 in
theorem gX2_spread_X2_many : GoodIn wsX2_spread (wsV RX2 21 RX2 yX2_many wsX2_many) := goodIn_app (goodIn_of _ (by decide +kernel)) ggX2_spread_X2_many
set_option maxRecDepth 20000 in
theorem ggX2_spread_X2_put : GoodIn wsX2_spread wsX2_put := goodIn_r _ [10, 6, 11] (by decide +kernel) (by decide +kernel)
set_option maxRecDepth 20000 in
theorem gX2_spread_X2_put : GoodIn wsX2_spread (wsV RX2 32 RX2 yX2_put wsX2_put) := goodIn_app (goodIn_of _ (by decide +kernel)) ggX2_spread_X2_put
theorem dX2_spread_0 : decode cX2_spread 0 = .ok (.iconst 0, 1) := by decide +kernel
theorem dX2_spread_1 : decode cX2_spread 1 = .ok (.istore 4, 2) := by decide +kernel
theorem dX2_spread_3 : decode cX2_spread 3 = .ok (.iload_n 1, 1) := by decide +kernel
theorem dX2_spread_4 : decode cX2_spread 4 = .ok (.istore 5, 2) := by decide +kernel
theorem dX2_spread_6 : decode cX2_spread 6 = .ok (.iload 5, 2) := by decide +kernel
theorem dX2_spread_8 : decode cX2_spread 8 = .ok (.iload_n 2, 1) := by decide +kernel
theorem dX2_spread_9 : decode cX2_spread 9 = .ok (.if_icmp .gt 21, 3) := by decide +kernel
theorem dX2_spread_12 : decode cX2_spread 12 = .ok (.iload 4, 2) := by decide +kernel
theorem dX2_spread_14 : decode cX2_spread 14 = .ok (.aload_n 0, 1) := by decide +kernel
theorem dX2_spread_15 : decode cX2_spread 15 = .ok (.iload 5, 2) := by decide +kernel
theorem dX2_spread_17 : decode cX2_spread 17 = .ok (.iload_n 3, 1) := by decide +kernel
theorem dX2_spread_18 : decode cX2_spread 18 = .ok (.invokevirtual 21, 3) := by decide +kernel
theorem dX2_spread_21 : decode cX2_spread 21 = .ok (.iadd, 1) := by decide +kernel
theorem dX2_spread_22 : decode cX2_spread 22 = .ok (.istore 4, 2) := by decide +kernel
theorem dX2_spread_24 : decode cX2_spread 24 = .ok (.iinc 5 1, 3) := by decide +kernel
theorem dX2_spread_27 : decode cX2_spread 27 = .ok (.goto (-21), 3) := by decide +kernel
theorem dX2_spread_30 : decode cX2_spread 30 = .ok (.iload 4, 2) := by decide +kernel
theorem dX2_spread_32 : decode cX2_spread 32 = .ok (.istore 5, 2) := by decide +kernel
theorem dX2_spread_34 : decode cX2_spread 34 = .ok (.iload_n 1, 1) := by decide +kernel
theorem dX2_spread_35 : decode cX2_spread 35 = .ok (.istore 6, 2) := by decide +kernel
theorem dX2_spread_37 : decode cX2_spread 37 = .ok (.iload 6, 2) := by decide +kernel
theorem dX2_spread_39 : decode cX2_spread 39 = .ok (.iload_n 2, 1) := by decide +kernel
theorem dX2_spread_40 : decode cX2_spread 40 = .ok (.if_icmp .gt 51, 3) := by decide +kernel
theorem dX2_spread_43 : decode cX2_spread 43 = .ok (.iload_n 2, 1) := by decide +kernel
theorem dX2_spread_44 : decode cX2_spread 44 = .ok (.iload 6, 2) := by decide +kernel
theorem dX2_spread_46 : decode cX2_spread 46 = .ok (.isub, 1) := by decide +kernel
theorem dX2_spread_47 : decode cX2_spread 47 = .ok (.istore 7, 2) := by decide +kernel
theorem dX2_spread_49 : decode cX2_spread 49 = .ok (.iload 5, 2) := by decide +kernel
theorem dX2_spread_51 : decode cX2_spread 51 = .ok (.iload 7, 2) := by decide +kernel
theorem dX2_spread_53 : decode cX2_spread 53 = .ok (.iadd, 1) := by decide +kernel
theorem dX2_spread_54 : decode cX2_spread 54 = .ok (.iload 7, 2) := by decide +kernel
theorem dX2_spread_56 : decode cX2_spread 56 = .ok (.iconst 1, 1) := by decide +kernel
theorem dX2_spread_57 : decode cX2_spread 57 = .ok (.iadd, 1) := by decide +kernel
theorem dX2_spread_58 : decode cX2_spread 58 = .ok (.idiv, 1) := by decide +kernel
theorem dX2_spread_59 : decode cX2_spread 59 = .ok (.istore 8, 2) := by decide +kernel
theorem dX2_spread_61 : decode cX2_spread 61 = .ok (.aload_n 0, 1) := by decide +kernel
theorem dX2_spread_62 : decode cX2_spread 62 = .ok (.iload 6, 2) := by decide +kernel
theorem dX2_spread_64 : decode cX2_spread 64 = .ok (.iload_n 3, 1) := by decide +kernel
theorem dX2_spread_65 : decode cX2_spread 65 = .ok (.iload 8, 2) := by decide +kernel
theorem dX2_spread_67 : decode cX2_spread 67 = .ok (.aload_n 0, 1) := by decide +kernel
theorem dX2_spread_68 : decode cX2_spread 68 = .ok (.iload 6, 2) := by decide +kernel
theorem dX2_spread_70 : decode cX2_spread 70 = .ok (.iload_n 3, 1) := by decide +kernel
theorem dX2_spread_71 : decode cX2_spread 71 = .ok (.invokevirtual 21, 3) := by decide +kernel
theorem dX2_spread_74 : decode cX2_spread 74 = .ok (.isub, 1) := by decide +kernel
theorem dX2_spread_75 : decode cX2_spread 75 = .ok (.invokevirtual 32, 3) := by decide +kernel
theorem dX2_spread_78 : decode cX2_spread 78 = .ok (.iload 5, 2) := by decide +kernel
theorem dX2_spread_80 : decode cX2_spread 80 = .ok (.iload 8, 2) := by decide +kernel
theorem dX2_spread_82 : decode cX2_spread 82 = .ok (.isub, 1) := by decide +kernel
theorem dX2_spread_83 : decode cX2_spread 83 = .ok (.istore 5, 2) := by decide +kernel
theorem dX2_spread_85 : decode cX2_spread 85 = .ok (.iinc 6 1, 3) := by decide +kernel
theorem dX2_spread_88 : decode cX2_spread 88 = .ok (.goto (-51), 3) := by decide +kernel
theorem dX2_spread_91 : decode cX2_spread 91 = .ok (.iload 4, 2) := by decide +kernel
theorem dX2_spread_93 : decode cX2_spread 93 = .ok (.ireturn, 1) := by decide +kernel
set_option maxRecDepth 20000 in
theorem ggX2_pourInto_X2_many : GoodIn wsX2_pourInto wsX2_many := goodIn_r _ [5, 6, 11] (by decide +kernel) (by decide +kernel)
set_option maxRecDepth 20000 in
theorem gX2_pourInto_X2_many : GoodIn wsX2_pourInto (wsV RX2 21 RX2 yX2_many wsX2_many) := goodIn_app (goodIn_of _ (by decide +kernel)) ggX2_pourInto_X2_many
set_option maxRecDepth 20000 in
theorem ggX2_pourInto_X2_put : GoodIn wsX2_pourInto wsX2_put := goodIn_r _ [10, 6, 11] (by decide +kernel) (by decide +kernel)
set_option maxRecDepth 20000 in
theorem gX2_pourInto_X2_put : GoodIn wsX2_pourInto (wsV RX2 32 RX2 yX2_put wsX2_put) := goodIn_app (goodIn_of _ (by decide +kernel)) ggX2_pourInto_X2_put
theorem dX2_pourInto_0 : decode cX2_pourInto 0 = .ok (.iconst 0, 1) := by decide +kernel
theorem dX2_pourInto_1 : decode cX2_pourInto 1 = .ok (.istore_n 3, 1) := by decide +kernel
theorem dX2_pourInto_2 : decode cX2_pourInto 2 = .ok (.iload_n 3, 1) := by decide +kernel
theorem dX2_pourInto_3 : decode cX2_pourInto 3 = .ok (.iload_n 2, 1) := by decide +kernel
theorem dX2_pourInto_4 : decode cX2_pourInto 4 = .ok (.if_icmp .gt 52, 3) := by decide +kernel
theorem dX2_pourInto_7 : decode cX2_pourInto 7 = .ok (.iconst 0, 1) := by decide +kernel
theorem dX2_pourInto_8 : decode cX2_pourInto 8 = .ok (.istore 4, 2) := by decide +kernel
theorem dX2_pourInto_10 : decode cX2_pourInto 10 = .ok (.iload 4, 2) := by decide +kernel
theorem dX2_pourInto_12 : decode cX2_pourInto 12 = .ok (.iconst 4, 1) := by decide +kernel
theorem dX2_pourInto_13 : decode cX2_pourInto 13 = .ok (.if_icmp .ge 37, 3) := by decide +kernel
theorem dX2_pourInto_16 : decode cX2_pourInto 16 = .ok (.aload_n 0, 1) := by decide +kernel
theorem dX2_pourInto_17 : decode cX2_pourInto 17 = .ok (.iload_n 3, 1) := by decide +kernel
theorem dX2_pourInto_18 : decode cX2_pourInto 18 = .ok (.iload 4, 2) := by decide +kernel
theorem dX2_pourInto_20 : decode cX2_pourInto 20 = .ok (.invokevirtual 21, 3) := by decide +kernel
theorem dX2_pourInto_23 : decode cX2_pourInto 23 = .ok (.istore 5, 2) := by decide +kernel
theorem dX2_pourInto_25 : decode cX2_pourInto 25 = .ok (.aload_n 1, 1) := by decide +kernel
theorem dX2_pourInto_26 : decode cX2_pourInto 26 = .ok (.iload_n 3, 1) := by decide +kernel
theorem dX2_pourInto_27 : decode cX2_pourInto 27 = .ok (.iload 4, 2) := by decide +kernel
theorem dX2_pourInto_29 : decode cX2_pourInto 29 = .ok (.iload 5, 2) := by decide +kernel
theorem dX2_pourInto_31 : decode cX2_pourInto 31 = .ok (.invokevirtual 32, 3) := by decide +kernel
theorem dX2_pourInto_34 : decode cX2_pourInto 34 = .ok (.aload_n 0, 1) := by decide +kernel
theorem dX2_pourInto_35 : decode cX2_pourInto 35 = .ok (.iload_n 3, 1) := by decide +kernel
theorem dX2_pourInto_36 : decode cX2_pourInto 36 = .ok (.iload 4, 2) := by decide +kernel
theorem dX2_pourInto_38 : decode cX2_pourInto 38 = .ok (.iload 5, 2) := by decide +kernel
theorem dX2_pourInto_40 : decode cX2_pourInto 40 = .ok (.ineg, 1) := by decide +kernel
theorem dX2_pourInto_41 : decode cX2_pourInto 41 = .ok (.invokevirtual 32, 3) := by decide +kernel
theorem dX2_pourInto_44 : decode cX2_pourInto 44 = .ok (.iinc 4 1, 3) := by decide +kernel
theorem dX2_pourInto_47 : decode cX2_pourInto 47 = .ok (.goto (-37), 3) := by decide +kernel
theorem dX2_pourInto_50 : decode cX2_pourInto 50 = .ok (.iinc 3 1, 3) := by decide +kernel
theorem dX2_pourInto_53 : decode cX2_pourInto 53 = .ok (.goto (-51), 3) := by decide +kernel
theorem dX2_pourInto_56 : decode cX2_pourInto 56 = .ok (.return_, 1) := by decide +kernel
set_option maxRecDepth 20000 in
theorem ggX2_turnOver_X2_many : GoodIn wsX2_turnOver wsX2_many := goodIn_r _ [5, 6, 11] (by decide +kernel) (by decide +kernel)
set_option maxRecDepth 20000 in
theorem gX2_turnOver_X2_many : GoodIn wsX2_turnOver (wsV RX2 21 RX2 yX2_many wsX2_many) := goodIn_app (goodIn_of _ (by decide +kernel)) ggX2_turnOver_X2_many
set_option maxRecDepth 20000 in
theorem ggX2_turnOver_X2_put : GoodIn wsX2_turnOver wsX2_put := goodIn_r _ [10, 6, 11] (by decide +kernel) (by decide +kernel)
set_option maxRecDepth 20000 in
theorem gX2_turnOver_X2_put : GoodIn wsX2_turnOver (wsV RX2 32 RX2 yX2_put wsX2_put) := goodIn_app (goodIn_of _ (by decide +kernel)) ggX2_turnOver_X2_put
theorem dX2_turnOver_0 : decode cX2_turnOver 0 = .ok (.iconst 0, 1) := by decide +kernel
theorem dX2_turnOver_1 : decode cX2_turnOver 1 = .ok (.istore_n 1, 1) := by decide +kernel
theorem dX2_turnOver_2 : decode cX2_turnOver 2 = .ok (.iload_n 1, 1) := by decide +kernel
theorem dX2_turnOver_3 : decode cX2_turnOver 3 = .ok (.bipush 11, 2) := by decide +kernel
theorem dX2_turnOver_5 : decode cX2_turnOver 5 = .ok (.iload_n 1, 1) := by decide +kernel
theorem dX2_turnOver_6 : decode cX2_turnOver 6 = .ok (.isub, 1) := by decide +kernel
theorem dX2_turnOver_7 : decode cX2_turnOver 7 = .ok (.if_icmp .ge 57, 3) := by decide +kernel
theorem dX2_turnOver_10 : decode cX2_turnOver 10 = .ok (.iconst 0, 1) := by decide +kernel
theorem dX2_turnOver_11 : decode cX2_turnOver 11 = .ok (.istore_n 2, 1) := by decide +kernel
theorem dX2_turnOver_12 : decode cX2_turnOver 12 = .ok (.iload_n 2, 1) := by decide +kernel
theorem dX2_turnOver_13 : decode cX2_turnOver 13 = .ok (.iconst 4, 1) := by decide +kernel
theorem dX2_turnOver_14 : decode cX2_turnOver 14 = .ok (.if_icmp .ge 44, 3) := by decide +kernel
theorem dX2_turnOver_17 : decode cX2_turnOver 17 = .ok (.aload_n 0, 1) := by decide +kernel
theorem dX2_turnOver_18 : decode cX2_turnOver 18 = .ok (.bipush 11, 2) := by decide +kernel
theorem dX2_turnOver_20 : decode cX2_turnOver 20 = .ok (.iload_n 1, 1) := by decide +kernel
theorem dX2_turnOver_21 : decode cX2_turnOver 21 = .ok (.isub, 1) := by decide +kernel
theorem dX2_turnOver_22 : decode cX2_turnOver 22 = .ok (.iload_n 2, 1) := by decide +kernel
theorem dX2_turnOver_23 : decode cX2_turnOver 23 = .ok (.invokevirtual 21, 3) := by decide +kernel
theorem dX2_turnOver_26 : decode cX2_turnOver 26 = .ok (.aload_n 0, 1) := by decide +kernel
theorem dX2_turnOver_27 : decode cX2_turnOver 27 = .ok (.iload_n 1, 1) := by decide +kernel
theorem dX2_turnOver_28 : decode cX2_turnOver 28 = .ok (.iload_n 2, 1) := by decide +kernel
theorem dX2_turnOver_29 : decode cX2_turnOver 29 = .ok (.invokevirtual 21, 3) := by decide +kernel
theorem dX2_turnOver_32 : decode cX2_turnOver 32 = .ok (.isub, 1) := by decide +kernel
theorem dX2_turnOver_33 : decode cX2_turnOver 33 = .ok (.istore_n 3, 1) := by decide +kernel
theorem dX2_turnOver_34 : decode cX2_turnOver 34 = .ok (.aload_n 0, 1) := by decide +kernel
theorem dX2_turnOver_35 : decode cX2_turnOver 35 = .ok (.iload_n 1, 1) := by decide +kernel
theorem dX2_turnOver_36 : decode cX2_turnOver 36 = .ok (.iload_n 2, 1) := by decide +kernel
theorem dX2_turnOver_37 : decode cX2_turnOver 37 = .ok (.iload_n 3, 1) := by decide +kernel
theorem dX2_turnOver_38 : decode cX2_turnOver 38 = .ok (.invokevirtual 32, 3) := by decide +kernel
theorem dX2_turnOver_41 : decode cX2_turnOver 41 = .ok (.aload_n 0, 1) := by decide +kernel
theorem dX2_turnOver_42 : decode cX2_turnOver 42 = .ok (.bipush 11, 2) := by decide +kernel
theorem dX2_turnOver_44 : decode cX2_turnOver 44 = .ok (.iload_n 1, 1) := by decide +kernel
theorem dX2_turnOver_45 : decode cX2_turnOver 45 = .ok (.isub, 1) := by decide +kernel
theorem dX2_turnOver_46 : decode cX2_turnOver 46 = .ok (.iload_n 2, 1) := by decide +kernel
theorem dX2_turnOver_47 : decode cX2_turnOver 47 = .ok (.iload_n 3, 1) := by decide +kernel
theorem dX2_turnOver_48 : decode cX2_turnOver 48 = .ok (.ineg, 1) := by decide +kernel
theorem dX2_turnOver_49 : decode cX2_turnOver 49 = .ok (.invokevirtual 32, 3) := by decide +kernel
theorem dX2_turnOver_52 : decode cX2_turnOver 52 = .ok (.iinc 2 1, 3) := by decide +kernel
theorem dX2_turnOver_55 : decode cX2_turnOver 55 = .ok (.goto (-43), 3) := by decide +kernel
theorem dX2_turnOver_58 : decode cX2_turnOver 58 = .ok (.iinc 1 1, 3) := by decide +kernel
theorem dX2_turnOver_61 : decode cX2_turnOver 61 = .ok (.goto (-59), 3) := by decide +kernel
theorem dX2_turnOver_64 : decode cX2_turnOver 64 = .ok (.return_, 1) := by decide +kernel
set_option maxRecDepth 20000 in
theorem ggX2_goOn_X2_goOneStep : GoodIn wsX2_goOn wsX2_goOneStep := goodIn_r _ [5, 6, 7, 8, 4, 9, 10, 11, 12, 13, 14, 15, 16, 17, 18, 19, 20, 21, 22, 23, 24, 25, 26, 27, 28, 29, 30, 31, 32, 33, 34, 35, 36, 37, 38, 39, 40, 41, 42, 43, 44, 45, 46, 47, 48, 49, 50] (by decide +kernel) (by decide +kernel)
set_option maxRecDepth 20000 in
theorem gX2_goOn_X2_goOneStep : GoodIn wsX2_goOn (wsV RX2 36 RX2 yX2_goOneStep wsX2_goOneStep) := goodIn_app (goodIn_of _ (by decide +kernel)) ggX2_goOn_X2_goOneStep
theorem dX2_goOn_0 : decode cX2_goOn 0 = .ok (.iconst 0, 1) := by decide +kernel
theorem dX2_goOn_1 : decode cX2_goOn 1 = .ok (.istore_n 3, 1) := by decide +kernel
theorem dX2_goOn_2 : decode cX2_goOn 2 = .ok (.iconst 0, 1) := by decide +kernel
theorem dX2_goOn_3 : decode cX2_goOn 3 = .ok (.istore 4, 2) := by decide +kernel
theorem dX2_goOn_5 : decode cX2_goOn 5 = .ok (.iload 4, 2) := by decide +kernel
theorem dX2_goOn_7 : decode cX2_goOn 7 = .ok (.iload_n 1, 1) := by decide +kernel
theorem dX2_goOn_8 : decode cX2_goOn 8 = .ok (.if_icmp .ge 28, 3) := by decide +kernel
theorem dX2_goOn_11 : decode cX2_goOn 11 = .ok (.aload_n 0, 1) := by decide +kernel
theorem dX2_goOn_12 : decode cX2_goOn 12 = .ok (.aload_n 2, 1) := by decide +kernel
theorem dX2_goOn_13 : decode cX2_goOn 13 = .ok (.invokevirtual 36, 3) := by decide +kernel
theorem dX2_goOn_16 : decode cX2_goOn 16 = .ok (.istore 5, 2) := by decide +kernel
theorem dX2_goOn_18 : decode cX2_goOn 18 = .ok (.iload 5, 2) := by decide +kernel
theorem dX2_goOn_20 : decode cX2_goOn 20 = .ok (.ifCond .ne 5, 3) := by decide +kernel
theorem dX2_goOn_23 : decode cX2_goOn 23 = .ok (.iload_n 3, 1) := by decide +kernel
theorem dX2_goOn_24 : decode cX2_goOn 24 = .ok (.ireturn, 1) := by decide +kernel
theorem dX2_goOn_25 : decode cX2_goOn 25 = .ok (.iload_n 3, 1) := by decide +kernel
theorem dX2_goOn_26 : decode cX2_goOn 26 = .ok (.iload 5, 2) := by decide +kernel
theorem dX2_goOn_28 : decode cX2_goOn 28 = .ok (.iadd, 1) := by decide +kernel
theorem dX2_goOn_29 : decode cX2_goOn 29 = .ok (.istore_n 3, 1) := by decide +kernel
theorem dX2_goOn_30 : decode cX2_goOn 30 = .ok (.iinc 4 1, 3) := by decide +kernel
theorem dX2_goOn_33 : decode cX2_goOn 33 = .ok (.goto (-28), 3) := by decide +kernel
theorem dX2_goOn_36 : decode cX2_goOn 36 = .ok (.iload_n 3, 1) := by decide +kernel
theorem dX2_goOn_37 : decode cX2_goOn 37 = .ok (.ireturn, 1) := by decide +kernel
set_option maxRecDepth 20000 in
theorem ggX2_goOneStep_X2_fallFrom : GoodIn wsX2_goOneStep wsX2_fallFrom := goodIn_r _ [5, 6, 7, 8, 9, 10, 11, 12, 4, 13, 14, 15, 16, 17, 18, 19, 20, 21, 22, 23, 24, 25, 26, 27, 28, 29, 30, 31, 32, 33, 34, 35, 36, 37, 38, 39, 40, 41, 42, 43, 44, 45, 46] (by decide +kernel) (by decide +kernel)
set_option maxRecDepth 20000 in
theorem gX2_goOneStep_X2_fallFrom : GoodIn wsX2_goOneStep (wsV RX2 40 RX2 yX2_fallFrom wsX2_fallFrom) := goodIn_app (goodIn_of _ (by decide +kernel)) ggX2_goOneStep_X2_fallFrom
theorem dX2_goOneStep_0 : decode cX2_goOneStep 0 = .ok (.iconst 0, 1) := by decide +kernel
theorem dX2_goOneStep_1 : decode cX2_goOneStep 1 = .ok (.istore_n 2, 1) := by decide +kernel
theorem dX2_goOneStep_2 : decode cX2_goOneStep 2 = .ok (.bipush 10, 2) := by decide +kernel
theorem dX2_goOneStep_4 : decode cX2_goOneStep 4 = .ok (.istore_n 3, 1) := by decide +kernel
theorem dX2_goOneStep_5 : decode cX2_goOneStep 5 = .ok (.iload_n 3, 1) := by decide +kernel
theorem dX2_goOneStep_6 : decode cX2_goOneStep 6 = .ok (.ifCond .lt 18, 3) := by decide +kernel
theorem dX2_goOneStep_9 : decode cX2_goOneStep 9 = .ok (.iload_n 2, 1) := by decide +kernel
theorem dX2_goOneStep_10 : decode cX2_goOneStep 10 = .ok (.aload_n 0, 1) := by decide +kernel
theorem dX2_goOneStep_11 : decode cX2_goOneStep 11 = .ok (.iload_n 3, 1) := by decide +kernel
theorem dX2_goOneStep_12 : decode cX2_goOneStep 12 = .ok (.aload_n 1, 1) := by decide +kernel
theorem dX2_goOneStep_13 : decode cX2_goOneStep 13 = .ok (.invokevirtual 40, 3) := by decide +kernel
theorem dX2_goOneStep_16 : decode cX2_goOneStep 16 = .ok (.iadd, 1) := by decide +kernel
theorem dX2_goOneStep_17 : decode cX2_goOneStep 17 = .ok (.istore_n 2, 1) := by decide +kernel
theorem dX2_goOneStep_18 : decode cX2_goOneStep 18 = .ok (.iinc 3 (-1), 3) := by decide +kernel
theorem dX2_goOneStep_21 : decode cX2_goOneStep 21 = .ok (.goto (-16), 3) := by decide +kernel
theorem dX2_goOneStep_24 : decode cX2_goOneStep 24 = .ok (.iload_n 2, 1) := by decide +kernel
theorem dX2_goOneStep_25 : decode cX2_goOneStep 25 = .ok (.ireturn, 1) := by decide +kernel
set_option maxRecDepth 20000 in
theorem ggX2_fallFrom_X2_allIn : GoodIn wsX2_fallFrom wsX2_allIn := goodIn_r _ [9, 10, 11, 12, 8, 13, 14, 40] (by decide +kernel) (by decide +kernel)
set_option maxRecDepth 20000 in
theorem gX2_fallFrom_X2_allIn : GoodIn wsX2_fallFrom (wsV RX2 25 RX2 yX2_allIn wsX2_allIn) := goodIn_app (goodIn_of _ (by decide +kernel)) ggX2_fallFrom_X2_allIn
set_option maxRecDepth 20000 in
theorem ggX2_fallFrom_X3_factorOf : GoodIn wsX2_fallFrom wsX3_factorOf := goodIn_r _ [19, 20, 21, 22, 23, 3, 24, 41, 42] (by decide +kernel) (by decide +kernel)
set_option maxRecDepth 20000 in
theorem gX2_fallFrom_X3_factorOf : GoodIn wsX2_fallFrom (wsV RX2 44 RX3 yX3_factorOf wsX3_factorOf) := goodIn_app (goodIn_of _ (by decide +kernel)) ggX2_fallFrom_X3_factorOf
set_option maxRecDepth 20000 in
theorem ggX2_fallFrom_X3_roomOver : GoodIn wsX2_fallFrom wsX3_roomOver := goodIn_r _ [28, 21, 22, 23, 3, 24, 41, 42] (by decide +kernel) (by decide +kernel)
set_option maxRecDepth 20000 in
theorem gX2_fallFrom_X3_roomOver : GoodIn wsX2_fallFrom (wsV RX2 49 RX3 yX3_roomOver wsX3_roomOver) := goodIn_app (goodIn_of _ (by decide +kernel)) ggX2_fallFrom_X3_roomOver
set_option maxRecDepth 20000 in
theorem ggX2_fallFrom_X2_many : GoodIn wsX2_fallFrom wsX2_many := goodIn_r _ [13, 14, 40] (by decide +kernel) (by decide +kernel)
set_option maxRecDepth 20000 in
theorem gX2_fallFrom_X2_many : GoodIn wsX2_fallFrom (wsV RX2 21 RX2 yX2_many wsX2_many) := goodIn_app (goodIn_of _ (by decide +kernel)) ggX2_fallFrom_X2_many
set_option maxRecDepth 20000 in
theorem ggX2_fallFrom_X3_wantingToFall : GoodIn wsX2_fallFrom wsX3_wantingToFall := goodIn_r _ [32, 33, 34, 21, 35, 2, 3, 4, 41, 42] (by decide +kernel) (by decide +kernel)
set_option maxRecDepth 20000 in
theorem gX2_fallFrom_X3_wantingToFall : GoodIn wsX2_fallFrom (wsV RX2 52 RX3 yX3_wantingToFall wsX3_wantingToFall) := goodIn_app (goodIn_of _ (by decide +kernel)) ggX2_fallFrom_X3_wantingToFall
set_option maxRecDepth 20000 in
theorem ggX2_fallFrom_X2_put : GoodIn wsX2_fallFrom wsX2_put := goodIn_r _ [39, 14, 40] (by decide +kernel) (by decide +kernel)
set_option maxRecDepth 20000 in
theorem gX2_fallFrom_X2_put : GoodIn wsX2_fallFrom (wsV RX2 32 RX2 yX2_put wsX2_put) := goodIn_app (goodIn_of _ (by decide +kernel)) ggX2_fallFrom_X2_put
theorem dX2_fallFrom_0 : decode cX2_fallFrom 0 = .ok (.aload_n 2, 1) := by decide +kernel
theorem dX2_fallFrom_1 : decode cX2_fallFrom 1 = .ok (.aload_n 0, 1) := by decide +kernel
theorem dX2_fallFrom_2 : decode cX2_fallFrom 2 = .ok (.iload_n 1, 1) := by decide +kernel
theorem dX2_fallFrom_3 : decode cX2_fallFrom 3 = .ok (.invokevirtual 25, 3) := by decide +kernel
theorem dX2_fallFrom_6 : decode cX2_fallFrom 6 = .ok (.invokevirtual 44, 3) := by decide +kernel
theorem dX2_fallFrom_9 : decode cX2_fallFrom 9 = .ok (.istore_n 3, 1) := by decide +kernel
theorem dX2_fallFrom_10 : decode cX2_fallFrom 10 = .ok (.aload_n 2, 1) := by decide +kernel
theorem dX2_fallFrom_11 : decode cX2_fallFrom 11 = .ok (.aload_n 0, 1) := by decide +kernel
theorem dX2_fallFrom_12 : decode cX2_fallFrom 12 = .ok (.iload_n 1, 1) := by decide +kernel
theorem dX2_fallFrom_13 : decode cX2_fallFrom 13 = .ok (.iconst 1, 1) := by decide +kernel
theorem dX2_fallFrom_14 : decode cX2_fallFrom 14 = .ok (.iadd, 1) := by decide +kernel
theorem dX2_fallFrom_15 : decode cX2_fallFrom 15 = .ok (.invokevirtual 25, 3) := by decide +kernel
theorem dX2_fallFrom_18 : decode cX2_fallFrom 18 = .ok (.invokevirtual 49, 3) := by decide +kernel
theorem dX2_fallFrom_21 : decode cX2_fallFrom 21 = .ok (.istore 4, 2) := by decide +kernel
theorem dX2_fallFrom_23 : decode cX2_fallFrom 23 = .ok (.iconst 0, 1) := by decide +kernel
theorem dX2_fallFrom_24 : decode cX2_fallFrom 24 = .ok (.istore 5, 2) := by decide +kernel
theorem dX2_fallFrom_26 : decode cX2_fallFrom 26 = .ok (.iconst 0, 1) := by decide +kernel
theorem dX2_fallFrom_27 : decode cX2_fallFrom 27 = .ok (.istore 6, 2) := by decide +kernel
theorem dX2_fallFrom_29 : decode cX2_fallFrom 29 = .ok (.iload 6, 2) := by decide +kernel
theorem dX2_fallFrom_31 : decode cX2_fallFrom 31 = .ok (.iconst 4, 1) := by decide +kernel
theorem dX2_fallFrom_32 : decode cX2_fallFrom 32 = .ok (.if_icmp .ge 65, 3) := by decide +kernel
theorem dX2_fallFrom_35 : decode cX2_fallFrom 35 = .ok (.aload_n 2, 1) := by decide +kernel
theorem dX2_fallFrom_36 : decode cX2_fallFrom 36 = .ok (.iload 6, 2) := by decide +kernel
theorem dX2_fallFrom_38 : decode cX2_fallFrom 38 = .ok (.aload_n 0, 1) := by decide +kernel
theorem dX2_fallFrom_39 : decode cX2_fallFrom 39 = .ok (.iload_n 1, 1) := by decide +kernel
theorem dX2_fallFrom_40 : decode cX2_fallFrom 40 = .ok (.iload 6, 2) := by decide +kernel
theorem dX2_fallFrom_42 : decode cX2_fallFrom 42 = .ok (.invokevirtual 21, 3) := by decide +kernel
theorem dX2_fallFrom_45 : decode cX2_fallFrom 45 = .ok (.iload_n 3, 1) := by decide +kernel
theorem dX2_fallFrom_46 : decode cX2_fallFrom 46 = .ok (.invokevirtual 52, 3) := by decide +kernel
theorem dX2_fallFrom_49 : decode cX2_fallFrom 49 = .ok (.istore 7, 2) := by decide +kernel
theorem dX2_fallFrom_51 : decode cX2_fallFrom 51 = .ok (.iload 7, 2) := by decide +kernel
theorem dX2_fallFrom_53 : decode cX2_fallFrom 53 = .ok (.iload 4, 2) := by decide +kernel
theorem dX2_fallFrom_55 : decode cX2_fallFrom 55 = .ok (.iload 5, 2) := by decide +kernel
theorem dX2_fallFrom_57 : decode cX2_fallFrom 57 = .ok (.isub, 1) := by decide +kernel
theorem dX2_fallFrom_58 : decode cX2_fallFrom 58 = .ok (.invokestatic 56, 3) := by decide +kernel
theorem dX2_fallFrom_61 : decode cX2_fallFrom 61 = .ok (.istore 8, 2) := by decide +kernel
theorem dX2_fallFrom_63 : decode cX2_fallFrom 63 = .ok (.aload_n 0, 1) := by decide +kernel
theorem dX2_fallFrom_64 : decode cX2_fallFrom 64 = .ok (.iload_n 1, 1) := by decide +kernel
theorem dX2_fallFrom_65 : decode cX2_fallFrom 65 = .ok (.iload 6, 2) := by decide +kernel
theorem dX2_fallFrom_67 : decode cX2_fallFrom 67 = .ok (.iload 8, 2) := by decide +kernel
theorem dX2_fallFrom_69 : decode cX2_fallFrom 69 = .ok (.ineg, 1) := by decide +kernel
theorem dX2_fallFrom_70 : decode cX2_fallFrom 70 = .ok (.invokevirtual 32, 3) := by decide +kernel
theorem dX2_fallFrom_73 : decode cX2_fallFrom 73 = .ok (.aload_n 0, 1) := by decide +kernel
theorem dX2_fallFrom_74 : decode cX2_fallFrom 74 = .ok (.iload_n 1, 1) := by decide +kernel
theorem dX2_fallFrom_75 : decode cX2_fallFrom 75 = .ok (.iconst 1, 1) := by decide +kernel
theorem dX2_fallFrom_76 : decode cX2_fallFrom 76 = .ok (.iadd, 1) := by decide +kernel
theorem dX2_fallFrom_77 : decode cX2_fallFrom 77 = .ok (.iload 6, 2) := by decide +kernel
theorem dX2_fallFrom_79 : decode cX2_fallFrom 79 = .ok (.iload 8, 2) := by decide +kernel
theorem dX2_fallFrom_81 : decode cX2_fallFrom 81 = .ok (.invokevirtual 32, 3) := by decide +kernel
theorem dX2_fallFrom_84 : decode cX2_fallFrom 84 = .ok (.iload 5, 2) := by decide +kernel
theorem dX2_fallFrom_86 : decode cX2_fallFrom 86 = .ok (.iload 8, 2) := by decide +kernel
theorem dX2_fallFrom_88 : decode cX2_fallFrom 88 = .ok (.iadd, 1) := by decide +kernel
theorem dX2_fallFrom_89 : decode cX2_fallFrom 89 = .ok (.istore 5, 2) := by decide +kernel
theorem dX2_fallFrom_91 : decode cX2_fallFrom 91 = .ok (.iinc 6 1, 3) := by decide +kernel
theorem dX2_fallFrom_94 : decode cX2_fallFrom 94 = .ok (.goto (-65), 3) := by decide +kernel
theorem dX2_fallFrom_97 : decode cX2_fallFrom 97 = .ok (.iload 5, 2) := by decide +kernel
theorem dX2_fallFrom_99 : decode cX2_fallFrom 99 = .ok (.ireturn, 1) := by decide +kernel
set_option maxRecDepth 20000 in
theorem ggX2_reasonToStay_X2_many : GoodIn wsX2_reasonToStay wsX2_many := goodIn_r _ [5, 6, 35] (by decide +kernel) (by decide +kernel)
set_option maxRecDepth 20000 in
theorem gX2_reasonToStay_X2_many : GoodIn wsX2_reasonToStay (wsV RX2 21 RX2 yX2_many wsX2_many) := goodIn_app (goodIn_of _ (by decide +kernel)) ggX2_reasonToStay_X2_many
set_option maxRecDepth 20000 in
theorem ggX2_reasonToStay_X2_allIn : GoodIn wsX2_reasonToStay wsX2_allIn := goodIn_r _ [10, 1, 2, 3, 4, 5, 6, 35] (by decide +kernel) (by decide +kernel)
set_option maxRecDepth 20000 in
theorem gX2_reasonToStay_X2_allIn : GoodIn wsX2_reasonToStay (wsV RX2 25 RX2 yX2_allIn wsX2_allIn) := goodIn_app (goodIn_of _ (by decide +kernel)) ggX2_reasonToStay_X2_allIn
set_option maxRecDepth 20000 in
theorem ggX2_reasonToStay_X3_roomOver : GoodIn wsX2_reasonToStay wsX3_roomOver := goodIn_r _ [15, 16, 17, 18, 19, 20, 36, 37] (by decide +kernel) (by decide +kernel)
set_option maxRecDepth 20000 in
theorem gX2_reasonToStay_X3_roomOver : GoodIn wsX2_reasonToStay (wsV RX2 49 RX3 yX3_roomOver wsX3_roomOver) := goodIn_app (goodIn_of _ (by decide +kernel)) ggX2_reasonToStay_X3_roomOver
set_option maxRecDepth 20000 in
theorem ggX2_reasonToStay_X3_factorOf : GoodIn wsX2_reasonToStay wsX3_factorOf := goodIn_r _ [24, 25, 16, 17, 18, 19, 20, 36, 37] (by decide +kernel) (by decide +kernel)
set_option maxRecDepth 20000 in
theorem gX2_reasonToStay_X3_factorOf : GoodIn wsX2_reasonToStay (wsV RX2 44 RX3 yX3_factorOf wsX3_factorOf) := goodIn_app (goodIn_of _ (by decide +kernel)) ggX2_reasonToStay_X3_factorOf
set_option maxRecDepth 20000 in
theorem ggX2_reasonToStay_X3_wantingToFall : GoodIn wsX2_reasonToStay wsX3_wantingToFall := goodIn_r _ [29, 30, 31, 16, 32, 33, 19, 34, 36, 37] (by decide +kernel) (by decide +kernel)
set_option maxRecDepth 20000 in
theorem gX2_reasonToStay_X3_wantingToFall : GoodIn wsX2_reasonToStay (wsV RX2 52 RX3 yX3_wantingToFall wsX3_wantingToFall) := goodIn_app (goodIn_of _ (by decide +kernel)) ggX2_reasonToStay_X3_wantingToFall
theorem dX2_reasonToStay_0 : decode cX2_reasonToStay 0 = .ok (.iload_n 1, 1) := by decide +kernel
theorem dX2_reasonToStay_1 : decode cX2_reasonToStay 1 = .ok (.bipush 11, 2) := by decide +kernel
theorem dX2_reasonToStay_3 : decode cX2_reasonToStay 3 = .ok (.if_icmp .ne 5, 3) := by decide +kernel
theorem dX2_reasonToStay_6 : decode cX2_reasonToStay 6 = .ok (.iconst 1, 1) := by decide +kernel
theorem dX2_reasonToStay_7 : decode cX2_reasonToStay 7 = .ok (.ireturn, 1) := by decide +kernel
theorem dX2_reasonToStay_8 : decode cX2_reasonToStay 8 = .ok (.aload_n 0, 1) := by decide +kernel
theorem dX2_reasonToStay_9 : decode cX2_reasonToStay 9 = .ok (.iload_n 1, 1) := by decide +kernel
theorem dX2_reasonToStay_10 : decode cX2_reasonToStay 10 = .ok (.iload_n 2, 1) := by decide +kernel
theorem dX2_reasonToStay_11 : decode cX2_reasonToStay 11 = .ok (.invokevirtual 21, 3) := by decide +kernel
theorem dX2_reasonToStay_14 : decode cX2_reasonToStay 14 = .ok (.istore 4, 2) := by decide +kernel
theorem dX2_reasonToStay_16 : decode cX2_reasonToStay 16 = .ok (.iload 4, 2) := by decide +kernel
theorem dX2_reasonToStay_18 : decode cX2_reasonToStay 18 = .ok (.ifCond .ne 5, 3) := by decide +kernel
theorem dX2_reasonToStay_21 : decode cX2_reasonToStay 21 = .ok (.iconst 2, 1) := by decide +kernel
theorem dX2_reasonToStay_22 : decode cX2_reasonToStay 22 = .ok (.ireturn, 1) := by decide +kernel
theorem dX2_reasonToStay_23 : decode cX2_reasonToStay 23 = .ok (.aload_n 3, 1) := by decide +kernel
theorem dX2_reasonToStay_24 : decode cX2_reasonToStay 24 = .ok (.aload_n 0, 1) := by decide +kernel
theorem dX2_reasonToStay_25 : decode cX2_reasonToStay 25 = .ok (.iload_n 1, 1) := by decide +kernel
theorem dX2_reasonToStay_26 : decode cX2_reasonToStay 26 = .ok (.iconst 1, 1) := by decide +kernel
theorem dX2_reasonToStay_27 : decode cX2_reasonToStay 27 = .ok (.iadd, 1) := by decide +kernel
theorem dX2_reasonToStay_28 : decode cX2_reasonToStay 28 = .ok (.invokevirtual 25, 3) := by decide +kernel
theorem dX2_reasonToStay_31 : decode cX2_reasonToStay 31 = .ok (.invokevirtual 49, 3) := by decide +kernel
theorem dX2_reasonToStay_34 : decode cX2_reasonToStay 34 = .ok (.ifCond .ne 5, 3) := by decide +kernel
theorem dX2_reasonToStay_37 : decode cX2_reasonToStay 37 = .ok (.iconst 3, 1) := by decide +kernel
theorem dX2_reasonToStay_38 : decode cX2_reasonToStay 38 = .ok (.ireturn, 1) := by decide +kernel
theorem dX2_reasonToStay_39 : decode cX2_reasonToStay 39 = .ok (.aload_n 3, 1) := by decide +kernel
theorem dX2_reasonToStay_40 : decode cX2_reasonToStay 40 = .ok (.aload_n 0, 1) := by decide +kernel
theorem dX2_reasonToStay_41 : decode cX2_reasonToStay 41 = .ok (.iload_n 1, 1) := by decide +kernel
theorem dX2_reasonToStay_42 : decode cX2_reasonToStay 42 = .ok (.invokevirtual 25, 3) := by decide +kernel
theorem dX2_reasonToStay_45 : decode cX2_reasonToStay 45 = .ok (.invokevirtual 44, 3) := by decide +kernel
theorem dX2_reasonToStay_48 : decode cX2_reasonToStay 48 = .ok (.istore 5, 2) := by decide +kernel
theorem dX2_reasonToStay_50 : decode cX2_reasonToStay 50 = .ok (.aload_n 3, 1) := by decide +kernel
theorem dX2_reasonToStay_51 : decode cX2_reasonToStay 51 = .ok (.iload_n 2, 1) := by decide +kernel
theorem dX2_reasonToStay_52 : decode cX2_reasonToStay 52 = .ok (.iload 4, 2) := by decide +kernel
theorem dX2_reasonToStay_54 : decode cX2_reasonToStay 54 = .ok (.iload 5, 2) := by decide +kernel
theorem dX2_reasonToStay_56 : decode cX2_reasonToStay 56 = .ok (.invokevirtual 52, 3) := by decide +kernel
theorem dX2_reasonToStay_59 : decode cX2_reasonToStay 59 = .ok (.ifCond .ne 7, 3) := by decide +kernel
theorem dX2_reasonToStay_62 : decode cX2_reasonToStay 62 = .ok (.iconst 4, 1) := by decide +kernel
theorem dX2_reasonToStay_63 : decode cX2_reasonToStay 63 = .ok (.goto 4, 3) := by decide +kernel
theorem dX2_reasonToStay_66 : decode cX2_reasonToStay 66 = .ok (.iconst 0, 1) := by decide +kernel
theorem dX2_reasonToStay_67 : decode cX2_reasonToStay 67 = .ok (.ireturn, 1) := by decide +kernel
set_option maxRecDepth 20000 in
theorem ggX2_isAtRest_X2_reasonToStay : GoodIn wsX2_isAtRest wsX2_reasonToStay := goodIn_r _ [5, 6, 7, 8, 4, 9, 10, 11, 12, 13, 14, 15, 16, 17, 18, 19, 20, 21, 22, 23, 24, 25, 26, 27, 28, 29, 30, 31, 32, 33, 34, 35, 36, 37, 38, 39, 40, 41] (by decide +kernel) (by decide +kernel)
set_option maxRecDepth 20000 in
theorem gX2_isAtRest_X2_reasonToStay : GoodIn wsX2_isAtRest (wsV RX2 61 RX2 yX2_reasonToStay wsX2_reasonToStay) := goodIn_app (goodIn_of _ (by decide +kernel)) ggX2_isAtRest_X2_reasonToStay
theorem dX2_isAtRest_0 : decode cX2_isAtRest 0 = .ok (.iconst 0, 1) := by decide +kernel
theorem dX2_isAtRest_1 : decode cX2_isAtRest 1 = .ok (.istore_n 2, 1) := by decide +kernel
theorem dX2_isAtRest_2 : decode cX2_isAtRest 2 = .ok (.iload_n 2, 1) := by decide +kernel
theorem dX2_isAtRest_3 : decode cX2_isAtRest 3 = .ok (.bipush 11, 2) := by decide +kernel
theorem dX2_isAtRest_5 : decode cX2_isAtRest 5 = .ok (.if_icmp .ge 34, 3) := by decide +kernel
theorem dX2_isAtRest_8 : decode cX2_isAtRest 8 = .ok (.iconst 0, 1) := by decide +kernel
theorem dX2_isAtRest_9 : decode cX2_isAtRest 9 = .ok (.istore_n 3, 1) := by decide +kernel
theorem dX2_isAtRest_10 : decode cX2_isAtRest 10 = .ok (.iload_n 3, 1) := by decide +kernel
theorem dX2_isAtRest_11 : decode cX2_isAtRest 11 = .ok (.iconst 4, 1) := by decide +kernel
theorem dX2_isAtRest_12 : decode cX2_isAtRest 12 = .ok (.if_icmp .ge 21, 3) := by decide +kernel
theorem dX2_isAtRest_15 : decode cX2_isAtRest 15 = .ok (.aload_n 0, 1) := by decide +kernel
theorem dX2_isAtRest_16 : decode cX2_isAtRest 16 = .ok (.iload_n 2, 1) := by decide +kernel
theorem dX2_isAtRest_17 : decode cX2_isAtRest 17 = .ok (.iload_n 3, 1) := by decide +kernel
theorem dX2_isAtRest_18 : decode cX2_isAtRest 18 = .ok (.aload_n 1, 1) := by decide +kernel
theorem dX2_isAtRest_19 : decode cX2_isAtRest 19 = .ok (.invokevirtual 61, 3) := by decide +kernel
theorem dX2_isAtRest_22 : decode cX2_isAtRest 22 = .ok (.ifCond .ne 5, 3) := by decide +kernel
theorem dX2_isAtRest_25 : decode cX2_isAtRest 25 = .ok (.iconst 0, 1) := by decide +kernel
theorem dX2_isAtRest_26 : decode cX2_isAtRest 26 = .ok (.ireturn, 1) := by decide +kernel
theorem dX2_isAtRest_27 : decode cX2_isAtRest 27 = .ok (.iinc 3 1, 3) := by decide +kernel
theorem dX2_isAtRest_30 : decode cX2_isAtRest 30 = .ok (.goto (-20), 3) := by decide +kernel
theorem dX2_isAtRest_33 : decode cX2_isAtRest 33 = .ok (.iinc 2 1, 3) := by decide +kernel
theorem dX2_isAtRest_36 : decode cX2_isAtRest 36 = .ok (.goto (-34), 3) := by decide +kernel
theorem dX2_isAtRest_39 : decode cX2_isAtRest 39 = .ok (.iconst 1, 1) := by decide +kernel
theorem dX2_isAtRest_40 : decode cX2_isAtRest 40 = .ok (.ireturn, 1) := by decide +kernel
set_option maxRecDepth 20000 in
theorem ggX2_sliceProperty_X2_allIn : GoodIn wsX2_sliceProperty wsX2_allIn := goodIn_r _ [5, 6, 7, 8, 4, 9, 10, 38] (by decide +kernel) (by decide +kernel)
set_option maxRecDepth 20000 in
theorem gX2_sliceProperty_X2_allIn : GoodIn wsX2_sliceProperty (wsV RX2 25 RX2 yX2_allIn wsX2_allIn) := goodIn_app (goodIn_of _ (by decide +kernel)) ggX2_sliceProperty_X2_allIn
set_option maxRecDepth 20000 in
theorem ggX2_sliceProperty_X3_isPacked : GoodIn wsX2_sliceProperty wsX3_isPacked := goodIn_r _ [15, 16, 39, 40] (by decide +kernel) (by decide +kernel)
set_option maxRecDepth 20000 in
theorem gX2_sliceProperty_X3_isPacked : GoodIn wsX2_sliceProperty (wsV RX2 65 RX3 yX3_isPacked wsX3_isPacked) := goodIn_app (goodIn_of _ (by decide +kernel)) ggX2_sliceProperty_X3_isPacked
set_option maxRecDepth 20000 in
theorem ggX2_sliceProperty_X3_isClear : GoodIn wsX2_sliceProperty wsX3_isClear := goodIn_r _ [20, 16, 39, 40] (by decide +kernel) (by decide +kernel)
set_option maxRecDepth 20000 in
theorem gX2_sliceProperty_X3_isClear : GoodIn wsX2_sliceProperty (wsV RX2 69 RX3 yX3_isClear wsX3_isClear) := goodIn_app (goodIn_of _ (by decide +kernel)) ggX2_sliceProperty_X3_isClear
set_option maxRecDepth 20000 in
theorem ggX2_sliceProperty_X2_leadingClass : GoodIn wsX2_sliceProperty wsX2_leadingClass := goodIn_r _ [24, 6, 7, 8, 4, 9, 10, 38] (by decide +kernel) (by decide +kernel)
set_option maxRecDepth 20000 in
theorem gX2_sliceProperty_X2_leadingClass : GoodIn wsX2_sliceProperty (wsV RX2 72 RX2 yX2_leadingClass wsX2_leadingClass) := goodIn_app (goodIn_of _ (by decide +kernel)) ggX2_sliceProperty_X2_leadingClass
set_option maxRecDepth 20000 in
theorem ggX2_sliceProperty_X3_factorOf : GoodIn wsX2_sliceProperty wsX3_factorOf := goodIn_r _ [28, 29, 16, 30, 31, 32, 33, 39, 40] (by decide +kernel) (by decide +kernel)
set_option maxRecDepth 20000 in
theorem gX2_sliceProperty_X3_factorOf : GoodIn wsX2_sliceProperty (wsV RX2 44 RX3 yX3_factorOf wsX3_factorOf) := goodIn_app (goodIn_of _ (by decide +kernel)) ggX2_sliceProperty_X3_factorOf
set_option maxRecDepth 20000 in
theorem ggX2_sliceProperty_X3_roomOver : GoodIn wsX2_sliceProperty wsX3_roomOver := goodIn_r _ [37, 16, 30, 31, 32, 33, 39, 40] (by decide +kernel) (by decide +kernel)
set_option maxRecDepth 20000 in
theorem gX2_sliceProperty_X3_roomOver : GoodIn wsX2_sliceProperty (wsV RX2 49 RX3 yX3_roomOver wsX3_roomOver) := goodIn_app (goodIn_of _ (by decide +kernel)) ggX2_sliceProperty_X3_roomOver
set_option maxRecDepth 20000 in
theorem ggX2_sliceProperty_X2_many : GoodIn wsX2_sliceProperty wsX2_many := goodIn_r _ [9, 10, 38] (by decide +kernel) (by decide +kernel)
set_option maxRecDepth 20000 in
theorem gX2_sliceProperty_X2_many : GoodIn wsX2_sliceProperty (wsV RX2 21 RX2 yX2_many wsX2_many) := goodIn_app (goodIn_of _ (by decide +kernel)) ggX2_sliceProperty_X2_many
theorem dX2_sliceProperty_0 : decode cX2_sliceProperty 0 = .ok (.iload_n 2, 1) := by decide +kernel
theorem dX2_sliceProperty_1 : decode cX2_sliceProperty 1 = .ok (.tableswitch 107 4 9 #[39, 45, 63, 81, 87, 97], 39) := by decide +kernel
theorem dX2_sliceProperty_40 : decode cX2_sliceProperty 40 = .ok (.aload_n 0, 1) := by decide +kernel
theorem dX2_sliceProperty_41 : decode cX2_sliceProperty 41 = .ok (.iload_n 1, 1) := by decide +kernel
theorem dX2_sliceProperty_42 : decode cX2_sliceProperty 42 = .ok (.invokevirtual 25, 3) := by decide +kernel
theorem dX2_sliceProperty_45 : decode cX2_sliceProperty 45 = .ok (.ireturn, 1) := by decide +kernel
theorem dX2_sliceProperty_46 : decode cX2_sliceProperty 46 = .ok (.aload_n 3, 1) := by decide +kernel
theorem dX2_sliceProperty_47 : decode cX2_sliceProperty 47 = .ok (.aload_n 0, 1) := by decide +kernel
theorem dX2_sliceProperty_48 : decode cX2_sliceProperty 48 = .ok (.iload_n 1, 1) := by decide +kernel
theorem dX2_sliceProperty_49 : decode cX2_sliceProperty 49 = .ok (.invokevirtual 25, 3) := by decide +kernel
theorem dX2_sliceProperty_52 : decode cX2_sliceProperty 52 = .ok (.invokevirtual 65, 3) := by decide +kernel
theorem dX2_sliceProperty_55 : decode cX2_sliceProperty 55 = .ok (.ifCond .eq 7, 3) := by decide +kernel
theorem dX2_sliceProperty_58 : decode cX2_sliceProperty 58 = .ok (.iconst 1, 1) := by decide +kernel
theorem dX2_sliceProperty_59 : decode cX2_sliceProperty 59 = .ok (.goto 4, 3) := by decide +kernel
theorem dX2_sliceProperty_62 : decode cX2_sliceProperty 62 = .ok (.iconst 0, 1) := by decide +kernel
theorem dX2_sliceProperty_63 : decode cX2_sliceProperty 63 = .ok (.ireturn, 1) := by decide +kernel
theorem dX2_sliceProperty_64 : decode cX2_sliceProperty 64 = .ok (.aload_n 3, 1) := by decide +kernel
theorem dX2_sliceProperty_65 : decode cX2_sliceProperty 65 = .ok (.aload_n 0, 1) := by decide +kernel
theorem dX2_sliceProperty_66 : decode cX2_sliceProperty 66 = .ok (.iload_n 1, 1) := by decide +kernel
theorem dX2_sliceProperty_67 : decode cX2_sliceProperty 67 = .ok (.invokevirtual 25, 3) := by decide +kernel
theorem dX2_sliceProperty_70 : decode cX2_sliceProperty 70 = .ok (.invokevirtual 69, 3) := by decide +kernel
theorem dX2_sliceProperty_73 : decode cX2_sliceProperty 73 = .ok (.ifCond .eq 7, 3) := by decide +kernel
theorem dX2_sliceProperty_76 : decode cX2_sliceProperty 76 = .ok (.iconst 1, 1) := by decide +kernel
theorem dX2_sliceProperty_77 : decode cX2_sliceProperty 77 = .ok (.goto 4, 3) := by decide +kernel
theorem dX2_sliceProperty_80 : decode cX2_sliceProperty 80 = .ok (.iconst 0, 1) := by decide +kernel
theorem dX2_sliceProperty_81 : decode cX2_sliceProperty 81 = .ok (.ireturn, 1) := by decide +kernel
theorem dX2_sliceProperty_82 : decode cX2_sliceProperty 82 = .ok (.aload_n 0, 1) := by decide +kernel
theorem dX2_sliceProperty_83 : decode cX2_sliceProperty 83 = .ok (.iload_n 1, 1) := by decide +kernel
theorem dX2_sliceProperty_84 : decode cX2_sliceProperty 84 = .ok (.invokevirtual 72, 3) := by decide +kernel
theorem dX2_sliceProperty_87 : decode cX2_sliceProperty 87 = .ok (.ireturn, 1) := by decide +kernel
theorem dX2_sliceProperty_88 : decode cX2_sliceProperty 88 = .ok (.aload_n 3, 1) := by decide +kernel
theorem dX2_sliceProperty_89 : decode cX2_sliceProperty 89 = .ok (.aload_n 0, 1) := by decide +kernel
theorem dX2_sliceProperty_90 : decode cX2_sliceProperty 90 = .ok (.iload_n 1, 1) := by decide +kernel
theorem dX2_sliceProperty_91 : decode cX2_sliceProperty 91 = .ok (.invokevirtual 25, 3) := by decide +kernel
theorem dX2_sliceProperty_94 : decode cX2_sliceProperty 94 = .ok (.invokevirtual 44, 3) := by decide +kernel
theorem dX2_sliceProperty_97 : decode cX2_sliceProperty 97 = .ok (.ireturn, 1) := by decide +kernel
theorem dX2_sliceProperty_98 : decode cX2_sliceProperty 98 = .ok (.aload_n 3, 1) := by decide +kernel
theorem dX2_sliceProperty_99 : decode cX2_sliceProperty 99 = .ok (.aload_n 0, 1) := by decide +kernel
theorem dX2_sliceProperty_100 : decode cX2_sliceProperty 100 = .ok (.iload_n 1, 1) := by decide +kernel
theorem dX2_sliceProperty_101 : decode cX2_sliceProperty 101 = .ok (.invokevirtual 25, 3) := by decide +kernel
theorem dX2_sliceProperty_104 : decode cX2_sliceProperty 104 = .ok (.invokevirtual 49, 3) := by decide +kernel
theorem dX2_sliceProperty_107 : decode cX2_sliceProperty 107 = .ok (.ireturn, 1) := by decide +kernel
theorem dX2_sliceProperty_108 : decode cX2_sliceProperty 108 = .ok (.aload_n 0, 1) := by decide +kernel
theorem dX2_sliceProperty_109 : decode cX2_sliceProperty 109 = .ok (.iload_n 1, 1) := by decide +kernel
theorem dX2_sliceProperty_110 : decode cX2_sliceProperty 110 = .ok (.iload_n 2, 1) := by decide +kernel
theorem dX2_sliceProperty_111 : decode cX2_sliceProperty 111 = .ok (.invokevirtual 21, 3) := by decide +kernel
theorem dX2_sliceProperty_114 : decode cX2_sliceProperty 114 = .ok (.ireturn, 1) := by decide +kernel
set_option maxRecDepth 20000 in
theorem ggX2_property_X2_all : GoodIn wsX2_property wsX2_all := goodIn_r _ [5, 6, 7, 8, 4, 9, 10, 11, 12, 13, 14, 15, 16, 17, 18, 79] (by decide +kernel) (by decide +kernel)
set_option maxRecDepth 20000 in
theorem gX2_property_X2_all : GoodIn wsX2_property (wsV RX2 75 RX2 yX2_all wsX2_all) := goodIn_app (goodIn_of _ (by decide +kernel)) ggX2_property_X2_all
set_option maxRecDepth 20000 in
theorem ggX2_property_X2_bedSlices : GoodIn wsX2_property wsX2_bedSlices := goodIn_r _ [22, 10, 11, 12, 4, 13, 14, 15, 16, 17, 18, 23, 24, 25, 26, 27, 28, 79, 80, 81] (by decide +kernel) (by decide +kernel)
set_option maxRecDepth 20000 in
theorem gX2_property_X2_bedSlices : GoodIn wsX2_property (wsV RX2 79 RX2 yX2_bedSlices wsX2_bedSlices) := goodIn_app (goodIn_of _ (by decide +kernel)) ggX2_property_X2_bedSlices
set_option maxRecDepth 20000 in
theorem ggX2_property_X2_clearWater : GoodIn wsX2_property wsX2_clearWater := goodIn_r _ [32, 10, 11, 12, 4, 13, 14, 15, 16, 17, 18, 33, 34, 35, 26, 36, 28, 79, 80, 81] (by decide +kernel) (by decide +kernel)
set_option maxRecDepth 20000 in
theorem gX2_property_X2_clearWater : GoodIn wsX2_property (wsV RX2 82 RX2 yX2_clearWater wsX2_clearWater) := goodIn_app (goodIn_of _ (by decide +kernel)) ggX2_property_X2_clearWater
set_option maxRecDepth 20000 in
theorem ggX2_property_X2_allDownTo : GoodIn wsX2_property wsX2_allDownTo := goodIn_r _ [9, 10, 11, 12, 4, 13, 14, 15, 16, 17, 18, 79] (by decide +kernel) (by decide +kernel)
set_option maxRecDepth 20000 in
theorem gX2_property_X2_allDownTo : GoodIn wsX2_property (wsV RX2 29 RX2 yX2_allDownTo wsX2_allDownTo) := goodIn_app (goodIn_of _ (by decide +kernel)) ggX2_property_X2_allDownTo
set_option maxRecDepth 20000 in
theorem ggX2_property_X2_changesOfLeader : GoodIn wsX2_property wsX2_changesOfLeader := goodIn_r _ [40, 41, 42, 43, 4, 44, 14, 15, 16, 17, 18, 79] (by decide +kernel) (by decide +kernel)
set_option maxRecDepth 20000 in
theorem gX2_property_X2_changesOfLeader : GoodIn wsX2_property (wsV RX2 85 RX2 yX2_changesOfLeader wsX2_changesOfLeader) := goodIn_app (goodIn_of _ (by decide +kernel)) ggX2_property_X2_changesOfLeader
set_option maxRecDepth 20000 in
theorem ggX2_property_X2_isAtRest : GoodIn wsX2_property wsX2_isAtRest := goodIn_r _ [48, 49, 50, 51, 4, 52, 14, 15, 16, 17, 18, 10, 11, 12, 13, 53, 54, 55, 26, 56, 28, 57, 58, 59, 60, 61, 62, 63, 64, 65, 66, 67, 68, 69, 70, 71, 72, 73, 74, 79, 80, 81] (by decide +kernel) (by decide +kernel)
set_option maxRecDepth 20000 in
theorem gX2_property_X2_isAtRest : GoodIn wsX2_property (wsV RX2 88 RX2 yX2_isAtRest wsX2_isAtRest) := goodIn_app (goodIn_of _ (by decide +kernel)) ggX2_property_X2_isAtRest
set_option maxRecDepth 20000 in
theorem ggX2_property_X2_allOf : GoodIn wsX2_property wsX2_allOf := goodIn_r _ [78, 14, 15, 16, 4, 17, 18, 79] (by decide +kernel) (by decide +kernel)
set_option maxRecDepth 20000 in
theorem gX2_property_X2_allOf : GoodIn wsX2_property (wsV RX2 92 RX2 yX2_allOf wsX2_allOf) := goodIn_app (goodIn_of _ (by decide +kernel)) ggX2_property_X2_allOf
theorem dX2_property_0 : decode cX2_property 0 = .ok (.iload_n 1, 1) := by decide +kernel
theorem dX2_property_1 : decode cX2_property 1 = .ok (.tableswitch 109 0 9 #[55, 109, 109, 109, 109, 60, 66, 72, 90, 95], 55) := by decide +kernel
theorem dX2_property_56 : decode cX2_property 56 = .ok (.aload_n 0, 1) := by decide +kernel
theorem dX2_property_57 : decode cX2_property 57 = .ok (.invokevirtual 75, 3) := by decide +kernel
theorem dX2_property_60 : decode cX2_property 60 = .ok (.ireturn, 1) := by decide +kernel
theorem dX2_property_61 : decode cX2_property 61 = .ok (.aload_n 0, 1) := by decide +kernel
theorem dX2_property_62 : decode cX2_property 62 = .ok (.aload_n 2, 1) := by decide +kernel
theorem dX2_property_63 : decode cX2_property 63 = .ok (.invokevirtual 79, 3) := by decide +kernel
theorem dX2_property_66 : decode cX2_property 66 = .ok (.ireturn, 1) := by decide +kernel
theorem dX2_property_67 : decode cX2_property 67 = .ok (.aload_n 0, 1) := by decide +kernel
theorem dX2_property_68 : decode cX2_property 68 = .ok (.aload_n 2, 1) := by decide +kernel
theorem dX2_property_69 : decode cX2_property 69 = .ok (.invokevirtual 82, 3) := by decide +kernel
theorem dX2_property_72 : decode cX2_property 72 = .ok (.ireturn, 1) := by decide +kernel
theorem dX2_property_73 : decode cX2_property 73 = .ok (.aload_n 0, 1) := by decide +kernel
theorem dX2_property_74 : decode cX2_property 74 = .ok (.invokevirtual 75, 3) := by decide +kernel
theorem dX2_property_77 : decode cX2_property 77 = .ok (.aload_n 0, 1) := by decide +kernel
theorem dX2_property_78 : decode cX2_property 78 = .ok (.bipush 11, 2) := by decide +kernel
theorem dX2_property_80 : decode cX2_property 80 = .ok (.aload_n 0, 1) := by decide +kernel
theorem dX2_property_81 : decode cX2_property 81 = .ok (.aload_n 2, 1) := by decide +kernel
theorem dX2_property_82 : decode cX2_property 82 = .ok (.invokevirtual 79, 3) := by decide +kernel
theorem dX2_property_85 : decode cX2_property 85 = .ok (.isub, 1) := by decide +kernel
theorem dX2_property_86 : decode cX2_property 86 = .ok (.invokevirtual 29, 3) := by decide +kernel
theorem dX2_property_89 : decode cX2_property 89 = .ok (.isub, 1) := by decide +kernel
theorem dX2_property_90 : decode cX2_property 90 = .ok (.ireturn, 1) := by decide +kernel
theorem dX2_property_91 : decode cX2_property 91 = .ok (.aload_n 0, 1) := by decide +kernel
theorem dX2_property_92 : decode cX2_property 92 = .ok (.invokevirtual 85, 3) := by decide +kernel
theorem dX2_property_95 : decode cX2_property 95 = .ok (.ireturn, 1) := by decide +kernel
theorem dX2_property_96 : decode cX2_property 96 = .ok (.aload_n 0, 1) := by decide +kernel
theorem dX2_property_97 : decode cX2_property 97 = .ok (.aload_n 2, 1) := by decide +kernel
theorem dX2_property_98 : decode cX2_property 98 = .ok (.invokevirtual 88, 3) := by decide +kernel
theorem dX2_property_101 : decode cX2_property 101 = .ok (.ifCond .eq 7, 3) := by decide +kernel
theorem dX2_property_104 : decode cX2_property 104 = .ok (.iconst 1, 1) := by decide +kernel
theorem dX2_property_105 : decode cX2_property 105 = .ok (.goto 4, 3) := by decide +kernel
theorem dX2_property_108 : decode cX2_property 108 = .ok (.iconst 0, 1) := by decide +kernel
theorem dX2_property_109 : decode cX2_property 109 = .ok (.ireturn, 1) := by decide +kernel
theorem dX2_property_110 : decode cX2_property 110 = .ok (.aload_n 0, 1) := by decide +kernel
theorem dX2_property_111 : decode cX2_property 111 = .ok (.iload_n 1, 1) := by decide +kernel
theorem dX2_property_112 : decode cX2_property 112 = .ok (.iconst 1, 1) := by decide +kernel
theorem dX2_property_113 : decode cX2_property 113 = .ok (.isub, 1) := by decide +kernel
theorem dX2_property_114 : decode cX2_property 114 = .ok (.invokevirtual 92, 3) := by decide +kernel
theorem dX2_property_117 : decode cX2_property 117 = .ok (.ireturn, 1) := by decide +kernel
set_option maxRecDepth 20000 in
theorem ggX2_bedSlices_X2_allIn : GoodIn wsX2_bedSlices wsX2_allIn := goodIn_r _ [5, 6, 7, 8, 4, 9, 10, 17] (by decide +kernel) (by decide +kernel)
set_option maxRecDepth 20000 in
theorem gX2_bedSlices_X2_allIn : GoodIn wsX2_bedSlices (wsV RX2 25 RX2 yX2_allIn wsX2_allIn) := goodIn_app (goodIn_of _ (by decide +kernel)) ggX2_bedSlices_X2_allIn
set_option maxRecDepth 20000 in
theorem ggX2_bedSlices_X3_isPacked : GoodIn wsX2_bedSlices wsX3_isPacked := goodIn_r _ [15, 16, 18, 19] (by decide +kernel) (by decide +kernel)
set_option maxRecDepth 20000 in
theorem gX2_bedSlices_X3_isPacked : GoodIn wsX2_bedSlices (wsV RX2 65 RX3 yX3_isPacked wsX3_isPacked) := goodIn_app (goodIn_of _ (by decide +kernel)) ggX2_bedSlices_X3_isPacked
theorem dX2_bedSlices_0 : decode cX2_bedSlices 0 = .ok (.iconst 0, 1) := by decide +kernel
theorem dX2_bedSlices_1 : decode cX2_bedSlices 1 = .ok (.istore_n 2, 1) := by decide +kernel
theorem dX2_bedSlices_2 : decode cX2_bedSlices 2 = .ok (.iload_n 2, 1) := by decide +kernel
theorem dX2_bedSlices_3 : decode cX2_bedSlices 3 = .ok (.bipush 12, 2) := by decide +kernel
theorem dX2_bedSlices_5 : decode cX2_bedSlices 5 = .ok (.if_icmp .ge 24, 3) := by decide +kernel
theorem dX2_bedSlices_8 : decode cX2_bedSlices 8 = .ok (.aload_n 1, 1) := by decide +kernel
theorem dX2_bedSlices_9 : decode cX2_bedSlices 9 = .ok (.aload_n 0, 1) := by decide +kernel
theorem dX2_bedSlices_10 : decode cX2_bedSlices 10 = .ok (.bipush 11, 2) := by decide +kernel
theorem dX2_bedSlices_12 : decode cX2_bedSlices 12 = .ok (.iload_n 2, 1) := by decide +kernel
theorem dX2_bedSlices_13 : decode cX2_bedSlices 13 = .ok (.isub, 1) := by decide +kernel
theorem dX2_bedSlices_14 : decode cX2_bedSlices 14 = .ok (.invokevirtual 25, 3) := by decide +kernel
theorem dX2_bedSlices_17 : decode cX2_bedSlices 17 = .ok (.invokevirtual 65, 3) := by decide +kernel
theorem dX2_bedSlices_20 : decode cX2_bedSlices 20 = .ok (.ifCond .eq 9, 3) := by decide +kernel
theorem dX2_bedSlices_23 : decode cX2_bedSlices 23 = .ok (.iinc 2 1, 3) := by decide +kernel
theorem dX2_bedSlices_26 : decode cX2_bedSlices 26 = .ok (.goto (-24), 3) := by decide +kernel
theorem dX2_bedSlices_29 : decode cX2_bedSlices 29 = .ok (.iload_n 2, 1) := by decide +kernel
theorem dX2_bedSlices_30 : decode cX2_bedSlices 30 = .ok (.ireturn, 1) := by decide +kernel
set_option maxRecDepth 20000 in
theorem ggX2_clearWater_X2_allIn : GoodIn wsX2_clearWater wsX2_allIn := goodIn_r _ [5, 6, 7, 8, 4, 9, 10, 17] (by decide +kernel) (by decide +kernel)
set_option maxRecDepth 20000 in
theorem gX2_clearWater_X2_allIn : GoodIn wsX2_clearWater (wsV RX2 25 RX2 yX2_allIn wsX2_allIn) := goodIn_app (goodIn_of _ (by decide +kernel)) ggX2_clearWater_X2_allIn
set_option maxRecDepth 20000 in
theorem ggX2_clearWater_X3_isClear : GoodIn wsX2_clearWater wsX3_isClear := goodIn_r _ [15, 16, 18, 19] (by decide +kernel) (by decide +kernel)
set_option maxRecDepth 20000 in
theorem gX2_clearWater_X3_isClear : GoodIn wsX2_clearWater (wsV RX2 69 RX3 yX3_isClear wsX3_isClear) := goodIn_app (goodIn_of _ (by decide +kernel)) ggX2_clearWater_X3_isClear
theorem dX2_clearWater_0 : decode cX2_clearWater 0 = .ok (.iconst 0, 1) := by decide +kernel
theorem dX2_clearWater_1 : decode cX2_clearWater 1 = .ok (.istore_n 2, 1) := by decide +kernel
theorem dX2_clearWater_2 : decode cX2_clearWater 2 = .ok (.iload_n 2, 1) := by decide +kernel
theorem dX2_clearWater_3 : decode cX2_clearWater 3 = .ok (.bipush 12, 2) := by decide +kernel
theorem dX2_clearWater_5 : decode cX2_clearWater 5 = .ok (.if_icmp .ge 21, 3) := by decide +kernel
theorem dX2_clearWater_8 : decode cX2_clearWater 8 = .ok (.aload_n 1, 1) := by decide +kernel
theorem dX2_clearWater_9 : decode cX2_clearWater 9 = .ok (.aload_n 0, 1) := by decide +kernel
theorem dX2_clearWater_10 : decode cX2_clearWater 10 = .ok (.iload_n 2, 1) := by decide +kernel
theorem dX2_clearWater_11 : decode cX2_clearWater 11 = .ok (.invokevirtual 25, 3) := by decide +kernel
theorem dX2_clearWater_14 : decode cX2_clearWater 14 = .ok (.invokevirtual 69, 3) := by decide +kernel
theorem dX2_clearWater_17 : decode cX2_clearWater 17 = .ok (.ifCond .eq 9, 3) := by decide +kernel
theorem dX2_clearWater_20 : decode cX2_clearWater 20 = .ok (.iinc 2 1, 3) := by decide +kernel
theorem dX2_clearWater_23 : decode cX2_clearWater 23 = .ok (.goto (-21), 3) := by decide +kernel
theorem dX2_clearWater_26 : decode cX2_clearWater 26 = .ok (.iload_n 2, 1) := by decide +kernel
theorem dX2_clearWater_27 : decode cX2_clearWater 27 = .ok (.ireturn, 1) := by decide +kernel
set_option maxRecDepth 20000 in
theorem ggX2_packedSlices_X2_allIn : GoodIn wsX2_packedSlices wsX2_allIn := goodIn_r _ [5, 6, 7, 8, 4, 9, 10, 17] (by decide +kernel) (by decide +kernel)
set_option maxRecDepth 20000 in
theorem gX2_packedSlices_X2_allIn : GoodIn wsX2_packedSlices (wsV RX2 25 RX2 yX2_allIn wsX2_allIn) := goodIn_app (goodIn_of _ (by decide +kernel)) ggX2_packedSlices_X2_allIn
set_option maxRecDepth 20000 in
theorem ggX2_packedSlices_X3_isPacked : GoodIn wsX2_packedSlices wsX3_isPacked := goodIn_r _ [15, 16, 18, 19] (by decide +kernel) (by decide +kernel)
set_option maxRecDepth 20000 in
theorem gX2_packedSlices_X3_isPacked : GoodIn wsX2_packedSlices (wsV RX2 65 RX3 yX3_isPacked wsX3_isPacked) := goodIn_app (goodIn_of _ (by decide +kernel)) ggX2_packedSlices_X3_isPacked
theorem dX2_packedSlices_0 : decode cX2_packedSlices 0 = .ok (.iconst 0, 1) := by decide +kernel
theorem dX2_packedSlices_1 : decode cX2_packedSlices 1 = .ok (.istore_n 2, 1) := by decide +kernel
theorem dX2_packedSlices_2 : decode cX2_packedSlices 2 = .ok (.iconst 0, 1) := by decide +kernel
theorem dX2_packedSlices_3 : decode cX2_packedSlices 3 = .ok (.istore_n 3, 1) := by decide +kernel
theorem dX2_packedSlices_4 : decode cX2_packedSlices 4 = .ok (.iload_n 3, 1) := by decide +kernel
theorem dX2_packedSlices_5 : decode cX2_packedSlices 5 = .ok (.bipush 12, 2) := by decide +kernel
theorem dX2_packedSlices_7 : decode cX2_packedSlices 7 = .ok (.if_icmp .ge 24, 3) := by decide +kernel
theorem dX2_packedSlices_10 : decode cX2_packedSlices 10 = .ok (.aload_n 1, 1) := by decide +kernel
theorem dX2_packedSlices_11 : decode cX2_packedSlices 11 = .ok (.aload_n 0, 1) := by decide +kernel
theorem dX2_packedSlices_12 : decode cX2_packedSlices 12 = .ok (.iload_n 3, 1) := by decide +kernel
theorem dX2_packedSlices_13 : decode cX2_packedSlices 13 = .ok (.invokevirtual 25, 3) := by decide +kernel
theorem dX2_packedSlices_16 : decode cX2_packedSlices 16 = .ok (.invokevirtual 65, 3) := by decide +kernel
theorem dX2_packedSlices_19 : decode cX2_packedSlices 19 = .ok (.ifCond .eq 6, 3) := by decide +kernel
theorem dX2_packedSlices_22 : decode cX2_packedSlices 22 = .ok (.iinc 2 1, 3) := by decide +kernel
theorem dX2_packedSlices_25 : decode cX2_packedSlices 25 = .ok (.iinc 3 1, 3) := by decide +kernel
theorem dX2_packedSlices_28 : decode cX2_packedSlices 28 = .ok (.goto (-24), 3) := by decide +kernel
theorem dX2_packedSlices_31 : decode cX2_packedSlices 31 = .ok (.iload_n 2, 1) := by decide +kernel
theorem dX2_packedSlices_32 : decode cX2_packedSlices 32 = .ok (.ireturn, 1) := by decide +kernel
set_option maxRecDepth 20000 in
theorem ggX2_clearSlices_X2_allIn : GoodIn wsX2_clearSlices wsX2_allIn := goodIn_r _ [5, 6, 7, 8, 4, 9, 10, 17] (by decide +kernel) (by decide +kernel)
set_option maxRecDepth 20000 in
theorem gX2_clearSlices_X2_allIn : GoodIn wsX2_clearSlices (wsV RX2 25 RX2 yX2_allIn wsX2_allIn) := goodIn_app (goodIn_of _ (by decide +kernel)) ggX2_clearSlices_X2_allIn
set_option maxRecDepth 20000 in
theorem ggX2_clearSlices_X3_isClear : GoodIn wsX2_clearSlices wsX3_isClear := goodIn_r _ [15, 16, 18, 19] (by decide +kernel) (by decide +kernel)
set_option maxRecDepth 20000 in
theorem gX2_clearSlices_X3_isClear : GoodIn wsX2_clearSlices (wsV RX2 69 RX3 yX3_isClear wsX3_isClear) := goodIn_app (goodIn_of _ (by decide +kernel)) ggX2_clearSlices_X3_isClear
theorem dX2_clearSlices_0 : decode cX2_clearSlices 0 = .ok (.iconst 0, 1) := by decide +kernel
theorem dX2_clearSlices_1 : decode cX2_clearSlices 1 = .ok (.istore_n 2, 1) := by decide +kernel
theorem dX2_clearSlices_2 : decode cX2_clearSlices 2 = .ok (.iconst 0, 1) := by decide +kernel
theorem dX2_clearSlices_3 : decode cX2_clearSlices 3 = .ok (.istore_n 3, 1) := by decide +kernel
theorem dX2_clearSlices_4 : decode cX2_clearSlices 4 = .ok (.iload_n 3, 1) := by decide +kernel
theorem dX2_clearSlices_5 : decode cX2_clearSlices 5 = .ok (.bipush 12, 2) := by decide +kernel
theorem dX2_clearSlices_7 : decode cX2_clearSlices 7 = .ok (.if_icmp .ge 24, 3) := by decide +kernel
theorem dX2_clearSlices_10 : decode cX2_clearSlices 10 = .ok (.aload_n 1, 1) := by decide +kernel
theorem dX2_clearSlices_11 : decode cX2_clearSlices 11 = .ok (.aload_n 0, 1) := by decide +kernel
theorem dX2_clearSlices_12 : decode cX2_clearSlices 12 = .ok (.iload_n 3, 1) := by decide +kernel
theorem dX2_clearSlices_13 : decode cX2_clearSlices 13 = .ok (.invokevirtual 25, 3) := by decide +kernel
theorem dX2_clearSlices_16 : decode cX2_clearSlices 16 = .ok (.invokevirtual 69, 3) := by decide +kernel
theorem dX2_clearSlices_19 : decode cX2_clearSlices 19 = .ok (.ifCond .eq 6, 3) := by decide +kernel
theorem dX2_clearSlices_22 : decode cX2_clearSlices 22 = .ok (.iinc 2 1, 3) := by decide +kernel
theorem dX2_clearSlices_25 : decode cX2_clearSlices 25 = .ok (.iinc 3 1, 3) := by decide +kernel
theorem dX2_clearSlices_28 : decode cX2_clearSlices 28 = .ok (.goto (-24), 3) := by decide +kernel
theorem dX2_clearSlices_31 : decode cX2_clearSlices 31 = .ok (.iload_n 2, 1) := by decide +kernel
theorem dX2_clearSlices_32 : decode cX2_clearSlices 32 = .ok (.ireturn, 1) := by decide +kernel
set_option maxRecDepth 20000 in
theorem ggX2_leadingClass_X2_many : GoodIn wsX2_leadingClass wsX2_many := goodIn_r _ [5, 6, 7] (by decide +kernel) (by decide +kernel)
set_option maxRecDepth 20000 in
theorem gX2_leadingClass_X2_many : GoodIn wsX2_leadingClass (wsV RX2 21 RX2 yX2_many wsX2_many) := goodIn_app (goodIn_of _ (by decide +kernel)) ggX2_leadingClass_X2_many
theorem dX2_leadingClass_0 : decode cX2_leadingClass 0 = .ok (.iconst (-1), 1) := by decide +kernel
theorem dX2_leadingClass_1 : decode cX2_leadingClass 1 = .ok (.istore_n 2, 1) := by decide +kernel
theorem dX2_leadingClass_2 : decode cX2_leadingClass 2 = .ok (.iconst 0, 1) := by decide +kernel
theorem dX2_leadingClass_3 : decode cX2_leadingClass 3 = .ok (.istore_n 3, 1) := by decide +kernel
theorem dX2_leadingClass_4 : decode cX2_leadingClass 4 = .ok (.iconst 0, 1) := by decide +kernel
theorem dX2_leadingClass_5 : decode cX2_leadingClass 5 = .ok (.istore 4, 2) := by decide +kernel
theorem dX2_leadingClass_7 : decode cX2_leadingClass 7 = .ok (.iload 4, 2) := by decide +kernel
theorem dX2_leadingClass_9 : decode cX2_leadingClass 9 = .ok (.iconst 4, 1) := by decide +kernel
theorem dX2_leadingClass_10 : decode cX2_leadingClass 10 = .ok (.if_icmp .ge 31, 3) := by decide +kernel
theorem dX2_leadingClass_13 : decode cX2_leadingClass 13 = .ok (.aload_n 0, 1) := by decide +kernel
theorem dX2_leadingClass_14 : decode cX2_leadingClass 14 = .ok (.iload_n 1, 1) := by decide +kernel
theorem dX2_leadingClass_15 : decode cX2_leadingClass 15 = .ok (.iload 4, 2) := by decide +kernel
theorem dX2_leadingClass_17 : decode cX2_leadingClass 17 = .ok (.invokevirtual 21, 3) := by decide +kernel
theorem dX2_leadingClass_20 : decode cX2_leadingClass 20 = .ok (.iload_n 3, 1) := by decide +kernel
theorem dX2_leadingClass_21 : decode cX2_leadingClass 21 = .ok (.if_icmp .le 14, 3) := by decide +kernel
theorem dX2_leadingClass_24 : decode cX2_leadingClass 24 = .ok (.iload 4, 2) := by decide +kernel
theorem dX2_leadingClass_26 : decode cX2_leadingClass 26 = .ok (.istore_n 2, 1) := by decide +kernel
theorem dX2_leadingClass_27 : decode cX2_leadingClass 27 = .ok (.aload_n 0, 1) := by decide +kernel
theorem dX2_leadingClass_28 : decode cX2_leadingClass 28 = .ok (.iload_n 1, 1) := by decide +kernel
theorem dX2_leadingClass_29 : decode cX2_leadingClass 29 = .ok (.iload 4, 2) := by decide +kernel
theorem dX2_leadingClass_31 : decode cX2_leadingClass 31 = .ok (.invokevirtual 21, 3) := by decide +kernel
theorem dX2_leadingClass_34 : decode cX2_leadingClass 34 = .ok (.istore_n 3, 1) := by decide +kernel
theorem dX2_leadingClass_35 : decode cX2_leadingClass 35 = .ok (.iinc 4 1, 3) := by decide +kernel
theorem dX2_leadingClass_38 : decode cX2_leadingClass 38 = .ok (.goto (-31), 3) := by decide +kernel
theorem dX2_leadingClass_41 : decode cX2_leadingClass 41 = .ok (.iload_n 2, 1) := by decide +kernel
theorem dX2_leadingClass_42 : decode cX2_leadingClass 42 = .ok (.ireturn, 1) := by decide +kernel
set_option maxRecDepth 20000 in
theorem ggX2_changesOfLeader_X2_leadingClass : GoodIn wsX2_changesOfLeader wsX2_leadingClass := goodIn_r _ [5, 6, 7, 8, 4, 9, 10, 11] (by decide +kernel) (by decide +kernel)
set_option maxRecDepth 20000 in
theorem gX2_changesOfLeader_X2_leadingClass : GoodIn wsX2_changesOfLeader (wsV RX2 72 RX2 yX2_leadingClass wsX2_leadingClass) := goodIn_app (goodIn_of _ (by decide +kernel)) ggX2_changesOfLeader_X2_leadingClass
theorem dX2_changesOfLeader_0 : decode cX2_changesOfLeader 0 = .ok (.iconst 0, 1) := by decide +kernel
theorem dX2_changesOfLeader_1 : decode cX2_changesOfLeader 1 = .ok (.istore_n 1, 1) := by decide +kernel
theorem dX2_changesOfLeader_2 : decode cX2_changesOfLeader 2 = .ok (.iconst (-1), 1) := by decide +kernel
theorem dX2_changesOfLeader_3 : decode cX2_changesOfLeader 3 = .ok (.istore_n 2, 1) := by decide +kernel
theorem dX2_changesOfLeader_4 : decode cX2_changesOfLeader 4 = .ok (.iconst 0, 1) := by decide +kernel
theorem dX2_changesOfLeader_5 : decode cX2_changesOfLeader 5 = .ok (.istore_n 3, 1) := by decide +kernel
theorem dX2_changesOfLeader_6 : decode cX2_changesOfLeader 6 = .ok (.iload_n 3, 1) := by decide +kernel
theorem dX2_changesOfLeader_7 : decode cX2_changesOfLeader 7 = .ok (.bipush 12, 2) := by decide +kernel
theorem dX2_changesOfLeader_9 : decode cX2_changesOfLeader 9 = .ok (.if_icmp .ge 45, 3) := by decide +kernel
theorem dX2_changesOfLeader_12 : decode cX2_changesOfLeader 12 = .ok (.aload_n 0, 1) := by decide +kernel
theorem dX2_changesOfLeader_13 : decode cX2_changesOfLeader 13 = .ok (.iload_n 3, 1) := by decide +kernel
theorem dX2_changesOfLeader_14 : decode cX2_changesOfLeader 14 = .ok (.invokevirtual 72, 3) := by decide +kernel
theorem dX2_changesOfLeader_17 : decode cX2_changesOfLeader 17 = .ok (.istore 4, 2) := by decide +kernel
theorem dX2_changesOfLeader_19 : decode cX2_changesOfLeader 19 = .ok (.iload 4, 2) := by decide +kernel
theorem dX2_changesOfLeader_21 : decode cX2_changesOfLeader 21 = .ok (.iconst (-1), 1) := by decide +kernel
theorem dX2_changesOfLeader_22 : decode cX2_changesOfLeader 22 = .ok (.if_icmp .eq 17, 3) := by decide +kernel
theorem dX2_changesOfLeader_25 : decode cX2_changesOfLeader 25 = .ok (.iload_n 2, 1) := by decide +kernel
theorem dX2_changesOfLeader_26 : decode cX2_changesOfLeader 26 = .ok (.iconst (-1), 1) := by decide +kernel
theorem dX2_changesOfLeader_27 : decode cX2_changesOfLeader 27 = .ok (.if_icmp .eq 12, 3) := by decide +kernel
theorem dX2_changesOfLeader_30 : decode cX2_changesOfLeader 30 = .ok (.iload 4, 2) := by decide +kernel
theorem dX2_changesOfLeader_32 : decode cX2_changesOfLeader 32 = .ok (.iload_n 2, 1) := by decide +kernel
theorem dX2_changesOfLeader_33 : decode cX2_changesOfLeader 33 = .ok (.if_icmp .eq 6, 3) := by decide +kernel
theorem dX2_changesOfLeader_36 : decode cX2_changesOfLeader 36 = .ok (.iinc 1 1, 3) := by decide +kernel
theorem dX2_changesOfLeader_39 : decode cX2_changesOfLeader 39 = .ok (.iload 4, 2) := by decide +kernel
theorem dX2_changesOfLeader_41 : decode cX2_changesOfLeader 41 = .ok (.iconst (-1), 1) := by decide +kernel
theorem dX2_changesOfLeader_42 : decode cX2_changesOfLeader 42 = .ok (.if_icmp .eq 6, 3) := by decide +kernel
theorem dX2_changesOfLeader_45 : decode cX2_changesOfLeader 45 = .ok (.iload 4, 2) := by decide +kernel
theorem dX2_changesOfLeader_47 : decode cX2_changesOfLeader 47 = .ok (.istore_n 2, 1) := by decide +kernel
theorem dX2_changesOfLeader_48 : decode cX2_changesOfLeader 48 = .ok (.iinc 3 1, 3) := by decide +kernel
theorem dX2_changesOfLeader_51 : decode cX2_changesOfLeader 51 = .ok (.goto (-45), 3) := by decide +kernel
theorem dX2_changesOfLeader_54 : decode cX2_changesOfLeader 54 = .ok (.iload_n 1, 1) := by decide +kernel
theorem dX2_changesOfLeader_55 : decode cX2_changesOfLeader 55 = .ok (.ireturn, 1) := by decide +kernel
set_option maxRecDepth 20000 in
theorem ggX2_purestSlice_X2_many : GoodIn wsX2_purestSlice wsX2_many := goodIn_r _ [5, 6, 11] (by decide +kernel) (by decide +kernel)
set_option maxRecDepth 20000 in
theorem gX2_purestSlice_X2_many : GoodIn wsX2_purestSlice (wsV RX2 21 RX2 yX2_many wsX2_many) := goodIn_app (goodIn_of _ (by decide +kernel)) ggX2_purestSlice_X2_many
set_option maxRecDepth 20000 in
theorem ggX2_purestSlice_X2_allIn : GoodIn wsX2_purestSlice wsX2_allIn := goodIn_r _ [10, 1, 2, 3, 4, 5, 6, 11] (by decide +kernel) (by decide +kernel)
set_option maxRecDepth 20000 in
theorem gX2_purestSlice_X2_allIn : GoodIn wsX2_purestSlice (wsV RX2 25 RX2 yX2_allIn wsX2_allIn) := goodIn_app (goodIn_of _ (by decide +kernel)) ggX2_purestSlice_X2_allIn
theorem dX2_purestSlice_0 : decode cX2_purestSlice 0 = .ok (.iconst (-1), 1) := by decide +kernel
theorem dX2_purestSlice_1 : decode cX2_purestSlice 1 = .ok (.istore_n 2, 1) := by decide +kernel
theorem dX2_purestSlice_2 : decode cX2_purestSlice 2 = .ok (.iconst 0, 1) := by decide +kernel
theorem dX2_purestSlice_3 : decode cX2_purestSlice 3 = .ok (.istore_n 3, 1) := by decide +kernel
theorem dX2_purestSlice_4 : decode cX2_purestSlice 4 = .ok (.iconst 1, 1) := by decide +kernel
theorem dX2_purestSlice_5 : decode cX2_purestSlice 5 = .ok (.istore 4, 2) := by decide +kernel
theorem dX2_purestSlice_7 : decode cX2_purestSlice 7 = .ok (.iconst 0, 1) := by decide +kernel
theorem dX2_purestSlice_8 : decode cX2_purestSlice 8 = .ok (.istore 5, 2) := by decide +kernel
theorem dX2_purestSlice_10 : decode cX2_purestSlice 10 = .ok (.iload 5, 2) := by decide +kernel
theorem dX2_purestSlice_12 : decode cX2_purestSlice 12 = .ok (.bipush 12, 2) := by decide +kernel
theorem dX2_purestSlice_14 : decode cX2_purestSlice 14 = .ok (.if_icmp .ge 48, 3) := by decide +kernel
theorem dX2_purestSlice_17 : decode cX2_purestSlice 17 = .ok (.aload_n 0, 1) := by decide +kernel
theorem dX2_purestSlice_18 : decode cX2_purestSlice 18 = .ok (.iload 5, 2) := by decide +kernel
theorem dX2_purestSlice_20 : decode cX2_purestSlice 20 = .ok (.iload_n 1, 1) := by decide +kernel
theorem dX2_purestSlice_21 : decode cX2_purestSlice 21 = .ok (.invokevirtual 21, 3) := by decide +kernel
theorem dX2_purestSlice_24 : decode cX2_purestSlice 24 = .ok (.istore 6, 2) := by decide +kernel
theorem dX2_purestSlice_26 : decode cX2_purestSlice 26 = .ok (.aload_n 0, 1) := by decide +kernel
theorem dX2_purestSlice_27 : decode cX2_purestSlice 27 = .ok (.iload 5, 2) := by decide +kernel
theorem dX2_purestSlice_29 : decode cX2_purestSlice 29 = .ok (.invokevirtual 25, 3) := by decide +kernel
theorem dX2_purestSlice_32 : decode cX2_purestSlice 32 = .ok (.istore 7, 2) := by decide +kernel
theorem dX2_purestSlice_34 : decode cX2_purestSlice 34 = .ok (.iload 6, 2) := by decide +kernel
theorem dX2_purestSlice_36 : decode cX2_purestSlice 36 = .ok (.iload 4, 2) := by decide +kernel
theorem dX2_purestSlice_38 : decode cX2_purestSlice 38 = .ok (.imul, 1) := by decide +kernel
theorem dX2_purestSlice_39 : decode cX2_purestSlice 39 = .ok (.iload_n 3, 1) := by decide +kernel
theorem dX2_purestSlice_40 : decode cX2_purestSlice 40 = .ok (.iload 7, 2) := by decide +kernel
theorem dX2_purestSlice_42 : decode cX2_purestSlice 42 = .ok (.imul, 1) := by decide +kernel
theorem dX2_purestSlice_43 : decode cX2_purestSlice 43 = .ok (.if_icmp .le 13, 3) := by decide +kernel
theorem dX2_purestSlice_46 : decode cX2_purestSlice 46 = .ok (.iload 5, 2) := by decide +kernel
theorem dX2_purestSlice_48 : decode cX2_purestSlice 48 = .ok (.istore_n 2, 1) := by decide +kernel
theorem dX2_purestSlice_49 : decode cX2_purestSlice 49 = .ok (.iload 6, 2) := by decide +kernel
theorem dX2_purestSlice_51 : decode cX2_purestSlice 51 = .ok (.istore_n 3, 1) := by decide +kernel
theorem dX2_purestSlice_52 : decode cX2_purestSlice 52 = .ok (.iload 7, 2) := by decide +kernel
theorem dX2_purestSlice_54 : decode cX2_purestSlice 54 = .ok (.istore 4, 2) := by decide +kernel
theorem dX2_purestSlice_56 : decode cX2_purestSlice 56 = .ok (.iinc 5 1, 3) := by decide +kernel
theorem dX2_purestSlice_59 : decode cX2_purestSlice 59 = .ok (.goto (-49), 3) := by decide +kernel
theorem dX2_purestSlice_62 : decode cX2_purestSlice 62 = .ok (.iload_n 2, 1) := by decide +kernel
theorem dX2_purestSlice_63 : decode cX2_purestSlice 63 = .ok (.ireturn, 1) := by decide +kernel
