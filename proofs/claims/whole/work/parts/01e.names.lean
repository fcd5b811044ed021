theorem dX6_firstError_6 : decode cX6_firstError 6 = .ok (.invokevirtual 148, 3) := by decide +kernel
theorem dX6_firstError_9 : decode cX6_firstError 9 = .ok (.ireturn, 1) := by decide +kernel
set_option maxRecDepth 20000 in
theorem ggX6_load_X6_isJar : GoodIn wsX6_load wsX6_isJar := goodIn_r _ [10, 11, 12, 9, 13] (by decide +kernel) (by decide +kernel)
set_option maxRecDepth 20000 in
theorem gX6_load_X6_isJar : GoodIn wsX6_load (va_wsS RX6 92 yX6_isJar wsX6_isJar) := goodIn_app (goodIn_of _ (by decide +kernel)) ggX6_load_X6_isJar
set_option maxRecDepth 20000 in
theorem ggX6_load_X6_readText : GoodIn wsX6_load wsX6_readText := goodIn_r _ [17, 3, 5, 4, 6, 2, 18, 19, 20, 21, 9, 22, 23, 24, 25, 26, 11, 12, 13, 27, 28, 29, 30, 31, 32, 33, 34, 35, 36, 37, 38, 39, 40, 41, 42, 43, 44, 45, 46, 69, 70, 71, 72, 73, 74, 75, 76, 77, 78, 79, 80] (by decide +kernel) (by decide +kernel)
set_option maxRecDepth 20000 in
theorem gX6_load_X6_readText : GoodIn wsX6_load (wsV RX6 148 RX6 yX6_readText wsX6_readText) := goodIn_app (goodIn_of _ (by decide +kernel)) ggX6_load_X6_readText
set_option maxRecDepth 20000 in
theorem ggX6_load_X6_endPortion : GoodIn wsX6_load wsX6_endPortion := goodIn_r _ [42, 4, 6, 5, 69, 70, 71, 72, 73, 74, 75, 76, 77, 78, 79, 80] (by decide +kernel) (by decide +kernel)
set_option maxRecDepth 20000 in
theorem gX6_load_X6_endPortion : GoodIn wsX6_load (wsV RX6 130 RX6 yX6_endPortion wsX6_endPortion) := goodIn_app (goodIn_of _ (by decide +kernel)) ggX6_load_X6_endPortion
set_option maxRecDepth 20000 in
theorem ggX6_load_X6_inJar : GoodIn wsX6_load wsX6_inJar := goodIn_r _ [50, 51, 52, 53, 9, 54, 55, 56, 57, 58, 69, 70, 71, 72, 73, 74, 75, 76, 77, 78, 79, 80] (by decide +kernel) (by decide +kernel)
set_option maxRecDepth 20000 in
theorem gX6_load_X6_inJar : GoodIn wsX6_load (wsV RX6 98 RX6 yX6_inJar wsX6_inJar) := goodIn_app (goodIn_of _ (by decide +kernel)) ggX6_load_X6_inJar
set_option maxRecDepth 20000 in
theorem ggX6_load_X6_save : GoodIn wsX6_load wsX6_save := goodIn_r _ [62, 63, 64, 55, 69, 70, 71, 72, 73, 74, 75, 76, 77, 78, 79, 80] (by decide +kernel) (by decide +kernel)
set_option maxRecDepth 20000 in
theorem gX6_load_X6_save : GoodIn wsX6_load (wsV RX6 76 RX6 yX6_save wsX6_save) := goodIn_app (goodIn_of _ (by decide +kernel)) ggX6_load_X6_save
set_option maxRecDepth 20000 in
theorem ggX6_load_X6_bring : GoodIn wsX6_load wsX6_bring := goodIn_r _ [68, 55, 56, 57, 9, 58, 69, 70, 71, 72, 73, 74, 75, 76, 77, 78, 79, 80] (by decide +kernel) (by decide +kernel)
set_option maxRecDepth 20000 in
theorem gX6_load_X6_bring : GoodIn wsX6_load (wsV RX6 101 RX6 yX6_bring wsX6_bring) := goodIn_app (goodIn_of _ (by decide +kernel)) ggX6_load_X6_bring
theorem dX6_load_0 : decode cX6_load 0 = .ok (.iload_n 1, 1) := by decide +kernel
theorem dX6_load_1 : decode cX6_load 1 = .ok (.invokestatic 92, 3) := by decide +kernel
theorem dX6_load_4 : decode cX6_load 4 = .ok (.ifCond .ne 10, 3) := by decide +kernel
theorem dX6_load_7 : decode cX6_load 7 = .ok (.aload_n 0, 1) := by decide +kernel
theorem dX6_load_8 : decode cX6_load 8 = .ok (.iconst 1, 1) := by decide +kernel
theorem dX6_load_9 : decode cX6_load 9 = .ok (.putfield 25, 3) := by decide +kernel
theorem dX6_load_12 : decode cX6_load 12 = .ok (.iconst 0, 1) := by decide +kernel
theorem dX6_load_13 : decode cX6_load 13 = .ok (.ireturn, 1) := by decide +kernel
theorem dX6_load_14 : decode cX6_load 14 = .ok (.aload_n 0, 1) := by decide +kernel
theorem dX6_load_15 : decode cX6_load 15 = .ok (.invokevirtual 148, 3) := by decide +kernel
theorem dX6_load_18 : decode cX6_load 18 = .ok (.aload_n 0, 1) := by decide +kernel
theorem dX6_load_19 : decode cX6_load 19 = .ok (.getfield 114, 3) := by decide +kernel
theorem dX6_load_22 : decode cX6_load 22 = .ok (.if_icmp .ne 23, 3) := by decide +kernel
theorem dX6_load_25 : decode cX6_load 25 = .ok (.aload_n 0, 1) := by decide +kernel
theorem dX6_load_26 : decode cX6_load 26 = .ok (.getfield 117, 3) := by decide +kernel
theorem dX6_load_29 : decode cX6_load 29 = .ok (.iconst 2, 1) := by decide +kernel
theorem dX6_load_30 : decode cX6_load 30 = .ok (.if_icmp .eq 11, 3) := by decide +kernel
theorem dX6_load_33 : decode cX6_load 33 = .ok (.aload_n 0, 1) := by decide +kernel
theorem dX6_load_34 : decode cX6_load 34 = .ok (.getfield 117, 3) := by decide +kernel
theorem dX6_load_37 : decode cX6_load 37 = .ok (.iconst 4, 1) := by decide +kernel
theorem dX6_load_38 : decode cX6_load 38 = .ok (.if_icmp .ne 7, 3) := by decide +kernel
theorem dX6_load_41 : decode cX6_load 41 = .ok (.iconst 1, 1) := by decide +kernel
theorem dX6_load_42 : decode cX6_load 42 = .ok (.goto 4, 3) := by decide +kernel
theorem dX6_load_45 : decode cX6_load 45 = .ok (.iconst 0, 1) := by decide +kernel
theorem dX6_load_46 : decode cX6_load 46 = .ok (.istore_n 2, 1) := by decide +kernel
theorem dX6_load_47 : decode cX6_load 47 = .ok (.iload_n 2, 1) := by decide +kernel
theorem dX6_load_48 : decode cX6_load 48 = .ok (.ifCond .eq 7, 3) := by decide +kernel
theorem dX6_load_51 : decode cX6_load 51 = .ok (.aload_n 0, 1) := by decide +kernel
theorem dX6_load_52 : decode cX6_load 52 = .ok (.invokevirtual 130, 3) := by decide +kernel
theorem dX6_load_55 : decode cX6_load 55 = .ok (.aload_n 0, 1) := by decide +kernel
theorem dX6_load_56 : decode cX6_load 56 = .ok (.iload_n 2, 1) := by decide +kernel
theorem dX6_load_57 : decode cX6_load 57 = .ok (.ifCond .ne 7, 3) := by decide +kernel
theorem dX6_load_60 : decode cX6_load 60 = .ok (.iconst 2, 1) := by decide +kernel
theorem dX6_load_61 : decode cX6_load 61 = .ok (.goto 24, 3) := by decide +kernel
theorem dX6_load_64 : decode cX6_load 64 = .ok (.aload_n 0, 1) := by decide +kernel
theorem dX6_load_65 : decode cX6_load 65 = .ok (.iload_n 1, 1) := by decide +kernel
theorem dX6_load_66 : decode cX6_load 66 = .ok (.invokevirtual 98, 3) := by decide +kernel
theorem dX6_load_69 : decode cX6_load 69 = .ok (.aload_n 0, 1) := by decide +kernel
theorem dX6_load_70 : decode cX6_load 70 = .ok (.getfield 120, 3) := by decide +kernel
theorem dX6_load_73 : decode cX6_load 73 = .ok (.iadd, 1) := by decide +kernel
theorem dX6_load_74 : decode cX6_load 74 = .ok (.sipush 5000, 3) := by decide +kernel
theorem dX6_load_77 : decode cX6_load 77 = .ok (.if_icmp .le 7, 3) := by decide +kernel
theorem dX6_load_80 : decode cX6_load 80 = .ok (.iconst 3, 1) := by decide +kernel
theorem dX6_load_81 : decode cX6_load 81 = .ok (.goto 4, 3) := by decide +kernel
theorem dX6_load_84 : decode cX6_load 84 = .ok (.iconst 0, 1) := by decide +kernel
theorem dX6_load_85 : decode cX6_load 85 = .ok (.putfield 25, 3) := by decide +kernel
theorem dX6_load_88 : decode cX6_load 88 = .ok (.aload_n 0, 1) := by decide +kernel
theorem dX6_load_89 : decode cX6_load 89 = .ok (.getfield 25, 3) := by decide +kernel
theorem dX6_load_92 : decode cX6_load 92 = .ok (.ifCond .le 5, 3) := by decide +kernel
theorem dX6_load_95 : decode cX6_load 95 = .ok (.iconst 0, 1) := by decide +kernel
theorem dX6_load_96 : decode cX6_load 96 = .ok (.ireturn, 1) := by decide +kernel
theorem dX6_load_97 : decode cX6_load 97 = .ok (.aload_n 0, 1) := by decide +kernel
theorem dX6_load_98 : decode cX6_load 98 = .ok (.invokevirtual 76, 3) := by decide +kernel
theorem dX6_load_101 : decode cX6_load 101 = .ok (.iconst 0, 1) := by decide +kernel
theorem dX6_load_102 : decode cX6_load 102 = .ok (.istore_n 3, 1) := by decide +kernel
theorem dX6_load_103 : decode cX6_load 103 = .ok (.iload_n 3, 1) := by decide +kernel
theorem dX6_load_104 : decode cX6_load 104 = .ok (.aload_n 0, 1) := by decide +kernel
theorem dX6_load_105 : decode cX6_load 105 = .ok (.getfield 123, 3) := by decide +kernel
theorem dX6_load_108 : decode cX6_load 108 = .ok (.if_icmp .ge 42, 3) := by decide +kernel
theorem dX6_load_111 : decode cX6_load 111 = .ok (.aload_n 0, 1) := by decide +kernel
theorem dX6_load_112 : decode cX6_load 112 = .ok (.iload_n 1, 1) := by decide +kernel
theorem dX6_load_113 : decode cX6_load 113 = .ok (.aload_n 0, 1) := by decide +kernel
theorem dX6_load_114 : decode cX6_load 114 = .ok (.getfield 22, 3) := by decide +kernel
theorem dX6_load_117 : decode cX6_load 117 = .ok (.iconst 3, 1) := by decide +kernel
theorem dX6_load_118 : decode cX6_load 118 = .ok (.iload_n 3, 1) := by decide +kernel
theorem dX6_load_119 : decode cX6_load 119 = .ok (.imul, 1) := by decide +kernel
theorem dX6_load_120 : decode cX6_load 120 = .ok (.iconst 2, 1) := by decide +kernel
theorem dX6_load_121 : decode cX6_load 121 = .ok (.iadd, 1) := by decide +kernel
theorem dX6_load_122 : decode cX6_load 122 = .ok (.iaload, 1) := by decide +kernel
theorem dX6_load_123 : decode cX6_load 123 = .ok (.aload_n 0, 1) := by decide +kernel
theorem dX6_load_124 : decode cX6_load 124 = .ok (.getfield 22, 3) := by decide +kernel
theorem dX6_load_127 : decode cX6_load 127 = .ok (.iconst 3, 1) := by decide +kernel
theorem dX6_load_128 : decode cX6_load 128 = .ok (.iload_n 3, 1) := by decide +kernel
theorem dX6_load_129 : decode cX6_load 129 = .ok (.imul, 1) := by decide +kernel
theorem dX6_load_130 : decode cX6_load 130 = .ok (.iconst 1, 1) := by decide +kernel
theorem dX6_load_131 : decode cX6_load 131 = .ok (.iadd, 1) := by decide +kernel
theorem dX6_load_132 : decode cX6_load 132 = .ok (.iaload, 1) := by decide +kernel
theorem dX6_load_133 : decode cX6_load 133 = .ok (.aload_n 0, 1) := by decide +kernel
theorem dX6_load_134 : decode cX6_load 134 = .ok (.getfield 22, 3) := by decide +kernel
theorem dX6_load_137 : decode cX6_load 137 = .ok (.iconst 3, 1) := by decide +kernel
theorem dX6_load_138 : decode cX6_load 138 = .ok (.iload_n 3, 1) := by decide +kernel
theorem dX6_load_139 : decode cX6_load 139 = .ok (.imul, 1) := by decide +kernel
theorem dX6_load_140 : decode cX6_load 140 = .ok (.iaload, 1) := by decide +kernel
theorem dX6_load_141 : decode cX6_load 141 = .ok (.invokevirtual 101, 3) := by decide +kernel
theorem dX6_load_144 : decode cX6_load 144 = .ok (.iinc 3 1, 3) := by decide +kernel
theorem dX6_load_147 : decode cX6_load 147 = .ok (.goto (-44), 3) := by decide +kernel
theorem dX6_load_150 : decode cX6_load 150 = .ok (.aload_n 0, 1) := by decide +kernel
theorem dX6_load_151 : decode cX6_load 151 = .ok (.iconst 0, 1) := by decide +kernel
theorem dX6_load_152 : decode cX6_load 152 = .ok (.putfield 114, 3) := by decide +kernel
theorem dX6_load_155 : decode cX6_load 155 = .ok (.aload_n 0, 1) := by decide +kernel
theorem dX6_load_156 : decode cX6_load 156 = .ok (.iload_n 1, 1) := by decide +kernel
theorem dX6_load_157 : decode cX6_load 157 = .ok (.invokevirtual 98, 3) := by decide +kernel
theorem dX6_load_160 : decode cX6_load 160 = .ok (.ireturn, 1) := by decide +kernel
set_option maxRecDepth 20000 in
theorem ggX6_sliceNow_X6_inSlice : GoodIn wsX6_sliceNow wsX6_inSlice := goodIn_r _ [6, 1, 7, 8, 5, 9, 35, 36, 37, 38, 39, 40, 41, 42, 43, 44, 45, 46] (by decide +kernel) (by decide +kernel)
set_option maxRecDepth 20000 in
theorem gX6_sliceNow_X6_inSlice : GoodIn wsX6_sliceNow (wsV RX6 37 RX6 yX6_inSlice wsX6_inSlice) := goodIn_app (goodIn_of _ (by decide +kernel)) ggX6_sliceNow_X6_inSlice
set_option maxRecDepth 20000 in
theorem ggX6_sliceNow_X6_isPacked : GoodIn wsX6_sliceNow wsX6_isPacked := goodIn_r _ [13, 2, 3, 4, 5, 6, 1, 7, 8, 9, 14, 15, 16, 17, 35, 36, 37, 38, 39, 40, 41, 42, 43, 44, 45, 46] (by decide +kernel) (by decide +kernel)
set_option maxRecDepth 20000 in
theorem gX6_sliceNow_X6_isPacked : GoodIn wsX6_sliceNow (wsV RX6 60 RX6 yX6_isPacked wsX6_isPacked) := goodIn_app (goodIn_of _ (by decide +kernel)) ggX6_sliceNow_X6_isPacked
set_option maxRecDepth 20000 in
theorem ggX6_sliceNow_X6_isClear : GoodIn wsX6_sliceNow wsX6_isClear := goodIn_r _ [21, 2, 3, 4, 5, 6, 1, 7, 8, 9, 14, 15, 16, 17, 35, 36, 37, 38, 39, 40, 41, 42, 43, 44, 45, 46] (by decide +kernel) (by decide +kernel)
set_option maxRecDepth 20000 in
theorem gX6_sliceNow_X6_isClear : GoodIn wsX6_sliceNow (wsV RX6 64 RX6 yX6_isClear wsX6_isClear) := goodIn_app (goodIn_of _ (by decide +kernel)) ggX6_sliceNow_X6_isClear
set_option maxRecDepth 20000 in
theorem ggX6_sliceNow_X6_leading : GoodIn wsX6_sliceNow wsX6_leading := goodIn_r _ [25, 1, 7, 8, 5, 9, 35, 36, 37, 38, 39, 40, 41, 42, 43, 44, 45, 46] (by decide +kernel) (by decide +kernel)
set_option maxRecDepth 20000 in
theorem gX6_sliceNow_X6_leading : GoodIn wsX6_sliceNow (wsV RX6 70 RX6 yX6_leading wsX6_leading) := goodIn_app (goodIn_of _ (by decide +kernel)) ggX6_sliceNow_X6_leading
set_option maxRecDepth 20000 in
theorem ggX6_sliceNow_X6_factor : GoodIn wsX6_sliceNow wsX6_factor := goodIn_r _ [29, 30, 2, 3, 4, 5, 6, 1, 7, 8, 9, 14, 15, 16, 17, 35, 36, 37, 38, 39, 40, 41, 42, 43, 44, 45, 46] (by decide +kernel) (by decide +kernel)
set_option maxRecDepth 20000 in
theorem gX6_sliceNow_X6_factor : GoodIn wsX6_sliceNow (wsV RX6 47 RX6 yX6_factor wsX6_factor) := goodIn_app (goodIn_of _ (by decide +kernel)) ggX6_sliceNow_X6_factor
set_option maxRecDepth 20000 in
theorem ggX6_sliceNow_X6_room : GoodIn wsX6_sliceNow wsX6_room := goodIn_r _ [34, 14, 15, 16, 5, 17, 1, 2, 3, 4, 6, 7, 8, 9, 35, 36, 37, 38, 39, 40, 41, 42, 43, 44, 45, 46] (by decide +kernel) (by decide +kernel)
set_option maxRecDepth 20000 in
theorem gX6_sliceNow_X6_room : GoodIn wsX6_sliceNow (wsV RX6 54 RX6 yX6_room wsX6_room) := goodIn_app (goodIn_of _ (by decide +kernel)) ggX6_sliceNow_X6_room
set_option maxRecDepth 20000 in
theorem ggX6_sliceNow_X6_place : GoodIn wsX6_sliceNow wsX6_place := goodIn_r _ [9] (by decide +kernel) (by decide +kernel)
set_option maxRecDepth 20000 in
theorem gX6_sliceNow_X6_place : GoodIn wsX6_sliceNow (va_wsS RX6 33 yX6_place wsX6_place) := goodIn_app (goodIn_of _ (by decide +kernel)) ggX6_sliceNow_X6_place
theorem dX6_sliceNow_0 : decode cX6_sliceNow 0 = .ok (.iload_n 3, 1) := by decide +kernel
theorem dX6_sliceNow_1 : decode cX6_sliceNow 1 = .ok (.tableswitch 97 4 9 #[39, 46, 61, 76, 83, 90], 39) := by decide +kernel
theorem dX6_sliceNow_40 : decode cX6_sliceNow 40 = .ok (.aload_n 0, 1) := by decide +kernel
theorem dX6_sliceNow_41 : decode cX6_sliceNow 41 = .ok (.iload_n 1, 1) := by decide +kernel
theorem dX6_sliceNow_42 : decode cX6_sliceNow 42 = .ok (.iload_n 2, 1) := by decide +kernel
theorem dX6_sliceNow_43 : decode cX6_sliceNow 43 = .ok (.invokevirtual 37, 3) := by decide +kernel
theorem dX6_sliceNow_46 : decode cX6_sliceNow 46 = .ok (.ireturn, 1) := by decide +kernel
theorem dX6_sliceNow_47 : decode cX6_sliceNow 47 = .ok (.aload_n 0, 1) := by decide +kernel
theorem dX6_sliceNow_48 : decode cX6_sliceNow 48 = .ok (.iload_n 1, 1) := by decide +kernel
theorem dX6_sliceNow_49 : decode cX6_sliceNow 49 = .ok (.iload_n 2, 1) := by decide +kernel
theorem dX6_sliceNow_50 : decode cX6_sliceNow 50 = .ok (.invokevirtual 60, 3) := by decide +kernel
theorem dX6_sliceNow_53 : decode cX6_sliceNow 53 = .ok (.ifCond .eq 7, 3) := by decide +kernel
theorem dX6_sliceNow_56 : decode cX6_sliceNow 56 = .ok (.iconst 1, 1) := by decide +kernel
theorem dX6_sliceNow_57 : decode cX6_sliceNow 57 = .ok (.goto 4, 3) := by decide +kernel
theorem dX6_sliceNow_60 : decode cX6_sliceNow 60 = .ok (.iconst 0, 1) := by decide +kernel
theorem dX6_sliceNow_61 : decode cX6_sliceNow 61 = .ok (.ireturn, 1) := by decide +kernel
theorem dX6_sliceNow_62 : decode cX6_sliceNow 62 = .ok (.aload_n 0, 1) := by decide +kernel
theorem dX6_sliceNow_63 : decode cX6_sliceNow 63 = .ok (.iload_n 1, 1) := by decide +kernel
theorem dX6_sliceNow_64 : decode cX6_sliceNow 64 = .ok (.iload_n 2, 1) := by decide +kernel
theorem dX6_sliceNow_65 : decode cX6_sliceNow 65 = .ok (.invokevirtual 64, 3) := by decide +kernel
theorem dX6_sliceNow_68 : decode cX6_sliceNow 68 = .ok (.ifCond .eq 7, 3) := by decide +kernel
theorem dX6_sliceNow_71 : decode cX6_sliceNow 71 = .ok (.iconst 1, 1) := by decide +kernel
theorem dX6_sliceNow_72 : decode cX6_sliceNow 72 = .ok (.goto 4, 3) := by decide +kernel
theorem dX6_sliceNow_75 : decode cX6_sliceNow 75 = .ok (.iconst 0, 1) := by decide +kernel
theorem dX6_sliceNow_76 : decode cX6_sliceNow 76 = .ok (.ireturn, 1) := by decide +kernel
theorem dX6_sliceNow_77 : decode cX6_sliceNow 77 = .ok (.aload_n 0, 1) := by decide +kernel
theorem dX6_sliceNow_78 : decode cX6_sliceNow 78 = .ok (.iload_n 1, 1) := by decide +kernel
theorem dX6_sliceNow_79 : decode cX6_sliceNow 79 = .ok (.iload_n 2, 1) := by decide +kernel
theorem dX6_sliceNow_80 : decode cX6_sliceNow 80 = .ok (.invokevirtual 70, 3) := by decide +kernel
theorem dX6_sliceNow_83 : decode cX6_sliceNow 83 = .ok (.ireturn, 1) := by decide +kernel
theorem dX6_sliceNow_84 : decode cX6_sliceNow 84 = .ok (.aload_n 0, 1) := by decide +kernel
theorem dX6_sliceNow_85 : decode cX6_sliceNow 85 = .ok (.iload_n 1, 1) := by decide +kernel
theorem dX6_sliceNow_86 : decode cX6_sliceNow 86 = .ok (.iload_n 2, 1) := by decide +kernel
theorem dX6_sliceNow_87 : decode cX6_sliceNow 87 = .ok (.invokevirtual 47, 3) := by decide +kernel
theorem dX6_sliceNow_90 : decode cX6_sliceNow 90 = .ok (.ireturn, 1) := by decide +kernel
theorem dX6_sliceNow_91 : decode cX6_sliceNow 91 = .ok (.aload_n 0, 1) := by decide +kernel
theorem dX6_sliceNow_92 : decode cX6_sliceNow 92 = .ok (.iload_n 1, 1) := by decide +kernel
theorem dX6_sliceNow_93 : decode cX6_sliceNow 93 = .ok (.iload_n 2, 1) := by decide +kernel
theorem dX6_sliceNow_94 : decode cX6_sliceNow 94 = .ok (.invokevirtual 54, 3) := by decide +kernel
theorem dX6_sliceNow_97 : decode cX6_sliceNow 97 = .ok (.ireturn, 1) := by decide +kernel
theorem dX6_sliceNow_98 : decode cX6_sliceNow 98 = .ok (.aload_n 0, 1) := by decide +kernel
theorem dX6_sliceNow_99 : decode cX6_sliceNow 99 = .ok (.getfield 7, 3) := by decide +kernel
theorem dX6_sliceNow_102 : decode cX6_sliceNow 102 = .ok (.iload_n 1, 1) := by decide +kernel
theorem dX6_sliceNow_103 : decode cX6_sliceNow 103 = .ok (.iload_n 2, 1) := by decide +kernel
theorem dX6_sliceNow_104 : decode cX6_sliceNow 104 = .ok (.iload_n 3, 1) := by decide +kernel
theorem dX6_sliceNow_105 : decode cX6_sliceNow 105 = .ok (.invokestatic 33, 3) := by decide +kernel
theorem dX6_sliceNow_108 : decode cX6_sliceNow 108 = .ok (.iaload, 1) := by decide +kernel
theorem dX6_sliceNow_109 : decode cX6_sliceNow 109 = .ok (.ireturn, 1) := by decide +kernel
set_option maxRecDepth 20000 in
theorem ggX6_slice_X6_isJar : GoodIn wsX6_slice wsX6_isJar := goodIn_r _ [5, 6, 7, 4, 8] (by decide +kernel) (by decide +kernel)
set_option maxRecDepth 20000 in
theorem gX6_slice_X6_isJar : GoodIn wsX6_slice (va_wsS RX6 92 yX6_isJar wsX6_isJar) := goodIn_app (goodIn_of _ (by decide +kernel)) ggX6_slice_X6_isJar
set_option maxRecDepth 20000 in
theorem ggX6_slice_X6_isSlice : GoodIn wsX6_slice wsX6_isSlice := goodIn_r _ [11, 6, 7, 4, 8] (by decide +kernel) (by decide +kernel)
set_option maxRecDepth 20000 in
theorem gX6_slice_X6_isSlice : GoodIn wsX6_slice (va_wsS RX6 95 yX6_isSlice wsX6_isSlice) := goodIn_app (goodIn_of _ (by decide +kernel)) ggX6_slice_X6_isSlice
set_option maxRecDepth 20000 in
theorem ggX6_slice_X6_within : GoodIn wsX6_slice wsX6_within := goodIn_r _ [8] (by decide +kernel) (by decide +kernel)
set_option maxRecDepth 20000 in
theorem gX6_slice_X6_within : GoodIn wsX6_slice (va_wsS RX6 29 yX6_within wsX6_within) := goodIn_app (goodIn_of _ (by decide +kernel)) ggX6_slice_X6_within
set_option maxRecDepth 20000 in
theorem ggX6_slice_X6_sliceNow : GoodIn wsX6_slice wsX6_sliceNow := goodIn_r _ [15, 16, 17, 18, 19, 4, 20, 21, 22, 23, 24, 25, 26, 27, 28, 29, 30, 31, 32, 33, 34, 35, 36, 37, 38, 39, 40, 41, 42, 43, 44, 45, 46, 47, 48, 49, 50, 51, 52, 53, 54, 55, 56, 57, 58, 59, 60] (by decide +kernel) (by decide +kernel)
set_option maxRecDepth 20000 in
theorem gX6_slice_X6_sliceNow : GoodIn wsX6_slice (wsV RX6 152 RX6 yX6_sliceNow wsX6_sliceNow) := goodIn_app (goodIn_of _ (by decide +kernel)) ggX6_slice_X6_sliceNow
theorem dX6_slice_0 : decode cX6_slice 0 = .ok (.iload_n 1, 1) := by decide +kernel
theorem dX6_slice_1 : decode cX6_slice 1 = .ok (.invokestatic 92, 3) := by decide +kernel
theorem dX6_slice_4 : decode cX6_slice 4 = .ok (.ifCond .eq 14, 3) := by decide +kernel
theorem dX6_slice_7 : decode cX6_slice 7 = .ok (.iload_n 2, 1) := by decide +kernel
theorem dX6_slice_8 : decode cX6_slice 8 = .ok (.invokestatic 95, 3) := by decide +kernel
theorem dX6_slice_11 : decode cX6_slice 11 = .ok (.ifCond .eq 7, 3) := by decide +kernel
theorem dX6_slice_14 : decode cX6_slice 14 = .ok (.iconst 1, 1) := by decide +kernel
theorem dX6_slice_15 : decode cX6_slice 15 = .ok (.goto 4, 3) := by decide +kernel
theorem dX6_slice_18 : decode cX6_slice 18 = .ok (.iconst 0, 1) := by decide +kernel
theorem dX6_slice_19 : decode cX6_slice 19 = .ok (.istore 4, 2) := by decide +kernel
theorem dX6_slice_21 : decode cX6_slice 21 = .ok (.aload_n 0, 1) := by decide +kernel
theorem dX6_slice_22 : decode cX6_slice 22 = .ok (.iload 4, 2) := by decide +kernel
theorem dX6_slice_24 : decode cX6_slice 24 = .ok (.ifCond .ne 7, 3) := by decide +kernel
theorem dX6_slice_27 : decode cX6_slice 27 = .ok (.iconst 1, 1) := by decide +kernel
theorem dX6_slice_28 : decode cX6_slice 28 = .ok (.goto 18, 3) := by decide +kernel
theorem dX6_slice_31 : decode cX6_slice 31 = .ok (.iload_n 3, 1) := by decide +kernel
theorem dX6_slice_32 : decode cX6_slice 32 = .ok (.iconst 0, 1) := by decide +kernel
theorem dX6_slice_33 : decode cX6_slice 33 = .ok (.bipush 9, 2) := by decide +kernel
theorem dX6_slice_35 : decode cX6_slice 35 = .ok (.invokestatic 29, 3) := by decide +kernel
theorem dX6_slice_38 : decode cX6_slice 38 = .ok (.ifCond .eq 7, 3) := by decide +kernel
theorem dX6_slice_41 : decode cX6_slice 41 = .ok (.iconst 0, 1) := by decide +kernel
theorem dX6_slice_42 : decode cX6_slice 42 = .ok (.goto 4, 3) := by decide +kernel
theorem dX6_slice_45 : decode cX6_slice 45 = .ok (.iconst 2, 1) := by decide +kernel
theorem dX6_slice_46 : decode cX6_slice 46 = .ok (.putfield 25, 3) := by decide +kernel
theorem dX6_slice_49 : decode cX6_slice 49 = .ok (.aload_n 0, 1) := by decide +kernel
theorem dX6_slice_50 : decode cX6_slice 50 = .ok (.getfield 25, 3) := by decide +kernel
theorem dX6_slice_53 : decode cX6_slice 53 = .ok (.ifCond .le 7, 3) := by decide +kernel
theorem dX6_slice_56 : decode cX6_slice 56 = .ok (.iconst 0, 1) := by decide +kernel
theorem dX6_slice_57 : decode cX6_slice 57 = .ok (.goto 10, 3) := by decide +kernel
theorem dX6_slice_60 : decode cX6_slice 60 = .ok (.aload_n 0, 1) := by decide +kernel
theorem dX6_slice_61 : decode cX6_slice 61 = .ok (.iload_n 1, 1) := by decide +kernel
theorem dX6_slice_62 : decode cX6_slice 62 = .ok (.iload_n 2, 1) := by decide +kernel
theorem dX6_slice_63 : decode cX6_slice 63 = .ok (.iload_n 3, 1) := by decide +kernel
theorem dX6_slice_64 : decode cX6_slice 64 = .ok (.invokevirtual 152, 3) := by decide +kernel
theorem dX6_slice_67 : decode cX6_slice 67 = .ok (.ireturn, 1) := by decide +kernel
set_option maxRecDepth 20000 in
theorem ggX6_isAtRest_X6_whyNot : GoodIn wsX6_isAtRest wsX6_whyNot := goodIn_r _ [5, 6, 7, 8, 4, 9, 10, 11, 12, 13, 14, 15, 16, 17, 18, 19, 20, 21, 22, 23, 24, 25, 26, 27, 28, 29, 30, 31, 32, 33, 34, 35, 36, 37, 38, 39, 40, 41, 42, 43] (by decide +kernel) (by decide +kernel)
set_option maxRecDepth 20000 in
theorem gX6_isAtRest_X6_whyNot : GoodIn wsX6_isAtRest (wsV RX6 155 RX6 yX6_whyNot wsX6_whyNot) := goodIn_app (goodIn_of _ (by decide +kernel)) ggX6_isAtRest_X6_whyNot
theorem dX6_isAtRest_0 : decode cX6_isAtRest 0 = .ok (.iconst 1, 1) := by decide +kernel
theorem dX6_isAtRest_1 : decode cX6_isAtRest 1 = .ok (.istore_n 2, 1) := by decide +kernel
theorem dX6_isAtRest_2 : decode cX6_isAtRest 2 = .ok (.iconst 0, 1) := by decide +kernel
theorem dX6_isAtRest_3 : decode cX6_isAtRest 3 = .ok (.istore_n 3, 1) := by decide +kernel
theorem dX6_isAtRest_4 : decode cX6_isAtRest 4 = .ok (.iload_n 3, 1) := by decide +kernel
theorem dX6_isAtRest_5 : decode cX6_isAtRest 5 = .ok (.bipush 12, 2) := by decide +kernel
theorem dX6_isAtRest_7 : decode cX6_isAtRest 7 = .ok (.if_icmp .ge 45, 3) := by decide +kernel
theorem dX6_isAtRest_10 : decode cX6_isAtRest 10 = .ok (.iconst 0, 1) := by decide +kernel
theorem dX6_isAtRest_11 : decode cX6_isAtRest 11 = .ok (.istore 4, 2) := by decide +kernel
theorem dX6_isAtRest_13 : decode cX6_isAtRest 13 = .ok (.iload 4, 2) := by decide +kernel
theorem dX6_isAtRest_15 : decode cX6_isAtRest 15 = .ok (.iconst 4, 1) := by decide +kernel
theorem dX6_isAtRest_16 : decode cX6_isAtRest 16 = .ok (.if_icmp .ge 30, 3) := by decide +kernel
theorem dX6_isAtRest_19 : decode cX6_isAtRest 19 = .ok (.iload_n 2, 1) := by decide +kernel
theorem dX6_isAtRest_20 : decode cX6_isAtRest 20 = .ok (.ifCond .eq 18, 3) := by decide +kernel
theorem dX6_isAtRest_23 : decode cX6_isAtRest 23 = .ok (.aload_n 0, 1) := by decide +kernel
theorem dX6_isAtRest_24 : decode cX6_isAtRest 24 = .ok (.iload_n 1, 1) := by decide +kernel
theorem dX6_isAtRest_25 : decode cX6_isAtRest 25 = .ok (.iload_n 3, 1) := by decide +kernel
theorem dX6_isAtRest_26 : decode cX6_isAtRest 26 = .ok (.iload 4, 2) := by decide +kernel
theorem dX6_isAtRest_28 : decode cX6_isAtRest 28 = .ok (.invokevirtual 155, 3) := by decide +kernel
theorem dX6_isAtRest_31 : decode cX6_isAtRest 31 = .ok (.ifCond .le 7, 3) := by decide +kernel
theorem dX6_isAtRest_34 : decode cX6_isAtRest 34 = .ok (.iconst 1, 1) := by decide +kernel
theorem dX6_isAtRest_35 : decode cX6_isAtRest 35 = .ok (.goto 4, 3) := by decide +kernel
theorem dX6_isAtRest_38 : decode cX6_isAtRest 38 = .ok (.iconst 0, 1) := by decide +kernel
theorem dX6_isAtRest_39 : decode cX6_isAtRest 39 = .ok (.istore_n 2, 1) := by decide +kernel
theorem dX6_isAtRest_40 : decode cX6_isAtRest 40 = .ok (.iinc 4 1, 3) := by decide +kernel
theorem dX6_isAtRest_43 : decode cX6_isAtRest 43 = .ok (.goto (-30), 3) := by decide +kernel
theorem dX6_isAtRest_46 : decode cX6_isAtRest 46 = .ok (.iinc 3 1, 3) := by decide +kernel
theorem dX6_isAtRest_49 : decode cX6_isAtRest 49 = .ok (.goto (-45), 3) := by decide +kernel
theorem dX6_isAtRest_52 : decode cX6_isAtRest 52 = .ok (.iload_n 2, 1) := by decide +kernel
theorem dX6_isAtRest_53 : decode cX6_isAtRest 53 = .ok (.ireturn, 1) := by decide +kernel
set_option maxRecDepth 20000 in
theorem ggX6_jarNow_X6_inJar : GoodIn wsX6_jarNow wsX6_inJar := goodIn_r _ [5, 6, 7, 8, 4, 9, 10, 11, 12, 13, 72, 73, 74, 75, 76, 77, 78, 79, 80, 81, 82, 83] (by decide +kernel) (by decide +kernel)
set_option maxRecDepth 20000 in
theorem gX6_jarNow_X6_inJar : GoodIn wsX6_jarNow (wsV RX6 98 RX6 yX6_inJar wsX6_inJar) := goodIn_app (goodIn_of _ (by decide +kernel)) ggX6_jarNow_X6_inJar
set_option maxRecDepth 20000 in
theorem ggX6_jarNow_X6_bed : GoodIn wsX6_jarNow wsX6_bed := goodIn_r _ [17, 18, 19, 20, 4, 21, 6, 7, 8, 9, 10, 11, 12, 13, 22, 23, 24, 25, 72, 73, 74, 75, 76, 77, 78, 79, 80, 81, 82, 83] (by decide +kernel) (by decide +kernel)
set_option maxRecDepth 20000 in
theorem gX6_jarNow_X6_bed : GoodIn wsX6_jarNow (wsV RX6 67 RX6 yX6_bed wsX6_bed) := goodIn_app (goodIn_of _ (by decide +kernel)) ggX6_jarNow_X6_bed
set_option maxRecDepth 20000 in
theorem ggX6_jarNow_X6_clearWater : GoodIn wsX6_jarNow wsX6_clearWater := goodIn_r _ [29, 30, 31, 32, 4, 33, 6, 7, 8, 9, 10, 11, 12, 13, 22, 23, 24, 25, 72, 73, 74, 75, 76, 77, 78, 79, 80, 81, 82, 83] (by decide +kernel) (by decide +kernel)
set_option maxRecDepth 20000 in
theorem gX6_jarNow_X6_clearWater : GoodIn wsX6_jarNow (wsV RX6 158 RX6 yX6_clearWater wsX6_clearWater) := goodIn_app (goodIn_of _ (by decide +kernel)) ggX6_jarNow_X6_clearWater
set_option maxRecDepth 20000 in
theorem ggX6_jarNow_X6_inBed : GoodIn wsX6_jarNow wsX6_inBed := goodIn_r _ [37, 14, 15, 16, 4, 17, 18, 19, 20, 21, 6, 7, 8, 9, 10, 11, 12, 13, 22, 23, 24, 25, 72, 73, 74, 75, 76, 77, 78, 79, 80, 81, 82, 83] (by decide +kernel) (by decide +kernel)
set_option maxRecDepth 20000 in
theorem gX6_jarNow_X6_inBed : GoodIn wsX6_jarNow (wsV RX6 161 RX6 yX6_inBed wsX6_inBed) := goodIn_app (goodIn_of _ (by decide +kernel)) ggX6_jarNow_X6_inBed
set_option maxRecDepth 20000 in
theorem ggX6_jarNow_X6_changes : GoodIn wsX6_jarNow wsX6_changes := goodIn_r _ [41, 42, 43, 44, 4, 45, 10, 11, 12, 13, 72, 73, 74, 75, 76, 77, 78, 79, 80, 81, 82, 83] (by decide +kernel) (by decide +kernel)
set_option maxRecDepth 20000 in
theorem gX6_jarNow_X6_changes : GoodIn wsX6_jarNow (wsV RX6 164 RX6 yX6_changes wsX6_changes) := goodIn_app (goodIn_of _ (by decide +kernel)) ggX6_jarNow_X6_changes
set_option maxRecDepth 20000 in
theorem ggX6_jarNow_X6_isAtRest : GoodIn wsX6_jarNow wsX6_isAtRest := goodIn_r _ [49, 50, 51, 52, 4, 53, 10, 11, 12, 13, 54, 55, 56, 57, 22, 23, 24, 25, 6, 7, 8, 9, 58, 59, 60, 61, 62, 63, 64, 65, 66, 67, 72, 73, 74, 75, 76, 77, 78, 79, 80, 81, 82, 83] (by decide +kernel) (by decide +kernel)
set_option maxRecDepth 20000 in
theorem gX6_jarNow_X6_isAtRest : GoodIn wsX6_jarNow (wsV RX6 167 RX6 yX6_isAtRest wsX6_isAtRest) := goodIn_app (goodIn_of _ (by decide +kernel)) ggX6_jarNow_X6_isAtRest
set_option maxRecDepth 20000 in
theorem ggX6_jarNow_X6_ofClass : GoodIn wsX6_jarNow wsX6_ofClass := goodIn_r _ [71, 10, 11, 12, 4, 13, 72, 73, 74, 75, 76, 77, 78, 79, 80, 81, 82, 83] (by decide +kernel) (by decide +kernel)
set_option maxRecDepth 20000 in
theorem gX6_jarNow_X6_ofClass : GoodIn wsX6_jarNow (wsV RX6 170 RX6 yX6_ofClass wsX6_ofClass) := goodIn_app (goodIn_of _ (by decide +kernel)) ggX6_jarNow_X6_ofClass
theorem dX6_jarNow_0 : decode cX6_jarNow 0 = .ok (.iload_n 2, 1) := by decide +kernel
theorem dX6_jarNow_1 : decode cX6_jarNow 1 = .ok (.tableswitch 99 0 9 #[55, 99, 99, 99, 99, 61, 67, 73, 79, 85], 55) := by decide +kernel
theorem dX6_jarNow_56 : decode cX6_jarNow 56 = .ok (.aload_n 0, 1) := by decide +kernel
theorem dX6_jarNow_57 : decode cX6_jarNow 57 = .ok (.iload_n 1, 1) := by decide +kernel
theorem dX6_jarNow_58 : decode cX6_jarNow 58 = .ok (.invokevirtual 98, 3) := by decide +kernel
theorem dX6_jarNow_61 : decode cX6_jarNow 61 = .ok (.ireturn, 1) := by decide +kernel
theorem dX6_jarNow_62 : decode cX6_jarNow 62 = .ok (.aload_n 0, 1) := by decide +kernel
theorem dX6_jarNow_63 : decode cX6_jarNow 63 = .ok (.iload_n 1, 1) := by decide +kernel
theorem dX6_jarNow_64 : decode cX6_jarNow 64 = .ok (.invokevirtual 67, 3) := by decide +kernel
theorem dX6_jarNow_67 : decode cX6_jarNow 67 = .ok (.ireturn, 1) := by decide +kernel
theorem dX6_jarNow_68 : decode cX6_jarNow 68 = .ok (.aload_n 0, 1) := by decide +kernel
theorem dX6_jarNow_69 : decode cX6_jarNow 69 = .ok (.iload_n 1, 1) := by decide +kernel
theorem dX6_jarNow_70 : decode cX6_jarNow 70 = .ok (.invokevirtual 158, 3) := by decide +kernel
theorem dX6_jarNow_73 : decode cX6_jarNow 73 = .ok (.ireturn, 1) := by decide +kernel
theorem dX6_jarNow_74 : decode cX6_jarNow 74 = .ok (.aload_n 0, 1) := by decide +kernel
theorem dX6_jarNow_75 : decode cX6_jarNow 75 = .ok (.iload_n 1, 1) := by decide +kernel
theorem dX6_jarNow_76 : decode cX6_jarNow 76 = .ok (.invokevirtual 161, 3) := by decide +kernel
theorem dX6_jarNow_79 : decode cX6_jarNow 79 = .ok (.ireturn, 1) := by decide +kernel
theorem dX6_jarNow_80 : decode cX6_jarNow 80 = .ok (.aload_n 0, 1) := by decide +kernel
theorem dX6_jarNow_81 : decode cX6_jarNow 81 = .ok (.iload_n 1, 1) := by decide +kernel
theorem dX6_jarNow_82 : decode cX6_jarNow 82 = .ok (.invokevirtual 164, 3) := by decide +kernel
theorem dX6_jarNow_85 : decode cX6_jarNow 85 = .ok (.ireturn, 1) := by decide +kernel
theorem dX6_jarNow_86 : decode cX6_jarNow 86 = .ok (.aload_n 0, 1) := by decide +kernel
theorem dX6_jarNow_87 : decode cX6_jarNow 87 = .ok (.iload_n 1, 1) := by decide +kernel
theorem dX6_jarNow_88 : decode cX6_jarNow 88 = .ok (.invokevirtual 167, 3) := by decide +kernel
theorem dX6_jarNow_91 : decode cX6_jarNow 91 = .ok (.ifCond .eq 7, 3) := by decide +kernel
theorem dX6_jarNow_94 : decode cX6_jarNow 94 = .ok (.iconst 1, 1) := by decide +kernel
theorem dX6_jarNow_95 : decode cX6_jarNow 95 = .ok (.goto 4, 3) := by decide +kernel
theorem dX6_jarNow_98 : decode cX6_jarNow 98 = .ok (.iconst 0, 1) := by decide +kernel
theorem dX6_jarNow_99 : decode cX6_jarNow 99 = .ok (.ireturn, 1) := by decide +kernel
theorem dX6_jarNow_100 : decode cX6_jarNow 100 = .ok (.aload_n 0, 1) := by decide +kernel
theorem dX6_jarNow_101 : decode cX6_jarNow 101 = .ok (.iload_n 1, 1) := by decide +kernel
theorem dX6_jarNow_102 : decode cX6_jarNow 102 = .ok (.iload_n 2, 1) := by decide +kernel
theorem dX6_jarNow_103 : decode cX6_jarNow 103 = .ok (.iconst 1, 1) := by decide +kernel
theorem dX6_jarNow_104 : decode cX6_jarNow 104 = .ok (.isub, 1) := by decide +kernel
theorem dX6_jarNow_105 : decode cX6_jarNow 105 = .ok (.invokevirtual 170, 3) := by decide +kernel
theorem dX6_jarNow_108 : decode cX6_jarNow 108 = .ok (.ireturn, 1) := by decide +kernel
set_option maxRecDepth 20000 in
theorem ggX6_jar_X6_isJar : GoodIn wsX6_jar wsX6_isJar := goodIn_r _ [5, 6, 7, 4, 8] (by decide +kernel) (by decide +kernel)
set_option maxRecDepth 20000 in
theorem gX6_jar_X6_isJar : GoodIn wsX6_jar (va_wsS RX6 92 yX6_isJar wsX6_isJar) := goodIn_app (goodIn_of _ (by decide +kernel)) ggX6_jar_X6_isJar
set_option maxRecDepth 20000 in
theorem ggX6_jar_X6_within : GoodIn wsX6_jar wsX6_within := goodIn_r _ [8] (by decide +kernel) (by decide +kernel)
set_option maxRecDepth 20000 in
theorem gX6_jar_X6_within : GoodIn wsX6_jar (va_wsS RX6 29 yX6_within wsX6_within) := goodIn_app (goodIn_of _ (by decide +kernel)) ggX6_jar_X6_within
set_option maxRecDepth 20000 in
theorem ggX6_jar_X6_jarNow : GoodIn wsX6_jar wsX6_jarNow := goodIn_r _ [12, 13, 14, 15, 4, 16, 17, 18, 19, 20, 21, 22, 23, 24, 25, 26, 27, 28, 29, 30, 31, 32, 33, 34, 35, 36, 37, 38, 39, 40, 41, 42, 43, 44, 45, 46, 47, 48, 49, 50, 51, 52, 53, 54, 55, 56, 57, 58, 59, 60, 61, 62, 63, 64, 65, 66, 67, 68, 69, 70, 71, 72, 73, 74, 75, 76, 77, 78, 79, 80, 81, 82, 83, 84, 85, 86, 87, 88, 89, 90, 91, 92, 93, 94] (by decide +kernel) (by decide +kernel)
set_option maxRecDepth 20000 in
theorem gX6_jar_X6_jarNow : GoodIn wsX6_jar (wsV RX6 173 RX6 yX6_jarNow wsX6_jarNow) := goodIn_app (goodIn_of _ (by decide +kernel)) ggX6_jar_X6_jarNow
theorem dX6_jar_0 : decode cX6_jar 0 = .ok (.aload_n 0, 1) := by decide +kernel
theorem dX6_jar_1 : decode cX6_jar 1 = .ok (.iload_n 1, 1) := by decide +kernel
theorem dX6_jar_2 : decode cX6_jar 2 = .ok (.invokestatic 92, 3) := by decide +kernel
theorem dX6_jar_5 : decode cX6_jar 5 = .ok (.ifCond .ne 7, 3) := by decide +kernel
theorem dX6_jar_8 : decode cX6_jar 8 = .ok (.iconst 1, 1) := by decide +kernel
theorem dX6_jar_9 : decode cX6_jar 9 = .ok (.goto 18, 3) := by decide +kernel
theorem dX6_jar_12 : decode cX6_jar 12 = .ok (.iload_n 2, 1) := by decide +kernel
theorem dX6_jar_13 : decode cX6_jar 13 = .ok (.iconst 0, 1) := by decide +kernel
theorem dX6_jar_14 : decode cX6_jar 14 = .ok (.bipush 9, 2) := by decide +kernel
theorem dX6_jar_16 : decode cX6_jar 16 = .ok (.invokestatic 29, 3) := by decide +kernel
theorem dX6_jar_19 : decode cX6_jar 19 = .ok (.ifCond .eq 7, 3) := by decide +kernel
theorem dX6_jar_22 : decode cX6_jar 22 = .ok (.iconst 0, 1) := by decide +kernel
theorem dX6_jar_23 : decode cX6_jar 23 = .ok (.goto 4, 3) := by decide +kernel
theorem dX6_jar_26 : decode cX6_jar 26 = .ok (.iconst 2, 1) := by decide +kernel
theorem dX6_jar_27 : decode cX6_jar 27 = .ok (.putfield 25, 3) := by decide +kernel
theorem dX6_jar_30 : decode cX6_jar 30 = .ok (.aload_n 0, 1) := by decide +kernel
theorem dX6_jar_31 : decode cX6_jar 31 = .ok (.getfield 25, 3) := by decide +kernel
theorem dX6_jar_34 : decode cX6_jar 34 = .ok (.ifCond .le 7, 3) := by decide +kernel
theorem dX6_jar_37 : decode cX6_jar 37 = .ok (.iconst 0, 1) := by decide +kernel
theorem dX6_jar_38 : decode cX6_jar 38 = .ok (.goto 9, 3) := by decide +kernel
theorem dX6_jar_41 : decode cX6_jar 41 = .ok (.aload_n 0, 1) := by decide +kernel
theorem dX6_jar_42 : decode cX6_jar 42 = .ok (.iload_n 1, 1) := by decide +kernel
theorem dX6_jar_43 : decode cX6_jar 43 = .ok (.iload_n 2, 1) := by decide +kernel
theorem dX6_jar_44 : decode cX6_jar 44 = .ok (.invokevirtual 173, 3) := by decide +kernel
theorem dX6_jar_47 : decode cX6_jar 47 = .ok (.ireturn, 1) := by decide +kernel
set_option maxRecDepth 20000 in
theorem ggX6_grainsNow_X6_ofClass : GoodIn wsX6_grainsNow wsX6_ofClass := goodIn_r _ [6, 1, 7, 8, 5, 9, 10, 11, 12, 13, 14, 15, 16, 17, 18, 19, 20, 21] (by decide +kernel) (by decide +kernel)
set_option maxRecDepth 20000 in
theorem gX6_grainsNow_X6_ofClass : GoodIn wsX6_grainsNow (wsV RX6 170 RX6 yX6_ofClass wsX6_ofClass) := goodIn_app (goodIn_of _ (by decide +kernel)) ggX6_grainsNow_X6_ofClass
theorem dX6_grainsNow_0 : decode cX6_grainsNow 0 = .ok (.iload_n 2, 1) := by decide +kernel
theorem dX6_grainsNow_1 : decode cX6_grainsNow 1 = .ok (.tableswitch 70 0 2 #[27, 38, 49], 27) := by decide +kernel
theorem dX6_grainsNow_28 : decode cX6_grainsNow 28 = .ok (.aload_n 0, 1) := by decide +kernel
theorem dX6_grainsNow_29 : decode cX6_grainsNow 29 = .ok (.getfield 7, 3) := by decide +kernel
theorem dX6_grainsNow_32 : decode cX6_grainsNow 32 = .ok (.sipush 152, 3) := by decide +kernel
theorem dX6_grainsNow_35 : decode cX6_grainsNow 35 = .ok (.iload_n 1, 1) := by decide +kernel
theorem dX6_grainsNow_36 : decode cX6_grainsNow 36 = .ok (.iadd, 1) := by decide +kernel
theorem dX6_grainsNow_37 : decode cX6_grainsNow 37 = .ok (.iaload, 1) := by decide +kernel
theorem dX6_grainsNow_38 : decode cX6_grainsNow 38 = .ok (.ireturn, 1) := by decide +kernel
theorem dX6_grainsNow_39 : decode cX6_grainsNow 39 = .ok (.aload_n 0, 1) := by decide +kernel
theorem dX6_grainsNow_40 : decode cX6_grainsNow 40 = .ok (.getfield 7, 3) := by decide +kernel
theorem dX6_grainsNow_43 : decode cX6_grainsNow 43 = .ok (.sipush 156, 3) := by decide +kernel
theorem dX6_grainsNow_46 : decode cX6_grainsNow 46 = .ok (.iload_n 1, 1) := by decide +kernel
theorem dX6_grainsNow_47 : decode cX6_grainsNow 47 = .ok (.iadd, 1) := by decide +kernel
theorem dX6_grainsNow_48 : decode cX6_grainsNow 48 = .ok (.iaload, 1) := by decide +kernel
theorem dX6_grainsNow_49 : decode cX6_grainsNow 49 = .ok (.ireturn, 1) := by decide +kernel
theorem dX6_grainsNow_50 : decode cX6_grainsNow 50 = .ok (.aload_n 0, 1) := by decide +kernel
theorem dX6_grainsNow_51 : decode cX6_grainsNow 51 = .ok (.iconst 0, 1) := by decide +kernel
theorem dX6_grainsNow_52 : decode cX6_grainsNow 52 = .ok (.iload_n 1, 1) := by decide +kernel
theorem dX6_grainsNow_53 : decode cX6_grainsNow 53 = .ok (.invokevirtual 170, 3) := by decide +kernel
theorem dX6_grainsNow_56 : decode cX6_grainsNow 56 = .ok (.aload_n 0, 1) := by decide +kernel
theorem dX6_grainsNow_57 : decode cX6_grainsNow 57 = .ok (.iconst 1, 1) := by decide +kernel
theorem dX6_grainsNow_58 : decode cX6_grainsNow 58 = .ok (.iload_n 1, 1) := by decide +kernel
theorem dX6_grainsNow_59 : decode cX6_grainsNow 59 = .ok (.invokevirtual 170, 3) := by decide +kernel
theorem dX6_grainsNow_62 : decode cX6_grainsNow 62 = .ok (.iadd, 1) := by decide +kernel
theorem dX6_grainsNow_63 : decode cX6_grainsNow 63 = .ok (.aload_n 0, 1) := by decide +kernel
theorem dX6_grainsNow_64 : decode cX6_grainsNow 64 = .ok (.iconst 2, 1) := by decide +kernel
theorem dX6_grainsNow_65 : decode cX6_grainsNow 65 = .ok (.iload_n 1, 1) := by decide +kernel
theorem dX6_grainsNow_66 : decode cX6_grainsNow 66 = .ok (.invokevirtual 170, 3) := by decide +kernel
theorem dX6_grainsNow_69 : decode cX6_grainsNow 69 = .ok (.iadd, 1) := by decide +kernel
theorem dX6_grainsNow_70 : decode cX6_grainsNow 70 = .ok (.ireturn, 1) := by decide +kernel
theorem dX6_grainsNow_71 : decode cX6_grainsNow 71 = .ok (.aload_n 0, 1) := by decide +kernel
theorem dX6_grainsNow_72 : decode cX6_grainsNow 72 = .ok (.getfield 7, 3) := by decide +kernel
theorem dX6_grainsNow_75 : decode cX6_grainsNow 75 = .ok (.sipush 148, 3) := by decide +kernel
theorem dX6_grainsNow_78 : decode cX6_grainsNow 78 = .ok (.iload_n 1, 1) := by decide +kernel
theorem dX6_grainsNow_79 : decode cX6_grainsNow 79 = .ok (.iadd, 1) := by decide +kernel
theorem dX6_grainsNow_80 : decode cX6_grainsNow 80 = .ok (.iaload, 1) := by decide +kernel
theorem dX6_grainsNow_81 : decode cX6_grainsNow 81 = .ok (.ireturn, 1) := by decide +kernel
set_option maxRecDepth 20000 in
theorem ggX6_grains_X6_isClass : GoodIn wsX6_grains wsX6_isClass := goodIn_r _ [5, 6, 7, 4, 8] (by decide +kernel) (by decide +kernel)
set_option maxRecDepth 20000 in
theorem gX6_grains_X6_isClass : GoodIn wsX6_grains (va_wsS RX6 89 yX6_isClass wsX6_isClass) := goodIn_app (goodIn_of _ (by decide +kernel)) ggX6_grains_X6_isClass
set_option maxRecDepth 20000 in
theorem ggX6_grains_X6_within : GoodIn wsX6_grains wsX6_within := goodIn_r _ [8] (by decide +kernel) (by decide +kernel)
set_option maxRecDepth 20000 in
theorem gX6_grains_X6_within : GoodIn wsX6_grains (va_wsS RX6 29 yX6_within wsX6_within) := goodIn_app (goodIn_of _ (by decide +kernel)) ggX6_grains_X6_within
set_option maxRecDepth 20000 in
theorem ggX6_grains_X6_grainsNow : GoodIn wsX6_grains wsX6_grainsNow := goodIn_r _ [12, 13, 14, 15, 16, 4, 17, 18, 19, 20, 21, 22, 23, 24, 25, 26, 27, 28, 29, 30, 31, 32] (by decide +kernel) (by decide +kernel)
set_option maxRecDepth 20000 in
theorem gX6_grains_X6_grainsNow : GoodIn wsX6_grains (wsV RX6 176 RX6 yX6_grainsNow wsX6_grainsNow) := goodIn_app (goodIn_of _ (by decide +kernel)) ggX6_grains_X6_grainsNow
theorem dX6_grains_0 : decode cX6_grains 0 = .ok (.aload_n 0, 1) := by decide +kernel
theorem dX6_grains_1 : decode cX6_grains 1 = .ok (.iload_n 1, 1) := by decide +kernel
theorem dX6_grains_2 : decode cX6_grains 2 = .ok (.invokestatic 89, 3) := by decide +kernel
theorem dX6_grains_5 : decode cX6_grains 5 = .ok (.ifCond .ne 7, 3) := by decide +kernel
theorem dX6_grains_8 : decode cX6_grains 8 = .ok (.iconst 1, 1) := by decide +kernel
theorem dX6_grains_9 : decode cX6_grains 9 = .ok (.goto 17, 3) := by decide +kernel
theorem dX6_grains_12 : decode cX6_grains 12 = .ok (.iload_n 2, 1) := by decide +kernel
theorem dX6_grains_13 : decode cX6_grains 13 = .ok (.iconst 0, 1) := by decide +kernel
theorem dX6_grains_14 : decode cX6_grains 14 = .ok (.iconst 3, 1) := by decide +kernel
theorem dX6_grains_15 : decode cX6_grains 15 = .ok (.invokestatic 29, 3) := by decide +kernel
theorem dX6_grains_18 : decode cX6_grains 18 = .ok (.ifCond .eq 7, 3) := by decide +kernel
theorem dX6_grains_21 : decode cX6_grains 21 = .ok (.iconst 0, 1) := by decide +kernel
theorem dX6_grains_22 : decode cX6_grains 22 = .ok (.goto 4, 3) := by decide +kernel
theorem dX6_grains_25 : decode cX6_grains 25 = .ok (.iconst 2, 1) := by decide +kernel
theorem dX6_grains_26 : decode cX6_grains 26 = .ok (.putfield 25, 3) := by decide +kernel
theorem dX6_grains_29 : decode cX6_grains 29 = .ok (.aload_n 0, 1) := by decide +kernel
theorem dX6_grains_30 : decode cX6_grains 30 = .ok (.getfield 25, 3) := by decide +kernel
theorem dX6_grains_33 : decode cX6_grains 33 = .ok (.ifCond .le 7, 3) := by decide +kernel
theorem dX6_grains_36 : decode cX6_grains 36 = .ok (.iconst 0, 1) := by decide +kernel
theorem dX6_grains_37 : decode cX6_grains 37 = .ok (.goto 9, 3) := by decide +kernel
theorem dX6_grains_40 : decode cX6_grains 40 = .ok (.aload_n 0, 1) := by decide +kernel
theorem dX6_grains_41 : decode cX6_grains 41 = .ok (.iload_n 1, 1) := by decide +kernel
theorem dX6_grains_42 : decode cX6_grains 42 = .ok (.iload_n 2, 1) := by decide +kernel
theorem dX6_grains_43 : decode cX6_grains 43 = .ok (.invokevirtual 176, 3) := by decide +kernel
theorem dX6_grains_46 : decode cX6_grains 46 = .ok (.ireturn, 1) := by decide +kernel
set_option maxRecDepth 20000 in
theorem ggX6_clearAll_X6_isClear : GoodIn wsX6_clearAll wsX6_isClear := goodIn_r _ [5, 6, 7, 8, 4, 9, 10, 11, 12, 13, 14, 15, 16, 17, 18, 19, 20, 21, 22, 23, 24, 25, 26, 27, 28, 29] (by decide +kernel) (by decide +kernel)
set_option maxRecDepth 20000 in
theorem gX6_clearAll_X6_isClear : GoodIn wsX6_clearAll (wsV RX6 64 RX6 yX6_isClear wsX6_isClear) := goodIn_app (goodIn_of _ (by decide +kernel)) ggX6_clearAll_X6_isClear
theorem dX6_clearAll_0 : decode cX6_clearAll 0 = .ok (.iconst 0, 1) := by decide +kernel
theorem dX6_clearAll_1 : decode cX6_clearAll 1 = .ok (.istore_n 1, 1) := by decide +kernel
theorem dX6_clearAll_2 : decode cX6_clearAll 2 = .ok (.iconst 0, 1) := by decide +kernel
theorem dX6_clearAll_3 : decode cX6_clearAll 3 = .ok (.istore_n 2, 1) := by decide +kernel
theorem dX6_clearAll_4 : decode cX6_clearAll 4 = .ok (.iload_n 2, 1) := by decide +kernel
theorem dX6_clearAll_5 : decode cX6_clearAll 5 = .ok (.bipush 36, 2) := by decide +kernel
theorem dX6_clearAll_7 : decode cX6_clearAll 7 = .ok (.if_icmp .ge 32, 3) := by decide +kernel
theorem dX6_clearAll_10 : decode cX6_clearAll 10 = .ok (.iload_n 1, 1) := by decide +kernel
theorem dX6_clearAll_11 : decode cX6_clearAll 11 = .ok (.aload_n 0, 1) := by decide +kernel
theorem dX6_clearAll_12 : decode cX6_clearAll 12 = .ok (.iload_n 2, 1) := by decide +kernel
theorem dX6_clearAll_13 : decode cX6_clearAll 13 = .ok (.bipush 12, 2) := by decide +kernel
theorem dX6_clearAll_15 : decode cX6_clearAll 15 = .ok (.idiv, 1) := by decide +kernel
theorem dX6_clearAll_16 : decode cX6_clearAll 16 = .ok (.iload_n 2, 1) := by decide +kernel
theorem dX6_clearAll_17 : decode cX6_clearAll 17 = .ok (.bipush 12, 2) := by decide +kernel
theorem dX6_clearAll_19 : decode cX6_clearAll 19 = .ok (.irem, 1) := by decide +kernel
theorem dX6_clearAll_20 : decode cX6_clearAll 20 = .ok (.invokevirtual 64, 3) := by decide +kernel
theorem dX6_clearAll_23 : decode cX6_clearAll 23 = .ok (.ifCond .eq 7, 3) := by decide +kernel
theorem dX6_clearAll_26 : decode cX6_clearAll 26 = .ok (.iconst 1, 1) := by decide +kernel
theorem dX6_clearAll_27 : decode cX6_clearAll 27 = .ok (.goto 4, 3) := by decide +kernel
theorem dX6_clearAll_30 : decode cX6_clearAll 30 = .ok (.iconst 0, 1) := by decide +kernel
theorem dX6_clearAll_31 : decode cX6_clearAll 31 = .ok (.iadd, 1) := by decide +kernel
theorem dX6_clearAll_32 : decode cX6_clearAll 32 = .ok (.istore_n 1, 1) := by decide +kernel
theorem dX6_clearAll_33 : decode cX6_clearAll 33 = .ok (.iinc 2 1, 3) := by decide +kernel
theorem dX6_clearAll_36 : decode cX6_clearAll 36 = .ok (.goto (-32), 3) := by decide +kernel
theorem dX6_clearAll_39 : decode cX6_clearAll 39 = .ok (.iload_n 1, 1) := by decide +kernel
theorem dX6_clearAll_40 : decode cX6_clearAll 40 = .ok (.ireturn, 1) := by decide +kernel
set_option maxRecDepth 20000 in
theorem ggX6_counted_X6_inJar : GoodIn wsX6_counted wsX6_inJar := goodIn_r _ [7, 8, 9, 10, 6, 11, 1, 12, 13, 14, 35, 36, 37, 38, 39, 40, 41, 42, 43, 44, 45, 46] (by decide +kernel) (by decide +kernel)
set_option maxRecDepth 20000 in
theorem gX6_counted_X6_inJar : GoodIn wsX6_counted (wsV RX6 98 RX6 yX6_inJar wsX6_inJar) := goodIn_app (goodIn_of _ (by decide +kernel)) ggX6_counted_X6_inJar
set_option maxRecDepth 20000 in
theorem ggX6_counted_X6_packedIn : GoodIn wsX6_counted wsX6_packedIn := goodIn_r _ [18, 19, 20, 21, 6, 22, 8, 9, 10, 11, 1, 12, 13, 14, 23, 24, 25, 26, 35, 36, 37, 38, 39, 40, 41, 42, 43, 44, 45, 46] (by decide +kernel) (by decide +kernel)
set_option maxRecDepth 20000 in
theorem gX6_counted_X6_packedIn : GoodIn wsX6_counted (wsV RX6 108 RX6 yX6_packedIn wsX6_packedIn) := goodIn_app (goodIn_of _ (by decide +kernel)) ggX6_counted_X6_packedIn
set_option maxRecDepth 20000 in
theorem ggX6_counted_X6_clearAll : GoodIn wsX6_counted wsX6_clearAll := goodIn_r _ [30, 31, 32, 33, 6, 34, 8, 9, 10, 11, 1, 12, 13, 14, 23, 24, 25, 26, 35, 36, 37, 38, 39, 40, 41, 42, 43, 44, 45, 46] (by decide +kernel) (by decide +kernel)
set_option maxRecDepth 20000 in
theorem gX6_counted_X6_clearAll : GoodIn wsX6_counted (wsV RX6 179 RX6 yX6_clearAll wsX6_clearAll) := goodIn_app (goodIn_of _ (by decide +kernel)) ggX6_counted_X6_clearAll
theorem dX6_counted_0 : decode cX6_counted 0 = .ok (.iload_n 1, 1) := by decide +kernel
theorem dX6_counted_1 : decode cX6_counted 1 = .ok (.tableswitch 94 0 4 #[35, 44, 62, 80, 85], 35) := by decide +kernel
theorem dX6_counted_36 : decode cX6_counted 36 = .ok (.aload_n 0, 1) := by decide +kernel
theorem dX6_counted_37 : decode cX6_counted 37 = .ok (.getfield 7, 3) := by decide +kernel
theorem dX6_counted_40 : decode cX6_counted 40 = .ok (.sipush 160, 3) := by decide +kernel
theorem dX6_counted_43 : decode cX6_counted 43 = .ok (.iaload, 1) := by decide +kernel
theorem dX6_counted_44 : decode cX6_counted 44 = .ok (.ireturn, 1) := by decide +kernel
theorem dX6_counted_45 : decode cX6_counted 45 = .ok (.aload_n 0, 1) := by decide +kernel
theorem dX6_counted_46 : decode cX6_counted 46 = .ok (.iconst 0, 1) := by decide +kernel
theorem dX6_counted_47 : decode cX6_counted 47 = .ok (.invokevirtual 98, 3) := by decide +kernel
theorem dX6_counted_50 : decode cX6_counted 50 = .ok (.aload_n 0, 1) := by decide +kernel
theorem dX6_counted_51 : decode cX6_counted 51 = .ok (.iconst 1, 1) := by decide +kernel
theorem dX6_counted_52 : decode cX6_counted 52 = .ok (.invokevirtual 98, 3) := by decide +kernel
theorem dX6_counted_55 : decode cX6_counted 55 = .ok (.iadd, 1) := by decide +kernel
theorem dX6_counted_56 : decode cX6_counted 56 = .ok (.aload_n 0, 1) := by decide +kernel
theorem dX6_counted_57 : decode cX6_counted 57 = .ok (.iconst 2, 1) := by decide +kernel
theorem dX6_counted_58 : decode cX6_counted 58 = .ok (.invokevirtual 98, 3) := by decide +kernel
theorem dX6_counted_61 : decode cX6_counted 61 = .ok (.iadd, 1) := by decide +kernel
theorem dX6_counted_62 : decode cX6_counted 62 = .ok (.ireturn, 1) := by decide +kernel
theorem dX6_counted_63 : decode cX6_counted 63 = .ok (.aload_n 0, 1) := by decide +kernel
theorem dX6_counted_64 : decode cX6_counted 64 = .ok (.iconst 0, 1) := by decide +kernel
theorem dX6_counted_65 : decode cX6_counted 65 = .ok (.invokevirtual 108, 3) := by decide +kernel
theorem dX6_counted_68 : decode cX6_counted 68 = .ok (.aload_n 0, 1) := by decide +kernel
theorem dX6_counted_69 : decode cX6_counted 69 = .ok (.iconst 1, 1) := by decide +kernel
theorem dX6_counted_70 : decode cX6_counted 70 = .ok (.invokevirtual 108, 3) := by decide +kernel
theorem dX6_counted_73 : decode cX6_counted 73 = .ok (.iadd, 1) := by decide +kernel
theorem dX6_counted_74 : decode cX6_counted 74 = .ok (.aload_n 0, 1) := by decide +kernel
theorem dX6_counted_75 : decode cX6_counted 75 = .ok (.iconst 2, 1) := by decide +kernel
theorem dX6_counted_76 : decode cX6_counted 76 = .ok (.invokevirtual 108, 3) := by decide +kernel
theorem dX6_counted_79 : decode cX6_counted 79 = .ok (.iadd, 1) := by decide +kernel
theorem dX6_counted_80 : decode cX6_counted 80 = .ok (.ireturn, 1) := by decide +kernel
theorem dX6_counted_81 : decode cX6_counted 81 = .ok (.aload_n 0, 1) := by decide +kernel
theorem dX6_counted_82 : decode cX6_counted 82 = .ok (.invokevirtual 179, 3) := by decide +kernel
theorem dX6_counted_85 : decode cX6_counted 85 = .ok (.ireturn, 1) := by decide +kernel
theorem dX6_counted_86 : decode cX6_counted 86 = .ok (.aload_n 0, 1) := by decide +kernel
theorem dX6_counted_87 : decode cX6_counted 87 = .ok (.getfield 7, 3) := by decide +kernel
theorem dX6_counted_90 : decode cX6_counted 90 = .ok (.sipush 161, 3) := by decide +kernel
theorem dX6_counted_93 : decode cX6_counted 93 = .ok (.iaload, 1) := by decide +kernel
theorem dX6_counted_94 : decode cX6_counted 94 = .ok (.ireturn, 1) := by decide +kernel
theorem dX6_counted_95 : decode cX6_counted 95 = .ok (.aload_n 0, 1) := by decide +kernel
theorem dX6_counted_96 : decode cX6_counted 96 = .ok (.getfield 73, 3) := by decide +kernel
theorem dX6_counted_99 : decode cX6_counted 99 = .ok (.ireturn, 1) := by decide +kernel
set_option maxRecDepth 20000 in
theorem ggX6_count_X6_within : GoodIn wsX6_count wsX6_within := goodIn_r _ [5] (by decide +kernel) (by decide +kernel)
set_option maxRecDepth 20000 in
theorem gX6_count_X6_within : GoodIn wsX6_count (va_wsS RX6 29 yX6_within wsX6_within) := goodIn_app (goodIn_of _ (by decide +kernel)) ggX6_count_X6_within
set_option maxRecDepth 20000 in
theorem ggX6_count_X6_counted : GoodIn wsX6_count wsX6_counted := goodIn_r _ [9, 10, 11, 12, 13, 14, 4, 15, 16, 17, 18, 19, 20, 21, 22, 23, 24, 25, 26, 27, 28, 29, 30, 31, 32, 33, 34, 35, 36, 37, 38, 39, 40, 41, 42, 43, 44, 45, 46, 47, 48, 49, 50, 51, 52, 53, 54] (by decide +kernel) (by decide +kernel)
set_option maxRecDepth 20000 in
theorem gX6_count_X6_counted : GoodIn wsX6_count (wsV RX6 182 RX6 yX6_counted wsX6_counted) := goodIn_app (goodIn_of _ (by decide +kernel)) ggX6_count_X6_counted
theorem dX6_count_0 : decode cX6_count 0 = .ok (.aload_n 0, 1) := by decide +kernel
theorem dX6_count_1 : decode cX6_count 1 = .ok (.iload_n 1, 1) := by decide +kernel
theorem dX6_count_2 : decode cX6_count 2 = .ok (.iconst 0, 1) := by decide +kernel
theorem dX6_count_3 : decode cX6_count 3 = .ok (.iconst 5, 1) := by decide +kernel
theorem dX6_count_4 : decode cX6_count 4 = .ok (.invokestatic 29, 3) := by decide +kernel
theorem dX6_count_7 : decode cX6_count 7 = .ok (.ifCond .eq 7, 3) := by decide +kernel
theorem dX6_count_10 : decode cX6_count 10 = .ok (.iconst 0, 1) := by decide +kernel
theorem dX6_count_11 : decode cX6_count 11 = .ok (.goto 4, 3) := by decide +kernel
theorem dX6_count_14 : decode cX6_count 14 = .ok (.iconst 1, 1) := by decide +kernel
theorem dX6_count_15 : decode cX6_count 15 = .ok (.putfield 25, 3) := by decide +kernel
theorem dX6_count_18 : decode cX6_count 18 = .ok (.aload_n 0, 1) := by decide +kernel
theorem dX6_count_19 : decode cX6_count 19 = .ok (.getfield 25, 3) := by decide +kernel
theorem dX6_count_22 : decode cX6_count 22 = .ok (.ifCond .le 7, 3) := by decide +kernel
theorem dX6_count_25 : decode cX6_count 25 = .ok (.iconst 0, 1) := by decide +kernel
theorem dX6_count_26 : decode cX6_count 26 = .ok (.goto 8, 3) := by decide +kernel
theorem dX6_count_29 : decode cX6_count 29 = .ok (.aload_n 0, 1) := by decide +kernel
theorem dX6_count_30 : decode cX6_count 30 = .ok (.iload_n 1, 1) := by decide +kernel
theorem dX6_count_31 : decode cX6_count 31 = .ok (.invokevirtual 182, 3) := by decide +kernel
theorem dX6_count_34 : decode cX6_count 34 = .ok (.ireturn, 1) := by decide +kernel
set_option maxRecDepth 20000 in
theorem ggX6_setting_X6_isSetting : GoodIn wsX6_setting wsX6_isSetting := goodIn_r _ [5, 6, 7, 4, 8] (by decide +kernel) (by decide +kernel)
set_option maxRecDepth 20000 in
theorem gX6_setting_X6_isSetting : GoodIn wsX6_setting (va_wsS RX6 79 yX6_isSetting wsX6_isSetting) := goodIn_app (goodIn_of _ (by decide +kernel)) ggX6_setting_X6_isSetting
set_option maxRecDepth 20000 in
theorem ggX6_setting_X6_of : GoodIn wsX6_setting wsX6_of := goodIn_r _ [12, 13, 14, 15, 16, 17, 18, 19, 20, 21, 22, 23, 24, 25] (by decide +kernel) (by decide +kernel)
set_option maxRecDepth 20000 in
theorem gX6_setting_X6_of : GoodIn wsX6_setting (wsV RX6 42 RX6 yX6_of wsX6_of) := goodIn_app (goodIn_of _ (by decide +kernel)) ggX6_setting_X6_of
theorem dX6_setting_0 : decode cX6_setting 0 = .ok (.aload_n 0, 1) := by decide +kernel
theorem dX6_setting_1 : decode cX6_setting 1 = .ok (.iload_n 1, 1) := by decide +kernel
theorem dX6_setting_2 : decode cX6_setting 2 = .ok (.invokestatic 79, 3) := by decide +kernel
theorem dX6_setting_5 : decode cX6_setting 5 = .ok (.ifCond .eq 7, 3) := by decide +kernel
theorem dX6_setting_8 : decode cX6_setting 8 = .ok (.iconst 0, 1) := by decide +kernel
theorem dX6_setting_9 : decode cX6_setting 9 = .ok (.goto 4, 3) := by decide +kernel
theorem dX6_setting_12 : decode cX6_setting 12 = .ok (.iconst 1, 1) := by decide +kernel
theorem dX6_setting_13 : decode cX6_setting 13 = .ok (.putfield 25, 3) := by decide +kernel
theorem dX6_setting_16 : decode cX6_setting 16 = .ok (.aload_n 0, 1) := by decide +kernel
theorem dX6_setting_17 : decode cX6_setting 17 = .ok (.getfield 25, 3) := by decide +kernel
theorem dX6_setting_20 : decode cX6_setting 20 = .ok (.ifCond .le 7, 3) := by decide +kernel
theorem dX6_setting_23 : decode cX6_setting 23 = .ok (.iconst 0, 1) := by decide +kernel
theorem dX6_setting_24 : decode cX6_setting 24 = .ok (.goto 8, 3) := by decide +kernel
theorem dX6_setting_27 : decode cX6_setting 27 = .ok (.aload_n 0, 1) := by decide +kernel
theorem dX6_setting_28 : decode cX6_setting 28 = .ok (.iload_n 1, 1) := by decide +kernel
theorem dX6_setting_29 : decode cX6_setting 29 = .ok (.invokevirtual 42, 3) := by decide +kernel
theorem dX6_setting_32 : decode cX6_setting 32 = .ok (.ireturn, 1) := by decide +kernel
set_option maxRecDepth 20000 in
theorem ggX6_whyNot_X6_place : GoodIn wsX6_whyNot wsX6_place := goodIn_r _ [5] (by decide +kernel) (by decide +kernel)
set_option maxRecDepth 20000 in
theorem gX6_whyNot_X6_place : GoodIn wsX6_whyNot (va_wsS RX6 33 yX6_place wsX6_place) := goodIn_app (goodIn_of _ (by decide +kernel)) ggX6_whyNot_X6_place
set_option maxRecDepth 20000 in
theorem ggX6_whyNot_X6_room : GoodIn wsX6_whyNot wsX6_room := goodIn_r _ [9, 10, 11, 12, 4, 13, 1, 14, 15, 16, 17, 2, 3, 5, 28, 29, 30, 31, 32, 33, 34, 35, 36, 37, 38, 39] (by decide +kernel) (by decide +kernel)
set_option maxRecDepth 20000 in
theorem gX6_whyNot_X6_room : GoodIn wsX6_whyNot (wsV RX6 54 RX6 yX6_room wsX6_room) := goodIn_app (goodIn_of _ (by decide +kernel)) ggX6_whyNot_X6_room
set_option maxRecDepth 20000 in
theorem ggX6_whyNot_X6_factor : GoodIn wsX6_whyNot wsX6_factor := goodIn_r _ [21, 22, 14, 15, 16, 4, 17, 1, 2, 3, 5, 10, 11, 12, 13, 28, 29, 30, 31, 32, 33, 34, 35, 36, 37, 38, 39] (by decide +kernel) (by decide +kernel)
set_option maxRecDepth 20000 in
theorem gX6_whyNot_X6_factor : GoodIn wsX6_whyNot (wsV RX6 47 RX6 yX6_factor wsX6_factor) := goodIn_app (goodIn_of _ (by decide +kernel)) ggX6_whyNot_X6_factor
set_option maxRecDepth 20000 in
theorem ggX6_whyNot_X6_wish : GoodIn wsX6_whyNot wsX6_wish := goodIn_r _ [26, 1, 27, 2, 3, 4, 5, 10, 11, 12, 13, 28, 29, 30, 31, 32, 33, 34, 35, 36, 37, 38, 39] (by decide +kernel) (by decide +kernel)
set_option maxRecDepth 20000 in
theorem gX6_whyNot_X6_wish : GoodIn wsX6_whyNot (wsV RX6 50 RX6 yX6_wish wsX6_wish) := goodIn_app (goodIn_of _ (by decide +kernel)) ggX6_whyNot_X6_wish
theorem dX6_whyNot_0 : decode cX6_whyNot 0 = .ok (.iload_n 2, 1) := by decide +kernel
theorem dX6_whyNot_1 : decode cX6_whyNot 1 = .ok (.bipush 11, 2) := by decide +kernel
theorem dX6_whyNot_3 : decode cX6_whyNot 3 = .ok (.if_icmp .ne 5, 3) := by decide +kernel
theorem dX6_whyNot_6 : decode cX6_whyNot 6 = .ok (.iconst 1, 1) := by decide +kernel
theorem dX6_whyNot_7 : decode cX6_whyNot 7 = .ok (.ireturn, 1) := by decide +kernel
theorem dX6_whyNot_8 : decode cX6_whyNot 8 = .ok (.aload_n 0, 1) := by decide +kernel
theorem dX6_whyNot_9 : decode cX6_whyNot 9 = .ok (.getfield 7, 3) := by decide +kernel
theorem dX6_whyNot_12 : decode cX6_whyNot 12 = .ok (.iload_n 1, 1) := by decide +kernel
theorem dX6_whyNot_13 : decode cX6_whyNot 13 = .ok (.iload_n 2, 1) := by decide +kernel
theorem dX6_whyNot_14 : decode cX6_whyNot 14 = .ok (.iload_n 3, 1) := by decide +kernel
theorem dX6_whyNot_15 : decode cX6_whyNot 15 = .ok (.invokestatic 33, 3) := by decide +kernel
theorem dX6_whyNot_18 : decode cX6_whyNot 18 = .ok (.iaload, 1) := by decide +kernel
theorem dX6_whyNot_19 : decode cX6_whyNot 19 = .ok (.ifCond .ne 5, 3) := by decide +kernel
theorem dX6_whyNot_22 : decode cX6_whyNot 22 = .ok (.iconst 2, 1) := by decide +kernel
theorem dX6_whyNot_23 : decode cX6_whyNot 23 = .ok (.ireturn, 1) := by decide +kernel
theorem dX6_whyNot_24 : decode cX6_whyNot 24 = .ok (.aload_n 0, 1) := by decide +kernel
theorem dX6_whyNot_25 : decode cX6_whyNot 25 = .ok (.iload_n 1, 1) := by decide +kernel
theorem dX6_whyNot_26 : decode cX6_whyNot 26 = .ok (.iload_n 2, 1) := by decide +kernel
theorem dX6_whyNot_27 : decode cX6_whyNot 27 = .ok (.iconst 1, 1) := by decide +kernel
theorem dX6_whyNot_28 : decode cX6_whyNot 28 = .ok (.iadd, 1) := by decide +kernel
theorem dX6_whyNot_29 : decode cX6_whyNot 29 = .ok (.invokevirtual 54, 3) := by decide +kernel
theorem dX6_whyNot_32 : decode cX6_whyNot 32 = .ok (.ifCond .ne 7, 3) := by decide +kernel
theorem dX6_whyNot_35 : decode cX6_whyNot 35 = .ok (.iconst 3, 1) := by decide +kernel
theorem dX6_whyNot_36 : decode cX6_whyNot 36 = .ok (.goto 24, 3) := by decide +kernel
theorem dX6_whyNot_39 : decode cX6_whyNot 39 = .ok (.aload_n 0, 1) := by decide +kernel
theorem dX6_whyNot_40 : decode cX6_whyNot 40 = .ok (.iload_n 1, 1) := by decide +kernel
theorem dX6_whyNot_41 : decode cX6_whyNot 41 = .ok (.iload_n 2, 1) := by decide +kernel
theorem dX6_whyNot_42 : decode cX6_whyNot 42 = .ok (.iload_n 3, 1) := by decide +kernel
theorem dX6_whyNot_43 : decode cX6_whyNot 43 = .ok (.aload_n 0, 1) := by decide +kernel
theorem dX6_whyNot_44 : decode cX6_whyNot 44 = .ok (.iload_n 1, 1) := by decide +kernel
theorem dX6_whyNot_45 : decode cX6_whyNot 45 = .ok (.iload_n 2, 1) := by decide +kernel
theorem dX6_whyNot_46 : decode cX6_whyNot 46 = .ok (.invokevirtual 47, 3) := by decide +kernel
theorem dX6_whyNot_49 : decode cX6_whyNot 49 = .ok (.invokevirtual 50, 3) := by decide +kernel
theorem dX6_whyNot_52 : decode cX6_whyNot 52 = .ok (.ifCond .ne 7, 3) := by decide +kernel
theorem dX6_whyNot_55 : decode cX6_whyNot 55 = .ok (.iconst 4, 1) := by decide +kernel
theorem dX6_whyNot_56 : decode cX6_whyNot 56 = .ok (.goto 4, 3) := by decide +kernel
theorem dX6_whyNot_59 : decode cX6_whyNot 59 = .ok (.iconst 0, 1) := by decide +kernel
theorem dX6_whyNot_60 : decode cX6_whyNot 60 = .ok (.ireturn, 1) := by decide +kernel
set_option maxRecDepth 20000 in
theorem ggX6_why_X6_isJar : GoodIn wsX6_why wsX6_isJar := goodIn_r _ [5, 6, 7, 4, 8] (by decide +kernel) (by decide +kernel)
set_option maxRecDepth 20000 in
theorem gX6_why_X6_isJar : GoodIn wsX6_why (va_wsS RX6 92 yX6_isJar wsX6_isJar) := goodIn_app (goodIn_of _ (by decide +kernel)) ggX6_why_X6_isJar
set_option maxRecDepth 20000 in
theorem ggX6_why_X6_isSlice : GoodIn wsX6_why wsX6_isSlice := goodIn_r _ [11, 6, 7, 4, 8] (by decide +kernel) (by decide +kernel)
set_option maxRecDepth 20000 in
theorem gX6_why_X6_isSlice : GoodIn wsX6_why (va_wsS RX6 95 yX6_isSlice wsX6_isSlice) := goodIn_app (goodIn_of _ (by decide +kernel)) ggX6_why_X6_isSlice
set_option maxRecDepth 20000 in
theorem ggX6_why_X6_isClass : GoodIn wsX6_why wsX6_isClass := goodIn_r _ [14, 6, 7, 4, 8] (by decide +kernel) (by decide +kernel)
set_option maxRecDepth 20000 in
theorem gX6_why_X6_isClass : GoodIn wsX6_why (va_wsS RX6 89 yX6_isClass wsX6_isClass) := goodIn_app (goodIn_of _ (by decide +kernel)) ggX6_why_X6_isClass
set_option maxRecDepth 20000 in
theorem ggX6_why_X6_whyNot : GoodIn wsX6_why wsX6_whyNot := goodIn_r _ [18, 19, 20, 21, 4, 22, 23, 24, 25, 26, 27, 28, 29, 30, 31, 32, 33, 34, 35, 36, 37, 38, 39, 40, 41, 42, 43, 44, 45, 46, 47, 48, 49, 50, 51, 52, 53, 54, 55, 56] (by decide +kernel) (by decide +kernel)
set_option maxRecDepth 20000 in
theorem gX6_why_X6_whyNot : GoodIn wsX6_why (wsV RX6 155 RX6 yX6_whyNot wsX6_whyNot) := goodIn_app (goodIn_of _ (by decide +kernel)) ggX6_why_X6_whyNot
theorem dX6_why_0 : decode cX6_why 0 = .ok (.aload_n 0, 1) := by decide +kernel
theorem dX6_why_1 : decode cX6_why 1 = .ok (.iload_n 1, 1) := by decide +kernel
theorem dX6_why_2 : decode cX6_why 2 = .ok (.invokestatic 92, 3) := by decide +kernel
theorem dX6_why_5 : decode cX6_why 5 = .ok (.ifCond .eq 21, 3) := by decide +kernel
theorem dX6_why_8 : decode cX6_why 8 = .ok (.iload_n 2, 1) := by decide +kernel
theorem dX6_why_9 : decode cX6_why 9 = .ok (.invokestatic 95, 3) := by decide +kernel
theorem dX6_why_12 : decode cX6_why 12 = .ok (.ifCond .eq 14, 3) := by decide +kernel
theorem dX6_why_15 : decode cX6_why 15 = .ok (.iload_n 3, 1) := by decide +kernel
theorem dX6_why_16 : decode cX6_why 16 = .ok (.invokestatic 89, 3) := by decide +kernel
theorem dX6_why_19 : decode cX6_why 19 = .ok (.ifCond .eq 7, 3) := by decide +kernel
theorem dX6_why_22 : decode cX6_why 22 = .ok (.iconst 0, 1) := by decide +kernel
theorem dX6_why_23 : decode cX6_why 23 = .ok (.goto 4, 3) := by decide +kernel
theorem dX6_why_26 : decode cX6_why 26 = .ok (.iconst 1, 1) := by decide +kernel
theorem dX6_why_27 : decode cX6_why 27 = .ok (.putfield 25, 3) := by decide +kernel
theorem dX6_why_30 : decode cX6_why 30 = .ok (.aload_n 0, 1) := by decide +kernel
theorem dX6_why_31 : decode cX6_why 31 = .ok (.getfield 25, 3) := by decide +kernel
theorem dX6_why_34 : decode cX6_why 34 = .ok (.ifCond .le 7, 3) := by decide +kernel
theorem dX6_why_37 : decode cX6_why 37 = .ok (.iconst 0, 1) := by decide +kernel
theorem dX6_why_38 : decode cX6_why 38 = .ok (.goto 10, 3) := by decide +kernel
theorem dX6_why_41 : decode cX6_why 41 = .ok (.aload_n 0, 1) := by decide +kernel
theorem dX6_why_42 : decode cX6_why 42 = .ok (.iload_n 1, 1) := by decide +kernel
theorem dX6_why_43 : decode cX6_why 43 = .ok (.iload_n 2, 1) := by decide +kernel
theorem dX6_why_44 : decode cX6_why 44 = .ok (.iload_n 3, 1) := by decide +kernel
theorem dX6_why_45 : decode cX6_why 45 = .ok (.invokevirtual 155, 3) := by decide +kernel
theorem dX6_why_48 : decode cX6_why 48 = .ok (.ireturn, 1) := by decide +kernel
set_option maxRecDepth 20000 in
theorem ggX6_settled_X6_keepAside : GoodIn wsX6_settled wsX6_keepAside := goodIn_r _ [5, 6, 7, 93, 94, 95, 96, 97, 98, 99, 100, 101, 102, 103, 104] (by decide +kernel) (by decide +kernel)
set_option maxRecDepth 20000 in
theorem gX6_settled_X6_keepAside : GoodIn wsX6_settled (wsV RX6 185 RX6 yX6_keepAside wsX6_keepAside) := goodIn_app (goodIn_of _ (by decide +kernel)) ggX6_settled_X6_keepAside
set_option maxRecDepth 20000 in
theorem ggX6_settled_X6_stepOf : GoodIn wsX6_settled wsX6_stepOf := goodIn_r _ [11, 12, 13, 14, 4, 15, 7, 16, 17, 18, 19, 20, 21, 22, 23, 24, 25, 26, 27, 28, 29, 30, 31, 32, 33, 34, 35, 36, 37, 38, 39, 40, 93, 94, 95, 96, 97, 98, 99, 100, 101, 102, 103, 104] (by decide +kernel) (by decide +kernel)
set_option maxRecDepth 20000 in
theorem gX6_settled_X6_stepOf : GoodIn wsX6_settled (wsV RX6 111 RX6 yX6_stepOf wsX6_stepOf) := goodIn_app (goodIn_of _ (by decide +kernel)) ggX6_settled_X6_stepOf
set_option maxRecDepth 20000 in
theorem ggX6_settled_X6_jarNow : GoodIn wsX6_settled wsX6_jarNow := goodIn_r _ [44, 45, 46, 47, 4, 48, 21, 22, 23, 24, 7, 25, 26, 27, 49, 50, 51, 52, 53, 54, 55, 56, 28, 29, 30, 31, 57, 58, 59, 60, 61, 62, 63, 64, 65, 66, 67, 68, 69, 70, 71, 72, 73, 74, 75, 76, 77, 78, 79, 80, 81, 82, 83, 84, 37, 38, 39, 40, 16, 17, 18, 19, 20, 32, 33, 34, 35, 36, 85, 86, 87, 88, 93, 94, 95, 96, 97, 98, 99, 100, 101, 102, 103, 104] (by decide +kernel) (by decide +kernel)
set_option maxRecDepth 20000 in
theorem gX6_settled_X6_jarNow : GoodIn wsX6_settled (wsV RX6 173 RX6 yX6_jarNow wsX6_jarNow) := goodIn_app (goodIn_of _ (by decide +kernel)) ggX6_settled_X6_jarNow
set_option maxRecDepth 20000 in
theorem ggX6_settled_X6_takeBack : GoodIn wsX6_settled wsX6_takeBack := goodIn_r _ [92, 7, 6, 93, 94, 95, 96, 97, 98, 99, 100, 101, 102, 103, 104] (by decide +kernel) (by decide +kernel)
set_option maxRecDepth 20000 in
theorem gX6_settled_X6_takeBack : GoodIn wsX6_settled (wsV RX6 188 RX6 yX6_takeBack wsX6_takeBack) := goodIn_app (goodIn_of _ (by decide +kernel)) ggX6_settled_X6_takeBack
theorem dX6_settled_0 : decode cX6_settled 0 = .ok (.aload_n 0, 1) := by decide +kernel
theorem dX6_settled_1 : decode cX6_settled 1 = .ok (.invokevirtual 185, 3) := by decide +kernel
theorem dX6_settled_4 : decode cX6_settled 4 = .ok (.iconst 0, 1) := by decide +kernel
theorem dX6_settled_5 : decode cX6_settled 5 = .ok (.istore 4, 2) := by decide +kernel
theorem dX6_settled_7 : decode cX6_settled 7 = .ok (.iload 4, 2) := by decide +kernel
theorem dX6_settled_9 : decode cX6_settled 9 = .ok (.iload_n 2, 1) := by decide +kernel
theorem dX6_settled_10 : decode cX6_settled 10 = .ok (.if_icmp .ge 15, 3) := by decide +kernel
theorem dX6_settled_13 : decode cX6_settled 13 = .ok (.aload_n 0, 1) := by decide +kernel
theorem dX6_settled_14 : decode cX6_settled 14 = .ok (.iload_n 1, 1) := by decide +kernel
theorem dX6_settled_15 : decode cX6_settled 15 = .ok (.invokevirtual 111, 3) := by decide +kernel
theorem dX6_settled_18 : decode cX6_settled 18 = .ok (.pop, 1) := by decide +kernel
theorem dX6_settled_19 : decode cX6_settled 19 = .ok (.iinc 4 1, 3) := by decide +kernel
theorem dX6_settled_22 : decode cX6_settled 22 = .ok (.goto (-15), 3) := by decide +kernel
theorem dX6_settled_25 : decode cX6_settled 25 = .ok (.aload_n 0, 1) := by decide +kernel
theorem dX6_settled_26 : decode cX6_settled 26 = .ok (.iload_n 1, 1) := by decide +kernel
theorem dX6_settled_27 : decode cX6_settled 27 = .ok (.iload_n 3, 1) := by decide +kernel
theorem dX6_settled_28 : decode cX6_settled 28 = .ok (.invokevirtual 173, 3) := by decide +kernel
theorem dX6_settled_31 : decode cX6_settled 31 = .ok (.istore 4, 2) := by decide +kernel
theorem dX6_settled_33 : decode cX6_settled 33 = .ok (.aload_n 0, 1) := by decide +kernel
theorem dX6_settled_34 : decode cX6_settled 34 = .ok (.invokevirtual 188, 3) := by decide +kernel
theorem dX6_settled_37 : decode cX6_settled 37 = .ok (.iload 4, 2) := by decide +kernel
theorem dX6_settled_39 : decode cX6_settled 39 = .ok (.ireturn, 1) := by decide +kernel
set_option maxRecDepth 20000 in
theorem ggX6_ifSettled_X6_isJar : GoodIn wsX6_ifSettled wsX6_isJar := goodIn_r _ [5, 6, 7, 4, 8] (by decide +kernel) (by decide +kernel)
set_option maxRecDepth 20000 in
theorem gX6_ifSettled_X6_isJar : GoodIn wsX6_ifSettled (va_wsS RX6 92 yX6_isJar wsX6_isJar) := goodIn_app (goodIn_of _ (by decide +kernel)) ggX6_ifSettled_X6_isJar
set_option maxRecDepth 20000 in
theorem ggX6_ifSettled_X6_within : GoodIn wsX6_ifSettled wsX6_within := goodIn_r _ [8] (by decide +kernel) (by decide +kernel)
set_option maxRecDepth 20000 in
theorem gX6_ifSettled_X6_within : GoodIn wsX6_ifSettled (va_wsS RX6 29 yX6_within wsX6_within) := goodIn_app (goodIn_of _ (by decide +kernel)) ggX6_ifSettled_X6_within
set_option maxRecDepth 20000 in
theorem ggX6_ifSettled_X6_settled : GoodIn wsX6_ifSettled wsX6_settled := goodIn_r _ [12, 13, 14, 15, 4, 16, 17, 18, 19, 20, 21, 22, 23, 24, 25, 26, 27, 28, 29, 30, 31, 32, 33, 34, 35, 36, 37, 38, 39, 40, 41, 42, 43, 44, 45, 46, 47, 48, 49, 50, 51, 52, 53, 54, 55, 56, 57, 58, 59, 60, 61, 62, 63, 64, 65, 66, 67, 68, 69, 70, 71, 72, 73, 74, 75, 76, 77, 78, 79, 80, 81, 82, 83, 84, 85, 86, 87, 88, 89, 90, 91, 92, 93, 94, 95, 96, 97, 98, 99, 100, 101, 102, 103, 104, 105, 106, 107, 108, 109, 110, 111, 112, 113, 114, 115] (by decide +kernel) (by decide +kernel)
set_option maxRecDepth 20000 in
theorem gX6_ifSettled_X6_settled : GoodIn wsX6_ifSettled (wsV RX6 191 RX6 yX6_settled wsX6_settled) := goodIn_app (goodIn_of _ (by decide +kernel)) ggX6_ifSettled_X6_settled
theorem dX6_ifSettled_0 : decode cX6_ifSettled 0 = .ok (.aload_n 0, 1) := by decide +kernel
theorem dX6_ifSettled_1 : decode cX6_ifSettled 1 = .ok (.iload_n 1, 1) := by decide +kernel
theorem dX6_ifSettled_2 : decode cX6_ifSettled 2 = .ok (.invokestatic 92, 3) := by decide +kernel
theorem dX6_ifSettled_5 : decode cX6_ifSettled 5 = .ok (.ifCond .ne 7, 3) := by decide +kernel
theorem dX6_ifSettled_8 : decode cX6_ifSettled 8 = .ok (.iconst 1, 1) := by decide +kernel
theorem dX6_ifSettled_9 : decode cX6_ifSettled 9 = .ok (.goto 28, 3) := by decide +kernel
theorem dX6_ifSettled_12 : decode cX6_ifSettled 12 = .ok (.iload_n 2, 1) := by decide +kernel
theorem dX6_ifSettled_13 : decode cX6_ifSettled 13 = .ok (.iconst 1, 1) := by decide +kernel
theorem dX6_ifSettled_14 : decode cX6_ifSettled 14 = .ok (.bipush 100, 2) := by decide +kernel
theorem dX6_ifSettled_16 : decode cX6_ifSettled 16 = .ok (.invokestatic 29, 3) := by decide +kernel
theorem dX6_ifSettled_19 : decode cX6_ifSettled 19 = .ok (.ifCond .eq 17, 3) := by decide +kernel
theorem dX6_ifSettled_22 : decode cX6_ifSettled 22 = .ok (.iload_n 3, 1) := by decide +kernel
theorem dX6_ifSettled_23 : decode cX6_ifSettled 23 = .ok (.iconst 0, 1) := by decide +kernel
theorem dX6_ifSettled_24 : decode cX6_ifSettled 24 = .ok (.bipush 8, 2) := by decide +kernel
theorem dX6_ifSettled_26 : decode cX6_ifSettled 26 = .ok (.invokestatic 29, 3) := by decide +kernel
theorem dX6_ifSettled_29 : decode cX6_ifSettled 29 = .ok (.ifCond .eq 7, 3) := by decide +kernel
theorem dX6_ifSettled_32 : decode cX6_ifSettled 32 = .ok (.iconst 0, 1) := by decide +kernel
theorem dX6_ifSettled_33 : decode cX6_ifSettled 33 = .ok (.goto 4, 3) := by decide +kernel
theorem dX6_ifSettled_36 : decode cX6_ifSettled 36 = .ok (.iconst 2, 1) := by decide +kernel
theorem dX6_ifSettled_37 : decode cX6_ifSettled 37 = .ok (.putfield 25, 3) := by decide +kernel
theorem dX6_ifSettled_40 : decode cX6_ifSettled 40 = .ok (.aload_n 0, 1) := by decide +kernel
theorem dX6_ifSettled_41 : decode cX6_ifSettled 41 = .ok (.getfield 25, 3) := by decide +kernel
theorem dX6_ifSettled_44 : decode cX6_ifSettled 44 = .ok (.ifCond .le 7, 3) := by decide +kernel
theorem dX6_ifSettled_47 : decode cX6_ifSettled 47 = .ok (.iconst 0, 1) := by decide +kernel
theorem dX6_ifSettled_48 : decode cX6_ifSettled 48 = .ok (.goto 10, 3) := by decide +kernel
theorem dX6_ifSettled_51 : decode cX6_ifSettled 51 = .ok (.aload_n 0, 1) := by decide +kernel
theorem dX6_ifSettled_52 : decode cX6_ifSettled 52 = .ok (.iload_n 1, 1) := by decide +kernel
theorem dX6_ifSettled_53 : decode cX6_ifSettled 53 = .ok (.iload_n 2, 1) := by decide +kernel
theorem dX6_ifSettled_54 : decode cX6_ifSettled 54 = .ok (.iload_n 3, 1) := by decide +kernel
theorem dX6_ifSettled_55 : decode cX6_ifSettled 55 = .ok (.invokevirtual 191, 3) := by decide +kernel
theorem dX6_ifSettled_58 : decode cX6_ifSettled 58 = .ok (.ireturn, 1) := by decide +kernel
set_option maxRecDepth 20000 in
theorem ggX6_clearNow_X6_keepAside : GoodIn wsX6_clearNow wsX6_keepAside := goodIn_r _ [5, 6, 7, 53, 54, 55, 56, 57, 58, 59, 60, 61, 62, 63, 64] (by decide +kernel) (by decide +kernel)
set_option maxRecDepth 20000 in
theorem gX6_clearNow_X6_keepAside : GoodIn wsX6_clearNow (wsV RX6 185 RX6 yX6_keepAside wsX6_keepAside) := goodIn_app (goodIn_of _ (by decide +kernel)) ggX6_clearNow_X6_keepAside
set_option maxRecDepth 20000 in
theorem ggX6_clearNow_X6_clearWater : GoodIn wsX6_clearNow wsX6_clearWater := goodIn_r _ [11, 12, 13, 14, 4, 15, 16, 17, 18, 19, 7, 20, 21, 22, 23, 24, 25, 26, 53, 54, 55, 56, 57, 58, 59, 60, 61, 62, 63, 64] (by decide +kernel) (by decide +kernel)
set_option maxRecDepth 20000 in
theorem gX6_clearNow_X6_clearWater : GoodIn wsX6_clearNow (wsV RX6 158 RX6 yX6_clearWater wsX6_clearWater) := goodIn_app (goodIn_of _ (by decide +kernel)) ggX6_clearNow_X6_clearWater
set_option maxRecDepth 20000 in
theorem ggX6_clearNow_X6_stepOf : GoodIn wsX6_clearNow wsX6_stepOf := goodIn_r _ [30, 31, 32, 33, 4, 34, 7, 35, 36, 37, 38, 39, 16, 17, 18, 19, 20, 21, 22, 23, 24, 25, 26, 40, 41, 42, 43, 44, 45, 46, 47, 48, 53, 54, 55, 56, 57, 58, 59, 60, 61, 62, 63, 64] (by decide +kernel) (by decide +kernel)
set_option maxRecDepth 20000 in
theorem gX6_clearNow_X6_stepOf : GoodIn wsX6_clearNow (wsV RX6 111 RX6 yX6_stepOf wsX6_stepOf) := goodIn_app (goodIn_of _ (by decide +kernel)) ggX6_clearNow_X6_stepOf
set_option maxRecDepth 20000 in
theorem ggX6_clearNow_X6_takeBack : GoodIn wsX6_clearNow wsX6_takeBack := goodIn_r _ [52, 7, 6, 53, 54, 55, 56, 57, 58, 59, 60, 61, 62, 63, 64] (by decide +kernel) (by decide +kernel)
set_option maxRecDepth 20000 in
theorem gX6_clearNow_X6_takeBack : GoodIn wsX6_clearNow (wsV RX6 188 RX6 yX6_takeBack wsX6_takeBack) := goodIn_app (goodIn_of _ (by decide +kernel)) ggX6_clearNow_X6_takeBack
theorem dX6_clearNow_0 : decode cX6_clearNow 0 = .ok (.aload_n 0, 1) := by decide +kernel
theorem dX6_clearNow_1 : decode cX6_clearNow 1 = .ok (.invokevirtual 185, 3) := by decide +kernel
theorem dX6_clearNow_4 : decode cX6_clearNow 4 = .ok (.iconst 0, 1) := by decide +kernel
theorem dX6_clearNow_5 : decode cX6_clearNow 5 = .ok (.istore_n 3, 1) := by decide +kernel
theorem dX6_clearNow_6 : decode cX6_clearNow 6 = .ok (.iload_n 3, 1) := by decide +kernel
theorem dX6_clearNow_7 : decode cX6_clearNow 7 = .ok (.sipush 300, 3) := by decide +kernel
theorem dX6_clearNow_10 : decode cX6_clearNow 10 = .ok (.if_icmp .gt 24, 3) := by decide +kernel
theorem dX6_clearNow_13 : decode cX6_clearNow 13 = .ok (.aload_n 0, 1) := by decide +kernel
theorem dX6_clearNow_14 : decode cX6_clearNow 14 = .ok (.iload_n 1, 1) := by decide +kernel
theorem dX6_clearNow_15 : decode cX6_clearNow 15 = .ok (.invokevirtual 158, 3) := by decide +kernel
theorem dX6_clearNow_18 : decode cX6_clearNow 18 = .ok (.iload_n 2, 1) := by decide +kernel
theorem dX6_clearNow_19 : decode cX6_clearNow 19 = .ok (.if_icmp .ge 15, 3) := by decide +kernel
theorem dX6_clearNow_22 : decode cX6_clearNow 22 = .ok (.aload_n 0, 1) := by decide +kernel
theorem dX6_clearNow_23 : decode cX6_clearNow 23 = .ok (.iload_n 1, 1) := by decide +kernel
theorem dX6_clearNow_24 : decode cX6_clearNow 24 = .ok (.invokevirtual 111, 3) := by decide +kernel
theorem dX6_clearNow_27 : decode cX6_clearNow 27 = .ok (.pop, 1) := by decide +kernel
theorem dX6_clearNow_28 : decode cX6_clearNow 28 = .ok (.iinc 3 1, 3) := by decide +kernel
theorem dX6_clearNow_31 : decode cX6_clearNow 31 = .ok (.goto (-25), 3) := by decide +kernel
theorem dX6_clearNow_34 : decode cX6_clearNow 34 = .ok (.aload_n 0, 1) := by decide +kernel
theorem dX6_clearNow_35 : decode cX6_clearNow 35 = .ok (.invokevirtual 188, 3) := by decide +kernel
theorem dX6_clearNow_38 : decode cX6_clearNow 38 = .ok (.iload_n 3, 1) := by decide +kernel
theorem dX6_clearNow_39 : decode cX6_clearNow 39 = .ok (.sipush 300, 3) := by decide +kernel
theorem dX6_clearNow_42 : decode cX6_clearNow 42 = .ok (.if_icmp .le 7, 3) := by decide +kernel
theorem dX6_clearNow_45 : decode cX6_clearNow 45 = .ok (.iconst (-1), 1) := by decide +kernel
theorem dX6_clearNow_46 : decode cX6_clearNow 46 = .ok (.goto 4, 3) := by decide +kernel
theorem dX6_clearNow_49 : decode cX6_clearNow 49 = .ok (.iload_n 3, 1) := by decide +kernel
theorem dX6_clearNow_50 : decode cX6_clearNow 50 = .ok (.ireturn, 1) := by decide +kernel
set_option maxRecDepth 20000 in
theorem ggX6_clearIn_X6_isJar : GoodIn wsX6_clearIn wsX6_isJar := goodIn_r _ [5, 6, 7, 4, 8] (by decide +kernel) (by decide +kernel)
set_option maxRecDepth 20000 in
theorem gX6_clearIn_X6_isJar : GoodIn wsX6_clearIn (va_wsS RX6 92 yX6_isJar wsX6_isJar) := goodIn_app (goodIn_of _ (by decide +kernel)) ggX6_clearIn_X6_isJar
set_option maxRecDepth 20000 in
theorem ggX6_clearIn_X6_within : GoodIn wsX6_clearIn wsX6_within := goodIn_r _ [8] (by decide +kernel) (by decide +kernel)
set_option maxRecDepth 20000 in
theorem gX6_clearIn_X6_within : GoodIn wsX6_clearIn (va_wsS RX6 29 yX6_within wsX6_within) := goodIn_app (goodIn_of _ (by decide +kernel)) ggX6_clearIn_X6_within
set_option maxRecDepth 20000 in
theorem ggX6_clearIn_X6_clearNow : GoodIn wsX6_clearIn wsX6_clearNow := goodIn_r _ [12, 13, 14, 15, 4, 16, 17, 18, 19, 20, 21, 22, 23, 24, 25, 26, 27, 28, 29, 30, 31, 32, 33, 34, 35, 36, 37, 38, 39, 40, 41, 42, 43, 44, 45, 46, 47, 48, 49, 50, 51, 52, 53, 54, 55, 56, 57, 58, 59, 60, 61, 62, 63, 64, 65, 66, 67, 68, 69, 70, 71, 72, 73, 74, 75] (by decide +kernel) (by decide +kernel)
set_option maxRecDepth 20000 in
theorem gX6_clearIn_X6_clearNow : GoodIn wsX6_clearIn (wsV RX6 194 RX6 yX6_clearNow wsX6_clearNow) := goodIn_app (goodIn_of _ (by decide +kernel)) ggX6_clearIn_X6_clearNow
theorem dX6_clearIn_0 : decode cX6_clearIn 0 = .ok (.aload_n 0, 1) := by decide +kernel
theorem dX6_clearIn_1 : decode cX6_clearIn 1 = .ok (.iload_n 1, 1) := by decide +kernel
theorem dX6_clearIn_2 : decode cX6_clearIn 2 = .ok (.invokestatic 92, 3) := by decide +kernel
theorem dX6_clearIn_5 : decode cX6_clearIn 5 = .ok (.ifCond .ne 7, 3) := by decide +kernel
theorem dX6_clearIn_8 : decode cX6_clearIn 8 = .ok (.iconst 1, 1) := by decide +kernel
theorem dX6_clearIn_9 : decode cX6_clearIn 9 = .ok (.goto 18, 3) := by decide +kernel
theorem dX6_clearIn_12 : decode cX6_clearIn 12 = .ok (.iload_n 2, 1) := by decide +kernel
theorem dX6_clearIn_13 : decode cX6_clearIn 13 = .ok (.iconst 1, 1) := by decide +kernel
theorem dX6_clearIn_14 : decode cX6_clearIn 14 = .ok (.bipush 12, 2) := by decide +kernel
theorem dX6_clearIn_16 : decode cX6_clearIn 16 = .ok (.invokestatic 29, 3) := by decide +kernel
theorem dX6_clearIn_19 : decode cX6_clearIn 19 = .ok (.ifCond .eq 7, 3) := by decide +kernel
theorem dX6_clearIn_22 : decode cX6_clearIn 22 = .ok (.iconst 0, 1) := by decide +kernel
theorem dX6_clearIn_23 : decode cX6_clearIn 23 = .ok (.goto 4, 3) := by decide +kernel
theorem dX6_clearIn_26 : decode cX6_clearIn 26 = .ok (.iconst 2, 1) := by decide +kernel
theorem dX6_clearIn_27 : decode cX6_clearIn 27 = .ok (.putfield 25, 3) := by decide +kernel
theorem dX6_clearIn_30 : decode cX6_clearIn 30 = .ok (.aload_n 0, 1) := by decide +kernel
theorem dX6_clearIn_31 : decode cX6_clearIn 31 = .ok (.getfield 25, 3) := by decide +kernel
theorem dX6_clearIn_34 : decode cX6_clearIn 34 = .ok (.ifCond .le 7, 3) := by decide +kernel
theorem dX6_clearIn_37 : decode cX6_clearIn 37 = .ok (.iconst 0, 1) := by decide +kernel
theorem dX6_clearIn_38 : decode cX6_clearIn 38 = .ok (.goto 9, 3) := by decide +kernel
theorem dX6_clearIn_41 : decode cX6_clearIn 41 = .ok (.aload_n 0, 1) := by decide +kernel
theorem dX6_clearIn_42 : decode cX6_clearIn 42 = .ok (.iload_n 1, 1) := by decide +kernel
theorem dX6_clearIn_43 : decode cX6_clearIn 43 = .ok (.iload_n 2, 1) := by decide +kernel
theorem dX6_clearIn_44 : decode cX6_clearIn 44 = .ok (.invokevirtual 194, 3) := by decide +kernel
theorem dX6_clearIn_47 : decode cX6_clearIn 47 = .ok (.ireturn, 1) := by decide +kernel
set_option maxRecDepth 20000 in
theorem ggX6_restNow_X6_keepAside : GoodIn wsX6_restNow wsX6_keepAside := goodIn_r _ [5, 6, 7, 45, 46, 47, 48, 49, 50, 51, 52, 53, 54, 55, 56] (by decide +kernel) (by decide +kernel)
set_option maxRecDepth 20000 in
theorem gX6_restNow_X6_keepAside : GoodIn wsX6_restNow (wsV RX6 185 RX6 yX6_keepAside wsX6_keepAside) := goodIn_app (goodIn_of _ (by decide +kernel)) ggX6_restNow_X6_keepAside
set_option maxRecDepth 20000 in
theorem ggX6_restNow_X6_stepOf : GoodIn wsX6_restNow wsX6_stepOf := goodIn_r _ [11, 12, 13, 14, 4, 15, 7, 16, 17, 18, 19, 20, 21, 22, 23, 24, 25, 26, 27, 28, 29, 30, 31, 32, 33, 34, 35, 36, 37, 38, 39, 40, 45, 46, 47, 48, 49, 50, 51, 52, 53, 54, 55, 56] (by decide +kernel) (by decide +kernel)
set_option maxRecDepth 20000 in
theorem gX6_restNow_X6_stepOf : GoodIn wsX6_restNow (wsV RX6 111 RX6 yX6_stepOf wsX6_stepOf) := goodIn_app (goodIn_of _ (by decide +kernel)) ggX6_restNow_X6_stepOf
set_option maxRecDepth 20000 in
theorem ggX6_restNow_X6_takeBack : GoodIn wsX6_restNow wsX6_takeBack := goodIn_r _ [44, 7, 6, 45, 46, 47, 48, 49, 50, 51, 52, 53, 54, 55, 56] (by decide +kernel) (by decide +kernel)
set_option maxRecDepth 20000 in
theorem gX6_restNow_X6_takeBack : GoodIn wsX6_restNow (wsV RX6 188 RX6 yX6_takeBack wsX6_takeBack) := goodIn_app (goodIn_of _ (by decide +kernel)) ggX6_restNow_X6_takeBack
theorem dX6_restNow_0 : decode cX6_restNow 0 = .ok (.aload_n 0, 1) := by decide +kernel
theorem dX6_restNow_1 : decode cX6_restNow 1 = .ok (.invokevirtual 185, 3) := by decide +kernel
theorem dX6_restNow_4 : decode cX6_restNow 4 = .ok (.iconst 0, 1) := by decide +kernel
theorem dX6_restNow_5 : decode cX6_restNow 5 = .ok (.istore_n 2, 1) := by decide +kernel
theorem dX6_restNow_6 : decode cX6_restNow 6 = .ok (.iload_n 2, 1) := by decide +kernel
theorem dX6_restNow_7 : decode cX6_restNow 7 = .ok (.sipush 600, 3) := by decide +kernel
theorem dX6_restNow_10 : decode cX6_restNow 10 = .ok (.if_icmp .gt 17, 3) := by decide +kernel
theorem dX6_restNow_13 : decode cX6_restNow 13 = .ok (.aload_n 0, 1) := by decide +kernel
theorem dX6_restNow_14 : decode cX6_restNow 14 = .ok (.iload_n 1, 1) := by decide +kernel
theorem dX6_restNow_15 : decode cX6_restNow 15 = .ok (.invokevirtual 111, 3) := by decide +kernel
theorem dX6_restNow_18 : decode cX6_restNow 18 = .ok (.ifCond .le 9, 3) := by decide +kernel
theorem dX6_restNow_21 : decode cX6_restNow 21 = .ok (.iinc 2 1, 3) := by decide +kernel
theorem dX6_restNow_24 : decode cX6_restNow 24 = .ok (.goto (-18), 3) := by decide +kernel
theorem dX6_restNow_27 : decode cX6_restNow 27 = .ok (.aload_n 0, 1) := by decide +kernel
theorem dX6_restNow_28 : decode cX6_restNow 28 = .ok (.invokevirtual 188, 3) := by decide +kernel
theorem dX6_restNow_31 : decode cX6_restNow 31 = .ok (.iload_n 2, 1) := by decide +kernel
theorem dX6_restNow_32 : decode cX6_restNow 32 = .ok (.sipush 600, 3) := by decide +kernel
theorem dX6_restNow_35 : decode cX6_restNow 35 = .ok (.if_icmp .le 7, 3) := by decide +kernel
theorem dX6_restNow_38 : decode cX6_restNow 38 = .ok (.iconst (-1), 1) := by decide +kernel
theorem dX6_restNow_39 : decode cX6_restNow 39 = .ok (.goto 4, 3) := by decide +kernel
theorem dX6_restNow_42 : decode cX6_restNow 42 = .ok (.iload_n 2, 1) := by decide +kernel
theorem dX6_restNow_43 : decode cX6_restNow 43 = .ok (.ireturn, 1) := by decide +kernel
set_option maxRecDepth 20000 in
theorem ggX6_restIn_X6_isJar : GoodIn wsX6_restIn wsX6_isJar := goodIn_r _ [5, 6, 7, 4, 8] (by decide +kernel) (by decide +kernel)
set_option maxRecDepth 20000 in
theorem gX6_restIn_X6_isJar : GoodIn wsX6_restIn (va_wsS RX6 92 yX6_isJar wsX6_isJar) := goodIn_app (goodIn_of _ (by decide +kernel)) ggX6_restIn_X6_isJar
set_option maxRecDepth 20000 in
theorem ggX6_restIn_X6_restNow : GoodIn wsX6_restIn wsX6_restNow := goodIn_r _ [12, 13, 14, 15, 4, 16, 17, 18, 19, 20, 21, 22, 23, 24, 25, 26, 27, 28, 29, 30, 31, 32, 33, 34, 35, 36, 37, 38, 39, 40, 41, 42, 43, 44, 45, 46, 47, 48, 49, 50, 51, 52, 53, 54, 55, 56, 57, 58, 59, 60, 61, 62, 63, 64, 65, 66, 67] (by decide +kernel) (by decide +kernel)
set_option maxRecDepth 20000 in
theorem gX6_restIn_X6_restNow : GoodIn wsX6_restIn (wsV RX6 197 RX6 yX6_restNow wsX6_restNow) := goodIn_app (goodIn_of _ (by decide +kernel)) ggX6_restIn_X6_restNow
theorem dX6_restIn_0 : decode cX6_restIn 0 = .ok (.aload_n 0, 1) := by decide +kernel
theorem dX6_restIn_1 : decode cX6_restIn 1 = .ok (.iload_n 1, 1) := by decide +kernel
theorem dX6_restIn_2 : decode cX6_restIn 2 = .ok (.invokestatic 92, 3) := by decide +kernel
theorem dX6_restIn_5 : decode cX6_restIn 5 = .ok (.ifCond .eq 7, 3) := by decide +kernel
theorem dX6_restIn_8 : decode cX6_restIn 8 = .ok (.iconst 0, 1) := by decide +kernel
theorem dX6_restIn_9 : decode cX6_restIn 9 = .ok (.goto 4, 3) := by decide +kernel
theorem dX6_restIn_12 : decode cX6_restIn 12 = .ok (.iconst 1, 1) := by decide +kernel
theorem dX6_restIn_13 : decode cX6_restIn 13 = .ok (.putfield 25, 3) := by decide +kernel
theorem dX6_restIn_16 : decode cX6_restIn 16 = .ok (.aload_n 0, 1) := by decide +kernel
theorem dX6_restIn_17 : decode cX6_restIn 17 = .ok (.getfield 25, 3) := by decide +kernel
theorem dX6_restIn_20 : decode cX6_restIn 20 = .ok (.ifCond .le 7, 3) := by decide +kernel
theorem dX6_restIn_23 : decode cX6_restIn 23 = .ok (.iconst 0, 1) := by decide +kernel
theorem dX6_restIn_24 : decode cX6_restIn 24 = .ok (.goto 8, 3) := by decide +kernel
theorem dX6_restIn_27 : decode cX6_restIn 27 = .ok (.aload_n 0, 1) := by decide +kernel
theorem dX6_restIn_28 : decode cX6_restIn 28 = .ok (.iload_n 1, 1) := by decide +kernel
theorem dX6_restIn_29 : decode cX6_restIn 29 = .ok (.invokevirtual 197, 3) := by decide +kernel
theorem dX6_restIn_32 : decode cX6_restIn 32 = .ok (.ireturn, 1) := by decide +kernel
set_option maxRecDepth 20000 in
theorem ggX6_purestNow_X6_place : GoodIn wsX6_purestNow wsX6_place := goodIn_r _ [5] (by decide +kernel) (by decide +kernel)
set_option maxRecDepth 20000 in
theorem gX6_purestNow_X6_place : GoodIn wsX6_purestNow (va_wsS RX6 33 yX6_place wsX6_place) := goodIn_app (goodIn_of _ (by decide +kernel)) ggX6_purestNow_X6_place
set_option maxRecDepth 20000 in
theorem ggX6_purestNow_X6_inSlice : GoodIn wsX6_purestNow wsX6_inSlice := goodIn_r _ [9, 1, 2, 3, 4, 5, 10, 11, 12, 13, 14, 15, 16, 17, 18, 19, 20, 21] (by decide +kernel) (by decide +kernel)
set_option maxRecDepth 20000 in
theorem gX6_purestNow_X6_inSlice : GoodIn wsX6_purestNow (wsV RX6 37 RX6 yX6_inSlice wsX6_inSlice) := goodIn_app (goodIn_of _ (by decide +kernel)) ggX6_purestNow_X6_inSlice
theorem dX6_purestNow_0 : decode cX6_purestNow 0 = .ok (.iconst (-1), 1) := by decide +kernel
theorem dX6_purestNow_1 : decode cX6_purestNow 1 = .ok (.istore_n 3, 1) := by decide +kernel
theorem dX6_purestNow_2 : decode cX6_purestNow 2 = .ok (.iconst 0, 1) := by decide +kernel
theorem dX6_purestNow_3 : decode cX6_purestNow 3 = .ok (.istore 4, 2) := by decide +kernel
theorem dX6_purestNow_5 : decode cX6_purestNow 5 = .ok (.iload 4, 2) := by decide +kernel
theorem dX6_purestNow_7 : decode cX6_purestNow 7 = .ok (.bipush 12, 2) := by decide +kernel
theorem dX6_purestNow_9 : decode cX6_purestNow 9 = .ok (.if_icmp .ge 83, 3) := by decide +kernel
theorem dX6_purestNow_12 : decode cX6_purestNow 12 = .ok (.aload_n 0, 1) := by decide +kernel
theorem dX6_purestNow_13 : decode cX6_purestNow 13 = .ok (.getfield 7, 3) := by decide +kernel
theorem dX6_purestNow_16 : decode cX6_purestNow 16 = .ok (.iload_n 1, 1) := by decide +kernel
theorem dX6_purestNow_17 : decode cX6_purestNow 17 = .ok (.iload 4, 2) := by decide +kernel
theorem dX6_purestNow_19 : decode cX6_purestNow 19 = .ok (.iload_n 2, 1) := by decide +kernel
theorem dX6_purestNow_20 : decode cX6_purestNow 20 = .ok (.invokestatic 33, 3) := by decide +kernel
theorem dX6_purestNow_23 : decode cX6_purestNow 23 = .ok (.iaload, 1) := by decide +kernel
theorem dX6_purestNow_24 : decode cX6_purestNow 24 = .ok (.istore 5, 2) := by decide +kernel
theorem dX6_purestNow_26 : decode cX6_purestNow 26 = .ok (.iload 5, 2) := by decide +kernel
theorem dX6_purestNow_28 : decode cX6_purestNow 28 = .ok (.ifCond .le 43, 3) := by decide +kernel
theorem dX6_purestNow_31 : decode cX6_purestNow 31 = .ok (.iload_n 3, 1) := by decide +kernel
theorem dX6_purestNow_32 : decode cX6_purestNow 32 = .ok (.iconst (-1), 1) := by decide +kernel
theorem dX6_purestNow_33 : decode cX6_purestNow 33 = .ok (.if_icmp .eq 34, 3) := by decide +kernel
theorem dX6_purestNow_36 : decode cX6_purestNow 36 = .ok (.iload 5, 2) := by decide +kernel
theorem dX6_purestNow_38 : decode cX6_purestNow 38 = .ok (.aload_n 0, 1) := by decide +kernel
theorem dX6_purestNow_39 : decode cX6_purestNow 39 = .ok (.iload_n 1, 1) := by decide +kernel
theorem dX6_purestNow_40 : decode cX6_purestNow 40 = .ok (.iload_n 3, 1) := by decide +kernel
theorem dX6_purestNow_41 : decode cX6_purestNow 41 = .ok (.invokevirtual 37, 3) := by decide +kernel
theorem dX6_purestNow_44 : decode cX6_purestNow 44 = .ok (.imul, 1) := by decide +kernel
theorem dX6_purestNow_45 : decode cX6_purestNow 45 = .ok (.aload_n 0, 1) := by decide +kernel
theorem dX6_purestNow_46 : decode cX6_purestNow 46 = .ok (.getfield 7, 3) := by decide +kernel
theorem dX6_purestNow_49 : decode cX6_purestNow 49 = .ok (.iload_n 1, 1) := by decide +kernel
theorem dX6_purestNow_50 : decode cX6_purestNow 50 = .ok (.iload_n 3, 1) := by decide +kernel
theorem dX6_purestNow_51 : decode cX6_purestNow 51 = .ok (.iload_n 2, 1) := by decide +kernel
theorem dX6_purestNow_52 : decode cX6_purestNow 52 = .ok (.invokestatic 33, 3) := by decide +kernel
theorem dX6_purestNow_55 : decode cX6_purestNow 55 = .ok (.iaload, 1) := by decide +kernel
theorem dX6_purestNow_56 : decode cX6_purestNow 56 = .ok (.aload_n 0, 1) := by decide +kernel
theorem dX6_purestNow_57 : decode cX6_purestNow 57 = .ok (.iload_n 1, 1) := by decide +kernel
theorem dX6_purestNow_58 : decode cX6_purestNow 58 = .ok (.iload 4, 2) := by decide +kernel
theorem dX6_purestNow_60 : decode cX6_purestNow 60 = .ok (.invokevirtual 37, 3) := by decide +kernel
theorem dX6_purestNow_63 : decode cX6_purestNow 63 = .ok (.imul, 1) := by decide +kernel
theorem dX6_purestNow_64 : decode cX6_purestNow 64 = .ok (.if_icmp .le 7, 3) := by decide +kernel
theorem dX6_purestNow_67 : decode cX6_purestNow 67 = .ok (.iconst 1, 1) := by decide +kernel
theorem dX6_purestNow_68 : decode cX6_purestNow 68 = .ok (.goto 4, 3) := by decide +kernel
theorem dX6_purestNow_71 : decode cX6_purestNow 71 = .ok (.iconst 0, 1) := by decide +kernel
theorem dX6_purestNow_72 : decode cX6_purestNow 72 = .ok (.istore 6, 2) := by decide +kernel
theorem dX6_purestNow_74 : decode cX6_purestNow 74 = .ok (.iload 6, 2) := by decide +kernel
theorem dX6_purestNow_76 : decode cX6_purestNow 76 = .ok (.ifCond .eq 8, 3) := by decide +kernel
theorem dX6_purestNow_79 : decode cX6_purestNow 79 = .ok (.iload 4, 2) := by decide +kernel
theorem dX6_purestNow_81 : decode cX6_purestNow 81 = .ok (.goto 4, 3) := by decide +kernel
theorem dX6_purestNow_84 : decode cX6_purestNow 84 = .ok (.iload_n 3, 1) := by decide +kernel
theorem dX6_purestNow_85 : decode cX6_purestNow 85 = .ok (.istore_n 3, 1) := by decide +kernel
theorem dX6_purestNow_86 : decode cX6_purestNow 86 = .ok (.iinc 4 1, 3) := by decide +kernel
theorem dX6_purestNow_89 : decode cX6_purestNow 89 = .ok (.goto (-84), 3) := by decide +kernel
theorem dX6_purestNow_92 : decode cX6_purestNow 92 = .ok (.iload_n 3, 1) := by decide +kernel
theorem dX6_purestNow_93 : decode cX6_purestNow 93 = .ok (.ireturn, 1) := by decide +kernel
set_option maxRecDepth 20000 in
theorem ggX6_purest_X6_isJar : GoodIn wsX6_purest wsX6_isJar := goodIn_r _ [5, 6, 7, 4, 8] (by decide +kernel) (by decide +kernel)
set_option maxRecDepth 20000 in
theorem gX6_purest_X6_isJar : GoodIn wsX6_purest (va_wsS RX6 92 yX6_isJar wsX6_isJar) := goodIn_app (goodIn_of _ (by decide +kernel)) ggX6_purest_X6_isJar
set_option maxRecDepth 20000 in
theorem ggX6_purest_X6_isClass : GoodIn wsX6_purest wsX6_isClass := goodIn_r _ [11, 6, 7, 4, 8] (by decide +kernel) (by decide +kernel)
set_option maxRecDepth 20000 in
theorem gX6_purest_X6_isClass : GoodIn wsX6_purest (va_wsS RX6 89 yX6_isClass wsX6_isClass) := goodIn_app (goodIn_of _ (by decide +kernel)) ggX6_purest_X6_isClass
set_option maxRecDepth 20000 in
theorem ggX6_purest_X6_purestNow : GoodIn wsX6_purest wsX6_purestNow := goodIn_r _ [15, 16, 17, 18, 4, 19, 20, 21, 22, 23, 24, 25, 26, 27, 28, 29, 30, 31, 32, 33, 34, 35] (by decide +kernel) (by decide +kernel)
set_option maxRecDepth 20000 in
theorem gX6_purest_X6_purestNow : GoodIn wsX6_purest (wsV RX6 200 RX6 yX6_purestNow wsX6_purestNow) := goodIn_app (goodIn_of _ (by decide +kernel)) ggX6_purest_X6_purestNow
theorem dX6_purest_0 : decode cX6_purest 0 = .ok (.aload_n 0, 1) := by decide +kernel
theorem dX6_purest_1 : decode cX6_purest 1 = .ok (.iload_n 1, 1) := by decide +kernel
theorem dX6_purest_2 : decode cX6_purest 2 = .ok (.invokestatic 92, 3) := by decide +kernel
theorem dX6_purest_5 : decode cX6_purest 5 = .ok (.ifCond .eq 14, 3) := by decide +kernel
theorem dX6_purest_8 : decode cX6_purest 8 = .ok (.iload_n 2, 1) := by decide +kernel
theorem dX6_purest_9 : decode cX6_purest 9 = .ok (.invokestatic 89, 3) := by decide +kernel
theorem dX6_purest_12 : decode cX6_purest 12 = .ok (.ifCond .eq 7, 3) := by decide +kernel
theorem dX6_purest_15 : decode cX6_purest 15 = .ok (.iconst 0, 1) := by decide +kernel
theorem dX6_purest_16 : decode cX6_purest 16 = .ok (.goto 4, 3) := by decide +kernel
theorem dX6_purest_19 : decode cX6_purest 19 = .ok (.iconst 1, 1) := by decide +kernel
theorem dX6_purest_20 : decode cX6_purest 20 = .ok (.putfield 25, 3) := by decide +kernel
theorem dX6_purest_23 : decode cX6_purest 23 = .ok (.aload_n 0, 1) := by decide +kernel
theorem dX6_purest_24 : decode cX6_purest 24 = .ok (.getfield 25, 3) := by decide +kernel
theorem dX6_purest_27 : decode cX6_purest 27 = .ok (.ifCond .le 7, 3) := by decide +kernel
theorem dX6_purest_30 : decode cX6_purest 30 = .ok (.iconst 0, 1) := by decide +kernel
theorem dX6_purest_31 : decode cX6_purest 31 = .ok (.goto 9, 3) := by decide +kernel
theorem dX6_purest_34 : decode cX6_purest 34 = .ok (.aload_n 0, 1) := by decide +kernel
theorem dX6_purest_35 : decode cX6_purest 35 = .ok (.iload_n 1, 1) := by decide +kernel
theorem dX6_purest_36 : decode cX6_purest 36 = .ok (.iload_n 2, 1) := by decide +kernel
theorem dX6_purest_37 : decode cX6_purest 37 = .ok (.invokevirtual 200, 3) := by decide +kernel
theorem dX6_purest_40 : decode cX6_purest 40 = .ok (.ireturn, 1) := by decide +kernel
set_option maxRecDepth 20000 in
theorem ggX6_depthNow_X6_inSlice : GoodIn wsX6_depthNow wsX6_inSlice := goodIn_r _ [5, 6, 7, 8, 4, 9, 14, 15, 16, 17, 18, 19, 20, 21, 22, 23, 24, 25] (by decide +kernel) (by decide +kernel)
set_option maxRecDepth 20000 in
theorem gX6_depthNow_X6_inSlice : GoodIn wsX6_depthNow (wsV RX6 37 RX6 yX6_inSlice wsX6_inSlice) := goodIn_app (goodIn_of _ (by decide +kernel)) ggX6_depthNow_X6_inSlice
set_option maxRecDepth 20000 in
theorem ggX6_depthNow_X6_inJar : GoodIn wsX6_depthNow wsX6_inJar := goodIn_r _ [13, 1, 2, 3, 4, 5, 6, 7, 8, 9, 14, 15, 16, 17, 18, 19, 20, 21, 22, 23, 24, 25] (by decide +kernel) (by decide +kernel)
set_option maxRecDepth 20000 in
theorem gX6_depthNow_X6_inJar : GoodIn wsX6_depthNow (wsV RX6 98 RX6 yX6_inJar wsX6_inJar) := goodIn_app (goodIn_of _ (by decide +kernel)) ggX6_depthNow_X6_inJar
theorem dX6_depthNow_0 : decode cX6_depthNow 0 = .ok (.iconst 0, 1) := by decide +kernel
theorem dX6_depthNow_1 : decode cX6_depthNow 1 = .ok (.istore_n 2, 1) := by decide +kernel
theorem dX6_depthNow_2 : decode cX6_depthNow 2 = .ok (.iconst 0, 1) := by decide +kernel
theorem dX6_depthNow_3 : decode cX6_depthNow 3 = .ok (.istore_n 3, 1) := by decide +kernel
theorem dX6_depthNow_4 : decode cX6_depthNow 4 = .ok (.iload_n 3, 1) := by decide +kernel
theorem dX6_depthNow_5 : decode cX6_depthNow 5 = .ok (.bipush 12, 2) := by decide +kernel
theorem dX6_depthNow_7 : decode cX6_depthNow 7 = .ok (.if_icmp .ge 20, 3) := by decide +kernel
theorem dX6_depthNow_10 : decode cX6_depthNow 10 = .ok (.iload_n 2, 1) := by decide +kernel
theorem dX6_depthNow_11 : decode cX6_depthNow 11 = .ok (.iload_n 3, 1) := by decide +kernel
theorem dX6_depthNow_12 : decode cX6_depthNow 12 = .ok (.aload_n 0, 1) := by decide +kernel
theorem dX6_depthNow_13 : decode cX6_depthNow 13 = .ok (.iload_n 1, 1) := by decide +kernel
theorem dX6_depthNow_14 : decode cX6_depthNow 14 = .ok (.iload_n 3, 1) := by decide +kernel
theorem dX6_depthNow_15 : decode cX6_depthNow 15 = .ok (.invokevirtual 37, 3) := by decide +kernel
theorem dX6_depthNow_18 : decode cX6_depthNow 18 = .ok (.imul, 1) := by decide +kernel
theorem dX6_depthNow_19 : decode cX6_depthNow 19 = .ok (.iadd, 1) := by decide +kernel
theorem dX6_depthNow_20 : decode cX6_depthNow 20 = .ok (.istore_n 2, 1) := by decide +kernel
theorem dX6_depthNow_21 : decode cX6_depthNow 21 = .ok (.iinc 3 1, 3) := by decide +kernel
theorem dX6_depthNow_24 : decode cX6_depthNow 24 = .ok (.goto (-20), 3) := by decide +kernel
theorem dX6_depthNow_27 : decode cX6_depthNow 27 = .ok (.aload_n 0, 1) := by decide +kernel
theorem dX6_depthNow_28 : decode cX6_depthNow 28 = .ok (.iload_n 1, 1) := by decide +kernel
theorem dX6_depthNow_29 : decode cX6_depthNow 29 = .ok (.invokevirtual 98, 3) := by decide +kernel
theorem dX6_depthNow_32 : decode cX6_depthNow 32 = .ok (.ifCond .ne 7, 3) := by decide +kernel
theorem dX6_depthNow_35 : decode cX6_depthNow 35 = .ok (.dconst 0, 1) := by decide +kernel
theorem dX6_depthNow_36 : decode cX6_depthNow 36 = .ok (.goto 14, 3) := by decide +kernel
theorem dX6_depthNow_39 : decode cX6_depthNow 39 = .ok (.dconst 1, 1) := by decide +kernel
theorem dX6_depthNow_40 : decode cX6_depthNow 40 = .ok (.iload_n 2, 1) := by decide +kernel
theorem dX6_depthNow_41 : decode cX6_depthNow 41 = .ok (.i2d, 1) := by decide +kernel
theorem dX6_depthNow_42 : decode cX6_depthNow 42 = .ok (.dmul, 1) := by decide +kernel
theorem dX6_depthNow_43 : decode cX6_depthNow 43 = .ok (.aload_n 0, 1) := by decide +kernel
theorem dX6_depthNow_44 : decode cX6_depthNow 44 = .ok (.iload_n 1, 1) := by decide +kernel
theorem dX6_depthNow_45 : decode cX6_depthNow 45 = .ok (.invokevirtual 98, 3) := by decide +kernel
theorem dX6_depthNow_48 : decode cX6_depthNow 48 = .ok (.i2d, 1) := by decide +kernel
theorem dX6_depthNow_49 : decode cX6_depthNow 49 = .ok (.ddiv, 1) := by decide +kernel
theorem dX6_depthNow_50 : decode cX6_depthNow 50 = .ok (.dreturn, 1) := by decide +kernel
set_option maxRecDepth 20000 in
theorem ggX6_meanDepth_X6_isJar : GoodIn wsX6_meanDepth wsX6_isJar := goodIn_r _ [5, 6, 7, 4, 8] (by decide +kernel) (by decide +kernel)
set_option maxRecDepth 20000 in
theorem gX6_meanDepth_X6_isJar : GoodIn wsX6_meanDepth (va_wsS RX6 92 yX6_isJar wsX6_isJar) := goodIn_app (goodIn_of _ (by decide +kernel)) ggX6_meanDepth_X6_isJar
set_option maxRecDepth 20000 in
theorem ggX6_meanDepth_X6_depthNow : GoodIn wsX6_meanDepth wsX6_depthNow := goodIn_r _ [12, 13, 14, 15, 4, 16, 17, 18, 19, 20, 21, 22, 23, 24, 25, 26, 27, 28, 29, 30, 31, 32, 33, 34, 35, 36] (by decide +kernel) (by decide +kernel)
set_option maxRecDepth 20000 in
theorem gX6_meanDepth_X6_depthNow : GoodIn wsX6_meanDepth (wsV RX6 203 RX6 yX6_depthNow wsX6_depthNow) := goodIn_app (goodIn_of _ (by decide +kernel)) ggX6_meanDepth_X6_depthNow
theorem dX6_meanDepth_0 : decode cX6_meanDepth 0 = .ok (.aload_n 0, 1) := by decide +kernel
theorem dX6_meanDepth_1 : decode cX6_meanDepth 1 = .ok (.iload_n 1, 1) := by decide +kernel
theorem dX6_meanDepth_2 : decode cX6_meanDepth 2 = .ok (.invokestatic 92, 3) := by decide +kernel
theorem dX6_meanDepth_5 : decode cX6_meanDepth 5 = .ok (.ifCond .eq 7, 3) := by decide +kernel
theorem dX6_meanDepth_8 : decode cX6_meanDepth 8 = .ok (.iconst 0, 1) := by decide +kernel
theorem dX6_meanDepth_9 : decode cX6_meanDepth 9 = .ok (.goto 4, 3) := by decide +kernel
theorem dX6_meanDepth_12 : decode cX6_meanDepth 12 = .ok (.iconst 1, 1) := by decide +kernel
theorem dX6_meanDepth_13 : decode cX6_meanDepth 13 = .ok (.putfield 25, 3) := by decide +kernel
theorem dX6_meanDepth_16 : decode cX6_meanDepth 16 = .ok (.aload_n 0, 1) := by decide +kernel
theorem dX6_meanDepth_17 : decode cX6_meanDepth 17 = .ok (.getfield 25, 3) := by decide +kernel
theorem dX6_meanDepth_20 : decode cX6_meanDepth 20 = .ok (.ifCond .le 7, 3) := by decide +kernel
theorem dX6_meanDepth_23 : decode cX6_meanDepth 23 = .ok (.dconst 0, 1) := by decide +kernel
theorem dX6_meanDepth_24 : decode cX6_meanDepth 24 = .ok (.goto 8, 3) := by decide +kernel
theorem dX6_meanDepth_27 : decode cX6_meanDepth 27 = .ok (.aload_n 0, 1) := by decide +kernel
theorem dX6_meanDepth_28 : decode cX6_meanDepth 28 = .ok (.iload_n 1, 1) := by decide +kernel
theorem dX6_meanDepth_29 : decode cX6_meanDepth 29 = .ok (.invokevirtual 203, 3) := by decide +kernel
theorem dX6_meanDepth_32 : decode cX6_meanDepth 32 = .ok (.dreturn, 1) := by decide +kernel
theorem dX6_mix_0 : decode cX6_mix 0 = .ok (.aload_n 0, 1) := by decide +kernel
theorem dX6_mix_1 : decode cX6_mix 1 = .ok (.ldc2_w 207, 3) := by decide +kernel
theorem dX6_mix_4 : decode cX6_mix 4 = .ok (.aload_n 0, 1) := by decide +kernel
theorem dX6_mix_5 : decode cX6_mix 5 = .ok (.getfield 209, 3) := by decide +kernel
theorem dX6_mix_8 : decode cX6_mix 8 = .ok (.lmul, 1) := by decide +kernel
theorem dX6_mix_9 : decode cX6_mix 9 = .ok (.lload_n 1, 1) := by decide +kernel
theorem dX6_mix_10 : decode cX6_mix 10 = .ok (.ladd, 1) := by decide +kernel
theorem dX6_mix_11 : decode cX6_mix 11 = .ok (.putfield 209, 3) := by decide +kernel
theorem dX6_mix_14 : decode cX6_mix 14 = .ok (.return_, 1) := by decide +kernel
set_option maxRecDepth 20000 in
theorem ggX6_mixJar_X6_jarNow : GoodIn wsX6_mixJar wsX6_jarNow := goodIn_r _ [5, 6, 7, 8, 4, 9, 10, 11, 12, 13, 14, 15, 16, 17, 18, 19, 20, 21, 22, 23, 24, 25, 26, 27, 28, 29, 30, 31, 32, 33, 34, 35, 36, 37, 38, 39, 40, 41, 42, 43, 44, 45, 46, 47, 48, 49, 50, 51, 52, 53, 54, 55, 56, 57, 58, 59, 60, 61, 62, 63, 64, 65, 66, 67, 68, 69, 70, 71, 72, 73, 74, 75, 131, 132, 133, 134, 135, 136, 137, 138, 139, 140, 141, 142] (by decide +kernel) (by decide +kernel)
set_option maxRecDepth 20000 in
theorem gX6_mixJar_X6_jarNow : GoodIn wsX6_mixJar (wsV RX6 173 RX6 yX6_jarNow wsX6_jarNow) := goodIn_app (goodIn_of _ (by decide +kernel)) ggX6_mixJar_X6_jarNow
set_option maxRecDepth 20000 in
theorem ggX6_mixJar_X6_mix : GoodIn wsX6_mixJar wsX6_mix := goodIn_r _ [79, 80, 81, 131, 132, 133, 134, 135, 136, 137, 138, 139, 140, 141, 142] (by decide +kernel) (by decide +kernel)
set_option maxRecDepth 20000 in
theorem gX6_mixJar_X6_mix : GoodIn wsX6_mixJar (wsV RX6 213 RX6 yX6_mix wsX6_mix) := goodIn_app (goodIn_of _ (by decide +kernel)) ggX6_mixJar_X6_mix
set_option maxRecDepth 20000 in
theorem ggX6_mixJar_X6_sliceNow : GoodIn wsX6_mixJar wsX6_sliceNow := goodIn_r _ [85, 14, 10, 11, 12, 4, 13, 15, 16, 17, 22, 23, 24, 25, 26, 27, 28, 29, 34, 35, 36, 37, 46, 47, 48, 49, 62, 63, 64, 65, 66, 58, 59, 60, 61, 131, 132, 133, 134, 135, 136, 137, 138, 139, 140, 141, 142] (by decide +kernel) (by decide +kernel)
set_option maxRecDepth 20000 in
theorem gX6_mixJar_X6_sliceNow : GoodIn wsX6_mixJar (wsV RX6 152 RX6 yX6_sliceNow wsX6_sliceNow) := goodIn_app (goodIn_of _ (by decide +kernel)) ggX6_mixJar_X6_sliceNow
set_option maxRecDepth 20000 in
theorem ggX6_mixJar_X6_purestNow : GoodIn wsX6_mixJar wsX6_purestNow := goodIn_r _ [89, 14, 15, 16, 4, 17, 10, 11, 12, 13, 131, 132, 133, 134, 135, 136, 137, 138, 139, 140, 141, 142] (by decide +kernel) (by decide +kernel)
set_option maxRecDepth 20000 in
theorem gX6_mixJar_X6_purestNow : GoodIn wsX6_mixJar (wsV RX6 200 RX6 yX6_purestNow wsX6_purestNow) := goodIn_app (goodIn_of _ (by decide +kernel)) ggX6_mixJar_X6_purestNow
set_option maxRecDepth 20000 in
theorem ggX6_mixJar_X6_clearNow : GoodIn wsX6_mixJar wsX6_clearNow := goodIn_r _ [93, 94, 95, 96, 4, 97, 98, 14, 30, 31, 32, 33, 34, 35, 36, 37, 10, 11, 12, 13, 15, 16, 17, 26, 27, 28, 29, 99, 100, 101, 102, 103, 104, 105, 106, 62, 63, 64, 65, 66, 67, 68, 69, 70, 71, 58, 59, 60, 61, 107, 108, 109, 110, 131, 132, 133, 134, 135, 136, 137, 138, 139, 140, 141, 142] (by decide +kernel) (by decide +kernel)
set_option maxRecDepth 20000 in
theorem gX6_mixJar_X6_clearNow : GoodIn wsX6_mixJar (wsV RX6 194 RX6 yX6_clearNow wsX6_clearNow) := goodIn_app (goodIn_of _ (by decide +kernel)) ggX6_mixJar_X6_clearNow
set_option maxRecDepth 20000 in
theorem ggX6_mixJar_X6_restNow : GoodIn wsX6_mixJar wsX6_restNow := goodIn_r _ [114, 94, 95, 96, 4, 97, 98, 14, 99, 100, 101, 102, 103, 104, 105, 106, 62, 63, 64, 65, 66, 10, 11, 12, 13, 15, 16, 17, 26, 27, 28, 29, 67, 68, 69, 70, 71, 58, 59, 60, 61, 107, 108, 109, 110, 131, 132, 133, 134, 135, 136, 137, 138, 139, 140, 141, 142] (by decide +kernel) (by decide +kernel)
set_option maxRecDepth 20000 in
theorem gX6_mixJar_X6_restNow : GoodIn wsX6_mixJar (wsV RX6 197 RX6 yX6_restNow wsX6_restNow) := goodIn_app (goodIn_of _ (by decide +kernel)) ggX6_mixJar_X6_restNow
set_option maxRecDepth 20000 in
theorem ggX6_mixJar_X6_depthNow : GoodIn wsX6_mixJar wsX6_depthNow := goodIn_r _ [118, 10, 11, 12, 4, 13, 14, 15, 16, 17, 6, 7, 8, 9, 131, 132, 133, 134, 135, 136, 137, 138, 139, 140, 141, 142] (by decide +kernel) (by decide +kernel)
set_option maxRecDepth 20000 in
theorem gX6_mixJar_X6_depthNow : GoodIn wsX6_mixJar (wsV RX6 203 RX6 yX6_depthNow wsX6_depthNow) := goodIn_app (goodIn_of _ (by decide +kernel)) ggX6_mixJar_X6_depthNow
set_option maxRecDepth 20000 in
theorem ggX6_mixJar_Jxe99ae_doubleToLongBits_ccdee : GoodIn wsX6_mixJar wsJxe99ae_doubleToLongBits_ccdee := goodIn_r _ [122, 123, 124, 125, 126, 127, 128, 129, 121, 130] (by decide +kernel) (by decide +kernel)
set_option maxRecDepth 20000 in
theorem gX6_mixJar_Jxe99ae_doubleToLongBits_ccdee : GoodIn wsX6_mixJar (va_wsS RX6 217 yJxe99ae_doubleToLongBits_ccdee wsJxe99ae_doubleToLongBits_ccdee) := goodIn_app (goodIn_of _ (by decide +kernel)) ggX6_mixJar_Jxe99ae_doubleToLongBits_ccdee
theorem dX6_mixJar_0 : decode cX6_mixJar 0 = .ok (.iconst 0, 1) := by decide +kernel
theorem dX6_mixJar_1 : decode cX6_mixJar 1 = .ok (.istore_n 2, 1) := by decide +kernel
theorem dX6_mixJar_2 : decode cX6_mixJar 2 = .ok (.iload_n 2, 1) := by decide +kernel
theorem dX6_mixJar_3 : decode cX6_mixJar 3 = .ok (.bipush 10, 2) := by decide +kernel
theorem dX6_mixJar_5 : decode cX6_mixJar 5 = .ok (.if_icmp .ge 20, 3) := by decide +kernel
theorem dX6_mixJar_8 : decode cX6_mixJar 8 = .ok (.aload_n 0, 1) := by decide +kernel
theorem dX6_mixJar_9 : decode cX6_mixJar 9 = .ok (.aload_n 0, 1) := by decide +kernel
theorem dX6_mixJar_10 : decode cX6_mixJar 10 = .ok (.iload_n 1, 1) := by decide +kernel
theorem dX6_mixJar_11 : decode cX6_mixJar 11 = .ok (.iload_n 2, 1) := by decide +kernel
theorem dX6_mixJar_12 : decode cX6_mixJar 12 = .ok (.invokevirtual 173, 3) := by decide +kernel
theorem dX6_mixJar_15 : decode cX6_mixJar 15 = .ok (.i2l, 1) := by decide +kernel
theorem dX6_mixJar_16 : decode cX6_mixJar 16 = .ok (.invokevirtual 213, 3) := by decide +kernel
theorem dX6_mixJar_19 : decode cX6_mixJar 19 = .ok (.iinc 2 1, 3) := by decide +kernel
theorem dX6_mixJar_22 : decode cX6_mixJar 22 = .ok (.goto (-20), 3) := by decide +kernel
theorem dX6_mixJar_25 : decode cX6_mixJar 25 = .ok (.iconst 0, 1) := by decide +kernel
theorem dX6_mixJar_26 : decode cX6_mixJar 26 = .ok (.istore_n 2, 1) := by decide +kernel
theorem dX6_mixJar_27 : decode cX6_mixJar 27 = .ok (.iload_n 2, 1) := by decide +kernel
theorem dX6_mixJar_28 : decode cX6_mixJar 28 = .ok (.bipush 120, 2) := by decide +kernel
theorem dX6_mixJar_30 : decode cX6_mixJar 30 = .ok (.if_icmp .ge 27, 3) := by decide +kernel
theorem dX6_mixJar_33 : decode cX6_mixJar 33 = .ok (.aload_n 0, 1) := by decide +kernel
theorem dX6_mixJar_34 : decode cX6_mixJar 34 = .ok (.aload_n 0, 1) := by decide +kernel
theorem dX6_mixJar_35 : decode cX6_mixJar 35 = .ok (.iload_n 1, 1) := by decide +kernel
theorem dX6_mixJar_36 : decode cX6_mixJar 36 = .ok (.iload_n 2, 1) := by decide +kernel
theorem dX6_mixJar_37 : decode cX6_mixJar 37 = .ok (.bipush 10, 2) := by decide +kernel
theorem dX6_mixJar_39 : decode cX6_mixJar 39 = .ok (.idiv, 1) := by decide +kernel
theorem dX6_mixJar_40 : decode cX6_mixJar 40 = .ok (.iload_n 2, 1) := by decide +kernel
theorem dX6_mixJar_41 : decode cX6_mixJar 41 = .ok (.bipush 10, 2) := by decide +kernel
theorem dX6_mixJar_43 : decode cX6_mixJar 43 = .ok (.irem, 1) := by decide +kernel
theorem dX6_mixJar_44 : decode cX6_mixJar 44 = .ok (.invokevirtual 152, 3) := by decide +kernel
theorem dX6_mixJar_47 : decode cX6_mixJar 47 = .ok (.i2l, 1) := by decide +kernel
theorem dX6_mixJar_48 : decode cX6_mixJar 48 = .ok (.invokevirtual 213, 3) := by decide +kernel
theorem dX6_mixJar_51 : decode cX6_mixJar 51 = .ok (.iinc 2 1, 3) := by decide +kernel
theorem dX6_mixJar_54 : decode cX6_mixJar 54 = .ok (.goto (-27), 3) := by decide +kernel
theorem dX6_mixJar_57 : decode cX6_mixJar 57 = .ok (.iconst 0, 1) := by decide +kernel
theorem dX6_mixJar_58 : decode cX6_mixJar 58 = .ok (.istore_n 2, 1) := by decide +kernel
theorem dX6_mixJar_59 : decode cX6_mixJar 59 = .ok (.iload_n 2, 1) := by decide +kernel
theorem dX6_mixJar_60 : decode cX6_mixJar 60 = .ok (.iconst 4, 1) := by decide +kernel
theorem dX6_mixJar_61 : decode cX6_mixJar 61 = .ok (.if_icmp .ge 20, 3) := by decide +kernel
theorem dX6_mixJar_64 : decode cX6_mixJar 64 = .ok (.aload_n 0, 1) := by decide +kernel
theorem dX6_mixJar_65 : decode cX6_mixJar 65 = .ok (.aload_n 0, 1) := by decide +kernel
theorem dX6_mixJar_66 : decode cX6_mixJar 66 = .ok (.iload_n 1, 1) := by decide +kernel
theorem dX6_mixJar_67 : decode cX6_mixJar 67 = .ok (.iload_n 2, 1) := by decide +kernel
theorem dX6_mixJar_68 : decode cX6_mixJar 68 = .ok (.invokevirtual 200, 3) := by decide +kernel
theorem dX6_mixJar_71 : decode cX6_mixJar 71 = .ok (.i2l, 1) := by decide +kernel
theorem dX6_mixJar_72 : decode cX6_mixJar 72 = .ok (.invokevirtual 213, 3) := by decide +kernel
theorem dX6_mixJar_75 : decode cX6_mixJar 75 = .ok (.iinc 2 1, 3) := by decide +kernel
theorem dX6_mixJar_78 : decode cX6_mixJar 78 = .ok (.goto (-19), 3) := by decide +kernel
theorem dX6_mixJar_81 : decode cX6_mixJar 81 = .ok (.aload_n 0, 1) := by decide +kernel
theorem dX6_mixJar_82 : decode cX6_mixJar 82 = .ok (.aload_n 0, 1) := by decide +kernel
theorem dX6_mixJar_83 : decode cX6_mixJar 83 = .ok (.iload_n 1, 1) := by decide +kernel
theorem dX6_mixJar_84 : decode cX6_mixJar 84 = .ok (.iconst 3, 1) := by decide +kernel
theorem dX6_mixJar_85 : decode cX6_mixJar 85 = .ok (.invokevirtual 194, 3) := by decide +kernel
theorem dX6_mixJar_88 : decode cX6_mixJar 88 = .ok (.i2l, 1) := by decide +kernel
theorem dX6_mixJar_89 : decode cX6_mixJar 89 = .ok (.invokevirtual 213, 3) := by decide +kernel
theorem dX6_mixJar_92 : decode cX6_mixJar 92 = .ok (.aload_n 0, 1) := by decide +kernel
theorem dX6_mixJar_93 : decode cX6_mixJar 93 = .ok (.aload_n 0, 1) := by decide +kernel
theorem dX6_mixJar_94 : decode cX6_mixJar 94 = .ok (.iload_n 1, 1) := by decide +kernel
theorem dX6_mixJar_95 : decode cX6_mixJar 95 = .ok (.invokevirtual 197, 3) := by decide +kernel
theorem dX6_mixJar_98 : decode cX6_mixJar 98 = .ok (.i2l, 1) := by decide +kernel
theorem dX6_mixJar_99 : decode cX6_mixJar 99 = .ok (.invokevirtual 213, 3) := by decide +kernel
theorem dX6_mixJar_102 : decode cX6_mixJar 102 = .ok (.aload_n 0, 1) := by decide +kernel
theorem dX6_mixJar_103 : decode cX6_mixJar 103 = .ok (.aload_n 0, 1) := by decide +kernel
theorem dX6_mixJar_104 : decode cX6_mixJar 104 = .ok (.iload_n 1, 1) := by decide +kernel
theorem dX6_mixJar_105 : decode cX6_mixJar 105 = .ok (.invokevirtual 203, 3) := by decide +kernel
theorem dX6_mixJar_108 : decode cX6_mixJar 108 = .ok (.invokestatic 217, 3) := by decide +kernel
theorem dX6_mixJar_111 : decode cX6_mixJar 111 = .ok (.invokevirtual 213, 3) := by decide +kernel
theorem dX6_mixJar_114 : decode cX6_mixJar 114 = .ok (.return_, 1) := by decide +kernel
set_option maxRecDepth 20000 in
theorem ggX6_digest_X6_counted : GoodIn wsX6_digest wsX6_counted := goodIn_r _ [10, 11, 12, 13, 14, 15, 9, 16, 17, 18, 19, 20, 21, 22, 23, 24, 25, 26, 27, 28, 29, 30, 31, 32, 33, 34, 35, 36, 37, 38, 39, 40, 41, 42, 43, 156, 157, 158, 159, 160, 161, 162, 163, 164, 165, 166, 167] (by decide +kernel) (by decide +kernel)
set_option maxRecDepth 20000 in
theorem gX6_digest_X6_counted : GoodIn wsX6_digest (wsV RX6 182 RX6 yX6_counted wsX6_counted) := goodIn_app (goodIn_of _ (by decide +kernel)) ggX6_digest_X6_counted
set_option maxRecDepth 20000 in
theorem ggX6_digest_X6_mix : GoodIn wsX6_digest wsX6_mix := goodIn_r _ [47, 48, 3, 156, 157, 158, 159, 160, 161, 162, 163, 164, 165, 166, 167] (by decide +kernel) (by decide +kernel)
set_option maxRecDepth 20000 in
theorem gX6_digest_X6_mix : GoodIn wsX6_digest (wsV RX6 213 RX6 yX6_mix wsX6_mix) := goodIn_app (goodIn_of _ (by decide +kernel)) ggX6_digest_X6_mix
set_option maxRecDepth 20000 in
theorem ggX6_digest_X6_of : GoodIn wsX6_digest wsX6_of := goodIn_r _ [35, 11, 156, 157, 158, 159, 160, 161, 162, 163, 164, 165, 166, 167] (by decide +kernel) (by decide +kernel)
set_option maxRecDepth 20000 in
theorem gX6_digest_X6_of : GoodIn wsX6_digest (wsV RX6 42 RX6 yX6_of wsX6_of) := goodIn_app (goodIn_of _ (by decide +kernel)) ggX6_digest_X6_of
set_option maxRecDepth 20000 in
theorem ggX6_digest_X6_grainsNow : GoodIn wsX6_digest wsX6_grainsNow := goodIn_r _ [52, 11, 53, 54, 55, 9, 56, 21, 22, 23, 156, 157, 158, 159, 160, 161, 162, 163, 164, 165, 166, 167] (by decide +kernel) (by decide +kernel)
set_option maxRecDepth 20000 in
theorem gX6_digest_X6_grainsNow : GoodIn wsX6_digest (wsV RX6 176 RX6 yX6_grainsNow wsX6_grainsNow) := goodIn_app (goodIn_of _ (by decide +kernel)) ggX6_digest_X6_grainsNow
set_option maxRecDepth 20000 in
theorem ggX6_digest_X6_mixJar : GoodIn wsX6_digest wsX6_mixJar := goodIn_r _ [60, 61, 62, 63, 9, 64, 13, 14, 15, 16, 17, 18, 19, 20, 11, 21, 22, 23, 65, 66, 67, 68, 28, 29, 30, 31, 32, 33, 34, 35, 69, 70, 71, 72, 40, 41, 42, 43, 73, 74, 75, 76, 77, 78, 79, 80, 81, 82, 83, 84, 85, 86, 87, 88, 89, 90, 91, 92, 93, 94, 95, 96, 97, 98, 99, 100, 101, 102, 103, 104, 105, 106, 53, 54, 55, 56, 44, 45, 46, 47, 48, 3, 107, 108, 109, 110, 111, 112, 113, 114, 115, 116, 117, 118, 119, 120, 121, 122, 123, 124, 125, 126, 127, 128, 129, 130, 131, 132, 133, 134, 135, 136, 137, 138, 139, 140, 141, 142, 143, 144, 145, 146, 147, 148, 149, 150, 151, 152, 153, 154, 155, 156, 157, 158, 159, 160, 161, 162, 163, 164, 165, 166, 167] (by decide +kernel) (by decide +kernel)
set_option maxRecDepth 20000 in
theorem gX6_digest_X6_mixJar : GoodIn wsX6_digest (wsV RX6 225 RX6 yX6_mixJar wsX6_mixJar) := goodIn_app (goodIn_of _ (by decide +kernel)) ggX6_digest_X6_mixJar
theorem dX6_digest_0 : decode cX6_digest 0 = .ok (.aload_n 0, 1) := by decide +kernel
theorem dX6_digest_1 : decode cX6_digest 1 = .ok (.iconst 0, 1) := by decide +kernel
theorem dX6_digest_2 : decode cX6_digest 2 = .ok (.putfield 25, 3) := by decide +kernel
theorem dX6_digest_5 : decode cX6_digest 5 = .ok (.aload_n 0, 1) := by decide +kernel
theorem dX6_digest_6 : decode cX6_digest 6 = .ok (.ldc2_w 223, 3) := by decide +kernel
theorem dX6_digest_9 : decode cX6_digest 9 = .ok (.putfield 209, 3) := by decide +kernel
theorem dX6_digest_12 : decode cX6_digest 12 = .ok (.iconst 0, 1) := by decide +kernel
theorem dX6_digest_13 : decode cX6_digest 13 = .ok (.istore_n 1, 1) := by decide +kernel
theorem dX6_digest_14 : decode cX6_digest 14 = .ok (.iload_n 1, 1) := by decide +kernel
theorem dX6_digest_15 : decode cX6_digest 15 = .ok (.bipush 6, 2) := by decide +kernel
theorem dX6_digest_17 : decode cX6_digest 17 = .ok (.if_icmp .ge 19, 3) := by decide +kernel
theorem dX6_digest_20 : decode cX6_digest 20 = .ok (.aload_n 0, 1) := by decide +kernel
theorem dX6_digest_21 : decode cX6_digest 21 = .ok (.aload_n 0, 1) := by decide +kernel
theorem dX6_digest_22 : decode cX6_digest 22 = .ok (.iload_n 1, 1) := by decide +kernel
theorem dX6_digest_23 : decode cX6_digest 23 = .ok (.invokevirtual 182, 3) := by decide +kernel
theorem dX6_digest_26 : decode cX6_digest 26 = .ok (.i2l, 1) := by decide +kernel
theorem dX6_digest_27 : decode cX6_digest 27 = .ok (.invokevirtual 213, 3) := by decide +kernel
theorem dX6_digest_30 : decode cX6_digest 30 = .ok (.iinc 1 1, 3) := by decide +kernel
theorem dX6_digest_33 : decode cX6_digest 33 = .ok (.goto (-19), 3) := by decide +kernel
theorem dX6_digest_36 : decode cX6_digest 36 = .ok (.iconst 0, 1) := by decide +kernel
theorem dX6_digest_37 : decode cX6_digest 37 = .ok (.istore_n 1, 1) := by decide +kernel
theorem dX6_digest_38 : decode cX6_digest 38 = .ok (.iload_n 1, 1) := by decide +kernel
theorem dX6_digest_39 : decode cX6_digest 39 = .ok (.iconst 4, 1) := by decide +kernel
theorem dX6_digest_40 : decode cX6_digest 40 = .ok (.if_icmp .ge 19, 3) := by decide +kernel
theorem dX6_digest_43 : decode cX6_digest 43 = .ok (.aload_n 0, 1) := by decide +kernel
theorem dX6_digest_44 : decode cX6_digest 44 = .ok (.aload_n 0, 1) := by decide +kernel
theorem dX6_digest_45 : decode cX6_digest 45 = .ok (.iload_n 1, 1) := by decide +kernel
theorem dX6_digest_46 : decode cX6_digest 46 = .ok (.invokevirtual 42, 3) := by decide +kernel
theorem dX6_digest_49 : decode cX6_digest 49 = .ok (.i2l, 1) := by decide +kernel
theorem dX6_digest_50 : decode cX6_digest 50 = .ok (.invokevirtual 213, 3) := by decide +kernel
theorem dX6_digest_53 : decode cX6_digest 53 = .ok (.iinc 1 1, 3) := by decide +kernel
theorem dX6_digest_56 : decode cX6_digest 56 = .ok (.goto (-18), 3) := by decide +kernel
theorem dX6_digest_59 : decode cX6_digest 59 = .ok (.iconst 0, 1) := by decide +kernel
theorem dX6_digest_60 : decode cX6_digest 60 = .ok (.istore_n 1, 1) := by decide +kernel
theorem dX6_digest_61 : decode cX6_digest 61 = .ok (.iload_n 1, 1) := by decide +kernel
theorem dX6_digest_62 : decode cX6_digest 62 = .ok (.bipush 16, 2) := by decide +kernel
theorem dX6_digest_64 : decode cX6_digest 64 = .ok (.if_icmp .ge 24, 3) := by decide +kernel
theorem dX6_digest_67 : decode cX6_digest 67 = .ok (.aload_n 0, 1) := by decide +kernel
theorem dX6_digest_68 : decode cX6_digest 68 = .ok (.aload_n 0, 1) := by decide +kernel
theorem dX6_digest_69 : decode cX6_digest 69 = .ok (.iload_n 1, 1) := by decide +kernel
theorem dX6_digest_70 : decode cX6_digest 70 = .ok (.iconst 4, 1) := by decide +kernel
theorem dX6_digest_71 : decode cX6_digest 71 = .ok (.idiv, 1) := by decide +kernel
theorem dX6_digest_72 : decode cX6_digest 72 = .ok (.iload_n 1, 1) := by decide +kernel
theorem dX6_digest_73 : decode cX6_digest 73 = .ok (.iconst 4, 1) := by decide +kernel
theorem dX6_digest_74 : decode cX6_digest 74 = .ok (.irem, 1) := by decide +kernel
theorem dX6_digest_75 : decode cX6_digest 75 = .ok (.invokevirtual 176, 3) := by decide +kernel
theorem dX6_digest_78 : decode cX6_digest 78 = .ok (.i2l, 1) := by decide +kernel
theorem dX6_digest_79 : decode cX6_digest 79 = .ok (.invokevirtual 213, 3) := by decide +kernel
theorem dX6_digest_82 : decode cX6_digest 82 = .ok (.iinc 1 1, 3) := by decide +kernel
theorem dX6_digest_85 : decode cX6_digest 85 = .ok (.goto (-24), 3) := by decide +kernel
theorem dX6_digest_88 : decode cX6_digest 88 = .ok (.iconst 0, 1) := by decide +kernel
theorem dX6_digest_89 : decode cX6_digest 89 = .ok (.istore_n 1, 1) := by decide +kernel
theorem dX6_digest_90 : decode cX6_digest 90 = .ok (.iload_n 1, 1) := by decide +kernel
theorem dX6_digest_91 : decode cX6_digest 91 = .ok (.iconst 3, 1) := by decide +kernel
theorem dX6_digest_92 : decode cX6_digest 92 = .ok (.if_icmp .ge 14, 3) := by decide +kernel
theorem dX6_digest_95 : decode cX6_digest 95 = .ok (.aload_n 0, 1) := by decide +kernel
theorem dX6_digest_96 : decode cX6_digest 96 = .ok (.iload_n 1, 1) := by decide +kernel
theorem dX6_digest_97 : decode cX6_digest 97 = .ok (.invokevirtual 225, 3) := by decide +kernel
theorem dX6_digest_100 : decode cX6_digest 100 = .ok (.iinc 1 1, 3) := by decide +kernel
theorem dX6_digest_103 : decode cX6_digest 103 = .ok (.goto (-13), 3) := by decide +kernel
theorem dX6_digest_106 : decode cX6_digest 106 = .ok (.aload_n 0, 1) := by decide +kernel
theorem dX6_digest_107 : decode cX6_digest 107 = .ok (.aload_n 0, 1) := by decide +kernel
theorem dX6_digest_108 : decode cX6_digest 108 = .ok (.getfield 114, 3) := by decide +kernel
theorem dX6_digest_111 : decode cX6_digest 111 = .ok (.i2l, 1) := by decide +kernel
theorem dX6_digest_112 : decode cX6_digest 112 = .ok (.invokevirtual 213, 3) := by decide +kernel
theorem dX6_digest_115 : decode cX6_digest 115 = .ok (.iconst 0, 1) := by decide +kernel
theorem dX6_digest_116 : decode cX6_digest 116 = .ok (.istore_n 1, 1) := by decide +kernel
theorem dX6_digest_117 : decode cX6_digest 117 = .ok (.iload_n 1, 1) := by decide +kernel
theorem dX6_digest_118 : decode cX6_digest 118 = .ok (.aload_n 0, 1) := by decide +kernel
theorem dX6_digest_119 : decode cX6_digest 119 = .ok (.getfield 114, 3) := by decide +kernel
theorem dX6_digest_122 : decode cX6_digest 122 = .ok (.if_icmp .ge 20, 3) := by decide +kernel
theorem dX6_digest_125 : decode cX6_digest 125 = .ok (.aload_n 0, 1) := by decide +kernel
theorem dX6_digest_126 : decode cX6_digest 126 = .ok (.aload_n 0, 1) := by decide +kernel
theorem dX6_digest_127 : decode cX6_digest 127 = .ok (.getfield 16, 3) := by decide +kernel
theorem dX6_digest_130 : decode cX6_digest 130 = .ok (.iload_n 1, 1) := by decide +kernel
theorem dX6_digest_131 : decode cX6_digest 131 = .ok (.iaload, 1) := by decide +kernel
theorem dX6_digest_132 : decode cX6_digest 132 = .ok (.i2l, 1) := by decide +kernel
theorem dX6_digest_133 : decode cX6_digest 133 = .ok (.invokevirtual 213, 3) := by decide +kernel
theorem dX6_digest_136 : decode cX6_digest 136 = .ok (.iinc 1 1, 3) := by decide +kernel
theorem dX6_digest_139 : decode cX6_digest 139 = .ok (.goto (-22), 3) := by decide +kernel
theorem dX6_digest_142 : decode cX6_digest 142 = .ok (.aload_n 0, 1) := by decide +kernel
theorem dX6_digest_143 : decode cX6_digest 143 = .ok (.getfield 209, 3) := by decide +kernel
theorem dX6_digest_146 : decode cX6_digest 146 = .ok (.lreturn, 1) := by decide +kernel
