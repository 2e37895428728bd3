set_option maxRecDepth 20000 in
theorem ggX7_stretchAll_X8_isTime : GoodIn wsX7_stretchAll wsX8_isTime := goodIn_r _ [12, 13, 14, 11, 15] rfl (by decide +kernel)
set_option maxRecDepth 20000 in
theorem gX7_stretchAll_X8_isTime_n23 : GoodIn wsX7_stretchAll (wsX8_isTime) := ggX7_stretchAll_X8_isTime
theorem dX7_stretchAll_0 : decode cX7_stretchAll 0 = .ok (.iconst 0, 1) := by decide +kernel
theorem dX7_stretchAll_1 : decode cX7_stretchAll 1 = .ok (.istore_n 2, 1) := by decide +kernel
theorem dX7_stretchAll_2 : decode cX7_stretchAll 2 = .ok (.iload_n 2, 1) := by decide +kernel
theorem dX7_stretchAll_3 : decode cX7_stretchAll 3 = .ok (.aload_n 0, 1) := by decide +kernel
theorem dX7_stretchAll_4 : decode cX7_stretchAll 4 = .ok (.getfield 15, 3) := by decide +kernel
theorem dX7_stretchAll_7 : decode cX7_stretchAll 7 = .ok (.if_icmp .ge 53, 3) := by decide +kernel
theorem dX7_stretchAll_10 : decode cX7_stretchAll 10 = .ok (.aload_n 0, 1) := by decide +kernel
theorem dX7_stretchAll_11 : decode cX7_stretchAll 11 = .ok (.getfield 9, 3) := by decide +kernel
theorem dX7_stretchAll_14 : decode cX7_stretchAll 14 = .ok (.iload_n 2, 1) := by decide +kernel
theorem dX7_stretchAll_15 : decode cX7_stretchAll 15 = .ok (.iaload, 1) := by decide +kernel
theorem dX7_stretchAll_16 : decode cX7_stretchAll 16 = .ok (.invokestatic 23, 3) := by decide +kernel
theorem dX7_stretchAll_19 : decode cX7_stretchAll 19 = .ok (.ifCond .eq 35, 3) := by decide +kernel
theorem dX7_stretchAll_22 : decode cX7_stretchAll 22 = .ok (.aload_n 0, 1) := by decide +kernel
theorem dX7_stretchAll_23 : decode cX7_stretchAll 23 = .ok (.getfield 9, 3) := by decide +kernel
theorem dX7_stretchAll_26 : decode cX7_stretchAll 26 = .ok (.iload_n 2, 1) := by decide +kernel
theorem dX7_stretchAll_27 : decode cX7_stretchAll 27 = .ok (.iaload, 1) := by decide +kernel
theorem dX7_stretchAll_28 : decode cX7_stretchAll 28 = .ok (.bipush 100, 2) := by decide +kernel
theorem dX7_stretchAll_30 : decode cX7_stretchAll 30 = .ok (.iload_n 1, 1) := by decide +kernel
theorem dX7_stretchAll_31 : decode cX7_stretchAll 31 = .ok (.iadd, 1) := by decide +kernel
theorem dX7_stretchAll_32 : decode cX7_stretchAll 32 = .ok (.imul, 1) := by decide +kernel
theorem dX7_stretchAll_33 : decode cX7_stretchAll 33 = .ok (.bipush 100, 2) := by decide +kernel
theorem dX7_stretchAll_35 : decode cX7_stretchAll 35 = .ok (.idiv, 1) := by decide +kernel
theorem dX7_stretchAll_36 : decode cX7_stretchAll 36 = .ok (.istore_n 3, 1) := by decide +kernel
theorem dX7_stretchAll_37 : decode cX7_stretchAll 37 = .ok (.aload_n 0, 1) := by decide +kernel
theorem dX7_stretchAll_38 : decode cX7_stretchAll 38 = .ok (.getfield 9, 3) := by decide +kernel
theorem dX7_stretchAll_41 : decode cX7_stretchAll 41 = .ok (.iload_n 2, 1) := by decide +kernel
theorem dX7_stretchAll_42 : decode cX7_stretchAll 42 = .ok (.iconst 1, 1) := by decide +kernel
theorem dX7_stretchAll_43 : decode cX7_stretchAll 43 = .ok (.sipush 20000, 3) := by decide +kernel
theorem dX7_stretchAll_46 : decode cX7_stretchAll 46 = .ok (.iload_n 3, 1) := by decide +kernel
theorem dX7_stretchAll_47 : decode cX7_stretchAll 47 = .ok (.invokestatic 27, 3) := by decide +kernel
theorem dX7_stretchAll_50 : decode cX7_stretchAll 50 = .ok (.invokestatic 33, 3) := by decide +kernel
theorem dX7_stretchAll_53 : decode cX7_stretchAll 53 = .ok (.iastore, 1) := by decide +kernel
theorem dX7_stretchAll_54 : decode cX7_stretchAll 54 = .ok (.iinc 2 1, 3) := by decide +kernel
theorem dX7_stretchAll_57 : decode cX7_stretchAll 57 = .ok (.goto (-55), 3) := by decide +kernel
theorem dX7_stretchAll_60 : decode cX7_stretchAll 60 = .ok (.return_, 1) := by decide +kernel
set_option maxRecDepth 20000 in
theorem ggX8_init_X7_init : GoodIn wsX8_init wsX7_init := goodIn_r _ [20, 21, 2, 3, 22, 23, 24, 52, 53] rfl (by decide +kernel)
set_option maxRecDepth 20000 in
theorem gX8_init_X7_init_n11 : GoodIn wsX8_init (wsX7_init) := ggX8_init_X7_init
set_option maxRecDepth 20000 in
theorem ggX8_init_X0_init : GoodIn wsX8_init wsX0_init := goodIn_r _ [27, 28, 2, 3, 22, 29, 30, 31, 32, 14, 33, 34, 35, 36, 37, 38, 39, 40, 41, 42, 43, 59, 60, 61, 62] rfl (by decide +kernel)
set_option maxRecDepth 20000 in
theorem gX8_init_X0_init : GoodIn wsX8_init (wsX0_init) := ggX8_init_X0_init
set_option maxRecDepth 20000 in
theorem ggX8_init_X6_init : GoodIn wsX8_init wsX6_init := goodIn_r _ [45, 46, 2, 3, 22, 47, 48, 49, 50, 51, 63, 64, 65, 66, 67] rfl (by decide +kernel)
set_option maxRecDepth 20000 in
theorem gX8_init_X6_init_n35 : GoodIn wsX8_init (wsX6_init) := ggX8_init_X6_init
theorem dX8_init_0 : decode cX8_init 0 = .ok (.aload_n 0, 1) := by decide +kernel
theorem dX8_init_1 : decode cX8_init 1 = .ok (.invokespecial 3, 3) := by decide +kernel
theorem dX8_init_4 : decode cX8_init 4 = .ok (.aload_n 0, 1) := by decide +kernel
theorem dX8_init_5 : decode cX8_init 5 = .ok (.new 9, 3) := by decide +kernel
theorem dX8_init_8 : decode cX8_init 8 = .ok (.dup, 1) := by decide +kernel
theorem dX8_init_9 : decode cX8_init 9 = .ok (.invokespecial 11, 3) := by decide +kernel
theorem dX8_init_12 : decode cX8_init 12 = .ok (.putfield 12, 3) := by decide +kernel
theorem dX8_init_15 : decode cX8_init 15 = .ok (.aload_n 0, 1) := by decide +kernel
theorem dX8_init_16 : decode cX8_init 16 = .ok (.bipush 8, 2) := by decide +kernel
theorem dX8_init_18 : decode cX8_init 18 = .ok (.anewarray 16, 3) := by decide +kernel
theorem dX8_init_21 : decode cX8_init 21 = .ok (.putfield 18, 3) := by decide +kernel
theorem dX8_init_24 : decode cX8_init 24 = .ok (.aload_n 0, 1) := by decide +kernel
theorem dX8_init_25 : decode cX8_init 25 = .ok (.iconst 0, 1) := by decide +kernel
theorem dX8_init_26 : decode cX8_init 26 = .ok (.putfield 22, 3) := by decide +kernel
theorem dX8_init_29 : decode cX8_init 29 = .ok (.aload_n 0, 1) := by decide +kernel
theorem dX8_init_30 : decode cX8_init 30 = .ok (.iconst 4, 1) := by decide +kernel
theorem dX8_init_31 : decode cX8_init 31 = .ok (.anewarray 26, 3) := by decide +kernel
theorem dX8_init_34 : decode cX8_init 34 = .ok (.putfield 28, 3) := by decide +kernel
theorem dX8_init_37 : decode cX8_init 37 = .ok (.iconst 0, 1) := by decide +kernel
theorem dX8_init_38 : decode cX8_init 38 = .ok (.istore_n 1, 1) := by decide +kernel
theorem dX8_init_39 : decode cX8_init 39 = .ok (.iload_n 1, 1) := by decide +kernel
theorem dX8_init_40 : decode cX8_init 40 = .ok (.iconst 4, 1) := by decide +kernel
theorem dX8_init_41 : decode cX8_init 41 = .ok (.if_icmp .ge 22, 3) := by decide +kernel
theorem dX8_init_44 : decode cX8_init 44 = .ok (.aload_n 0, 1) := by decide +kernel
theorem dX8_init_45 : decode cX8_init 45 = .ok (.getfield 28, 3) := by decide +kernel
theorem dX8_init_48 : decode cX8_init 48 = .ok (.iload_n 1, 1) := by decide +kernel
theorem dX8_init_49 : decode cX8_init 49 = .ok (.new 26, 3) := by decide +kernel
theorem dX8_init_52 : decode cX8_init 52 = .ok (.dup, 1) := by decide +kernel
theorem dX8_init_53 : decode cX8_init 53 = .ok (.invokespecial 32, 3) := by decide +kernel
theorem dX8_init_56 : decode cX8_init 56 = .ok (.aastore, 1) := by decide +kernel
theorem dX8_init_57 : decode cX8_init 57 = .ok (.iinc 1 1, 3) := by decide +kernel
theorem dX8_init_60 : decode cX8_init 60 = .ok (.goto (-21), 3) := by decide +kernel
theorem dX8_init_63 : decode cX8_init 63 = .ok (.aload_n 0, 1) := by decide +kernel
theorem dX8_init_64 : decode cX8_init 64 = .ok (.new 33, 3) := by decide +kernel
theorem dX8_init_67 : decode cX8_init 67 = .ok (.dup, 1) := by decide +kernel
theorem dX8_init_68 : decode cX8_init 68 = .ok (.invokespecial 35, 3) := by decide +kernel
theorem dX8_init_71 : decode cX8_init 71 = .ok (.putfield 36, 3) := by decide +kernel
theorem dX8_init_74 : decode cX8_init 74 = .ok (.return_, 1) := by decide +kernel
set_option maxRecDepth 20000 in
theorem ggX8_make_X8_within : GoodIn wsX8_make wsX8_within := goodIn_r _ [15] rfl (by decide +kernel)
set_option maxRecDepth 20000 in
theorem gX8_make_X8_within : GoodIn wsX8_make (va_wsS RX8 40 yX8_within wsX8_within) := goodIn_app (goodIn_of _ (by decide +kernel)) ggX8_make_X8_within
set_option maxRecDepth 20000 in
theorem ggX8_make_X8_isNumber : GoodIn wsX8_make wsX8_isNumber := goodIn_r _ [18, 12, 13, 14, 15] rfl (by decide +kernel)
set_option maxRecDepth 20000 in
theorem gX8_make_X8_isNumber : GoodIn wsX8_make (va_wsS RX8 44 yX8_isNumber wsX8_isNumber) := goodIn_app (goodIn_of _ (by decide +kernel)) ggX8_make_X8_isNumber
set_option maxRecDepth 20000 in
theorem ggX8_make_X2_init : GoodIn wsX8_make wsX2_init := goodIn_r _ [21, 22, 23, 24, 25, 26, 27, 28, 29, 105, 106] rfl (by decide +kernel)
set_option maxRecDepth 20000 in
theorem gX8_make_X2_init : GoodIn wsX8_make (wsX2_init) := ggX8_make_X2_init
set_option maxRecDepth 20000 in
theorem ggX8_make_X5_init : GoodIn wsX8_make wsX5_init := goodIn_r _ [32, 33, 34, 35, 36, 37, 38, 39, 40, 24, 25, 26, 27, 28, 29, 107, 108, 109, 110, 111, 112, 113, 114] rfl (by decide +kernel)
set_option maxRecDepth 20000 in
theorem gX8_make_X5_init : GoodIn wsX8_make (wsX5_init) := ggX8_make_X5_init
set_option maxRecDepth 20000 in
theorem ggX8_make_X4_init : GoodIn wsX8_make wsX4_init := goodIn_r _ [43, 44, 28, 29, 45, 46, 47, 48, 49, 50, 51, 52, 53, 54, 55, 56, 57, 58, 59, 60, 61, 62, 63, 64, 65, 66, 67, 68, 69, 70, 71, 72, 73, 74, 75, 76, 77, 78, 14, 79, 80, 81, 82, 83, 84, 85, 86, 87, 88, 89, 90, 91, 92, 93, 94, 95, 96, 97, 98, 99, 115, 116, 117, 118, 119, 120, 121, 122, 123, 124, 125, 126, 127] rfl (by decide +kernel)
set_option maxRecDepth 20000 in
theorem gX8_make_X4_init : GoodIn wsX8_make (wsX4_init) := ggX8_make_X4_init
theorem dX8_make_0 : decode cX8_make 0 = .ok (.aload_n 0, 1) := by decide +kernel
theorem dX8_make_1 : decode cX8_make 1 = .ok (.getfield 22, 3) := by decide +kernel
theorem dX8_make_4 : decode cX8_make 4 = .ok (.bipush 8, 2) := by decide +kernel
theorem dX8_make_6 : decode cX8_make 6 = .ok (.if_icmp .ge 22, 3) := by decide +kernel
theorem dX8_make_9 : decode cX8_make 9 = .ok (.iload_n 1, 1) := by decide +kernel
theorem dX8_make_10 : decode cX8_make 10 = .ok (.iconst 0, 1) := by decide +kernel
theorem dX8_make_11 : decode cX8_make 11 = .ok (.iconst 2, 1) := by decide +kernel
theorem dX8_make_12 : decode cX8_make 12 = .ok (.invokestatic 40, 3) := by decide +kernel
theorem dX8_make_15 : decode cX8_make 15 = .ok (.ifCond .eq 13, 3) := by decide +kernel
theorem dX8_make_18 : decode cX8_make 18 = .ok (.iload_n 2, 1) := by decide +kernel
theorem dX8_make_19 : decode cX8_make 19 = .ok (.iconst 1, 1) := by decide +kernel
theorem dX8_make_20 : decode cX8_make 20 = .ok (.bipush 24, 2) := by decide +kernel
theorem dX8_make_22 : decode cX8_make 22 = .ok (.invokestatic 40, 3) := by decide +kernel
theorem dX8_make_25 : decode cX8_make 25 = .ok (.ifCond .ne 5, 3) := by decide +kernel
theorem dX8_make_28 : decode cX8_make 28 = .ok (.iconst (-1), 1) := by decide +kernel
theorem dX8_make_29 : decode cX8_make 29 = .ok (.ireturn, 1) := by decide +kernel
theorem dX8_make_30 : decode cX8_make 30 = .ok (.iload_n 3, 1) := by decide +kernel
theorem dX8_make_31 : decode cX8_make 31 = .ok (.invokestatic 44, 3) := by decide +kernel
theorem dX8_make_34 : decode cX8_make 34 = .ok (.ifCond .eq 42, 3) := by decide +kernel
theorem dX8_make_37 : decode cX8_make 37 = .ok (.iload 4, 2) := by decide +kernel
theorem dX8_make_39 : decode cX8_make 39 = .ok (.invokestatic 44, 3) := by decide +kernel
theorem dX8_make_42 : decode cX8_make 42 = .ok (.ifCond .eq 34, 3) := by decide +kernel
theorem dX8_make_45 : decode cX8_make 45 = .ok (.iload 5, 2) := by decide +kernel
theorem dX8_make_47 : decode cX8_make 47 = .ok (.invokestatic 44, 3) := by decide +kernel
theorem dX8_make_50 : decode cX8_make 50 = .ok (.ifCond .eq 26, 3) := by decide +kernel
theorem dX8_make_53 : decode cX8_make 53 = .ok (.iload 6, 2) := by decide +kernel
theorem dX8_make_55 : decode cX8_make 55 = .ok (.invokestatic 44, 3) := by decide +kernel
theorem dX8_make_58 : decode cX8_make 58 = .ok (.ifCond .eq 18, 3) := by decide +kernel
theorem dX8_make_61 : decode cX8_make 61 = .ok (.iload 7, 2) := by decide +kernel
theorem dX8_make_63 : decode cX8_make 63 = .ok (.invokestatic 44, 3) := by decide +kernel
theorem dX8_make_66 : decode cX8_make 66 = .ok (.ifCond .eq 10, 3) := by decide +kernel
theorem dX8_make_69 : decode cX8_make 69 = .ok (.iload 6, 2) := by decide +kernel
theorem dX8_make_71 : decode cX8_make 71 = .ok (.iload 7, 2) := by decide +kernel
theorem dX8_make_73 : decode cX8_make 73 = .ok (.if_icmp .ne 5, 3) := by decide +kernel
theorem dX8_make_76 : decode cX8_make 76 = .ok (.iconst (-1), 1) := by decide +kernel
theorem dX8_make_77 : decode cX8_make 77 = .ok (.ireturn, 1) := by decide +kernel
theorem dX8_make_78 : decode cX8_make 78 = .ok (.iload_n 1, 1) := by decide +kernel
theorem dX8_make_79 : decode cX8_make 79 = .ok (.iconst 2, 1) := by decide +kernel
theorem dX8_make_80 : decode cX8_make 80 = .ok (.if_icmp .ne 16, 3) := by decide +kernel
theorem dX8_make_83 : decode cX8_make 83 = .ok (.new 48, 3) := by decide +kernel
theorem dX8_make_86 : decode cX8_make 86 = .ok (.dup, 1) := by decide +kernel
theorem dX8_make_87 : decode cX8_make 87 = .ok (.iload_n 2, 1) := by decide +kernel
theorem dX8_make_88 : decode cX8_make 88 = .ok (.iload 5, 2) := by decide +kernel
theorem dX8_make_90 : decode cX8_make 90 = .ok (.invokespecial 50, 3) := by decide +kernel
theorem dX8_make_93 : decode cX8_make 93 = .ok (.goto 30, 3) := by decide +kernel
theorem dX8_make_96 : decode cX8_make 96 = .ok (.new 53, 3) := by decide +kernel
theorem dX8_make_99 : decode cX8_make 99 = .ok (.dup, 1) := by decide +kernel
theorem dX8_make_100 : decode cX8_make 100 = .ok (.iload_n 1, 1) := by decide +kernel
theorem dX8_make_101 : decode cX8_make 101 = .ok (.iconst 1, 1) := by decide +kernel
theorem dX8_make_102 : decode cX8_make 102 = .ok (.if_icmp .ne 7, 3) := by decide +kernel
theorem dX8_make_105 : decode cX8_make 105 = .ok (.iconst 1, 1) := by decide +kernel
theorem dX8_make_106 : decode cX8_make 106 = .ok (.goto 4, 3) := by decide +kernel
theorem dX8_make_109 : decode cX8_make 109 = .ok (.iconst 0, 1) := by decide +kernel
theorem dX8_make_110 : decode cX8_make 110 = .ok (.iload_n 2, 1) := by decide +kernel
theorem dX8_make_111 : decode cX8_make 111 = .ok (.iload_n 3, 1) := by decide +kernel
theorem dX8_make_112 : decode cX8_make 112 = .ok (.iload 4, 2) := by decide +kernel
theorem dX8_make_114 : decode cX8_make 114 = .ok (.iload 5, 2) := by decide +kernel
theorem dX8_make_116 : decode cX8_make 116 = .ok (.iload 6, 2) := by decide +kernel
theorem dX8_make_118 : decode cX8_make 118 = .ok (.iload 7, 2) := by decide +kernel
theorem dX8_make_120 : decode cX8_make 120 = .ok (.invokespecial 55, 3) := by decide +kernel
theorem dX8_make_123 : decode cX8_make 123 = .ok (.astore 8, 2) := by decide +kernel
theorem dX8_make_125 : decode cX8_make 125 = .ok (.aload_n 0, 1) := by decide +kernel
theorem dX8_make_126 : decode cX8_make 126 = .ok (.getfield 18, 3) := by decide +kernel
theorem dX8_make_129 : decode cX8_make 129 = .ok (.aload_n 0, 1) := by decide +kernel
theorem dX8_make_130 : decode cX8_make 130 = .ok (.getfield 22, 3) := by decide +kernel
theorem dX8_make_133 : decode cX8_make 133 = .ok (.new 16, 3) := by decide +kernel
theorem dX8_make_136 : decode cX8_make 136 = .ok (.dup, 1) := by decide +kernel
theorem dX8_make_137 : decode cX8_make 137 = .ok (.iload_n 1, 1) := by decide +kernel
theorem dX8_make_138 : decode cX8_make 138 = .ok (.iload_n 2, 1) := by decide +kernel
theorem dX8_make_139 : decode cX8_make 139 = .ok (.aload 8, 2) := by decide +kernel
theorem dX8_make_141 : decode cX8_make 141 = .ok (.invokespecial 58, 3) := by decide +kernel
theorem dX8_make_144 : decode cX8_make 144 = .ok (.aastore, 1) := by decide +kernel
theorem dX8_make_145 : decode cX8_make 145 = .ok (.aload_n 0, 1) := by decide +kernel
theorem dX8_make_146 : decode cX8_make 146 = .ok (.dup, 1) := by decide +kernel
theorem dX8_make_147 : decode cX8_make 147 = .ok (.getfield 22, 3) := by decide +kernel
theorem dX8_make_150 : decode cX8_make 150 = .ok (.iconst 1, 1) := by decide +kernel
theorem dX8_make_151 : decode cX8_make 151 = .ok (.iadd, 1) := by decide +kernel
theorem dX8_make_152 : decode cX8_make 152 = .ok (.putfield 22, 3) := by decide +kernel
theorem dX8_make_155 : decode cX8_make 155 = .ok (.aload_n 0, 1) := by decide +kernel
theorem dX8_make_156 : decode cX8_make 156 = .ok (.getfield 22, 3) := by decide +kernel
theorem dX8_make_159 : decode cX8_make 159 = .ok (.iconst 1, 1) := by decide +kernel
theorem dX8_make_160 : decode cX8_make 160 = .ok (.isub, 1) := by decide +kernel
theorem dX8_make_161 : decode cX8_make 161 = .ok (.ireturn, 1) := by decide +kernel
set_option maxRecDepth 20000 in
theorem ggX8_set_X8_makeAt : GoodIn wsX8_set wsX8_makeAt := goodIn_r _ [5, 6, 7, 8, 9, 4, 10, 58, 59, 60, 61, 62] rfl (by decide +kernel)
set_option maxRecDepth 20000 in
theorem gX8_set_X8_makeAt : GoodIn wsX8_set (wsV RX8 61 RX8 yX8_makeAt wsX8_makeAt) := goodIn_app (goodIn_of _ (by decide +kernel)) ggX8_set_X8_makeAt
set_option maxRecDepth 20000 in
theorem ggX8_set_X8_within : GoodIn wsX8_set wsX8_within := goodIn_r _ [10] rfl (by decide +kernel)
set_option maxRecDepth 20000 in
theorem gX8_set_X8_within : GoodIn wsX8_set (va_wsS RX8 40 yX8_within wsX8_within) := goodIn_app (goodIn_of _ (by decide +kernel)) ggX8_set_X8_within
set_option maxRecDepth 20000 in
theorem ggX8_set_X3_startWithFlip : GoodIn wsX8_set wsX3_startWithFlip := goodIn_r _ [14, 15, 16, 17, 18, 19, 20, 21, 22, 23, 24, 12, 25, 26, 27, 28, 29, 30, 31, 4, 32, 33, 34, 35, 36, 37, 38, 39, 40, 41, 42, 43, 44, 45, 46, 47, 48, 49, 50, 51, 52, 63, 64, 65, 66, 67, 68, 69, 70] rfl (by decide +kernel)
set_option maxRecDepth 20000 in
theorem gX8_set_X3_startWithFlip_n75 : GoodIn wsX8_set (wsX3_startWithFlip) := ggX8_set_X3_startWithFlip
theorem dX8_set_0 : decode cX8_set 0 = .ok (.aload_n 0, 1) := by decide +kernel
theorem dX8_set_1 : decode cX8_set 1 = .ok (.iload_n 1, 1) := by decide +kernel
theorem dX8_set_2 : decode cX8_set 2 = .ok (.invokevirtual 61, 3) := by decide +kernel
theorem dX8_set_5 : decode cX8_set 5 = .ok (.astore 4, 2) := by decide +kernel
theorem dX8_set_7 : decode cX8_set 7 = .ok (.aload 4, 2) := by decide +kernel
theorem dX8_set_9 : decode cX8_set 9 = .ok (.ifnonnull 5, 3) := by decide +kernel
theorem dX8_set_12 : decode cX8_set 12 = .ok (.iconst 0, 1) := by decide +kernel
theorem dX8_set_13 : decode cX8_set 13 = .ok (.ireturn, 1) := by decide +kernel
theorem dX8_set_14 : decode cX8_set 14 = .ok (.iload_n 2, 1) := by decide +kernel
theorem dX8_set_15 : decode cX8_set 15 = .ok (.ifCond .ne 21, 3) := by decide +kernel
theorem dX8_set_18 : decode cX8_set 18 = .ok (.iload_n 3, 1) := by decide +kernel
theorem dX8_set_19 : decode cX8_set 19 = .ok (.iconst 0, 1) := by decide +kernel
theorem dX8_set_20 : decode cX8_set 20 = .ok (.bipush 40, 2) := by decide +kernel
theorem dX8_set_22 : decode cX8_set 22 = .ok (.invokestatic 40, 3) := by decide +kernel
theorem dX8_set_25 : decode cX8_set 25 = .ok (.ifCond .eq 11, 3) := by decide +kernel
theorem dX8_set_28 : decode cX8_set 28 = .ok (.aload 4, 2) := by decide +kernel
theorem dX8_set_30 : decode cX8_set 30 = .ok (.iload_n 3, 1) := by decide +kernel
theorem dX8_set_31 : decode cX8_set 31 = .ok (.putfield 65, 3) := by decide +kernel
theorem dX8_set_34 : decode cX8_set 34 = .ok (.iconst 1, 1) := by decide +kernel
theorem dX8_set_35 : decode cX8_set 35 = .ok (.ireturn, 1) := by decide +kernel
theorem dX8_set_36 : decode cX8_set 36 = .ok (.iload_n 2, 1) := by decide +kernel
theorem dX8_set_37 : decode cX8_set 37 = .ok (.iconst 1, 1) := by decide +kernel
theorem dX8_set_38 : decode cX8_set 38 = .ok (.if_icmp .ne 29, 3) := by decide +kernel
theorem dX8_set_41 : decode cX8_set 41 = .ok (.iload_n 3, 1) := by decide +kernel
theorem dX8_set_42 : decode cX8_set 42 = .ok (.iconst (-1), 1) := by decide +kernel
theorem dX8_set_43 : decode cX8_set 43 = .ok (.aload 4, 2) := by decide +kernel
theorem dX8_set_45 : decode cX8_set 45 = .ok (.getfield 68, 3) := by decide +kernel
theorem dX8_set_48 : decode cX8_set 48 = .ok (.iconst 1, 1) := by decide +kernel
theorem dX8_set_49 : decode cX8_set 49 = .ok (.isub, 1) := by decide +kernel
theorem dX8_set_50 : decode cX8_set 50 = .ok (.invokestatic 40, 3) := by decide +kernel
theorem dX8_set_53 : decode cX8_set 53 = .ok (.ifCond .eq 14, 3) := by decide +kernel
theorem dX8_set_56 : decode cX8_set 56 = .ok (.aload 4, 2) := by decide +kernel
theorem dX8_set_58 : decode cX8_set 58 = .ok (.getfield 71, 3) := by decide +kernel
theorem dX8_set_61 : decode cX8_set 61 = .ok (.iload_n 3, 1) := by decide +kernel
theorem dX8_set_62 : decode cX8_set 62 = .ok (.invokevirtual 75, 3) := by decide +kernel
theorem dX8_set_65 : decode cX8_set 65 = .ok (.iconst 1, 1) := by decide +kernel
theorem dX8_set_66 : decode cX8_set 66 = .ok (.ireturn, 1) := by decide +kernel
theorem dX8_set_67 : decode cX8_set 67 = .ok (.iconst 0, 1) := by decide +kernel
theorem dX8_set_68 : decode cX8_set 68 = .ok (.ireturn, 1) := by decide +kernel
set_option maxRecDepth 20000 in
theorem ggX8_feed_X7_append : GoodIn wsX8_feed wsX7_append := goodIn_r _ [6, 7, 8, 14, 15] rfl (by decide +kernel)
set_option maxRecDepth 20000 in
theorem gX8_feed_X7_append : GoodIn wsX8_feed (wsV RX8 84 RX7 yX7_append wsX7_append) := goodIn_app (goodIn_of _ (by decide +kernel)) ggX8_feed_X7_append
theorem dX8_feed_0 : decode cX8_feed 0 = .ok (.aload_n 0, 1) := by decide +kernel
theorem dX8_feed_1 : decode cX8_feed 1 = .ok (.getfield 12, 3) := by decide +kernel
theorem dX8_feed_4 : decode cX8_feed 4 = .ok (.getfield 81, 3) := by decide +kernel
theorem dX8_feed_7 : decode cX8_feed 7 = .ok (.bipush 115, 2) := by decide +kernel
theorem dX8_feed_9 : decode cX8_feed 9 = .ok (.if_icmp .le 5, 3) := by decide +kernel
theorem dX8_feed_12 : decode cX8_feed 12 = .ok (.iconst (-1), 1) := by decide +kernel
theorem dX8_feed_13 : decode cX8_feed 13 = .ok (.ireturn, 1) := by decide +kernel
theorem dX8_feed_14 : decode cX8_feed 14 = .ok (.aload_n 0, 1) := by decide +kernel
theorem dX8_feed_15 : decode cX8_feed 15 = .ok (.getfield 12, 3) := by decide +kernel
theorem dX8_feed_18 : decode cX8_feed 18 = .ok (.iload_n 1, 1) := by decide +kernel
theorem dX8_feed_19 : decode cX8_feed 19 = .ok (.invokevirtual 84, 3) := by decide +kernel
theorem dX8_feed_22 : decode cX8_feed 22 = .ok (.aload_n 0, 1) := by decide +kernel
theorem dX8_feed_23 : decode cX8_feed 23 = .ok (.getfield 12, 3) := by decide +kernel
theorem dX8_feed_26 : decode cX8_feed 26 = .ok (.iload_n 2, 1) := by decide +kernel
theorem dX8_feed_27 : decode cX8_feed 27 = .ok (.invokevirtual 84, 3) := by decide +kernel
theorem dX8_feed_30 : decode cX8_feed 30 = .ok (.aload_n 0, 1) := by decide +kernel
theorem dX8_feed_31 : decode cX8_feed 31 = .ok (.getfield 12, 3) := by decide +kernel
theorem dX8_feed_34 : decode cX8_feed 34 = .ok (.iload_n 3, 1) := by decide +kernel
theorem dX8_feed_35 : decode cX8_feed 35 = .ok (.invokevirtual 84, 3) := by decide +kernel
theorem dX8_feed_38 : decode cX8_feed 38 = .ok (.aload_n 0, 1) := by decide +kernel
theorem dX8_feed_39 : decode cX8_feed 39 = .ok (.getfield 12, 3) := by decide +kernel
theorem dX8_feed_42 : decode cX8_feed 42 = .ok (.iload 4, 2) := by decide +kernel
theorem dX8_feed_44 : decode cX8_feed 44 = .ok (.invokevirtual 84, 3) := by decide +kernel
theorem dX8_feed_47 : decode cX8_feed 47 = .ok (.aload_n 0, 1) := by decide +kernel
theorem dX8_feed_48 : decode cX8_feed 48 = .ok (.getfield 12, 3) := by decide +kernel
theorem dX8_feed_51 : decode cX8_feed 51 = .ok (.iload 5, 2) := by decide +kernel
theorem dX8_feed_53 : decode cX8_feed 53 = .ok (.invokevirtual 84, 3) := by decide +kernel
theorem dX8_feed_56 : decode cX8_feed 56 = .ok (.aload_n 0, 1) := by decide +kernel
theorem dX8_feed_57 : decode cX8_feed 57 = .ok (.getfield 12, 3) := by decide +kernel
theorem dX8_feed_60 : decode cX8_feed 60 = .ok (.getfield 81, 3) := by decide +kernel
theorem dX8_feed_63 : decode cX8_feed 63 = .ok (.ireturn, 1) := by decide +kernel
set_option maxRecDepth 20000 in
theorem ggX8_end_X8_within : GoodIn wsX8_end wsX8_within := goodIn_r _ [5] rfl (by decide +kernel)
set_option maxRecDepth 20000 in
theorem gX8_end_X8_within : GoodIn wsX8_end (va_wsS RX8 40 yX8_within wsX8_within) := goodIn_app (goodIn_of _ (by decide +kernel)) ggX8_end_X8_within
theorem dX8_end_0 : decode cX8_end 0 = .ok (.iload_n 1, 1) := by decide +kernel
theorem dX8_end_1 : decode cX8_end 1 = .ok (.iconst 0, 1) := by decide +kernel
theorem dX8_end_2 : decode cX8_end 2 = .ok (.aload_n 0, 1) := by decide +kernel
theorem dX8_end_3 : decode cX8_end 3 = .ok (.getfield 12, 3) := by decide +kernel
theorem dX8_end_6 : decode cX8_end 6 = .ok (.getfield 81, 3) := by decide +kernel
theorem dX8_end_9 : decode cX8_end 9 = .ok (.invokestatic 40, 3) := by decide +kernel
theorem dX8_end_12 : decode cX8_end 12 = .ok (.ifCond .ne 5, 3) := by decide +kernel
theorem dX8_end_15 : decode cX8_end 15 = .ok (.iconst 0, 1) := by decide +kernel
theorem dX8_end_16 : decode cX8_end 16 = .ok (.ireturn, 1) := by decide +kernel
theorem dX8_end_17 : decode cX8_end 17 = .ok (.aload_n 0, 1) := by decide +kernel
theorem dX8_end_18 : decode cX8_end 18 = .ok (.getfield 12, 3) := by decide +kernel
theorem dX8_end_21 : decode cX8_end 21 = .ok (.iload_n 1, 1) := by decide +kernel
theorem dX8_end_22 : decode cX8_end 22 = .ok (.putfield 81, 3) := by decide +kernel
theorem dX8_end_25 : decode cX8_end 25 = .ok (.iconst 1, 1) := by decide +kernel
theorem dX8_end_26 : decode cX8_end 26 = .ok (.ireturn, 1) := by decide +kernel
set_option maxRecDepth 20000 in
theorem ggX8_send_X8_makeAt : GoodIn wsX8_send wsX8_makeAt := goodIn_r _ [6, 7, 8, 9, 10, 5, 11, 70, 71, 72, 73, 74] rfl (by decide +kernel)
set_option maxRecDepth 20000 in
theorem gX8_send_X8_makeAt : GoodIn wsX8_send (wsV RX8 61 RX8 yX8_makeAt wsX8_makeAt) := goodIn_app (goodIn_of _ (by decide +kernel)) ggX8_send_X8_makeAt
set_option maxRecDepth 20000 in
theorem ggX8_send_X8_lowBits : GoodIn wsX8_send wsX8_lowBits := goodIn_r _ [14] rfl (by decide +kernel)
set_option maxRecDepth 20000 in
theorem gX8_send_X8_lowBits : GoodIn wsX8_send (va_wsS RX8 87 yX8_lowBits wsX8_lowBits) := goodIn_app (goodIn_of _ (by decide +kernel)) ggX8_send_X8_lowBits
set_option maxRecDepth 20000 in
theorem ggX8_send_X8_within : GoodIn wsX8_send wsX8_within := goodIn_r _ [11] rfl (by decide +kernel)
set_option maxRecDepth 20000 in
theorem gX8_send_X8_within : GoodIn wsX8_send (va_wsS RX8 40 yX8_within wsX8_within) := goodIn_app (goodIn_of _ (by decide +kernel)) ggX8_send_X8_within
set_option maxRecDepth 20000 in
theorem ggX8_send_X4_flash : GoodIn wsX8_send wsX4_flash := goodIn_r _ [19, 20, 21, 22, 23, 24, 25, 26, 27, 28, 29, 30, 31, 32, 33, 34, 35, 36, 37, 38, 39, 40, 41, 42, 43, 44, 45, 46, 47, 48, 49, 50, 51, 52, 53, 54, 55, 56, 57, 58, 59, 60, 61, 62, 63, 64, 75, 76, 65, 66, 67, 68, 69, 77, 78, 79, 80, 81, 82, 83, 84, 85, 86] rfl (by decide +kernel)
set_option maxRecDepth 20000 in
theorem gX8_send_X4_flash : GoodIn wsX8_send (wsV RX8 91 RX4 yX4_flash wsX4_flash) := goodIn_app (goodIn_of _ (by decide +kernel)) ggX8_send_X4_flash
theorem dX8_send_0 : decode cX8_send 0 = .ok (.aload_n 0, 1) := by decide +kernel
theorem dX8_send_1 : decode cX8_send 1 = .ok (.iload_n 1, 1) := by decide +kernel
theorem dX8_send_2 : decode cX8_send 2 = .ok (.invokevirtual 61, 3) := by decide +kernel
theorem dX8_send_5 : decode cX8_send 5 = .ok (.astore_n 3, 1) := by decide +kernel
theorem dX8_send_6 : decode cX8_send 6 = .ok (.aload_n 3, 1) := by decide +kernel
theorem dX8_send_7 : decode cX8_send 7 = .ok (.ifnull 18, 3) := by decide +kernel
theorem dX8_send_10 : decode cX8_send 10 = .ok (.iload_n 2, 1) := by decide +kernel
theorem dX8_send_11 : decode cX8_send 11 = .ok (.iconst 0, 1) := by decide +kernel
theorem dX8_send_12 : decode cX8_send 12 = .ok (.aload_n 3, 1) := by decide +kernel
theorem dX8_send_13 : decode cX8_send 13 = .ok (.getfield 68, 3) := by decide +kernel
theorem dX8_send_16 : decode cX8_send 16 = .ok (.invokestatic 87, 3) := by decide +kernel
theorem dX8_send_19 : decode cX8_send 19 = .ok (.invokestatic 40, 3) := by decide +kernel
theorem dX8_send_22 : decode cX8_send 22 = .ok (.ifCond .ne 5, 3) := by decide +kernel
theorem dX8_send_25 : decode cX8_send 25 = .ok (.iconst (-1), 1) := by decide +kernel
theorem dX8_send_26 : decode cX8_send 26 = .ok (.ireturn, 1) := by decide +kernel
theorem dX8_send_27 : decode cX8_send 27 = .ok (.aload_n 3, 1) := by decide +kernel
theorem dX8_send_28 : decode cX8_send 28 = .ok (.iload_n 2, 1) := by decide +kernel
theorem dX8_send_29 : decode cX8_send 29 = .ok (.aload_n 0, 1) := by decide +kernel
theorem dX8_send_30 : decode cX8_send 30 = .ok (.getfield 12, 3) := by decide +kernel
theorem dX8_send_33 : decode cX8_send 33 = .ok (.invokevirtual 91, 3) := by decide +kernel
theorem dX8_send_36 : decode cX8_send 36 = .ok (.ireturn, 1) := by decide +kernel
set_option maxRecDepth 20000 in
theorem ggX8_time_X8_within : GoodIn wsX8_time wsX8_within := goodIn_r _ [7] rfl (by decide +kernel)
set_option maxRecDepth 20000 in
theorem gX8_time_X8_within : GoodIn wsX8_time (va_wsS RX8 40 yX8_within wsX8_within) := goodIn_app (goodIn_of _ (by decide +kernel)) ggX8_time_X8_within
set_option maxRecDepth 20000 in
theorem ggX8_time_X7_at : GoodIn wsX8_time wsX7_at := goodIn_r _ [12, 13, 14, 5, 6, 7, 20, 21] rfl (by decide +kernel)
set_option maxRecDepth 20000 in
theorem gX8_time_X7_at : GoodIn wsX8_time (wsV RX8 98 RX7 yX7_at wsX7_at) := goodIn_app (goodIn_of _ (by decide +kernel)) ggX8_time_X7_at
theorem dX8_time_0 : decode cX8_time 0 = .ok (.iload_n 1, 1) := by decide +kernel
theorem dX8_time_1 : decode cX8_time 1 = .ok (.iconst 0, 1) := by decide +kernel
theorem dX8_time_2 : decode cX8_time 2 = .ok (.aload_n 0, 1) := by decide +kernel
theorem dX8_time_3 : decode cX8_time 3 = .ok (.getfield 12, 3) := by decide +kernel
theorem dX8_time_6 : decode cX8_time 6 = .ok (.getfield 81, 3) := by decide +kernel
theorem dX8_time_9 : decode cX8_time 9 = .ok (.iconst 1, 1) := by decide +kernel
theorem dX8_time_10 : decode cX8_time 10 = .ok (.isub, 1) := by decide +kernel
theorem dX8_time_11 : decode cX8_time 11 = .ok (.invokestatic 40, 3) := by decide +kernel
theorem dX8_time_14 : decode cX8_time 14 = .ok (.ifCond .ne 11, 3) := by decide +kernel
theorem dX8_time_17 : decode cX8_time 17 = .ok (.new 95, 3) := by decide +kernel
theorem dX8_time_20 : decode cX8_time 20 = .ok (.dup, 1) := by decide +kernel
theorem dX8_time_21 : decode cX8_time 21 = .ok (.invokespecial 97, 3) := by decide +kernel
theorem dX8_time_24 : decode cX8_time 24 = .ok (.athrow, 1) := by decide +kernel
theorem dX8_time_25 : decode cX8_time 25 = .ok (.aload_n 0, 1) := by decide +kernel
theorem dX8_time_26 : decode cX8_time 26 = .ok (.getfield 12, 3) := by decide +kernel
theorem dX8_time_29 : decode cX8_time 29 = .ok (.iload_n 1, 1) := by decide +kernel
theorem dX8_time_30 : decode cX8_time 30 = .ok (.invokevirtual 98, 3) := by decide +kernel
theorem dX8_time_33 : decode cX8_time 33 = .ok (.ireturn, 1) := by decide +kernel
set_option maxRecDepth 20000 in
theorem ggX8_read_X8_makeAt : GoodIn wsX8_read wsX8_makeAt := goodIn_r _ [6, 7, 8, 9, 10, 5, 11, 68, 69, 70, 71, 72] rfl (by decide +kernel)
set_option maxRecDepth 20000 in
theorem gX8_read_X8_makeAt : GoodIn wsX8_read (wsV RX8 61 RX8 yX8_makeAt wsX8_makeAt) := goodIn_app (goodIn_of _ (by decide +kernel)) ggX8_read_X8_makeAt
set_option maxRecDepth 20000 in
theorem ggX8_read_X4_decode : GoodIn wsX8_read wsX4_decode := goodIn_r _ [16, 17, 18, 19, 20, 21, 22, 23, 24, 25, 26, 27, 28, 29, 30, 31, 32, 33, 10, 5, 11, 34, 35, 36, 37, 38, 39, 40, 41, 42, 43, 44, 45, 9, 46, 47, 48, 49, 50, 51, 52, 53, 54, 55, 56, 57, 58, 59, 60, 61, 62, 63, 64, 65, 66, 67, 73, 74, 75, 76, 77, 78, 79, 80, 81, 82, 83, 84, 85, 86, 87, 88, 89] rfl (by decide +kernel)
set_option maxRecDepth 20000 in
theorem gX8_read_X4_decode : GoodIn wsX8_read (wsV RX8 101 RX4 yX4_decode wsX4_decode) := goodIn_app (goodIn_of _ (by decide +kernel)) ggX8_read_X4_decode
theorem dX8_read_0 : decode cX8_read 0 = .ok (.aload_n 0, 1) := by decide +kernel
theorem dX8_read_1 : decode cX8_read 1 = .ok (.iload_n 1, 1) := by decide +kernel
theorem dX8_read_2 : decode cX8_read 2 = .ok (.invokevirtual 61, 3) := by decide +kernel
theorem dX8_read_5 : decode cX8_read 5 = .ok (.astore_n 2, 1) := by decide +kernel
theorem dX8_read_6 : decode cX8_read 6 = .ok (.aload_n 2, 1) := by decide +kernel
theorem dX8_read_7 : decode cX8_read 7 = .ok (.ifnonnull 7, 3) := by decide +kernel
theorem dX8_read_10 : decode cX8_read 10 = .ok (.iconst (-1), 1) := by decide +kernel
theorem dX8_read_11 : decode cX8_read 11 = .ok (.goto 11, 3) := by decide +kernel
theorem dX8_read_14 : decode cX8_read 14 = .ok (.aload_n 2, 1) := by decide +kernel
theorem dX8_read_15 : decode cX8_read 15 = .ok (.aload_n 0, 1) := by decide +kernel
theorem dX8_read_16 : decode cX8_read 16 = .ok (.getfield 12, 3) := by decide +kernel
theorem dX8_read_19 : decode cX8_read 19 = .ok (.invokevirtual 101, 3) := by decide +kernel
theorem dX8_read_22 : decode cX8_read 22 = .ok (.ireturn, 1) := by decide +kernel
set_option maxRecDepth 20000 in
theorem ggX8_which_X8_read : GoodIn wsX8_which wsX8_read := goodIn_r _ [6, 7, 8, 9, 10, 5, 11, 1, 12, 13, 14, 15, 16, 17, 18, 19, 20, 21, 22, 23, 24, 25, 26, 27, 28, 29, 30, 31, 32, 33, 34, 35, 36, 37, 38, 39, 40, 41, 42, 43, 44, 45, 46, 47, 48, 49, 50, 51, 52, 53, 54, 55, 56, 57, 58, 59, 60, 61, 62, 63, 64, 65, 66, 67, 68, 69, 70, 71, 72, 73, 74, 75, 76, 77, 78, 79, 80, 81, 82, 83, 84, 85, 86, 87, 88, 89, 90, 91, 92, 93] rfl (by decide +kernel)
set_option maxRecDepth 20000 in
theorem gX8_which_X8_read : GoodIn wsX8_which (wsV RX8 105 RX8 yX8_read wsX8_read) := goodIn_app (goodIn_of _ (by decide +kernel)) ggX8_which_X8_read
theorem dX8_which_0 : decode cX8_which 0 = .ok (.iconst 0, 1) := by decide +kernel
theorem dX8_which_1 : decode cX8_which 1 = .ok (.istore_n 1, 1) := by decide +kernel
theorem dX8_which_2 : decode cX8_which 2 = .ok (.iconst 0, 1) := by decide +kernel
theorem dX8_which_3 : decode cX8_which 3 = .ok (.istore_n 2, 1) := by decide +kernel
theorem dX8_which_4 : decode cX8_which 4 = .ok (.iload_n 2, 1) := by decide +kernel
theorem dX8_which_5 : decode cX8_which 5 = .ok (.aload_n 0, 1) := by decide +kernel
theorem dX8_which_6 : decode cX8_which 6 = .ok (.getfield 22, 3) := by decide +kernel
theorem dX8_which_9 : decode cX8_which 9 = .ok (.if_icmp .ge 23, 3) := by decide +kernel
theorem dX8_which_12 : decode cX8_which 12 = .ok (.aload_n 0, 1) := by decide +kernel
theorem dX8_which_13 : decode cX8_which 13 = .ok (.iload_n 2, 1) := by decide +kernel
theorem dX8_which_14 : decode cX8_which 14 = .ok (.invokevirtual 105, 3) := by decide +kernel
theorem dX8_which_17 : decode cX8_which 17 = .ok (.ifCond .lt 9, 3) := by decide +kernel
theorem dX8_which_20 : decode cX8_which 20 = .ok (.iload_n 1, 1) := by decide +kernel
theorem dX8_which_21 : decode cX8_which 21 = .ok (.iconst 1, 1) := by decide +kernel
theorem dX8_which_22 : decode cX8_which 22 = .ok (.iload_n 2, 1) := by decide +kernel
theorem dX8_which_23 : decode cX8_which 23 = .ok (.ishl, 1) := by decide +kernel
theorem dX8_which_24 : decode cX8_which 24 = .ok (.ior, 1) := by decide +kernel
theorem dX8_which_25 : decode cX8_which 25 = .ok (.istore_n 1, 1) := by decide +kernel
theorem dX8_which_26 : decode cX8_which 26 = .ok (.iinc 2 1, 3) := by decide +kernel
theorem dX8_which_29 : decode cX8_which 29 = .ok (.goto (-25), 3) := by decide +kernel
theorem dX8_which_32 : decode cX8_which 32 = .ok (.iload_n 1, 1) := by decide +kernel
theorem dX8_which_33 : decode cX8_which 33 = .ok (.ireturn, 1) := by decide +kernel
set_option maxRecDepth 20000 in
theorem ggX8_stretch_X8_within : GoodIn wsX8_stretch wsX8_within := goodIn_r _ [5] rfl (by decide +kernel)
set_option maxRecDepth 20000 in
theorem gX8_stretch_X8_within : GoodIn wsX8_stretch (va_wsS RX8 40 yX8_within wsX8_within) := goodIn_app (goodIn_of _ (by decide +kernel)) ggX8_stretch_X8_within
set_option maxRecDepth 20000 in
theorem ggX8_stretch_X7_stretchAll : GoodIn wsX8_stretch wsX7_stretchAll := goodIn_r _ [10, 11, 12, 13, 14, 15, 16, 17, 18, 19, 20, 4, 21, 2, 3, 5, 27, 28] rfl (by decide +kernel)
set_option maxRecDepth 20000 in
theorem gX8_stretch_X7_stretchAll : GoodIn wsX8_stretch (wsV RX8 108 RX7 yX7_stretchAll wsX7_stretchAll) := goodIn_app (goodIn_of _ (by decide +kernel)) ggX8_stretch_X7_stretchAll
theorem dX8_stretch_0 : decode cX8_stretch 0 = .ok (.iload_n 1, 1) := by decide +kernel
theorem dX8_stretch_1 : decode cX8_stretch 1 = .ok (.bipush (-60), 2) := by decide +kernel
theorem dX8_stretch_3 : decode cX8_stretch 3 = .ok (.bipush 60, 2) := by decide +kernel
theorem dX8_stretch_5 : decode cX8_stretch 5 = .ok (.invokestatic 40, 3) := by decide +kernel
theorem dX8_stretch_8 : decode cX8_stretch 8 = .ok (.ifCond .ne 5, 3) := by decide +kernel
theorem dX8_stretch_11 : decode cX8_stretch 11 = .ok (.iconst 0, 1) := by decide +kernel
theorem dX8_stretch_12 : decode cX8_stretch 12 = .ok (.ireturn, 1) := by decide +kernel
theorem dX8_stretch_13 : decode cX8_stretch 13 = .ok (.aload_n 0, 1) := by decide +kernel
theorem dX8_stretch_14 : decode cX8_stretch 14 = .ok (.getfield 12, 3) := by decide +kernel
theorem dX8_stretch_17 : decode cX8_stretch 17 = .ok (.iload_n 1, 1) := by decide +kernel
theorem dX8_stretch_18 : decode cX8_stretch 18 = .ok (.invokevirtual 108, 3) := by decide +kernel
theorem dX8_stretch_21 : decode cX8_stretch 21 = .ok (.iconst 1, 1) := by decide +kernel
theorem dX8_stretch_22 : decode cX8_stretch 22 = .ok (.ireturn, 1) := by decide +kernel
set_option maxRecDepth 20000 in
theorem ggX8_learn_X8_makeAt : GoodIn wsX8_learn wsX8_makeAt := goodIn_r _ [6, 7, 8, 9, 10, 5, 11, 110, 111, 112, 113, 114] rfl (by decide +kernel)
set_option maxRecDepth 20000 in
theorem gX8_learn_X8_makeAt : GoodIn wsX8_learn (wsV RX8 61 RX8 yX8_makeAt wsX8_makeAt) := goodIn_app (goodIn_of _ (by decide +kernel)) ggX8_learn_X8_makeAt
set_option maxRecDepth 20000 in
theorem ggX8_learn_X4_decode : GoodIn wsX8_learn wsX4_decode := goodIn_r _ [16, 17, 18, 19, 20, 21, 22, 23, 24, 25, 26, 27, 28, 29, 30, 31, 32, 33, 10, 5, 11, 34, 35, 36, 37, 38, 39, 40, 41, 42, 43, 44, 45, 9, 46, 47, 48, 49, 50, 51, 52, 53, 54, 55, 56, 57, 58, 59, 60, 61, 62, 63, 64, 65, 66, 67, 115, 116, 117, 118, 119, 120, 121, 122, 123, 124, 125, 126, 127, 128, 129, 130, 131] rfl (by decide +kernel)
set_option maxRecDepth 20000 in
theorem gX8_learn_X4_decode : GoodIn wsX8_learn (wsV RX8 101 RX4 yX4_decode wsX4_decode) := goodIn_app (goodIn_of _ (by decide +kernel)) ggX8_learn_X4_decode
set_option maxRecDepth 20000 in
theorem ggX8_learn_X3_take : GoodIn wsX8_learn wsX3_take := goodIn_r _ [72, 73, 74, 75, 76, 71, 77, 78, 79, 80, 81, 82, 10, 5, 11, 83, 84, 85, 86, 87, 88, 89, 90, 91, 92, 93, 94, 95, 96, 97, 98, 99, 100, 101, 102, 103, 104, 105, 106, 107, 108, 109, 132, 133, 134, 135, 136, 137, 138, 139] rfl (by decide +kernel)
set_option maxRecDepth 20000 in
theorem gX8_learn_X3_take : GoodIn wsX8_learn (wsV RX8 111 RX3 yX3_take wsX3_take) := goodIn_app (goodIn_of _ (by decide +kernel)) ggX8_learn_X3_take
theorem dX8_learn_0 : decode cX8_learn 0 = .ok (.aload_n 0, 1) := by decide +kernel
theorem dX8_learn_1 : decode cX8_learn 1 = .ok (.iload_n 1, 1) := by decide +kernel
theorem dX8_learn_2 : decode cX8_learn 2 = .ok (.invokevirtual 61, 3) := by decide +kernel
theorem dX8_learn_5 : decode cX8_learn 5 = .ok (.astore_n 3, 1) := by decide +kernel
theorem dX8_learn_6 : decode cX8_learn 6 = .ok (.aload_n 3, 1) := by decide +kernel
theorem dX8_learn_7 : decode cX8_learn 7 = .ok (.ifnonnull 5, 3) := by decide +kernel
theorem dX8_learn_10 : decode cX8_learn 10 = .ok (.iconst (-1), 1) := by decide +kernel
theorem dX8_learn_11 : decode cX8_learn 11 = .ok (.ireturn, 1) := by decide +kernel
theorem dX8_learn_12 : decode cX8_learn 12 = .ok (.aload_n 3, 1) := by decide +kernel
theorem dX8_learn_13 : decode cX8_learn 13 = .ok (.aload_n 0, 1) := by decide +kernel
theorem dX8_learn_14 : decode cX8_learn 14 = .ok (.getfield 12, 3) := by decide +kernel
theorem dX8_learn_17 : decode cX8_learn 17 = .ok (.invokevirtual 101, 3) := by decide +kernel
theorem dX8_learn_20 : decode cX8_learn 20 = .ok (.istore 4, 2) := by decide +kernel
theorem dX8_learn_22 : decode cX8_learn 22 = .ok (.iload 4, 2) := by decide +kernel
theorem dX8_learn_24 : decode cX8_learn 24 = .ok (.ifCond .ge 7, 3) := by decide +kernel
theorem dX8_learn_27 : decode cX8_learn 27 = .ok (.iconst (-1), 1) := by decide +kernel
theorem dX8_learn_28 : decode cX8_learn 28 = .ok (.goto 13, 3) := by decide +kernel
theorem dX8_learn_31 : decode cX8_learn 31 = .ok (.aload_n 3, 1) := by decide +kernel
theorem dX8_learn_32 : decode cX8_learn 32 = .ok (.getfield 71, 3) := by decide +kernel
theorem dX8_learn_35 : decode cX8_learn 35 = .ok (.iload_n 2, 1) := by decide +kernel
theorem dX8_learn_36 : decode cX8_learn 36 = .ok (.iload 4, 2) := by decide +kernel
theorem dX8_learn_38 : decode cX8_learn 38 = .ok (.invokevirtual 111, 3) := by decide +kernel
theorem dX8_learn_41 : decode cX8_learn 41 = .ok (.ireturn, 1) := by decide +kernel
set_option maxRecDepth 20000 in
theorem ggX8_forget_X8_makeAt : GoodIn wsX8_forget wsX8_makeAt := goodIn_r _ [5, 6, 7, 8, 9, 4, 10, 62, 63, 64, 65, 66] rfl (by decide +kernel)
set_option maxRecDepth 20000 in
theorem gX8_forget_X8_makeAt : GoodIn wsX8_forget (wsV RX8 61 RX8 yX8_makeAt wsX8_makeAt) := goodIn_app (goodIn_of _ (by decide +kernel)) ggX8_forget_X8_makeAt
set_option maxRecDepth 20000 in
theorem ggX8_forget_X3_drop : GoodIn wsX8_forget wsX3_drop := goodIn_r _ [15, 16, 17, 18, 19, 14, 20, 21, 22, 23, 24, 9, 4, 10, 25, 26, 27, 28, 29, 30, 31, 32, 33, 34, 35, 36, 37, 38, 39, 40, 41, 42, 43, 44, 45, 46, 47, 48, 49, 50, 51, 52, 53, 54, 55, 56, 67, 68, 69, 70, 71, 72, 73, 74] rfl (by decide +kernel)
set_option maxRecDepth 20000 in
theorem gX8_forget_X3_drop : GoodIn wsX8_forget (wsV RX8 115 RX3 yX3_drop wsX3_drop) := goodIn_app (goodIn_of _ (by decide +kernel)) ggX8_forget_X3_drop
theorem dX8_forget_0 : decode cX8_forget 0 = .ok (.aload_n 0, 1) := by decide +kernel
theorem dX8_forget_1 : decode cX8_forget 1 = .ok (.iload_n 1, 1) := by decide +kernel
theorem dX8_forget_2 : decode cX8_forget 2 = .ok (.invokevirtual 61, 3) := by decide +kernel
theorem dX8_forget_5 : decode cX8_forget 5 = .ok (.astore_n 3, 1) := by decide +kernel
theorem dX8_forget_6 : decode cX8_forget 6 = .ok (.aload_n 3, 1) := by decide +kernel
theorem dX8_forget_7 : decode cX8_forget 7 = .ok (.ifnull 18, 3) := by decide +kernel
theorem dX8_forget_10 : decode cX8_forget 10 = .ok (.aload_n 3, 1) := by decide +kernel
theorem dX8_forget_11 : decode cX8_forget 11 = .ok (.getfield 71, 3) := by decide +kernel
theorem dX8_forget_14 : decode cX8_forget 14 = .ok (.iload_n 2, 1) := by decide +kernel
theorem dX8_forget_15 : decode cX8_forget 15 = .ok (.invokevirtual 115, 3) := by decide +kernel
theorem dX8_forget_18 : decode cX8_forget 18 = .ok (.ifCond .eq 7, 3) := by decide +kernel
theorem dX8_forget_21 : decode cX8_forget 21 = .ok (.iconst 1, 1) := by decide +kernel
theorem dX8_forget_22 : decode cX8_forget 22 = .ok (.goto 4, 3) := by decide +kernel
theorem dX8_forget_25 : decode cX8_forget 25 = .ok (.iconst 0, 1) := by decide +kernel
theorem dX8_forget_26 : decode cX8_forget 26 = .ok (.ireturn, 1) := by decide +kernel
set_option maxRecDepth 20000 in
theorem ggX8_key_X8_makeAt : GoodIn wsX8_key wsX8_makeAt := goodIn_r _ [5, 6, 7, 8, 9, 4, 10, 26, 27, 28, 29, 30] rfl (by decide +kernel)
set_option maxRecDepth 20000 in
theorem gX8_key_X8_makeAt : GoodIn wsX8_key (wsV RX8 61 RX8 yX8_makeAt wsX8_makeAt) := goodIn_app (goodIn_of _ (by decide +kernel)) ggX8_key_X8_makeAt
set_option maxRecDepth 20000 in
theorem ggX8_key_X3_codeOf : GoodIn wsX8_key wsX3_codeOf := goodIn_r _ [15, 16, 17, 18, 19, 14, 20, 9, 4, 10, 31, 32, 33, 34, 35, 36, 37, 38] rfl (by decide +kernel)
set_option maxRecDepth 20000 in
theorem gX8_key_X3_codeOf : GoodIn wsX8_key (wsV RX8 118 RX3 yX3_codeOf wsX3_codeOf) := goodIn_app (goodIn_of _ (by decide +kernel)) ggX8_key_X3_codeOf
theorem dX8_key_0 : decode cX8_key 0 = .ok (.aload_n 0, 1) := by decide +kernel
theorem dX8_key_1 : decode cX8_key 1 = .ok (.iload_n 1, 1) := by decide +kernel
theorem dX8_key_2 : decode cX8_key 2 = .ok (.invokevirtual 61, 3) := by decide +kernel
theorem dX8_key_5 : decode cX8_key 5 = .ok (.astore_n 3, 1) := by decide +kernel
theorem dX8_key_6 : decode cX8_key 6 = .ok (.aload_n 3, 1) := by decide +kernel
theorem dX8_key_7 : decode cX8_key 7 = .ok (.ifnonnull 7, 3) := by decide +kernel
theorem dX8_key_10 : decode cX8_key 10 = .ok (.iconst (-1), 1) := by decide +kernel
theorem dX8_key_11 : decode cX8_key 11 = .ok (.goto 11, 3) := by decide +kernel
theorem dX8_key_14 : decode cX8_key 14 = .ok (.aload_n 3, 1) := by decide +kernel
theorem dX8_key_15 : decode cX8_key 15 = .ok (.getfield 71, 3) := by decide +kernel
theorem dX8_key_18 : decode cX8_key 18 = .ok (.iload_n 2, 1) := by decide +kernel
theorem dX8_key_19 : decode cX8_key 19 = .ok (.invokevirtual 118, 3) := by decide +kernel
theorem dX8_key_22 : decode cX8_key 22 = .ok (.ireturn, 1) := by decide +kernel
set_option maxRecDepth 20000 in
theorem ggX8_press_X8_makeAt : GoodIn wsX8_press wsX8_makeAt := goodIn_r _ [6, 7, 8, 9, 10, 5, 11, 88, 89, 90, 91, 92] rfl (by decide +kernel)
set_option maxRecDepth 20000 in
theorem gX8_press_X8_makeAt : GoodIn wsX8_press (wsV RX8 61 RX8 yX8_makeAt wsX8_makeAt) := goodIn_app (goodIn_of _ (by decide +kernel)) ggX8_press_X8_makeAt
set_option maxRecDepth 20000 in
theorem ggX8_press_X3_codeOf : GoodIn wsX8_press wsX3_codeOf := goodIn_r _ [16, 17, 18, 19, 20, 15, 21, 10, 5, 11, 93, 94, 95, 96, 97, 98, 99, 100] rfl (by decide +kernel)
set_option maxRecDepth 20000 in
theorem gX8_press_X3_codeOf : GoodIn wsX8_press (wsV RX8 118 RX3 yX3_codeOf wsX3_codeOf) := goodIn_app (goodIn_of _ (by decide +kernel)) ggX8_press_X3_codeOf
set_option maxRecDepth 20000 in
theorem ggX8_press_X3_codeToSend : GoodIn wsX8_press wsX3_codeToSend := goodIn_r _ [25, 26, 27, 28, 13, 14, 15, 16, 17, 18, 19, 20, 21, 10, 5, 11, 29, 30, 31, 32, 93, 94, 95, 96, 97, 98, 99, 100] rfl (by decide +kernel)
set_option maxRecDepth 20000 in
theorem gX8_press_X3_codeToSend : GoodIn wsX8_press (wsV RX8 121 RX3 yX3_codeToSend wsX3_codeToSend) := goodIn_app (goodIn_of _ (by decide +kernel)) ggX8_press_X3_codeToSend
set_option maxRecDepth 20000 in
theorem ggX8_press_X4_flash : GoodIn wsX8_press wsX4_flash := goodIn_r _ [37, 38, 39, 40, 41, 42, 43, 44, 45, 46, 47, 48, 49, 50, 51, 52, 53, 54, 55, 56, 57, 58, 59, 60, 61, 62, 63, 64, 65, 66, 67, 68, 69, 70, 71, 72, 73, 74, 75, 76, 77, 78, 79, 80, 81, 82, 101, 102, 83, 84, 85, 86, 87, 103, 104, 105, 106, 107, 108, 109, 110, 111, 112] rfl (by decide +kernel)
set_option maxRecDepth 20000 in
theorem gX8_press_X4_flash : GoodIn wsX8_press (wsV RX8 91 RX4 yX4_flash wsX4_flash) := goodIn_app (goodIn_of _ (by decide +kernel)) ggX8_press_X4_flash
theorem dX8_press_0 : decode cX8_press 0 = .ok (.aload_n 0, 1) := by decide +kernel
theorem dX8_press_1 : decode cX8_press 1 = .ok (.iload_n 1, 1) := by decide +kernel
theorem dX8_press_2 : decode cX8_press 2 = .ok (.invokevirtual 61, 3) := by decide +kernel
theorem dX8_press_5 : decode cX8_press 5 = .ok (.astore_n 3, 1) := by decide +kernel
theorem dX8_press_6 : decode cX8_press 6 = .ok (.aload_n 3, 1) := by decide +kernel
theorem dX8_press_7 : decode cX8_press 7 = .ok (.ifnull 15, 3) := by decide +kernel
theorem dX8_press_10 : decode cX8_press 10 = .ok (.aload_n 3, 1) := by decide +kernel
theorem dX8_press_11 : decode cX8_press 11 = .ok (.getfield 71, 3) := by decide +kernel
theorem dX8_press_14 : decode cX8_press 14 = .ok (.iload_n 2, 1) := by decide +kernel
theorem dX8_press_15 : decode cX8_press 15 = .ok (.invokevirtual 118, 3) := by decide +kernel
theorem dX8_press_18 : decode cX8_press 18 = .ok (.iconst (-1), 1) := by decide +kernel
theorem dX8_press_19 : decode cX8_press 19 = .ok (.if_icmp .ne 5, 3) := by decide +kernel
theorem dX8_press_22 : decode cX8_press 22 = .ok (.iconst (-1), 1) := by decide +kernel
theorem dX8_press_23 : decode cX8_press 23 = .ok (.ireturn, 1) := by decide +kernel
theorem dX8_press_24 : decode cX8_press 24 = .ok (.aload_n 3, 1) := by decide +kernel
theorem dX8_press_25 : decode cX8_press 25 = .ok (.aload_n 3, 1) := by decide +kernel
theorem dX8_press_26 : decode cX8_press 26 = .ok (.getfield 71, 3) := by decide +kernel
theorem dX8_press_29 : decode cX8_press 29 = .ok (.iload_n 2, 1) := by decide +kernel
theorem dX8_press_30 : decode cX8_press 30 = .ok (.invokevirtual 121, 3) := by decide +kernel
theorem dX8_press_33 : decode cX8_press 33 = .ok (.aload_n 0, 1) := by decide +kernel
theorem dX8_press_34 : decode cX8_press 34 = .ok (.getfield 12, 3) := by decide +kernel
theorem dX8_press_37 : decode cX8_press 37 = .ok (.invokevirtual 91, 3) := by decide +kernel
theorem dX8_press_40 : decode cX8_press 40 = .ok (.ireturn, 1) := by decide +kernel
set_option maxRecDepth 20000 in
theorem ggX8_of_X8_makeAt : GoodIn wsX8_of wsX8_makeAt := goodIn_r _ [5, 6, 7, 8, 9, 4, 10, 24, 25, 26, 27, 28] rfl (by decide +kernel)
set_option maxRecDepth 20000 in
theorem gX8_of_X8_makeAt : GoodIn wsX8_of (wsV RX8 61 RX8 yX8_makeAt wsX8_makeAt) := goodIn_app (goodIn_of _ (by decide +kernel)) ggX8_of_X8_makeAt
theorem dX8_of_0 : decode cX8_of 0 = .ok (.aload_n 0, 1) := by decide +kernel
theorem dX8_of_1 : decode cX8_of 1 = .ok (.iload_n 1, 1) := by decide +kernel
theorem dX8_of_2 : decode cX8_of 2 = .ok (.invokevirtual 61, 3) := by decide +kernel
theorem dX8_of_5 : decode cX8_of 5 = .ok (.astore_n 3, 1) := by decide +kernel
theorem dX8_of_6 : decode cX8_of 6 = .ok (.aload_n 3, 1) := by decide +kernel
theorem dX8_of_7 : decode cX8_of 7 = .ok (.ifnonnull 5, 3) := by decide +kernel
theorem dX8_of_10 : decode cX8_of 10 = .ok (.iconst (-1), 1) := by decide +kernel
theorem dX8_of_11 : decode cX8_of 11 = .ok (.ireturn, 1) := by decide +kernel
theorem dX8_of_12 : decode cX8_of 12 = .ok (.iload_n 2, 1) := by decide +kernel
theorem dX8_of_13 : decode cX8_of 13 = .ok (.tableswitch 90 0 6 #[43, 48, 53, 58, 66, 74, 82], 43) := by decide +kernel
theorem dX8_of_56 : decode cX8_of 56 = .ok (.aload_n 3, 1) := by decide +kernel
theorem dX8_of_57 : decode cX8_of 57 = .ok (.getfield 124, 3) := by decide +kernel
theorem dX8_of_60 : decode cX8_of 60 = .ok (.ireturn, 1) := by decide +kernel
theorem dX8_of_61 : decode cX8_of 61 = .ok (.aload_n 3, 1) := by decide +kernel
theorem dX8_of_62 : decode cX8_of 62 = .ok (.getfield 68, 3) := by decide +kernel
theorem dX8_of_65 : decode cX8_of 65 = .ok (.ireturn, 1) := by decide +kernel
theorem dX8_of_66 : decode cX8_of 66 = .ok (.aload_n 3, 1) := by decide +kernel
theorem dX8_of_67 : decode cX8_of 67 = .ok (.getfield 65, 3) := by decide +kernel
theorem dX8_of_70 : decode cX8_of 70 = .ok (.ireturn, 1) := by decide +kernel
theorem dX8_of_71 : decode cX8_of 71 = .ok (.aload_n 3, 1) := by decide +kernel
theorem dX8_of_72 : decode cX8_of 72 = .ok (.getfield 71, 3) := by decide +kernel
theorem dX8_of_75 : decode cX8_of 75 = .ok (.getfield 127, 3) := by decide +kernel
theorem dX8_of_78 : decode cX8_of 78 = .ok (.ireturn, 1) := by decide +kernel
theorem dX8_of_79 : decode cX8_of 79 = .ok (.aload_n 3, 1) := by decide +kernel
theorem dX8_of_80 : decode cX8_of 80 = .ok (.getfield 71, 3) := by decide +kernel
theorem dX8_of_83 : decode cX8_of 83 = .ok (.getfield 130, 3) := by decide +kernel
theorem dX8_of_86 : decode cX8_of 86 = .ok (.ireturn, 1) := by decide +kernel
theorem dX8_of_87 : decode cX8_of 87 = .ok (.aload_n 3, 1) := by decide +kernel
theorem dX8_of_88 : decode cX8_of 88 = .ok (.getfield 71, 3) := by decide +kernel
theorem dX8_of_91 : decode cX8_of 91 = .ok (.getfield 133, 3) := by decide +kernel
theorem dX8_of_94 : decode cX8_of 94 = .ok (.ireturn, 1) := by decide +kernel
theorem dX8_of_95 : decode cX8_of 95 = .ok (.aload_n 3, 1) := by decide +kernel
theorem dX8_of_96 : decode cX8_of 96 = .ok (.getfield 71, 3) := by decide +kernel
theorem dX8_of_99 : decode cX8_of 99 = .ok (.getfield 136, 3) := by decide +kernel
theorem dX8_of_102 : decode cX8_of 102 = .ok (.ireturn, 1) := by decide +kernel
theorem dX8_of_103 : decode cX8_of 103 = .ok (.iconst (-1), 1) := by decide +kernel
theorem dX8_of_104 : decode cX8_of 104 = .ok (.ireturn, 1) := by decide +kernel
set_option maxRecDepth 20000 in
theorem ggX8_check_X8_makeAt : GoodIn wsX8_check wsX8_makeAt := goodIn_r _ [5, 6, 7, 8, 9, 4, 10, 22, 23, 24, 25, 26] rfl (by decide +kernel)
set_option maxRecDepth 20000 in
theorem gX8_check_X8_makeAt : GoodIn wsX8_check (wsV RX8 61 RX8 yX8_makeAt wsX8_makeAt) := goodIn_app (goodIn_of _ (by decide +kernel)) ggX8_check_X8_makeAt
set_option maxRecDepth 20000 in
theorem ggX8_check_X3_constantThatHolds : GoodIn wsX8_check wsX3_constantThatHolds := goodIn_r _ [15, 16, 9, 4, 10, 27, 28, 29, 30, 31, 32, 33, 34] rfl (by decide +kernel)
set_option maxRecDepth 20000 in
theorem gX8_check_X3_constantThatHolds : GoodIn wsX8_check (wsV RX8 139 RX3 yX3_constantThatHolds wsX3_constantThatHolds) := goodIn_app (goodIn_of _ (by decide +kernel)) ggX8_check_X3_constantThatHolds
theorem dX8_check_0 : decode cX8_check 0 = .ok (.aload_n 0, 1) := by decide +kernel
theorem dX8_check_1 : decode cX8_check 1 = .ok (.iload_n 1, 1) := by decide +kernel
theorem dX8_check_2 : decode cX8_check 2 = .ok (.invokevirtual 61, 3) := by decide +kernel
theorem dX8_check_5 : decode cX8_check 5 = .ok (.astore_n 3, 1) := by decide +kernel
theorem dX8_check_6 : decode cX8_check 6 = .ok (.aload_n 3, 1) := by decide +kernel
theorem dX8_check_7 : decode cX8_check 7 = .ok (.ifnonnull 7, 3) := by decide +kernel
theorem dX8_check_10 : decode cX8_check 10 = .ok (.iconst (-1), 1) := by decide +kernel
theorem dX8_check_11 : decode cX8_check 11 = .ok (.goto 11, 3) := by decide +kernel
theorem dX8_check_14 : decode cX8_check 14 = .ok (.aload_n 3, 1) := by decide +kernel
theorem dX8_check_15 : decode cX8_check 15 = .ok (.getfield 71, 3) := by decide +kernel
theorem dX8_check_18 : decode cX8_check 18 = .ok (.iload_n 2, 1) := by decide +kernel
theorem dX8_check_19 : decode cX8_check 19 = .ok (.invokevirtual 139, 3) := by decide +kernel
theorem dX8_check_22 : decode cX8_check 22 = .ok (.ireturn, 1) := by decide +kernel
set_option maxRecDepth 20000 in
theorem ggX8_many_X8_makeAt : GoodIn wsX8_many wsX8_makeAt := goodIn_r _ [5, 6, 7, 8, 9, 4, 10, 64, 65, 66, 67, 68] rfl (by decide +kernel)
set_option maxRecDepth 20000 in
theorem gX8_many_X8_makeAt : GoodIn wsX8_many (wsV RX8 61 RX8 yX8_makeAt wsX8_makeAt) := goodIn_app (goodIn_of _ (by decide +kernel)) ggX8_many_X8_makeAt
set_option maxRecDepth 20000 in
theorem ggX8_many_X3_canForesee : GoodIn wsX8_many wsX3_canForesee := goodIn_r _ [15, 16, 17, 18, 19, 14, 20, 21, 22, 23, 4, 24, 25, 26, 27, 28, 29, 30, 31, 32, 33, 34, 35, 36, 69, 70, 71, 72, 73, 74, 75, 76] rfl (by decide +kernel)
set_option maxRecDepth 20000 in
theorem gX8_many_X3_canForesee : GoodIn wsX8_many (wsV RX8 142 RX3 yX3_canForesee wsX3_canForesee) := goodIn_app (goodIn_of _ (by decide +kernel)) ggX8_many_X3_canForesee
set_option maxRecDepth 20000 in
theorem ggX8_many_X3_foreseenCount : GoodIn wsX8_many wsX3_foreseenCount := goodIn_r _ [40, 41, 42, 43, 14, 44, 45, 17, 18, 19, 20, 21, 22, 23, 4, 24, 25, 26, 27, 28, 29, 30, 31, 32, 33, 34, 35, 36, 46, 47, 48, 49, 50, 51, 52, 53, 54, 55, 56, 57, 58, 69, 70, 71, 72, 73, 74, 75, 76] rfl (by decide +kernel)
set_option maxRecDepth 20000 in
theorem gX8_many_X3_foreseenCount : GoodIn wsX8_many (wsV RX8 146 RX3 yX3_foreseenCount wsX3_foreseenCount) := goodIn_app (goodIn_of _ (by decide +kernel)) ggX8_many_X3_foreseenCount
theorem dX8_many_0 : decode cX8_many 0 = .ok (.aload_n 0, 1) := by decide +kernel
theorem dX8_many_1 : decode cX8_many 1 = .ok (.iload_n 1, 1) := by decide +kernel
theorem dX8_many_2 : decode cX8_many 2 = .ok (.invokevirtual 61, 3) := by decide +kernel
theorem dX8_many_5 : decode cX8_many 5 = .ok (.astore_n 2, 1) := by decide +kernel
theorem dX8_many_6 : decode cX8_many 6 = .ok (.aload_n 2, 1) := by decide +kernel
theorem dX8_many_7 : decode cX8_many 7 = .ok (.ifnull 13, 3) := by decide +kernel
theorem dX8_many_10 : decode cX8_many 10 = .ok (.aload_n 2, 1) := by decide +kernel
theorem dX8_many_11 : decode cX8_many 11 = .ok (.getfield 71, 3) := by decide +kernel
theorem dX8_many_14 : decode cX8_many 14 = .ok (.invokevirtual 142, 3) := by decide +kernel
theorem dX8_many_17 : decode cX8_many 17 = .ok (.ifCond .ne 7, 3) := by decide +kernel
theorem dX8_many_20 : decode cX8_many 20 = .ok (.iconst (-1), 1) := by decide +kernel
theorem dX8_many_21 : decode cX8_many 21 = .ok (.goto 10, 3) := by decide +kernel
theorem dX8_many_24 : decode cX8_many 24 = .ok (.aload_n 2, 1) := by decide +kernel
theorem dX8_many_25 : decode cX8_many 25 = .ok (.getfield 71, 3) := by decide +kernel
theorem dX8_many_28 : decode cX8_many 28 = .ok (.invokevirtual 146, 3) := by decide +kernel
theorem dX8_many_31 : decode cX8_many 31 = .ok (.ireturn, 1) := by decide +kernel
set_option maxRecDepth 20000 in
theorem ggX8_foreseen_X8_makeAt : GoodIn wsX8_foreseen wsX8_makeAt := goodIn_r _ [5, 6, 7, 8, 9, 4, 10, 64, 65, 66, 67, 68] rfl (by decide +kernel)
set_option maxRecDepth 20000 in
theorem gX8_foreseen_X8_makeAt : GoodIn wsX8_foreseen (wsV RX8 61 RX8 yX8_makeAt wsX8_makeAt) := goodIn_app (goodIn_of _ (by decide +kernel)) ggX8_foreseen_X8_makeAt
set_option maxRecDepth 20000 in
theorem ggX8_foreseen_X3_canForesee : GoodIn wsX8_foreseen wsX3_canForesee := goodIn_r _ [15, 16, 17, 18, 19, 14, 20, 21, 22, 23, 4, 24, 25, 26, 27, 28, 29, 30, 31, 32, 33, 34, 35, 36, 69, 70, 71, 72, 73, 74, 75, 76] rfl (by decide +kernel)
set_option maxRecDepth 20000 in
theorem gX8_foreseen_X3_canForesee : GoodIn wsX8_foreseen (wsV RX8 142 RX3 yX3_canForesee wsX3_canForesee) := goodIn_app (goodIn_of _ (by decide +kernel)) ggX8_foreseen_X3_canForesee
set_option maxRecDepth 20000 in
theorem ggX8_foreseen_X3_foreseenAt : GoodIn wsX8_foreseen wsX3_foreseenAt := goodIn_r _ [40, 9, 4, 10, 41, 42, 43, 14, 44, 45, 17, 18, 19, 20, 21, 22, 23, 24, 25, 26, 27, 28, 29, 30, 31, 32, 33, 34, 35, 36, 46, 47, 48, 49, 50, 51, 52, 53, 54, 55, 56, 57, 58, 69, 70, 71, 72, 73, 74, 75, 76] rfl (by decide +kernel)
set_option maxRecDepth 20000 in
theorem gX8_foreseen_X3_foreseenAt : GoodIn wsX8_foreseen (wsV RX8 150 RX3 yX3_foreseenAt wsX3_foreseenAt) := goodIn_app (goodIn_of _ (by decide +kernel)) ggX8_foreseen_X3_foreseenAt
theorem dX8_foreseen_0 : decode cX8_foreseen 0 = .ok (.aload_n 0, 1) := by decide +kernel
theorem dX8_foreseen_1 : decode cX8_foreseen 1 = .ok (.iload_n 1, 1) := by decide +kernel
theorem dX8_foreseen_2 : decode cX8_foreseen 2 = .ok (.invokevirtual 61, 3) := by decide +kernel
theorem dX8_foreseen_5 : decode cX8_foreseen 5 = .ok (.astore_n 3, 1) := by decide +kernel
theorem dX8_foreseen_6 : decode cX8_foreseen 6 = .ok (.aload_n 3, 1) := by decide +kernel
theorem dX8_foreseen_7 : decode cX8_foreseen 7 = .ok (.ifnull 13, 3) := by decide +kernel
theorem dX8_foreseen_10 : decode cX8_foreseen 10 = .ok (.aload_n 3, 1) := by decide +kernel
theorem dX8_foreseen_11 : decode cX8_foreseen 11 = .ok (.getfield 71, 3) := by decide +kernel
theorem dX8_foreseen_14 : decode cX8_foreseen 14 = .ok (.invokevirtual 142, 3) := by decide +kernel
theorem dX8_foreseen_17 : decode cX8_foreseen 17 = .ok (.ifCond .ne 7, 3) := by decide +kernel
theorem dX8_foreseen_20 : decode cX8_foreseen 20 = .ok (.iconst (-1), 1) := by decide +kernel
theorem dX8_foreseen_21 : decode cX8_foreseen 21 = .ok (.goto 11, 3) := by decide +kernel
theorem dX8_foreseen_24 : decode cX8_foreseen 24 = .ok (.aload_n 3, 1) := by decide +kernel
theorem dX8_foreseen_25 : decode cX8_foreseen 25 = .ok (.getfield 71, 3) := by decide +kernel
theorem dX8_foreseen_28 : decode cX8_foreseen 28 = .ok (.iload_n 2, 1) := by decide +kernel
theorem dX8_foreseen_29 : decode cX8_foreseen 29 = .ok (.invokevirtual 150, 3) := by decide +kernel
theorem dX8_foreseen_32 : decode cX8_foreseen 32 = .ok (.ireturn, 1) := by decide +kernel
set_option maxRecDepth 20000 in
theorem ggX8_both_X8_makeAt : GoodIn wsX8_both wsX8_makeAt := goodIn_r _ [5, 6, 7, 8, 9, 4, 10, 68, 69, 70, 71, 72] rfl (by decide +kernel)
set_option maxRecDepth 20000 in
theorem gX8_both_X8_makeAt : GoodIn wsX8_both (wsV RX8 61 RX8 yX8_makeAt wsX8_makeAt) := goodIn_app (goodIn_of _ (by decide +kernel)) ggX8_both_X8_makeAt
set_option maxRecDepth 20000 in
theorem ggX8_both_X3_canForesee : GoodIn wsX8_both wsX3_canForesee := goodIn_r _ [15, 16, 17, 18, 19, 14, 20, 21, 22, 23, 4, 24, 25, 26, 27, 28, 29, 30, 31, 32, 33, 34, 35, 36, 73, 74, 75, 76, 77, 78, 79, 80] rfl (by decide +kernel)
set_option maxRecDepth 20000 in
theorem gX8_both_X3_canForesee : GoodIn wsX8_both (wsV RX8 142 RX3 yX3_canForesee wsX3_canForesee) := goodIn_app (goodIn_of _ (by decide +kernel)) ggX8_both_X3_canForesee
set_option maxRecDepth 20000 in
theorem ggX8_both_X3_leastForeseenWith : GoodIn wsX8_both wsX3_leastForeseenWith := goodIn_r _ [40, 41, 42, 43, 14, 44, 45, 17, 18, 19, 20, 21, 22, 23, 4, 24, 25, 26, 27, 28, 29, 30, 31, 32, 33, 34, 35, 36, 46, 47, 48, 49, 50, 51, 52, 53, 54, 55, 56, 57, 58, 59, 60, 61, 62, 73, 74, 75, 76, 77, 78, 79, 80] rfl (by decide +kernel)
set_option maxRecDepth 20000 in
theorem gX8_both_X3_leastForeseenWith : GoodIn wsX8_both (wsV RX8 153 RX3 yX3_leastForeseenWith wsX3_leastForeseenWith) := goodIn_app (goodIn_of _ (by decide +kernel)) ggX8_both_X3_leastForeseenWith
theorem dX8_both_0 : decode cX8_both 0 = .ok (.aload_n 0, 1) := by decide +kernel
theorem dX8_both_1 : decode cX8_both 1 = .ok (.iload_n 1, 1) := by decide +kernel
theorem dX8_both_2 : decode cX8_both 2 = .ok (.invokevirtual 61, 3) := by decide +kernel
theorem dX8_both_5 : decode cX8_both 5 = .ok (.astore_n 3, 1) := by decide +kernel
theorem dX8_both_6 : decode cX8_both 6 = .ok (.aload_n 0, 1) := by decide +kernel
theorem dX8_both_7 : decode cX8_both 7 = .ok (.iload_n 2, 1) := by decide +kernel
theorem dX8_both_8 : decode cX8_both 8 = .ok (.invokevirtual 61, 3) := by decide +kernel
theorem dX8_both_11 : decode cX8_both 11 = .ok (.astore 4, 2) := by decide +kernel
theorem dX8_both_13 : decode cX8_both 13 = .ok (.aload_n 3, 1) := by decide +kernel
theorem dX8_both_14 : decode cX8_both 14 = .ok (.ifnull 20, 3) := by decide +kernel
theorem dX8_both_17 : decode cX8_both 17 = .ok (.aload 4, 2) := by decide +kernel
theorem dX8_both_19 : decode cX8_both 19 = .ok (.ifnull 15, 3) := by decide +kernel
theorem dX8_both_22 : decode cX8_both 22 = .ok (.aload_n 3, 1) := by decide +kernel
theorem dX8_both_23 : decode cX8_both 23 = .ok (.getfield 68, 3) := by decide +kernel
theorem dX8_both_26 : decode cX8_both 26 = .ok (.aload 4, 2) := by decide +kernel
theorem dX8_both_28 : decode cX8_both 28 = .ok (.getfield 68, 3) := by decide +kernel
theorem dX8_both_31 : decode cX8_both 31 = .ok (.if_icmp .eq 5, 3) := by decide +kernel
theorem dX8_both_34 : decode cX8_both 34 = .ok (.iconst (-1), 1) := by decide +kernel
theorem dX8_both_35 : decode cX8_both 35 = .ok (.ireturn, 1) := by decide +kernel
theorem dX8_both_36 : decode cX8_both 36 = .ok (.aload_n 3, 1) := by decide +kernel
theorem dX8_both_37 : decode cX8_both 37 = .ok (.getfield 71, 3) := by decide +kernel
theorem dX8_both_40 : decode cX8_both 40 = .ok (.invokevirtual 142, 3) := by decide +kernel
theorem dX8_both_43 : decode cX8_both 43 = .ok (.ifCond .eq 14, 3) := by decide +kernel
theorem dX8_both_46 : decode cX8_both 46 = .ok (.aload 4, 2) := by decide +kernel
theorem dX8_both_48 : decode cX8_both 48 = .ok (.getfield 71, 3) := by decide +kernel
theorem dX8_both_51 : decode cX8_both 51 = .ok (.invokevirtual 142, 3) := by decide +kernel
theorem dX8_both_54 : decode cX8_both 54 = .ok (.ifCond .ne 5, 3) := by decide +kernel
theorem dX8_both_57 : decode cX8_both 57 = .ok (.iconst (-1), 1) := by decide +kernel
theorem dX8_both_58 : decode cX8_both 58 = .ok (.ireturn, 1) := by decide +kernel
theorem dX8_both_59 : decode cX8_both 59 = .ok (.aload_n 3, 1) := by decide +kernel
theorem dX8_both_60 : decode cX8_both 60 = .ok (.getfield 71, 3) := by decide +kernel
theorem dX8_both_63 : decode cX8_both 63 = .ok (.aload 4, 2) := by decide +kernel
theorem dX8_both_65 : decode cX8_both 65 = .ok (.getfield 71, 3) := by decide +kernel
theorem dX8_both_68 : decode cX8_both 68 = .ok (.invokevirtual 153, 3) := by decide +kernel
theorem dX8_both_71 : decode cX8_both 71 = .ok (.ireturn, 1) := by decide +kernel
set_option maxRecDepth 20000 in
theorem ggX8_box_X8_boxAt : GoodIn wsX8_box wsX8_boxAt := goodIn_r _ [5, 6, 7, 8, 4, 9, 24, 25, 26, 27, 28] rfl (by decide +kernel)
set_option maxRecDepth 20000 in
theorem gX8_box_X8_boxAt : GoodIn wsX8_box (wsV RX8 157 RX8 yX8_boxAt wsX8_boxAt) := goodIn_app (goodIn_of _ (by decide +kernel)) ggX8_box_X8_boxAt
set_option maxRecDepth 20000 in
theorem ggX8_box_X8_within : GoodIn wsX8_box wsX8_within := goodIn_r _ [9] rfl (by decide +kernel)
set_option maxRecDepth 20000 in
theorem gX8_box_X8_within : GoodIn wsX8_box (va_wsS RX8 40 yX8_within wsX8_within) := goodIn_app (goodIn_of _ (by decide +kernel)) ggX8_box_X8_within
set_option maxRecDepth 20000 in
theorem ggX8_box_X0_startAnew : GoodIn wsX8_box wsX0_startAnew := goodIn_r _ [13, 14, 15, 16, 17, 18, 4, 19, 20, 21, 22, 23, 29, 30, 31, 32] rfl (by decide +kernel)
set_option maxRecDepth 20000 in
theorem gX8_box_X0_startAnew_n161 : GoodIn wsX8_box (wsX0_startAnew) := ggX8_box_X0_startAnew
theorem dX8_box_0 : decode cX8_box 0 = .ok (.aload_n 0, 1) := by decide +kernel
theorem dX8_box_1 : decode cX8_box 1 = .ok (.iload_n 1, 1) := by decide +kernel
theorem dX8_box_2 : decode cX8_box 2 = .ok (.invokevirtual 157, 3) := by decide +kernel
theorem dX8_box_5 : decode cX8_box 5 = .ok (.astore 4, 2) := by decide +kernel
theorem dX8_box_7 : decode cX8_box 7 = .ok (.aload 4, 2) := by decide +kernel
theorem dX8_box_9 : decode cX8_box 9 = .ok (.ifnull 22, 3) := by decide +kernel
theorem dX8_box_12 : decode cX8_box 12 = .ok (.iload_n 2, 1) := by decide +kernel
theorem dX8_box_13 : decode cX8_box 13 = .ok (.iconst 1, 1) := by decide +kernel
theorem dX8_box_14 : decode cX8_box 14 = .ok (.bipush 8, 2) := by decide +kernel
theorem dX8_box_16 : decode cX8_box 16 = .ok (.invokestatic 40, 3) := by decide +kernel
theorem dX8_box_19 : decode cX8_box 19 = .ok (.ifCond .eq 12, 3) := by decide +kernel
theorem dX8_box_22 : decode cX8_box 22 = .ok (.iload_n 3, 1) := by decide +kernel
theorem dX8_box_23 : decode cX8_box 23 = .ok (.iconst 1, 1) := by decide +kernel
theorem dX8_box_24 : decode cX8_box 24 = .ok (.iconst 4, 1) := by decide +kernel
theorem dX8_box_25 : decode cX8_box 25 = .ok (.invokestatic 40, 3) := by decide +kernel
theorem dX8_box_28 : decode cX8_box 28 = .ok (.ifCond .ne 5, 3) := by decide +kernel
theorem dX8_box_31 : decode cX8_box 31 = .ok (.iconst 0, 1) := by decide +kernel
theorem dX8_box_32 : decode cX8_box 32 = .ok (.ireturn, 1) := by decide +kernel
theorem dX8_box_33 : decode cX8_box 33 = .ok (.aload 4, 2) := by decide +kernel
theorem dX8_box_35 : decode cX8_box 35 = .ok (.iload_n 2, 1) := by decide +kernel
theorem dX8_box_36 : decode cX8_box 36 = .ok (.iload_n 3, 1) := by decide +kernel
theorem dX8_box_37 : decode cX8_box 37 = .ok (.invokevirtual 161, 3) := by decide +kernel
theorem dX8_box_40 : decode cX8_box 40 = .ok (.iconst 1, 1) := by decide +kernel
theorem dX8_box_41 : decode cX8_box 41 = .ok (.ireturn, 1) := by decide +kernel
set_option maxRecDepth 20000 in
theorem ggX8_lead_X8_boxAt : GoodIn wsX8_lead wsX8_boxAt := goodIn_r _ [5, 6, 7, 8, 4, 9, 28, 29, 30, 31, 32] rfl (by decide +kernel)
set_option maxRecDepth 20000 in
theorem gX8_lead_X8_boxAt : GoodIn wsX8_lead (wsV RX8 157 RX8 yX8_boxAt wsX8_boxAt) := goodIn_app (goodIn_of _ (by decide +kernel)) ggX8_lead_X8_boxAt
set_option maxRecDepth 20000 in
theorem ggX8_lead_X0_hasState : GoodIn wsX8_lead wsX0_hasState := goodIn_r _ [14, 15, 8, 4, 9, 33, 34, 35, 36] rfl (by decide +kernel)
set_option maxRecDepth 20000 in
theorem gX8_lead_X0_hasState : GoodIn wsX8_lead (wsV RX8 164 RX0 yX0_hasState wsX0_hasState) := goodIn_app (goodIn_of _ (by decide +kernel)) ggX8_lead_X0_hasState
set_option maxRecDepth 20000 in
theorem ggX8_lead_X0_hasButton : GoodIn wsX8_lead wsX0_hasButton := goodIn_r _ [19, 20, 8, 4, 9, 33, 34, 35, 36] rfl (by decide +kernel)
set_option maxRecDepth 20000 in
theorem gX8_lead_X0_hasButton : GoodIn wsX8_lead (wsV RX8 167 RX0 yX0_hasButton wsX0_hasButton) := goodIn_app (goodIn_of _ (by decide +kernel)) ggX8_lead_X0_hasButton
set_option maxRecDepth 20000 in
theorem ggX8_lead_X0_setLead : GoodIn wsX8_lead wsX0_setLead := goodIn_r _ [24, 25, 26, 11, 12, 13, 14, 15, 8, 4, 9, 27, 17, 18, 19, 20, 33, 34, 35, 36] rfl (by decide +kernel)
set_option maxRecDepth 20000 in
theorem gX8_lead_X0_setLead : GoodIn wsX8_lead (wsV RX8 170 RX0 yX0_setLead wsX0_setLead) := goodIn_app (goodIn_of _ (by decide +kernel)) ggX8_lead_X0_setLead
theorem dX8_lead_0 : decode cX8_lead 0 = .ok (.aload_n 0, 1) := by decide +kernel
theorem dX8_lead_1 : decode cX8_lead 1 = .ok (.iload_n 1, 1) := by decide +kernel
theorem dX8_lead_2 : decode cX8_lead 2 = .ok (.invokevirtual 157, 3) := by decide +kernel
theorem dX8_lead_5 : decode cX8_lead 5 = .ok (.astore 5, 2) := by decide +kernel
theorem dX8_lead_7 : decode cX8_lead 7 = .ok (.aload 5, 2) := by decide +kernel
theorem dX8_lead_9 : decode cX8_lead 9 = .ok (.ifnull 31, 3) := by decide +kernel
theorem dX8_lead_12 : decode cX8_lead 12 = .ok (.aload 5, 2) := by decide +kernel
theorem dX8_lead_14 : decode cX8_lead 14 = .ok (.iload_n 2, 1) := by decide +kernel
theorem dX8_lead_15 : decode cX8_lead 15 = .ok (.invokevirtual 164, 3) := by decide +kernel
theorem dX8_lead_18 : decode cX8_lead 18 = .ok (.ifCond .eq 22, 3) := by decide +kernel
theorem dX8_lead_21 : decode cX8_lead 21 = .ok (.aload 5, 2) := by decide +kernel
theorem dX8_lead_23 : decode cX8_lead 23 = .ok (.iload_n 3, 1) := by decide +kernel
theorem dX8_lead_24 : decode cX8_lead 24 = .ok (.invokevirtual 167, 3) := by decide +kernel
theorem dX8_lead_27 : decode cX8_lead 27 = .ok (.ifCond .eq 13, 3) := by decide +kernel
theorem dX8_lead_30 : decode cX8_lead 30 = .ok (.aload 5, 2) := by decide +kernel
theorem dX8_lead_32 : decode cX8_lead 32 = .ok (.iload 4, 2) := by decide +kernel
theorem dX8_lead_34 : decode cX8_lead 34 = .ok (.invokevirtual 164, 3) := by decide +kernel
theorem dX8_lead_37 : decode cX8_lead 37 = .ok (.ifCond .ne 5, 3) := by decide +kernel
theorem dX8_lead_40 : decode cX8_lead 40 = .ok (.iconst 0, 1) := by decide +kernel
theorem dX8_lead_41 : decode cX8_lead 41 = .ok (.ireturn, 1) := by decide +kernel
theorem dX8_lead_42 : decode cX8_lead 42 = .ok (.aload 5, 2) := by decide +kernel
theorem dX8_lead_44 : decode cX8_lead 44 = .ok (.iload_n 2, 1) := by decide +kernel
theorem dX8_lead_45 : decode cX8_lead 45 = .ok (.iload_n 3, 1) := by decide +kernel
theorem dX8_lead_46 : decode cX8_lead 46 = .ok (.iload 4, 2) := by decide +kernel
theorem dX8_lead_48 : decode cX8_lead 48 = .ok (.invokevirtual 170, 3) := by decide +kernel
theorem dX8_lead_51 : decode cX8_lead 51 = .ok (.iconst 1, 1) := by decide +kernel
theorem dX8_lead_52 : decode cX8_lead 52 = .ok (.ireturn, 1) := by decide +kernel
set_option maxRecDepth 20000 in
theorem ggX8_maybe_X8_boxAt : GoodIn wsX8_maybe wsX8_boxAt := goodIn_r _ [5, 6, 7, 8, 4, 9, 22, 23, 24, 25, 26] rfl (by decide +kernel)
set_option maxRecDepth 20000 in
theorem gX8_maybe_X8_boxAt : GoodIn wsX8_maybe (wsV RX8 157 RX8 yX8_boxAt wsX8_boxAt) := goodIn_app (goodIn_of _ (by decide +kernel)) ggX8_maybe_X8_boxAt
set_option maxRecDepth 20000 in
theorem ggX8_maybe_X0_hasSet : GoodIn wsX8_maybe wsX0_hasSet := goodIn_r _ [14, 15, 16, 4, 17, 8, 9, 18, 19, 20, 21] rfl (by decide +kernel)
set_option maxRecDepth 20000 in
theorem gX8_maybe_X0_hasSet : GoodIn wsX8_maybe (wsV RX8 174 RX0 yX0_hasSet wsX0_hasSet) := goodIn_app (goodIn_of _ (by decide +kernel)) ggX8_maybe_X0_hasSet
theorem dX8_maybe_0 : decode cX8_maybe 0 = .ok (.aload_n 0, 1) := by decide +kernel
theorem dX8_maybe_1 : decode cX8_maybe 1 = .ok (.iload_n 1, 1) := by decide +kernel
theorem dX8_maybe_2 : decode cX8_maybe 2 = .ok (.invokevirtual 157, 3) := by decide +kernel
theorem dX8_maybe_5 : decode cX8_maybe 5 = .ok (.astore_n 3, 1) := by decide +kernel
theorem dX8_maybe_6 : decode cX8_maybe 6 = .ok (.aload_n 3, 1) := by decide +kernel
theorem dX8_maybe_7 : decode cX8_maybe 7 = .ok (.ifnull 11, 3) := by decide +kernel
theorem dX8_maybe_10 : decode cX8_maybe 10 = .ok (.aload_n 3, 1) := by decide +kernel
theorem dX8_maybe_11 : decode cX8_maybe 11 = .ok (.iload_n 2, 1) := by decide +kernel
theorem dX8_maybe_12 : decode cX8_maybe 12 = .ok (.invokevirtual 174, 3) := by decide +kernel
theorem dX8_maybe_15 : decode cX8_maybe 15 = .ok (.ifCond .ne 5, 3) := by decide +kernel
theorem dX8_maybe_18 : decode cX8_maybe 18 = .ok (.iconst 0, 1) := by decide +kernel
theorem dX8_maybe_19 : decode cX8_maybe 19 = .ok (.ireturn, 1) := by decide +kernel
theorem dX8_maybe_20 : decode cX8_maybe 20 = .ok (.aload_n 3, 1) := by decide +kernel
theorem dX8_maybe_21 : decode cX8_maybe 21 = .ok (.iload_n 2, 1) := by decide +kernel
theorem dX8_maybe_22 : decode cX8_maybe 22 = .ok (.putfield 177, 3) := by decide +kernel
theorem dX8_maybe_25 : decode cX8_maybe 25 = .ok (.iconst 1, 1) := by decide +kernel
theorem dX8_maybe_26 : decode cX8_maybe 26 = .ok (.ireturn, 1) := by decide +kernel
set_option maxRecDepth 20000 in
theorem ggX8_push_X8_boxAt : GoodIn wsX8_push wsX8_boxAt := goodIn_r _ [5, 6, 7, 8, 4, 9, 27, 28, 29, 30, 31] rfl (by decide +kernel)
set_option maxRecDepth 20000 in
theorem gX8_push_X8_boxAt : GoodIn wsX8_push (wsV RX8 157 RX8 yX8_boxAt wsX8_boxAt) := goodIn_app (goodIn_of _ (by decide +kernel)) ggX8_push_X8_boxAt
set_option maxRecDepth 20000 in
theorem ggX8_push_X0_hasButton : GoodIn wsX8_push wsX0_hasButton := goodIn_r _ [14, 15, 8, 4, 9, 23, 24, 25, 26] rfl (by decide +kernel)
set_option maxRecDepth 20000 in
theorem gX8_push_X0_hasButton : GoodIn wsX8_push (wsV RX8 167 RX0 yX0_hasButton wsX0_hasButton) := goodIn_app (goodIn_of _ (by decide +kernel)) ggX8_push_X0_hasButton
set_option maxRecDepth 20000 in
theorem ggX8_push_X0_behind : GoodIn wsX8_push wsX0_behind := goodIn_r _ [19, 20, 21, 22, 11, 12, 13, 14, 15, 8, 4, 9, 23, 24, 25, 26] rfl (by decide +kernel)
set_option maxRecDepth 20000 in
theorem gX8_push_X0_behind : GoodIn wsX8_push (wsV RX8 180 RX0 yX0_behind wsX0_behind) := goodIn_app (goodIn_of _ (by decide +kernel)) ggX8_push_X0_behind
theorem dX8_push_0 : decode cX8_push 0 = .ok (.aload_n 0, 1) := by decide +kernel
theorem dX8_push_1 : decode cX8_push 1 = .ok (.iload_n 1, 1) := by decide +kernel
theorem dX8_push_2 : decode cX8_push 2 = .ok (.invokevirtual 157, 3) := by decide +kernel
theorem dX8_push_5 : decode cX8_push 5 = .ok (.astore_n 3, 1) := by decide +kernel
theorem dX8_push_6 : decode cX8_push 6 = .ok (.aload_n 3, 1) := by decide +kernel
theorem dX8_push_7 : decode cX8_push 7 = .ok (.ifnull 11, 3) := by decide +kernel
theorem dX8_push_10 : decode cX8_push 10 = .ok (.aload_n 3, 1) := by decide +kernel
theorem dX8_push_11 : decode cX8_push 11 = .ok (.iload_n 2, 1) := by decide +kernel
theorem dX8_push_12 : decode cX8_push 12 = .ok (.invokevirtual 167, 3) := by decide +kernel
theorem dX8_push_15 : decode cX8_push 15 = .ok (.ifCond .ne 5, 3) := by decide +kernel
theorem dX8_push_18 : decode cX8_push 18 = .ok (.iconst (-1), 1) := by decide +kernel
theorem dX8_push_19 : decode cX8_push 19 = .ok (.ireturn, 1) := by decide +kernel
theorem dX8_push_20 : decode cX8_push 20 = .ok (.aload_n 3, 1) := by decide +kernel
theorem dX8_push_21 : decode cX8_push 21 = .ok (.aload_n 3, 1) := by decide +kernel
theorem dX8_push_22 : decode cX8_push 22 = .ok (.aload_n 3, 1) := by decide +kernel
theorem dX8_push_23 : decode cX8_push 23 = .ok (.getfield 177, 3) := by decide +kernel
theorem dX8_push_26 : decode cX8_push 26 = .ok (.iload_n 2, 1) := by decide +kernel
theorem dX8_push_27 : decode cX8_push 27 = .ok (.invokevirtual 180, 3) := by decide +kernel
theorem dX8_push_30 : decode cX8_push 30 = .ok (.putfield 177, 3) := by decide +kernel
theorem dX8_push_33 : decode cX8_push 33 = .ok (.aload_n 3, 1) := by decide +kernel
theorem dX8_push_34 : decode cX8_push 34 = .ok (.getfield 177, 3) := by decide +kernel
theorem dX8_push_37 : decode cX8_push 37 = .ok (.ireturn, 1) := by decide +kernel
set_option maxRecDepth 20000 in
theorem ggX8_way_X8_boxAt : GoodIn wsX8_way wsX8_boxAt := goodIn_r _ [6, 7, 8, 9, 5, 10, 47, 48, 49, 50, 51] rfl (by decide +kernel)
set_option maxRecDepth 20000 in
theorem gX8_way_X8_boxAt : GoodIn wsX8_way (wsV RX8 157 RX8 yX8_boxAt wsX8_boxAt) := goodIn_app (goodIn_of _ (by decide +kernel)) ggX8_way_X8_boxAt
set_option maxRecDepth 20000 in
theorem ggX8_way_X0_hasSet : GoodIn wsX8_way wsX0_hasSet := goodIn_r _ [15, 16, 17, 5, 18, 9, 10, 52, 53, 54, 55] rfl (by decide +kernel)
set_option maxRecDepth 20000 in
theorem gX8_way_X0_hasSet : GoodIn wsX8_way (wsV RX8 174 RX0 yX0_hasSet wsX0_hasSet) := goodIn_app (goodIn_of _ (by decide +kernel)) ggX8_way_X0_hasSet
set_option maxRecDepth 20000 in
theorem ggX8_way_X6_find : GoodIn wsX8_way wsX6_find := goodIn_r _ [23, 24, 25, 26, 27, 28, 29, 30, 31, 32, 33, 22, 34, 35, 36, 37, 38, 39, 14, 40, 16, 41, 42, 43, 44, 45, 46, 9, 5, 10, 56, 57, 58, 59, 60, 52, 53, 54, 55] rfl (by decide +kernel)
set_option maxRecDepth 20000 in
theorem gX8_way_X6_find : GoodIn wsX8_way (wsV RX8 183 RX6 yX6_find wsX6_find) := goodIn_app (goodIn_of _ (by decide +kernel)) ggX8_way_X6_find
theorem dX8_way_0 : decode cX8_way 0 = .ok (.aload_n 0, 1) := by decide +kernel
theorem dX8_way_1 : decode cX8_way 1 = .ok (.iload_n 1, 1) := by decide +kernel
theorem dX8_way_2 : decode cX8_way 2 = .ok (.invokevirtual 157, 3) := by decide +kernel
theorem dX8_way_5 : decode cX8_way 5 = .ok (.astore_n 3, 1) := by decide +kernel
theorem dX8_way_6 : decode cX8_way 6 = .ok (.aload_n 3, 1) := by decide +kernel
theorem dX8_way_7 : decode cX8_way 7 = .ok (.ifnull 11, 3) := by decide +kernel
theorem dX8_way_10 : decode cX8_way 10 = .ok (.aload_n 3, 1) := by decide +kernel
theorem dX8_way_11 : decode cX8_way 11 = .ok (.iload_n 2, 1) := by decide +kernel
theorem dX8_way_12 : decode cX8_way 12 = .ok (.invokevirtual 174, 3) := by decide +kernel
theorem dX8_way_15 : decode cX8_way 15 = .ok (.ifCond .ne 7, 3) := by decide +kernel
theorem dX8_way_18 : decode cX8_way 18 = .ok (.iconst (-1), 1) := by decide +kernel
theorem dX8_way_19 : decode cX8_way 19 = .ok (.goto 12, 3) := by decide +kernel
theorem dX8_way_22 : decode cX8_way 22 = .ok (.aload_n 0, 1) := by decide +kernel
theorem dX8_way_23 : decode cX8_way 23 = .ok (.getfield 36, 3) := by decide +kernel
theorem dX8_way_26 : decode cX8_way 26 = .ok (.aload_n 3, 1) := by decide +kernel
theorem dX8_way_27 : decode cX8_way 27 = .ok (.iload_n 2, 1) := by decide +kernel
theorem dX8_way_28 : decode cX8_way 28 = .ok (.invokevirtual 183, 3) := by decide +kernel
theorem dX8_way_31 : decode cX8_way 31 = .ok (.ireturn, 1) := by decide +kernel
set_option maxRecDepth 20000 in
theorem ggX8_button_X6_buttonAt : GoodIn wsX8_button wsX6_buttonAt := goodIn_r _ [6, 7, 8, 9, 10, 11, 17, 18, 19, 20, 21] rfl (by decide +kernel)
set_option maxRecDepth 20000 in
theorem gX8_button_X6_buttonAt : GoodIn wsX8_button (wsV RX8 187 RX6 yX6_buttonAt wsX6_buttonAt) := goodIn_app (goodIn_of _ (by decide +kernel)) ggX8_button_X6_buttonAt
theorem dX8_button_0 : decode cX8_button 0 = .ok (.aload_n 0, 1) := by decide +kernel
theorem dX8_button_1 : decode cX8_button 1 = .ok (.getfield 36, 3) := by decide +kernel
theorem dX8_button_4 : decode cX8_button 4 = .ok (.iload_n 1, 1) := by decide +kernel
theorem dX8_button_5 : decode cX8_button 5 = .ok (.invokevirtual 187, 3) := by decide +kernel
theorem dX8_button_8 : decode cX8_button 8 = .ok (.ireturn, 1) := by decide +kernel
set_option maxRecDepth 20000 in
theorem ggX8_told_X8_boxAt : GoodIn wsX8_told wsX8_boxAt := goodIn_r _ [5, 6, 7, 8, 4, 9, 14, 15, 16, 17, 18] rfl (by decide +kernel)
set_option maxRecDepth 20000 in
theorem gX8_told_X8_boxAt : GoodIn wsX8_told (wsV RX8 157 RX8 yX8_boxAt wsX8_boxAt) := goodIn_app (goodIn_of _ (by decide +kernel)) ggX8_told_X8_boxAt
theorem dX8_told_0 : decode cX8_told 0 = .ok (.aload_n 0, 1) := by decide +kernel
theorem dX8_told_1 : decode cX8_told 1 = .ok (.iload_n 1, 1) := by decide +kernel
theorem dX8_told_2 : decode cX8_told 2 = .ok (.invokevirtual 157, 3) := by decide +kernel
theorem dX8_told_5 : decode cX8_told 5 = .ok (.astore_n 3, 1) := by decide +kernel
theorem dX8_told_6 : decode cX8_told 6 = .ok (.aload_n 3, 1) := by decide +kernel
theorem dX8_told_7 : decode cX8_told 7 = .ok (.ifnonnull 5, 3) := by decide +kernel
theorem dX8_told_10 : decode cX8_told 10 = .ok (.iconst (-1), 1) := by decide +kernel
theorem dX8_told_11 : decode cX8_told 11 = .ok (.ireturn, 1) := by decide +kernel
theorem dX8_told_12 : decode cX8_told 12 = .ok (.iload_n 2, 1) := by decide +kernel
theorem dX8_told_13 : decode cX8_told 13 = .ok (.tableswitch 42 0 2 #[27, 32, 37], 27) := by decide +kernel
theorem dX8_told_40 : decode cX8_told 40 = .ok (.aload_n 3, 1) := by decide +kernel
theorem dX8_told_41 : decode cX8_told 41 = .ok (.getfield 190, 3) := by decide +kernel
theorem dX8_told_44 : decode cX8_told 44 = .ok (.ireturn, 1) := by decide +kernel
theorem dX8_told_45 : decode cX8_told 45 = .ok (.aload_n 3, 1) := by decide +kernel
theorem dX8_told_46 : decode cX8_told 46 = .ok (.getfield 193, 3) := by decide +kernel
theorem dX8_told_49 : decode cX8_told 49 = .ok (.ireturn, 1) := by decide +kernel
theorem dX8_told_50 : decode cX8_told 50 = .ok (.aload_n 3, 1) := by decide +kernel
theorem dX8_told_51 : decode cX8_told 51 = .ok (.getfield 177, 3) := by decide +kernel
theorem dX8_told_54 : decode cX8_told 54 = .ok (.ireturn, 1) := by decide +kernel
theorem dX8_told_55 : decode cX8_told 55 = .ok (.iconst (-1), 1) := by decide +kernel
theorem dX8_told_56 : decode cX8_told 56 = .ok (.ireturn, 1) := by decide +kernel
theorem dX8_count_0 : decode cX8_count 0 = .ok (.iload_n 1, 1) := by decide +kernel
theorem dX8_count_1 : decode cX8_count 1 = .ok (.tableswitch 48 0 2 #[27, 32, 40], 27) := by decide +kernel
theorem dX8_count_28 : decode cX8_count 28 = .ok (.aload_n 0, 1) := by decide +kernel
theorem dX8_count_29 : decode cX8_count 29 = .ok (.getfield 22, 3) := by decide +kernel
theorem dX8_count_32 : decode cX8_count 32 = .ok (.ireturn, 1) := by decide +kernel
theorem dX8_count_33 : decode cX8_count 33 = .ok (.aload_n 0, 1) := by decide +kernel
theorem dX8_count_34 : decode cX8_count 34 = .ok (.getfield 12, 3) := by decide +kernel
theorem dX8_count_37 : decode cX8_count 37 = .ok (.getfield 81, 3) := by decide +kernel
theorem dX8_count_40 : decode cX8_count 40 = .ok (.ireturn, 1) := by decide +kernel
theorem dX8_count_41 : decode cX8_count 41 = .ok (.aload_n 0, 1) := by decide +kernel
theorem dX8_count_42 : decode cX8_count 42 = .ok (.getfield 36, 3) := by decide +kernel
theorem dX8_count_45 : decode cX8_count 45 = .ok (.getfield 196, 3) := by decide +kernel
theorem dX8_count_48 : decode cX8_count 48 = .ok (.ireturn, 1) := by decide +kernel
theorem dX8_count_49 : decode cX8_count 49 = .ok (.iconst (-1), 1) := by decide +kernel
theorem dX8_count_50 : decode cX8_count 50 = .ok (.ireturn, 1) := by decide +kernel
set_option maxRecDepth 20000 in
theorem ggX8_makeAt_X8_within : GoodIn wsX8_makeAt wsX8_within := goodIn_r _ [6] rfl (by decide +kernel)
set_option maxRecDepth 20000 in
theorem gX8_makeAt_X8_within : GoodIn wsX8_makeAt (va_wsS RX8 40 yX8_within wsX8_within) := goodIn_app (goodIn_of _ (by decide +kernel)) ggX8_makeAt_X8_within
theorem dX8_makeAt_0 : decode cX8_makeAt 0 = .ok (.iload_n 1, 1) := by decide +kernel
theorem dX8_makeAt_1 : decode cX8_makeAt 1 = .ok (.iconst 0, 1) := by decide +kernel
theorem dX8_makeAt_2 : decode cX8_makeAt 2 = .ok (.aload_n 0, 1) := by decide +kernel
theorem dX8_makeAt_3 : decode cX8_makeAt 3 = .ok (.getfield 22, 3) := by decide +kernel
theorem dX8_makeAt_6 : decode cX8_makeAt 6 = .ok (.iconst 1, 1) := by decide +kernel
theorem dX8_makeAt_7 : decode cX8_makeAt 7 = .ok (.isub, 1) := by decide +kernel
theorem dX8_makeAt_8 : decode cX8_makeAt 8 = .ok (.invokestatic 40, 3) := by decide +kernel
theorem dX8_makeAt_11 : decode cX8_makeAt 11 = .ok (.ifCond .eq 12, 3) := by decide +kernel
theorem dX8_makeAt_14 : decode cX8_makeAt 14 = .ok (.aload_n 0, 1) := by decide +kernel
theorem dX8_makeAt_15 : decode cX8_makeAt 15 = .ok (.getfield 18, 3) := by decide +kernel
theorem dX8_makeAt_18 : decode cX8_makeAt 18 = .ok (.iload_n 1, 1) := by decide +kernel
theorem dX8_makeAt_19 : decode cX8_makeAt 19 = .ok (.aaload, 1) := by decide +kernel
theorem dX8_makeAt_20 : decode cX8_makeAt 20 = .ok (.goto 4, 3) := by decide +kernel
theorem dX8_makeAt_23 : decode cX8_makeAt 23 = .ok (.aconst_null, 1) := by decide +kernel
theorem dX8_makeAt_24 : decode cX8_makeAt 24 = .ok (.areturn, 1) := by decide +kernel
set_option maxRecDepth 20000 in
theorem ggX8_boxAt_X8_within : GoodIn wsX8_boxAt wsX8_within := goodIn_r _ [5] rfl (by decide +kernel)
set_option maxRecDepth 20000 in
theorem gX8_boxAt_X8_within : GoodIn wsX8_boxAt (va_wsS RX8 40 yX8_within wsX8_within) := goodIn_app (goodIn_of _ (by decide +kernel)) ggX8_boxAt_X8_within
theorem dX8_boxAt_0 : decode cX8_boxAt 0 = .ok (.iload_n 1, 1) := by decide +kernel
theorem dX8_boxAt_1 : decode cX8_boxAt 1 = .ok (.iconst 0, 1) := by decide +kernel
theorem dX8_boxAt_2 : decode cX8_boxAt 2 = .ok (.iconst 3, 1) := by decide +kernel
theorem dX8_boxAt_3 : decode cX8_boxAt 3 = .ok (.invokestatic 40, 3) := by decide +kernel
theorem dX8_boxAt_6 : decode cX8_boxAt 6 = .ok (.ifCond .eq 12, 3) := by decide +kernel
theorem dX8_boxAt_9 : decode cX8_boxAt 9 = .ok (.aload_n 0, 1) := by decide +kernel
theorem dX8_boxAt_10 : decode cX8_boxAt 10 = .ok (.getfield 28, 3) := by decide +kernel
theorem dX8_boxAt_13 : decode cX8_boxAt 13 = .ok (.iload_n 1, 1) := by decide +kernel
theorem dX8_boxAt_14 : decode cX8_boxAt 14 = .ok (.aaload, 1) := by decide +kernel
theorem dX8_boxAt_15 : decode cX8_boxAt 15 = .ok (.goto 4, 3) := by decide +kernel
theorem dX8_boxAt_18 : decode cX8_boxAt 18 = .ok (.aconst_null, 1) := by decide +kernel
theorem dX8_boxAt_19 : decode cX8_boxAt 19 = .ok (.areturn, 1) := by decide +kernel
theorem dX8_within_0 : decode cX8_within 0 = .ok (.iload_n 0, 1) := by decide +kernel
theorem dX8_within_1 : decode cX8_within 1 = .ok (.iload_n 1, 1) := by decide +kernel
theorem dX8_within_2 : decode cX8_within 2 = .ok (.if_icmp .lt 12, 3) := by decide +kernel
theorem dX8_within_5 : decode cX8_within 5 = .ok (.iload_n 0, 1) := by decide +kernel
theorem dX8_within_6 : decode cX8_within 6 = .ok (.iload_n 2, 1) := by decide +kernel
theorem dX8_within_7 : decode cX8_within 7 = .ok (.if_icmp .gt 7, 3) := by decide +kernel
theorem dX8_within_10 : decode cX8_within 10 = .ok (.iconst 1, 1) := by decide +kernel
theorem dX8_within_11 : decode cX8_within 11 = .ok (.goto 4, 3) := by decide +kernel
theorem dX8_within_14 : decode cX8_within 14 = .ok (.iconst 0, 1) := by decide +kernel
theorem dX8_within_15 : decode cX8_within 15 = .ok (.ireturn, 1) := by decide +kernel
set_option maxRecDepth 20000 in
theorem ggX8_isNumber_X8_within : GoodIn wsX8_isNumber wsX8_within := goodIn_r _ [4] rfl (by decide +kernel)
set_option maxRecDepth 20000 in
theorem gX8_isNumber_X8_within : GoodIn wsX8_isNumber (va_wsS RX8 40 yX8_within wsX8_within) := goodIn_app (goodIn_of _ (by decide +kernel)) ggX8_isNumber_X8_within
theorem dX8_isNumber_0 : decode cX8_isNumber 0 = .ok (.iload_n 0, 1) := by decide +kernel
theorem dX8_isNumber_1 : decode cX8_isNumber 1 = .ok (.iconst 1, 1) := by decide +kernel
theorem dX8_isNumber_2 : decode cX8_isNumber 2 = .ok (.sipush 9999, 3) := by decide +kernel
theorem dX8_isNumber_5 : decode cX8_isNumber 5 = .ok (.invokestatic 40, 3) := by decide +kernel
theorem dX8_isNumber_8 : decode cX8_isNumber 8 = .ok (.ireturn, 1) := by decide +kernel
set_option maxRecDepth 20000 in
theorem ggX8_isTime_X8_within : GoodIn wsX8_isTime wsX8_within := goodIn_r _ [4] rfl (by decide +kernel)
set_option maxRecDepth 20000 in
theorem gX8_isTime_X8_within : GoodIn wsX8_isTime (va_wsS RX8 40 yX8_within wsX8_within) := goodIn_app (goodIn_of _ (by decide +kernel)) ggX8_isTime_X8_within
theorem dX8_isTime_0 : decode cX8_isTime 0 = .ok (.iload_n 0, 1) := by decide +kernel
theorem dX8_isTime_1 : decode cX8_isTime 1 = .ok (.iconst 1, 1) := by decide +kernel
theorem dX8_isTime_2 : decode cX8_isTime 2 = .ok (.sipush 20000, 3) := by decide +kernel
theorem dX8_isTime_5 : decode cX8_isTime 5 = .ok (.invokestatic 40, 3) := by decide +kernel
theorem dX8_isTime_8 : decode cX8_isTime 8 = .ok (.ireturn, 1) := by decide +kernel
theorem dX8_lowBits_0 : decode cX8_lowBits 0 = .ok (.iconst 1, 1) := by decide +kernel
theorem dX8_lowBits_1 : decode cX8_lowBits 1 = .ok (.iload_n 0, 1) := by decide +kernel
theorem dX8_lowBits_2 : decode cX8_lowBits 2 = .ok (.ishl, 1) := by decide +kernel
theorem dX8_lowBits_3 : decode cX8_lowBits 3 = .ok (.iconst 1, 1) := by decide +kernel
theorem dX8_lowBits_4 : decode cX8_lowBits 4 = .ok (.isub, 1) := by decide +kernel
theorem dX8_lowBits_5 : decode cX8_lowBits 5 = .ok (.ireturn, 1) := by decide +kernel
theorem dX8_fault_0 : decode cX8_fault 0 = .ok (.bipush (-2), 2) := by decide +kernel
theorem dX8_fault_2 : decode cX8_fault 2 = .ok (.iload_n 0, 1) := by decide +kernel
theorem dX8_fault_3 : decode cX8_fault 3 = .ok (.isub, 1) := by decide +kernel
theorem dX8_fault_4 : decode cX8_fault 4 = .ok (.ireturn, 1) := by decide +kernel
set_option maxRecDepth 20000 in
theorem ggX8_fits_X8_isTime : GoodIn wsX8_fits wsX8_isTime := goodIn_r _ [8, 9, 10, 7, 11] rfl (by decide +kernel)
set_option maxRecDepth 20000 in
theorem gX8_fits_X8_isTime : GoodIn wsX8_fits (va_wsS RX8 199 yX8_isTime wsX8_isTime) := goodIn_app (goodIn_of _ (by decide +kernel)) ggX8_fits_X8_isTime
theorem dX8_fits_0 : decode cX8_fits 0 = .ok (.iload_n 0, 1) := by decide +kernel
theorem dX8_fits_1 : decode cX8_fits 1 = .ok (.invokestatic 199, 3) := by decide +kernel
theorem dX8_fits_4 : decode cX8_fits 4 = .ok (.ifCond .eq 22, 3) := by decide +kernel
theorem dX8_fits_7 : decode cX8_fits 7 = .ok (.iload_n 0, 1) := by decide +kernel
theorem dX8_fits_8 : decode cX8_fits 8 = .ok (.iload_n 1, 1) := by decide +kernel
theorem dX8_fits_9 : decode cX8_fits 9 = .ok (.isub, 1) := by decide +kernel
theorem dX8_fits_10 : decode cX8_fits 10 = .ok (.invokestatic 202, 3) := by decide +kernel
theorem dX8_fits_13 : decode cX8_fits 13 = .ok (.bipush 100, 2) := by decide +kernel
theorem dX8_fits_15 : decode cX8_fits 15 = .ok (.imul, 1) := by decide +kernel
theorem dX8_fits_16 : decode cX8_fits 16 = .ok (.iload_n 2, 1) := by decide +kernel
theorem dX8_fits_17 : decode cX8_fits 17 = .ok (.iload_n 1, 1) := by decide +kernel
theorem dX8_fits_18 : decode cX8_fits 18 = .ok (.imul, 1) := by decide +kernel
theorem dX8_fits_19 : decode cX8_fits 19 = .ok (.if_icmp .gt 7, 3) := by decide +kernel
theorem dX8_fits_22 : decode cX8_fits 22 = .ok (.iconst 1, 1) := by decide +kernel
theorem dX8_fits_23 : decode cX8_fits 23 = .ok (.goto 4, 3) := by decide +kernel
theorem dX8_fits_26 : decode cX8_fits 26 = .ok (.iconst 0, 1) := by decide +kernel
theorem dX8_fits_27 : decode cX8_fits 27 = .ok (.ireturn, 1) := by decide +kernel
set_option maxRecDepth 20000 in
theorem ggX8_nearerOf_X8_fits : GoodIn wsX8_nearerOf wsX8_fits := goodIn_r _ [8, 1, 2, 3, 4, 9, 10, 7, 11, 12, 13, 14] rfl (by decide +kernel)
set_option maxRecDepth 20000 in
theorem gX8_nearerOf_X8_fits : GoodIn wsX8_nearerOf (va_wsS RX8 207 yX8_fits wsX8_fits) := goodIn_app (goodIn_of _ (by decide +kernel)) ggX8_nearerOf_X8_fits
theorem dX8_nearerOf_0 : decode cX8_nearerOf 0 = .ok (.iload_n 0, 1) := by decide +kernel
theorem dX8_nearerOf_1 : decode cX8_nearerOf 1 = .ok (.iload_n 1, 1) := by decide +kernel
theorem dX8_nearerOf_2 : decode cX8_nearerOf 2 = .ok (.iload_n 3, 1) := by decide +kernel
theorem dX8_nearerOf_3 : decode cX8_nearerOf 3 = .ok (.invokestatic 207, 3) := by decide +kernel
theorem dX8_nearerOf_6 : decode cX8_nearerOf 6 = .ok (.istore 4, 2) := by decide +kernel
theorem dX8_nearerOf_8 : decode cX8_nearerOf 8 = .ok (.iload_n 0, 1) := by decide +kernel
theorem dX8_nearerOf_9 : decode cX8_nearerOf 9 = .ok (.iload_n 2, 1) := by decide +kernel
theorem dX8_nearerOf_10 : decode cX8_nearerOf 10 = .ok (.iload_n 3, 1) := by decide +kernel
theorem dX8_nearerOf_11 : decode cX8_nearerOf 11 = .ok (.invokestatic 207, 3) := by decide +kernel
theorem dX8_nearerOf_14 : decode cX8_nearerOf 14 = .ok (.istore 5, 2) := by decide +kernel
theorem dX8_nearerOf_16 : decode cX8_nearerOf 16 = .ok (.iload 4, 2) := by decide +kernel
theorem dX8_nearerOf_18 : decode cX8_nearerOf 18 = .ok (.ifCond .eq 29, 3) := by decide +kernel
theorem dX8_nearerOf_21 : decode cX8_nearerOf 21 = .ok (.iload 5, 2) := by decide +kernel
theorem dX8_nearerOf_23 : decode cX8_nearerOf 23 = .ok (.ifCond .eq 24, 3) := by decide +kernel
theorem dX8_nearerOf_26 : decode cX8_nearerOf 26 = .ok (.iload_n 0, 1) := by decide +kernel
theorem dX8_nearerOf_27 : decode cX8_nearerOf 27 = .ok (.iload_n 2, 1) := by decide +kernel
theorem dX8_nearerOf_28 : decode cX8_nearerOf 28 = .ok (.isub, 1) := by decide +kernel
theorem dX8_nearerOf_29 : decode cX8_nearerOf 29 = .ok (.invokestatic 202, 3) := by decide +kernel
theorem dX8_nearerOf_32 : decode cX8_nearerOf 32 = .ok (.iload_n 0, 1) := by decide +kernel
theorem dX8_nearerOf_33 : decode cX8_nearerOf 33 = .ok (.iload_n 1, 1) := by decide +kernel
theorem dX8_nearerOf_34 : decode cX8_nearerOf 34 = .ok (.isub, 1) := by decide +kernel
theorem dX8_nearerOf_35 : decode cX8_nearerOf 35 = .ok (.invokestatic 202, 3) := by decide +kernel
theorem dX8_nearerOf_38 : decode cX8_nearerOf 38 = .ok (.if_icmp .ge 7, 3) := by decide +kernel
theorem dX8_nearerOf_41 : decode cX8_nearerOf 41 = .ok (.iconst 1, 1) := by decide +kernel
theorem dX8_nearerOf_42 : decode cX8_nearerOf 42 = .ok (.goto 4, 3) := by decide +kernel
theorem dX8_nearerOf_45 : decode cX8_nearerOf 45 = .ok (.iconst 0, 1) := by decide +kernel
theorem dX8_nearerOf_46 : decode cX8_nearerOf 46 = .ok (.ireturn, 1) := by decide +kernel
theorem dX8_nearerOf_47 : decode cX8_nearerOf 47 = .ok (.iload 4, 2) := by decide +kernel
theorem dX8_nearerOf_49 : decode cX8_nearerOf 49 = .ok (.ifCond .eq 5, 3) := by decide +kernel
theorem dX8_nearerOf_52 : decode cX8_nearerOf 52 = .ok (.iconst 0, 1) := by decide +kernel
theorem dX8_nearerOf_53 : decode cX8_nearerOf 53 = .ok (.ireturn, 1) := by decide +kernel
theorem dX8_nearerOf_54 : decode cX8_nearerOf 54 = .ok (.iload 5, 2) := by decide +kernel
theorem dX8_nearerOf_56 : decode cX8_nearerOf 56 = .ok (.ifCond .eq 7, 3) := by decide +kernel
theorem dX8_nearerOf_59 : decode cX8_nearerOf 59 = .ok (.iconst 1, 1) := by decide +kernel
theorem dX8_nearerOf_60 : decode cX8_nearerOf 60 = .ok (.goto 4, 3) := by decide +kernel
theorem dX8_nearerOf_63 : decode cX8_nearerOf 63 = .ok (.iconst (-1), 1) := by decide +kernel
theorem dX8_nearerOf_64 : decode cX8_nearerOf 64 = .ok (.ireturn, 1) := by decide +kernel
theorem dX9_init_0 : decode cX9_init 0 = .ok (.aload_n 0, 1) := by decide +kernel
theorem dX9_init_1 : decode cX9_init 1 = .ok (.invokespecial 1, 3) := by decide +kernel
theorem dX9_init_4 : decode cX9_init 4 = .ok (.aload_n 0, 1) := by decide +kernel
theorem dX9_init_5 : decode cX9_init 5 = .ok (.bipush 120, 2) := by decide +kernel
theorem dX9_init_7 : decode cX9_init 7 = .ok (.newarray .int, 2) := by decide +kernel
theorem dX9_init_9 : decode cX9_init 9 = .ok (.putfield 9, 3) := by decide +kernel
theorem dX9_init_12 : decode cX9_init 12 = .ok (.aload_n 0, 1) := by decide +kernel
theorem dX9_init_13 : decode cX9_init 13 = .ok (.bipush 80, 2) := by decide +kernel
theorem dX9_init_15 : decode cX9_init 15 = .ok (.newarray .int, 2) := by decide +kernel
theorem dX9_init_17 : decode cX9_init 17 = .ok (.putfield 13, 3) := by decide +kernel
theorem dX9_init_20 : decode cX9_init 20 = .ok (.aload_n 0, 1) := by decide +kernel
theorem dX9_init_21 : decode cX9_init 21 = .ok (.sipush 128, 3) := by decide +kernel
theorem dX9_init_24 : decode cX9_init 24 = .ok (.newarray .int, 2) := by decide +kernel
theorem dX9_init_26 : decode cX9_init 26 = .ok (.putfield 16, 3) := by decide +kernel
theorem dX9_init_29 : decode cX9_init 29 = .ok (.aload_n 0, 1) := by decide +kernel
theorem dX9_init_30 : decode cX9_init 30 = .ok (.iconst 4, 1) := by decide +kernel
theorem dX9_init_31 : decode cX9_init 31 = .ok (.newarray .int, 2) := by decide +kernel
theorem dX9_init_33 : decode cX9_init 33 = .ok (.putfield 19, 3) := by decide +kernel
theorem dX9_init_36 : decode cX9_init 36 = .ok (.aload_n 0, 1) := by decide +kernel
theorem dX9_init_37 : decode cX9_init 37 = .ok (.iconst 4, 1) := by decide +kernel
theorem dX9_init_38 : decode cX9_init 38 = .ok (.newarray .int, 2) := by decide +kernel
theorem dX9_init_40 : decode cX9_init 40 = .ok (.putfield 22, 3) := by decide +kernel
theorem dX9_init_43 : decode cX9_init 43 = .ok (.aload_n 0, 1) := by decide +kernel
theorem dX9_init_44 : decode cX9_init 44 = .ok (.sipush 128, 3) := by decide +kernel
theorem dX9_init_47 : decode cX9_init 47 = .ok (.newarray .int, 2) := by decide +kernel
theorem dX9_init_49 : decode cX9_init 49 = .ok (.putfield 25, 3) := by decide +kernel
theorem dX9_init_52 : decode cX9_init 52 = .ok (.aload_n 0, 1) := by decide +kernel
theorem dX9_init_53 : decode cX9_init 53 = .ok (.iconst 4, 1) := by decide +kernel
theorem dX9_init_54 : decode cX9_init 54 = .ok (.newarray .int, 2) := by decide +kernel
theorem dX9_init_56 : decode cX9_init 56 = .ok (.putfield 28, 3) := by decide +kernel
theorem dX9_init_59 : decode cX9_init 59 = .ok (.aload_n 0, 1) := by decide +kernel
theorem dX9_init_60 : decode cX9_init 60 = .ok (.sipush 256, 3) := by decide +kernel
theorem dX9_init_63 : decode cX9_init 63 = .ok (.newarray .int, 2) := by decide +kernel
theorem dX9_init_65 : decode cX9_init 65 = .ok (.putfield 31, 3) := by decide +kernel
theorem dX9_init_68 : decode cX9_init 68 = .ok (.aload_n 0, 1) := by decide +kernel
theorem dX9_init_69 : decode cX9_init 69 = .ok (.sipush 256, 3) := by decide +kernel
theorem dX9_init_72 : decode cX9_init 72 = .ok (.newarray .int, 2) := by decide +kernel
theorem dX9_init_74 : decode cX9_init 74 = .ok (.putfield 34, 3) := by decide +kernel
theorem dX9_init_77 : decode cX9_init 77 = .ok (.aload_n 0, 1) := by decide +kernel
theorem dX9_init_78 : decode cX9_init 78 = .ok (.sipush 256, 3) := by decide +kernel
theorem dX9_init_81 : decode cX9_init 81 = .ok (.newarray .int, 2) := by decide +kernel
theorem dX9_init_83 : decode cX9_init 83 = .ok (.putfield 37, 3) := by decide +kernel
theorem dX9_init_86 : decode cX9_init 86 = .ok (.aload_n 0, 1) := by decide +kernel
theorem dX9_init_87 : decode cX9_init 87 = .ok (.sipush 256, 3) := by decide +kernel
theorem dX9_init_90 : decode cX9_init 90 = .ok (.newarray .int, 2) := by decide +kernel
theorem dX9_init_92 : decode cX9_init 92 = .ok (.putfield 40, 3) := by decide +kernel
theorem dX9_init_95 : decode cX9_init 95 = .ok (.iconst 0, 1) := by decide +kernel
theorem dX9_init_96 : decode cX9_init 96 = .ok (.istore_n 1, 1) := by decide +kernel
theorem dX9_init_97 : decode cX9_init 97 = .ok (.iload_n 1, 1) := by decide +kernel
theorem dX9_init_98 : decode cX9_init 98 = .ok (.iconst 4, 1) := by decide +kernel
theorem dX9_init_99 : decode cX9_init 99 = .ok (.if_icmp .ge 30, 3) := by decide +kernel
theorem dX9_init_102 : decode cX9_init 102 = .ok (.aload_n 0, 1) := by decide +kernel
theorem dX9_init_103 : decode cX9_init 103 = .ok (.getfield 19, 3) := by decide +kernel
theorem dX9_init_106 : decode cX9_init 106 = .ok (.iload_n 1, 1) := by decide +kernel
theorem dX9_init_107 : decode cX9_init 107 = .ok (.iconst 1, 1) := by decide +kernel
theorem dX9_init_108 : decode cX9_init 108 = .ok (.iastore, 1) := by decide +kernel
theorem dX9_init_109 : decode cX9_init 109 = .ok (.aload_n 0, 1) := by decide +kernel
theorem dX9_init_110 : decode cX9_init 110 = .ok (.getfield 22, 3) := by decide +kernel
theorem dX9_init_113 : decode cX9_init 113 = .ok (.iload_n 1, 1) := by decide +kernel
theorem dX9_init_114 : decode cX9_init 114 = .ok (.iconst 1, 1) := by decide +kernel
theorem dX9_init_115 : decode cX9_init 115 = .ok (.iastore, 1) := by decide +kernel
theorem dX9_init_116 : decode cX9_init 116 = .ok (.aload_n 0, 1) := by decide +kernel
theorem dX9_init_117 : decode cX9_init 117 = .ok (.getfield 28, 3) := by decide +kernel
theorem dX9_init_120 : decode cX9_init 120 = .ok (.iload_n 1, 1) := by decide +kernel
theorem dX9_init_121 : decode cX9_init 121 = .ok (.iconst 1, 1) := by decide +kernel
theorem dX9_init_122 : decode cX9_init 122 = .ok (.iastore, 1) := by decide +kernel
theorem dX9_init_123 : decode cX9_init 123 = .ok (.iinc 1 1, 3) := by decide +kernel
theorem dX9_init_126 : decode cX9_init 126 = .ok (.goto (-29), 3) := by decide +kernel
theorem dX9_init_129 : decode cX9_init 129 = .ok (.return_, 1) := by decide +kernel
theorem dX9_in_0 : decode cX9_in 0 = .ok (.iload_n 0, 1) := by decide +kernel
theorem dX9_in_1 : decode cX9_in 1 = .ok (.iload_n 1, 1) := by decide +kernel
theorem dX9_in_2 : decode cX9_in 2 = .ok (.if_icmp .lt 12, 3) := by decide +kernel
theorem dX9_in_5 : decode cX9_in 5 = .ok (.iload_n 0, 1) := by decide +kernel
theorem dX9_in_6 : decode cX9_in 6 = .ok (.iload_n 2, 1) := by decide +kernel
theorem dX9_in_7 : decode cX9_in 7 = .ok (.if_icmp .gt 7, 3) := by decide +kernel
theorem dX9_in_10 : decode cX9_in 10 = .ok (.iconst 1, 1) := by decide +kernel
theorem dX9_in_11 : decode cX9_in 11 = .ok (.goto 4, 3) := by decide +kernel
theorem dX9_in_14 : decode cX9_in 14 = .ok (.iconst 0, 1) := by decide +kernel
theorem dX9_in_15 : decode cX9_in 15 = .ok (.ireturn, 1) := by decide +kernel
set_option maxRecDepth 20000 in
theorem ggX9_isMake_X9_in : GoodIn wsX9_isMake wsX9_in := goodIn_r _ [5] rfl (by decide +kernel)
set_option maxRecDepth 20000 in
theorem gX9_isMake_X9_in : GoodIn wsX9_isMake (va_wsS RX9 50 yX9_in wsX9_in) := goodIn_app (goodIn_of _ (by decide +kernel)) ggX9_isMake_X9_in
theorem dX9_isMake_0 : decode cX9_isMake 0 = .ok (.iload_n 1, 1) := by decide +kernel
theorem dX9_isMake_1 : decode cX9_isMake 1 = .ok (.iconst 0, 1) := by decide +kernel
theorem dX9_isMake_2 : decode cX9_isMake 2 = .ok (.aload_n 0, 1) := by decide +kernel
theorem dX9_isMake_3 : decode cX9_isMake 3 = .ok (.getfield 47, 3) := by decide +kernel
theorem dX9_isMake_6 : decode cX9_isMake 6 = .ok (.iconst 1, 1) := by decide +kernel
theorem dX9_isMake_7 : decode cX9_isMake 7 = .ok (.isub, 1) := by decide +kernel
theorem dX9_isMake_8 : decode cX9_isMake 8 = .ok (.invokestatic 50, 3) := by decide +kernel
theorem dX9_isMake_11 : decode cX9_isMake 11 = .ok (.ireturn, 1) := by decide +kernel
theorem dX9_get_0 : decode cX9_get 0 = .ok (.aload_n 0, 1) := by decide +kernel
theorem dX9_get_1 : decode cX9_get 1 = .ok (.getfield 13, 3) := by decide +kernel
theorem dX9_get_4 : decode cX9_get 4 = .ok (.bipush 10, 2) := by decide +kernel
theorem dX9_get_6 : decode cX9_get 6 = .ok (.iload_n 1, 1) := by decide +kernel
theorem dX9_get_7 : decode cX9_get 7 = .ok (.imul, 1) := by decide +kernel
theorem dX9_get_8 : decode cX9_get 8 = .ok (.iload_n 2, 1) := by decide +kernel
theorem dX9_get_9 : decode cX9_get 9 = .ok (.iadd, 1) := by decide +kernel
theorem dX9_get_10 : decode cX9_get 10 = .ok (.iaload, 1) := by decide +kernel
theorem dX9_get_11 : decode cX9_get 11 = .ok (.ireturn, 1) := by decide +kernel
set_option maxRecDepth 20000 in
theorem ggX9_make_X9_in : GoodIn wsX9_make wsX9_in := goodIn_r _ [9] rfl (by decide +kernel)
set_option maxRecDepth 20000 in
theorem gX9_make_X9_in : GoodIn wsX9_make (va_wsS RX9 50 yX9_in wsX9_in) := goodIn_app (goodIn_of _ (by decide +kernel)) ggX9_make_X9_in
theorem dX9_make_0 : decode cX9_make 0 = .ok (.aload_n 0, 1) := by decide +kernel
theorem dX9_make_1 : decode cX9_make 1 = .ok (.iconst 0, 1) := by decide +kernel
theorem dX9_make_2 : decode cX9_make 2 = .ok (.putfield 43, 3) := by decide +kernel
theorem dX9_make_5 : decode cX9_make 5 = .ok (.iload_n 1, 1) := by decide +kernel
theorem dX9_make_6 : decode cX9_make 6 = .ok (.iconst 0, 1) := by decide +kernel
theorem dX9_make_7 : decode cX9_make 7 = .ok (.iconst 2, 1) := by decide +kernel
theorem dX9_make_8 : decode cX9_make 8 = .ok (.invokestatic 50, 3) := by decide +kernel
theorem dX9_make_11 : decode cX9_make 11 = .ok (.ifCond .eq 88, 3) := by decide +kernel
theorem dX9_make_14 : decode cX9_make 14 = .ok (.iload_n 2, 1) := by decide +kernel
theorem dX9_make_15 : decode cX9_make 15 = .ok (.iconst 1, 1) := by decide +kernel
theorem dX9_make_16 : decode cX9_make 16 = .ok (.bipush 24, 2) := by decide +kernel
theorem dX9_make_18 : decode cX9_make 18 = .ok (.invokestatic 50, 3) := by decide +kernel
theorem dX9_make_21 : decode cX9_make 21 = .ok (.ifCond .eq 78, 3) := by decide +kernel
theorem dX9_make_24 : decode cX9_make 24 = .ok (.iload_n 3, 1) := by decide +kernel
theorem dX9_make_25 : decode cX9_make 25 = .ok (.iconst 1, 1) := by decide +kernel
theorem dX9_make_26 : decode cX9_make 26 = .ok (.sipush 9999, 3) := by decide +kernel
theorem dX9_make_29 : decode cX9_make 29 = .ok (.invokestatic 50, 3) := by decide +kernel
theorem dX9_make_32 : decode cX9_make 32 = .ok (.ifCond .eq 67, 3) := by decide +kernel
theorem dX9_make_35 : decode cX9_make 35 = .ok (.iload 4, 2) := by decide +kernel
theorem dX9_make_37 : decode cX9_make 37 = .ok (.iconst 1, 1) := by decide +kernel
theorem dX9_make_38 : decode cX9_make 38 = .ok (.sipush 9999, 3) := by decide +kernel
theorem dX9_make_41 : decode cX9_make 41 = .ok (.invokestatic 50, 3) := by decide +kernel
theorem dX9_make_44 : decode cX9_make 44 = .ok (.ifCond .eq 55, 3) := by decide +kernel
theorem dX9_make_47 : decode cX9_make 47 = .ok (.iload 5, 2) := by decide +kernel
theorem dX9_make_49 : decode cX9_make 49 = .ok (.iconst 1, 1) := by decide +kernel
theorem dX9_make_50 : decode cX9_make 50 = .ok (.sipush 9999, 3) := by decide +kernel
theorem dX9_make_53 : decode cX9_make 53 = .ok (.invokestatic 50, 3) := by decide +kernel
theorem dX9_make_56 : decode cX9_make 56 = .ok (.ifCond .eq 43, 3) := by decide +kernel
theorem dX9_make_59 : decode cX9_make 59 = .ok (.iload 6, 2) := by decide +kernel
theorem dX9_make_61 : decode cX9_make 61 = .ok (.iconst 1, 1) := by decide +kernel
theorem dX9_make_62 : decode cX9_make 62 = .ok (.sipush 9999, 3) := by decide +kernel
theorem dX9_make_65 : decode cX9_make 65 = .ok (.invokestatic 50, 3) := by decide +kernel
theorem dX9_make_68 : decode cX9_make 68 = .ok (.ifCond .eq 31, 3) := by decide +kernel
theorem dX9_make_71 : decode cX9_make 71 = .ok (.iload 7, 2) := by decide +kernel
theorem dX9_make_73 : decode cX9_make 73 = .ok (.iconst 1, 1) := by decide +kernel
theorem dX9_make_74 : decode cX9_make 74 = .ok (.sipush 9999, 3) := by decide +kernel
theorem dX9_make_77 : decode cX9_make 77 = .ok (.invokestatic 50, 3) := by decide +kernel
theorem dX9_make_80 : decode cX9_make 80 = .ok (.ifCond .eq 19, 3) := by decide +kernel
theorem dX9_make_83 : decode cX9_make 83 = .ok (.iload 6, 2) := by decide +kernel
theorem dX9_make_85 : decode cX9_make 85 = .ok (.iload 7, 2) := by decide +kernel
theorem dX9_make_87 : decode cX9_make 87 = .ok (.if_icmp .eq 12, 3) := by decide +kernel
theorem dX9_make_90 : decode cX9_make 90 = .ok (.aload_n 0, 1) := by decide +kernel
theorem dX9_make_91 : decode cX9_make 91 = .ok (.getfield 47, 3) := by decide +kernel
theorem dX9_make_94 : decode cX9_make 94 = .ok (.bipush 8, 2) := by decide +kernel
theorem dX9_make_96 : decode cX9_make 96 = .ok (.if_icmp .ne 5, 3) := by decide +kernel
theorem dX9_make_99 : decode cX9_make 99 = .ok (.iconst (-1), 1) := by decide +kernel
theorem dX9_make_100 : decode cX9_make 100 = .ok (.ireturn, 1) := by decide +kernel
theorem dX9_make_101 : decode cX9_make 101 = .ok (.bipush 10, 2) := by decide +kernel
theorem dX9_make_103 : decode cX9_make 103 = .ok (.newarray .int, 2) := by decide +kernel
theorem dX9_make_105 : decode cX9_make 105 = .ok (.dup, 1) := by decide +kernel
theorem dX9_make_106 : decode cX9_make 106 = .ok (.iconst 0, 1) := by decide +kernel
theorem dX9_make_107 : decode cX9_make 107 = .ok (.iload_n 1, 1) := by decide +kernel
theorem dX9_make_108 : decode cX9_make 108 = .ok (.iastore, 1) := by decide +kernel
theorem dX9_make_109 : decode cX9_make 109 = .ok (.dup, 1) := by decide +kernel
theorem dX9_make_110 : decode cX9_make 110 = .ok (.iconst 1, 1) := by decide +kernel
theorem dX9_make_111 : decode cX9_make 111 = .ok (.iload_n 2, 1) := by decide +kernel
theorem dX9_make_112 : decode cX9_make 112 = .ok (.iastore, 1) := by decide +kernel
theorem dX9_make_113 : decode cX9_make 113 = .ok (.dup, 1) := by decide +kernel
theorem dX9_make_114 : decode cX9_make 114 = .ok (.iconst 2, 1) := by decide +kernel
theorem dX9_make_115 : decode cX9_make 115 = .ok (.iload_n 3, 1) := by decide +kernel
theorem dX9_make_116 : decode cX9_make 116 = .ok (.iastore, 1) := by decide +kernel
theorem dX9_make_117 : decode cX9_make 117 = .ok (.dup, 1) := by decide +kernel
theorem dX9_make_118 : decode cX9_make 118 = .ok (.iconst 3, 1) := by decide +kernel
theorem dX9_make_119 : decode cX9_make 119 = .ok (.iload 4, 2) := by decide +kernel
theorem dX9_make_121 : decode cX9_make 121 = .ok (.iastore, 1) := by decide +kernel
theorem dX9_make_122 : decode cX9_make 122 = .ok (.dup, 1) := by decide +kernel
theorem dX9_make_123 : decode cX9_make 123 = .ok (.iconst 4, 1) := by decide +kernel
theorem dX9_make_124 : decode cX9_make 124 = .ok (.iload 5, 2) := by decide +kernel
theorem dX9_make_126 : decode cX9_make 126 = .ok (.iastore, 1) := by decide +kernel
theorem dX9_make_127 : decode cX9_make 127 = .ok (.dup, 1) := by decide +kernel
theorem dX9_make_128 : decode cX9_make 128 = .ok (.iconst 5, 1) := by decide +kernel
theorem dX9_make_129 : decode cX9_make 129 = .ok (.iload 6, 2) := by decide +kernel
theorem dX9_make_131 : decode cX9_make 131 = .ok (.iastore, 1) := by decide +kernel
theorem dX9_make_132 : decode cX9_make 132 = .ok (.dup, 1) := by decide +kernel
theorem dX9_make_133 : decode cX9_make 133 = .ok (.bipush 6, 2) := by decide +kernel
theorem dX9_make_135 : decode cX9_make 135 = .ok (.iload 7, 2) := by decide +kernel
theorem dX9_make_137 : decode cX9_make 137 = .ok (.iastore, 1) := by decide +kernel
theorem dX9_make_138 : decode cX9_make 138 = .ok (.dup, 1) := by decide +kernel
theorem dX9_make_139 : decode cX9_make 139 = .ok (.bipush 7, 2) := by decide +kernel
theorem dX9_make_141 : decode cX9_make 141 = .ok (.bipush 20, 2) := by decide +kernel
theorem dX9_make_143 : decode cX9_make 143 = .ok (.iastore, 1) := by decide +kernel
theorem dX9_make_144 : decode cX9_make 144 = .ok (.dup, 1) := by decide +kernel
theorem dX9_make_145 : decode cX9_make 145 = .ok (.bipush 8, 2) := by decide +kernel
theorem dX9_make_147 : decode cX9_make 147 = .ok (.iconst (-1), 1) := by decide +kernel
theorem dX9_make_148 : decode cX9_make 148 = .ok (.iastore, 1) := by decide +kernel
theorem dX9_make_149 : decode cX9_make 149 = .ok (.dup, 1) := by decide +kernel
theorem dX9_make_150 : decode cX9_make 150 = .ok (.bipush 9, 2) := by decide +kernel
theorem dX9_make_152 : decode cX9_make 152 = .ok (.iconst 0, 1) := by decide +kernel
theorem dX9_make_153 : decode cX9_make 153 = .ok (.iastore, 1) := by decide +kernel
theorem dX9_make_154 : decode cX9_make 154 = .ok (.astore 8, 2) := by decide +kernel
theorem dX9_make_156 : decode cX9_make 156 = .ok (.iconst 0, 1) := by decide +kernel
theorem dX9_make_157 : decode cX9_make 157 = .ok (.istore 9, 2) := by decide +kernel
theorem dX9_make_159 : decode cX9_make 159 = .ok (.iload 9, 2) := by decide +kernel
theorem dX9_make_161 : decode cX9_make 161 = .ok (.bipush 10, 2) := by decide +kernel
theorem dX9_make_163 : decode cX9_make 163 = .ok (.if_icmp .ge 29, 3) := by decide +kernel
theorem dX9_make_166 : decode cX9_make 166 = .ok (.aload_n 0, 1) := by decide +kernel
theorem dX9_make_167 : decode cX9_make 167 = .ok (.getfield 13, 3) := by decide +kernel
theorem dX9_make_170 : decode cX9_make 170 = .ok (.bipush 10, 2) := by decide +kernel
theorem dX9_make_172 : decode cX9_make 172 = .ok (.aload_n 0, 1) := by decide +kernel
theorem dX9_make_173 : decode cX9_make 173 = .ok (.getfield 47, 3) := by decide +kernel
theorem dX9_make_176 : decode cX9_make 176 = .ok (.imul, 1) := by decide +kernel
theorem dX9_make_177 : decode cX9_make 177 = .ok (.iload 9, 2) := by decide +kernel
theorem dX9_make_179 : decode cX9_make 179 = .ok (.iadd, 1) := by decide +kernel
theorem dX9_make_180 : decode cX9_make 180 = .ok (.aload 8, 2) := by decide +kernel
theorem dX9_make_182 : decode cX9_make 182 = .ok (.iload 9, 2) := by decide +kernel
theorem dX9_make_184 : decode cX9_make 184 = .ok (.iaload, 1) := by decide +kernel
theorem dX9_make_185 : decode cX9_make 185 = .ok (.iastore, 1) := by decide +kernel
theorem dX9_make_186 : decode cX9_make 186 = .ok (.iinc 9 1, 3) := by decide +kernel
theorem dX9_make_189 : decode cX9_make 189 = .ok (.goto (-30), 3) := by decide +kernel
theorem dX9_make_192 : decode cX9_make 192 = .ok (.iconst 0, 1) := by decide +kernel
theorem dX9_make_193 : decode cX9_make 193 = .ok (.istore 9, 2) := by decide +kernel
theorem dX9_make_195 : decode cX9_make 195 = .ok (.iload 9, 2) := by decide +kernel
theorem dX9_make_197 : decode cX9_make 197 = .ok (.bipush 16, 2) := by decide +kernel
theorem dX9_make_199 : decode cX9_make 199 = .ok (.if_icmp .ge 25, 3) := by decide +kernel
theorem dX9_make_202 : decode cX9_make 202 = .ok (.aload_n 0, 1) := by decide +kernel
theorem dX9_make_203 : decode cX9_make 203 = .ok (.getfield 16, 3) := by decide +kernel
theorem dX9_make_206 : decode cX9_make 206 = .ok (.bipush 16, 2) := by decide +kernel
theorem dX9_make_208 : decode cX9_make 208 = .ok (.aload_n 0, 1) := by decide +kernel
theorem dX9_make_209 : decode cX9_make 209 = .ok (.getfield 47, 3) := by decide +kernel
theorem dX9_make_212 : decode cX9_make 212 = .ok (.imul, 1) := by decide +kernel
theorem dX9_make_213 : decode cX9_make 213 = .ok (.iload 9, 2) := by decide +kernel
theorem dX9_make_215 : decode cX9_make 215 = .ok (.iadd, 1) := by decide +kernel
theorem dX9_make_216 : decode cX9_make 216 = .ok (.iconst (-1), 1) := by decide +kernel
theorem dX9_make_217 : decode cX9_make 217 = .ok (.iastore, 1) := by decide +kernel
theorem dX9_make_218 : decode cX9_make 218 = .ok (.iinc 9 1, 3) := by decide +kernel
theorem dX9_make_221 : decode cX9_make 221 = .ok (.goto (-26), 3) := by decide +kernel
theorem dX9_make_224 : decode cX9_make 224 = .ok (.aload_n 0, 1) := by decide +kernel
theorem dX9_make_225 : decode cX9_make 225 = .ok (.dup, 1) := by decide +kernel
theorem dX9_make_226 : decode cX9_make 226 = .ok (.getfield 47, 3) := by decide +kernel
theorem dX9_make_229 : decode cX9_make 229 = .ok (.iconst 1, 1) := by decide +kernel
theorem dX9_make_230 : decode cX9_make 230 = .ok (.iadd, 1) := by decide +kernel
theorem dX9_make_231 : decode cX9_make 231 = .ok (.putfield 47, 3) := by decide +kernel
theorem dX9_make_234 : decode cX9_make 234 = .ok (.aload_n 0, 1) := by decide +kernel
theorem dX9_make_235 : decode cX9_make 235 = .ok (.getfield 47, 3) := by decide +kernel
theorem dX9_make_238 : decode cX9_make 238 = .ok (.iconst 1, 1) := by decide +kernel
theorem dX9_make_239 : decode cX9_make 239 = .ok (.isub, 1) := by decide +kernel
theorem dX9_make_240 : decode cX9_make 240 = .ok (.ireturn, 1) := by decide +kernel
set_option maxRecDepth 20000 in
theorem ggX9_set_X9_isMake : GoodIn wsX9_set wsX9_isMake := goodIn_r _ [8, 9, 10, 11, 7, 12, 17, 18, 19, 20, 21, 22, 23, 24, 25, 26, 27, 28, 29, 30, 31, 32, 33] rfl (by decide +kernel)
set_option maxRecDepth 20000 in
theorem gX9_set_X9_isMake : GoodIn wsX9_set (wsV RX9 54 RX9 yX9_isMake wsX9_isMake) := goodIn_app (goodIn_of _ (by decide +kernel)) ggX9_set_X9_isMake
set_option maxRecDepth 20000 in
theorem ggX9_set_X9_in : GoodIn wsX9_set wsX9_in := goodIn_r _ [12] rfl (by decide +kernel)
set_option maxRecDepth 20000 in
theorem gX9_set_X9_in : GoodIn wsX9_set (va_wsS RX9 50 yX9_in wsX9_in) := goodIn_app (goodIn_of _ (by decide +kernel)) ggX9_set_X9_in
set_option maxRecDepth 20000 in
theorem ggX9_set_X9_get : GoodIn wsX9_set wsX9_get := goodIn_r _ [16, 2, 17, 18, 19, 20, 21, 22, 23, 24, 25, 26, 27, 28, 29, 30, 31, 32, 33] rfl (by decide +kernel)
set_option maxRecDepth 20000 in
theorem gX9_set_X9_get : GoodIn wsX9_set (wsV RX9 58 RX9 yX9_get wsX9_get) := goodIn_app (goodIn_of _ (by decide +kernel)) ggX9_set_X9_get
theorem dX9_set_0 : decode cX9_set 0 = .ok (.aload_n 0, 1) := by decide +kernel
theorem dX9_set_1 : decode cX9_set 1 = .ok (.iconst 0, 1) := by decide +kernel
theorem dX9_set_2 : decode cX9_set 2 = .ok (.putfield 43, 3) := by decide +kernel
theorem dX9_set_5 : decode cX9_set 5 = .ok (.aload_n 0, 1) := by decide +kernel
theorem dX9_set_6 : decode cX9_set 6 = .ok (.iload_n 1, 1) := by decide +kernel
theorem dX9_set_7 : decode cX9_set 7 = .ok (.invokevirtual 54, 3) := by decide +kernel
theorem dX9_set_10 : decode cX9_set 10 = .ok (.ifCond .eq 45, 3) := by decide +kernel
theorem dX9_set_13 : decode cX9_set 13 = .ok (.iload_n 2, 1) := by decide +kernel
theorem dX9_set_14 : decode cX9_set 14 = .ok (.iconst 0, 1) := by decide +kernel
theorem dX9_set_15 : decode cX9_set 15 = .ok (.iconst 1, 1) := by decide +kernel
theorem dX9_set_16 : decode cX9_set 16 = .ok (.invokestatic 50, 3) := by decide +kernel
theorem dX9_set_19 : decode cX9_set 19 = .ok (.ifCond .eq 36, 3) := by decide +kernel
theorem dX9_set_22 : decode cX9_set 22 = .ok (.iload_n 2, 1) := by decide +kernel
theorem dX9_set_23 : decode cX9_set 23 = .ok (.ifCond .ne 16, 3) := by decide +kernel
theorem dX9_set_26 : decode cX9_set 26 = .ok (.iload_n 3, 1) := by decide +kernel
theorem dX9_set_27 : decode cX9_set 27 = .ok (.iconst 0, 1) := by decide +kernel
theorem dX9_set_28 : decode cX9_set 28 = .ok (.bipush 40, 2) := by decide +kernel
theorem dX9_set_30 : decode cX9_set 30 = .ok (.invokestatic 50, 3) := by decide +kernel
theorem dX9_set_33 : decode cX9_set 33 = .ok (.ifCond .ne 24, 3) := by decide +kernel
theorem dX9_set_36 : decode cX9_set 36 = .ok (.goto 19, 3) := by decide +kernel
theorem dX9_set_39 : decode cX9_set 39 = .ok (.iload_n 3, 1) := by decide +kernel
theorem dX9_set_40 : decode cX9_set 40 = .ok (.iconst (-1), 1) := by decide +kernel
theorem dX9_set_41 : decode cX9_set 41 = .ok (.aload_n 0, 1) := by decide +kernel
theorem dX9_set_42 : decode cX9_set 42 = .ok (.iload_n 1, 1) := by decide +kernel
theorem dX9_set_43 : decode cX9_set 43 = .ok (.iconst 1, 1) := by decide +kernel
theorem dX9_set_44 : decode cX9_set 44 = .ok (.invokevirtual 58, 3) := by decide +kernel
theorem dX9_set_47 : decode cX9_set 47 = .ok (.iconst 1, 1) := by decide +kernel
theorem dX9_set_48 : decode cX9_set 48 = .ok (.isub, 1) := by decide +kernel
theorem dX9_set_49 : decode cX9_set 49 = .ok (.invokestatic 50, 3) := by decide +kernel
theorem dX9_set_52 : decode cX9_set 52 = .ok (.ifCond .ne 5, 3) := by decide +kernel
theorem dX9_set_55 : decode cX9_set 55 = .ok (.iconst 0, 1) := by decide +kernel
theorem dX9_set_56 : decode cX9_set 56 = .ok (.ireturn, 1) := by decide +kernel
theorem dX9_set_57 : decode cX9_set 57 = .ok (.aload_n 0, 1) := by decide +kernel
theorem dX9_set_58 : decode cX9_set 58 = .ok (.getfield 13, 3) := by decide +kernel
theorem dX9_set_61 : decode cX9_set 61 = .ok (.bipush 10, 2) := by decide +kernel
theorem dX9_set_63 : decode cX9_set 63 = .ok (.iload_n 1, 1) := by decide +kernel
theorem dX9_set_64 : decode cX9_set 64 = .ok (.imul, 1) := by decide +kernel
theorem dX9_set_65 : decode cX9_set 65 = .ok (.bipush 7, 2) := by decide +kernel
theorem dX9_set_67 : decode cX9_set 67 = .ok (.iadd, 1) := by decide +kernel
theorem dX9_set_68 : decode cX9_set 68 = .ok (.iload_n 2, 1) := by decide +kernel
theorem dX9_set_69 : decode cX9_set 69 = .ok (.iadd, 1) := by decide +kernel
theorem dX9_set_70 : decode cX9_set 70 = .ok (.iload_n 3, 1) := by decide +kernel
theorem dX9_set_71 : decode cX9_set 71 = .ok (.iastore, 1) := by decide +kernel
theorem dX9_set_72 : decode cX9_set 72 = .ok (.iload_n 2, 1) := by decide +kernel
theorem dX9_set_73 : decode cX9_set 73 = .ok (.ifCond .ne 5, 3) := by decide +kernel
theorem dX9_set_76 : decode cX9_set 76 = .ok (.iconst 1, 1) := by decide +kernel
theorem dX9_set_77 : decode cX9_set 77 = .ok (.ireturn, 1) := by decide +kernel
theorem dX9_set_78 : decode cX9_set 78 = .ok (.aload_n 0, 1) := by decide +kernel
theorem dX9_set_79 : decode cX9_set 79 = .ok (.getfield 13, 3) := by decide +kernel
theorem dX9_set_82 : decode cX9_set 82 = .ok (.bipush 10, 2) := by decide +kernel
theorem dX9_set_84 : decode cX9_set 84 = .ok (.iload_n 1, 1) := by decide +kernel
theorem dX9_set_85 : decode cX9_set 85 = .ok (.imul, 1) := by decide +kernel
theorem dX9_set_86 : decode cX9_set 86 = .ok (.bipush 9, 2) := by decide +kernel
theorem dX9_set_88 : decode cX9_set 88 = .ok (.iadd, 1) := by decide +kernel
theorem dX9_set_89 : decode cX9_set 89 = .ok (.iconst 0, 1) := by decide +kernel
theorem dX9_set_90 : decode cX9_set 90 = .ok (.iastore, 1) := by decide +kernel
theorem dX9_set_91 : decode cX9_set 91 = .ok (.iconst 0, 1) := by decide +kernel
theorem dX9_set_92 : decode cX9_set 92 = .ok (.istore 4, 2) := by decide +kernel
theorem dX9_set_94 : decode cX9_set 94 = .ok (.iload 4, 2) := by decide +kernel
theorem dX9_set_96 : decode cX9_set 96 = .ok (.bipush 16, 2) := by decide +kernel
theorem dX9_set_98 : decode cX9_set 98 = .ok (.if_icmp .ge 22, 3) := by decide +kernel
theorem dX9_set_101 : decode cX9_set 101 = .ok (.aload_n 0, 1) := by decide +kernel
theorem dX9_set_102 : decode cX9_set 102 = .ok (.getfield 16, 3) := by decide +kernel
theorem dX9_set_105 : decode cX9_set 105 = .ok (.bipush 16, 2) := by decide +kernel
theorem dX9_set_107 : decode cX9_set 107 = .ok (.iload_n 1, 1) := by decide +kernel
theorem dX9_set_108 : decode cX9_set 108 = .ok (.imul, 1) := by decide +kernel
theorem dX9_set_109 : decode cX9_set 109 = .ok (.iload 4, 2) := by decide +kernel
theorem dX9_set_111 : decode cX9_set 111 = .ok (.iadd, 1) := by decide +kernel
theorem dX9_set_112 : decode cX9_set 112 = .ok (.iconst (-1), 1) := by decide +kernel
theorem dX9_set_113 : decode cX9_set 113 = .ok (.iastore, 1) := by decide +kernel
theorem dX9_set_114 : decode cX9_set 114 = .ok (.iinc 4 1, 3) := by decide +kernel
theorem dX9_set_117 : decode cX9_set 117 = .ok (.goto (-23), 3) := by decide +kernel
theorem dX9_set_120 : decode cX9_set 120 = .ok (.iconst 1, 1) := by decide +kernel
theorem dX9_set_121 : decode cX9_set 121 = .ok (.ireturn, 1) := by decide +kernel
theorem dX9_feed_0 : decode cX9_feed 0 = .ok (.aload_n 0, 1) := by decide +kernel
theorem dX9_feed_1 : decode cX9_feed 1 = .ok (.iconst 0, 1) := by decide +kernel
theorem dX9_feed_2 : decode cX9_feed 2 = .ok (.putfield 43, 3) := by decide +kernel
theorem dX9_feed_5 : decode cX9_feed 5 = .ok (.aload_n 0, 1) := by decide +kernel
theorem dX9_feed_6 : decode cX9_feed 6 = .ok (.getfield 62, 3) := by decide +kernel
theorem dX9_feed_9 : decode cX9_feed 9 = .ok (.iconst 5, 1) := by decide +kernel
theorem dX9_feed_10 : decode cX9_feed 10 = .ok (.iadd, 1) := by decide +kernel
theorem dX9_feed_11 : decode cX9_feed 11 = .ok (.bipush 120, 2) := by decide +kernel
theorem dX9_feed_13 : decode cX9_feed 13 = .ok (.if_icmp .le 5, 3) := by decide +kernel
theorem dX9_feed_16 : decode cX9_feed 16 = .ok (.iconst (-1), 1) := by decide +kernel
theorem dX9_feed_17 : decode cX9_feed 17 = .ok (.ireturn, 1) := by decide +kernel
theorem dX9_feed_18 : decode cX9_feed 18 = .ok (.aload_n 0, 1) := by decide +kernel
theorem dX9_feed_19 : decode cX9_feed 19 = .ok (.getfield 9, 3) := by decide +kernel
theorem dX9_feed_22 : decode cX9_feed 22 = .ok (.aload_n 0, 1) := by decide +kernel
theorem dX9_feed_23 : decode cX9_feed 23 = .ok (.getfield 62, 3) := by decide +kernel
theorem dX9_feed_26 : decode cX9_feed 26 = .ok (.iload_n 1, 1) := by decide +kernel
theorem dX9_feed_27 : decode cX9_feed 27 = .ok (.iastore, 1) := by decide +kernel
theorem dX9_feed_28 : decode cX9_feed 28 = .ok (.aload_n 0, 1) := by decide +kernel
theorem dX9_feed_29 : decode cX9_feed 29 = .ok (.getfield 9, 3) := by decide +kernel
theorem dX9_feed_32 : decode cX9_feed 32 = .ok (.aload_n 0, 1) := by decide +kernel
theorem dX9_feed_33 : decode cX9_feed 33 = .ok (.getfield 62, 3) := by decide +kernel
theorem dX9_feed_36 : decode cX9_feed 36 = .ok (.iconst 1, 1) := by decide +kernel
theorem dX9_feed_37 : decode cX9_feed 37 = .ok (.iadd, 1) := by decide +kernel
theorem dX9_feed_38 : decode cX9_feed 38 = .ok (.iload_n 2, 1) := by decide +kernel
theorem dX9_feed_39 : decode cX9_feed 39 = .ok (.iastore, 1) := by decide +kernel
theorem dX9_feed_40 : decode cX9_feed 40 = .ok (.aload_n 0, 1) := by decide +kernel
theorem dX9_feed_41 : decode cX9_feed 41 = .ok (.getfield 9, 3) := by decide +kernel
theorem dX9_feed_44 : decode cX9_feed 44 = .ok (.aload_n 0, 1) := by decide +kernel
theorem dX9_feed_45 : decode cX9_feed 45 = .ok (.getfield 62, 3) := by decide +kernel
theorem dX9_feed_48 : decode cX9_feed 48 = .ok (.iconst 2, 1) := by decide +kernel
theorem dX9_feed_49 : decode cX9_feed 49 = .ok (.iadd, 1) := by decide +kernel
theorem dX9_feed_50 : decode cX9_feed 50 = .ok (.iload_n 3, 1) := by decide +kernel
theorem dX9_feed_51 : decode cX9_feed 51 = .ok (.iastore, 1) := by decide +kernel
theorem dX9_feed_52 : decode cX9_feed 52 = .ok (.aload_n 0, 1) := by decide +kernel
theorem dX9_feed_53 : decode cX9_feed 53 = .ok (.getfield 9, 3) := by decide +kernel
theorem dX9_feed_56 : decode cX9_feed 56 = .ok (.aload_n 0, 1) := by decide +kernel
theorem dX9_feed_57 : decode cX9_feed 57 = .ok (.getfield 62, 3) := by decide +kernel
theorem dX9_feed_60 : decode cX9_feed 60 = .ok (.iconst 3, 1) := by decide +kernel
theorem dX9_feed_61 : decode cX9_feed 61 = .ok (.iadd, 1) := by decide +kernel
theorem dX9_feed_62 : decode cX9_feed 62 = .ok (.iload 4, 2) := by decide +kernel
theorem dX9_feed_64 : decode cX9_feed 64 = .ok (.iastore, 1) := by decide +kernel
theorem dX9_feed_65 : decode cX9_feed 65 = .ok (.aload_n 0, 1) := by decide +kernel
theorem dX9_feed_66 : decode cX9_feed 66 = .ok (.getfield 9, 3) := by decide +kernel
theorem dX9_feed_69 : decode cX9_feed 69 = .ok (.aload_n 0, 1) := by decide +kernel
theorem dX9_feed_70 : decode cX9_feed 70 = .ok (.getfield 62, 3) := by decide +kernel
theorem dX9_feed_73 : decode cX9_feed 73 = .ok (.iconst 4, 1) := by decide +kernel
theorem dX9_feed_74 : decode cX9_feed 74 = .ok (.iadd, 1) := by decide +kernel
theorem dX9_feed_75 : decode cX9_feed 75 = .ok (.iload 5, 2) := by decide +kernel
theorem dX9_feed_77 : decode cX9_feed 77 = .ok (.iastore, 1) := by decide +kernel
theorem dX9_feed_78 : decode cX9_feed 78 = .ok (.aload_n 0, 1) := by decide +kernel
theorem dX9_feed_79 : decode cX9_feed 79 = .ok (.dup, 1) := by decide +kernel
theorem dX9_feed_80 : decode cX9_feed 80 = .ok (.getfield 62, 3) := by decide +kernel
theorem dX9_feed_83 : decode cX9_feed 83 = .ok (.iconst 5, 1) := by decide +kernel
theorem dX9_feed_84 : decode cX9_feed 84 = .ok (.iadd, 1) := by decide +kernel
theorem dX9_feed_85 : decode cX9_feed 85 = .ok (.putfield 62, 3) := by decide +kernel
theorem dX9_feed_88 : decode cX9_feed 88 = .ok (.aload_n 0, 1) := by decide +kernel
theorem dX9_feed_89 : decode cX9_feed 89 = .ok (.getfield 62, 3) := by decide +kernel
theorem dX9_feed_92 : decode cX9_feed 92 = .ok (.ireturn, 1) := by decide +kernel
theorem dX9_end_0 : decode cX9_end 0 = .ok (.aload_n 0, 1) := by decide +kernel
theorem dX9_end_1 : decode cX9_end 1 = .ok (.iconst 0, 1) := by decide +kernel
theorem dX9_end_2 : decode cX9_end 2 = .ok (.putfield 43, 3) := by decide +kernel
theorem dX9_end_5 : decode cX9_end 5 = .ok (.iload_n 1, 1) := by decide +kernel
theorem dX9_end_6 : decode cX9_end 6 = .ok (.ifCond .lt 11, 3) := by decide +kernel
theorem dX9_end_9 : decode cX9_end 9 = .ok (.iload_n 1, 1) := by decide +kernel
theorem dX9_end_10 : decode cX9_end 10 = .ok (.aload_n 0, 1) := by decide +kernel
theorem dX9_end_11 : decode cX9_end 11 = .ok (.getfield 62, 3) := by decide +kernel
theorem dX9_end_14 : decode cX9_end 14 = .ok (.if_icmp .le 5, 3) := by decide +kernel
theorem dX9_end_17 : decode cX9_end 17 = .ok (.iconst 0, 1) := by decide +kernel
theorem dX9_end_18 : decode cX9_end 18 = .ok (.ireturn, 1) := by decide +kernel
theorem dX9_end_19 : decode cX9_end 19 = .ok (.aload_n 0, 1) := by decide +kernel
theorem dX9_end_20 : decode cX9_end 20 = .ok (.iload_n 1, 1) := by decide +kernel
theorem dX9_end_21 : decode cX9_end 21 = .ok (.putfield 62, 3) := by decide +kernel
theorem dX9_end_24 : decode cX9_end 24 = .ok (.iconst 1, 1) := by decide +kernel
theorem dX9_end_25 : decode cX9_end 25 = .ok (.ireturn, 1) := by decide +kernel
theorem dX9_lay_0 : decode cX9_lay 0 = .ok (.aload_n 0, 1) := by decide +kernel
theorem dX9_lay_1 : decode cX9_lay 1 = .ok (.getfield 9, 3) := by decide +kernel
theorem dX9_lay_4 : decode cX9_lay 4 = .ok (.aload_n 0, 1) := by decide +kernel
theorem dX9_lay_5 : decode cX9_lay 5 = .ok (.getfield 62, 3) := by decide +kernel
theorem dX9_lay_8 : decode cX9_lay 8 = .ok (.iload_n 1, 1) := by decide +kernel
theorem dX9_lay_9 : decode cX9_lay 9 = .ok (.iastore, 1) := by decide +kernel
theorem dX9_lay_10 : decode cX9_lay 10 = .ok (.aload_n 0, 1) := by decide +kernel
theorem dX9_lay_11 : decode cX9_lay 11 = .ok (.dup, 1) := by decide +kernel
theorem dX9_lay_12 : decode cX9_lay 12 = .ok (.getfield 62, 3) := by decide +kernel
theorem dX9_lay_15 : decode cX9_lay 15 = .ok (.iconst 1, 1) := by decide +kernel
theorem dX9_lay_16 : decode cX9_lay 16 = .ok (.iadd, 1) := by decide +kernel
theorem dX9_lay_17 : decode cX9_lay 17 = .ok (.putfield 62, 3) := by decide +kernel
theorem dX9_lay_20 : decode cX9_lay 20 = .ok (.return_, 1) := by decide +kernel
theorem dX9_isOn_0 : decode cX9_isOn 0 = .ok (.iload_n 2, 1) := by decide +kernel
theorem dX9_isOn_1 : decode cX9_isOn 1 = .ok (.ifCond .ne 5, 3) := by decide +kernel
theorem dX9_isOn_4 : decode cX9_isOn 4 = .ok (.iconst 1, 1) := by decide +kernel
theorem dX9_isOn_5 : decode cX9_isOn 5 = .ok (.ireturn, 1) := by decide +kernel
theorem dX9_isOn_6 : decode cX9_isOn 6 = .ok (.iload_n 1, 1) := by decide +kernel
theorem dX9_isOn_7 : decode cX9_isOn 7 = .ok (.iload_n 0, 1) := by decide +kernel
theorem dX9_isOn_8 : decode cX9_isOn 8 = .ok (.iconst 1, 1) := by decide +kernel
theorem dX9_isOn_9 : decode cX9_isOn 9 = .ok (.isub, 1) := by decide +kernel
theorem dX9_isOn_10 : decode cX9_isOn 10 = .ok (.iload_n 2, 1) := by decide +kernel
theorem dX9_isOn_11 : decode cX9_isOn 11 = .ok (.iconst 1, 1) := by decide +kernel
theorem dX9_isOn_12 : decode cX9_isOn 12 = .ok (.isub, 1) := by decide +kernel
theorem dX9_isOn_13 : decode cX9_isOn 13 = .ok (.iconst 2, 1) := by decide +kernel
theorem dX9_isOn_14 : decode cX9_isOn 14 = .ok (.idiv, 1) := by decide +kernel
theorem dX9_isOn_15 : decode cX9_isOn 15 = .ok (.isub, 1) := by decide +kernel
theorem dX9_isOn_16 : decode cX9_isOn 16 = .ok (.ishr, 1) := by decide +kernel
theorem dX9_isOn_17 : decode cX9_isOn 17 = .ok (.iconst 1, 1) := by decide +kernel
theorem dX9_isOn_18 : decode cX9_isOn 18 = .ok (.iand, 1) := by decide +kernel
theorem dX9_isOn_19 : decode cX9_isOn 19 = .ok (.istore_n 3, 1) := by decide +kernel
theorem dX9_isOn_20 : decode cX9_isOn 20 = .ok (.iload_n 2, 1) := by decide +kernel
theorem dX9_isOn_21 : decode cX9_isOn 21 = .ok (.iconst 1, 1) := by decide +kernel
theorem dX9_isOn_22 : decode cX9_isOn 22 = .ok (.isub, 1) := by decide +kernel
theorem dX9_isOn_23 : decode cX9_isOn 23 = .ok (.iconst 2, 1) := by decide +kernel
theorem dX9_isOn_24 : decode cX9_isOn 24 = .ok (.irem, 1) := by decide +kernel
theorem dX9_isOn_25 : decode cX9_isOn 25 = .ok (.iload_n 3, 1) := by decide +kernel
theorem dX9_isOn_26 : decode cX9_isOn 26 = .ok (.if_icmp .ne 7, 3) := by decide +kernel
theorem dX9_isOn_29 : decode cX9_isOn 29 = .ok (.iconst 1, 1) := by decide +kernel
theorem dX9_isOn_30 : decode cX9_isOn 30 = .ok (.goto 4, 3) := by decide +kernel
theorem dX9_isOn_33 : decode cX9_isOn 33 = .ok (.iconst 0, 1) := by decide +kernel
theorem dX9_isOn_34 : decode cX9_isOn 34 = .ok (.ireturn, 1) := by decide +kernel
set_option maxRecDepth 20000 in
theorem ggX9_layHalves_X9_isOn : GoodIn wsX9_layHalves wsX9_isOn := goodIn_r _ [4] rfl (by decide +kernel)
set_option maxRecDepth 20000 in
theorem gX9_layHalves_X9_isOn : GoodIn wsX9_layHalves (va_wsS RX9 65 yX9_isOn wsX9_isOn) := goodIn_app (goodIn_of _ (by decide +kernel)) ggX9_layHalves_X9_isOn
set_option maxRecDepth 20000 in
theorem ggX9_layHalves_X9_lay : GoodIn wsX9_layHalves wsX9_lay := goodIn_r _ [8, 9, 10, 11, 12, 13, 14, 15, 16, 17, 18, 19, 20, 21, 22, 23, 24, 25, 26, 27] rfl (by decide +kernel)
set_option maxRecDepth 20000 in
theorem gX9_layHalves_X9_lay : GoodIn wsX9_layHalves (wsV RX9 68 RX9 yX9_lay wsX9_lay) := goodIn_app (goodIn_of _ (by decide +kernel)) ggX9_layHalves_X9_lay
theorem dX9_layHalves_0 : decode cX9_layHalves 0 = .ok (.iconst 2, 1) := by decide +kernel
theorem dX9_layHalves_1 : decode cX9_layHalves 1 = .ok (.iload_n 1, 1) := by decide +kernel
theorem dX9_layHalves_2 : decode cX9_layHalves 2 = .ok (.imul, 1) := by decide +kernel
theorem dX9_layHalves_3 : decode cX9_layHalves 3 = .ok (.iconst 1, 1) := by decide +kernel
theorem dX9_layHalves_4 : decode cX9_layHalves 4 = .ok (.iadd, 1) := by decide +kernel
theorem dX9_layHalves_5 : decode cX9_layHalves 5 = .ok (.istore 4, 2) := by decide +kernel
theorem dX9_layHalves_7 : decode cX9_layHalves 7 = .ok (.iload_n 1, 1) := by decide +kernel
theorem dX9_layHalves_8 : decode cX9_layHalves 8 = .ok (.iload_n 2, 1) := by decide +kernel
theorem dX9_layHalves_9 : decode cX9_layHalves 9 = .ok (.iload 4, 2) := by decide +kernel
theorem dX9_layHalves_11 : decode cX9_layHalves 11 = .ok (.iconst 1, 1) := by decide +kernel
theorem dX9_layHalves_12 : decode cX9_layHalves 12 = .ok (.isub, 1) := by decide +kernel
theorem dX9_layHalves_13 : decode cX9_layHalves 13 = .ok (.invokestatic 65, 3) := by decide +kernel
theorem dX9_layHalves_16 : decode cX9_layHalves 16 = .ok (.ifCond .ne 6, 3) := by decide +kernel
theorem dX9_layHalves_19 : decode cX9_layHalves 19 = .ok (.iinc 4 (-1), 3) := by decide +kernel
theorem dX9_layHalves_22 : decode cX9_layHalves 22 = .ok (.iconst 0, 1) := by decide +kernel
theorem dX9_layHalves_23 : decode cX9_layHalves 23 = .ok (.istore 5, 2) := by decide +kernel
theorem dX9_layHalves_25 : decode cX9_layHalves 25 = .ok (.iconst 1, 1) := by decide +kernel
theorem dX9_layHalves_26 : decode cX9_layHalves 26 = .ok (.istore 6, 2) := by decide +kernel
theorem dX9_layHalves_28 : decode cX9_layHalves 28 = .ok (.iload 6, 2) := by decide +kernel
theorem dX9_layHalves_30 : decode cX9_layHalves 30 = .ok (.iload 4, 2) := by decide +kernel
theorem dX9_layHalves_32 : decode cX9_layHalves 32 = .ok (.if_icmp .gt 51, 3) := by decide +kernel
theorem dX9_layHalves_35 : decode cX9_layHalves 35 = .ok (.iload 6, 2) := by decide +kernel
theorem dX9_layHalves_37 : decode cX9_layHalves 37 = .ok (.iload 4, 2) := by decide +kernel
theorem dX9_layHalves_39 : decode cX9_layHalves 39 = .ok (.if_icmp .ge 23, 3) := by decide +kernel
theorem dX9_layHalves_42 : decode cX9_layHalves 42 = .ok (.iload_n 1, 1) := by decide +kernel
theorem dX9_layHalves_43 : decode cX9_layHalves 43 = .ok (.iload_n 2, 1) := by decide +kernel
theorem dX9_layHalves_44 : decode cX9_layHalves 44 = .ok (.iload 6, 2) := by decide +kernel
theorem dX9_layHalves_46 : decode cX9_layHalves 46 = .ok (.invokestatic 65, 3) := by decide +kernel
theorem dX9_layHalves_49 : decode cX9_layHalves 49 = .ok (.iload_n 1, 1) := by decide +kernel
theorem dX9_layHalves_50 : decode cX9_layHalves 50 = .ok (.iload_n 2, 1) := by decide +kernel
theorem dX9_layHalves_51 : decode cX9_layHalves 51 = .ok (.iload 5, 2) := by decide +kernel
theorem dX9_layHalves_53 : decode cX9_layHalves 53 = .ok (.invokestatic 65, 3) := by decide +kernel
theorem dX9_layHalves_56 : decode cX9_layHalves 56 = .ok (.if_icmp .ne 6, 3) := by decide +kernel
theorem dX9_layHalves_59 : decode cX9_layHalves 59 = .ok (.goto 18, 3) := by decide +kernel
theorem dX9_layHalves_62 : decode cX9_layHalves 62 = .ok (.aload_n 0, 1) := by decide +kernel
theorem dX9_layHalves_63 : decode cX9_layHalves 63 = .ok (.iload_n 3, 1) := by decide +kernel
theorem dX9_layHalves_64 : decode cX9_layHalves 64 = .ok (.iload 6, 2) := by decide +kernel
theorem dX9_layHalves_66 : decode cX9_layHalves 66 = .ok (.iload 5, 2) := by decide +kernel
theorem dX9_layHalves_68 : decode cX9_layHalves 68 = .ok (.isub, 1) := by decide +kernel
theorem dX9_layHalves_69 : decode cX9_layHalves 69 = .ok (.imul, 1) := by decide +kernel
theorem dX9_layHalves_70 : decode cX9_layHalves 70 = .ok (.invokevirtual 68, 3) := by decide +kernel
theorem dX9_layHalves_73 : decode cX9_layHalves 73 = .ok (.iload 6, 2) := by decide +kernel
theorem dX9_layHalves_75 : decode cX9_layHalves 75 = .ok (.istore 5, 2) := by decide +kernel
theorem dX9_layHalves_77 : decode cX9_layHalves 77 = .ok (.iinc 6 1, 3) := by decide +kernel
theorem dX9_layHalves_80 : decode cX9_layHalves 80 = .ok (.goto (-52), 3) := by decide +kernel
theorem dX9_layHalves_83 : decode cX9_layHalves 83 = .ok (.return_, 1) := by decide +kernel
set_option maxRecDepth 20000 in
theorem ggX9_flash_X9_get : GoodIn wsX9_flash wsX9_get := goodIn_r _ [6, 7, 20, 21, 22, 23, 24, 25, 26, 27, 28, 29, 30, 31, 32, 33, 34, 35, 36] rfl (by decide +kernel)
set_option maxRecDepth 20000 in
theorem gX9_flash_X9_get : GoodIn wsX9_flash (wsV RX9 58 RX9 yX9_get wsX9_get) := goodIn_app (goodIn_of _ (by decide +kernel)) ggX9_flash_X9_get
set_option maxRecDepth 20000 in
theorem ggX9_flash_X9_layHalves : GoodIn wsX9_flash wsX9_layHalves := goodIn_r _ [11, 12, 13, 5, 14, 15, 16, 17, 18, 19, 1, 20, 21, 22, 23, 24, 25, 26, 27, 28, 29, 30, 31, 32, 33, 34, 35, 36] rfl (by decide +kernel)
set_option maxRecDepth 20000 in
theorem gX9_flash_X9_layHalves : GoodIn wsX9_flash (wsV RX9 72 RX9 yX9_layHalves wsX9_layHalves) := goodIn_app (goodIn_of _ (by decide +kernel)) ggX9_flash_X9_layHalves
set_option maxRecDepth 20000 in
theorem ggX9_flash_X9_lay : GoodIn wsX9_flash wsX9_lay := goodIn_r _ [18, 19, 1, 20, 21, 22, 23, 24, 25, 26, 27, 28, 29, 30, 31, 32, 33, 34, 35, 36] rfl (by decide +kernel)
set_option maxRecDepth 20000 in
theorem gX9_flash_X9_lay : GoodIn wsX9_flash (wsV RX9 68 RX9 yX9_lay wsX9_lay) := goodIn_app (goodIn_of _ (by decide +kernel)) ggX9_flash_X9_lay
theorem dX9_flash_0 : decode cX9_flash 0 = .ok (.aload_n 0, 1) := by decide +kernel
theorem dX9_flash_1 : decode cX9_flash 1 = .ok (.iconst 0, 1) := by decide +kernel
theorem dX9_flash_2 : decode cX9_flash 2 = .ok (.putfield 62, 3) := by decide +kernel
theorem dX9_flash_5 : decode cX9_flash 5 = .ok (.aload_n 0, 1) := by decide +kernel
theorem dX9_flash_6 : decode cX9_flash 6 = .ok (.iload_n 1, 1) := by decide +kernel
theorem dX9_flash_7 : decode cX9_flash 7 = .ok (.iconst 1, 1) := by decide +kernel
theorem dX9_flash_8 : decode cX9_flash 8 = .ok (.invokevirtual 58, 3) := by decide +kernel
theorem dX9_flash_11 : decode cX9_flash 11 = .ok (.istore_n 3, 1) := by decide +kernel
theorem dX9_flash_12 : decode cX9_flash 12 = .ok (.aload_n 0, 1) := by decide +kernel
theorem dX9_flash_13 : decode cX9_flash 13 = .ok (.iload_n 1, 1) := by decide +kernel
theorem dX9_flash_14 : decode cX9_flash 14 = .ok (.iconst 4, 1) := by decide +kernel
theorem dX9_flash_15 : decode cX9_flash 15 = .ok (.invokevirtual 58, 3) := by decide +kernel
theorem dX9_flash_18 : decode cX9_flash 18 = .ok (.istore 4, 2) := by decide +kernel
theorem dX9_flash_20 : decode cX9_flash 20 = .ok (.aload_n 0, 1) := by decide +kernel
theorem dX9_flash_21 : decode cX9_flash 21 = .ok (.iload_n 1, 1) := by decide +kernel
theorem dX9_flash_22 : decode cX9_flash 22 = .ok (.iconst 0, 1) := by decide +kernel
theorem dX9_flash_23 : decode cX9_flash 23 = .ok (.invokevirtual 58, 3) := by decide +kernel
theorem dX9_flash_26 : decode cX9_flash 26 = .ok (.iconst 2, 1) := by decide +kernel
theorem dX9_flash_27 : decode cX9_flash 27 = .ok (.if_icmp .ne 12, 3) := by decide +kernel
theorem dX9_flash_30 : decode cX9_flash 30 = .ok (.aload_n 0, 1) := by decide +kernel
theorem dX9_flash_31 : decode cX9_flash 31 = .ok (.iload_n 3, 1) := by decide +kernel
theorem dX9_flash_32 : decode cX9_flash 32 = .ok (.iload_n 2, 1) := by decide +kernel
theorem dX9_flash_33 : decode cX9_flash 33 = .ok (.iload 4, 2) := by decide +kernel
theorem dX9_flash_35 : decode cX9_flash 35 = .ok (.invokevirtual 72, 3) := by decide +kernel
theorem dX9_flash_38 : decode cX9_flash 38 = .ok (.return_, 1) := by decide +kernel
theorem dX9_flash_39 : decode cX9_flash 39 = .ok (.aload_n 0, 1) := by decide +kernel
theorem dX9_flash_40 : decode cX9_flash 40 = .ok (.aload_n 0, 1) := by decide +kernel
theorem dX9_flash_41 : decode cX9_flash 41 = .ok (.iload_n 1, 1) := by decide +kernel
theorem dX9_flash_42 : decode cX9_flash 42 = .ok (.iconst 2, 1) := by decide +kernel
theorem dX9_flash_43 : decode cX9_flash 43 = .ok (.invokevirtual 58, 3) := by decide +kernel
theorem dX9_flash_46 : decode cX9_flash 46 = .ok (.invokevirtual 68, 3) := by decide +kernel
theorem dX9_flash_49 : decode cX9_flash 49 = .ok (.aload_n 0, 1) := by decide +kernel
theorem dX9_flash_50 : decode cX9_flash 50 = .ok (.aload_n 0, 1) := by decide +kernel
theorem dX9_flash_51 : decode cX9_flash 51 = .ok (.iload_n 1, 1) := by decide +kernel
theorem dX9_flash_52 : decode cX9_flash 52 = .ok (.iconst 3, 1) := by decide +kernel
theorem dX9_flash_53 : decode cX9_flash 53 = .ok (.invokevirtual 58, 3) := by decide +kernel
theorem dX9_flash_56 : decode cX9_flash 56 = .ok (.invokevirtual 68, 3) := by decide +kernel
theorem dX9_flash_59 : decode cX9_flash 59 = .ok (.iload_n 3, 1) := by decide +kernel
theorem dX9_flash_60 : decode cX9_flash 60 = .ok (.iconst 1, 1) := by decide +kernel
theorem dX9_flash_61 : decode cX9_flash 61 = .ok (.isub, 1) := by decide +kernel
theorem dX9_flash_62 : decode cX9_flash 62 = .ok (.istore 5, 2) := by decide +kernel
theorem dX9_flash_64 : decode cX9_flash 64 = .ok (.iload 5, 2) := by decide +kernel
theorem dX9_flash_66 : decode cX9_flash 66 = .ok (.ifCond .lt 78, 3) := by decide +kernel
theorem dX9_flash_69 : decode cX9_flash 69 = .ok (.aload_n 0, 1) := by decide +kernel
theorem dX9_flash_70 : decode cX9_flash 70 = .ok (.iload_n 1, 1) := by decide +kernel
theorem dX9_flash_71 : decode cX9_flash 71 = .ok (.iconst 5, 1) := by decide +kernel
theorem dX9_flash_72 : decode cX9_flash 72 = .ok (.iload_n 2, 1) := by decide +kernel
theorem dX9_flash_73 : decode cX9_flash 73 = .ok (.iload 5, 2) := by decide +kernel
theorem dX9_flash_75 : decode cX9_flash 75 = .ok (.ishr, 1) := by decide +kernel
theorem dX9_flash_76 : decode cX9_flash 76 = .ok (.iconst 1, 1) := by decide +kernel
theorem dX9_flash_77 : decode cX9_flash 77 = .ok (.iand, 1) := by decide +kernel
theorem dX9_flash_78 : decode cX9_flash 78 = .ok (.iadd, 1) := by decide +kernel
theorem dX9_flash_79 : decode cX9_flash 79 = .ok (.invokevirtual 58, 3) := by decide +kernel
theorem dX9_flash_82 : decode cX9_flash 82 = .ok (.istore 6, 2) := by decide +kernel
