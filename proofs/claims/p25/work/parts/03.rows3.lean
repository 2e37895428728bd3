theorem dX9_flash_84 : decode cX9_flash 84 = .ok (.aload_n 0, 1) := by decide +kernel
theorem dX9_flash_85 : decode cX9_flash 85 = .ok (.aload_n 0, 1) := by decide +kernel
theorem dX9_flash_86 : decode cX9_flash 86 = .ok (.iload_n 1, 1) := by decide +kernel
theorem dX9_flash_87 : decode cX9_flash 87 = .ok (.iconst 0, 1) := by decide +kernel
theorem dX9_flash_88 : decode cX9_flash 88 = .ok (.invokevirtual 58, 3) := by decide +kernel
theorem dX9_flash_91 : decode cX9_flash 91 = .ok (.ifCond .ne 8, 3) := by decide +kernel
theorem dX9_flash_94 : decode cX9_flash 94 = .ok (.iload 4, 2) := by decide +kernel
theorem dX9_flash_96 : decode cX9_flash 96 = .ok (.goto 5, 3) := by decide +kernel
theorem dX9_flash_99 : decode cX9_flash 99 = .ok (.iload 6, 2) := by decide +kernel
theorem dX9_flash_101 : decode cX9_flash 101 = .ok (.invokevirtual 68, 3) := by decide +kernel
theorem dX9_flash_104 : decode cX9_flash 104 = .ok (.aload_n 0, 1) := by decide +kernel
theorem dX9_flash_105 : decode cX9_flash 105 = .ok (.iload_n 1, 1) := by decide +kernel
theorem dX9_flash_106 : decode cX9_flash 106 = .ok (.iconst 0, 1) := by decide +kernel
theorem dX9_flash_107 : decode cX9_flash 107 = .ok (.invokevirtual 58, 3) := by decide +kernel
theorem dX9_flash_110 : decode cX9_flash 110 = .ok (.ifCond .eq 8, 3) := by decide +kernel
theorem dX9_flash_113 : decode cX9_flash 113 = .ok (.iload 5, 2) := by decide +kernel
theorem dX9_flash_115 : decode cX9_flash 115 = .ok (.ifCond .le 23, 3) := by decide +kernel
theorem dX9_flash_118 : decode cX9_flash 118 = .ok (.aload_n 0, 1) := by decide +kernel
theorem dX9_flash_119 : decode cX9_flash 119 = .ok (.aload_n 0, 1) := by decide +kernel
theorem dX9_flash_120 : decode cX9_flash 120 = .ok (.iload_n 1, 1) := by decide +kernel
theorem dX9_flash_121 : decode cX9_flash 121 = .ok (.iconst 0, 1) := by decide +kernel
theorem dX9_flash_122 : decode cX9_flash 122 = .ok (.invokevirtual 58, 3) := by decide +kernel
theorem dX9_flash_125 : decode cX9_flash 125 = .ok (.ifCond .ne 8, 3) := by decide +kernel
theorem dX9_flash_128 : decode cX9_flash 128 = .ok (.iload 6, 2) := by decide +kernel
theorem dX9_flash_130 : decode cX9_flash 130 = .ok (.goto 5, 3) := by decide +kernel
theorem dX9_flash_133 : decode cX9_flash 133 = .ok (.iload 4, 2) := by decide +kernel
theorem dX9_flash_135 : decode cX9_flash 135 = .ok (.invokevirtual 68, 3) := by decide +kernel
theorem dX9_flash_138 : decode cX9_flash 138 = .ok (.iinc 5 (-1), 3) := by decide +kernel
theorem dX9_flash_141 : decode cX9_flash 141 = .ok (.goto (-77), 3) := by decide +kernel
theorem dX9_flash_144 : decode cX9_flash 144 = .ok (.aload_n 0, 1) := by decide +kernel
theorem dX9_flash_145 : decode cX9_flash 145 = .ok (.iload_n 1, 1) := by decide +kernel
theorem dX9_flash_146 : decode cX9_flash 146 = .ok (.iconst 0, 1) := by decide +kernel
theorem dX9_flash_147 : decode cX9_flash 147 = .ok (.invokevirtual 58, 3) := by decide +kernel
theorem dX9_flash_150 : decode cX9_flash 150 = .ok (.ifCond .ne 9, 3) := by decide +kernel
theorem dX9_flash_153 : decode cX9_flash 153 = .ok (.aload_n 0, 1) := by decide +kernel
theorem dX9_flash_154 : decode cX9_flash 154 = .ok (.iload 4, 2) := by decide +kernel
theorem dX9_flash_156 : decode cX9_flash 156 = .ok (.invokevirtual 68, 3) := by decide +kernel
theorem dX9_flash_159 : decode cX9_flash 159 = .ok (.return_, 1) := by decide +kernel
set_option maxRecDepth 20000 in
theorem ggX9_send_X9_isMake : GoodIn wsX9_send wsX9_isMake := goodIn_r _ [7, 8, 9, 10, 6, 11, 33, 34, 35, 36, 37, 38, 39, 40, 41, 42, 43, 44, 45, 46, 47, 48, 49] rfl (by decide +kernel)
set_option maxRecDepth 20000 in
theorem gX9_send_X9_isMake : GoodIn wsX9_send (wsV RX9 54 RX9 yX9_isMake wsX9_isMake) := goodIn_app (goodIn_of _ (by decide +kernel)) ggX9_send_X9_isMake
set_option maxRecDepth 20000 in
theorem ggX9_send_X9_get : GoodIn wsX9_send wsX9_get := goodIn_r _ [15, 16, 33, 34, 35, 36, 37, 38, 39, 40, 41, 42, 43, 44, 45, 46, 47, 48, 49] rfl (by decide +kernel)
set_option maxRecDepth 20000 in
theorem gX9_send_X9_get : GoodIn wsX9_send (wsV RX9 58 RX9 yX9_get wsX9_get) := goodIn_app (goodIn_of _ (by decide +kernel)) ggX9_send_X9_get
set_option maxRecDepth 20000 in
theorem ggX9_send_X9_flash : GoodIn wsX9_send wsX9_flash := goodIn_r _ [20, 2, 12, 13, 14, 6, 15, 16, 21, 22, 23, 24, 25, 26, 27, 28, 29, 30, 31, 32, 33, 34, 35, 36, 37, 38, 39, 40, 41, 42, 43, 44, 45, 46, 47, 48, 49] rfl (by decide +kernel)
set_option maxRecDepth 20000 in
theorem gX9_send_X9_flash : GoodIn wsX9_send (wsV RX9 76 RX9 yX9_flash wsX9_flash) := goodIn_app (goodIn_of _ (by decide +kernel)) ggX9_send_X9_flash
theorem dX9_send_0 : decode cX9_send 0 = .ok (.aload_n 0, 1) := by decide +kernel
theorem dX9_send_1 : decode cX9_send 1 = .ok (.iconst 0, 1) := by decide +kernel
theorem dX9_send_2 : decode cX9_send 2 = .ok (.putfield 43, 3) := by decide +kernel
theorem dX9_send_5 : decode cX9_send 5 = .ok (.aload_n 0, 1) := by decide +kernel
theorem dX9_send_6 : decode cX9_send 6 = .ok (.iload_n 1, 1) := by decide +kernel
theorem dX9_send_7 : decode cX9_send 7 = .ok (.invokevirtual 54, 3) := by decide +kernel
theorem dX9_send_10 : decode cX9_send 10 = .ok (.ifCond .eq 19, 3) := by decide +kernel
theorem dX9_send_13 : decode cX9_send 13 = .ok (.iload_n 2, 1) := by decide +kernel
theorem dX9_send_14 : decode cX9_send 14 = .ok (.ifCond .lt 15, 3) := by decide +kernel
theorem dX9_send_17 : decode cX9_send 17 = .ok (.iload_n 2, 1) := by decide +kernel
theorem dX9_send_18 : decode cX9_send 18 = .ok (.iconst 1, 1) := by decide +kernel
theorem dX9_send_19 : decode cX9_send 19 = .ok (.aload_n 0, 1) := by decide +kernel
theorem dX9_send_20 : decode cX9_send 20 = .ok (.iload_n 1, 1) := by decide +kernel
theorem dX9_send_21 : decode cX9_send 21 = .ok (.iconst 1, 1) := by decide +kernel
theorem dX9_send_22 : decode cX9_send 22 = .ok (.invokevirtual 58, 3) := by decide +kernel
theorem dX9_send_25 : decode cX9_send 25 = .ok (.ishl, 1) := by decide +kernel
theorem dX9_send_26 : decode cX9_send 26 = .ok (.if_icmp .lt 5, 3) := by decide +kernel
theorem dX9_send_29 : decode cX9_send 29 = .ok (.iconst (-1), 1) := by decide +kernel
theorem dX9_send_30 : decode cX9_send 30 = .ok (.ireturn, 1) := by decide +kernel
theorem dX9_send_31 : decode cX9_send 31 = .ok (.aload_n 0, 1) := by decide +kernel
theorem dX9_send_32 : decode cX9_send 32 = .ok (.iload_n 1, 1) := by decide +kernel
theorem dX9_send_33 : decode cX9_send 33 = .ok (.iload_n 2, 1) := by decide +kernel
theorem dX9_send_34 : decode cX9_send 34 = .ok (.invokevirtual 76, 3) := by decide +kernel
theorem dX9_send_37 : decode cX9_send 37 = .ok (.aload_n 0, 1) := by decide +kernel
theorem dX9_send_38 : decode cX9_send 38 = .ok (.getfield 62, 3) := by decide +kernel
theorem dX9_send_41 : decode cX9_send 41 = .ok (.ireturn, 1) := by decide +kernel
set_option maxRecDepth 20000 in
theorem ggX9_time_X9_in : GoodIn wsX9_time wsX9_in := goodIn_r _ [7] rfl (by decide +kernel)
set_option maxRecDepth 20000 in
theorem gX9_time_X9_in : GoodIn wsX9_time (va_wsS RX9 50 yX9_in wsX9_in) := goodIn_app (goodIn_of _ (by decide +kernel)) ggX9_time_X9_in
theorem dX9_time_0 : decode cX9_time 0 = .ok (.aload_n 0, 1) := by decide +kernel
theorem dX9_time_1 : decode cX9_time 1 = .ok (.iconst 0, 1) := by decide +kernel
theorem dX9_time_2 : decode cX9_time 2 = .ok (.putfield 43, 3) := by decide +kernel
theorem dX9_time_5 : decode cX9_time 5 = .ok (.iload_n 1, 1) := by decide +kernel
theorem dX9_time_6 : decode cX9_time 6 = .ok (.iconst 0, 1) := by decide +kernel
theorem dX9_time_7 : decode cX9_time 7 = .ok (.aload_n 0, 1) := by decide +kernel
theorem dX9_time_8 : decode cX9_time 8 = .ok (.getfield 62, 3) := by decide +kernel
theorem dX9_time_11 : decode cX9_time 11 = .ok (.iconst 1, 1) := by decide +kernel
theorem dX9_time_12 : decode cX9_time 12 = .ok (.isub, 1) := by decide +kernel
theorem dX9_time_13 : decode cX9_time 13 = .ok (.invokestatic 50, 3) := by decide +kernel
theorem dX9_time_16 : decode cX9_time 16 = .ok (.ifCond .ne 10, 3) := by decide +kernel
theorem dX9_time_19 : decode cX9_time 19 = .ok (.aload_n 0, 1) := by decide +kernel
theorem dX9_time_20 : decode cX9_time 20 = .ok (.iconst 1, 1) := by decide +kernel
theorem dX9_time_21 : decode cX9_time 21 = .ok (.putfield 43, 3) := by decide +kernel
theorem dX9_time_24 : decode cX9_time 24 = .ok (.iconst 0, 1) := by decide +kernel
theorem dX9_time_25 : decode cX9_time 25 = .ok (.ireturn, 1) := by decide +kernel
theorem dX9_time_26 : decode cX9_time 26 = .ok (.aload_n 0, 1) := by decide +kernel
theorem dX9_time_27 : decode cX9_time 27 = .ok (.getfield 9, 3) := by decide +kernel
theorem dX9_time_30 : decode cX9_time 30 = .ok (.iload_n 1, 1) := by decide +kernel
theorem dX9_time_31 : decode cX9_time 31 = .ok (.iaload, 1) := by decide +kernel
theorem dX9_time_32 : decode cX9_time 32 = .ok (.ireturn, 1) := by decide +kernel
set_option maxRecDepth 20000 in
theorem ggX9_isTime_X9_in : GoodIn wsX9_isTime wsX9_in := goodIn_r _ [4] rfl (by decide +kernel)
set_option maxRecDepth 20000 in
theorem gX9_isTime_X9_in : GoodIn wsX9_isTime (va_wsS RX9 50 yX9_in wsX9_in) := goodIn_app (goodIn_of _ (by decide +kernel)) ggX9_isTime_X9_in
theorem dX9_isTime_0 : decode cX9_isTime 0 = .ok (.iload_n 0, 1) := by decide +kernel
theorem dX9_isTime_1 : decode cX9_isTime 1 = .ok (.iconst 1, 1) := by decide +kernel
theorem dX9_isTime_2 : decode cX9_isTime 2 = .ok (.sipush 20000, 3) := by decide +kernel
theorem dX9_isTime_5 : decode cX9_isTime 5 = .ok (.invokestatic 50, 3) := by decide +kernel
theorem dX9_isTime_8 : decode cX9_isTime 8 = .ok (.ireturn, 1) := by decide +kernel
set_option maxRecDepth 20000 in
theorem ggX9_fits_X9_isTime : GoodIn wsX9_fits wsX9_isTime := goodIn_r _ [8, 9, 10, 7, 11] rfl (by decide +kernel)
set_option maxRecDepth 20000 in
theorem gX9_fits_X9_isTime : GoodIn wsX9_fits (va_wsS RX9 80 yX9_isTime wsX9_isTime) := goodIn_app (goodIn_of _ (by decide +kernel)) ggX9_fits_X9_isTime
set_option maxRecDepth 20000 in
theorem ggX9_fits_X9_get : GoodIn wsX9_fits wsX9_get := goodIn_r _ [15, 16, 17, 18, 19, 20, 21, 22, 23, 24, 25, 26, 27, 28, 29, 30, 31, 32, 33] rfl (by decide +kernel)
set_option maxRecDepth 20000 in
theorem gX9_fits_X9_get : GoodIn wsX9_fits (wsV RX9 58 RX9 yX9_get wsX9_get) := goodIn_app (goodIn_of _ (by decide +kernel)) ggX9_fits_X9_get
theorem dX9_fits_0 : decode cX9_fits 0 = .ok (.iload_n 2, 1) := by decide +kernel
theorem dX9_fits_1 : decode cX9_fits 1 = .ok (.invokestatic 80, 3) := by decide +kernel
theorem dX9_fits_4 : decode cX9_fits 4 = .ok (.ifCond .eq 28, 3) := by decide +kernel
theorem dX9_fits_7 : decode cX9_fits 7 = .ok (.iload_n 2, 1) := by decide +kernel
theorem dX9_fits_8 : decode cX9_fits 8 = .ok (.iload_n 3, 1) := by decide +kernel
theorem dX9_fits_9 : decode cX9_fits 9 = .ok (.isub, 1) := by decide +kernel
theorem dX9_fits_10 : decode cX9_fits 10 = .ok (.invokestatic 83, 3) := by decide +kernel
theorem dX9_fits_13 : decode cX9_fits 13 = .ok (.bipush 100, 2) := by decide +kernel
theorem dX9_fits_15 : decode cX9_fits 15 = .ok (.imul, 1) := by decide +kernel
theorem dX9_fits_16 : decode cX9_fits 16 = .ok (.aload_n 0, 1) := by decide +kernel
theorem dX9_fits_17 : decode cX9_fits 17 = .ok (.iload_n 1, 1) := by decide +kernel
theorem dX9_fits_18 : decode cX9_fits 18 = .ok (.bipush 7, 2) := by decide +kernel
theorem dX9_fits_20 : decode cX9_fits 20 = .ok (.invokevirtual 58, 3) := by decide +kernel
theorem dX9_fits_23 : decode cX9_fits 23 = .ok (.iload_n 3, 1) := by decide +kernel
theorem dX9_fits_24 : decode cX9_fits 24 = .ok (.imul, 1) := by decide +kernel
theorem dX9_fits_25 : decode cX9_fits 25 = .ok (.if_icmp .gt 7, 3) := by decide +kernel
theorem dX9_fits_28 : decode cX9_fits 28 = .ok (.iconst 1, 1) := by decide +kernel
theorem dX9_fits_29 : decode cX9_fits 29 = .ok (.goto 4, 3) := by decide +kernel
theorem dX9_fits_32 : decode cX9_fits 32 = .ok (.iconst 0, 1) := by decide +kernel
theorem dX9_fits_33 : decode cX9_fits 33 = .ok (.ireturn, 1) := by decide +kernel
set_option maxRecDepth 20000 in
theorem ggX9_which_X9_fits : GoodIn wsX9_which wsX9_fits := goodIn_r _ [9, 1, 2, 3, 4, 10, 11, 8, 12, 13, 14, 15, 16, 17, 18, 19, 20, 21, 22, 23, 24, 25, 26, 27, 28, 29, 30, 31, 32, 33, 34, 35, 36, 37] rfl (by decide +kernel)
set_option maxRecDepth 20000 in
theorem gX9_which_X9_fits : GoodIn wsX9_which (wsV RX9 89 RX9 yX9_fits wsX9_fits) := goodIn_app (goodIn_of _ (by decide +kernel)) ggX9_which_X9_fits
theorem dX9_which_0 : decode cX9_which 0 = .ok (.aload_n 0, 1) := by decide +kernel
theorem dX9_which_1 : decode cX9_which 1 = .ok (.iload_n 1, 1) := by decide +kernel
theorem dX9_which_2 : decode cX9_which 2 = .ok (.iload_n 2, 1) := by decide +kernel
theorem dX9_which_3 : decode cX9_which 3 = .ok (.iload_n 3, 1) := by decide +kernel
theorem dX9_which_4 : decode cX9_which 4 = .ok (.invokevirtual 89, 3) := by decide +kernel
theorem dX9_which_7 : decode cX9_which 7 = .ok (.istore 5, 2) := by decide +kernel
theorem dX9_which_9 : decode cX9_which 9 = .ok (.aload_n 0, 1) := by decide +kernel
theorem dX9_which_10 : decode cX9_which 10 = .ok (.iload_n 1, 1) := by decide +kernel
theorem dX9_which_11 : decode cX9_which 11 = .ok (.iload_n 2, 1) := by decide +kernel
theorem dX9_which_12 : decode cX9_which 12 = .ok (.iload 4, 2) := by decide +kernel
theorem dX9_which_14 : decode cX9_which 14 = .ok (.invokevirtual 89, 3) := by decide +kernel
theorem dX9_which_17 : decode cX9_which 17 = .ok (.istore 6, 2) := by decide +kernel
theorem dX9_which_19 : decode cX9_which 19 = .ok (.iload 5, 2) := by decide +kernel
theorem dX9_which_21 : decode cX9_which 21 = .ok (.ifCond .eq 30, 3) := by decide +kernel
theorem dX9_which_24 : decode cX9_which 24 = .ok (.iload 6, 2) := by decide +kernel
theorem dX9_which_26 : decode cX9_which 26 = .ok (.ifCond .eq 25, 3) := by decide +kernel
theorem dX9_which_29 : decode cX9_which 29 = .ok (.iload_n 2, 1) := by decide +kernel
theorem dX9_which_30 : decode cX9_which 30 = .ok (.iload 4, 2) := by decide +kernel
theorem dX9_which_32 : decode cX9_which 32 = .ok (.isub, 1) := by decide +kernel
theorem dX9_which_33 : decode cX9_which 33 = .ok (.invokestatic 83, 3) := by decide +kernel
theorem dX9_which_36 : decode cX9_which 36 = .ok (.iload_n 2, 1) := by decide +kernel
theorem dX9_which_37 : decode cX9_which 37 = .ok (.iload_n 3, 1) := by decide +kernel
theorem dX9_which_38 : decode cX9_which 38 = .ok (.isub, 1) := by decide +kernel
theorem dX9_which_39 : decode cX9_which 39 = .ok (.invokestatic 83, 3) := by decide +kernel
theorem dX9_which_42 : decode cX9_which 42 = .ok (.if_icmp .ge 7, 3) := by decide +kernel
theorem dX9_which_45 : decode cX9_which 45 = .ok (.iconst 1, 1) := by decide +kernel
theorem dX9_which_46 : decode cX9_which 46 = .ok (.goto 4, 3) := by decide +kernel
theorem dX9_which_49 : decode cX9_which 49 = .ok (.iconst 0, 1) := by decide +kernel
theorem dX9_which_50 : decode cX9_which 50 = .ok (.ireturn, 1) := by decide +kernel
theorem dX9_which_51 : decode cX9_which 51 = .ok (.iload 5, 2) := by decide +kernel
theorem dX9_which_53 : decode cX9_which 53 = .ok (.ifCond .eq 7, 3) := by decide +kernel
theorem dX9_which_56 : decode cX9_which 56 = .ok (.iconst 0, 1) := by decide +kernel
theorem dX9_which_57 : decode cX9_which 57 = .ok (.goto 13, 3) := by decide +kernel
theorem dX9_which_60 : decode cX9_which 60 = .ok (.iload 6, 2) := by decide +kernel
theorem dX9_which_62 : decode cX9_which 62 = .ok (.ifCond .eq 7, 3) := by decide +kernel
theorem dX9_which_65 : decode cX9_which 65 = .ok (.iconst 1, 1) := by decide +kernel
theorem dX9_which_66 : decode cX9_which 66 = .ok (.goto 4, 3) := by decide +kernel
theorem dX9_which_69 : decode cX9_which 69 = .ok (.iconst (-1), 1) := by decide +kernel
theorem dX9_which_70 : decode cX9_which 70 = .ok (.ireturn, 1) := by decide +kernel
theorem dX9_fault_0 : decode cX9_fault 0 = .ok (.aload_n 0, 1) := by decide +kernel
theorem dX9_fault_1 : decode cX9_fault 1 = .ok (.iload_n 1, 1) := by decide +kernel
theorem dX9_fault_2 : decode cX9_fault 2 = .ok (.putfield 92, 3) := by decide +kernel
theorem dX9_fault_5 : decode cX9_fault 5 = .ok (.iconst (-1), 1) := by decide +kernel
theorem dX9_fault_6 : decode cX9_fault 6 = .ok (.ireturn, 1) := by decide +kernel
set_option maxRecDepth 20000 in
theorem ggX9_readBits_X9_get : GoodIn wsX9_readBits wsX9_get := goodIn_r _ [7, 8, 32, 33, 34, 35, 36, 37, 38, 39, 40, 41, 42, 43, 44, 45, 46, 47, 48] rfl (by decide +kernel)
set_option maxRecDepth 20000 in
theorem gX9_readBits_X9_get : GoodIn wsX9_readBits (wsV RX9 58 RX9 yX9_get wsX9_get) := goodIn_app (goodIn_of _ (by decide +kernel)) ggX9_readBits_X9_get
set_option maxRecDepth 20000 in
theorem ggX9_readBits_X9_fault : GoodIn wsX9_readBits wsX9_fault := goodIn_r _ [12, 13, 32, 33, 34, 35, 36, 37, 38, 39, 40, 41, 42, 43, 44, 45, 46, 47, 48] rfl (by decide +kernel)
set_option maxRecDepth 20000 in
theorem gX9_readBits_X9_fault : GoodIn wsX9_readBits (wsV RX9 95 RX9 yX9_fault wsX9_fault) := goodIn_app (goodIn_of _ (by decide +kernel)) ggX9_readBits_X9_fault
set_option maxRecDepth 20000 in
theorem ggX9_readBits_X9_fits : GoodIn wsX9_readBits wsX9_fits := goodIn_r _ [17, 18, 19, 20, 21, 22, 23, 6, 24, 25, 26, 27, 3, 4, 5, 7, 8, 32, 33, 34, 35, 36, 37, 38, 39, 40, 41, 42, 43, 44, 45, 46, 47, 48] rfl (by decide +kernel)
set_option maxRecDepth 20000 in
theorem gX9_readBits_X9_fits : GoodIn wsX9_readBits (wsV RX9 89 RX9 yX9_fits wsX9_fits) := goodIn_app (goodIn_of _ (by decide +kernel)) ggX9_readBits_X9_fits
set_option maxRecDepth 20000 in
theorem ggX9_readBits_X9_which : GoodIn wsX9_readBits wsX9_which := goodIn_r _ [31, 18, 19, 20, 21, 14, 15, 16, 6, 17, 22, 23, 24, 25, 26, 27, 3, 4, 5, 7, 8, 32, 33, 34, 35, 36, 37, 38, 39, 40, 41, 42, 43, 44, 45, 46, 47, 48] rfl (by decide +kernel)
set_option maxRecDepth 20000 in
theorem gX9_readBits_X9_which : GoodIn wsX9_readBits (wsV RX9 98 RX9 yX9_which wsX9_which) := goodIn_app (goodIn_of _ (by decide +kernel)) ggX9_readBits_X9_which
theorem dX9_readBits_0 : decode cX9_readBits 0 = .ok (.aload_n 0, 1) := by decide +kernel
theorem dX9_readBits_1 : decode cX9_readBits 1 = .ok (.iload_n 1, 1) := by decide +kernel
theorem dX9_readBits_2 : decode cX9_readBits 2 = .ok (.iconst 1, 1) := by decide +kernel
theorem dX9_readBits_3 : decode cX9_readBits 3 = .ok (.invokevirtual 58, 3) := by decide +kernel
theorem dX9_readBits_6 : decode cX9_readBits 6 = .ok (.istore_n 2, 1) := by decide +kernel
theorem dX9_readBits_7 : decode cX9_readBits 7 = .ok (.aload_n 0, 1) := by decide +kernel
theorem dX9_readBits_8 : decode cX9_readBits 8 = .ok (.iload_n 1, 1) := by decide +kernel
theorem dX9_readBits_9 : decode cX9_readBits 9 = .ok (.iconst 0, 1) := by decide +kernel
theorem dX9_readBits_10 : decode cX9_readBits 10 = .ok (.invokevirtual 58, 3) := by decide +kernel
theorem dX9_readBits_13 : decode cX9_readBits 13 = .ok (.ifCond .ne 7, 3) := by decide +kernel
theorem dX9_readBits_16 : decode cX9_readBits 16 = .ok (.iconst 1, 1) := by decide +kernel
theorem dX9_readBits_17 : decode cX9_readBits 17 = .ok (.goto 4, 3) := by decide +kernel
theorem dX9_readBits_20 : decode cX9_readBits 20 = .ok (.iconst 0, 1) := by decide +kernel
theorem dX9_readBits_21 : decode cX9_readBits 21 = .ok (.istore_n 3, 1) := by decide +kernel
theorem dX9_readBits_22 : decode cX9_readBits 22 = .ok (.iload_n 3, 1) := by decide +kernel
theorem dX9_readBits_23 : decode cX9_readBits 23 = .ok (.ifCond .eq 11, 3) := by decide +kernel
theorem dX9_readBits_26 : decode cX9_readBits 26 = .ok (.iconst 2, 1) := by decide +kernel
theorem dX9_readBits_27 : decode cX9_readBits 27 = .ok (.iload_n 2, 1) := by decide +kernel
theorem dX9_readBits_28 : decode cX9_readBits 28 = .ok (.imul, 1) := by decide +kernel
theorem dX9_readBits_29 : decode cX9_readBits 29 = .ok (.iconst 3, 1) := by decide +kernel
theorem dX9_readBits_30 : decode cX9_readBits 30 = .ok (.iadd, 1) := by decide +kernel
theorem dX9_readBits_31 : decode cX9_readBits 31 = .ok (.goto 8, 3) := by decide +kernel
theorem dX9_readBits_34 : decode cX9_readBits 34 = .ok (.iconst 2, 1) := by decide +kernel
theorem dX9_readBits_35 : decode cX9_readBits 35 = .ok (.iload_n 2, 1) := by decide +kernel
theorem dX9_readBits_36 : decode cX9_readBits 36 = .ok (.imul, 1) := by decide +kernel
theorem dX9_readBits_37 : decode cX9_readBits 37 = .ok (.iconst 1, 1) := by decide +kernel
theorem dX9_readBits_38 : decode cX9_readBits 38 = .ok (.iadd, 1) := by decide +kernel
theorem dX9_readBits_39 : decode cX9_readBits 39 = .ok (.istore 4, 2) := by decide +kernel
theorem dX9_readBits_41 : decode cX9_readBits 41 = .ok (.iconst 0, 1) := by decide +kernel
theorem dX9_readBits_42 : decode cX9_readBits 42 = .ok (.istore 5, 2) := by decide +kernel
theorem dX9_readBits_44 : decode cX9_readBits 44 = .ok (.iconst 0, 1) := by decide +kernel
theorem dX9_readBits_45 : decode cX9_readBits 45 = .ok (.istore 6, 2) := by decide +kernel
theorem dX9_readBits_47 : decode cX9_readBits 47 = .ok (.iload 6, 2) := by decide +kernel
theorem dX9_readBits_49 : decode cX9_readBits 49 = .ok (.aload_n 0, 1) := by decide +kernel
theorem dX9_readBits_50 : decode cX9_readBits 50 = .ok (.getfield 62, 3) := by decide +kernel
theorem dX9_readBits_53 : decode cX9_readBits 53 = .ok (.if_icmp .ge 150, 3) := by decide +kernel
theorem dX9_readBits_56 : decode cX9_readBits 56 = .ok (.iload 6, 2) := by decide +kernel
theorem dX9_readBits_58 : decode cX9_readBits 58 = .ok (.iload 4, 2) := by decide +kernel
theorem dX9_readBits_60 : decode cX9_readBits 60 = .ok (.if_icmp .lt 10, 3) := by decide +kernel
theorem dX9_readBits_63 : decode cX9_readBits 63 = .ok (.aload_n 0, 1) := by decide +kernel
theorem dX9_readBits_64 : decode cX9_readBits 64 = .ok (.iload 6, 2) := by decide +kernel
theorem dX9_readBits_66 : decode cX9_readBits 66 = .ok (.invokevirtual 95, 3) := by decide +kernel
theorem dX9_readBits_69 : decode cX9_readBits 69 = .ok (.ireturn, 1) := by decide +kernel
theorem dX9_readBits_70 : decode cX9_readBits 70 = .ok (.aload_n 0, 1) := by decide +kernel
theorem dX9_readBits_71 : decode cX9_readBits 71 = .ok (.getfield 9, 3) := by decide +kernel
theorem dX9_readBits_74 : decode cX9_readBits 74 = .ok (.iload 6, 2) := by decide +kernel
theorem dX9_readBits_76 : decode cX9_readBits 76 = .ok (.iaload, 1) := by decide +kernel
theorem dX9_readBits_77 : decode cX9_readBits 77 = .ok (.istore 7, 2) := by decide +kernel
theorem dX9_readBits_79 : decode cX9_readBits 79 = .ok (.iload 6, 2) := by decide +kernel
theorem dX9_readBits_81 : decode cX9_readBits 81 = .ok (.iconst 2, 1) := by decide +kernel
theorem dX9_readBits_82 : decode cX9_readBits 82 = .ok (.if_icmp .ge 29, 3) := by decide +kernel
theorem dX9_readBits_85 : decode cX9_readBits 85 = .ok (.aload_n 0, 1) := by decide +kernel
theorem dX9_readBits_86 : decode cX9_readBits 86 = .ok (.iload_n 1, 1) := by decide +kernel
theorem dX9_readBits_87 : decode cX9_readBits 87 = .ok (.iload 7, 2) := by decide +kernel
theorem dX9_readBits_89 : decode cX9_readBits 89 = .ok (.aload_n 0, 1) := by decide +kernel
theorem dX9_readBits_90 : decode cX9_readBits 90 = .ok (.iload_n 1, 1) := by decide +kernel
theorem dX9_readBits_91 : decode cX9_readBits 91 = .ok (.iconst 2, 1) := by decide +kernel
theorem dX9_readBits_92 : decode cX9_readBits 92 = .ok (.iload 6, 2) := by decide +kernel
theorem dX9_readBits_94 : decode cX9_readBits 94 = .ok (.iadd, 1) := by decide +kernel
theorem dX9_readBits_95 : decode cX9_readBits 95 = .ok (.invokevirtual 58, 3) := by decide +kernel
theorem dX9_readBits_98 : decode cX9_readBits 98 = .ok (.invokevirtual 89, 3) := by decide +kernel
theorem dX9_readBits_101 : decode cX9_readBits 101 = .ok (.ifCond .ne 96, 3) := by decide +kernel
theorem dX9_readBits_104 : decode cX9_readBits 104 = .ok (.aload_n 0, 1) := by decide +kernel
theorem dX9_readBits_105 : decode cX9_readBits 105 = .ok (.iload 6, 2) := by decide +kernel
theorem dX9_readBits_107 : decode cX9_readBits 107 = .ok (.invokevirtual 95, 3) := by decide +kernel
theorem dX9_readBits_110 : decode cX9_readBits 110 = .ok (.ireturn, 1) := by decide +kernel
theorem dX9_readBits_111 : decode cX9_readBits 111 = .ok (.iload 6, 2) := by decide +kernel
theorem dX9_readBits_113 : decode cX9_readBits 113 = .ok (.iconst 2, 1) := by decide +kernel
theorem dX9_readBits_114 : decode cX9_readBits 114 = .ok (.irem, 1) := by decide +kernel
theorem dX9_readBits_115 : decode cX9_readBits 115 = .ok (.iload_n 3, 1) := by decide +kernel
theorem dX9_readBits_116 : decode cX9_readBits 116 = .ok (.ifCond .eq 7, 3) := by decide +kernel
theorem dX9_readBits_119 : decode cX9_readBits 119 = .ok (.iconst 1, 1) := by decide +kernel
theorem dX9_readBits_120 : decode cX9_readBits 120 = .ok (.goto 4, 3) := by decide +kernel
theorem dX9_readBits_123 : decode cX9_readBits 123 = .ok (.iconst 0, 1) := by decide +kernel
theorem dX9_readBits_124 : decode cX9_readBits 124 = .ok (.if_icmp .ne 50, 3) := by decide +kernel
theorem dX9_readBits_127 : decode cX9_readBits 127 = .ok (.aload_n 0, 1) := by decide +kernel
theorem dX9_readBits_128 : decode cX9_readBits 128 = .ok (.iload_n 1, 1) := by decide +kernel
theorem dX9_readBits_129 : decode cX9_readBits 129 = .ok (.iload 7, 2) := by decide +kernel
theorem dX9_readBits_131 : decode cX9_readBits 131 = .ok (.aload_n 0, 1) := by decide +kernel
theorem dX9_readBits_132 : decode cX9_readBits 132 = .ok (.iload_n 1, 1) := by decide +kernel
theorem dX9_readBits_133 : decode cX9_readBits 133 = .ok (.iconst 5, 1) := by decide +kernel
theorem dX9_readBits_134 : decode cX9_readBits 134 = .ok (.invokevirtual 58, 3) := by decide +kernel
theorem dX9_readBits_137 : decode cX9_readBits 137 = .ok (.aload_n 0, 1) := by decide +kernel
theorem dX9_readBits_138 : decode cX9_readBits 138 = .ok (.iload_n 1, 1) := by decide +kernel
theorem dX9_readBits_139 : decode cX9_readBits 139 = .ok (.bipush 6, 2) := by decide +kernel
theorem dX9_readBits_141 : decode cX9_readBits 141 = .ok (.invokevirtual 58, 3) := by decide +kernel
theorem dX9_readBits_144 : decode cX9_readBits 144 = .ok (.invokevirtual 98, 3) := by decide +kernel
theorem dX9_readBits_147 : decode cX9_readBits 147 = .ok (.istore 8, 2) := by decide +kernel
theorem dX9_readBits_149 : decode cX9_readBits 149 = .ok (.iload 8, 2) := by decide +kernel
theorem dX9_readBits_151 : decode cX9_readBits 151 = .ok (.iconst (-1), 1) := by decide +kernel
theorem dX9_readBits_152 : decode cX9_readBits 152 = .ok (.if_icmp .ne 10, 3) := by decide +kernel
theorem dX9_readBits_155 : decode cX9_readBits 155 = .ok (.aload_n 0, 1) := by decide +kernel
theorem dX9_readBits_156 : decode cX9_readBits 156 = .ok (.iload 6, 2) := by decide +kernel
theorem dX9_readBits_158 : decode cX9_readBits 158 = .ok (.invokevirtual 95, 3) := by decide +kernel
theorem dX9_readBits_161 : decode cX9_readBits 161 = .ok (.ireturn, 1) := by decide +kernel
theorem dX9_readBits_162 : decode cX9_readBits 162 = .ok (.iconst 2, 1) := by decide +kernel
theorem dX9_readBits_163 : decode cX9_readBits 163 = .ok (.iload 5, 2) := by decide +kernel
theorem dX9_readBits_165 : decode cX9_readBits 165 = .ok (.imul, 1) := by decide +kernel
theorem dX9_readBits_166 : decode cX9_readBits 166 = .ok (.iload 8, 2) := by decide +kernel
theorem dX9_readBits_168 : decode cX9_readBits 168 = .ok (.iadd, 1) := by decide +kernel
theorem dX9_readBits_169 : decode cX9_readBits 169 = .ok (.istore 5, 2) := by decide +kernel
theorem dX9_readBits_171 : decode cX9_readBits 171 = .ok (.goto 26, 3) := by decide +kernel
theorem dX9_readBits_174 : decode cX9_readBits 174 = .ok (.aload_n 0, 1) := by decide +kernel
theorem dX9_readBits_175 : decode cX9_readBits 175 = .ok (.iload_n 1, 1) := by decide +kernel
theorem dX9_readBits_176 : decode cX9_readBits 176 = .ok (.iload 7, 2) := by decide +kernel
theorem dX9_readBits_178 : decode cX9_readBits 178 = .ok (.aload_n 0, 1) := by decide +kernel
theorem dX9_readBits_179 : decode cX9_readBits 179 = .ok (.iload_n 1, 1) := by decide +kernel
theorem dX9_readBits_180 : decode cX9_readBits 180 = .ok (.iconst 4, 1) := by decide +kernel
theorem dX9_readBits_181 : decode cX9_readBits 181 = .ok (.invokevirtual 58, 3) := by decide +kernel
theorem dX9_readBits_184 : decode cX9_readBits 184 = .ok (.invokevirtual 89, 3) := by decide +kernel
theorem dX9_readBits_187 : decode cX9_readBits 187 = .ok (.ifCond .ne 10, 3) := by decide +kernel
theorem dX9_readBits_190 : decode cX9_readBits 190 = .ok (.aload_n 0, 1) := by decide +kernel
theorem dX9_readBits_191 : decode cX9_readBits 191 = .ok (.iload 6, 2) := by decide +kernel
theorem dX9_readBits_193 : decode cX9_readBits 193 = .ok (.invokevirtual 95, 3) := by decide +kernel
theorem dX9_readBits_196 : decode cX9_readBits 196 = .ok (.ireturn, 1) := by decide +kernel
theorem dX9_readBits_197 : decode cX9_readBits 197 = .ok (.iinc 6 1, 3) := by decide +kernel
theorem dX9_readBits_200 : decode cX9_readBits 200 = .ok (.goto (-153), 3) := by decide +kernel
theorem dX9_readBits_203 : decode cX9_readBits 203 = .ok (.aload_n 0, 1) := by decide +kernel
theorem dX9_readBits_204 : decode cX9_readBits 204 = .ok (.getfield 62, 3) := by decide +kernel
theorem dX9_readBits_207 : decode cX9_readBits 207 = .ok (.iload 4, 2) := by decide +kernel
theorem dX9_readBits_209 : decode cX9_readBits 209 = .ok (.if_icmp .ge 14, 3) := by decide +kernel
theorem dX9_readBits_212 : decode cX9_readBits 212 = .ok (.aload_n 0, 1) := by decide +kernel
theorem dX9_readBits_213 : decode cX9_readBits 213 = .ok (.aload_n 0, 1) := by decide +kernel
theorem dX9_readBits_214 : decode cX9_readBits 214 = .ok (.getfield 62, 3) := by decide +kernel
theorem dX9_readBits_217 : decode cX9_readBits 217 = .ok (.invokevirtual 95, 3) := by decide +kernel
theorem dX9_readBits_220 : decode cX9_readBits 220 = .ok (.goto 5, 3) := by decide +kernel
theorem dX9_readBits_223 : decode cX9_readBits 223 = .ok (.iload 5, 2) := by decide +kernel
theorem dX9_readBits_225 : decode cX9_readBits 225 = .ok (.ireturn, 1) := by decide +kernel
set_option maxRecDepth 20000 in
theorem ggX9_readHalves_X9_get : GoodIn wsX9_readHalves wsX9_get := goodIn_r _ [7, 8, 32, 33, 34, 35, 36, 37, 38, 39, 40, 41, 42, 43, 44, 45, 46, 47, 48] rfl (by decide +kernel)
set_option maxRecDepth 20000 in
theorem gX9_readHalves_X9_get : GoodIn wsX9_readHalves (wsV RX9 58 RX9 yX9_get wsX9_get) := goodIn_app (goodIn_of _ (by decide +kernel)) ggX9_readHalves_X9_get
set_option maxRecDepth 20000 in
theorem ggX9_readHalves_X9_which : GoodIn wsX9_readHalves wsX9_which := goodIn_r _ [12, 13, 14, 15, 16, 17, 18, 19, 6, 20, 21, 22, 23, 24, 25, 26, 3, 4, 5, 7, 8, 32, 33, 34, 35, 36, 37, 38, 39, 40, 41, 42, 43, 44, 45, 46, 47, 48] rfl (by decide +kernel)
set_option maxRecDepth 20000 in
theorem gX9_readHalves_X9_which : GoodIn wsX9_readHalves (wsV RX9 98 RX9 yX9_which wsX9_which) := goodIn_app (goodIn_of _ (by decide +kernel)) ggX9_readHalves_X9_which
set_option maxRecDepth 20000 in
theorem ggX9_readHalves_X9_fault : GoodIn wsX9_readHalves wsX9_fault := goodIn_r _ [30, 31, 32, 33, 34, 35, 36, 37, 38, 39, 40, 41, 42, 43, 44, 45, 46, 47, 48] rfl (by decide +kernel)
set_option maxRecDepth 20000 in
theorem gX9_readHalves_X9_fault : GoodIn wsX9_readHalves (wsV RX9 95 RX9 yX9_fault wsX9_fault) := goodIn_app (goodIn_of _ (by decide +kernel)) ggX9_readHalves_X9_fault
theorem dX9_readHalves_0 : decode cX9_readHalves 0 = .ok (.aload_n 0, 1) := by decide +kernel
theorem dX9_readHalves_1 : decode cX9_readHalves 1 = .ok (.iload_n 1, 1) := by decide +kernel
theorem dX9_readHalves_2 : decode cX9_readHalves 2 = .ok (.iconst 1, 1) := by decide +kernel
theorem dX9_readHalves_3 : decode cX9_readHalves 3 = .ok (.invokevirtual 58, 3) := by decide +kernel
theorem dX9_readHalves_6 : decode cX9_readHalves 6 = .ok (.istore_n 2, 1) := by decide +kernel
theorem dX9_readHalves_7 : decode cX9_readHalves 7 = .ok (.aload_n 0, 1) := by decide +kernel
theorem dX9_readHalves_8 : decode cX9_readHalves 8 = .ok (.iload_n 1, 1) := by decide +kernel
theorem dX9_readHalves_9 : decode cX9_readHalves 9 = .ok (.iconst 4, 1) := by decide +kernel
theorem dX9_readHalves_10 : decode cX9_readHalves 10 = .ok (.invokevirtual 58, 3) := by decide +kernel
theorem dX9_readHalves_13 : decode cX9_readHalves 13 = .ok (.istore_n 3, 1) := by decide +kernel
theorem dX9_readHalves_14 : decode cX9_readHalves 14 = .ok (.iconst 0, 1) := by decide +kernel
theorem dX9_readHalves_15 : decode cX9_readHalves 15 = .ok (.istore 4, 2) := by decide +kernel
theorem dX9_readHalves_17 : decode cX9_readHalves 17 = .ok (.iconst 0, 1) := by decide +kernel
theorem dX9_readHalves_18 : decode cX9_readHalves 18 = .ok (.istore 5, 2) := by decide +kernel
theorem dX9_readHalves_20 : decode cX9_readHalves 20 = .ok (.iconst 1, 1) := by decide +kernel
theorem dX9_readHalves_21 : decode cX9_readHalves 21 = .ok (.istore 6, 2) := by decide +kernel
theorem dX9_readHalves_23 : decode cX9_readHalves 23 = .ok (.iconst 0, 1) := by decide +kernel
theorem dX9_readHalves_24 : decode cX9_readHalves 24 = .ok (.istore 7, 2) := by decide +kernel
theorem dX9_readHalves_26 : decode cX9_readHalves 26 = .ok (.iload 7, 2) := by decide +kernel
theorem dX9_readHalves_28 : decode cX9_readHalves 28 = .ok (.aload_n 0, 1) := by decide +kernel
theorem dX9_readHalves_29 : decode cX9_readHalves 29 = .ok (.getfield 62, 3) := by decide +kernel
theorem dX9_readHalves_32 : decode cX9_readHalves 32 = .ok (.if_icmp .ge 145, 3) := by decide +kernel
theorem dX9_readHalves_35 : decode cX9_readHalves 35 = .ok (.iconst 1, 1) := by decide +kernel
theorem dX9_readHalves_36 : decode cX9_readHalves 36 = .ok (.aload_n 0, 1) := by decide +kernel
theorem dX9_readHalves_37 : decode cX9_readHalves 37 = .ok (.iload_n 1, 1) := by decide +kernel
theorem dX9_readHalves_38 : decode cX9_readHalves 38 = .ok (.aload_n 0, 1) := by decide +kernel
theorem dX9_readHalves_39 : decode cX9_readHalves 39 = .ok (.getfield 9, 3) := by decide +kernel
theorem dX9_readHalves_42 : decode cX9_readHalves 42 = .ok (.iload 7, 2) := by decide +kernel
theorem dX9_readHalves_44 : decode cX9_readHalves 44 = .ok (.iaload, 1) := by decide +kernel
theorem dX9_readHalves_45 : decode cX9_readHalves 45 = .ok (.iload_n 3, 1) := by decide +kernel
theorem dX9_readHalves_46 : decode cX9_readHalves 46 = .ok (.iconst 2, 1) := by decide +kernel
theorem dX9_readHalves_47 : decode cX9_readHalves 47 = .ok (.iload_n 3, 1) := by decide +kernel
theorem dX9_readHalves_48 : decode cX9_readHalves 48 = .ok (.imul, 1) := by decide +kernel
theorem dX9_readHalves_49 : decode cX9_readHalves 49 = .ok (.invokevirtual 98, 3) := by decide +kernel
theorem dX9_readHalves_52 : decode cX9_readHalves 52 = .ok (.iadd, 1) := by decide +kernel
theorem dX9_readHalves_53 : decode cX9_readHalves 53 = .ok (.istore 8, 2) := by decide +kernel
theorem dX9_readHalves_55 : decode cX9_readHalves 55 = .ok (.iload 8, 2) := by decide +kernel
theorem dX9_readHalves_57 : decode cX9_readHalves 57 = .ok (.ifCond .ne 10, 3) := by decide +kernel
theorem dX9_readHalves_60 : decode cX9_readHalves 60 = .ok (.aload_n 0, 1) := by decide +kernel
theorem dX9_readHalves_61 : decode cX9_readHalves 61 = .ok (.iload 7, 2) := by decide +kernel
theorem dX9_readHalves_63 : decode cX9_readHalves 63 = .ok (.invokevirtual 95, 3) := by decide +kernel
theorem dX9_readHalves_66 : decode cX9_readHalves 66 = .ok (.ireturn, 1) := by decide +kernel
theorem dX9_readHalves_67 : decode cX9_readHalves 67 = .ok (.iload 7, 2) := by decide +kernel
theorem dX9_readHalves_69 : decode cX9_readHalves 69 = .ok (.iconst 2, 1) := by decide +kernel
theorem dX9_readHalves_70 : decode cX9_readHalves 70 = .ok (.irem, 1) := by decide +kernel
theorem dX9_readHalves_71 : decode cX9_readHalves 71 = .ok (.ifCond .ne 7, 3) := by decide +kernel
theorem dX9_readHalves_74 : decode cX9_readHalves 74 = .ok (.iconst 1, 1) := by decide +kernel
theorem dX9_readHalves_75 : decode cX9_readHalves 75 = .ok (.goto 4, 3) := by decide +kernel
theorem dX9_readHalves_78 : decode cX9_readHalves 78 = .ok (.iconst 0, 1) := by decide +kernel
theorem dX9_readHalves_79 : decode cX9_readHalves 79 = .ok (.istore 9, 2) := by decide +kernel
theorem dX9_readHalves_81 : decode cX9_readHalves 81 = .ok (.iconst 0, 1) := by decide +kernel
theorem dX9_readHalves_82 : decode cX9_readHalves 82 = .ok (.istore 10, 2) := by decide +kernel
theorem dX9_readHalves_84 : decode cX9_readHalves 84 = .ok (.iload 10, 2) := by decide +kernel
theorem dX9_readHalves_86 : decode cX9_readHalves 86 = .ok (.iload 8, 2) := by decide +kernel
theorem dX9_readHalves_88 : decode cX9_readHalves 88 = .ok (.if_icmp .ge 83, 3) := by decide +kernel
theorem dX9_readHalves_91 : decode cX9_readHalves 91 = .ok (.iload 4, 2) := by decide +kernel
theorem dX9_readHalves_93 : decode cX9_readHalves 93 = .ok (.iconst 2, 1) := by decide +kernel
theorem dX9_readHalves_94 : decode cX9_readHalves 94 = .ok (.iload_n 2, 1) := by decide +kernel
theorem dX9_readHalves_95 : decode cX9_readHalves 95 = .ok (.imul, 1) := by decide +kernel
theorem dX9_readHalves_96 : decode cX9_readHalves 96 = .ok (.if_icmp .le 10, 3) := by decide +kernel
theorem dX9_readHalves_99 : decode cX9_readHalves 99 = .ok (.aload_n 0, 1) := by decide +kernel
theorem dX9_readHalves_100 : decode cX9_readHalves 100 = .ok (.iload 7, 2) := by decide +kernel
theorem dX9_readHalves_102 : decode cX9_readHalves 102 = .ok (.invokevirtual 95, 3) := by decide +kernel
theorem dX9_readHalves_105 : decode cX9_readHalves 105 = .ok (.ireturn, 1) := by decide +kernel
theorem dX9_readHalves_106 : decode cX9_readHalves 106 = .ok (.iload 4, 2) := by decide +kernel
theorem dX9_readHalves_108 : decode cX9_readHalves 108 = .ok (.ifCond .le 35, 3) := by decide +kernel
theorem dX9_readHalves_111 : decode cX9_readHalves 111 = .ok (.iload 4, 2) := by decide +kernel
theorem dX9_readHalves_113 : decode cX9_readHalves 113 = .ok (.iconst 2, 1) := by decide +kernel
theorem dX9_readHalves_114 : decode cX9_readHalves 114 = .ok (.irem, 1) := by decide +kernel
theorem dX9_readHalves_115 : decode cX9_readHalves 115 = .ok (.iconst 1, 1) := by decide +kernel
theorem dX9_readHalves_116 : decode cX9_readHalves 116 = .ok (.if_icmp .ne 27, 3) := by decide +kernel
theorem dX9_readHalves_119 : decode cX9_readHalves 119 = .ok (.iload 9, 2) := by decide +kernel
theorem dX9_readHalves_121 : decode cX9_readHalves 121 = .ok (.istore 6, 2) := by decide +kernel
theorem dX9_readHalves_123 : decode cX9_readHalves 123 = .ok (.iconst 2, 1) := by decide +kernel
theorem dX9_readHalves_124 : decode cX9_readHalves 124 = .ok (.iload 5, 2) := by decide +kernel
theorem dX9_readHalves_126 : decode cX9_readHalves 126 = .ok (.imul, 1) := by decide +kernel
theorem dX9_readHalves_127 : decode cX9_readHalves 127 = .ok (.iload 9, 2) := by decide +kernel
theorem dX9_readHalves_129 : decode cX9_readHalves 129 = .ok (.ifCond .eq 7, 3) := by decide +kernel
theorem dX9_readHalves_132 : decode cX9_readHalves 132 = .ok (.iconst 0, 1) := by decide +kernel
theorem dX9_readHalves_133 : decode cX9_readHalves 133 = .ok (.goto 4, 3) := by decide +kernel
theorem dX9_readHalves_136 : decode cX9_readHalves 136 = .ok (.iconst 1, 1) := by decide +kernel
theorem dX9_readHalves_137 : decode cX9_readHalves 137 = .ok (.iadd, 1) := by decide +kernel
theorem dX9_readHalves_138 : decode cX9_readHalves 138 = .ok (.istore 5, 2) := by decide +kernel
theorem dX9_readHalves_140 : decode cX9_readHalves 140 = .ok (.goto 22, 3) := by decide +kernel
theorem dX9_readHalves_143 : decode cX9_readHalves 143 = .ok (.iload 4, 2) := by decide +kernel
theorem dX9_readHalves_145 : decode cX9_readHalves 145 = .ok (.ifCond .le 17, 3) := by decide +kernel
theorem dX9_readHalves_148 : decode cX9_readHalves 148 = .ok (.iload 6, 2) := by decide +kernel
theorem dX9_readHalves_150 : decode cX9_readHalves 150 = .ok (.iload 9, 2) := by decide +kernel
theorem dX9_readHalves_152 : decode cX9_readHalves 152 = .ok (.if_icmp .ne 10, 3) := by decide +kernel
theorem dX9_readHalves_155 : decode cX9_readHalves 155 = .ok (.aload_n 0, 1) := by decide +kernel
theorem dX9_readHalves_156 : decode cX9_readHalves 156 = .ok (.iload 7, 2) := by decide +kernel
theorem dX9_readHalves_158 : decode cX9_readHalves 158 = .ok (.invokevirtual 95, 3) := by decide +kernel
theorem dX9_readHalves_161 : decode cX9_readHalves 161 = .ok (.ireturn, 1) := by decide +kernel
theorem dX9_readHalves_162 : decode cX9_readHalves 162 = .ok (.iinc 4 1, 3) := by decide +kernel
theorem dX9_readHalves_165 : decode cX9_readHalves 165 = .ok (.iinc 10 1, 3) := by decide +kernel
theorem dX9_readHalves_168 : decode cX9_readHalves 168 = .ok (.goto (-84), 3) := by decide +kernel
theorem dX9_readHalves_171 : decode cX9_readHalves 171 = .ok (.iinc 7 1, 3) := by decide +kernel
theorem dX9_readHalves_174 : decode cX9_readHalves 174 = .ok (.goto (-148), 3) := by decide +kernel
theorem dX9_readHalves_177 : decode cX9_readHalves 177 = .ok (.iload 4, 2) := by decide +kernel
theorem dX9_readHalves_179 : decode cX9_readHalves 179 = .ok (.iconst 2, 1) := by decide +kernel
theorem dX9_readHalves_180 : decode cX9_readHalves 180 = .ok (.iload_n 2, 1) := by decide +kernel
theorem dX9_readHalves_181 : decode cX9_readHalves 181 = .ok (.imul, 1) := by decide +kernel
theorem dX9_readHalves_182 : decode cX9_readHalves 182 = .ok (.iconst 1, 1) := by decide +kernel
theorem dX9_readHalves_183 : decode cX9_readHalves 183 = .ok (.iadd, 1) := by decide +kernel
theorem dX9_readHalves_184 : decode cX9_readHalves 184 = .ok (.if_icmp .eq 16, 3) := by decide +kernel
theorem dX9_readHalves_187 : decode cX9_readHalves 187 = .ok (.iload 4, 2) := by decide +kernel
theorem dX9_readHalves_189 : decode cX9_readHalves 189 = .ok (.iconst 2, 1) := by decide +kernel
theorem dX9_readHalves_190 : decode cX9_readHalves 190 = .ok (.iload_n 2, 1) := by decide +kernel
theorem dX9_readHalves_191 : decode cX9_readHalves 191 = .ok (.imul, 1) := by decide +kernel
theorem dX9_readHalves_192 : decode cX9_readHalves 192 = .ok (.if_icmp .ne 12, 3) := by decide +kernel
theorem dX9_readHalves_195 : decode cX9_readHalves 195 = .ok (.iload 6, 2) := by decide +kernel
theorem dX9_readHalves_197 : decode cX9_readHalves 197 = .ok (.ifCond .eq 7, 3) := by decide +kernel
theorem dX9_readHalves_200 : decode cX9_readHalves 200 = .ok (.iconst 1, 1) := by decide +kernel
theorem dX9_readHalves_201 : decode cX9_readHalves 201 = .ok (.goto 4, 3) := by decide +kernel
theorem dX9_readHalves_204 : decode cX9_readHalves 204 = .ok (.iconst 0, 1) := by decide +kernel
theorem dX9_readHalves_205 : decode cX9_readHalves 205 = .ok (.istore 7, 2) := by decide +kernel
theorem dX9_readHalves_207 : decode cX9_readHalves 207 = .ok (.iload 7, 2) := by decide +kernel
theorem dX9_readHalves_209 : decode cX9_readHalves 209 = .ok (.ifCond .eq 8, 3) := by decide +kernel
theorem dX9_readHalves_212 : decode cX9_readHalves 212 = .ok (.iload 5, 2) := by decide +kernel
theorem dX9_readHalves_214 : decode cX9_readHalves 214 = .ok (.goto 11, 3) := by decide +kernel
theorem dX9_readHalves_217 : decode cX9_readHalves 217 = .ok (.aload_n 0, 1) := by decide +kernel
theorem dX9_readHalves_218 : decode cX9_readHalves 218 = .ok (.aload_n 0, 1) := by decide +kernel
theorem dX9_readHalves_219 : decode cX9_readHalves 219 = .ok (.getfield 62, 3) := by decide +kernel
theorem dX9_readHalves_222 : decode cX9_readHalves 222 = .ok (.invokevirtual 95, 3) := by decide +kernel
theorem dX9_readHalves_225 : decode cX9_readHalves 225 = .ok (.ireturn, 1) := by decide +kernel
set_option maxRecDepth 20000 in
theorem ggX9_readBy_X9_get : GoodIn wsX9_readBy wsX9_get := goodIn_r _ [5, 6, 40, 41, 42, 43, 44, 45, 46, 47, 48, 49, 50, 51, 52, 53, 54, 55, 56] rfl (by decide +kernel)
set_option maxRecDepth 20000 in
theorem gX9_readBy_X9_get : GoodIn wsX9_readBy (wsV RX9 58 RX9 yX9_get wsX9_get) := goodIn_app (goodIn_of _ (by decide +kernel)) ggX9_readBy_X9_get
set_option maxRecDepth 20000 in
theorem ggX9_readBy_X9_readHalves : GoodIn wsX9_readBy wsX9_readHalves := goodIn_r _ [10, 11, 12, 1, 2, 3, 4, 5, 6, 13, 14, 15, 16, 17, 18, 19, 20, 21, 22, 23, 24, 25, 26, 27, 28, 29, 30, 31, 32, 33, 34, 35, 40, 41, 42, 43, 44, 45, 46, 47, 48, 49, 50, 51, 52, 53, 54, 55, 56] rfl (by decide +kernel)
set_option maxRecDepth 20000 in
theorem gX9_readBy_X9_readHalves : GoodIn wsX9_readBy (wsV RX9 102 RX9 yX9_readHalves wsX9_readHalves) := goodIn_app (goodIn_of _ (by decide +kernel)) ggX9_readBy_X9_readHalves
set_option maxRecDepth 20000 in
theorem ggX9_readBy_X9_readBits : GoodIn wsX9_readBy wsX9_readBits := goodIn_r _ [39, 11, 12, 1, 2, 3, 4, 5, 6, 31, 32, 33, 34, 35, 21, 22, 23, 24, 17, 18, 19, 20, 25, 26, 27, 28, 29, 30, 13, 14, 15, 16, 40, 41, 42, 43, 44, 45, 46, 47, 48, 49, 50, 51, 52, 53, 54, 55, 56] rfl (by decide +kernel)
set_option maxRecDepth 20000 in
theorem gX9_readBy_X9_readBits : GoodIn wsX9_readBy (wsV RX9 105 RX9 yX9_readBits wsX9_readBits) := goodIn_app (goodIn_of _ (by decide +kernel)) ggX9_readBy_X9_readBits
theorem dX9_readBy_0 : decode cX9_readBy 0 = .ok (.aload_n 0, 1) := by decide +kernel
theorem dX9_readBy_1 : decode cX9_readBy 1 = .ok (.iload_n 1, 1) := by decide +kernel
theorem dX9_readBy_2 : decode cX9_readBy 2 = .ok (.iconst 0, 1) := by decide +kernel
theorem dX9_readBy_3 : decode cX9_readBy 3 = .ok (.invokevirtual 58, 3) := by decide +kernel
theorem dX9_readBy_6 : decode cX9_readBy 6 = .ok (.iconst 2, 1) := by decide +kernel
theorem dX9_readBy_7 : decode cX9_readBy 7 = .ok (.if_icmp .ne 11, 3) := by decide +kernel
theorem dX9_readBy_10 : decode cX9_readBy 10 = .ok (.aload_n 0, 1) := by decide +kernel
theorem dX9_readBy_11 : decode cX9_readBy 11 = .ok (.iload_n 1, 1) := by decide +kernel
theorem dX9_readBy_12 : decode cX9_readBy 12 = .ok (.invokevirtual 102, 3) := by decide +kernel
theorem dX9_readBy_15 : decode cX9_readBy 15 = .ok (.goto 8, 3) := by decide +kernel
theorem dX9_readBy_18 : decode cX9_readBy 18 = .ok (.aload_n 0, 1) := by decide +kernel
theorem dX9_readBy_19 : decode cX9_readBy 19 = .ok (.iload_n 1, 1) := by decide +kernel
theorem dX9_readBy_20 : decode cX9_readBy 20 = .ok (.invokevirtual 105, 3) := by decide +kernel
theorem dX9_readBy_23 : decode cX9_readBy 23 = .ok (.ireturn, 1) := by decide +kernel
set_option maxRecDepth 20000 in
theorem ggX9_read_X9_isMake : GoodIn wsX9_read wsX9_isMake := goodIn_r _ [7, 8, 9, 10, 6, 11, 50, 51, 52, 53, 54, 55, 56, 57, 58, 59, 60, 61, 62, 63, 64, 65, 66] rfl (by decide +kernel)
set_option maxRecDepth 20000 in
theorem gX9_read_X9_isMake : GoodIn wsX9_read (wsV RX9 54 RX9 yX9_isMake wsX9_isMake) := goodIn_app (goodIn_of _ (by decide +kernel)) ggX9_read_X9_isMake
set_option maxRecDepth 20000 in
theorem ggX9_read_X9_readBy : GoodIn wsX9_read wsX9_readBy := goodIn_r _ [15, 16, 17, 18, 6, 19, 20, 21, 22, 23, 24, 25, 26, 27, 28, 29, 30, 31, 32, 33, 34, 35, 36, 37, 38, 39, 40, 41, 9, 10, 11, 42, 43, 44, 45, 2, 46, 47, 48, 49, 50, 51, 52, 53, 54, 55, 56, 57, 58, 59, 60, 61, 62, 63, 64, 65, 66] rfl (by decide +kernel)
set_option maxRecDepth 20000 in
theorem gX9_read_X9_readBy : GoodIn wsX9_read (wsV RX9 108 RX9 yX9_readBy wsX9_readBy) := goodIn_app (goodIn_of _ (by decide +kernel)) ggX9_read_X9_readBy
theorem dX9_read_0 : decode cX9_read 0 = .ok (.aload_n 0, 1) := by decide +kernel
theorem dX9_read_1 : decode cX9_read 1 = .ok (.iconst 0, 1) := by decide +kernel
theorem dX9_read_2 : decode cX9_read 2 = .ok (.putfield 43, 3) := by decide +kernel
theorem dX9_read_5 : decode cX9_read 5 = .ok (.aload_n 0, 1) := by decide +kernel
theorem dX9_read_6 : decode cX9_read 6 = .ok (.iload_n 1, 1) := by decide +kernel
theorem dX9_read_7 : decode cX9_read 7 = .ok (.invokevirtual 54, 3) := by decide +kernel
theorem dX9_read_10 : decode cX9_read 10 = .ok (.ifCond .ne 5, 3) := by decide +kernel
theorem dX9_read_13 : decode cX9_read 13 = .ok (.iconst (-1), 1) := by decide +kernel
theorem dX9_read_14 : decode cX9_read 14 = .ok (.ireturn, 1) := by decide +kernel
theorem dX9_read_15 : decode cX9_read 15 = .ok (.aload_n 0, 1) := by decide +kernel
theorem dX9_read_16 : decode cX9_read 16 = .ok (.iload_n 1, 1) := by decide +kernel
theorem dX9_read_17 : decode cX9_read 17 = .ok (.invokevirtual 108, 3) := by decide +kernel
theorem dX9_read_20 : decode cX9_read 20 = .ok (.istore_n 2, 1) := by decide +kernel
theorem dX9_read_21 : decode cX9_read 21 = .ok (.iload_n 2, 1) := by decide +kernel
theorem dX9_read_22 : decode cX9_read 22 = .ok (.iconst (-1), 1) := by decide +kernel
theorem dX9_read_23 : decode cX9_read 23 = .ok (.if_icmp .ne 13, 3) := by decide +kernel
theorem dX9_read_26 : decode cX9_read 26 = .ok (.bipush (-2), 2) := by decide +kernel
theorem dX9_read_28 : decode cX9_read 28 = .ok (.aload_n 0, 1) := by decide +kernel
theorem dX9_read_29 : decode cX9_read 29 = .ok (.getfield 92, 3) := by decide +kernel
theorem dX9_read_32 : decode cX9_read 32 = .ok (.isub, 1) := by decide +kernel
theorem dX9_read_33 : decode cX9_read 33 = .ok (.goto 4, 3) := by decide +kernel
theorem dX9_read_36 : decode cX9_read 36 = .ok (.iload_n 2, 1) := by decide +kernel
theorem dX9_read_37 : decode cX9_read 37 = .ok (.ireturn, 1) := by decide +kernel
set_option maxRecDepth 20000 in
theorem ggX9_which__X9_readBy : GoodIn wsX9_which_ wsX9_readBy := goodIn_r _ [7, 8, 9, 10, 6, 11, 12, 13, 14, 15, 16, 17, 18, 19, 20, 21, 22, 23, 24, 25, 26, 27, 28, 29, 30, 31, 32, 33, 34, 35, 36, 37, 38, 39, 40, 41, 42, 43, 44, 45, 46, 47, 48, 49, 50, 51, 52, 53, 54, 55, 56, 57, 58, 59, 60, 61, 62] rfl (by decide +kernel)
set_option maxRecDepth 20000 in
theorem gX9_which__X9_readBy : GoodIn wsX9_which_ (wsV RX9 108 RX9 yX9_readBy wsX9_readBy) := goodIn_app (goodIn_of _ (by decide +kernel)) ggX9_which__X9_readBy
theorem dX9_which__0 : decode cX9_which_ 0 = .ok (.aload_n 0, 1) := by decide +kernel
theorem dX9_which__1 : decode cX9_which_ 1 = .ok (.iconst 0, 1) := by decide +kernel
theorem dX9_which__2 : decode cX9_which_ 2 = .ok (.putfield 43, 3) := by decide +kernel
theorem dX9_which__5 : decode cX9_which_ 5 = .ok (.iconst 0, 1) := by decide +kernel
theorem dX9_which__6 : decode cX9_which_ 6 = .ok (.istore_n 1, 1) := by decide +kernel
theorem dX9_which__7 : decode cX9_which_ 7 = .ok (.iconst 0, 1) := by decide +kernel
theorem dX9_which__8 : decode cX9_which_ 8 = .ok (.istore_n 2, 1) := by decide +kernel
theorem dX9_which__9 : decode cX9_which_ 9 = .ok (.iload_n 2, 1) := by decide +kernel
theorem dX9_which__10 : decode cX9_which_ 10 = .ok (.aload_n 0, 1) := by decide +kernel
theorem dX9_which__11 : decode cX9_which_ 11 = .ok (.getfield 47, 3) := by decide +kernel
theorem dX9_which__14 : decode cX9_which_ 14 = .ok (.if_icmp .ge 24, 3) := by decide +kernel
theorem dX9_which__17 : decode cX9_which_ 17 = .ok (.aload_n 0, 1) := by decide +kernel
theorem dX9_which__18 : decode cX9_which_ 18 = .ok (.iload_n 2, 1) := by decide +kernel
theorem dX9_which__19 : decode cX9_which_ 19 = .ok (.invokevirtual 108, 3) := by decide +kernel
theorem dX9_which__22 : decode cX9_which_ 22 = .ok (.iconst (-1), 1) := by decide +kernel
theorem dX9_which__23 : decode cX9_which_ 23 = .ok (.if_icmp .eq 9, 3) := by decide +kernel
theorem dX9_which__26 : decode cX9_which_ 26 = .ok (.iload_n 1, 1) := by decide +kernel
theorem dX9_which__27 : decode cX9_which_ 27 = .ok (.iconst 1, 1) := by decide +kernel
theorem dX9_which__28 : decode cX9_which_ 28 = .ok (.iload_n 2, 1) := by decide +kernel
theorem dX9_which__29 : decode cX9_which_ 29 = .ok (.ishl, 1) := by decide +kernel
theorem dX9_which__30 : decode cX9_which_ 30 = .ok (.ior, 1) := by decide +kernel
theorem dX9_which__31 : decode cX9_which_ 31 = .ok (.istore_n 1, 1) := by decide +kernel
theorem dX9_which__32 : decode cX9_which_ 32 = .ok (.iinc 2 1, 3) := by decide +kernel
theorem dX9_which__35 : decode cX9_which_ 35 = .ok (.goto (-26), 3) := by decide +kernel
theorem dX9_which__38 : decode cX9_which_ 38 = .ok (.iload_n 1, 1) := by decide +kernel
theorem dX9_which__39 : decode cX9_which_ 39 = .ok (.ireturn, 1) := by decide +kernel
set_option maxRecDepth 20000 in
theorem ggX9_stretch_X9_in : GoodIn wsX9_stretch wsX9_in := goodIn_r _ [7] rfl (by decide +kernel)
set_option maxRecDepth 20000 in
theorem gX9_stretch_X9_in : GoodIn wsX9_stretch (va_wsS RX9 50 yX9_in wsX9_in) := goodIn_app (goodIn_of _ (by decide +kernel)) ggX9_stretch_X9_in
set_option maxRecDepth 20000 in
theorem ggX9_stretch_X9_isTime : GoodIn wsX9_stretch wsX9_isTime := goodIn_r _ [10, 4, 5, 6, 7] rfl (by decide +kernel)
set_option maxRecDepth 20000 in
theorem gX9_stretch_X9_isTime : GoodIn wsX9_stretch (va_wsS RX9 80 yX9_isTime wsX9_isTime) := goodIn_app (goodIn_of _ (by decide +kernel)) ggX9_stretch_X9_isTime
theorem dX9_stretch_0 : decode cX9_stretch 0 = .ok (.aload_n 0, 1) := by decide +kernel
theorem dX9_stretch_1 : decode cX9_stretch 1 = .ok (.iconst 0, 1) := by decide +kernel
theorem dX9_stretch_2 : decode cX9_stretch 2 = .ok (.putfield 43, 3) := by decide +kernel
theorem dX9_stretch_5 : decode cX9_stretch 5 = .ok (.iload_n 1, 1) := by decide +kernel
theorem dX9_stretch_6 : decode cX9_stretch 6 = .ok (.bipush (-60), 2) := by decide +kernel
theorem dX9_stretch_8 : decode cX9_stretch 8 = .ok (.bipush 60, 2) := by decide +kernel
theorem dX9_stretch_10 : decode cX9_stretch 10 = .ok (.invokestatic 50, 3) := by decide +kernel
theorem dX9_stretch_13 : decode cX9_stretch 13 = .ok (.ifCond .ne 5, 3) := by decide +kernel
theorem dX9_stretch_16 : decode cX9_stretch 16 = .ok (.iconst 0, 1) := by decide +kernel
theorem dX9_stretch_17 : decode cX9_stretch 17 = .ok (.ireturn, 1) := by decide +kernel
theorem dX9_stretch_18 : decode cX9_stretch 18 = .ok (.iconst 0, 1) := by decide +kernel
theorem dX9_stretch_19 : decode cX9_stretch 19 = .ok (.istore_n 2, 1) := by decide +kernel
theorem dX9_stretch_20 : decode cX9_stretch 20 = .ok (.iload_n 2, 1) := by decide +kernel
theorem dX9_stretch_21 : decode cX9_stretch 21 = .ok (.aload_n 0, 1) := by decide +kernel
theorem dX9_stretch_22 : decode cX9_stretch 22 = .ok (.getfield 62, 3) := by decide +kernel
theorem dX9_stretch_25 : decode cX9_stretch 25 = .ok (.if_icmp .ge 72, 3) := by decide +kernel
theorem dX9_stretch_28 : decode cX9_stretch 28 = .ok (.aload_n 0, 1) := by decide +kernel
theorem dX9_stretch_29 : decode cX9_stretch 29 = .ok (.getfield 9, 3) := by decide +kernel
theorem dX9_stretch_32 : decode cX9_stretch 32 = .ok (.iload_n 2, 1) := by decide +kernel
theorem dX9_stretch_33 : decode cX9_stretch 33 = .ok (.iaload, 1) := by decide +kernel
theorem dX9_stretch_34 : decode cX9_stretch 34 = .ok (.invokestatic 80, 3) := by decide +kernel
theorem dX9_stretch_37 : decode cX9_stretch 37 = .ok (.ifCond .ne 6, 3) := by decide +kernel
theorem dX9_stretch_40 : decode cX9_stretch 40 = .ok (.goto 51, 3) := by decide +kernel
theorem dX9_stretch_43 : decode cX9_stretch 43 = .ok (.aload_n 0, 1) := by decide +kernel
theorem dX9_stretch_44 : decode cX9_stretch 44 = .ok (.getfield 9, 3) := by decide +kernel
theorem dX9_stretch_47 : decode cX9_stretch 47 = .ok (.iload_n 2, 1) := by decide +kernel
theorem dX9_stretch_48 : decode cX9_stretch 48 = .ok (.iaload, 1) := by decide +kernel
theorem dX9_stretch_49 : decode cX9_stretch 49 = .ok (.aload_n 0, 1) := by decide +kernel
theorem dX9_stretch_50 : decode cX9_stretch 50 = .ok (.getfield 9, 3) := by decide +kernel
theorem dX9_stretch_53 : decode cX9_stretch 53 = .ok (.iload_n 2, 1) := by decide +kernel
theorem dX9_stretch_54 : decode cX9_stretch 54 = .ok (.iaload, 1) := by decide +kernel
theorem dX9_stretch_55 : decode cX9_stretch 55 = .ok (.iload_n 1, 1) := by decide +kernel
theorem dX9_stretch_56 : decode cX9_stretch 56 = .ok (.imul, 1) := by decide +kernel
theorem dX9_stretch_57 : decode cX9_stretch 57 = .ok (.bipush 100, 2) := by decide +kernel
theorem dX9_stretch_59 : decode cX9_stretch 59 = .ok (.idiv, 1) := by decide +kernel
theorem dX9_stretch_60 : decode cX9_stretch 60 = .ok (.iadd, 1) := by decide +kernel
theorem dX9_stretch_61 : decode cX9_stretch 61 = .ok (.istore_n 3, 1) := by decide +kernel
theorem dX9_stretch_62 : decode cX9_stretch 62 = .ok (.aload_n 0, 1) := by decide +kernel
theorem dX9_stretch_63 : decode cX9_stretch 63 = .ok (.getfield 9, 3) := by decide +kernel
theorem dX9_stretch_66 : decode cX9_stretch 66 = .ok (.iload_n 2, 1) := by decide +kernel
theorem dX9_stretch_67 : decode cX9_stretch 67 = .ok (.iload_n 3, 1) := by decide +kernel
theorem dX9_stretch_68 : decode cX9_stretch 68 = .ok (.iconst 1, 1) := by decide +kernel
theorem dX9_stretch_69 : decode cX9_stretch 69 = .ok (.if_icmp .ge 7, 3) := by decide +kernel
theorem dX9_stretch_72 : decode cX9_stretch 72 = .ok (.iconst 1, 1) := by decide +kernel
theorem dX9_stretch_73 : decode cX9_stretch 73 = .ok (.goto 17, 3) := by decide +kernel
theorem dX9_stretch_76 : decode cX9_stretch 76 = .ok (.iload_n 3, 1) := by decide +kernel
theorem dX9_stretch_77 : decode cX9_stretch 77 = .ok (.sipush 20000, 3) := by decide +kernel
theorem dX9_stretch_80 : decode cX9_stretch 80 = .ok (.if_icmp .le 9, 3) := by decide +kernel
theorem dX9_stretch_83 : decode cX9_stretch 83 = .ok (.sipush 20000, 3) := by decide +kernel
theorem dX9_stretch_86 : decode cX9_stretch 86 = .ok (.goto 4, 3) := by decide +kernel
theorem dX9_stretch_89 : decode cX9_stretch 89 = .ok (.iload_n 3, 1) := by decide +kernel
theorem dX9_stretch_90 : decode cX9_stretch 90 = .ok (.iastore, 1) := by decide +kernel
theorem dX9_stretch_91 : decode cX9_stretch 91 = .ok (.iinc 2 1, 3) := by decide +kernel
theorem dX9_stretch_94 : decode cX9_stretch 94 = .ok (.goto (-74), 3) := by decide +kernel
theorem dX9_stretch_97 : decode cX9_stretch 97 = .ok (.iconst 1, 1) := by decide +kernel
theorem dX9_stretch_98 : decode cX9_stretch 98 = .ok (.ireturn, 1) := by decide +kernel
set_option maxRecDepth 20000 in
theorem ggX9_isKey_X9_isMake : GoodIn wsX9_isKey wsX9_isMake := goodIn_r _ [5, 6, 7, 8, 4, 9, 10, 11, 12, 13, 14, 15, 16, 17, 18, 19, 20, 21, 22, 23, 24, 25, 26] rfl (by decide +kernel)
set_option maxRecDepth 20000 in
theorem gX9_isKey_X9_isMake : GoodIn wsX9_isKey (wsV RX9 54 RX9 yX9_isMake wsX9_isMake) := goodIn_app (goodIn_of _ (by decide +kernel)) ggX9_isKey_X9_isMake
set_option maxRecDepth 20000 in
theorem ggX9_isKey_X9_in : GoodIn wsX9_isKey wsX9_in := goodIn_r _ [9] rfl (by decide +kernel)
set_option maxRecDepth 20000 in
theorem gX9_isKey_X9_in : GoodIn wsX9_isKey (va_wsS RX9 50 yX9_in wsX9_in) := goodIn_app (goodIn_of _ (by decide +kernel)) ggX9_isKey_X9_in
theorem dX9_isKey_0 : decode cX9_isKey 0 = .ok (.aload_n 0, 1) := by decide +kernel
theorem dX9_isKey_1 : decode cX9_isKey 1 = .ok (.iload_n 1, 1) := by decide +kernel
theorem dX9_isKey_2 : decode cX9_isKey 2 = .ok (.invokevirtual 54, 3) := by decide +kernel
theorem dX9_isKey_5 : decode cX9_isKey 5 = .ok (.ifCond .eq 17, 3) := by decide +kernel
theorem dX9_isKey_8 : decode cX9_isKey 8 = .ok (.iload_n 2, 1) := by decide +kernel
theorem dX9_isKey_9 : decode cX9_isKey 9 = .ok (.iconst 0, 1) := by decide +kernel
theorem dX9_isKey_10 : decode cX9_isKey 10 = .ok (.bipush 15, 2) := by decide +kernel
theorem dX9_isKey_12 : decode cX9_isKey 12 = .ok (.invokestatic 50, 3) := by decide +kernel
theorem dX9_isKey_15 : decode cX9_isKey 15 = .ok (.ifCond .eq 7, 3) := by decide +kernel
theorem dX9_isKey_18 : decode cX9_isKey 18 = .ok (.iconst 1, 1) := by decide +kernel
theorem dX9_isKey_19 : decode cX9_isKey 19 = .ok (.goto 4, 3) := by decide +kernel
theorem dX9_isKey_22 : decode cX9_isKey 22 = .ok (.iconst 0, 1) := by decide +kernel
theorem dX9_isKey_23 : decode cX9_isKey 23 = .ok (.ireturn, 1) := by decide +kernel
set_option maxRecDepth 20000 in
theorem ggX9_flipOf_X9_get : GoodIn wsX9_flipOf wsX9_get := goodIn_r _ [5, 6, 7, 8, 9, 10, 11, 12, 13, 14, 15, 16, 17, 18, 19, 20, 21, 22, 23] rfl (by decide +kernel)
set_option maxRecDepth 20000 in
theorem gX9_flipOf_X9_get : GoodIn wsX9_flipOf (wsV RX9 58 RX9 yX9_get wsX9_get) := goodIn_app (goodIn_of _ (by decide +kernel)) ggX9_flipOf_X9_get
theorem dX9_flipOf_0 : decode cX9_flipOf 0 = .ok (.aload_n 0, 1) := by decide +kernel
theorem dX9_flipOf_1 : decode cX9_flipOf 1 = .ok (.iload_n 1, 1) := by decide +kernel
theorem dX9_flipOf_2 : decode cX9_flipOf 2 = .ok (.bipush 8, 2) := by decide +kernel
theorem dX9_flipOf_4 : decode cX9_flipOf 4 = .ok (.invokevirtual 58, 3) := by decide +kernel
theorem dX9_flipOf_7 : decode cX9_flipOf 7 = .ok (.iconst (-1), 1) := by decide +kernel
theorem dX9_flipOf_8 : decode cX9_flipOf 8 = .ok (.if_icmp .ne 7, 3) := by decide +kernel
theorem dX9_flipOf_11 : decode cX9_flipOf 11 = .ok (.iconst 0, 1) := by decide +kernel
theorem dX9_flipOf_12 : decode cX9_flipOf 12 = .ok (.goto 12, 3) := by decide +kernel
theorem dX9_flipOf_15 : decode cX9_flipOf 15 = .ok (.iconst 1, 1) := by decide +kernel
theorem dX9_flipOf_16 : decode cX9_flipOf 16 = .ok (.aload_n 0, 1) := by decide +kernel
theorem dX9_flipOf_17 : decode cX9_flipOf 17 = .ok (.iload_n 1, 1) := by decide +kernel
theorem dX9_flipOf_18 : decode cX9_flipOf 18 = .ok (.bipush 8, 2) := by decide +kernel
theorem dX9_flipOf_20 : decode cX9_flipOf 20 = .ok (.invokevirtual 58, 3) := by decide +kernel
theorem dX9_flipOf_23 : decode cX9_flipOf 23 = .ok (.ishl, 1) := by decide +kernel
theorem dX9_flipOf_24 : decode cX9_flipOf 24 = .ok (.ireturn, 1) := by decide +kernel
set_option maxRecDepth 20000 in
theorem ggX9_learn_X9_isKey : GoodIn wsX9_learn wsX9_isKey := goodIn_r _ [7, 8, 9, 10, 6, 11, 12, 13, 14, 15, 59, 60, 61, 62, 63, 64, 65, 66, 67, 68, 69, 70, 71, 72, 73, 74, 75] rfl (by decide +kernel)
set_option maxRecDepth 20000 in
theorem gX9_learn_X9_isKey : GoodIn wsX9_learn (wsV RX9 111 RX9 yX9_isKey wsX9_isKey) := goodIn_app (goodIn_of _ (by decide +kernel)) ggX9_learn_X9_isKey
set_option maxRecDepth 20000 in
theorem ggX9_learn_X9_readBy : GoodIn wsX9_learn wsX9_readBy := goodIn_r _ [19, 20, 21, 22, 6, 23, 24, 25, 26, 27, 28, 29, 30, 31, 32, 33, 34, 35, 36, 37, 38, 39, 40, 41, 42, 43, 44, 45, 13, 14, 15, 46, 47, 48, 49, 50, 51, 52, 53, 54, 59, 60, 61, 62, 63, 64, 65, 66, 67, 68, 69, 70, 71, 72, 73, 74, 75] rfl (by decide +kernel)
set_option maxRecDepth 20000 in
theorem gX9_learn_X9_readBy : GoodIn wsX9_learn (wsV RX9 108 RX9 yX9_readBy wsX9_readBy) := goodIn_app (goodIn_of _ (by decide +kernel)) ggX9_learn_X9_readBy
set_option maxRecDepth 20000 in
theorem ggX9_learn_X9_flipOf : GoodIn wsX9_learn wsX9_flipOf := goodIn_r _ [58, 20, 21, 22, 6, 23, 24, 59, 60, 61, 62, 63, 64, 65, 66, 67, 68, 69, 70, 71, 72, 73, 74, 75] rfl (by decide +kernel)
set_option maxRecDepth 20000 in
theorem gX9_learn_X9_flipOf : GoodIn wsX9_learn (wsV RX9 115 RX9 yX9_flipOf wsX9_flipOf) := goodIn_app (goodIn_of _ (by decide +kernel)) ggX9_learn_X9_flipOf
theorem dX9_learn_0 : decode cX9_learn 0 = .ok (.aload_n 0, 1) := by decide +kernel
theorem dX9_learn_1 : decode cX9_learn 1 = .ok (.iconst 0, 1) := by decide +kernel
theorem dX9_learn_2 : decode cX9_learn 2 = .ok (.putfield 43, 3) := by decide +kernel
theorem dX9_learn_5 : decode cX9_learn 5 = .ok (.aload_n 0, 1) := by decide +kernel
theorem dX9_learn_6 : decode cX9_learn 6 = .ok (.iload_n 1, 1) := by decide +kernel
theorem dX9_learn_7 : decode cX9_learn 7 = .ok (.iload_n 2, 1) := by decide +kernel
theorem dX9_learn_8 : decode cX9_learn 8 = .ok (.invokevirtual 111, 3) := by decide +kernel
theorem dX9_learn_11 : decode cX9_learn 11 = .ok (.ifCond .ne 5, 3) := by decide +kernel
theorem dX9_learn_14 : decode cX9_learn 14 = .ok (.iconst (-1), 1) := by decide +kernel
theorem dX9_learn_15 : decode cX9_learn 15 = .ok (.ireturn, 1) := by decide +kernel
theorem dX9_learn_16 : decode cX9_learn 16 = .ok (.aload_n 0, 1) := by decide +kernel
theorem dX9_learn_17 : decode cX9_learn 17 = .ok (.iload_n 1, 1) := by decide +kernel
theorem dX9_learn_18 : decode cX9_learn 18 = .ok (.invokevirtual 108, 3) := by decide +kernel
theorem dX9_learn_21 : decode cX9_learn 21 = .ok (.istore_n 3, 1) := by decide +kernel
theorem dX9_learn_22 : decode cX9_learn 22 = .ok (.iload_n 3, 1) := by decide +kernel
theorem dX9_learn_23 : decode cX9_learn 23 = .ok (.iconst (-1), 1) := by decide +kernel
theorem dX9_learn_24 : decode cX9_learn 24 = .ok (.if_icmp .ne 5, 3) := by decide +kernel
theorem dX9_learn_27 : decode cX9_learn 27 = .ok (.iconst (-1), 1) := by decide +kernel
theorem dX9_learn_28 : decode cX9_learn 28 = .ok (.ireturn, 1) := by decide +kernel
theorem dX9_learn_29 : decode cX9_learn 29 = .ok (.iload_n 3, 1) := by decide +kernel
theorem dX9_learn_30 : decode cX9_learn 30 = .ok (.aload_n 0, 1) := by decide +kernel
theorem dX9_learn_31 : decode cX9_learn 31 = .ok (.iload_n 1, 1) := by decide +kernel
theorem dX9_learn_32 : decode cX9_learn 32 = .ok (.invokevirtual 115, 3) := by decide +kernel
theorem dX9_learn_35 : decode cX9_learn 35 = .ok (.iconst (-1), 1) := by decide +kernel
theorem dX9_learn_36 : decode cX9_learn 36 = .ok (.ixor, 1) := by decide +kernel
theorem dX9_learn_37 : decode cX9_learn 37 = .ok (.iand, 1) := by decide +kernel
theorem dX9_learn_38 : decode cX9_learn 38 = .ok (.istore_n 3, 1) := by decide +kernel
theorem dX9_learn_39 : decode cX9_learn 39 = .ok (.aload_n 0, 1) := by decide +kernel
theorem dX9_learn_40 : decode cX9_learn 40 = .ok (.getfield 16, 3) := by decide +kernel
theorem dX9_learn_43 : decode cX9_learn 43 = .ok (.bipush 16, 2) := by decide +kernel
theorem dX9_learn_45 : decode cX9_learn 45 = .ok (.iload_n 1, 1) := by decide +kernel
theorem dX9_learn_46 : decode cX9_learn 46 = .ok (.imul, 1) := by decide +kernel
theorem dX9_learn_47 : decode cX9_learn 47 = .ok (.iload_n 2, 1) := by decide +kernel
theorem dX9_learn_48 : decode cX9_learn 48 = .ok (.iadd, 1) := by decide +kernel
theorem dX9_learn_49 : decode cX9_learn 49 = .ok (.iaload, 1) := by decide +kernel
theorem dX9_learn_50 : decode cX9_learn 50 = .ok (.istore 4, 2) := by decide +kernel
theorem dX9_learn_52 : decode cX9_learn 52 = .ok (.iload 4, 2) := by decide +kernel
theorem dX9_learn_54 : decode cX9_learn 54 = .ok (.iconst (-1), 1) := by decide +kernel
theorem dX9_learn_55 : decode cX9_learn 55 = .ok (.if_icmp .eq 11, 3) := by decide +kernel
theorem dX9_learn_58 : decode cX9_learn 58 = .ok (.iload 4, 2) := by decide +kernel
theorem dX9_learn_60 : decode cX9_learn 60 = .ok (.iload_n 3, 1) := by decide +kernel
theorem dX9_learn_61 : decode cX9_learn 61 = .ok (.if_icmp .eq 5, 3) := by decide +kernel
theorem dX9_learn_64 : decode cX9_learn 64 = .ok (.iconst (-1), 1) := by decide +kernel
theorem dX9_learn_65 : decode cX9_learn 65 = .ok (.ireturn, 1) := by decide +kernel
theorem dX9_learn_66 : decode cX9_learn 66 = .ok (.aload_n 0, 1) := by decide +kernel
theorem dX9_learn_67 : decode cX9_learn 67 = .ok (.getfield 16, 3) := by decide +kernel
theorem dX9_learn_70 : decode cX9_learn 70 = .ok (.bipush 16, 2) := by decide +kernel
theorem dX9_learn_72 : decode cX9_learn 72 = .ok (.iload_n 1, 1) := by decide +kernel
theorem dX9_learn_73 : decode cX9_learn 73 = .ok (.imul, 1) := by decide +kernel
theorem dX9_learn_74 : decode cX9_learn 74 = .ok (.iload_n 2, 1) := by decide +kernel
theorem dX9_learn_75 : decode cX9_learn 75 = .ok (.iadd, 1) := by decide +kernel
theorem dX9_learn_76 : decode cX9_learn 76 = .ok (.iload_n 3, 1) := by decide +kernel
theorem dX9_learn_77 : decode cX9_learn 77 = .ok (.iastore, 1) := by decide +kernel
theorem dX9_learn_78 : decode cX9_learn 78 = .ok (.iload_n 3, 1) := by decide +kernel
theorem dX9_learn_79 : decode cX9_learn 79 = .ok (.ireturn, 1) := by decide +kernel
set_option maxRecDepth 20000 in
theorem ggX9_forget_X9_isKey : GoodIn wsX9_forget wsX9_isKey := goodIn_r _ [7, 8, 9, 10, 6, 11, 12, 13, 14, 15, 16, 17, 18, 19, 20, 21, 22, 23, 24, 25, 26, 27, 28, 29, 30, 31, 32] rfl (by decide +kernel)
set_option maxRecDepth 20000 in
theorem gX9_forget_X9_isKey : GoodIn wsX9_forget (wsV RX9 111 RX9 yX9_isKey wsX9_isKey) := goodIn_app (goodIn_of _ (by decide +kernel)) ggX9_forget_X9_isKey
theorem dX9_forget_0 : decode cX9_forget 0 = .ok (.aload_n 0, 1) := by decide +kernel
theorem dX9_forget_1 : decode cX9_forget 1 = .ok (.iconst 0, 1) := by decide +kernel
theorem dX9_forget_2 : decode cX9_forget 2 = .ok (.putfield 43, 3) := by decide +kernel
theorem dX9_forget_5 : decode cX9_forget 5 = .ok (.aload_n 0, 1) := by decide +kernel
theorem dX9_forget_6 : decode cX9_forget 6 = .ok (.iload_n 1, 1) := by decide +kernel
theorem dX9_forget_7 : decode cX9_forget 7 = .ok (.iload_n 2, 1) := by decide +kernel
theorem dX9_forget_8 : decode cX9_forget 8 = .ok (.invokevirtual 111, 3) := by decide +kernel
theorem dX9_forget_11 : decode cX9_forget 11 = .ok (.ifCond .eq 18, 3) := by decide +kernel
theorem dX9_forget_14 : decode cX9_forget 14 = .ok (.aload_n 0, 1) := by decide +kernel
theorem dX9_forget_15 : decode cX9_forget 15 = .ok (.getfield 16, 3) := by decide +kernel
theorem dX9_forget_18 : decode cX9_forget 18 = .ok (.bipush 16, 2) := by decide +kernel
theorem dX9_forget_20 : decode cX9_forget 20 = .ok (.iload_n 1, 1) := by decide +kernel
theorem dX9_forget_21 : decode cX9_forget 21 = .ok (.imul, 1) := by decide +kernel
theorem dX9_forget_22 : decode cX9_forget 22 = .ok (.iload_n 2, 1) := by decide +kernel
theorem dX9_forget_23 : decode cX9_forget 23 = .ok (.iadd, 1) := by decide +kernel
theorem dX9_forget_24 : decode cX9_forget 24 = .ok (.iaload, 1) := by decide +kernel
theorem dX9_forget_25 : decode cX9_forget 25 = .ok (.iconst (-1), 1) := by decide +kernel
theorem dX9_forget_26 : decode cX9_forget 26 = .ok (.if_icmp .ne 5, 3) := by decide +kernel
theorem dX9_forget_29 : decode cX9_forget 29 = .ok (.iconst 0, 1) := by decide +kernel
theorem dX9_forget_30 : decode cX9_forget 30 = .ok (.ireturn, 1) := by decide +kernel
theorem dX9_forget_31 : decode cX9_forget 31 = .ok (.aload_n 0, 1) := by decide +kernel
theorem dX9_forget_32 : decode cX9_forget 32 = .ok (.getfield 16, 3) := by decide +kernel
theorem dX9_forget_35 : decode cX9_forget 35 = .ok (.bipush 16, 2) := by decide +kernel
theorem dX9_forget_37 : decode cX9_forget 37 = .ok (.iload_n 1, 1) := by decide +kernel
theorem dX9_forget_38 : decode cX9_forget 38 = .ok (.imul, 1) := by decide +kernel
theorem dX9_forget_39 : decode cX9_forget 39 = .ok (.iload_n 2, 1) := by decide +kernel
theorem dX9_forget_40 : decode cX9_forget 40 = .ok (.iadd, 1) := by decide +kernel
theorem dX9_forget_41 : decode cX9_forget 41 = .ok (.iconst (-1), 1) := by decide +kernel
theorem dX9_forget_42 : decode cX9_forget 42 = .ok (.iastore, 1) := by decide +kernel
theorem dX9_forget_43 : decode cX9_forget 43 = .ok (.iconst 1, 1) := by decide +kernel
theorem dX9_forget_44 : decode cX9_forget 44 = .ok (.ireturn, 1) := by decide +kernel
set_option maxRecDepth 20000 in
theorem ggX9_key_X9_isKey : GoodIn wsX9_key wsX9_isKey := goodIn_r _ [7, 8, 9, 10, 6, 11, 12, 13, 14, 15, 16, 17, 18, 19, 20, 21, 22, 23, 24, 25, 26, 27, 28, 29, 30, 31, 32] rfl (by decide +kernel)
set_option maxRecDepth 20000 in
theorem gX9_key_X9_isKey : GoodIn wsX9_key (wsV RX9 111 RX9 yX9_isKey wsX9_isKey) := goodIn_app (goodIn_of _ (by decide +kernel)) ggX9_key_X9_isKey
theorem dX9_key_0 : decode cX9_key 0 = .ok (.aload_n 0, 1) := by decide +kernel
theorem dX9_key_1 : decode cX9_key 1 = .ok (.iconst 0, 1) := by decide +kernel
theorem dX9_key_2 : decode cX9_key 2 = .ok (.putfield 43, 3) := by decide +kernel
theorem dX9_key_5 : decode cX9_key 5 = .ok (.aload_n 0, 1) := by decide +kernel
theorem dX9_key_6 : decode cX9_key 6 = .ok (.iload_n 1, 1) := by decide +kernel
theorem dX9_key_7 : decode cX9_key 7 = .ok (.iload_n 2, 1) := by decide +kernel
theorem dX9_key_8 : decode cX9_key 8 = .ok (.invokevirtual 111, 3) := by decide +kernel
theorem dX9_key_11 : decode cX9_key 11 = .ok (.ifCond .eq 17, 3) := by decide +kernel
theorem dX9_key_14 : decode cX9_key 14 = .ok (.aload_n 0, 1) := by decide +kernel
theorem dX9_key_15 : decode cX9_key 15 = .ok (.getfield 16, 3) := by decide +kernel
theorem dX9_key_18 : decode cX9_key 18 = .ok (.bipush 16, 2) := by decide +kernel
theorem dX9_key_20 : decode cX9_key 20 = .ok (.iload_n 1, 1) := by decide +kernel
theorem dX9_key_21 : decode cX9_key 21 = .ok (.imul, 1) := by decide +kernel
theorem dX9_key_22 : decode cX9_key 22 = .ok (.iload_n 2, 1) := by decide +kernel
theorem dX9_key_23 : decode cX9_key 23 = .ok (.iadd, 1) := by decide +kernel
theorem dX9_key_24 : decode cX9_key 24 = .ok (.iaload, 1) := by decide +kernel
theorem dX9_key_25 : decode cX9_key 25 = .ok (.goto 4, 3) := by decide +kernel
theorem dX9_key_28 : decode cX9_key 28 = .ok (.iconst (-1), 1) := by decide +kernel
theorem dX9_key_29 : decode cX9_key 29 = .ok (.ireturn, 1) := by decide +kernel
set_option maxRecDepth 20000 in
theorem ggX9_press_X9_isKey : GoodIn wsX9_press wsX9_isKey := goodIn_r _ [9, 10, 11, 12, 8, 13, 14, 15, 16, 17, 42, 43, 44, 45, 46, 47, 48, 49, 50, 51, 52, 53, 54, 55, 56, 57, 58] rfl (by decide +kernel)
set_option maxRecDepth 20000 in
theorem gX9_press_X9_isKey : GoodIn wsX9_press (wsV RX9 111 RX9 yX9_isKey wsX9_isKey) := goodIn_app (goodIn_of _ (by decide +kernel)) ggX9_press_X9_isKey
set_option maxRecDepth 20000 in
theorem ggX9_press_X9_get : GoodIn wsX9_press wsX9_get := goodIn_r _ [21, 3, 42, 43, 44, 45, 46, 47, 48, 49, 50, 51, 52, 53, 54, 55, 56, 57, 58] rfl (by decide +kernel)
set_option maxRecDepth 20000 in
theorem gX9_press_X9_get : GoodIn wsX9_press (wsV RX9 58 RX9 yX9_get wsX9_get) := goodIn_app (goodIn_of _ (by decide +kernel)) ggX9_press_X9_get
set_option maxRecDepth 20000 in
theorem ggX9_press_X9_flipOf : GoodIn wsX9_press wsX9_flipOf := goodIn_r _ [25, 18, 19, 20, 8, 21, 3, 42, 43, 44, 45, 46, 47, 48, 49, 50, 51, 52, 53, 54, 55, 56, 57, 58] rfl (by decide +kernel)
set_option maxRecDepth 20000 in
theorem gX9_press_X9_flipOf : GoodIn wsX9_press (wsV RX9 115 RX9 yX9_flipOf wsX9_flipOf) := goodIn_app (goodIn_of _ (by decide +kernel)) ggX9_press_X9_flipOf
set_option maxRecDepth 20000 in
theorem ggX9_press_X9_flash : GoodIn wsX9_press wsX9_flash := goodIn_r _ [29, 4, 18, 19, 20, 8, 21, 3, 30, 31, 32, 33, 34, 35, 36, 37, 38, 39, 40, 41, 42, 43, 44, 45, 46, 47, 48, 49, 50, 51, 52, 53, 54, 55, 56, 57, 58] rfl (by decide +kernel)
set_option maxRecDepth 20000 in
theorem gX9_press_X9_flash : GoodIn wsX9_press (wsV RX9 76 RX9 yX9_flash wsX9_flash) := goodIn_app (goodIn_of _ (by decide +kernel)) ggX9_press_X9_flash
theorem dX9_press_0 : decode cX9_press 0 = .ok (.aload_n 0, 1) := by decide +kernel
theorem dX9_press_1 : decode cX9_press 1 = .ok (.iconst 0, 1) := by decide +kernel
theorem dX9_press_2 : decode cX9_press 2 = .ok (.putfield 43, 3) := by decide +kernel
theorem dX9_press_5 : decode cX9_press 5 = .ok (.aload_n 0, 1) := by decide +kernel
theorem dX9_press_6 : decode cX9_press 6 = .ok (.iload_n 1, 1) := by decide +kernel
theorem dX9_press_7 : decode cX9_press 7 = .ok (.iload_n 2, 1) := by decide +kernel
theorem dX9_press_8 : decode cX9_press 8 = .ok (.invokevirtual 111, 3) := by decide +kernel
theorem dX9_press_11 : decode cX9_press 11 = .ok (.ifCond .eq 18, 3) := by decide +kernel
theorem dX9_press_14 : decode cX9_press 14 = .ok (.aload_n 0, 1) := by decide +kernel
theorem dX9_press_15 : decode cX9_press 15 = .ok (.getfield 16, 3) := by decide +kernel
theorem dX9_press_18 : decode cX9_press 18 = .ok (.bipush 16, 2) := by decide +kernel
theorem dX9_press_20 : decode cX9_press 20 = .ok (.iload_n 1, 1) := by decide +kernel
theorem dX9_press_21 : decode cX9_press 21 = .ok (.imul, 1) := by decide +kernel
theorem dX9_press_22 : decode cX9_press 22 = .ok (.iload_n 2, 1) := by decide +kernel
theorem dX9_press_23 : decode cX9_press 23 = .ok (.iadd, 1) := by decide +kernel
theorem dX9_press_24 : decode cX9_press 24 = .ok (.iaload, 1) := by decide +kernel
theorem dX9_press_25 : decode cX9_press 25 = .ok (.iconst (-1), 1) := by decide +kernel
theorem dX9_press_26 : decode cX9_press 26 = .ok (.if_icmp .ne 5, 3) := by decide +kernel
theorem dX9_press_29 : decode cX9_press 29 = .ok (.iconst (-1), 1) := by decide +kernel
theorem dX9_press_30 : decode cX9_press 30 = .ok (.ireturn, 1) := by decide +kernel
theorem dX9_press_31 : decode cX9_press 31 = .ok (.aload_n 0, 1) := by decide +kernel
theorem dX9_press_32 : decode cX9_press 32 = .ok (.iload_n 1, 1) := by decide +kernel
theorem dX9_press_33 : decode cX9_press 33 = .ok (.aload_n 0, 1) := by decide +kernel
theorem dX9_press_34 : decode cX9_press 34 = .ok (.getfield 16, 3) := by decide +kernel
theorem dX9_press_37 : decode cX9_press 37 = .ok (.bipush 16, 2) := by decide +kernel
theorem dX9_press_39 : decode cX9_press 39 = .ok (.iload_n 1, 1) := by decide +kernel
theorem dX9_press_40 : decode cX9_press 40 = .ok (.imul, 1) := by decide +kernel
theorem dX9_press_41 : decode cX9_press 41 = .ok (.iload_n 2, 1) := by decide +kernel
theorem dX9_press_42 : decode cX9_press 42 = .ok (.iadd, 1) := by decide +kernel
theorem dX9_press_43 : decode cX9_press 43 = .ok (.iaload, 1) := by decide +kernel
theorem dX9_press_44 : decode cX9_press 44 = .ok (.aload_n 0, 1) := by decide +kernel
theorem dX9_press_45 : decode cX9_press 45 = .ok (.iload_n 1, 1) := by decide +kernel
theorem dX9_press_46 : decode cX9_press 46 = .ok (.bipush 9, 2) := by decide +kernel
theorem dX9_press_48 : decode cX9_press 48 = .ok (.invokevirtual 58, 3) := by decide +kernel
theorem dX9_press_51 : decode cX9_press 51 = .ok (.iconst 1, 1) := by decide +kernel
theorem dX9_press_52 : decode cX9_press 52 = .ok (.if_icmp .ne 11, 3) := by decide +kernel
theorem dX9_press_55 : decode cX9_press 55 = .ok (.aload_n 0, 1) := by decide +kernel
theorem dX9_press_56 : decode cX9_press 56 = .ok (.iload_n 1, 1) := by decide +kernel
theorem dX9_press_57 : decode cX9_press 57 = .ok (.invokevirtual 115, 3) := by decide +kernel
theorem dX9_press_60 : decode cX9_press 60 = .ok (.goto 4, 3) := by decide +kernel
theorem dX9_press_63 : decode cX9_press 63 = .ok (.iconst 0, 1) := by decide +kernel
theorem dX9_press_64 : decode cX9_press 64 = .ok (.ior, 1) := by decide +kernel
theorem dX9_press_65 : decode cX9_press 65 = .ok (.invokevirtual 76, 3) := by decide +kernel
theorem dX9_press_68 : decode cX9_press 68 = .ok (.aload_n 0, 1) := by decide +kernel
theorem dX9_press_69 : decode cX9_press 69 = .ok (.iload_n 1, 1) := by decide +kernel
theorem dX9_press_70 : decode cX9_press 70 = .ok (.bipush 8, 2) := by decide +kernel
theorem dX9_press_72 : decode cX9_press 72 = .ok (.invokevirtual 58, 3) := by decide +kernel
theorem dX9_press_75 : decode cX9_press 75 = .ok (.iconst (-1), 1) := by decide +kernel
theorem dX9_press_76 : decode cX9_press 76 = .ok (.if_icmp .eq 24, 3) := by decide +kernel
theorem dX9_press_79 : decode cX9_press 79 = .ok (.aload_n 0, 1) := by decide +kernel
theorem dX9_press_80 : decode cX9_press 80 = .ok (.getfield 13, 3) := by decide +kernel
theorem dX9_press_83 : decode cX9_press 83 = .ok (.bipush 10, 2) := by decide +kernel
theorem dX9_press_85 : decode cX9_press 85 = .ok (.iload_n 1, 1) := by decide +kernel
theorem dX9_press_86 : decode cX9_press 86 = .ok (.imul, 1) := by decide +kernel
theorem dX9_press_87 : decode cX9_press 87 = .ok (.bipush 9, 2) := by decide +kernel
theorem dX9_press_89 : decode cX9_press 89 = .ok (.iadd, 1) := by decide +kernel
theorem dX9_press_90 : decode cX9_press 90 = .ok (.iconst 1, 1) := by decide +kernel
theorem dX9_press_91 : decode cX9_press 91 = .ok (.aload_n 0, 1) := by decide +kernel
theorem dX9_press_92 : decode cX9_press 92 = .ok (.iload_n 1, 1) := by decide +kernel
theorem dX9_press_93 : decode cX9_press 93 = .ok (.bipush 9, 2) := by decide +kernel
theorem dX9_press_95 : decode cX9_press 95 = .ok (.invokevirtual 58, 3) := by decide +kernel
theorem dX9_press_98 : decode cX9_press 98 = .ok (.isub, 1) := by decide +kernel
theorem dX9_press_99 : decode cX9_press 99 = .ok (.iastore, 1) := by decide +kernel
theorem dX9_press_100 : decode cX9_press 100 = .ok (.aload_n 0, 1) := by decide +kernel
theorem dX9_press_101 : decode cX9_press 101 = .ok (.getfield 62, 3) := by decide +kernel
theorem dX9_press_104 : decode cX9_press 104 = .ok (.ireturn, 1) := by decide +kernel
theorem dX9_learnt_0 : decode cX9_learnt 0 = .ok (.iconst 0, 1) := by decide +kernel
theorem dX9_learnt_1 : decode cX9_learnt 1 = .ok (.istore_n 2, 1) := by decide +kernel
theorem dX9_learnt_2 : decode cX9_learnt 2 = .ok (.iconst 0, 1) := by decide +kernel
theorem dX9_learnt_3 : decode cX9_learnt 3 = .ok (.istore_n 3, 1) := by decide +kernel
theorem dX9_learnt_4 : decode cX9_learnt 4 = .ok (.iload_n 3, 1) := by decide +kernel
theorem dX9_learnt_5 : decode cX9_learnt 5 = .ok (.bipush 16, 2) := by decide +kernel
theorem dX9_learnt_7 : decode cX9_learnt 7 = .ok (.if_icmp .ge 27, 3) := by decide +kernel
theorem dX9_learnt_10 : decode cX9_learnt 10 = .ok (.aload_n 0, 1) := by decide +kernel
theorem dX9_learnt_11 : decode cX9_learnt 11 = .ok (.getfield 16, 3) := by decide +kernel
theorem dX9_learnt_14 : decode cX9_learnt 14 = .ok (.bipush 16, 2) := by decide +kernel
theorem dX9_learnt_16 : decode cX9_learnt 16 = .ok (.iload_n 1, 1) := by decide +kernel
theorem dX9_learnt_17 : decode cX9_learnt 17 = .ok (.imul, 1) := by decide +kernel
theorem dX9_learnt_18 : decode cX9_learnt 18 = .ok (.iload_n 3, 1) := by decide +kernel
theorem dX9_learnt_19 : decode cX9_learnt 19 = .ok (.iadd, 1) := by decide +kernel
theorem dX9_learnt_20 : decode cX9_learnt 20 = .ok (.iaload, 1) := by decide +kernel
theorem dX9_learnt_21 : decode cX9_learnt 21 = .ok (.iconst (-1), 1) := by decide +kernel
theorem dX9_learnt_22 : decode cX9_learnt 22 = .ok (.if_icmp .eq 6, 3) := by decide +kernel
theorem dX9_learnt_25 : decode cX9_learnt 25 = .ok (.iinc 2 1, 3) := by decide +kernel
theorem dX9_learnt_28 : decode cX9_learnt 28 = .ok (.iinc 3 1, 3) := by decide +kernel
theorem dX9_learnt_31 : decode cX9_learnt 31 = .ok (.goto (-27), 3) := by decide +kernel
theorem dX9_learnt_34 : decode cX9_learnt 34 = .ok (.iload_n 2, 1) := by decide +kernel
theorem dX9_learnt_35 : decode cX9_learnt 35 = .ok (.ireturn, 1) := by decide +kernel
theorem dX9_some_0 : decode cX9_some 0 = .ok (.iconst (-1), 1) := by decide +kernel
theorem dX9_some_1 : decode cX9_some 1 = .ok (.istore_n 2, 1) := by decide +kernel
theorem dX9_some_2 : decode cX9_some 2 = .ok (.iconst 0, 1) := by decide +kernel
theorem dX9_some_3 : decode cX9_some 3 = .ok (.istore_n 3, 1) := by decide +kernel
theorem dX9_some_4 : decode cX9_some 4 = .ok (.iload_n 3, 1) := by decide +kernel
theorem dX9_some_5 : decode cX9_some 5 = .ok (.bipush 16, 2) := by decide +kernel
theorem dX9_some_7 : decode cX9_some 7 = .ok (.if_icmp .ge 36, 3) := by decide +kernel
theorem dX9_some_10 : decode cX9_some 10 = .ok (.aload_n 0, 1) := by decide +kernel
theorem dX9_some_11 : decode cX9_some 11 = .ok (.getfield 16, 3) := by decide +kernel
theorem dX9_some_14 : decode cX9_some 14 = .ok (.bipush 16, 2) := by decide +kernel
theorem dX9_some_16 : decode cX9_some 16 = .ok (.iload_n 1, 1) := by decide +kernel
theorem dX9_some_17 : decode cX9_some 17 = .ok (.imul, 1) := by decide +kernel
theorem dX9_some_18 : decode cX9_some 18 = .ok (.iload_n 3, 1) := by decide +kernel
theorem dX9_some_19 : decode cX9_some 19 = .ok (.iadd, 1) := by decide +kernel
theorem dX9_some_20 : decode cX9_some 20 = .ok (.iaload, 1) := by decide +kernel
theorem dX9_some_21 : decode cX9_some 21 = .ok (.iconst (-1), 1) := by decide +kernel
theorem dX9_some_22 : decode cX9_some 22 = .ok (.if_icmp .eq 15, 3) := by decide +kernel
theorem dX9_some_25 : decode cX9_some 25 = .ok (.aload_n 0, 1) := by decide +kernel
theorem dX9_some_26 : decode cX9_some 26 = .ok (.getfield 16, 3) := by decide +kernel
theorem dX9_some_29 : decode cX9_some 29 = .ok (.bipush 16, 2) := by decide +kernel
theorem dX9_some_31 : decode cX9_some 31 = .ok (.iload_n 1, 1) := by decide +kernel
theorem dX9_some_32 : decode cX9_some 32 = .ok (.imul, 1) := by decide +kernel
theorem dX9_some_33 : decode cX9_some 33 = .ok (.iload_n 3, 1) := by decide +kernel
theorem dX9_some_34 : decode cX9_some 34 = .ok (.iadd, 1) := by decide +kernel
theorem dX9_some_35 : decode cX9_some 35 = .ok (.iaload, 1) := by decide +kernel
theorem dX9_some_36 : decode cX9_some 36 = .ok (.istore_n 2, 1) := by decide +kernel
theorem dX9_some_37 : decode cX9_some 37 = .ok (.iinc 3 1, 3) := by decide +kernel
theorem dX9_some_40 : decode cX9_some 40 = .ok (.goto (-36), 3) := by decide +kernel
theorem dX9_some_43 : decode cX9_some 43 = .ok (.iload_n 2, 1) := by decide +kernel
theorem dX9_some_44 : decode cX9_some 44 = .ok (.ireturn, 1) := by decide +kernel
set_option maxRecDepth 20000 in
theorem ggX9_fixed_X9_learnt : GoodIn wsX9_fixed wsX9_learnt := goodIn_r _ [6, 1, 20, 21, 22, 23, 24, 25, 26, 27, 28, 29, 30, 31, 32, 33, 34, 35, 36] rfl (by decide +kernel)
set_option maxRecDepth 20000 in
theorem gX9_fixed_X9_learnt : GoodIn wsX9_fixed (wsV RX9 118 RX9 yX9_learnt wsX9_learnt) := goodIn_app (goodIn_of _ (by decide +kernel)) ggX9_fixed_X9_learnt
set_option maxRecDepth 20000 in
theorem ggX9_fixed_X9_get : GoodIn wsX9_fixed wsX9_get := goodIn_r _ [10, 11, 20, 21, 22, 23, 24, 25, 26, 27, 28, 29, 30, 31, 32, 33, 34, 35, 36] rfl (by decide +kernel)
set_option maxRecDepth 20000 in
theorem gX9_fixed_X9_get : GoodIn wsX9_fixed (wsV RX9 58 RX9 yX9_get wsX9_get) := goodIn_app (goodIn_of _ (by decide +kernel)) ggX9_fixed_X9_get
set_option maxRecDepth 20000 in
theorem ggX9_fixed_X9_flipOf : GoodIn wsX9_fixed wsX9_flipOf := goodIn_r _ [15, 7, 8, 9, 5, 10, 11, 20, 21, 22, 23, 24, 25, 26, 27, 28, 29, 30, 31, 32, 33, 34, 35, 36] rfl (by decide +kernel)
set_option maxRecDepth 20000 in
theorem gX9_fixed_X9_flipOf : GoodIn wsX9_fixed (wsV RX9 115 RX9 yX9_flipOf wsX9_flipOf) := goodIn_app (goodIn_of _ (by decide +kernel)) ggX9_fixed_X9_flipOf
set_option maxRecDepth 20000 in
theorem ggX9_fixed_X9_some : GoodIn wsX9_fixed wsX9_some := goodIn_r _ [19, 1, 20, 21, 22, 23, 24, 25, 26, 27, 28, 29, 30, 31, 32, 33, 34, 35, 36] rfl (by decide +kernel)
set_option maxRecDepth 20000 in
theorem gX9_fixed_X9_some : GoodIn wsX9_fixed (wsV RX9 121 RX9 yX9_some wsX9_some) := goodIn_app (goodIn_of _ (by decide +kernel)) ggX9_fixed_X9_some
theorem dX9_fixed_0 : decode cX9_fixed 0 = .ok (.aload_n 0, 1) := by decide +kernel
theorem dX9_fixed_1 : decode cX9_fixed 1 = .ok (.iload_n 1, 1) := by decide +kernel
theorem dX9_fixed_2 : decode cX9_fixed 2 = .ok (.invokevirtual 118, 3) := by decide +kernel
theorem dX9_fixed_5 : decode cX9_fixed 5 = .ok (.ifCond .ne 7, 3) := by decide +kernel
theorem dX9_fixed_8 : decode cX9_fixed 8 = .ok (.iconst 0, 1) := by decide +kernel
theorem dX9_fixed_9 : decode cX9_fixed 9 = .ok (.goto 21, 3) := by decide +kernel
theorem dX9_fixed_12 : decode cX9_fixed 12 = .ok (.iconst 1, 1) := by decide +kernel
theorem dX9_fixed_13 : decode cX9_fixed 13 = .ok (.aload_n 0, 1) := by decide +kernel
theorem dX9_fixed_14 : decode cX9_fixed 14 = .ok (.iload_n 1, 1) := by decide +kernel
theorem dX9_fixed_15 : decode cX9_fixed 15 = .ok (.iconst 1, 1) := by decide +kernel
theorem dX9_fixed_16 : decode cX9_fixed 16 = .ok (.invokevirtual 58, 3) := by decide +kernel
theorem dX9_fixed_19 : decode cX9_fixed 19 = .ok (.ishl, 1) := by decide +kernel
theorem dX9_fixed_20 : decode cX9_fixed 20 = .ok (.iconst 1, 1) := by decide +kernel
theorem dX9_fixed_21 : decode cX9_fixed 21 = .ok (.isub, 1) := by decide +kernel
theorem dX9_fixed_22 : decode cX9_fixed 22 = .ok (.aload_n 0, 1) := by decide +kernel
theorem dX9_fixed_23 : decode cX9_fixed 23 = .ok (.iload_n 1, 1) := by decide +kernel
theorem dX9_fixed_24 : decode cX9_fixed 24 = .ok (.invokevirtual 115, 3) := by decide +kernel
theorem dX9_fixed_27 : decode cX9_fixed 27 = .ok (.iconst (-1), 1) := by decide +kernel
theorem dX9_fixed_28 : decode cX9_fixed 28 = .ok (.ixor, 1) := by decide +kernel
theorem dX9_fixed_29 : decode cX9_fixed 29 = .ok (.iand, 1) := by decide +kernel
theorem dX9_fixed_30 : decode cX9_fixed 30 = .ok (.istore_n 2, 1) := by decide +kernel
theorem dX9_fixed_31 : decode cX9_fixed 31 = .ok (.iconst 0, 1) := by decide +kernel
theorem dX9_fixed_32 : decode cX9_fixed 32 = .ok (.istore_n 3, 1) := by decide +kernel
theorem dX9_fixed_33 : decode cX9_fixed 33 = .ok (.iload_n 3, 1) := by decide +kernel
theorem dX9_fixed_34 : decode cX9_fixed 34 = .ok (.bipush 16, 2) := by decide +kernel
theorem dX9_fixed_36 : decode cX9_fixed 36 = .ok (.if_icmp .ge 46, 3) := by decide +kernel
theorem dX9_fixed_39 : decode cX9_fixed 39 = .ok (.aload_n 0, 1) := by decide +kernel
theorem dX9_fixed_40 : decode cX9_fixed 40 = .ok (.getfield 16, 3) := by decide +kernel
theorem dX9_fixed_43 : decode cX9_fixed 43 = .ok (.bipush 16, 2) := by decide +kernel
theorem dX9_fixed_45 : decode cX9_fixed 45 = .ok (.iload_n 1, 1) := by decide +kernel
theorem dX9_fixed_46 : decode cX9_fixed 46 = .ok (.imul, 1) := by decide +kernel
theorem dX9_fixed_47 : decode cX9_fixed 47 = .ok (.iload_n 3, 1) := by decide +kernel
theorem dX9_fixed_48 : decode cX9_fixed 48 = .ok (.iadd, 1) := by decide +kernel
theorem dX9_fixed_49 : decode cX9_fixed 49 = .ok (.iaload, 1) := by decide +kernel
theorem dX9_fixed_50 : decode cX9_fixed 50 = .ok (.iconst (-1), 1) := by decide +kernel
theorem dX9_fixed_51 : decode cX9_fixed 51 = .ok (.if_icmp .eq 25, 3) := by decide +kernel
theorem dX9_fixed_54 : decode cX9_fixed 54 = .ok (.iload_n 2, 1) := by decide +kernel
theorem dX9_fixed_55 : decode cX9_fixed 55 = .ok (.aload_n 0, 1) := by decide +kernel
theorem dX9_fixed_56 : decode cX9_fixed 56 = .ok (.getfield 16, 3) := by decide +kernel
theorem dX9_fixed_59 : decode cX9_fixed 59 = .ok (.bipush 16, 2) := by decide +kernel
theorem dX9_fixed_61 : decode cX9_fixed 61 = .ok (.iload_n 1, 1) := by decide +kernel
theorem dX9_fixed_62 : decode cX9_fixed 62 = .ok (.imul, 1) := by decide +kernel
theorem dX9_fixed_63 : decode cX9_fixed 63 = .ok (.iload_n 3, 1) := by decide +kernel
theorem dX9_fixed_64 : decode cX9_fixed 64 = .ok (.iadd, 1) := by decide +kernel
theorem dX9_fixed_65 : decode cX9_fixed 65 = .ok (.iaload, 1) := by decide +kernel
theorem dX9_fixed_66 : decode cX9_fixed 66 = .ok (.aload_n 0, 1) := by decide +kernel
theorem dX9_fixed_67 : decode cX9_fixed 67 = .ok (.iload_n 1, 1) := by decide +kernel
theorem dX9_fixed_68 : decode cX9_fixed 68 = .ok (.invokevirtual 121, 3) := by decide +kernel
theorem dX9_fixed_71 : decode cX9_fixed 71 = .ok (.ixor, 1) := by decide +kernel
theorem dX9_fixed_72 : decode cX9_fixed 72 = .ok (.iconst (-1), 1) := by decide +kernel
theorem dX9_fixed_73 : decode cX9_fixed 73 = .ok (.ixor, 1) := by decide +kernel
theorem dX9_fixed_74 : decode cX9_fixed 74 = .ok (.iand, 1) := by decide +kernel
theorem dX9_fixed_75 : decode cX9_fixed 75 = .ok (.istore_n 2, 1) := by decide +kernel
theorem dX9_fixed_76 : decode cX9_fixed 76 = .ok (.iinc 3 1, 3) := by decide +kernel
theorem dX9_fixed_79 : decode cX9_fixed 79 = .ok (.goto (-46), 3) := by decide +kernel
theorem dX9_fixed_82 : decode cX9_fixed 82 = .ok (.iload_n 2, 1) := by decide +kernel
theorem dX9_fixed_83 : decode cX9_fixed 83 = .ok (.ireturn, 1) := by decide +kernel
set_option maxRecDepth 20000 in
theorem ggX9_of_X9_isMake : GoodIn wsX9_of wsX9_isMake := goodIn_r _ [6, 7, 8, 9, 5, 10, 33, 34, 35, 36, 37, 38, 39, 40, 41, 42, 43, 44, 45, 46, 47, 48, 49] rfl (by decide +kernel)
set_option maxRecDepth 20000 in
theorem gX9_of_X9_isMake : GoodIn wsX9_of (wsV RX9 54 RX9 yX9_isMake wsX9_isMake) := goodIn_app (goodIn_of _ (by decide +kernel)) ggX9_of_X9_isMake
set_option maxRecDepth 20000 in
theorem ggX9_of_X9_get : GoodIn wsX9_of wsX9_get := goodIn_r _ [14, 15, 33, 34, 35, 36, 37, 38, 39, 40, 41, 42, 43, 44, 45, 46, 47, 48, 49] rfl (by decide +kernel)
set_option maxRecDepth 20000 in
theorem gX9_of_X9_get : GoodIn wsX9_of (wsV RX9 58 RX9 yX9_get wsX9_get) := goodIn_app (goodIn_of _ (by decide +kernel)) ggX9_of_X9_get
set_option maxRecDepth 20000 in
theorem ggX9_of_X9_learnt : GoodIn wsX9_of wsX9_learnt := goodIn_r _ [19, 20, 33, 34, 35, 36, 37, 38, 39, 40, 41, 42, 43, 44, 45, 46, 47, 48, 49] rfl (by decide +kernel)
set_option maxRecDepth 20000 in
theorem gX9_of_X9_learnt : GoodIn wsX9_of (wsV RX9 118 RX9 yX9_learnt wsX9_learnt) := goodIn_app (goodIn_of _ (by decide +kernel)) ggX9_of_X9_learnt
set_option maxRecDepth 20000 in
theorem ggX9_of_X9_fixed : GoodIn wsX9_of wsX9_fixed := goodIn_r _ [24, 20, 16, 17, 18, 5, 19, 11, 12, 13, 14, 15, 25, 26, 27, 28, 29, 30, 31, 32, 33, 34, 35, 36, 37, 38, 39, 40, 41, 42, 43, 44, 45, 46, 47, 48, 49] rfl (by decide +kernel)
set_option maxRecDepth 20000 in
theorem gX9_of_X9_fixed : GoodIn wsX9_of (wsV RX9 124 RX9 yX9_fixed wsX9_fixed) := goodIn_app (goodIn_of _ (by decide +kernel)) ggX9_of_X9_fixed
theorem dX9_of_0 : decode cX9_of 0 = .ok (.aload_n 0, 1) := by decide +kernel
theorem dX9_of_1 : decode cX9_of 1 = .ok (.iconst 0, 1) := by decide +kernel
theorem dX9_of_2 : decode cX9_of 2 = .ok (.putfield 43, 3) := by decide +kernel
theorem dX9_of_5 : decode cX9_of 5 = .ok (.aload_n 0, 1) := by decide +kernel
theorem dX9_of_6 : decode cX9_of 6 = .ok (.iload_n 1, 1) := by decide +kernel
theorem dX9_of_7 : decode cX9_of 7 = .ok (.invokevirtual 54, 3) := by decide +kernel
theorem dX9_of_10 : decode cX9_of 10 = .ok (.ifCond .ne 5, 3) := by decide +kernel
theorem dX9_of_13 : decode cX9_of 13 = .ok (.iconst (-1), 1) := by decide +kernel
theorem dX9_of_14 : decode cX9_of 14 = .ok (.ireturn, 1) := by decide +kernel
theorem dX9_of_15 : decode cX9_of 15 = .ok (.iload_n 2, 1) := by decide +kernel
theorem dX9_of_16 : decode cX9_of 16 = .ok (.tableswitch 94 0 6 #[44, 51, 58, 66, 74, 80, 86], 44) := by decide +kernel
theorem dX9_of_60 : decode cX9_of 60 = .ok (.aload_n 0, 1) := by decide +kernel
theorem dX9_of_61 : decode cX9_of 61 = .ok (.iload_n 1, 1) := by decide +kernel
theorem dX9_of_62 : decode cX9_of 62 = .ok (.iconst 0, 1) := by decide +kernel
theorem dX9_of_63 : decode cX9_of 63 = .ok (.invokevirtual 58, 3) := by decide +kernel
theorem dX9_of_66 : decode cX9_of 66 = .ok (.ireturn, 1) := by decide +kernel
theorem dX9_of_67 : decode cX9_of 67 = .ok (.aload_n 0, 1) := by decide +kernel
theorem dX9_of_68 : decode cX9_of 68 = .ok (.iload_n 1, 1) := by decide +kernel
theorem dX9_of_69 : decode cX9_of 69 = .ok (.iconst 1, 1) := by decide +kernel
theorem dX9_of_70 : decode cX9_of 70 = .ok (.invokevirtual 58, 3) := by decide +kernel
theorem dX9_of_73 : decode cX9_of 73 = .ok (.ireturn, 1) := by decide +kernel
theorem dX9_of_74 : decode cX9_of 74 = .ok (.aload_n 0, 1) := by decide +kernel
theorem dX9_of_75 : decode cX9_of 75 = .ok (.iload_n 1, 1) := by decide +kernel
theorem dX9_of_76 : decode cX9_of 76 = .ok (.bipush 7, 2) := by decide +kernel
theorem dX9_of_78 : decode cX9_of 78 = .ok (.invokevirtual 58, 3) := by decide +kernel
theorem dX9_of_81 : decode cX9_of 81 = .ok (.ireturn, 1) := by decide +kernel
theorem dX9_of_82 : decode cX9_of 82 = .ok (.aload_n 0, 1) := by decide +kernel
theorem dX9_of_83 : decode cX9_of 83 = .ok (.iload_n 1, 1) := by decide +kernel
theorem dX9_of_84 : decode cX9_of 84 = .ok (.bipush 8, 2) := by decide +kernel
theorem dX9_of_86 : decode cX9_of 86 = .ok (.invokevirtual 58, 3) := by decide +kernel
theorem dX9_of_89 : decode cX9_of 89 = .ok (.ireturn, 1) := by decide +kernel
theorem dX9_of_90 : decode cX9_of 90 = .ok (.aload_n 0, 1) := by decide +kernel
theorem dX9_of_91 : decode cX9_of 91 = .ok (.iload_n 1, 1) := by decide +kernel
theorem dX9_of_92 : decode cX9_of 92 = .ok (.invokevirtual 118, 3) := by decide +kernel
theorem dX9_of_95 : decode cX9_of 95 = .ok (.ireturn, 1) := by decide +kernel
theorem dX9_of_96 : decode cX9_of 96 = .ok (.aload_n 0, 1) := by decide +kernel
theorem dX9_of_97 : decode cX9_of 97 = .ok (.iload_n 1, 1) := by decide +kernel
theorem dX9_of_98 : decode cX9_of 98 = .ok (.invokevirtual 124, 3) := by decide +kernel
theorem dX9_of_101 : decode cX9_of 101 = .ok (.ireturn, 1) := by decide +kernel
theorem dX9_of_102 : decode cX9_of 102 = .ok (.aload_n 0, 1) := by decide +kernel
theorem dX9_of_103 : decode cX9_of 103 = .ok (.iload_n 1, 1) := by decide +kernel
theorem dX9_of_104 : decode cX9_of 104 = .ok (.bipush 9, 2) := by decide +kernel
theorem dX9_of_106 : decode cX9_of 106 = .ok (.invokevirtual 58, 3) := by decide +kernel
theorem dX9_of_109 : decode cX9_of 109 = .ok (.ireturn, 1) := by decide +kernel
theorem dX9_of_110 : decode cX9_of 110 = .ok (.iconst (-1), 1) := by decide +kernel
theorem dX9_of_111 : decode cX9_of 111 = .ok (.ireturn, 1) := by decide +kernel
theorem dX9_sumOf_0 : decode cX9_sumOf 0 = .ok (.iconst 0, 1) := by decide +kernel
theorem dX9_sumOf_1 : decode cX9_sumOf 1 = .ok (.istore_n 2, 1) := by decide +kernel
theorem dX9_sumOf_2 : decode cX9_sumOf 2 = .ok (.iload_n 0, 1) := by decide +kernel
theorem dX9_sumOf_3 : decode cX9_sumOf 3 = .ok (.iconst 4, 1) := by decide +kernel
theorem dX9_sumOf_4 : decode cX9_sumOf 4 = .ok (.ishr, 1) := by decide +kernel
theorem dX9_sumOf_5 : decode cX9_sumOf 5 = .ok (.istore_n 3, 1) := by decide +kernel
theorem dX9_sumOf_6 : decode cX9_sumOf 6 = .ok (.iload_n 3, 1) := by decide +kernel
theorem dX9_sumOf_7 : decode cX9_sumOf 7 = .ok (.ifCond .le 34, 3) := by decide +kernel
theorem dX9_sumOf_10 : decode cX9_sumOf 10 = .ok (.iload_n 1, 1) := by decide +kernel
theorem dX9_sumOf_11 : decode cX9_sumOf 11 = .ok (.iconst 1, 1) := by decide +kernel
theorem dX9_sumOf_12 : decode cX9_sumOf 12 = .ok (.if_icmp .ne 15, 3) := by decide +kernel
theorem dX9_sumOf_15 : decode cX9_sumOf 15 = .ok (.iload_n 2, 1) := by decide +kernel
theorem dX9_sumOf_16 : decode cX9_sumOf 16 = .ok (.iload_n 3, 1) := by decide +kernel
theorem dX9_sumOf_17 : decode cX9_sumOf 17 = .ok (.bipush 15, 2) := by decide +kernel
theorem dX9_sumOf_19 : decode cX9_sumOf 19 = .ok (.iand, 1) := by decide +kernel
theorem dX9_sumOf_20 : decode cX9_sumOf 20 = .ok (.iadd, 1) := by decide +kernel
theorem dX9_sumOf_21 : decode cX9_sumOf 21 = .ok (.bipush 15, 2) := by decide +kernel
theorem dX9_sumOf_23 : decode cX9_sumOf 23 = .ok (.iand, 1) := by decide +kernel
theorem dX9_sumOf_24 : decode cX9_sumOf 24 = .ok (.goto 9, 3) := by decide +kernel
theorem dX9_sumOf_27 : decode cX9_sumOf 27 = .ok (.iload_n 2, 1) := by decide +kernel
theorem dX9_sumOf_28 : decode cX9_sumOf 28 = .ok (.iload_n 3, 1) := by decide +kernel
theorem dX9_sumOf_29 : decode cX9_sumOf 29 = .ok (.bipush 15, 2) := by decide +kernel
theorem dX9_sumOf_31 : decode cX9_sumOf 31 = .ok (.iand, 1) := by decide +kernel
theorem dX9_sumOf_32 : decode cX9_sumOf 32 = .ok (.ixor, 1) := by decide +kernel
theorem dX9_sumOf_33 : decode cX9_sumOf 33 = .ok (.istore_n 2, 1) := by decide +kernel
theorem dX9_sumOf_34 : decode cX9_sumOf 34 = .ok (.iload_n 3, 1) := by decide +kernel
theorem dX9_sumOf_35 : decode cX9_sumOf 35 = .ok (.iconst 4, 1) := by decide +kernel
theorem dX9_sumOf_36 : decode cX9_sumOf 36 = .ok (.ishr, 1) := by decide +kernel
theorem dX9_sumOf_37 : decode cX9_sumOf 37 = .ok (.istore_n 3, 1) := by decide +kernel
theorem dX9_sumOf_38 : decode cX9_sumOf 38 = .ok (.goto (-32), 3) := by decide +kernel
theorem dX9_sumOf_41 : decode cX9_sumOf 41 = .ok (.iload_n 2, 1) := by decide +kernel
theorem dX9_sumOf_42 : decode cX9_sumOf 42 = .ok (.ireturn, 1) := by decide +kernel
set_option maxRecDepth 20000 in
theorem ggX9_numberOf_X9_get : GoodIn wsX9_numberOf wsX9_get := goodIn_r _ [5, 6, 10, 11, 12, 13, 14, 15, 16, 17, 18, 19, 20, 21, 22, 23, 24, 25, 26] rfl (by decide +kernel)
set_option maxRecDepth 20000 in
theorem gX9_numberOf_X9_get : GoodIn wsX9_numberOf (wsV RX9 58 RX9 yX9_get wsX9_get) := goodIn_app (goodIn_of _ (by decide +kernel)) ggX9_numberOf_X9_get
set_option maxRecDepth 20000 in
theorem ggX9_numberOf_X9_sumOf : GoodIn wsX9_numberOf wsX9_sumOf := goodIn_r _ [9] rfl (by decide +kernel)
set_option maxRecDepth 20000 in
theorem gX9_numberOf_X9_sumOf : GoodIn wsX9_numberOf (va_wsS RX9 127 yX9_sumOf wsX9_sumOf) := goodIn_app (goodIn_of _ (by decide +kernel)) ggX9_numberOf_X9_sumOf
theorem dX9_numberOf_0 : decode cX9_numberOf 0 = .ok (.aload_n 0, 1) := by decide +kernel
theorem dX9_numberOf_1 : decode cX9_numberOf 1 = .ok (.iload_n 1, 1) := by decide +kernel
theorem dX9_numberOf_2 : decode cX9_numberOf 2 = .ok (.iconst 1, 1) := by decide +kernel
theorem dX9_numberOf_3 : decode cX9_numberOf 3 = .ok (.invokevirtual 58, 3) := by decide +kernel
theorem dX9_numberOf_6 : decode cX9_numberOf 6 = .ok (.istore 4, 2) := by decide +kernel
theorem dX9_numberOf_8 : decode cX9_numberOf 8 = .ok (.iload 4, 2) := by decide +kernel
theorem dX9_numberOf_10 : decode cX9_numberOf 10 = .ok (.iconst 5, 1) := by decide +kernel
theorem dX9_numberOf_11 : decode cX9_numberOf 11 = .ok (.if_icmp .ge 5, 3) := by decide +kernel
theorem dX9_numberOf_14 : decode cX9_numberOf 14 = .ok (.iconst (-1), 1) := by decide +kernel
theorem dX9_numberOf_15 : decode cX9_numberOf 15 = .ok (.ireturn, 1) := by decide +kernel
theorem dX9_numberOf_16 : decode cX9_numberOf 16 = .ok (.iload_n 3, 1) := by decide +kernel
theorem dX9_numberOf_17 : decode cX9_numberOf 17 = .ok (.iconst 1, 1) := by decide +kernel
theorem dX9_numberOf_18 : decode cX9_numberOf 18 = .ok (.if_icmp .ne 17, 3) := by decide +kernel
theorem dX9_numberOf_21 : decode cX9_numberOf 21 = .ok (.iload_n 2, 1) := by decide +kernel
theorem dX9_numberOf_22 : decode cX9_numberOf 22 = .ok (.bipush 15, 2) := by decide +kernel
theorem dX9_numberOf_24 : decode cX9_numberOf 24 = .ok (.iand, 1) := by decide +kernel
theorem dX9_numberOf_25 : decode cX9_numberOf 25 = .ok (.iload_n 2, 1) := by decide +kernel
theorem dX9_numberOf_26 : decode cX9_numberOf 26 = .ok (.iconst 1, 1) := by decide +kernel
theorem dX9_numberOf_27 : decode cX9_numberOf 27 = .ok (.invokestatic 127, 3) := by decide +kernel
theorem dX9_numberOf_30 : decode cX9_numberOf 30 = .ok (.isub, 1) := by decide +kernel
theorem dX9_numberOf_31 : decode cX9_numberOf 31 = .ok (.bipush 15, 2) := by decide +kernel
theorem dX9_numberOf_33 : decode cX9_numberOf 33 = .ok (.iand, 1) := by decide +kernel
theorem dX9_numberOf_34 : decode cX9_numberOf 34 = .ok (.ireturn, 1) := by decide +kernel
theorem dX9_numberOf_35 : decode cX9_numberOf 35 = .ok (.iload_n 3, 1) := by decide +kernel
theorem dX9_numberOf_36 : decode cX9_numberOf 36 = .ok (.iconst 2, 1) := by decide +kernel
theorem dX9_numberOf_37 : decode cX9_numberOf 37 = .ok (.if_icmp .ne 14, 3) := by decide +kernel
theorem dX9_numberOf_40 : decode cX9_numberOf 40 = .ok (.iload_n 2, 1) := by decide +kernel
theorem dX9_numberOf_41 : decode cX9_numberOf 41 = .ok (.bipush 15, 2) := by decide +kernel
theorem dX9_numberOf_43 : decode cX9_numberOf 43 = .ok (.iand, 1) := by decide +kernel
theorem dX9_numberOf_44 : decode cX9_numberOf 44 = .ok (.iload_n 2, 1) := by decide +kernel
theorem dX9_numberOf_45 : decode cX9_numberOf 45 = .ok (.iconst 2, 1) := by decide +kernel
theorem dX9_numberOf_46 : decode cX9_numberOf 46 = .ok (.invokestatic 127, 3) := by decide +kernel
theorem dX9_numberOf_49 : decode cX9_numberOf 49 = .ok (.ixor, 1) := by decide +kernel
theorem dX9_numberOf_50 : decode cX9_numberOf 50 = .ok (.ireturn, 1) := by decide +kernel
theorem dX9_numberOf_51 : decode cX9_numberOf 51 = .ok (.iload 4, 2) := by decide +kernel
theorem dX9_numberOf_53 : decode cX9_numberOf 53 = .ok (.iconst 2, 1) := by decide +kernel
theorem dX9_numberOf_54 : decode cX9_numberOf 54 = .ok (.irem, 1) := by decide +kernel
theorem dX9_numberOf_55 : decode cX9_numberOf 55 = .ok (.iconst 1, 1) := by decide +kernel
theorem dX9_numberOf_56 : decode cX9_numberOf 56 = .ok (.if_icmp .eq 14, 3) := by decide +kernel
theorem dX9_numberOf_59 : decode cX9_numberOf 59 = .ok (.aload_n 0, 1) := by decide +kernel
theorem dX9_numberOf_60 : decode cX9_numberOf 60 = .ok (.iload_n 1, 1) := by decide +kernel
theorem dX9_numberOf_61 : decode cX9_numberOf 61 = .ok (.bipush 8, 2) := by decide +kernel
theorem dX9_numberOf_63 : decode cX9_numberOf 63 = .ok (.invokevirtual 58, 3) := by decide +kernel
theorem dX9_numberOf_66 : decode cX9_numberOf 66 = .ok (.iconst (-1), 1) := by decide +kernel
theorem dX9_numberOf_67 : decode cX9_numberOf 67 = .ok (.if_icmp .eq 5, 3) := by decide +kernel
theorem dX9_numberOf_70 : decode cX9_numberOf 70 = .ok (.iconst (-1), 1) := by decide +kernel
theorem dX9_numberOf_71 : decode cX9_numberOf 71 = .ok (.ireturn, 1) := by decide +kernel
theorem dX9_numberOf_72 : decode cX9_numberOf 72 = .ok (.iconst 1, 1) := by decide +kernel
theorem dX9_numberOf_73 : decode cX9_numberOf 73 = .ok (.iload 4, 2) := by decide +kernel
theorem dX9_numberOf_75 : decode cX9_numberOf 75 = .ok (.iconst 2, 1) := by decide +kernel
theorem dX9_numberOf_76 : decode cX9_numberOf 76 = .ok (.idiv, 1) := by decide +kernel
theorem dX9_numberOf_77 : decode cX9_numberOf 77 = .ok (.ishl, 1) := by decide +kernel
theorem dX9_numberOf_78 : decode cX9_numberOf 78 = .ok (.iconst 1, 1) := by decide +kernel
theorem dX9_numberOf_79 : decode cX9_numberOf 79 = .ok (.isub, 1) := by decide +kernel
theorem dX9_numberOf_80 : decode cX9_numberOf 80 = .ok (.istore 5, 2) := by decide +kernel
theorem dX9_numberOf_82 : decode cX9_numberOf 82 = .ok (.iload_n 2, 1) := by decide +kernel
theorem dX9_numberOf_83 : decode cX9_numberOf 83 = .ok (.iload 4, 2) := by decide +kernel
theorem dX9_numberOf_85 : decode cX9_numberOf 85 = .ok (.iconst 2, 1) := by decide +kernel
theorem dX9_numberOf_86 : decode cX9_numberOf 86 = .ok (.idiv, 1) := by decide +kernel
theorem dX9_numberOf_87 : decode cX9_numberOf 87 = .ok (.ishr, 1) := by decide +kernel
theorem dX9_numberOf_88 : decode cX9_numberOf 88 = .ok (.iload_n 2, 1) := by decide +kernel
theorem dX9_numberOf_89 : decode cX9_numberOf 89 = .ok (.iload 5, 2) := by decide +kernel
theorem dX9_numberOf_91 : decode cX9_numberOf 91 = .ok (.iand, 1) := by decide +kernel
theorem dX9_numberOf_92 : decode cX9_numberOf 92 = .ok (.ixor, 1) := by decide +kernel
theorem dX9_numberOf_93 : decode cX9_numberOf 93 = .ok (.iload 5, 2) := by decide +kernel
theorem dX9_numberOf_95 : decode cX9_numberOf 95 = .ok (.if_icmp .ne 7, 3) := by decide +kernel
theorem dX9_numberOf_98 : decode cX9_numberOf 98 = .ok (.iconst 0, 1) := by decide +kernel
theorem dX9_numberOf_99 : decode cX9_numberOf 99 = .ok (.goto 4, 3) := by decide +kernel
theorem dX9_numberOf_102 : decode cX9_numberOf 102 = .ok (.iconst (-1), 1) := by decide +kernel
theorem dX9_numberOf_103 : decode cX9_numberOf 103 = .ok (.ireturn, 1) := by decide +kernel
set_option maxRecDepth 20000 in
theorem ggX9_checkOf_X9_learnt : GoodIn wsX9_checkOf wsX9_learnt := goodIn_r _ [6, 1, 23, 24, 25, 26, 27, 28, 29, 30, 31, 32, 33, 34, 35, 36, 37, 38, 39] rfl (by decide +kernel)
set_option maxRecDepth 20000 in
theorem gX9_checkOf_X9_learnt : GoodIn wsX9_checkOf (wsV RX9 118 RX9 yX9_learnt wsX9_learnt) := goodIn_app (goodIn_of _ (by decide +kernel)) ggX9_checkOf_X9_learnt
set_option maxRecDepth 20000 in
theorem ggX9_checkOf_X9_some : GoodIn wsX9_checkOf wsX9_some := goodIn_r _ [10, 1, 23, 24, 25, 26, 27, 28, 29, 30, 31, 32, 33, 34, 35, 36, 37, 38, 39] rfl (by decide +kernel)
set_option maxRecDepth 20000 in
theorem gX9_checkOf_X9_some : GoodIn wsX9_checkOf (wsV RX9 121 RX9 yX9_some wsX9_some) := goodIn_app (goodIn_of _ (by decide +kernel)) ggX9_checkOf_X9_some
set_option maxRecDepth 20000 in
theorem ggX9_checkOf_X9_numberOf : GoodIn wsX9_checkOf wsX9_numberOf := goodIn_r _ [14, 15, 16, 17, 5, 18, 19, 20, 21, 22, 23, 24, 25, 26, 27, 28, 29, 30, 31, 32, 33, 34, 35, 36, 37, 38, 39] rfl (by decide +kernel)
set_option maxRecDepth 20000 in
theorem gX9_checkOf_X9_numberOf : GoodIn wsX9_checkOf (wsV RX9 130 RX9 yX9_numberOf wsX9_numberOf) := goodIn_app (goodIn_of _ (by decide +kernel)) ggX9_checkOf_X9_numberOf
theorem dX9_checkOf_0 : decode cX9_checkOf 0 = .ok (.aload_n 0, 1) := by decide +kernel
theorem dX9_checkOf_1 : decode cX9_checkOf 1 = .ok (.iload_n 1, 1) := by decide +kernel
theorem dX9_checkOf_2 : decode cX9_checkOf 2 = .ok (.invokevirtual 118, 3) := by decide +kernel
theorem dX9_checkOf_5 : decode cX9_checkOf 5 = .ok (.iconst 2, 1) := by decide +kernel
theorem dX9_checkOf_6 : decode cX9_checkOf 6 = .ok (.if_icmp .ge 5, 3) := by decide +kernel
theorem dX9_checkOf_9 : decode cX9_checkOf 9 = .ok (.iconst (-1), 1) := by decide +kernel
theorem dX9_checkOf_10 : decode cX9_checkOf 10 = .ok (.ireturn, 1) := by decide +kernel
theorem dX9_checkOf_11 : decode cX9_checkOf 11 = .ok (.aload_n 0, 1) := by decide +kernel
theorem dX9_checkOf_12 : decode cX9_checkOf 12 = .ok (.iload_n 1, 1) := by decide +kernel
theorem dX9_checkOf_13 : decode cX9_checkOf 13 = .ok (.aload_n 0, 1) := by decide +kernel
theorem dX9_checkOf_14 : decode cX9_checkOf 14 = .ok (.iload_n 1, 1) := by decide +kernel
theorem dX9_checkOf_15 : decode cX9_checkOf 15 = .ok (.invokevirtual 121, 3) := by decide +kernel
theorem dX9_checkOf_18 : decode cX9_checkOf 18 = .ok (.iload_n 2, 1) := by decide +kernel
theorem dX9_checkOf_19 : decode cX9_checkOf 19 = .ok (.invokevirtual 130, 3) := by decide +kernel
theorem dX9_checkOf_22 : decode cX9_checkOf 22 = .ok (.istore_n 3, 1) := by decide +kernel
theorem dX9_checkOf_23 : decode cX9_checkOf 23 = .ok (.iconst 0, 1) := by decide +kernel
theorem dX9_checkOf_24 : decode cX9_checkOf 24 = .ok (.istore 4, 2) := by decide +kernel
theorem dX9_checkOf_26 : decode cX9_checkOf 26 = .ok (.iload 4, 2) := by decide +kernel
theorem dX9_checkOf_28 : decode cX9_checkOf 28 = .ok (.bipush 16, 2) := by decide +kernel
theorem dX9_checkOf_30 : decode cX9_checkOf 30 = .ok (.if_icmp .ge 49, 3) := by decide +kernel
theorem dX9_checkOf_33 : decode cX9_checkOf 33 = .ok (.aload_n 0, 1) := by decide +kernel
theorem dX9_checkOf_34 : decode cX9_checkOf 34 = .ok (.getfield 16, 3) := by decide +kernel
theorem dX9_checkOf_37 : decode cX9_checkOf 37 = .ok (.bipush 16, 2) := by decide +kernel
theorem dX9_checkOf_39 : decode cX9_checkOf 39 = .ok (.iload_n 1, 1) := by decide +kernel
theorem dX9_checkOf_40 : decode cX9_checkOf 40 = .ok (.imul, 1) := by decide +kernel
theorem dX9_checkOf_41 : decode cX9_checkOf 41 = .ok (.iload 4, 2) := by decide +kernel
theorem dX9_checkOf_43 : decode cX9_checkOf 43 = .ok (.iadd, 1) := by decide +kernel
theorem dX9_checkOf_44 : decode cX9_checkOf 44 = .ok (.iaload, 1) := by decide +kernel
theorem dX9_checkOf_45 : decode cX9_checkOf 45 = .ok (.iconst (-1), 1) := by decide +kernel
theorem dX9_checkOf_46 : decode cX9_checkOf 46 = .ok (.if_icmp .eq 27, 3) := by decide +kernel
theorem dX9_checkOf_49 : decode cX9_checkOf 49 = .ok (.aload_n 0, 1) := by decide +kernel
theorem dX9_checkOf_50 : decode cX9_checkOf 50 = .ok (.iload_n 1, 1) := by decide +kernel
theorem dX9_checkOf_51 : decode cX9_checkOf 51 = .ok (.aload_n 0, 1) := by decide +kernel
theorem dX9_checkOf_52 : decode cX9_checkOf 52 = .ok (.getfield 16, 3) := by decide +kernel
theorem dX9_checkOf_55 : decode cX9_checkOf 55 = .ok (.bipush 16, 2) := by decide +kernel
theorem dX9_checkOf_57 : decode cX9_checkOf 57 = .ok (.iload_n 1, 1) := by decide +kernel
theorem dX9_checkOf_58 : decode cX9_checkOf 58 = .ok (.imul, 1) := by decide +kernel
theorem dX9_checkOf_59 : decode cX9_checkOf 59 = .ok (.iload 4, 2) := by decide +kernel
theorem dX9_checkOf_61 : decode cX9_checkOf 61 = .ok (.iadd, 1) := by decide +kernel
theorem dX9_checkOf_62 : decode cX9_checkOf 62 = .ok (.iaload, 1) := by decide +kernel
theorem dX9_checkOf_63 : decode cX9_checkOf 63 = .ok (.iload_n 2, 1) := by decide +kernel
theorem dX9_checkOf_64 : decode cX9_checkOf 64 = .ok (.invokevirtual 130, 3) := by decide +kernel
theorem dX9_checkOf_67 : decode cX9_checkOf 67 = .ok (.iload_n 3, 1) := by decide +kernel
theorem dX9_checkOf_68 : decode cX9_checkOf 68 = .ok (.if_icmp .eq 5, 3) := by decide +kernel
theorem dX9_checkOf_71 : decode cX9_checkOf 71 = .ok (.iconst (-1), 1) := by decide +kernel
theorem dX9_checkOf_72 : decode cX9_checkOf 72 = .ok (.ireturn, 1) := by decide +kernel
theorem dX9_checkOf_73 : decode cX9_checkOf 73 = .ok (.iinc 4 1, 3) := by decide +kernel
theorem dX9_checkOf_76 : decode cX9_checkOf 76 = .ok (.goto (-50), 3) := by decide +kernel
theorem dX9_checkOf_79 : decode cX9_checkOf 79 = .ok (.iload_n 3, 1) := by decide +kernel
theorem dX9_checkOf_80 : decode cX9_checkOf 80 = .ok (.ireturn, 1) := by decide +kernel
set_option maxRecDepth 20000 in
theorem ggX9_check_X9_isMake : GoodIn wsX9_check wsX9_isMake := goodIn_r _ [6, 7, 8, 9, 5, 10, 36, 37, 38, 39, 40, 41, 42, 43, 44, 45, 46, 47, 48, 49, 50, 51, 52] rfl (by decide +kernel)
set_option maxRecDepth 20000 in
theorem gX9_check_X9_isMake : GoodIn wsX9_check (wsV RX9 54 RX9 yX9_isMake wsX9_isMake) := goodIn_app (goodIn_of _ (by decide +kernel)) ggX9_check_X9_isMake
set_option maxRecDepth 20000 in
theorem ggX9_check_X9_in : GoodIn wsX9_check wsX9_in := goodIn_r _ [10] rfl (by decide +kernel)
set_option maxRecDepth 20000 in
theorem gX9_check_X9_in : GoodIn wsX9_check (va_wsS RX9 50 yX9_in wsX9_in) := goodIn_app (goodIn_of _ (by decide +kernel)) ggX9_check_X9_in
set_option maxRecDepth 20000 in
theorem ggX9_check_X9_checkOf : GoodIn wsX9_check wsX9_checkOf := goodIn_r _ [14, 15, 16, 17, 18, 5, 19, 20, 21, 22, 23, 24, 25, 26, 27, 28, 29, 30, 31, 32, 33, 34, 35, 36, 37, 38, 39, 40, 41, 42, 43, 44, 45, 46, 47, 48, 49, 50, 51, 52] rfl (by decide +kernel)
set_option maxRecDepth 20000 in
theorem gX9_check_X9_checkOf : GoodIn wsX9_check (wsV RX9 134 RX9 yX9_checkOf wsX9_checkOf) := goodIn_app (goodIn_of _ (by decide +kernel)) ggX9_check_X9_checkOf
theorem dX9_check_0 : decode cX9_check 0 = .ok (.aload_n 0, 1) := by decide +kernel
theorem dX9_check_1 : decode cX9_check 1 = .ok (.iconst 0, 1) := by decide +kernel
theorem dX9_check_2 : decode cX9_check 2 = .ok (.putfield 43, 3) := by decide +kernel
theorem dX9_check_5 : decode cX9_check 5 = .ok (.aload_n 0, 1) := by decide +kernel
theorem dX9_check_6 : decode cX9_check 6 = .ok (.iload_n 1, 1) := by decide +kernel
theorem dX9_check_7 : decode cX9_check 7 = .ok (.invokevirtual 54, 3) := by decide +kernel
theorem dX9_check_10 : decode cX9_check 10 = .ok (.ifCond .eq 21, 3) := by decide +kernel
theorem dX9_check_13 : decode cX9_check 13 = .ok (.iload_n 2, 1) := by decide +kernel
theorem dX9_check_14 : decode cX9_check 14 = .ok (.iconst 1, 1) := by decide +kernel
theorem dX9_check_15 : decode cX9_check 15 = .ok (.iconst 3, 1) := by decide +kernel
theorem dX9_check_16 : decode cX9_check 16 = .ok (.invokestatic 50, 3) := by decide +kernel
theorem dX9_check_19 : decode cX9_check 19 = .ok (.ifCond .eq 12, 3) := by decide +kernel
theorem dX9_check_22 : decode cX9_check 22 = .ok (.aload_n 0, 1) := by decide +kernel
theorem dX9_check_23 : decode cX9_check 23 = .ok (.iload_n 1, 1) := by decide +kernel
theorem dX9_check_24 : decode cX9_check 24 = .ok (.iload_n 2, 1) := by decide +kernel
theorem dX9_check_25 : decode cX9_check 25 = .ok (.invokevirtual 134, 3) := by decide +kernel
theorem dX9_check_28 : decode cX9_check 28 = .ok (.goto 4, 3) := by decide +kernel
theorem dX9_check_31 : decode cX9_check 31 = .ok (.iconst (-1), 1) := by decide +kernel
theorem dX9_check_32 : decode cX9_check 32 = .ok (.ireturn, 1) := by decide +kernel
set_option maxRecDepth 20000 in
theorem ggX9_canForesee_X9_isMake : GoodIn wsX9_canForesee wsX9_isMake := goodIn_r _ [5, 6, 7, 8, 4, 9, 39, 40, 41, 42, 43, 44, 45, 46, 47, 48, 49, 50, 51, 52, 53, 54, 55] rfl (by decide +kernel)
set_option maxRecDepth 20000 in
theorem gX9_canForesee_X9_isMake : GoodIn wsX9_canForesee (wsV RX9 54 RX9 yX9_isMake wsX9_isMake) := goodIn_app (goodIn_of _ (by decide +kernel)) ggX9_canForesee_X9_isMake
set_option maxRecDepth 20000 in
theorem ggX9_canForesee_X9_learnt : GoodIn wsX9_canForesee wsX9_learnt := goodIn_r _ [13, 14, 39, 40, 41, 42, 43, 44, 45, 46, 47, 48, 49, 50, 51, 52, 53, 54, 55] rfl (by decide +kernel)
set_option maxRecDepth 20000 in
theorem gX9_canForesee_X9_learnt : GoodIn wsX9_canForesee (wsV RX9 118 RX9 yX9_learnt wsX9_learnt) := goodIn_app (goodIn_of _ (by decide +kernel)) ggX9_canForesee_X9_learnt
set_option maxRecDepth 20000 in
theorem ggX9_canForesee_X9_get : GoodIn wsX9_canForesee wsX9_get := goodIn_r _ [18, 19, 39, 40, 41, 42, 43, 44, 45, 46, 47, 48, 49, 50, 51, 52, 53, 54, 55] rfl (by decide +kernel)
set_option maxRecDepth 20000 in
theorem gX9_canForesee_X9_get : GoodIn wsX9_canForesee (wsV RX9 58 RX9 yX9_get wsX9_get) := goodIn_app (goodIn_of _ (by decide +kernel)) ggX9_canForesee_X9_get
set_option maxRecDepth 20000 in
theorem ggX9_canForesee_X9_flipOf : GoodIn wsX9_canForesee wsX9_flipOf := goodIn_r _ [23, 15, 16, 17, 4, 18, 19, 39, 40, 41, 42, 43, 44, 45, 46, 47, 48, 49, 50, 51, 52, 53, 54, 55] rfl (by decide +kernel)
set_option maxRecDepth 20000 in
theorem gX9_canForesee_X9_flipOf : GoodIn wsX9_canForesee (wsV RX9 115 RX9 yX9_flipOf wsX9_flipOf) := goodIn_app (goodIn_of _ (by decide +kernel)) ggX9_canForesee_X9_flipOf
set_option maxRecDepth 20000 in
theorem ggX9_canForesee_X9_fixed : GoodIn wsX9_canForesee wsX9_fixed := goodIn_r _ [27, 14, 10, 11, 12, 4, 13, 15, 16, 17, 18, 19, 20, 21, 22, 23, 28, 29, 30, 31, 39, 40, 41, 42, 43, 44, 45, 46, 47, 48, 49, 50, 51, 52, 53, 54, 55] rfl (by decide +kernel)
set_option maxRecDepth 20000 in
theorem gX9_canForesee_X9_fixed : GoodIn wsX9_canForesee (wsV RX9 124 RX9 yX9_fixed wsX9_fixed) := goodIn_app (goodIn_of _ (by decide +kernel)) ggX9_canForesee_X9_fixed
set_option maxRecDepth 20000 in
theorem ggX9_canForesee_J6_bitCount_0f7a4 : GoodIn wsX9_canForesee wsJ6_bitCount_0f7a4 := goodIn_r _ [35, 36, 37, 38] rfl (by decide +kernel)
set_option maxRecDepth 20000 in
theorem gX9_canForesee_J6_bitCount_0f7a4 : GoodIn wsX9_canForesee (va_wsS RX9 137 yJ6_bitCount_0f7a4 wsJ6_bitCount_0f7a4) := goodIn_app (goodIn_of _ (by decide +kernel)) ggX9_canForesee_J6_bitCount_0f7a4
theorem dX9_canForesee_0 : decode cX9_canForesee 0 = .ok (.aload_n 0, 1) := by decide +kernel
theorem dX9_canForesee_1 : decode cX9_canForesee 1 = .ok (.iload_n 1, 1) := by decide +kernel
theorem dX9_canForesee_2 : decode cX9_canForesee 2 = .ok (.invokevirtual 54, 3) := by decide +kernel
theorem dX9_canForesee_5 : decode cX9_canForesee 5 = .ok (.ifCond .eq 49, 3) := by decide +kernel
theorem dX9_canForesee_8 : decode cX9_canForesee 8 = .ok (.aload_n 0, 1) := by decide +kernel
theorem dX9_canForesee_9 : decode cX9_canForesee 9 = .ok (.iload_n 1, 1) := by decide +kernel
theorem dX9_canForesee_10 : decode cX9_canForesee 10 = .ok (.invokevirtual 118, 3) := by decide +kernel
theorem dX9_canForesee_13 : decode cX9_canForesee 13 = .ok (.ifCond .le 41, 3) := by decide +kernel
theorem dX9_canForesee_16 : decode cX9_canForesee 16 = .ok (.iconst 1, 1) := by decide +kernel
theorem dX9_canForesee_17 : decode cX9_canForesee 17 = .ok (.aload_n 0, 1) := by decide +kernel
theorem dX9_canForesee_18 : decode cX9_canForesee 18 = .ok (.iload_n 1, 1) := by decide +kernel
theorem dX9_canForesee_19 : decode cX9_canForesee 19 = .ok (.iconst 1, 1) := by decide +kernel
theorem dX9_canForesee_20 : decode cX9_canForesee 20 = .ok (.invokevirtual 58, 3) := by decide +kernel
theorem dX9_canForesee_23 : decode cX9_canForesee 23 = .ok (.ishl, 1) := by decide +kernel
theorem dX9_canForesee_24 : decode cX9_canForesee 24 = .ok (.iconst 1, 1) := by decide +kernel
theorem dX9_canForesee_25 : decode cX9_canForesee 25 = .ok (.isub, 1) := by decide +kernel
theorem dX9_canForesee_26 : decode cX9_canForesee 26 = .ok (.aload_n 0, 1) := by decide +kernel
theorem dX9_canForesee_27 : decode cX9_canForesee 27 = .ok (.iload_n 1, 1) := by decide +kernel
theorem dX9_canForesee_28 : decode cX9_canForesee 28 = .ok (.invokevirtual 115, 3) := by decide +kernel
theorem dX9_canForesee_31 : decode cX9_canForesee 31 = .ok (.iconst (-1), 1) := by decide +kernel
theorem dX9_canForesee_32 : decode cX9_canForesee 32 = .ok (.ixor, 1) := by decide +kernel
theorem dX9_canForesee_33 : decode cX9_canForesee 33 = .ok (.iand, 1) := by decide +kernel
theorem dX9_canForesee_34 : decode cX9_canForesee 34 = .ok (.aload_n 0, 1) := by decide +kernel
theorem dX9_canForesee_35 : decode cX9_canForesee 35 = .ok (.iload_n 1, 1) := by decide +kernel
theorem dX9_canForesee_36 : decode cX9_canForesee 36 = .ok (.invokevirtual 124, 3) := by decide +kernel
theorem dX9_canForesee_39 : decode cX9_canForesee 39 = .ok (.iconst (-1), 1) := by decide +kernel
theorem dX9_canForesee_40 : decode cX9_canForesee 40 = .ok (.ixor, 1) := by decide +kernel
theorem dX9_canForesee_41 : decode cX9_canForesee 41 = .ok (.iand, 1) := by decide +kernel
theorem dX9_canForesee_42 : decode cX9_canForesee 42 = .ok (.invokestatic 137, 3) := by decide +kernel
theorem dX9_canForesee_45 : decode cX9_canForesee 45 = .ok (.bipush 14, 2) := by decide +kernel
theorem dX9_canForesee_47 : decode cX9_canForesee 47 = .ok (.if_icmp .gt 7, 3) := by decide +kernel
theorem dX9_canForesee_50 : decode cX9_canForesee 50 = .ok (.iconst 1, 1) := by decide +kernel
theorem dX9_canForesee_51 : decode cX9_canForesee 51 = .ok (.goto 4, 3) := by decide +kernel
theorem dX9_canForesee_54 : decode cX9_canForesee 54 = .ok (.iconst 0, 1) := by decide +kernel
theorem dX9_canForesee_55 : decode cX9_canForesee 55 = .ok (.ireturn, 1) := by decide +kernel
set_option maxRecDepth 20000 in
theorem ggX9_isForeseen_X9_checkOf : GoodIn wsX9_isForeseen wsX9_checkOf := goodIn_r _ [5, 6, 7, 8, 9, 4, 10, 11, 12, 13, 14, 15, 16, 17, 18, 19, 20, 21, 22, 23, 24, 25, 26, 27, 28, 29, 30, 31, 32, 33, 34, 35, 36, 37, 38, 39, 40, 41, 42, 43] rfl (by decide +kernel)
set_option maxRecDepth 20000 in
theorem gX9_isForeseen_X9_checkOf : GoodIn wsX9_isForeseen (wsV RX9 134 RX9 yX9_checkOf wsX9_checkOf) := goodIn_app (goodIn_of _ (by decide +kernel)) ggX9_isForeseen_X9_checkOf
set_option maxRecDepth 20000 in
theorem ggX9_isForeseen_X9_numberOf : GoodIn wsX9_isForeseen wsX9_numberOf := goodIn_r _ [18, 19, 20, 21, 4, 22, 23, 24, 25, 26, 27, 28, 29, 30, 31, 32, 33, 34, 35, 36, 37, 38, 39, 40, 41, 42, 43] rfl (by decide +kernel)
set_option maxRecDepth 20000 in
theorem gX9_isForeseen_X9_numberOf : GoodIn wsX9_isForeseen (wsV RX9 130 RX9 yX9_numberOf wsX9_numberOf) := goodIn_app (goodIn_of _ (by decide +kernel)) ggX9_isForeseen_X9_numberOf
theorem dX9_isForeseen_0 : decode cX9_isForeseen 0 = .ok (.iconst 1, 1) := by decide +kernel
theorem dX9_isForeseen_1 : decode cX9_isForeseen 1 = .ok (.istore_n 3, 1) := by decide +kernel
theorem dX9_isForeseen_2 : decode cX9_isForeseen 2 = .ok (.iload_n 3, 1) := by decide +kernel
theorem dX9_isForeseen_3 : decode cX9_isForeseen 3 = .ok (.iconst 4, 1) := by decide +kernel
theorem dX9_isForeseen_4 : decode cX9_isForeseen 4 = .ok (.if_icmp .ge 37, 3) := by decide +kernel
theorem dX9_isForeseen_7 : decode cX9_isForeseen 7 = .ok (.aload_n 0, 1) := by decide +kernel
theorem dX9_isForeseen_8 : decode cX9_isForeseen 8 = .ok (.iload_n 1, 1) := by decide +kernel
theorem dX9_isForeseen_9 : decode cX9_isForeseen 9 = .ok (.iload_n 3, 1) := by decide +kernel
theorem dX9_isForeseen_10 : decode cX9_isForeseen 10 = .ok (.invokevirtual 134, 3) := by decide +kernel
theorem dX9_isForeseen_13 : decode cX9_isForeseen 13 = .ok (.iconst (-1), 1) := by decide +kernel
theorem dX9_isForeseen_14 : decode cX9_isForeseen 14 = .ok (.if_icmp .eq 21, 3) := by decide +kernel
theorem dX9_isForeseen_17 : decode cX9_isForeseen 17 = .ok (.aload_n 0, 1) := by decide +kernel
theorem dX9_isForeseen_18 : decode cX9_isForeseen 18 = .ok (.iload_n 1, 1) := by decide +kernel
theorem dX9_isForeseen_19 : decode cX9_isForeseen 19 = .ok (.iload_n 2, 1) := by decide +kernel
theorem dX9_isForeseen_20 : decode cX9_isForeseen 20 = .ok (.iload_n 3, 1) := by decide +kernel
theorem dX9_isForeseen_21 : decode cX9_isForeseen 21 = .ok (.invokevirtual 130, 3) := by decide +kernel
theorem dX9_isForeseen_24 : decode cX9_isForeseen 24 = .ok (.aload_n 0, 1) := by decide +kernel
theorem dX9_isForeseen_25 : decode cX9_isForeseen 25 = .ok (.iload_n 1, 1) := by decide +kernel
theorem dX9_isForeseen_26 : decode cX9_isForeseen 26 = .ok (.iload_n 3, 1) := by decide +kernel
theorem dX9_isForeseen_27 : decode cX9_isForeseen 27 = .ok (.invokevirtual 134, 3) := by decide +kernel
theorem dX9_isForeseen_30 : decode cX9_isForeseen 30 = .ok (.if_icmp .eq 5, 3) := by decide +kernel
theorem dX9_isForeseen_33 : decode cX9_isForeseen 33 = .ok (.iconst 0, 1) := by decide +kernel
theorem dX9_isForeseen_34 : decode cX9_isForeseen 34 = .ok (.ireturn, 1) := by decide +kernel
theorem dX9_isForeseen_35 : decode cX9_isForeseen 35 = .ok (.iinc 3 1, 3) := by decide +kernel
theorem dX9_isForeseen_38 : decode cX9_isForeseen 38 = .ok (.goto (-36), 3) := by decide +kernel
theorem dX9_isForeseen_41 : decode cX9_isForeseen 41 = .ok (.iconst 1, 1) := by decide +kernel
theorem dX9_isForeseen_42 : decode cX9_isForeseen 42 = .ok (.ireturn, 1) := by decide +kernel
set_option maxRecDepth 20000 in
theorem ggX9_go_X9_get : GoodIn wsX9_go wsX9_get := goodIn_r _ [6, 7, 40, 41, 42, 43, 44, 45, 46, 47, 48, 49, 50, 51, 52, 53, 54, 55, 56] rfl (by decide +kernel)
set_option maxRecDepth 20000 in
theorem gX9_go_X9_get : GoodIn wsX9_go (wsV RX9 58 RX9 yX9_get wsX9_get) := goodIn_app (goodIn_of _ (by decide +kernel)) ggX9_go_X9_get
set_option maxRecDepth 20000 in
theorem ggX9_go_X9_flipOf : GoodIn wsX9_go wsX9_flipOf := goodIn_r _ [11, 2, 3, 4, 5, 6, 7, 40, 41, 42, 43, 44, 45, 46, 47, 48, 49, 50, 51, 52, 53, 54, 55, 56] rfl (by decide +kernel)
set_option maxRecDepth 20000 in
theorem gX9_go_X9_flipOf : GoodIn wsX9_go (wsV RX9 115 RX9 yX9_flipOf wsX9_flipOf) := goodIn_app (goodIn_of _ (by decide +kernel)) ggX9_go_X9_flipOf
set_option maxRecDepth 20000 in
theorem ggX9_go_X9_fixed : GoodIn wsX9_go wsX9_fixed := goodIn_r _ [15, 16, 17, 18, 19, 5, 20, 2, 3, 4, 6, 7, 8, 9, 10, 11, 21, 22, 23, 24, 40, 41, 42, 43, 44, 45, 46, 47, 48, 49, 50, 51, 52, 53, 54, 55, 56] rfl (by decide +kernel)
set_option maxRecDepth 20000 in
theorem gX9_go_X9_fixed : GoodIn wsX9_go (wsV RX9 124 RX9 yX9_fixed wsX9_fixed) := goodIn_app (goodIn_of _ (by decide +kernel)) ggX9_go_X9_fixed
set_option maxRecDepth 20000 in
theorem ggX9_go_X9_some : GoodIn wsX9_go wsX9_some := goodIn_r _ [24, 16, 40, 41, 42, 43, 44, 45, 46, 47, 48, 49, 50, 51, 52, 53, 54, 55, 56] rfl (by decide +kernel)
set_option maxRecDepth 20000 in
theorem gX9_go_X9_some : GoodIn wsX9_go (wsV RX9 121 RX9 yX9_some wsX9_some) := goodIn_app (goodIn_of _ (by decide +kernel)) ggX9_go_X9_some
set_option maxRecDepth 20000 in
theorem ggX9_go_X9_isForeseen : GoodIn wsX9_go wsX9_isForeseen := goodIn_r _ [28, 29, 30, 31, 5, 32, 16, 17, 18, 19, 20, 21, 22, 23, 24, 33, 34, 35, 36, 2, 3, 4, 6, 7, 37, 38, 39, 40, 41, 42, 43, 44, 45, 46, 47, 48, 49, 50, 51, 52, 53, 54, 55, 56] rfl (by decide +kernel)
set_option maxRecDepth 20000 in
theorem gX9_go_X9_isForeseen : GoodIn wsX9_go (wsV RX9 145 RX9 yX9_isForeseen wsX9_isForeseen) := goodIn_app (goodIn_of _ (by decide +kernel)) ggX9_go_X9_isForeseen
theorem dX9_go_0 : decode cX9_go 0 = .ok (.iconst 1, 1) := by decide +kernel
theorem dX9_go_1 : decode cX9_go 1 = .ok (.aload_n 0, 1) := by decide +kernel
theorem dX9_go_2 : decode cX9_go 2 = .ok (.iload_n 1, 1) := by decide +kernel
theorem dX9_go_3 : decode cX9_go 3 = .ok (.iconst 1, 1) := by decide +kernel
theorem dX9_go_4 : decode cX9_go 4 = .ok (.invokevirtual 58, 3) := by decide +kernel
theorem dX9_go_7 : decode cX9_go 7 = .ok (.ishl, 1) := by decide +kernel
theorem dX9_go_8 : decode cX9_go 8 = .ok (.iconst 1, 1) := by decide +kernel
theorem dX9_go_9 : decode cX9_go 9 = .ok (.isub, 1) := by decide +kernel
theorem dX9_go_10 : decode cX9_go 10 = .ok (.aload_n 0, 1) := by decide +kernel
theorem dX9_go_11 : decode cX9_go 11 = .ok (.iload_n 1, 1) := by decide +kernel
theorem dX9_go_12 : decode cX9_go 12 = .ok (.invokevirtual 115, 3) := by decide +kernel
theorem dX9_go_15 : decode cX9_go 15 = .ok (.iconst (-1), 1) := by decide +kernel
theorem dX9_go_16 : decode cX9_go 16 = .ok (.ixor, 1) := by decide +kernel
theorem dX9_go_17 : decode cX9_go 17 = .ok (.iand, 1) := by decide +kernel
theorem dX9_go_18 : decode cX9_go 18 = .ok (.aload_n 0, 1) := by decide +kernel
theorem dX9_go_19 : decode cX9_go 19 = .ok (.iload_n 1, 1) := by decide +kernel
theorem dX9_go_20 : decode cX9_go 20 = .ok (.invokevirtual 124, 3) := by decide +kernel
theorem dX9_go_23 : decode cX9_go 23 = .ok (.iconst (-1), 1) := by decide +kernel
theorem dX9_go_24 : decode cX9_go 24 = .ok (.ixor, 1) := by decide +kernel
theorem dX9_go_25 : decode cX9_go 25 = .ok (.iand, 1) := by decide +kernel
theorem dX9_go_26 : decode cX9_go 26 = .ok (.istore_n 3, 1) := by decide +kernel
theorem dX9_go_27 : decode cX9_go 27 = .ok (.aload_n 0, 1) := by decide +kernel
theorem dX9_go_28 : decode cX9_go 28 = .ok (.iload_n 1, 1) := by decide +kernel
theorem dX9_go_29 : decode cX9_go 29 = .ok (.invokevirtual 121, 3) := by decide +kernel
theorem dX9_go_32 : decode cX9_go 32 = .ok (.aload_n 0, 1) := by decide +kernel
theorem dX9_go_33 : decode cX9_go 33 = .ok (.iload_n 1, 1) := by decide +kernel
theorem dX9_go_34 : decode cX9_go 34 = .ok (.invokevirtual 124, 3) := by decide +kernel
theorem dX9_go_37 : decode cX9_go 37 = .ok (.iand, 1) := by decide +kernel
theorem dX9_go_38 : decode cX9_go 38 = .ok (.istore 4, 2) := by decide +kernel
theorem dX9_go_40 : decode cX9_go 40 = .ok (.iconst 0, 1) := by decide +kernel
theorem dX9_go_41 : decode cX9_go 41 = .ok (.istore 5, 2) := by decide +kernel
theorem dX9_go_43 : decode cX9_go 43 = .ok (.iconst 0, 1) := by decide +kernel
theorem dX9_go_44 : decode cX9_go 44 = .ok (.istore 6, 2) := by decide +kernel
theorem dX9_go_46 : decode cX9_go 46 = .ok (.aload_n 0, 1) := by decide +kernel
theorem dX9_go_47 : decode cX9_go 47 = .ok (.iconst (-1), 1) := by decide +kernel
theorem dX9_go_48 : decode cX9_go 48 = .ok (.putfield 142, 3) := by decide +kernel
theorem dX9_go_51 : decode cX9_go 51 = .ok (.iconst 1, 1) := by decide +kernel
theorem dX9_go_52 : decode cX9_go 52 = .ok (.istore 7, 2) := by decide +kernel
theorem dX9_go_54 : decode cX9_go 54 = .ok (.iload 7, 2) := by decide +kernel
theorem dX9_go_56 : decode cX9_go 56 = .ok (.ifCond .eq 64, 3) := by decide +kernel
theorem dX9_go_59 : decode cX9_go 59 = .ok (.aload_n 0, 1) := by decide +kernel
theorem dX9_go_60 : decode cX9_go 60 = .ok (.iload_n 1, 1) := by decide +kernel
theorem dX9_go_61 : decode cX9_go 61 = .ok (.iload 4, 2) := by decide +kernel
theorem dX9_go_63 : decode cX9_go 63 = .ok (.iload 5, 2) := by decide +kernel
theorem dX9_go_65 : decode cX9_go 65 = .ok (.ior, 1) := by decide +kernel
theorem dX9_go_66 : decode cX9_go 66 = .ok (.invokevirtual 145, 3) := by decide +kernel
theorem dX9_go_69 : decode cX9_go 69 = .ok (.ifCond .eq 21, 3) := by decide +kernel
theorem dX9_go_72 : decode cX9_go 72 = .ok (.iload 6, 2) := by decide +kernel
theorem dX9_go_74 : decode cX9_go 74 = .ok (.iload_n 2, 1) := by decide +kernel
theorem dX9_go_75 : decode cX9_go 75 = .ok (.if_icmp .ne 12, 3) := by decide +kernel
theorem dX9_go_78 : decode cX9_go 78 = .ok (.aload_n 0, 1) := by decide +kernel
theorem dX9_go_79 : decode cX9_go 79 = .ok (.iload 4, 2) := by decide +kernel
theorem dX9_go_81 : decode cX9_go 81 = .ok (.iload 5, 2) := by decide +kernel
theorem dX9_go_83 : decode cX9_go 83 = .ok (.ior, 1) := by decide +kernel
theorem dX9_go_84 : decode cX9_go 84 = .ok (.putfield 142, 3) := by decide +kernel
theorem dX9_go_87 : decode cX9_go 87 = .ok (.iinc 6 1, 3) := by decide +kernel
theorem dX9_go_90 : decode cX9_go 90 = .ok (.iload 5, 2) := by decide +kernel
theorem dX9_go_92 : decode cX9_go 92 = .ok (.iload_n 3, 1) := by decide +kernel
theorem dX9_go_93 : decode cX9_go 93 = .ok (.if_icmp .eq 13, 3) := by decide +kernel
theorem dX9_go_96 : decode cX9_go 96 = .ok (.iload 6, 2) := by decide +kernel
theorem dX9_go_98 : decode cX9_go 98 = .ok (.iload_n 2, 1) := by decide +kernel
theorem dX9_go_99 : decode cX9_go 99 = .ok (.if_icmp .gt 7, 3) := by decide +kernel
theorem dX9_go_102 : decode cX9_go 102 = .ok (.iconst 1, 1) := by decide +kernel
theorem dX9_go_103 : decode cX9_go 103 = .ok (.goto 4, 3) := by decide +kernel
theorem dX9_go_106 : decode cX9_go 106 = .ok (.iconst 0, 1) := by decide +kernel
theorem dX9_go_107 : decode cX9_go 107 = .ok (.istore 7, 2) := by decide +kernel
theorem dX9_go_109 : decode cX9_go 109 = .ok (.iload 5, 2) := by decide +kernel
theorem dX9_go_111 : decode cX9_go 111 = .ok (.iload_n 3, 1) := by decide +kernel
theorem dX9_go_112 : decode cX9_go 112 = .ok (.isub, 1) := by decide +kernel
theorem dX9_go_113 : decode cX9_go 113 = .ok (.iload_n 3, 1) := by decide +kernel
theorem dX9_go_114 : decode cX9_go 114 = .ok (.iand, 1) := by decide +kernel
theorem dX9_go_115 : decode cX9_go 115 = .ok (.istore 5, 2) := by decide +kernel
theorem dX9_go_117 : decode cX9_go 117 = .ok (.goto (-63), 3) := by decide +kernel
theorem dX9_go_120 : decode cX9_go 120 = .ok (.iload 6, 2) := by decide +kernel
theorem dX9_go_122 : decode cX9_go 122 = .ok (.ireturn, 1) := by decide +kernel
set_option maxRecDepth 20000 in
theorem ggX9_many_X9_canForesee : GoodIn wsX9_many wsX9_canForesee := goodIn_r _ [7, 8, 9, 10, 6, 11, 12, 13, 14, 15, 16, 17, 18, 19, 20, 21, 22, 23, 24, 25, 26, 27, 28, 29, 30, 31, 32, 33, 34, 35, 36, 37, 38, 39, 40, 41, 42, 43, 44, 65, 66, 67, 68, 69, 70, 71, 72, 73, 74, 75, 76, 77, 78, 79, 80, 81] rfl (by decide +kernel)
set_option maxRecDepth 20000 in
theorem gX9_many_X9_canForesee : GoodIn wsX9_many (wsV RX9 148 RX9 yX9_canForesee wsX9_canForesee) := goodIn_app (goodIn_of _ (by decide +kernel)) ggX9_many_X9_canForesee
set_option maxRecDepth 20000 in
theorem ggX9_many_X9_go : GoodIn wsX9_many wsX9_go := goodIn_r _ [48, 49, 21, 22, 23, 6, 24, 25, 26, 27, 28, 29, 30, 31, 32, 33, 20, 16, 17, 18, 19, 34, 35, 36, 37, 50, 51, 52, 53, 54, 55, 56, 57, 58, 59, 60, 61, 62, 63, 64, 65, 66, 67, 68, 69, 70, 71, 72, 73, 74, 75, 76, 77, 78, 79, 80, 81] rfl (by decide +kernel)
set_option maxRecDepth 20000 in
theorem gX9_many_X9_go : GoodIn wsX9_many (wsV RX9 152 RX9 yX9_go wsX9_go) := goodIn_app (goodIn_of _ (by decide +kernel)) ggX9_many_X9_go
theorem dX9_many_0 : decode cX9_many 0 = .ok (.aload_n 0, 1) := by decide +kernel
theorem dX9_many_1 : decode cX9_many 1 = .ok (.iconst 0, 1) := by decide +kernel
theorem dX9_many_2 : decode cX9_many 2 = .ok (.putfield 43, 3) := by decide +kernel
theorem dX9_many_5 : decode cX9_many 5 = .ok (.aload_n 0, 1) := by decide +kernel
theorem dX9_many_6 : decode cX9_many 6 = .ok (.iload_n 1, 1) := by decide +kernel
theorem dX9_many_7 : decode cX9_many 7 = .ok (.invokevirtual 148, 3) := by decide +kernel
theorem dX9_many_10 : decode cX9_many 10 = .ok (.ifCond .eq 13, 3) := by decide +kernel
theorem dX9_many_13 : decode cX9_many 13 = .ok (.aload_n 0, 1) := by decide +kernel
theorem dX9_many_14 : decode cX9_many 14 = .ok (.iload_n 1, 1) := by decide +kernel
theorem dX9_many_15 : decode cX9_many 15 = .ok (.ldc 151, 2) := by decide +kernel
theorem dX9_many_17 : decode cX9_many 17 = .ok (.invokevirtual 152, 3) := by decide +kernel
theorem dX9_many_20 : decode cX9_many 20 = .ok (.goto 4, 3) := by decide +kernel
theorem dX9_many_23 : decode cX9_many 23 = .ok (.iconst (-1), 1) := by decide +kernel
theorem dX9_many_24 : decode cX9_many 24 = .ok (.ireturn, 1) := by decide +kernel
set_option maxRecDepth 20000 in
theorem ggX9_foreseen_X9_canForesee : GoodIn wsX9_foreseen wsX9_canForesee := goodIn_r _ [8, 9, 10, 11, 7, 12, 13, 14, 15, 16, 17, 18, 19, 20, 21, 22, 23, 24, 25, 26, 27, 28, 29, 30, 31, 32, 33, 34, 35, 36, 37, 38, 39, 40, 41, 42, 43, 44, 45, 65, 66, 67, 68, 69, 70, 71, 72, 73, 74, 75, 76, 77, 78, 79, 80, 81] rfl (by decide +kernel)
set_option maxRecDepth 20000 in
theorem gX9_foreseen_X9_canForesee : GoodIn wsX9_foreseen (wsV RX9 148 RX9 yX9_canForesee wsX9_canForesee) := goodIn_app (goodIn_of _ (by decide +kernel)) ggX9_foreseen_X9_canForesee
set_option maxRecDepth 20000 in
theorem ggX9_foreseen_X9_go : GoodIn wsX9_foreseen wsX9_go := goodIn_r _ [49, 3, 22, 23, 24, 7, 25, 26, 27, 28, 29, 30, 31, 32, 33, 34, 21, 17, 18, 19, 20, 35, 36, 37, 38, 50, 51, 52, 53, 54, 55, 56, 57, 58, 59, 60, 61, 62, 63, 64, 65, 66, 67, 68, 69, 70, 71, 72, 73, 74, 75, 76, 77, 78, 79, 80, 81] rfl (by decide +kernel)
set_option maxRecDepth 20000 in
theorem gX9_foreseen_X9_go : GoodIn wsX9_foreseen (wsV RX9 152 RX9 yX9_go wsX9_go) := goodIn_app (goodIn_of _ (by decide +kernel)) ggX9_foreseen_X9_go
theorem dX9_foreseen_0 : decode cX9_foreseen 0 = .ok (.aload_n 0, 1) := by decide +kernel
theorem dX9_foreseen_1 : decode cX9_foreseen 1 = .ok (.iconst 0, 1) := by decide +kernel
theorem dX9_foreseen_2 : decode cX9_foreseen 2 = .ok (.putfield 43, 3) := by decide +kernel
theorem dX9_foreseen_5 : decode cX9_foreseen 5 = .ok (.aload_n 0, 1) := by decide +kernel
theorem dX9_foreseen_6 : decode cX9_foreseen 6 = .ok (.iload_n 1, 1) := by decide +kernel
theorem dX9_foreseen_7 : decode cX9_foreseen 7 = .ok (.invokevirtual 148, 3) := by decide +kernel
theorem dX9_foreseen_10 : decode cX9_foreseen 10 = .ok (.ifCond .eq 13, 3) := by decide +kernel
theorem dX9_foreseen_13 : decode cX9_foreseen 13 = .ok (.iload_n 2, 1) := by decide +kernel
theorem dX9_foreseen_14 : decode cX9_foreseen 14 = .ok (.ifCond .lt 9, 3) := by decide +kernel
theorem dX9_foreseen_17 : decode cX9_foreseen 17 = .ok (.iload_n 2, 1) := by decide +kernel
theorem dX9_foreseen_18 : decode cX9_foreseen 18 = .ok (.ldc 155, 2) := by decide +kernel
theorem dX9_foreseen_20 : decode cX9_foreseen 20 = .ok (.if_icmp .le 5, 3) := by decide +kernel
theorem dX9_foreseen_23 : decode cX9_foreseen 23 = .ok (.iconst (-1), 1) := by decide +kernel
theorem dX9_foreseen_24 : decode cX9_foreseen 24 = .ok (.ireturn, 1) := by decide +kernel
theorem dX9_foreseen_25 : decode cX9_foreseen 25 = .ok (.aload_n 0, 1) := by decide +kernel
theorem dX9_foreseen_26 : decode cX9_foreseen 26 = .ok (.iload_n 1, 1) := by decide +kernel
theorem dX9_foreseen_27 : decode cX9_foreseen 27 = .ok (.iload_n 2, 1) := by decide +kernel
theorem dX9_foreseen_28 : decode cX9_foreseen 28 = .ok (.invokevirtual 152, 3) := by decide +kernel
theorem dX9_foreseen_31 : decode cX9_foreseen 31 = .ok (.pop, 1) := by decide +kernel
theorem dX9_foreseen_32 : decode cX9_foreseen 32 = .ok (.aload_n 0, 1) := by decide +kernel
theorem dX9_foreseen_33 : decode cX9_foreseen 33 = .ok (.getfield 142, 3) := by decide +kernel
theorem dX9_foreseen_36 : decode cX9_foreseen 36 = .ok (.ireturn, 1) := by decide +kernel
set_option maxRecDepth 20000 in
theorem ggX9_both_X9_canForesee : GoodIn wsX9_both wsX9_canForesee := goodIn_r _ [6, 7, 8, 9, 5, 10, 11, 12, 13, 14, 15, 16, 17, 18, 19, 20, 21, 22, 23, 24, 25, 26, 27, 28, 29, 30, 31, 32, 33, 34, 35, 36, 37, 38, 39, 40, 41, 42, 43, 59, 60, 61, 62, 63, 64, 65, 66, 67, 68, 69, 70, 71, 72, 73, 74, 75] rfl (by decide +kernel)
set_option maxRecDepth 20000 in
theorem gX9_both_X9_canForesee : GoodIn wsX9_both (wsV RX9 148 RX9 yX9_canForesee wsX9_canForesee) := goodIn_app (goodIn_of _ (by decide +kernel)) ggX9_both_X9_canForesee
set_option maxRecDepth 20000 in
theorem ggX9_both_X9_get : GoodIn wsX9_both wsX9_get := goodIn_r _ [23, 24, 59, 60, 61, 62, 63, 64, 65, 66, 67, 68, 69, 70, 71, 72, 73, 74, 75] rfl (by decide +kernel)
set_option maxRecDepth 20000 in
theorem gX9_both_X9_get : GoodIn wsX9_both (wsV RX9 58 RX9 yX9_get wsX9_get) := goodIn_app (goodIn_of _ (by decide +kernel)) ggX9_both_X9_get
set_option maxRecDepth 20000 in
theorem ggX9_both_X9_flipOf : GoodIn wsX9_both wsX9_flipOf := goodIn_r _ [28, 20, 21, 22, 5, 23, 24, 59, 60, 61, 62, 63, 64, 65, 66, 67, 68, 69, 70, 71, 72, 73, 74, 75] rfl (by decide +kernel)
set_option maxRecDepth 20000 in
theorem gX9_both_X9_flipOf : GoodIn wsX9_both (wsV RX9 115 RX9 yX9_flipOf wsX9_flipOf) := goodIn_app (goodIn_of _ (by decide +kernel)) ggX9_both_X9_flipOf
set_option maxRecDepth 20000 in
theorem ggX9_both_X9_fixed : GoodIn wsX9_both wsX9_fixed := goodIn_r _ [32, 19, 15, 16, 17, 5, 18, 20, 21, 22, 23, 24, 25, 26, 27, 28, 33, 34, 35, 36, 59, 60, 61, 62, 63, 64, 65, 66, 67, 68, 69, 70, 71, 72, 73, 74, 75] rfl (by decide +kernel)
set_option maxRecDepth 20000 in
theorem gX9_both_X9_fixed : GoodIn wsX9_both (wsV RX9 124 RX9 yX9_fixed wsX9_fixed) := goodIn_app (goodIn_of _ (by decide +kernel)) ggX9_both_X9_fixed
set_option maxRecDepth 20000 in
theorem ggX9_both_X9_some : GoodIn wsX9_both wsX9_some := goodIn_r _ [36, 19, 59, 60, 61, 62, 63, 64, 65, 66, 67, 68, 69, 70, 71, 72, 73, 74, 75] rfl (by decide +kernel)
set_option maxRecDepth 20000 in
theorem gX9_both_X9_some : GoodIn wsX9_both (wsV RX9 121 RX9 yX9_some wsX9_some) := goodIn_app (goodIn_of _ (by decide +kernel)) ggX9_both_X9_some
set_option maxRecDepth 20000 in
theorem ggX9_both_X9_isForeseen : GoodIn wsX9_both wsX9_isForeseen := goodIn_r _ [47, 48, 49, 50, 5, 51, 19, 15, 16, 17, 18, 33, 34, 35, 36, 52, 53, 54, 55, 20, 21, 22, 23, 24, 56, 57, 58, 59, 60, 61, 62, 63, 64, 65, 66, 67, 68, 69, 70, 71, 72, 73, 74, 75] rfl (by decide +kernel)
set_option maxRecDepth 20000 in
theorem gX9_both_X9_isForeseen : GoodIn wsX9_both (wsV RX9 145 RX9 yX9_isForeseen wsX9_isForeseen) := goodIn_app (goodIn_of _ (by decide +kernel)) ggX9_both_X9_isForeseen
theorem dX9_both_0 : decode cX9_both 0 = .ok (.aload_n 0, 1) := by decide +kernel
theorem dX9_both_1 : decode cX9_both 1 = .ok (.iconst 0, 1) := by decide +kernel
theorem dX9_both_2 : decode cX9_both 2 = .ok (.putfield 43, 3) := by decide +kernel
theorem dX9_both_5 : decode cX9_both 5 = .ok (.aload_n 0, 1) := by decide +kernel
theorem dX9_both_6 : decode cX9_both 6 = .ok (.iload_n 1, 1) := by decide +kernel
theorem dX9_both_7 : decode cX9_both 7 = .ok (.invokevirtual 148, 3) := by decide +kernel
theorem dX9_both_10 : decode cX9_both 10 = .ok (.ifCond .eq 26, 3) := by decide +kernel
theorem dX9_both_13 : decode cX9_both 13 = .ok (.aload_n 0, 1) := by decide +kernel
theorem dX9_both_14 : decode cX9_both 14 = .ok (.iload_n 2, 1) := by decide +kernel
theorem dX9_both_15 : decode cX9_both 15 = .ok (.invokevirtual 148, 3) := by decide +kernel
theorem dX9_both_18 : decode cX9_both 18 = .ok (.ifCond .eq 18, 3) := by decide +kernel
theorem dX9_both_21 : decode cX9_both 21 = .ok (.aload_n 0, 1) := by decide +kernel
theorem dX9_both_22 : decode cX9_both 22 = .ok (.iload_n 1, 1) := by decide +kernel
theorem dX9_both_23 : decode cX9_both 23 = .ok (.iconst 1, 1) := by decide +kernel
theorem dX9_both_24 : decode cX9_both 24 = .ok (.invokevirtual 58, 3) := by decide +kernel
theorem dX9_both_27 : decode cX9_both 27 = .ok (.aload_n 0, 1) := by decide +kernel
theorem dX9_both_28 : decode cX9_both 28 = .ok (.iload_n 2, 1) := by decide +kernel
theorem dX9_both_29 : decode cX9_both 29 = .ok (.iconst 1, 1) := by decide +kernel
theorem dX9_both_30 : decode cX9_both 30 = .ok (.invokevirtual 58, 3) := by decide +kernel
theorem dX9_both_33 : decode cX9_both 33 = .ok (.if_icmp .eq 5, 3) := by decide +kernel
theorem dX9_both_36 : decode cX9_both 36 = .ok (.iconst (-1), 1) := by decide +kernel
theorem dX9_both_37 : decode cX9_both 37 = .ok (.ireturn, 1) := by decide +kernel
theorem dX9_both_38 : decode cX9_both 38 = .ok (.iconst 1, 1) := by decide +kernel
theorem dX9_both_39 : decode cX9_both 39 = .ok (.aload_n 0, 1) := by decide +kernel
theorem dX9_both_40 : decode cX9_both 40 = .ok (.iload_n 1, 1) := by decide +kernel
theorem dX9_both_41 : decode cX9_both 41 = .ok (.iconst 1, 1) := by decide +kernel
theorem dX9_both_42 : decode cX9_both 42 = .ok (.invokevirtual 58, 3) := by decide +kernel
theorem dX9_both_45 : decode cX9_both 45 = .ok (.ishl, 1) := by decide +kernel
theorem dX9_both_46 : decode cX9_both 46 = .ok (.iconst 1, 1) := by decide +kernel
theorem dX9_both_47 : decode cX9_both 47 = .ok (.isub, 1) := by decide +kernel
theorem dX9_both_48 : decode cX9_both 48 = .ok (.aload_n 0, 1) := by decide +kernel
theorem dX9_both_49 : decode cX9_both 49 = .ok (.iload_n 1, 1) := by decide +kernel
theorem dX9_both_50 : decode cX9_both 50 = .ok (.invokevirtual 115, 3) := by decide +kernel
theorem dX9_both_53 : decode cX9_both 53 = .ok (.iconst (-1), 1) := by decide +kernel
theorem dX9_both_54 : decode cX9_both 54 = .ok (.ixor, 1) := by decide +kernel
theorem dX9_both_55 : decode cX9_both 55 = .ok (.iand, 1) := by decide +kernel
theorem dX9_both_56 : decode cX9_both 56 = .ok (.aload_n 0, 1) := by decide +kernel
theorem dX9_both_57 : decode cX9_both 57 = .ok (.iload_n 1, 1) := by decide +kernel
theorem dX9_both_58 : decode cX9_both 58 = .ok (.invokevirtual 124, 3) := by decide +kernel
theorem dX9_both_61 : decode cX9_both 61 = .ok (.iconst (-1), 1) := by decide +kernel
theorem dX9_both_62 : decode cX9_both 62 = .ok (.ixor, 1) := by decide +kernel
theorem dX9_both_63 : decode cX9_both 63 = .ok (.iand, 1) := by decide +kernel
theorem dX9_both_64 : decode cX9_both 64 = .ok (.istore_n 3, 1) := by decide +kernel
theorem dX9_both_65 : decode cX9_both 65 = .ok (.aload_n 0, 1) := by decide +kernel
theorem dX9_both_66 : decode cX9_both 66 = .ok (.iload_n 1, 1) := by decide +kernel
theorem dX9_both_67 : decode cX9_both 67 = .ok (.invokevirtual 121, 3) := by decide +kernel
theorem dX9_both_70 : decode cX9_both 70 = .ok (.aload_n 0, 1) := by decide +kernel
theorem dX9_both_71 : decode cX9_both 71 = .ok (.iload_n 1, 1) := by decide +kernel
theorem dX9_both_72 : decode cX9_both 72 = .ok (.invokevirtual 124, 3) := by decide +kernel
theorem dX9_both_75 : decode cX9_both 75 = .ok (.iand, 1) := by decide +kernel
theorem dX9_both_76 : decode cX9_both 76 = .ok (.istore 4, 2) := by decide +kernel
theorem dX9_both_78 : decode cX9_both 78 = .ok (.iconst 0, 1) := by decide +kernel
theorem dX9_both_79 : decode cX9_both 79 = .ok (.istore 5, 2) := by decide +kernel
theorem dX9_both_81 : decode cX9_both 81 = .ok (.iconst 1, 1) := by decide +kernel
theorem dX9_both_82 : decode cX9_both 82 = .ok (.istore 6, 2) := by decide +kernel
theorem dX9_both_84 : decode cX9_both 84 = .ok (.iload 6, 2) := by decide +kernel
theorem dX9_both_86 : decode cX9_both 86 = .ok (.ifCond .eq 97, 3) := by decide +kernel
theorem dX9_both_89 : decode cX9_both 89 = .ok (.iload 4, 2) := by decide +kernel
theorem dX9_both_91 : decode cX9_both 91 = .ok (.iload 5, 2) := by decide +kernel
theorem dX9_both_93 : decode cX9_both 93 = .ok (.ior, 1) := by decide +kernel
theorem dX9_both_94 : decode cX9_both 94 = .ok (.istore 7, 2) := by decide +kernel
theorem dX9_both_96 : decode cX9_both 96 = .ok (.iload 7, 2) := by decide +kernel
theorem dX9_both_98 : decode cX9_both 98 = .ok (.aload_n 0, 1) := by decide +kernel
theorem dX9_both_99 : decode cX9_both 99 = .ok (.iload_n 2, 1) := by decide +kernel
theorem dX9_both_100 : decode cX9_both 100 = .ok (.invokevirtual 115, 3) := by decide +kernel
theorem dX9_both_103 : decode cX9_both 103 = .ok (.iand, 1) := by decide +kernel
theorem dX9_both_104 : decode cX9_both 104 = .ok (.ifCond .ne 24, 3) := by decide +kernel
theorem dX9_both_107 : decode cX9_both 107 = .ok (.iload 7, 2) := by decide +kernel
theorem dX9_both_109 : decode cX9_both 109 = .ok (.aload_n 0, 1) := by decide +kernel
theorem dX9_both_110 : decode cX9_both 110 = .ok (.iload_n 2, 1) := by decide +kernel
theorem dX9_both_111 : decode cX9_both 111 = .ok (.invokevirtual 121, 3) := by decide +kernel
theorem dX9_both_114 : decode cX9_both 114 = .ok (.ixor, 1) := by decide +kernel
theorem dX9_both_115 : decode cX9_both 115 = .ok (.aload_n 0, 1) := by decide +kernel
theorem dX9_both_116 : decode cX9_both 116 = .ok (.iload_n 2, 1) := by decide +kernel
theorem dX9_both_117 : decode cX9_both 117 = .ok (.invokevirtual 124, 3) := by decide +kernel
theorem dX9_both_120 : decode cX9_both 120 = .ok (.iand, 1) := by decide +kernel
theorem dX9_both_121 : decode cX9_both 121 = .ok (.ifCond .ne 7, 3) := by decide +kernel
theorem dX9_both_124 : decode cX9_both 124 = .ok (.iconst 1, 1) := by decide +kernel
theorem dX9_both_125 : decode cX9_both 125 = .ok (.goto 4, 3) := by decide +kernel
theorem dX9_both_128 : decode cX9_both 128 = .ok (.iconst 0, 1) := by decide +kernel
theorem dX9_both_129 : decode cX9_both 129 = .ok (.istore 8, 2) := by decide +kernel
theorem dX9_both_131 : decode cX9_both 131 = .ok (.iload 8, 2) := by decide +kernel
theorem dX9_both_133 : decode cX9_both 133 = .ok (.ifCond .eq 26, 3) := by decide +kernel
theorem dX9_both_136 : decode cX9_both 136 = .ok (.aload_n 0, 1) := by decide +kernel
theorem dX9_both_137 : decode cX9_both 137 = .ok (.iload_n 1, 1) := by decide +kernel
theorem dX9_both_138 : decode cX9_both 138 = .ok (.iload 7, 2) := by decide +kernel
theorem dX9_both_140 : decode cX9_both 140 = .ok (.invokevirtual 145, 3) := by decide +kernel
theorem dX9_both_143 : decode cX9_both 143 = .ok (.ifCond .eq 16, 3) := by decide +kernel
theorem dX9_both_146 : decode cX9_both 146 = .ok (.aload_n 0, 1) := by decide +kernel
theorem dX9_both_147 : decode cX9_both 147 = .ok (.iload_n 2, 1) := by decide +kernel
theorem dX9_both_148 : decode cX9_both 148 = .ok (.iload 7, 2) := by decide +kernel
theorem dX9_both_150 : decode cX9_both 150 = .ok (.invokevirtual 145, 3) := by decide +kernel
theorem dX9_both_153 : decode cX9_both 153 = .ok (.ifCond .eq 6, 3) := by decide +kernel
