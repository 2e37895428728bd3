theorem dX9_both_156 : decode cX9_both 156 = .ok (.iload 7, 2) := by decide +kernel
theorem dX9_both_158 : decode cX9_both 158 = .ok (.ireturn, 1) := by decide +kernel
theorem dX9_both_159 : decode cX9_both 159 = .ok (.iload 5, 2) := by decide +kernel
theorem dX9_both_161 : decode cX9_both 161 = .ok (.iload_n 3, 1) := by decide +kernel
theorem dX9_both_162 : decode cX9_both 162 = .ok (.if_icmp .eq 7, 3) := by decide +kernel
theorem dX9_both_165 : decode cX9_both 165 = .ok (.iconst 1, 1) := by decide +kernel
theorem dX9_both_166 : decode cX9_both 166 = .ok (.goto 4, 3) := by decide +kernel
theorem dX9_both_169 : decode cX9_both 169 = .ok (.iconst 0, 1) := by decide +kernel
theorem dX9_both_170 : decode cX9_both 170 = .ok (.istore 6, 2) := by decide +kernel
theorem dX9_both_172 : decode cX9_both 172 = .ok (.iload 5, 2) := by decide +kernel
theorem dX9_both_174 : decode cX9_both 174 = .ok (.iload_n 3, 1) := by decide +kernel
theorem dX9_both_175 : decode cX9_both 175 = .ok (.isub, 1) := by decide +kernel
theorem dX9_both_176 : decode cX9_both 176 = .ok (.iload_n 3, 1) := by decide +kernel
theorem dX9_both_177 : decode cX9_both 177 = .ok (.iand, 1) := by decide +kernel
theorem dX9_both_178 : decode cX9_both 178 = .ok (.istore 5, 2) := by decide +kernel
theorem dX9_both_180 : decode cX9_both 180 = .ok (.goto (-96), 3) := by decide +kernel
theorem dX9_both_183 : decode cX9_both 183 = .ok (.bipush (-2), 2) := by decide +kernel
theorem dX9_both_185 : decode cX9_both 185 = .ok (.ireturn, 1) := by decide +kernel
set_option maxRecDepth 20000 in
theorem ggX9_isBox_X9_in : GoodIn wsX9_isBox wsX9_in := goodIn_r _ [4] rfl (by decide +kernel)
set_option maxRecDepth 20000 in
theorem gX9_isBox_X9_in : GoodIn wsX9_isBox (va_wsS RX9 50 yX9_in wsX9_in) := goodIn_app (goodIn_of _ (by decide +kernel)) ggX9_isBox_X9_in
theorem dX9_isBox_0 : decode cX9_isBox 0 = .ok (.iload_n 0, 1) := by decide +kernel
theorem dX9_isBox_1 : decode cX9_isBox 1 = .ok (.iconst 0, 1) := by decide +kernel
theorem dX9_isBox_2 : decode cX9_isBox 2 = .ok (.iconst 3, 1) := by decide +kernel
theorem dX9_isBox_3 : decode cX9_isBox 3 = .ok (.invokestatic 50, 3) := by decide +kernel
theorem dX9_isBox_6 : decode cX9_isBox 6 = .ok (.ireturn, 1) := by decide +kernel
set_option maxRecDepth 20000 in
theorem ggX9_box_X9_isBox : GoodIn wsX9_box wsX9_isBox := goodIn_r _ [9, 10, 11, 8, 12] rfl (by decide +kernel)
set_option maxRecDepth 20000 in
theorem gX9_box_X9_isBox : GoodIn wsX9_box (va_wsS RX9 156 yX9_isBox wsX9_isBox) := goodIn_app (goodIn_of _ (by decide +kernel)) ggX9_box_X9_isBox
set_option maxRecDepth 20000 in
theorem ggX9_box_X9_in : GoodIn wsX9_box wsX9_in := goodIn_r _ [12] rfl (by decide +kernel)
set_option maxRecDepth 20000 in
theorem gX9_box_X9_in : GoodIn wsX9_box (va_wsS RX9 50 yX9_in wsX9_in) := goodIn_app (goodIn_of _ (by decide +kernel)) ggX9_box_X9_in
theorem dX9_box_0 : decode cX9_box 0 = .ok (.aload_n 0, 1) := by decide +kernel
theorem dX9_box_1 : decode cX9_box 1 = .ok (.iconst 0, 1) := by decide +kernel
theorem dX9_box_2 : decode cX9_box 2 = .ok (.putfield 43, 3) := by decide +kernel
theorem dX9_box_5 : decode cX9_box 5 = .ok (.iload_n 1, 1) := by decide +kernel
theorem dX9_box_6 : decode cX9_box 6 = .ok (.invokestatic 156, 3) := by decide +kernel
theorem dX9_box_9 : decode cX9_box 9 = .ok (.ifCond .eq 22, 3) := by decide +kernel
theorem dX9_box_12 : decode cX9_box 12 = .ok (.iload_n 2, 1) := by decide +kernel
theorem dX9_box_13 : decode cX9_box 13 = .ok (.iconst 1, 1) := by decide +kernel
theorem dX9_box_14 : decode cX9_box 14 = .ok (.bipush 8, 2) := by decide +kernel
theorem dX9_box_16 : decode cX9_box 16 = .ok (.invokestatic 50, 3) := by decide +kernel
theorem dX9_box_19 : decode cX9_box 19 = .ok (.ifCond .eq 12, 3) := by decide +kernel
theorem dX9_box_22 : decode cX9_box 22 = .ok (.iload_n 3, 1) := by decide +kernel
theorem dX9_box_23 : decode cX9_box 23 = .ok (.iconst 1, 1) := by decide +kernel
theorem dX9_box_24 : decode cX9_box 24 = .ok (.iconst 4, 1) := by decide +kernel
theorem dX9_box_25 : decode cX9_box 25 = .ok (.invokestatic 50, 3) := by decide +kernel
theorem dX9_box_28 : decode cX9_box 28 = .ok (.ifCond .ne 5, 3) := by decide +kernel
theorem dX9_box_31 : decode cX9_box 31 = .ok (.iconst 0, 1) := by decide +kernel
theorem dX9_box_32 : decode cX9_box 32 = .ok (.ireturn, 1) := by decide +kernel
theorem dX9_box_33 : decode cX9_box 33 = .ok (.aload_n 0, 1) := by decide +kernel
theorem dX9_box_34 : decode cX9_box 34 = .ok (.getfield 19, 3) := by decide +kernel
theorem dX9_box_37 : decode cX9_box 37 = .ok (.iload_n 1, 1) := by decide +kernel
theorem dX9_box_38 : decode cX9_box 38 = .ok (.iload_n 2, 1) := by decide +kernel
theorem dX9_box_39 : decode cX9_box 39 = .ok (.iastore, 1) := by decide +kernel
theorem dX9_box_40 : decode cX9_box 40 = .ok (.aload_n 0, 1) := by decide +kernel
theorem dX9_box_41 : decode cX9_box 41 = .ok (.getfield 22, 3) := by decide +kernel
theorem dX9_box_44 : decode cX9_box 44 = .ok (.iload_n 1, 1) := by decide +kernel
theorem dX9_box_45 : decode cX9_box 45 = .ok (.iload_n 3, 1) := by decide +kernel
theorem dX9_box_46 : decode cX9_box 46 = .ok (.iastore, 1) := by decide +kernel
theorem dX9_box_47 : decode cX9_box 47 = .ok (.iconst 0, 1) := by decide +kernel
theorem dX9_box_48 : decode cX9_box 48 = .ok (.istore 4, 2) := by decide +kernel
theorem dX9_box_50 : decode cX9_box 50 = .ok (.iload 4, 2) := by decide +kernel
theorem dX9_box_52 : decode cX9_box 52 = .ok (.bipush 32, 2) := by decide +kernel
theorem dX9_box_54 : decode cX9_box 54 = .ok (.if_icmp .ge 22, 3) := by decide +kernel
theorem dX9_box_57 : decode cX9_box 57 = .ok (.aload_n 0, 1) := by decide +kernel
theorem dX9_box_58 : decode cX9_box 58 = .ok (.getfield 25, 3) := by decide +kernel
theorem dX9_box_61 : decode cX9_box 61 = .ok (.bipush 32, 2) := by decide +kernel
theorem dX9_box_63 : decode cX9_box 63 = .ok (.iload_n 1, 1) := by decide +kernel
theorem dX9_box_64 : decode cX9_box 64 = .ok (.imul, 1) := by decide +kernel
theorem dX9_box_65 : decode cX9_box 65 = .ok (.iload 4, 2) := by decide +kernel
theorem dX9_box_67 : decode cX9_box 67 = .ok (.iadd, 1) := by decide +kernel
theorem dX9_box_68 : decode cX9_box 68 = .ok (.iconst 0, 1) := by decide +kernel
theorem dX9_box_69 : decode cX9_box 69 = .ok (.iastore, 1) := by decide +kernel
theorem dX9_box_70 : decode cX9_box 70 = .ok (.iinc 4 1, 3) := by decide +kernel
theorem dX9_box_73 : decode cX9_box 73 = .ok (.goto (-23), 3) := by decide +kernel
theorem dX9_box_76 : decode cX9_box 76 = .ok (.aload_n 0, 1) := by decide +kernel
theorem dX9_box_77 : decode cX9_box 77 = .ok (.getfield 28, 3) := by decide +kernel
theorem dX9_box_80 : decode cX9_box 80 = .ok (.iload_n 1, 1) := by decide +kernel
theorem dX9_box_81 : decode cX9_box 81 = .ok (.iconst 1, 1) := by decide +kernel
theorem dX9_box_82 : decode cX9_box 82 = .ok (.iload_n 2, 1) := by decide +kernel
theorem dX9_box_83 : decode cX9_box 83 = .ok (.ishl, 1) := by decide +kernel
theorem dX9_box_84 : decode cX9_box 84 = .ok (.iconst 1, 1) := by decide +kernel
theorem dX9_box_85 : decode cX9_box 85 = .ok (.isub, 1) := by decide +kernel
theorem dX9_box_86 : decode cX9_box 86 = .ok (.iastore, 1) := by decide +kernel
theorem dX9_box_87 : decode cX9_box 87 = .ok (.iconst 1, 1) := by decide +kernel
theorem dX9_box_88 : decode cX9_box 88 = .ok (.ireturn, 1) := by decide +kernel
set_option maxRecDepth 20000 in
theorem ggX9_lead_X9_isBox : GoodIn wsX9_lead wsX9_isBox := goodIn_r _ [8, 9, 10, 7, 11] rfl (by decide +kernel)
set_option maxRecDepth 20000 in
theorem gX9_lead_X9_isBox : GoodIn wsX9_lead (va_wsS RX9 156 yX9_isBox wsX9_isBox) := goodIn_app (goodIn_of _ (by decide +kernel)) ggX9_lead_X9_isBox
set_option maxRecDepth 20000 in
theorem ggX9_lead_X9_in : GoodIn wsX9_lead wsX9_in := goodIn_r _ [11] rfl (by decide +kernel)
set_option maxRecDepth 20000 in
theorem gX9_lead_X9_in : GoodIn wsX9_lead (va_wsS RX9 50 yX9_in wsX9_in) := goodIn_app (goodIn_of _ (by decide +kernel)) ggX9_lead_X9_in
theorem dX9_lead_0 : decode cX9_lead 0 = .ok (.aload_n 0, 1) := by decide +kernel
theorem dX9_lead_1 : decode cX9_lead 1 = .ok (.iconst 0, 1) := by decide +kernel
theorem dX9_lead_2 : decode cX9_lead 2 = .ok (.putfield 43, 3) := by decide +kernel
theorem dX9_lead_5 : decode cX9_lead 5 = .ok (.iload_n 1, 1) := by decide +kernel
theorem dX9_lead_6 : decode cX9_lead 6 = .ok (.invokestatic 156, 3) := by decide +kernel
theorem dX9_lead_9 : decode cX9_lead 9 = .ok (.ifCond .eq 52, 3) := by decide +kernel
theorem dX9_lead_12 : decode cX9_lead 12 = .ok (.iload_n 2, 1) := by decide +kernel
theorem dX9_lead_13 : decode cX9_lead 13 = .ok (.iconst 0, 1) := by decide +kernel
theorem dX9_lead_14 : decode cX9_lead 14 = .ok (.aload_n 0, 1) := by decide +kernel
theorem dX9_lead_15 : decode cX9_lead 15 = .ok (.getfield 19, 3) := by decide +kernel
theorem dX9_lead_18 : decode cX9_lead 18 = .ok (.iload_n 1, 1) := by decide +kernel
theorem dX9_lead_19 : decode cX9_lead 19 = .ok (.iaload, 1) := by decide +kernel
theorem dX9_lead_20 : decode cX9_lead 20 = .ok (.iconst 1, 1) := by decide +kernel
theorem dX9_lead_21 : decode cX9_lead 21 = .ok (.isub, 1) := by decide +kernel
theorem dX9_lead_22 : decode cX9_lead 22 = .ok (.invokestatic 50, 3) := by decide +kernel
theorem dX9_lead_25 : decode cX9_lead 25 = .ok (.ifCond .eq 36, 3) := by decide +kernel
theorem dX9_lead_28 : decode cX9_lead 28 = .ok (.iload_n 3, 1) := by decide +kernel
theorem dX9_lead_29 : decode cX9_lead 29 = .ok (.iconst 0, 1) := by decide +kernel
theorem dX9_lead_30 : decode cX9_lead 30 = .ok (.aload_n 0, 1) := by decide +kernel
theorem dX9_lead_31 : decode cX9_lead 31 = .ok (.getfield 22, 3) := by decide +kernel
theorem dX9_lead_34 : decode cX9_lead 34 = .ok (.iload_n 1, 1) := by decide +kernel
theorem dX9_lead_35 : decode cX9_lead 35 = .ok (.iaload, 1) := by decide +kernel
theorem dX9_lead_36 : decode cX9_lead 36 = .ok (.iconst 1, 1) := by decide +kernel
theorem dX9_lead_37 : decode cX9_lead 37 = .ok (.isub, 1) := by decide +kernel
theorem dX9_lead_38 : decode cX9_lead 38 = .ok (.invokestatic 50, 3) := by decide +kernel
theorem dX9_lead_41 : decode cX9_lead 41 = .ok (.ifCond .eq 20, 3) := by decide +kernel
theorem dX9_lead_44 : decode cX9_lead 44 = .ok (.iload 4, 2) := by decide +kernel
theorem dX9_lead_46 : decode cX9_lead 46 = .ok (.iconst 0, 1) := by decide +kernel
theorem dX9_lead_47 : decode cX9_lead 47 = .ok (.aload_n 0, 1) := by decide +kernel
theorem dX9_lead_48 : decode cX9_lead 48 = .ok (.getfield 19, 3) := by decide +kernel
theorem dX9_lead_51 : decode cX9_lead 51 = .ok (.iload_n 1, 1) := by decide +kernel
theorem dX9_lead_52 : decode cX9_lead 52 = .ok (.iaload, 1) := by decide +kernel
theorem dX9_lead_53 : decode cX9_lead 53 = .ok (.iconst 1, 1) := by decide +kernel
theorem dX9_lead_54 : decode cX9_lead 54 = .ok (.isub, 1) := by decide +kernel
theorem dX9_lead_55 : decode cX9_lead 55 = .ok (.invokestatic 50, 3) := by decide +kernel
theorem dX9_lead_58 : decode cX9_lead 58 = .ok (.ifCond .ne 5, 3) := by decide +kernel
theorem dX9_lead_61 : decode cX9_lead 61 = .ok (.iconst 0, 1) := by decide +kernel
theorem dX9_lead_62 : decode cX9_lead 62 = .ok (.ireturn, 1) := by decide +kernel
theorem dX9_lead_63 : decode cX9_lead 63 = .ok (.aload_n 0, 1) := by decide +kernel
theorem dX9_lead_64 : decode cX9_lead 64 = .ok (.getfield 25, 3) := by decide +kernel
theorem dX9_lead_67 : decode cX9_lead 67 = .ok (.bipush 32, 2) := by decide +kernel
theorem dX9_lead_69 : decode cX9_lead 69 = .ok (.iload_n 1, 1) := by decide +kernel
theorem dX9_lead_70 : decode cX9_lead 70 = .ok (.imul, 1) := by decide +kernel
theorem dX9_lead_71 : decode cX9_lead 71 = .ok (.iconst 4, 1) := by decide +kernel
theorem dX9_lead_72 : decode cX9_lead 72 = .ok (.iload_n 2, 1) := by decide +kernel
theorem dX9_lead_73 : decode cX9_lead 73 = .ok (.imul, 1) := by decide +kernel
theorem dX9_lead_74 : decode cX9_lead 74 = .ok (.iadd, 1) := by decide +kernel
theorem dX9_lead_75 : decode cX9_lead 75 = .ok (.iload_n 3, 1) := by decide +kernel
theorem dX9_lead_76 : decode cX9_lead 76 = .ok (.iadd, 1) := by decide +kernel
theorem dX9_lead_77 : decode cX9_lead 77 = .ok (.iload 4, 2) := by decide +kernel
theorem dX9_lead_79 : decode cX9_lead 79 = .ok (.iastore, 1) := by decide +kernel
theorem dX9_lead_80 : decode cX9_lead 80 = .ok (.iconst 1, 1) := by decide +kernel
theorem dX9_lead_81 : decode cX9_lead 81 = .ok (.ireturn, 1) := by decide +kernel
set_option maxRecDepth 20000 in
theorem ggX9_isSet_X9_in : GoodIn wsX9_isSet wsX9_in := goodIn_r _ [5] rfl (by decide +kernel)
set_option maxRecDepth 20000 in
theorem gX9_isSet_X9_in : GoodIn wsX9_isSet (va_wsS RX9 50 yX9_in wsX9_in) := goodIn_app (goodIn_of _ (by decide +kernel)) ggX9_isSet_X9_in
theorem dX9_isSet_0 : decode cX9_isSet 0 = .ok (.iload_n 2, 1) := by decide +kernel
theorem dX9_isSet_1 : decode cX9_isSet 1 = .ok (.iconst 1, 1) := by decide +kernel
theorem dX9_isSet_2 : decode cX9_isSet 2 = .ok (.iconst 1, 1) := by decide +kernel
theorem dX9_isSet_3 : decode cX9_isSet 3 = .ok (.aload_n 0, 1) := by decide +kernel
theorem dX9_isSet_4 : decode cX9_isSet 4 = .ok (.getfield 19, 3) := by decide +kernel
theorem dX9_isSet_7 : decode cX9_isSet 7 = .ok (.iload_n 1, 1) := by decide +kernel
theorem dX9_isSet_8 : decode cX9_isSet 8 = .ok (.iaload, 1) := by decide +kernel
theorem dX9_isSet_9 : decode cX9_isSet 9 = .ok (.ishl, 1) := by decide +kernel
theorem dX9_isSet_10 : decode cX9_isSet 10 = .ok (.iconst 1, 1) := by decide +kernel
theorem dX9_isSet_11 : decode cX9_isSet 11 = .ok (.isub, 1) := by decide +kernel
theorem dX9_isSet_12 : decode cX9_isSet 12 = .ok (.invokestatic 50, 3) := by decide +kernel
theorem dX9_isSet_15 : decode cX9_isSet 15 = .ok (.ireturn, 1) := by decide +kernel
set_option maxRecDepth 20000 in
theorem ggX9_maybe_X9_isBox : GoodIn wsX9_maybe wsX9_isBox := goodIn_r _ [6, 7, 8, 5, 9] rfl (by decide +kernel)
set_option maxRecDepth 20000 in
theorem gX9_maybe_X9_isBox : GoodIn wsX9_maybe (va_wsS RX9 156 yX9_isBox wsX9_isBox) := goodIn_app (goodIn_of _ (by decide +kernel)) ggX9_maybe_X9_isBox
set_option maxRecDepth 20000 in
theorem ggX9_maybe_X9_isSet : GoodIn wsX9_maybe wsX9_isSet := goodIn_r _ [13, 14, 7, 8, 5, 9, 15, 16, 17, 18, 19, 20, 21, 22, 23, 24, 25, 26, 27, 28, 29, 30, 31] rfl (by decide +kernel)
set_option maxRecDepth 20000 in
theorem gX9_maybe_X9_isSet : GoodIn wsX9_maybe (wsV RX9 159 RX9 yX9_isSet wsX9_isSet) := goodIn_app (goodIn_of _ (by decide +kernel)) ggX9_maybe_X9_isSet
theorem dX9_maybe_0 : decode cX9_maybe 0 = .ok (.aload_n 0, 1) := by decide +kernel
theorem dX9_maybe_1 : decode cX9_maybe 1 = .ok (.iconst 0, 1) := by decide +kernel
theorem dX9_maybe_2 : decode cX9_maybe 2 = .ok (.putfield 43, 3) := by decide +kernel
theorem dX9_maybe_5 : decode cX9_maybe 5 = .ok (.iload_n 1, 1) := by decide +kernel
theorem dX9_maybe_6 : decode cX9_maybe 6 = .ok (.invokestatic 156, 3) := by decide +kernel
theorem dX9_maybe_9 : decode cX9_maybe 9 = .ok (.ifCond .eq 12, 3) := by decide +kernel
theorem dX9_maybe_12 : decode cX9_maybe 12 = .ok (.aload_n 0, 1) := by decide +kernel
theorem dX9_maybe_13 : decode cX9_maybe 13 = .ok (.iload_n 1, 1) := by decide +kernel
theorem dX9_maybe_14 : decode cX9_maybe 14 = .ok (.iload_n 2, 1) := by decide +kernel
theorem dX9_maybe_15 : decode cX9_maybe 15 = .ok (.invokevirtual 159, 3) := by decide +kernel
theorem dX9_maybe_18 : decode cX9_maybe 18 = .ok (.ifCond .ne 5, 3) := by decide +kernel
theorem dX9_maybe_21 : decode cX9_maybe 21 = .ok (.iconst 0, 1) := by decide +kernel
theorem dX9_maybe_22 : decode cX9_maybe 22 = .ok (.ireturn, 1) := by decide +kernel
theorem dX9_maybe_23 : decode cX9_maybe 23 = .ok (.aload_n 0, 1) := by decide +kernel
theorem dX9_maybe_24 : decode cX9_maybe 24 = .ok (.getfield 28, 3) := by decide +kernel
theorem dX9_maybe_27 : decode cX9_maybe 27 = .ok (.iload_n 1, 1) := by decide +kernel
theorem dX9_maybe_28 : decode cX9_maybe 28 = .ok (.iload_n 2, 1) := by decide +kernel
theorem dX9_maybe_29 : decode cX9_maybe 29 = .ok (.iastore, 1) := by decide +kernel
theorem dX9_maybe_30 : decode cX9_maybe 30 = .ok (.iconst 1, 1) := by decide +kernel
theorem dX9_maybe_31 : decode cX9_maybe 31 = .ok (.ireturn, 1) := by decide +kernel
theorem dX9_behind_0 : decode cX9_behind 0 = .ok (.iconst 0, 1) := by decide +kernel
theorem dX9_behind_1 : decode cX9_behind 1 = .ok (.istore 4, 2) := by decide +kernel
theorem dX9_behind_3 : decode cX9_behind 3 = .ok (.iconst 0, 1) := by decide +kernel
theorem dX9_behind_4 : decode cX9_behind 4 = .ok (.istore 5, 2) := by decide +kernel
theorem dX9_behind_6 : decode cX9_behind 6 = .ok (.iload 5, 2) := by decide +kernel
theorem dX9_behind_8 : decode cX9_behind 8 = .ok (.aload_n 0, 1) := by decide +kernel
theorem dX9_behind_9 : decode cX9_behind 9 = .ok (.getfield 19, 3) := by decide +kernel
theorem dX9_behind_12 : decode cX9_behind 12 = .ok (.iload_n 1, 1) := by decide +kernel
theorem dX9_behind_13 : decode cX9_behind 13 = .ok (.iaload, 1) := by decide +kernel
theorem dX9_behind_14 : decode cX9_behind 14 = .ok (.if_icmp .ge 42, 3) := by decide +kernel
theorem dX9_behind_17 : decode cX9_behind 17 = .ok (.iload_n 2, 1) := by decide +kernel
theorem dX9_behind_18 : decode cX9_behind 18 = .ok (.iload 5, 2) := by decide +kernel
theorem dX9_behind_20 : decode cX9_behind 20 = .ok (.ishr, 1) := by decide +kernel
theorem dX9_behind_21 : decode cX9_behind 21 = .ok (.iconst 1, 1) := by decide +kernel
theorem dX9_behind_22 : decode cX9_behind 22 = .ok (.iand, 1) := by decide +kernel
theorem dX9_behind_23 : decode cX9_behind 23 = .ok (.iconst 1, 1) := by decide +kernel
theorem dX9_behind_24 : decode cX9_behind 24 = .ok (.if_icmp .ne 26, 3) := by decide +kernel
theorem dX9_behind_27 : decode cX9_behind 27 = .ok (.iload 4, 2) := by decide +kernel
theorem dX9_behind_29 : decode cX9_behind 29 = .ok (.iconst 1, 1) := by decide +kernel
theorem dX9_behind_30 : decode cX9_behind 30 = .ok (.aload_n 0, 1) := by decide +kernel
theorem dX9_behind_31 : decode cX9_behind 31 = .ok (.getfield 25, 3) := by decide +kernel
theorem dX9_behind_34 : decode cX9_behind 34 = .ok (.bipush 32, 2) := by decide +kernel
theorem dX9_behind_36 : decode cX9_behind 36 = .ok (.iload_n 1, 1) := by decide +kernel
theorem dX9_behind_37 : decode cX9_behind 37 = .ok (.imul, 1) := by decide +kernel
theorem dX9_behind_38 : decode cX9_behind 38 = .ok (.iconst 4, 1) := by decide +kernel
theorem dX9_behind_39 : decode cX9_behind 39 = .ok (.iload 5, 2) := by decide +kernel
theorem dX9_behind_41 : decode cX9_behind 41 = .ok (.imul, 1) := by decide +kernel
theorem dX9_behind_42 : decode cX9_behind 42 = .ok (.iadd, 1) := by decide +kernel
theorem dX9_behind_43 : decode cX9_behind 43 = .ok (.iload_n 3, 1) := by decide +kernel
theorem dX9_behind_44 : decode cX9_behind 44 = .ok (.iadd, 1) := by decide +kernel
theorem dX9_behind_45 : decode cX9_behind 45 = .ok (.iaload, 1) := by decide +kernel
theorem dX9_behind_46 : decode cX9_behind 46 = .ok (.ishl, 1) := by decide +kernel
theorem dX9_behind_47 : decode cX9_behind 47 = .ok (.ior, 1) := by decide +kernel
theorem dX9_behind_48 : decode cX9_behind 48 = .ok (.istore 4, 2) := by decide +kernel
theorem dX9_behind_50 : decode cX9_behind 50 = .ok (.iinc 5 1, 3) := by decide +kernel
theorem dX9_behind_53 : decode cX9_behind 53 = .ok (.goto (-47), 3) := by decide +kernel
theorem dX9_behind_56 : decode cX9_behind 56 = .ok (.iload 4, 2) := by decide +kernel
theorem dX9_behind_58 : decode cX9_behind 58 = .ok (.ireturn, 1) := by decide +kernel
set_option maxRecDepth 20000 in
theorem ggX9_push_X9_isBox : GoodIn wsX9_push wsX9_isBox := goodIn_r _ [7, 8, 9, 6, 10] rfl (by decide +kernel)
set_option maxRecDepth 20000 in
theorem gX9_push_X9_isBox : GoodIn wsX9_push (va_wsS RX9 156 yX9_isBox wsX9_isBox) := goodIn_app (goodIn_of _ (by decide +kernel)) ggX9_push_X9_isBox
set_option maxRecDepth 20000 in
theorem ggX9_push_X9_in : GoodIn wsX9_push wsX9_in := goodIn_r _ [10] rfl (by decide +kernel)
set_option maxRecDepth 20000 in
theorem gX9_push_X9_in : GoodIn wsX9_push (va_wsS RX9 50 yX9_in wsX9_in) := goodIn_app (goodIn_of _ (by decide +kernel)) ggX9_push_X9_in
set_option maxRecDepth 20000 in
theorem ggX9_push_X9_behind : GoodIn wsX9_push wsX9_behind := goodIn_r _ [14, 15, 16, 17, 18, 19, 20, 21, 22, 23, 24, 25, 26, 27, 28, 29, 30, 31, 32, 33] rfl (by decide +kernel)
set_option maxRecDepth 20000 in
theorem gX9_push_X9_behind : GoodIn wsX9_push (wsV RX9 162 RX9 yX9_behind wsX9_behind) := goodIn_app (goodIn_of _ (by decide +kernel)) ggX9_push_X9_behind
theorem dX9_push_0 : decode cX9_push 0 = .ok (.aload_n 0, 1) := by decide +kernel
theorem dX9_push_1 : decode cX9_push 1 = .ok (.iconst 0, 1) := by decide +kernel
theorem dX9_push_2 : decode cX9_push 2 = .ok (.putfield 43, 3) := by decide +kernel
theorem dX9_push_5 : decode cX9_push 5 = .ok (.iload_n 1, 1) := by decide +kernel
theorem dX9_push_6 : decode cX9_push 6 = .ok (.invokestatic 156, 3) := by decide +kernel
theorem dX9_push_9 : decode cX9_push 9 = .ok (.ifCond .eq 19, 3) := by decide +kernel
theorem dX9_push_12 : decode cX9_push 12 = .ok (.iload_n 2, 1) := by decide +kernel
theorem dX9_push_13 : decode cX9_push 13 = .ok (.iconst 0, 1) := by decide +kernel
theorem dX9_push_14 : decode cX9_push 14 = .ok (.aload_n 0, 1) := by decide +kernel
theorem dX9_push_15 : decode cX9_push 15 = .ok (.getfield 22, 3) := by decide +kernel
theorem dX9_push_18 : decode cX9_push 18 = .ok (.iload_n 1, 1) := by decide +kernel
theorem dX9_push_19 : decode cX9_push 19 = .ok (.iaload, 1) := by decide +kernel
theorem dX9_push_20 : decode cX9_push 20 = .ok (.iconst 1, 1) := by decide +kernel
theorem dX9_push_21 : decode cX9_push 21 = .ok (.isub, 1) := by decide +kernel
theorem dX9_push_22 : decode cX9_push 22 = .ok (.invokestatic 50, 3) := by decide +kernel
theorem dX9_push_25 : decode cX9_push 25 = .ok (.ifCond .ne 5, 3) := by decide +kernel
theorem dX9_push_28 : decode cX9_push 28 = .ok (.iconst (-1), 1) := by decide +kernel
theorem dX9_push_29 : decode cX9_push 29 = .ok (.ireturn, 1) := by decide +kernel
theorem dX9_push_30 : decode cX9_push 30 = .ok (.aload_n 0, 1) := by decide +kernel
theorem dX9_push_31 : decode cX9_push 31 = .ok (.getfield 28, 3) := by decide +kernel
theorem dX9_push_34 : decode cX9_push 34 = .ok (.iload_n 1, 1) := by decide +kernel
theorem dX9_push_35 : decode cX9_push 35 = .ok (.aload_n 0, 1) := by decide +kernel
theorem dX9_push_36 : decode cX9_push 36 = .ok (.iload_n 1, 1) := by decide +kernel
theorem dX9_push_37 : decode cX9_push 37 = .ok (.aload_n 0, 1) := by decide +kernel
theorem dX9_push_38 : decode cX9_push 38 = .ok (.getfield 28, 3) := by decide +kernel
theorem dX9_push_41 : decode cX9_push 41 = .ok (.iload_n 1, 1) := by decide +kernel
theorem dX9_push_42 : decode cX9_push 42 = .ok (.iaload, 1) := by decide +kernel
theorem dX9_push_43 : decode cX9_push 43 = .ok (.iload_n 2, 1) := by decide +kernel
theorem dX9_push_44 : decode cX9_push 44 = .ok (.invokevirtual 162, 3) := by decide +kernel
theorem dX9_push_47 : decode cX9_push 47 = .ok (.iastore, 1) := by decide +kernel
theorem dX9_push_48 : decode cX9_push 48 = .ok (.aload_n 0, 1) := by decide +kernel
theorem dX9_push_49 : decode cX9_push 49 = .ok (.getfield 28, 3) := by decide +kernel
theorem dX9_push_52 : decode cX9_push 52 = .ok (.iload_n 1, 1) := by decide +kernel
theorem dX9_push_53 : decode cX9_push 53 = .ok (.iaload, 1) := by decide +kernel
theorem dX9_push_54 : decode cX9_push 54 = .ok (.ireturn, 1) := by decide +kernel
set_option maxRecDepth 20000 in
theorem ggX9_way_X9_isBox : GoodIn wsX9_way wsX9_isBox := goodIn_r _ [10, 11, 12, 9, 13] rfl (by decide +kernel)
set_option maxRecDepth 20000 in
theorem gX9_way_X9_isBox : GoodIn wsX9_way (va_wsS RX9 156 yX9_isBox wsX9_isBox) := goodIn_app (goodIn_of _ (by decide +kernel)) ggX9_way_X9_isBox
set_option maxRecDepth 20000 in
theorem ggX9_way_X9_isSet : GoodIn wsX9_way wsX9_isSet := goodIn_r _ [17, 18, 11, 12, 9, 13, 30, 31, 32, 33, 34, 35, 36, 37, 38, 39, 40, 41, 42, 43, 44, 45, 46] rfl (by decide +kernel)
set_option maxRecDepth 20000 in
theorem gX9_way_X9_isSet : GoodIn wsX9_way (wsV RX9 159 RX9 yX9_isSet wsX9_isSet) := goodIn_app (goodIn_of _ (by decide +kernel)) ggX9_way_X9_isSet
set_option maxRecDepth 20000 in
theorem ggX9_way_X9_tell : GoodIn wsX9_way wsX9_tell := goodIn_r _ [22, 4, 2, 23, 24, 6, 30, 31, 32, 33, 34, 35, 36, 37, 38, 39, 40, 41, 42, 43, 44, 45, 46] rfl (by decide +kernel)
set_option maxRecDepth 20000 in
theorem gX9_way_X9_tell : GoodIn wsX9_way (wsV RX9 165 RX9 yX9_tell wsX9_tell) := goodIn_app (goodIn_of _ (by decide +kernel)) ggX9_way_X9_tell
set_option maxRecDepth 20000 in
theorem ggX9_way_X9_behind : GoodIn wsX9_way wsX9_behind := goodIn_r _ [28, 18, 29, 30, 31, 32, 33, 34, 35, 36, 37, 38, 39, 40, 41, 42, 43, 44, 45, 46] rfl (by decide +kernel)
set_option maxRecDepth 20000 in
theorem gX9_way_X9_behind : GoodIn wsX9_way (wsV RX9 162 RX9 yX9_behind wsX9_behind) := goodIn_app (goodIn_of _ (by decide +kernel)) ggX9_way_X9_behind
theorem dX9_way_0 : decode cX9_way 0 = .ok (.aload_n 0, 1) := by decide +kernel
theorem dX9_way_1 : decode cX9_way 1 = .ok (.iconst 0, 1) := by decide +kernel
theorem dX9_way_2 : decode cX9_way 2 = .ok (.putfield 43, 3) := by decide +kernel
theorem dX9_way_5 : decode cX9_way 5 = .ok (.iload_n 1, 1) := by decide +kernel
theorem dX9_way_6 : decode cX9_way 6 = .ok (.invokestatic 156, 3) := by decide +kernel
theorem dX9_way_9 : decode cX9_way 9 = .ok (.ifCond .eq 12, 3) := by decide +kernel
theorem dX9_way_12 : decode cX9_way 12 = .ok (.aload_n 0, 1) := by decide +kernel
theorem dX9_way_13 : decode cX9_way 13 = .ok (.iload_n 1, 1) := by decide +kernel
theorem dX9_way_14 : decode cX9_way 14 = .ok (.iload_n 2, 1) := by decide +kernel
theorem dX9_way_15 : decode cX9_way 15 = .ok (.invokevirtual 159, 3) := by decide +kernel
theorem dX9_way_18 : decode cX9_way 18 = .ok (.ifCond .ne 5, 3) := by decide +kernel
theorem dX9_way_21 : decode cX9_way 21 = .ok (.iconst (-1), 1) := by decide +kernel
theorem dX9_way_22 : decode cX9_way 22 = .ok (.ireturn, 1) := by decide +kernel
theorem dX9_way_23 : decode cX9_way 23 = .ok (.iconst 0, 1) := by decide +kernel
theorem dX9_way_24 : decode cX9_way 24 = .ok (.istore_n 3, 1) := by decide +kernel
theorem dX9_way_25 : decode cX9_way 25 = .ok (.iload_n 3, 1) := by decide +kernel
theorem dX9_way_26 : decode cX9_way 26 = .ok (.sipush 256, 3) := by decide +kernel
theorem dX9_way_29 : decode cX9_way 29 = .ok (.if_icmp .ge 16, 3) := by decide +kernel
theorem dX9_way_32 : decode cX9_way 32 = .ok (.aload_n 0, 1) := by decide +kernel
theorem dX9_way_33 : decode cX9_way 33 = .ok (.getfield 37, 3) := by decide +kernel
theorem dX9_way_36 : decode cX9_way 36 = .ok (.iload_n 3, 1) := by decide +kernel
theorem dX9_way_37 : decode cX9_way 37 = .ok (.iconst (-1), 1) := by decide +kernel
theorem dX9_way_38 : decode cX9_way 38 = .ok (.iastore, 1) := by decide +kernel
theorem dX9_way_39 : decode cX9_way 39 = .ok (.iinc 3 1, 3) := by decide +kernel
theorem dX9_way_42 : decode cX9_way 42 = .ok (.goto (-17), 3) := by decide +kernel
theorem dX9_way_45 : decode cX9_way 45 = .ok (.aload_n 0, 1) := by decide +kernel
theorem dX9_way_46 : decode cX9_way 46 = .ok (.getfield 34, 3) := by decide +kernel
theorem dX9_way_49 : decode cX9_way 49 = .ok (.iconst 0, 1) := by decide +kernel
theorem dX9_way_50 : decode cX9_way 50 = .ok (.aload_n 0, 1) := by decide +kernel
theorem dX9_way_51 : decode cX9_way 51 = .ok (.getfield 28, 3) := by decide +kernel
theorem dX9_way_54 : decode cX9_way 54 = .ok (.iload_n 1, 1) := by decide +kernel
theorem dX9_way_55 : decode cX9_way 55 = .ok (.iaload, 1) := by decide +kernel
theorem dX9_way_56 : decode cX9_way 56 = .ok (.iastore, 1) := by decide +kernel
theorem dX9_way_57 : decode cX9_way 57 = .ok (.aload_n 0, 1) := by decide +kernel
theorem dX9_way_58 : decode cX9_way 58 = .ok (.getfield 37, 3) := by decide +kernel
theorem dX9_way_61 : decode cX9_way 61 = .ok (.aload_n 0, 1) := by decide +kernel
theorem dX9_way_62 : decode cX9_way 62 = .ok (.getfield 28, 3) := by decide +kernel
theorem dX9_way_65 : decode cX9_way 65 = .ok (.iload_n 1, 1) := by decide +kernel
theorem dX9_way_66 : decode cX9_way 66 = .ok (.iaload, 1) := by decide +kernel
theorem dX9_way_67 : decode cX9_way 67 = .ok (.aload_n 0, 1) := by decide +kernel
theorem dX9_way_68 : decode cX9_way 68 = .ok (.getfield 28, 3) := by decide +kernel
theorem dX9_way_71 : decode cX9_way 71 = .ok (.iload_n 1, 1) := by decide +kernel
theorem dX9_way_72 : decode cX9_way 72 = .ok (.iaload, 1) := by decide +kernel
theorem dX9_way_73 : decode cX9_way 73 = .ok (.iastore, 1) := by decide +kernel
theorem dX9_way_74 : decode cX9_way 74 = .ok (.iconst 1, 1) := by decide +kernel
theorem dX9_way_75 : decode cX9_way 75 = .ok (.istore_n 3, 1) := by decide +kernel
theorem dX9_way_76 : decode cX9_way 76 = .ok (.iconst 0, 1) := by decide +kernel
theorem dX9_way_77 : decode cX9_way 77 = .ok (.istore 4, 2) := by decide +kernel
theorem dX9_way_79 : decode cX9_way 79 = .ok (.iload 4, 2) := by decide +kernel
theorem dX9_way_81 : decode cX9_way 81 = .ok (.iload_n 3, 1) := by decide +kernel
theorem dX9_way_82 : decode cX9_way 82 = .ok (.if_icmp .ge 109, 3) := by decide +kernel
theorem dX9_way_85 : decode cX9_way 85 = .ok (.aload_n 0, 1) := by decide +kernel
theorem dX9_way_86 : decode cX9_way 86 = .ok (.getfield 34, 3) := by decide +kernel
theorem dX9_way_89 : decode cX9_way 89 = .ok (.iload 4, 2) := by decide +kernel
theorem dX9_way_91 : decode cX9_way 91 = .ok (.iaload, 1) := by decide +kernel
theorem dX9_way_92 : decode cX9_way 92 = .ok (.istore 5, 2) := by decide +kernel
theorem dX9_way_94 : decode cX9_way 94 = .ok (.iload 5, 2) := by decide +kernel
theorem dX9_way_96 : decode cX9_way 96 = .ok (.iload_n 2, 1) := by decide +kernel
theorem dX9_way_97 : decode cX9_way 97 = .ok (.iconst (-1), 1) := by decide +kernel
theorem dX9_way_98 : decode cX9_way 98 = .ok (.ixor, 1) := by decide +kernel
theorem dX9_way_99 : decode cX9_way 99 = .ok (.iand, 1) := by decide +kernel
theorem dX9_way_100 : decode cX9_way 100 = .ok (.ifCond .ne 11, 3) := by decide +kernel
theorem dX9_way_103 : decode cX9_way 103 = .ok (.aload_n 0, 1) := by decide +kernel
theorem dX9_way_104 : decode cX9_way 104 = .ok (.iload_n 1, 1) := by decide +kernel
theorem dX9_way_105 : decode cX9_way 105 = .ok (.iload 5, 2) := by decide +kernel
theorem dX9_way_107 : decode cX9_way 107 = .ok (.invokevirtual 165, 3) := by decide +kernel
theorem dX9_way_110 : decode cX9_way 110 = .ok (.ireturn, 1) := by decide +kernel
theorem dX9_way_111 : decode cX9_way 111 = .ok (.iconst 0, 1) := by decide +kernel
theorem dX9_way_112 : decode cX9_way 112 = .ok (.istore 6, 2) := by decide +kernel
theorem dX9_way_114 : decode cX9_way 114 = .ok (.iload 6, 2) := by decide +kernel
theorem dX9_way_116 : decode cX9_way 116 = .ok (.aload_n 0, 1) := by decide +kernel
theorem dX9_way_117 : decode cX9_way 117 = .ok (.getfield 22, 3) := by decide +kernel
theorem dX9_way_120 : decode cX9_way 120 = .ok (.iload_n 1, 1) := by decide +kernel
theorem dX9_way_121 : decode cX9_way 121 = .ok (.iaload, 1) := by decide +kernel
theorem dX9_way_122 : decode cX9_way 122 = .ok (.if_icmp .ge 63, 3) := by decide +kernel
theorem dX9_way_125 : decode cX9_way 125 = .ok (.aload_n 0, 1) := by decide +kernel
theorem dX9_way_126 : decode cX9_way 126 = .ok (.iload_n 1, 1) := by decide +kernel
theorem dX9_way_127 : decode cX9_way 127 = .ok (.iload 5, 2) := by decide +kernel
theorem dX9_way_129 : decode cX9_way 129 = .ok (.iload 6, 2) := by decide +kernel
theorem dX9_way_131 : decode cX9_way 131 = .ok (.invokevirtual 162, 3) := by decide +kernel
theorem dX9_way_134 : decode cX9_way 134 = .ok (.istore 7, 2) := by decide +kernel
theorem dX9_way_136 : decode cX9_way 136 = .ok (.aload_n 0, 1) := by decide +kernel
theorem dX9_way_137 : decode cX9_way 137 = .ok (.getfield 37, 3) := by decide +kernel
theorem dX9_way_140 : decode cX9_way 140 = .ok (.iload 7, 2) := by decide +kernel
theorem dX9_way_142 : decode cX9_way 142 = .ok (.iaload, 1) := by decide +kernel
theorem dX9_way_143 : decode cX9_way 143 = .ok (.iconst (-1), 1) := by decide +kernel
theorem dX9_way_144 : decode cX9_way 144 = .ok (.if_icmp .eq 6, 3) := by decide +kernel
theorem dX9_way_147 : decode cX9_way 147 = .ok (.goto 32, 3) := by decide +kernel
theorem dX9_way_150 : decode cX9_way 150 = .ok (.aload_n 0, 1) := by decide +kernel
theorem dX9_way_151 : decode cX9_way 151 = .ok (.getfield 37, 3) := by decide +kernel
theorem dX9_way_154 : decode cX9_way 154 = .ok (.iload 7, 2) := by decide +kernel
theorem dX9_way_156 : decode cX9_way 156 = .ok (.iload 5, 2) := by decide +kernel
theorem dX9_way_158 : decode cX9_way 158 = .ok (.iastore, 1) := by decide +kernel
theorem dX9_way_159 : decode cX9_way 159 = .ok (.aload_n 0, 1) := by decide +kernel
theorem dX9_way_160 : decode cX9_way 160 = .ok (.getfield 40, 3) := by decide +kernel
theorem dX9_way_163 : decode cX9_way 163 = .ok (.iload 7, 2) := by decide +kernel
theorem dX9_way_165 : decode cX9_way 165 = .ok (.iload 6, 2) := by decide +kernel
theorem dX9_way_167 : decode cX9_way 167 = .ok (.iastore, 1) := by decide +kernel
theorem dX9_way_168 : decode cX9_way 168 = .ok (.aload_n 0, 1) := by decide +kernel
theorem dX9_way_169 : decode cX9_way 169 = .ok (.getfield 34, 3) := by decide +kernel
theorem dX9_way_172 : decode cX9_way 172 = .ok (.iload_n 3, 1) := by decide +kernel
theorem dX9_way_173 : decode cX9_way 173 = .ok (.iload 7, 2) := by decide +kernel
theorem dX9_way_175 : decode cX9_way 175 = .ok (.iastore, 1) := by decide +kernel
theorem dX9_way_176 : decode cX9_way 176 = .ok (.iinc 3 1, 3) := by decide +kernel
theorem dX9_way_179 : decode cX9_way 179 = .ok (.iinc 6 1, 3) := by decide +kernel
theorem dX9_way_182 : decode cX9_way 182 = .ok (.goto (-68), 3) := by decide +kernel
theorem dX9_way_185 : decode cX9_way 185 = .ok (.iinc 4 1, 3) := by decide +kernel
theorem dX9_way_188 : decode cX9_way 188 = .ok (.goto (-109), 3) := by decide +kernel
theorem dX9_way_191 : decode cX9_way 191 = .ok (.bipush (-2), 2) := by decide +kernel
theorem dX9_way_193 : decode cX9_way 193 = .ok (.ireturn, 1) := by decide +kernel
theorem dX9_tell_0 : decode cX9_tell 0 = .ok (.iconst 0, 1) := by decide +kernel
theorem dX9_tell_1 : decode cX9_tell 1 = .ok (.istore_n 3, 1) := by decide +kernel
theorem dX9_tell_2 : decode cX9_tell 2 = .ok (.iload_n 2, 1) := by decide +kernel
theorem dX9_tell_3 : decode cX9_tell 3 = .ok (.istore 4, 2) := by decide +kernel
theorem dX9_tell_5 : decode cX9_tell 5 = .ok (.iload 4, 2) := by decide +kernel
theorem dX9_tell_7 : decode cX9_tell 7 = .ok (.aload_n 0, 1) := by decide +kernel
theorem dX9_tell_8 : decode cX9_tell 8 = .ok (.getfield 28, 3) := by decide +kernel
theorem dX9_tell_11 : decode cX9_tell 11 = .ok (.iload_n 1, 1) := by decide +kernel
theorem dX9_tell_12 : decode cX9_tell 12 = .ok (.iaload, 1) := by decide +kernel
theorem dX9_tell_13 : decode cX9_tell 13 = .ok (.if_icmp .eq 18, 3) := by decide +kernel
theorem dX9_tell_16 : decode cX9_tell 16 = .ok (.iinc 3 1, 3) := by decide +kernel
theorem dX9_tell_19 : decode cX9_tell 19 = .ok (.aload_n 0, 1) := by decide +kernel
theorem dX9_tell_20 : decode cX9_tell 20 = .ok (.getfield 37, 3) := by decide +kernel
theorem dX9_tell_23 : decode cX9_tell 23 = .ok (.iload 4, 2) := by decide +kernel
theorem dX9_tell_25 : decode cX9_tell 25 = .ok (.iaload, 1) := by decide +kernel
theorem dX9_tell_26 : decode cX9_tell 26 = .ok (.istore 4, 2) := by decide +kernel
theorem dX9_tell_28 : decode cX9_tell 28 = .ok (.goto (-23), 3) := by decide +kernel
theorem dX9_tell_31 : decode cX9_tell 31 = .ok (.aload_n 0, 1) := by decide +kernel
theorem dX9_tell_32 : decode cX9_tell 32 = .ok (.iload_n 3, 1) := by decide +kernel
theorem dX9_tell_33 : decode cX9_tell 33 = .ok (.putfield 168, 3) := by decide +kernel
theorem dX9_tell_36 : decode cX9_tell 36 = .ok (.iload_n 2, 1) := by decide +kernel
theorem dX9_tell_37 : decode cX9_tell 37 = .ok (.istore 4, 2) := by decide +kernel
theorem dX9_tell_39 : decode cX9_tell 39 = .ok (.iload 4, 2) := by decide +kernel
theorem dX9_tell_41 : decode cX9_tell 41 = .ok (.aload_n 0, 1) := by decide +kernel
theorem dX9_tell_42 : decode cX9_tell 42 = .ok (.getfield 28, 3) := by decide +kernel
theorem dX9_tell_45 : decode cX9_tell 45 = .ok (.iload_n 1, 1) := by decide +kernel
theorem dX9_tell_46 : decode cX9_tell 46 = .ok (.iaload, 1) := by decide +kernel
theorem dX9_tell_47 : decode cX9_tell 47 = .ok (.if_icmp .eq 31, 3) := by decide +kernel
theorem dX9_tell_50 : decode cX9_tell 50 = .ok (.iinc 3 (-1), 3) := by decide +kernel
theorem dX9_tell_53 : decode cX9_tell 53 = .ok (.aload_n 0, 1) := by decide +kernel
theorem dX9_tell_54 : decode cX9_tell 54 = .ok (.getfield 31, 3) := by decide +kernel
theorem dX9_tell_57 : decode cX9_tell 57 = .ok (.iload_n 3, 1) := by decide +kernel
theorem dX9_tell_58 : decode cX9_tell 58 = .ok (.aload_n 0, 1) := by decide +kernel
theorem dX9_tell_59 : decode cX9_tell 59 = .ok (.getfield 40, 3) := by decide +kernel
theorem dX9_tell_62 : decode cX9_tell 62 = .ok (.iload 4, 2) := by decide +kernel
theorem dX9_tell_64 : decode cX9_tell 64 = .ok (.iaload, 1) := by decide +kernel
theorem dX9_tell_65 : decode cX9_tell 65 = .ok (.iastore, 1) := by decide +kernel
theorem dX9_tell_66 : decode cX9_tell 66 = .ok (.aload_n 0, 1) := by decide +kernel
theorem dX9_tell_67 : decode cX9_tell 67 = .ok (.getfield 37, 3) := by decide +kernel
theorem dX9_tell_70 : decode cX9_tell 70 = .ok (.iload 4, 2) := by decide +kernel
theorem dX9_tell_72 : decode cX9_tell 72 = .ok (.iaload, 1) := by decide +kernel
theorem dX9_tell_73 : decode cX9_tell 73 = .ok (.istore 4, 2) := by decide +kernel
theorem dX9_tell_75 : decode cX9_tell 75 = .ok (.goto (-36), 3) := by decide +kernel
theorem dX9_tell_78 : decode cX9_tell 78 = .ok (.aload_n 0, 1) := by decide +kernel
theorem dX9_tell_79 : decode cX9_tell 79 = .ok (.getfield 168, 3) := by decide +kernel
theorem dX9_tell_82 : decode cX9_tell 82 = .ok (.ireturn, 1) := by decide +kernel
set_option maxRecDepth 20000 in
theorem ggX9_button_X9_in : GoodIn wsX9_button wsX9_in := goodIn_r _ [7] rfl (by decide +kernel)
set_option maxRecDepth 20000 in
theorem gX9_button_X9_in : GoodIn wsX9_button (va_wsS RX9 50 yX9_in wsX9_in) := goodIn_app (goodIn_of _ (by decide +kernel)) ggX9_button_X9_in
theorem dX9_button_0 : decode cX9_button 0 = .ok (.aload_n 0, 1) := by decide +kernel
theorem dX9_button_1 : decode cX9_button 1 = .ok (.iconst 0, 1) := by decide +kernel
theorem dX9_button_2 : decode cX9_button 2 = .ok (.putfield 43, 3) := by decide +kernel
theorem dX9_button_5 : decode cX9_button 5 = .ok (.iload_n 1, 1) := by decide +kernel
theorem dX9_button_6 : decode cX9_button 6 = .ok (.iconst 0, 1) := by decide +kernel
theorem dX9_button_7 : decode cX9_button 7 = .ok (.aload_n 0, 1) := by decide +kernel
theorem dX9_button_8 : decode cX9_button 8 = .ok (.getfield 168, 3) := by decide +kernel
theorem dX9_button_11 : decode cX9_button 11 = .ok (.iconst 1, 1) := by decide +kernel
theorem dX9_button_12 : decode cX9_button 12 = .ok (.isub, 1) := by decide +kernel
theorem dX9_button_13 : decode cX9_button 13 = .ok (.invokestatic 50, 3) := by decide +kernel
theorem dX9_button_16 : decode cX9_button 16 = .ok (.ifCond .eq 12, 3) := by decide +kernel
theorem dX9_button_19 : decode cX9_button 19 = .ok (.aload_n 0, 1) := by decide +kernel
theorem dX9_button_20 : decode cX9_button 20 = .ok (.getfield 31, 3) := by decide +kernel
theorem dX9_button_23 : decode cX9_button 23 = .ok (.iload_n 1, 1) := by decide +kernel
theorem dX9_button_24 : decode cX9_button 24 = .ok (.iaload, 1) := by decide +kernel
theorem dX9_button_25 : decode cX9_button 25 = .ok (.goto 4, 3) := by decide +kernel
theorem dX9_button_28 : decode cX9_button 28 = .ok (.iconst (-1), 1) := by decide +kernel
theorem dX9_button_29 : decode cX9_button 29 = .ok (.ireturn, 1) := by decide +kernel
set_option maxRecDepth 20000 in
theorem ggX9_told_X9_isBox : GoodIn wsX9_told wsX9_isBox := goodIn_r _ [8, 9, 10, 7, 11] rfl (by decide +kernel)
set_option maxRecDepth 20000 in
theorem gX9_told_X9_isBox : GoodIn wsX9_told (va_wsS RX9 156 yX9_isBox wsX9_isBox) := goodIn_app (goodIn_of _ (by decide +kernel)) ggX9_told_X9_isBox
theorem dX9_told_0 : decode cX9_told 0 = .ok (.aload_n 0, 1) := by decide +kernel
theorem dX9_told_1 : decode cX9_told 1 = .ok (.iconst 0, 1) := by decide +kernel
theorem dX9_told_2 : decode cX9_told 2 = .ok (.putfield 43, 3) := by decide +kernel
theorem dX9_told_5 : decode cX9_told 5 = .ok (.iload_n 1, 1) := by decide +kernel
theorem dX9_told_6 : decode cX9_told 6 = .ok (.invokestatic 156, 3) := by decide +kernel
theorem dX9_told_9 : decode cX9_told 9 = .ok (.ifCond .ne 5, 3) := by decide +kernel
theorem dX9_told_12 : decode cX9_told 12 = .ok (.iconst (-1), 1) := by decide +kernel
theorem dX9_told_13 : decode cX9_told 13 = .ok (.ireturn, 1) := by decide +kernel
theorem dX9_told_14 : decode cX9_told 14 = .ok (.iload_n 2, 1) := by decide +kernel
theorem dX9_told_15 : decode cX9_told 15 = .ok (.ifCond .ne 12, 3) := by decide +kernel
theorem dX9_told_18 : decode cX9_told 18 = .ok (.aload_n 0, 1) := by decide +kernel
theorem dX9_told_19 : decode cX9_told 19 = .ok (.getfield 19, 3) := by decide +kernel
theorem dX9_told_22 : decode cX9_told 22 = .ok (.iload_n 1, 1) := by decide +kernel
theorem dX9_told_23 : decode cX9_told 23 = .ok (.iaload, 1) := by decide +kernel
theorem dX9_told_24 : decode cX9_told 24 = .ok (.goto 32, 3) := by decide +kernel
theorem dX9_told_27 : decode cX9_told 27 = .ok (.iload_n 2, 1) := by decide +kernel
theorem dX9_told_28 : decode cX9_told 28 = .ok (.iconst 1, 1) := by decide +kernel
theorem dX9_told_29 : decode cX9_told 29 = .ok (.if_icmp .ne 12, 3) := by decide +kernel
theorem dX9_told_32 : decode cX9_told 32 = .ok (.aload_n 0, 1) := by decide +kernel
theorem dX9_told_33 : decode cX9_told 33 = .ok (.getfield 22, 3) := by decide +kernel
theorem dX9_told_36 : decode cX9_told 36 = .ok (.iload_n 1, 1) := by decide +kernel
theorem dX9_told_37 : decode cX9_told 37 = .ok (.iaload, 1) := by decide +kernel
theorem dX9_told_38 : decode cX9_told 38 = .ok (.goto 18, 3) := by decide +kernel
theorem dX9_told_41 : decode cX9_told 41 = .ok (.iload_n 2, 1) := by decide +kernel
theorem dX9_told_42 : decode cX9_told 42 = .ok (.iconst 2, 1) := by decide +kernel
theorem dX9_told_43 : decode cX9_told 43 = .ok (.if_icmp .ne 12, 3) := by decide +kernel
theorem dX9_told_46 : decode cX9_told 46 = .ok (.aload_n 0, 1) := by decide +kernel
theorem dX9_told_47 : decode cX9_told 47 = .ok (.getfield 28, 3) := by decide +kernel
theorem dX9_told_50 : decode cX9_told 50 = .ok (.iload_n 1, 1) := by decide +kernel
theorem dX9_told_51 : decode cX9_told 51 = .ok (.iaload, 1) := by decide +kernel
theorem dX9_told_52 : decode cX9_told 52 = .ok (.goto 4, 3) := by decide +kernel
theorem dX9_told_55 : decode cX9_told 55 = .ok (.iconst (-1), 1) := by decide +kernel
theorem dX9_told_56 : decode cX9_told 56 = .ok (.ireturn, 1) := by decide +kernel
theorem dX9_count_0 : decode cX9_count 0 = .ok (.aload_n 0, 1) := by decide +kernel
theorem dX9_count_1 : decode cX9_count 1 = .ok (.iconst 0, 1) := by decide +kernel
theorem dX9_count_2 : decode cX9_count 2 = .ok (.putfield 43, 3) := by decide +kernel
theorem dX9_count_5 : decode cX9_count 5 = .ok (.iload_n 1, 1) := by decide +kernel
theorem dX9_count_6 : decode cX9_count 6 = .ok (.ifCond .ne 10, 3) := by decide +kernel
theorem dX9_count_9 : decode cX9_count 9 = .ok (.aload_n 0, 1) := by decide +kernel
theorem dX9_count_10 : decode cX9_count 10 = .ok (.getfield 47, 3) := by decide +kernel
theorem dX9_count_13 : decode cX9_count 13 = .ok (.goto 28, 3) := by decide +kernel
theorem dX9_count_16 : decode cX9_count 16 = .ok (.iload_n 1, 1) := by decide +kernel
theorem dX9_count_17 : decode cX9_count 17 = .ok (.iconst 1, 1) := by decide +kernel
theorem dX9_count_18 : decode cX9_count 18 = .ok (.if_icmp .ne 10, 3) := by decide +kernel
theorem dX9_count_21 : decode cX9_count 21 = .ok (.aload_n 0, 1) := by decide +kernel
theorem dX9_count_22 : decode cX9_count 22 = .ok (.getfield 62, 3) := by decide +kernel
theorem dX9_count_25 : decode cX9_count 25 = .ok (.goto 16, 3) := by decide +kernel
theorem dX9_count_28 : decode cX9_count 28 = .ok (.iload_n 1, 1) := by decide +kernel
theorem dX9_count_29 : decode cX9_count 29 = .ok (.iconst 2, 1) := by decide +kernel
theorem dX9_count_30 : decode cX9_count 30 = .ok (.if_icmp .ne 10, 3) := by decide +kernel
theorem dX9_count_33 : decode cX9_count 33 = .ok (.aload_n 0, 1) := by decide +kernel
theorem dX9_count_34 : decode cX9_count 34 = .ok (.getfield 168, 3) := by decide +kernel
theorem dX9_count_37 : decode cX9_count 37 = .ok (.goto 4, 3) := by decide +kernel
theorem dX9_count_40 : decode cX9_count 40 = .ok (.iconst (-1), 1) := by decide +kernel
theorem dX9_count_41 : decode cX9_count 41 = .ok (.ireturn, 1) := by decide +kernel
theorem dJ6_bitCount_0f7a4_0 : decode cJ6_bitCount_0f7a4 0 = .ok (.iload_n 0, 1) := by decide +kernel
theorem dJ6_bitCount_0f7a4_1 : decode cJ6_bitCount_0f7a4 1 = .ok (.iload_n 0, 1) := by decide +kernel
theorem dJ6_bitCount_0f7a4_2 : decode cJ6_bitCount_0f7a4 2 = .ok (.iconst 1, 1) := by decide +kernel
theorem dJ6_bitCount_0f7a4_3 : decode cJ6_bitCount_0f7a4 3 = .ok (.iushr, 1) := by decide +kernel
theorem dJ6_bitCount_0f7a4_4 : decode cJ6_bitCount_0f7a4 4 = .ok (.ldc_w 265, 3) := by decide +kernel
theorem dJ6_bitCount_0f7a4_7 : decode cJ6_bitCount_0f7a4 7 = .ok (.iand, 1) := by decide +kernel
theorem dJ6_bitCount_0f7a4_8 : decode cJ6_bitCount_0f7a4 8 = .ok (.isub, 1) := by decide +kernel
theorem dJ6_bitCount_0f7a4_9 : decode cJ6_bitCount_0f7a4 9 = .ok (.istore_n 0, 1) := by decide +kernel
theorem dJ6_bitCount_0f7a4_10 : decode cJ6_bitCount_0f7a4 10 = .ok (.iload_n 0, 1) := by decide +kernel
theorem dJ6_bitCount_0f7a4_11 : decode cJ6_bitCount_0f7a4 11 = .ok (.ldc_w 266, 3) := by decide +kernel
theorem dJ6_bitCount_0f7a4_14 : decode cJ6_bitCount_0f7a4 14 = .ok (.iand, 1) := by decide +kernel
theorem dJ6_bitCount_0f7a4_15 : decode cJ6_bitCount_0f7a4 15 = .ok (.iload_n 0, 1) := by decide +kernel
theorem dJ6_bitCount_0f7a4_16 : decode cJ6_bitCount_0f7a4 16 = .ok (.iconst 2, 1) := by decide +kernel
theorem dJ6_bitCount_0f7a4_17 : decode cJ6_bitCount_0f7a4 17 = .ok (.iushr, 1) := by decide +kernel
theorem dJ6_bitCount_0f7a4_18 : decode cJ6_bitCount_0f7a4 18 = .ok (.ldc_w 266, 3) := by decide +kernel
theorem dJ6_bitCount_0f7a4_21 : decode cJ6_bitCount_0f7a4 21 = .ok (.iand, 1) := by decide +kernel
theorem dJ6_bitCount_0f7a4_22 : decode cJ6_bitCount_0f7a4 22 = .ok (.iadd, 1) := by decide +kernel
theorem dJ6_bitCount_0f7a4_23 : decode cJ6_bitCount_0f7a4 23 = .ok (.istore_n 0, 1) := by decide +kernel
theorem dJ6_bitCount_0f7a4_24 : decode cJ6_bitCount_0f7a4 24 = .ok (.iload_n 0, 1) := by decide +kernel
theorem dJ6_bitCount_0f7a4_25 : decode cJ6_bitCount_0f7a4 25 = .ok (.iload_n 0, 1) := by decide +kernel
theorem dJ6_bitCount_0f7a4_26 : decode cJ6_bitCount_0f7a4 26 = .ok (.iconst 4, 1) := by decide +kernel
theorem dJ6_bitCount_0f7a4_27 : decode cJ6_bitCount_0f7a4 27 = .ok (.iushr, 1) := by decide +kernel
theorem dJ6_bitCount_0f7a4_28 : decode cJ6_bitCount_0f7a4 28 = .ok (.iadd, 1) := by decide +kernel
theorem dJ6_bitCount_0f7a4_29 : decode cJ6_bitCount_0f7a4 29 = .ok (.ldc_w 267, 3) := by decide +kernel
theorem dJ6_bitCount_0f7a4_32 : decode cJ6_bitCount_0f7a4 32 = .ok (.iand, 1) := by decide +kernel
theorem dJ6_bitCount_0f7a4_33 : decode cJ6_bitCount_0f7a4 33 = .ok (.istore_n 0, 1) := by decide +kernel
theorem dJ6_bitCount_0f7a4_34 : decode cJ6_bitCount_0f7a4 34 = .ok (.iload_n 0, 1) := by decide +kernel
theorem dJ6_bitCount_0f7a4_35 : decode cJ6_bitCount_0f7a4 35 = .ok (.iload_n 0, 1) := by decide +kernel
theorem dJ6_bitCount_0f7a4_36 : decode cJ6_bitCount_0f7a4 36 = .ok (.bipush 8, 2) := by decide +kernel
theorem dJ6_bitCount_0f7a4_38 : decode cJ6_bitCount_0f7a4 38 = .ok (.iushr, 1) := by decide +kernel
theorem dJ6_bitCount_0f7a4_39 : decode cJ6_bitCount_0f7a4 39 = .ok (.iadd, 1) := by decide +kernel
theorem dJ6_bitCount_0f7a4_40 : decode cJ6_bitCount_0f7a4 40 = .ok (.istore_n 0, 1) := by decide +kernel
theorem dJ6_bitCount_0f7a4_41 : decode cJ6_bitCount_0f7a4 41 = .ok (.iload_n 0, 1) := by decide +kernel
theorem dJ6_bitCount_0f7a4_42 : decode cJ6_bitCount_0f7a4 42 = .ok (.iload_n 0, 1) := by decide +kernel
theorem dJ6_bitCount_0f7a4_43 : decode cJ6_bitCount_0f7a4 43 = .ok (.bipush 16, 2) := by decide +kernel
theorem dJ6_bitCount_0f7a4_45 : decode cJ6_bitCount_0f7a4 45 = .ok (.iushr, 1) := by decide +kernel
theorem dJ6_bitCount_0f7a4_46 : decode cJ6_bitCount_0f7a4 46 = .ok (.iadd, 1) := by decide +kernel
theorem dJ6_bitCount_0f7a4_47 : decode cJ6_bitCount_0f7a4 47 = .ok (.istore_n 0, 1) := by decide +kernel
theorem dJ6_bitCount_0f7a4_48 : decode cJ6_bitCount_0f7a4 48 = .ok (.iload_n 0, 1) := by decide +kernel
theorem dJ6_bitCount_0f7a4_49 : decode cJ6_bitCount_0f7a4 49 = .ok (.bipush 63, 2) := by decide +kernel
theorem dJ6_bitCount_0f7a4_51 : decode cJ6_bitCount_0f7a4 51 = .ok (.iand, 1) := by decide +kernel
theorem dJ6_bitCount_0f7a4_52 : decode cJ6_bitCount_0f7a4 52 = .ok (.ireturn, 1) := by decide +kernel
theorem dJ9_abs_0f7a4_0 : decode cJ9_abs_0f7a4 0 = .ok (.iload_n 0, 1) := by decide +kernel
theorem dJ9_abs_0f7a4_1 : decode cJ9_abs_0f7a4 1 = .ok (.ifCond .ge 8, 3) := by decide +kernel
theorem dJ9_abs_0f7a4_4 : decode cJ9_abs_0f7a4 4 = .ok (.iload_n 0, 1) := by decide +kernel
theorem dJ9_abs_0f7a4_5 : decode cJ9_abs_0f7a4 5 = .ok (.ineg, 1) := by decide +kernel
theorem dJ9_abs_0f7a4_6 : decode cJ9_abs_0f7a4 6 = .ok (.goto 4, 3) := by decide +kernel
theorem dJ9_abs_0f7a4_9 : decode cJ9_abs_0f7a4 9 = .ok (.iload_n 0, 1) := by decide +kernel
theorem dJ9_abs_0f7a4_10 : decode cJ9_abs_0f7a4 10 = .ok (.ireturn, 1) := by decide +kernel
theorem dJ9_max_7cf53_0 : decode cJ9_max_7cf53 0 = .ok (.iload_n 0, 1) := by decide +kernel
theorem dJ9_max_7cf53_1 : decode cJ9_max_7cf53 1 = .ok (.iload_n 1, 1) := by decide +kernel
theorem dJ9_max_7cf53_2 : decode cJ9_max_7cf53 2 = .ok (.if_icmp .lt 7, 3) := by decide +kernel
theorem dJ9_max_7cf53_5 : decode cJ9_max_7cf53 5 = .ok (.iload_n 0, 1) := by decide +kernel
theorem dJ9_max_7cf53_6 : decode cJ9_max_7cf53 6 = .ok (.goto 4, 3) := by decide +kernel
theorem dJ9_max_7cf53_9 : decode cJ9_max_7cf53 9 = .ok (.iload_n 1, 1) := by decide +kernel
theorem dJ9_max_7cf53_10 : decode cJ9_max_7cf53 10 = .ok (.ireturn, 1) := by decide +kernel
theorem dJ9_min_7cf53_0 : decode cJ9_min_7cf53 0 = .ok (.iload_n 0, 1) := by decide +kernel
theorem dJ9_min_7cf53_1 : decode cJ9_min_7cf53 1 = .ok (.iload_n 1, 1) := by decide +kernel
theorem dJ9_min_7cf53_2 : decode cJ9_min_7cf53 2 = .ok (.if_icmp .gt 7, 3) := by decide +kernel
theorem dJ9_min_7cf53_5 : decode cJ9_min_7cf53 5 = .ok (.iload_n 0, 1) := by decide +kernel
theorem dJ9_min_7cf53_6 : decode cJ9_min_7cf53 6 = .ok (.goto 4, 3) := by decide +kernel
theorem dJ9_min_7cf53_9 : decode cJ9_min_7cf53 9 = .ok (.iload_n 1, 1) := by decide +kernel
theorem dJ9_min_7cf53_10 : decode cJ9_min_7cf53 10 = .ok (.ireturn, 1) := by decide +kernel
theorem dJ7_fill_53178_0 : decode cJ7_fill_53178 0 = .ok (.iconst 0, 1) := by decide +kernel
theorem dJ7_fill_53178_1 : decode cJ7_fill_53178 1 = .ok (.istore_n 2, 1) := by decide +kernel
theorem dJ7_fill_53178_2 : decode cJ7_fill_53178 2 = .ok (.aload_n 0, 1) := by decide +kernel
theorem dJ7_fill_53178_3 : decode cJ7_fill_53178 3 = .ok (.arraylength, 1) := by decide +kernel
theorem dJ7_fill_53178_4 : decode cJ7_fill_53178 4 = .ok (.istore_n 3, 1) := by decide +kernel
theorem dJ7_fill_53178_5 : decode cJ7_fill_53178 5 = .ok (.iload_n 2, 1) := by decide +kernel
theorem dJ7_fill_53178_6 : decode cJ7_fill_53178 6 = .ok (.iload_n 3, 1) := by decide +kernel
theorem dJ7_fill_53178_7 : decode cJ7_fill_53178 7 = .ok (.if_icmp .ge 13, 3) := by decide +kernel
theorem dJ7_fill_53178_10 : decode cJ7_fill_53178 10 = .ok (.aload_n 0, 1) := by decide +kernel
theorem dJ7_fill_53178_11 : decode cJ7_fill_53178 11 = .ok (.iload_n 2, 1) := by decide +kernel
theorem dJ7_fill_53178_12 : decode cJ7_fill_53178 12 = .ok (.iload_n 1, 1) := by decide +kernel
theorem dJ7_fill_53178_13 : decode cJ7_fill_53178 13 = .ok (.iastore, 1) := by decide +kernel
theorem dJ7_fill_53178_14 : decode cJ7_fill_53178 14 = .ok (.iinc 2 1, 3) := by decide +kernel
theorem dJ7_fill_53178_17 : decode cJ7_fill_53178 17 = .ok (.goto (-12), 3) := by decide +kernel
theorem dJ7_fill_53178_20 : decode cJ7_fill_53178 20 = .ok (.return_, 1) := by decide +kernel
set_option maxRecDepth 20000 in
theorem ggL_time_X8_time : GoodIn wsL_time wsX8_time := goodIn_ca (goodIn_r _ [6, 7, 8, 9, 10, 11, 5, 12, 13, 14, 15, 16, 17, 18, 19, 20, 21, 22, 23, 24, 25, 26] (by decide +kernel) (by decide +kernel)) (goodIn_sub (fun _ h => List.mem_cons_of_mem _ (List.mem_append_right _ h)) (by decide +kernel))
set_option maxRecDepth 20000 in
theorem gL_time_X8_time : GoodIn wsL_time (wsV RL 7 RX8 yX8_time wsX8_time) := goodIn_app (goodIn_of _ (by decide +kernel)) ggL_time_X8_time
theorem dL_time_0 : decode cL_time 0 = .ok (.aload_n 2, 1) := by decide +kernel
theorem dL_time_1 : decode cL_time 1 = .ok (.iconst 0, 1) := by decide +kernel
theorem dL_time_2 : decode cL_time 2 = .ok (.aload_n 0, 1) := by decide +kernel
theorem dL_time_3 : decode cL_time 3 = .ok (.iload_n 1, 1) := by decide +kernel
theorem dL_time_4 : decode cL_time 4 = .ok (.invokevirtual 7, 3) := by decide +kernel
theorem dL_time_7 : decode cL_time 7 = .ok (.i2l, 1) := by decide +kernel
theorem dL_time_8 : decode cL_time 8 = .ok (.lastore, 1) := by decide +kernel
theorem dL_time_9 : decode cL_time 9 = .ok (.goto 6, 3) := by decide +kernel
theorem dL_time_12 : decode cL_time 12 = .ok (.astore_n 3, 1) := by decide +kernel
theorem dL_time_13 : decode cL_time 13 = .ok (.iconst 1, 1) := by decide +kernel
theorem dL_time_14 : decode cL_time 14 = .ok (.ireturn, 1) := by decide +kernel
theorem dL_time_15 : decode cL_time 15 = .ok (.iconst 0, 1) := by decide +kernel
theorem dL_time_16 : decode cL_time 16 = .ok (.ireturn, 1) := by decide +kernel
set_option maxRecDepth 20000 in
theorem ggL_law_X8_init : GoodIn wsL_law wsX8_init := goodIn_r _ [9, 10, 11, 12, 13, 14, 15, 16, 17, 18, 19, 20, 21, 22, 23, 24, 25, 26, 27, 28, 29, 30, 31, 32, 33, 34, 35, 36, 37, 38, 39, 40, 41, 42, 43, 44, 45, 46, 2, 47, 48, 49, 50, 51, 52, 53, 54, 55, 56, 57, 58, 59, 706, 707, 684, 685, 686, 687, 688, 708, 709, 710, 711, 712, 713, 714, 715, 716] rfl (by decide +kernel)
set_option maxRecDepth 20000 in
theorem gL_law_X8_init : GoodIn wsL_law (wsX8_init) := ggL_law_X8_init
set_option maxRecDepth 20000 in
theorem ggL_law_X9_init : GoodIn wsL_law wsX9_init := goodIn_r _ [62, 63, 11, 12, 31, 64, 65, 66, 67, 68, 69, 70, 71, 72, 73, 74, 689, 690, 691, 692, 693, 694, 695, 696, 697, 698, 699, 700, 701, 702, 703, 704, 705] rfl (by decide +kernel)
set_option maxRecDepth 20000 in
theorem gL_law_X9_init : GoodIn wsL_law (wsX9_init) := ggL_law_X9_init
set_option maxRecDepth 20000 in
theorem ggL_law_X8_make : GoodIn wsL_law wsX8_make := goodIn_r _ [78, 19, 79, 80, 81, 82, 83, 84, 18, 17, 85, 86, 87, 88, 2, 89, 90, 91, 92, 93, 94, 95, 96, 97, 98, 99, 100, 101, 11, 12, 102, 103, 104, 105, 106, 107, 108, 109, 110, 111, 112, 113, 114, 115, 116, 117, 118, 119, 120, 121, 122, 123, 124, 125, 126, 127, 128, 31, 129, 130, 131, 132, 133, 134, 135, 136, 137, 138, 49, 50, 51, 139, 140, 141, 142, 143, 144, 145, 46, 47, 146, 147, 148, 149, 150, 151, 152, 153, 154, 155, 156, 157, 158, 159, 160, 161, 162, 163, 164, 165, 684, 685, 686, 687, 688, 717, 718, 719, 720, 721, 722, 723, 724, 725, 726, 727, 728, 729, 730, 731, 732, 733, 734, 735, 736, 737, 738, 739] rfl (by decide +kernel)
set_option maxRecDepth 20000 in
theorem gL_law_X8_make : GoodIn wsL_law (wsV RL 19 RX8 yX8_make wsX8_make) := goodIn_app (goodIn_of _ (by decide +kernel)) ggL_law_X8_make
set_option maxRecDepth 20000 in
theorem ggL_law_X9_make : GoodIn wsL_law wsX9_make := goodIn_r _ [169, 170, 171, 31, 65, 66, 172, 173, 5, 174, 689, 690, 691, 692, 693, 694, 695, 696, 697, 698, 699, 700, 701, 702, 703, 704, 705] rfl (by decide +kernel)
set_option maxRecDepth 20000 in
theorem gL_law_X9_make : GoodIn wsL_law (wsV RL 23 RX9 yX9_make wsX9_make) := goodIn_app (goodIn_of _ (by decide +kernel)) ggL_law_X9_make
set_option maxRecDepth 20000 in
theorem ggL_law_X8_set : GoodIn wsL_law wsX8_set := goodIn_r _ [178, 179, 180, 181, 2, 182, 19, 18, 87, 88, 89, 133, 123, 134, 135, 136, 137, 129, 138, 49, 50, 51, 139, 140, 141, 142, 143, 131, 144, 145, 130, 46, 47, 146, 147, 148, 149, 150, 151, 152, 153, 154, 155, 156, 157, 158, 159, 160, 161, 162, 163, 164, 165, 727, 728, 729, 730, 731, 684, 685, 686, 687, 688, 732, 733, 734, 735, 736, 737, 738, 739] rfl (by decide +kernel)
set_option maxRecDepth 20000 in
theorem gL_law_X8_set : GoodIn wsL_law (wsV RL 24 RX8 yX8_set wsX8_set) := goodIn_app (goodIn_of _ (by decide +kernel)) ggL_law_X8_set
set_option maxRecDepth 20000 in
theorem ggL_law_X9_set : GoodIn wsL_law wsX9_set := goodIn_r _ [186, 170, 65, 66, 187, 188, 189, 5, 190, 171, 172, 173, 174, 191, 192, 193, 194, 689, 690, 691, 692, 693, 694, 695, 696, 697, 698, 699, 700, 701, 702, 703, 704, 705] rfl (by decide +kernel)
set_option maxRecDepth 20000 in
theorem gL_law_X9_set : GoodIn wsL_law (wsV RL 28 RX9 yX9_set wsX9_set) := goodIn_app (goodIn_of _ (by decide +kernel)) ggL_law_X9_set
set_option maxRecDepth 20000 in
theorem ggL_law_X8_feed : GoodIn wsL_law wsX8_feed := goodIn_r _ [198, 16, 199, 200, 201, 15, 202, 33, 32, 684, 685, 686, 687, 688, 706, 707] rfl (by decide +kernel)
set_option maxRecDepth 20000 in
theorem gL_law_X8_feed : GoodIn wsL_law (wsV RL 29 RX8 yX8_feed wsX8_feed) := goodIn_app (goodIn_of _ (by decide +kernel)) ggL_law_X8_feed
set_option maxRecDepth 20000 in
theorem ggL_law_X9_feed : GoodIn wsL_law wsX9_feed := goodIn_r _ [206, 170, 207, 64, 689, 690, 691, 692, 693, 694, 695, 696, 697, 698, 699, 700, 701, 702, 703, 704, 705] rfl (by decide +kernel)
set_option maxRecDepth 20000 in
theorem gL_law_X9_feed : GoodIn wsL_law (wsV RL 33 RX9 yX9_feed wsX9_feed) := goodIn_app (goodIn_of _ (by decide +kernel)) ggL_law_X9_feed
set_option maxRecDepth 20000 in
theorem ggL_law_X8_end : GoodIn wsL_law wsX8_end := goodIn_r _ [211, 16, 87, 88, 2, 89, 684, 685, 686, 687, 688, 706, 707] rfl (by decide +kernel)
set_option maxRecDepth 20000 in
theorem gL_law_X8_end : GoodIn wsL_law (wsV RL 34 RX8 yX8_end wsX8_end) := goodIn_app (goodIn_of _ (by decide +kernel)) ggL_law_X8_end
set_option maxRecDepth 20000 in
theorem ggL_law_X9_end : GoodIn wsL_law wsX9_end := goodIn_r _ [215, 170, 207, 689, 690, 691, 692, 693, 694, 695, 696, 697, 698, 699, 700, 701, 702, 703, 704, 705] rfl (by decide +kernel)
set_option maxRecDepth 20000 in
theorem gL_law_X9_end : GoodIn wsL_law (wsV RL 38 RX9 yX9_end wsX9_end) := goodIn_app (goodIn_of _ (by decide +kernel)) ggL_law_X9_end
set_option maxRecDepth 20000 in
theorem ggL_law_X8_send : GoodIn wsL_law wsX8_send := goodIn_r _ [219, 16, 179, 180, 181, 2, 182, 19, 18, 87, 88, 89, 220, 46, 47, 221, 222, 223, 86, 224, 120, 225, 226, 227, 228, 81, 229, 96, 97, 230, 231, 232, 233, 234, 200, 201, 15, 202, 33, 32, 235, 236, 237, 238, 239, 240, 84, 241, 106, 112, 110, 111, 242, 243, 244, 245, 105, 246, 247, 248, 249, 250, 107, 108, 109, 727, 728, 729, 730, 731, 684, 685, 686, 687, 688, 706, 707, 717, 718, 719, 720, 721, 722, 723, 724, 725, 726] rfl (by decide +kernel)
set_option maxRecDepth 20000 in
theorem gL_law_X8_send : GoodIn wsL_law (wsV RL 39 RX8 yX8_send wsX8_send) := goodIn_app (goodIn_of _ (by decide +kernel)) ggL_law_X8_send
set_option maxRecDepth 20000 in
theorem ggL_law_X9_send : GoodIn wsL_law wsX9_send := goodIn_r _ [254, 170, 207, 187, 188, 189, 5, 190, 171, 172, 173, 174, 191, 192, 193, 194, 65, 255, 256, 257, 258, 259, 260, 261, 262, 263, 264, 265, 266, 267, 268, 269, 64, 689, 690, 691, 692, 693, 694, 695, 696, 697, 698, 699, 700, 701, 702, 703, 704, 705] rfl (by decide +kernel)
set_option maxRecDepth 20000 in
theorem gL_law_X9_send : GoodIn wsL_law (wsV RL 43 RX9 yX9_send wsX9_send) := goodIn_app (goodIn_of _ (by decide +kernel)) ggL_law_X9_send
set_option maxRecDepth 20000 in
theorem ggL_law_L_time : GoodIn wsL_law wsL_time := goodIn_ca (goodIn_r _ [273, 274, 275, 276, 277, 2, 278, 279, 280, 16, 87, 88, 89, 281, 282, 283, 15, 284, 33, 32, 684, 685, 686, 687, 688, 706, 707] (by decide +kernel) (by decide +kernel)) (goodIn_sub (fun _ h => List.mem_append_right _ h) (by decide +kernel))
set_option maxRecDepth 20000 in
theorem gL_law_L_time : GoodIn wsL_law (va_wsS RL 44 yL_time wsL_time) := goodIn_app (goodIn_of _ (by decide +kernel)) ggL_law_L_time
set_option maxRecDepth 20000 in
theorem ggL_law_X9_time : GoodIn wsL_law wsX9_time := goodIn_r _ [288, 170, 207, 64, 172, 173, 5, 174, 689, 690, 691, 692, 693, 694, 695, 696, 697, 698, 699, 700, 701, 702, 703, 704, 705] rfl (by decide +kernel)
set_option maxRecDepth 20000 in
theorem gL_law_X9_time : GoodIn wsL_law (wsV RL 49 RX9 yX9_time wsX9_time) := goodIn_app (goodIn_of _ (by decide +kernel)) ggL_law_X9_time
set_option maxRecDepth 20000 in
theorem ggL_law_X8_read : GoodIn wsL_law wsX8_read := goodIn_r _ [292, 16, 179, 180, 181, 2, 182, 19, 18, 87, 88, 89, 293, 294, 295, 86, 296, 120, 117, 297, 298, 299, 300, 81, 301, 97, 96, 302, 282, 283, 15, 284, 33, 32, 303, 304, 305, 306, 307, 308, 309, 310, 311, 312, 313, 314, 315, 316, 317, 318, 84, 319, 112, 110, 111, 320, 242, 243, 244, 245, 105, 247, 248, 249, 250, 107, 108, 109, 684, 685, 686, 687, 688, 727, 728, 729, 730, 731, 706, 707, 717, 718, 719, 720, 721, 722, 723, 724, 725, 726] rfl (by decide +kernel)
set_option maxRecDepth 20000 in
theorem gL_law_X8_read : GoodIn wsL_law (wsV RL 50 RX8 yX8_read wsX8_read) := goodIn_app (goodIn_of _ (by decide +kernel)) ggL_law_X8_read
set_option maxRecDepth 20000 in
theorem ggL_law_X9_read : GoodIn wsL_law wsX9_read := goodIn_r _ [324, 170, 325, 187, 188, 189, 5, 190, 171, 172, 173, 174, 326, 327, 328, 329, 191, 192, 193, 194, 65, 330, 331, 332, 333, 207, 64, 334, 335, 336, 337, 338, 306, 307, 308, 339, 340, 341, 342, 343, 344, 345, 346, 347, 348, 349, 350, 351, 352, 353, 689, 690, 691, 692, 693, 694, 695, 696, 697, 698, 699, 700, 701, 702, 703, 704, 705] rfl (by decide +kernel)
set_option maxRecDepth 20000 in
theorem gL_law_X9_read : GoodIn wsL_law (wsV RL 53 RX9 yX9_read wsX9_read) := goodIn_app (goodIn_of _ (by decide +kernel)) ggL_law_X9_read
set_option maxRecDepth 20000 in
theorem ggL_law_X8_which : GoodIn wsL_law wsX8_which := goodIn_r _ [357, 19, 358, 290, 291, 2, 292, 16, 179, 180, 181, 182, 18, 87, 88, 89, 293, 294, 295, 86, 296, 120, 117, 297, 298, 299, 300, 81, 301, 97, 96, 302, 282, 283, 15, 284, 33, 32, 303, 304, 305, 306, 307, 308, 309, 310, 311, 312, 313, 314, 315, 316, 317, 318, 84, 319, 112, 110, 111, 320, 242, 243, 244, 245, 105, 247, 248, 249, 250, 107, 108, 109, 684, 685, 686, 687, 688, 727, 728, 729, 730, 731, 706, 707, 717, 718, 719, 720, 721, 722, 723, 724, 725, 726] rfl (by decide +kernel)
set_option maxRecDepth 20000 in
theorem gL_law_X8_which : GoodIn wsL_law (wsV RL 54 RX8 yX8_which wsX8_which) := goodIn_app (goodIn_of _ (by decide +kernel)) ggL_law_X8_which
set_option maxRecDepth 20000 in
theorem ggL_law_X9_which_ : GoodIn wsL_law wsX9_which_ := goodIn_r _ [362, 170, 171, 326, 327, 328, 5, 329, 191, 192, 193, 194, 65, 330, 331, 332, 333, 207, 64, 334, 335, 336, 337, 338, 306, 307, 308, 339, 340, 341, 342, 343, 344, 345, 172, 173, 174, 346, 347, 348, 349, 325, 350, 351, 352, 353, 689, 690, 691, 692, 693, 694, 695, 696, 697, 698, 699, 700, 701, 702, 703, 704, 705] rfl (by decide +kernel)
set_option maxRecDepth 20000 in
theorem gL_law_X9_which_ : GoodIn wsL_law (wsV RL 58 RX9 yX9_which_ wsX9_which_) := goodIn_app (goodIn_of _ (by decide +kernel)) ggL_law_X9_which_
set_option maxRecDepth 20000 in
theorem ggL_law_X8_stretch : GoodIn wsL_law wsX8_stretch := goodIn_r _ [366, 16, 87, 88, 2, 89, 367, 368, 369, 15, 370, 33, 32, 371, 372, 307, 373, 374, 375, 376, 313, 314, 684, 685, 686, 687, 688, 706, 707] rfl (by decide +kernel)
set_option maxRecDepth 20000 in
theorem gL_law_X8_stretch : GoodIn wsL_law (wsV RL 59 RX8 yX8_stretch wsX8_stretch) := goodIn_app (goodIn_of _ (by decide +kernel)) ggL_law_X8_stretch
set_option maxRecDepth 20000 in
theorem ggL_law_X9_stretch : GoodIn wsL_law wsX9_stretch := goodIn_r _ [380, 170, 207, 64, 172, 173, 5, 174, 343, 344, 345, 689, 690, 691, 692, 693, 694, 695, 696, 697, 698, 699, 700, 701, 702, 703, 704, 705] rfl (by decide +kernel)
set_option maxRecDepth 20000 in
theorem gL_law_X9_stretch : GoodIn wsL_law (wsV RL 62 RX9 yX9_stretch wsX9_stretch) := goodIn_app (goodIn_of _ (by decide +kernel)) ggL_law_X9_stretch
set_option maxRecDepth 20000 in
theorem ggL_law_X8_learn : GoodIn wsL_law wsX8_learn := goodIn_r _ [384, 16, 179, 180, 181, 2, 182, 19, 18, 87, 88, 89, 293, 294, 295, 86, 296, 120, 117, 297, 298, 299, 300, 81, 301, 97, 96, 302, 282, 283, 15, 284, 33, 32, 303, 304, 305, 306, 307, 308, 309, 310, 311, 312, 313, 314, 315, 316, 317, 318, 84, 319, 112, 110, 111, 320, 242, 243, 244, 245, 105, 247, 248, 249, 250, 107, 108, 109, 385, 386, 387, 123, 388, 129, 146, 147, 148, 149, 136, 389, 390, 391, 392, 139, 140, 141, 142, 143, 131, 144, 145, 130, 46, 47, 150, 151, 152, 153, 154, 155, 156, 157, 158, 159, 160, 161, 162, 163, 164, 165, 684, 685, 686, 687, 688, 727, 728, 729, 730, 731, 706, 707, 717, 718, 719, 720, 721, 722, 723, 724, 725, 726, 732, 733, 734, 735, 736, 737, 738, 739] rfl (by decide +kernel)
set_option maxRecDepth 20000 in
theorem gL_law_X8_learn : GoodIn wsL_law (wsV RL 63 RX8 yX8_learn wsX8_learn) := goodIn_app (goodIn_of _ (by decide +kernel)) ggL_law_X8_learn
set_option maxRecDepth 20000 in
theorem ggL_law_X9_learn : GoodIn wsL_law wsX9_learn := goodIn_r _ [396, 170, 66, 397, 398, 399, 5, 400, 187, 188, 189, 190, 171, 172, 173, 174, 326, 327, 328, 329, 191, 192, 193, 194, 65, 330, 331, 332, 333, 207, 64, 334, 335, 336, 337, 338, 306, 307, 308, 339, 340, 341, 342, 343, 344, 345, 346, 347, 348, 349, 325, 350, 351, 352, 353, 401, 402, 403, 404, 689, 690, 691, 692, 693, 694, 695, 696, 697, 698, 699, 700, 701, 702, 703, 704, 705] rfl (by decide +kernel)
set_option maxRecDepth 20000 in
theorem gL_law_X9_learn : GoodIn wsL_law (wsV RL 66 RX9 yX9_learn wsX9_learn) := goodIn_app (goodIn_of _ (by decide +kernel)) ggL_law_X9_learn
set_option maxRecDepth 20000 in
theorem ggL_law_X8_forget : GoodIn wsL_law wsX8_forget := goodIn_r _ [408, 179, 180, 181, 2, 182, 19, 18, 87, 88, 89, 409, 410, 411, 123, 412, 129, 413, 414, 415, 416, 389, 390, 391, 392, 139, 140, 141, 142, 143, 131, 144, 145, 130, 46, 47, 146, 147, 148, 149, 136, 150, 151, 152, 153, 154, 155, 156, 157, 158, 159, 160, 161, 162, 163, 164, 165, 727, 728, 729, 730, 731, 684, 685, 686, 687, 688, 732, 733, 734, 735, 736, 737, 738, 739] rfl (by decide +kernel)
set_option maxRecDepth 20000 in
theorem gL_law_X8_forget : GoodIn wsL_law (wsV RL 67 RX8 yX8_forget wsX8_forget) := goodIn_app (goodIn_of _ (by decide +kernel)) ggL_law_X8_forget
set_option maxRecDepth 20000 in
theorem ggL_law_X9_forget : GoodIn wsL_law wsX9_forget := goodIn_r _ [420, 170, 66, 397, 398, 399, 5, 400, 187, 188, 189, 190, 171, 172, 173, 174, 689, 690, 691, 692, 693, 694, 695, 696, 697, 698, 699, 700, 701, 702, 703, 704, 705] rfl (by decide +kernel)
set_option maxRecDepth 20000 in
theorem gL_law_X9_forget : GoodIn wsL_law (wsV RL 71 RX9 yX9_forget wsX9_forget) := goodIn_app (goodIn_of _ (by decide +kernel)) ggL_law_X9_forget
set_option maxRecDepth 20000 in
theorem ggL_law_X8_key : GoodIn wsL_law wsX8_key := goodIn_r _ [424, 179, 180, 181, 2, 182, 19, 18, 87, 88, 89, 425, 414, 415, 123, 416, 129, 389, 390, 391, 392, 727, 728, 729, 730, 731, 684, 685, 686, 687, 688, 732, 733, 734, 735, 736, 737, 738, 739] rfl (by decide +kernel)
set_option maxRecDepth 20000 in
theorem gL_law_X8_key : GoodIn wsL_law (wsV RL 72 RX8 yX8_key wsX8_key) := goodIn_app (goodIn_of _ (by decide +kernel)) ggL_law_X8_key
set_option maxRecDepth 20000 in
theorem ggL_law_X9_key : GoodIn wsL_law wsX9_key := goodIn_r _ [429, 170, 66, 397, 398, 399, 5, 400, 187, 188, 189, 190, 171, 172, 173, 174, 689, 690, 691, 692, 693, 694, 695, 696, 697, 698, 699, 700, 701, 702, 703, 704, 705] rfl (by decide +kernel)
set_option maxRecDepth 20000 in
theorem gL_law_X9_key : GoodIn wsL_law (wsV RL 75 RX9 yX9_key wsX9_key) := goodIn_app (goodIn_of _ (by decide +kernel)) ggL_law_X9_key
set_option maxRecDepth 20000 in
theorem ggL_law_X8_press : GoodIn wsL_law wsX8_press := goodIn_r _ [433, 16, 179, 180, 181, 2, 182, 19, 18, 87, 88, 89, 425, 414, 415, 123, 416, 129, 389, 390, 391, 392, 434, 435, 436, 437, 137, 136, 413, 146, 147, 148, 149, 221, 222, 223, 86, 224, 120, 225, 226, 227, 228, 81, 229, 96, 97, 230, 231, 232, 233, 234, 200, 201, 15, 202, 33, 32, 235, 236, 237, 238, 239, 240, 84, 241, 106, 112, 110, 111, 242, 243, 244, 245, 105, 246, 247, 248, 249, 250, 107, 108, 109, 727, 728, 729, 730, 731, 684, 685, 686, 687, 688, 732, 733, 734, 735, 736, 737, 738, 739, 706, 707, 717, 718, 719, 720, 721, 722, 723, 724, 725, 726] rfl (by decide +kernel)
set_option maxRecDepth 20000 in
theorem gL_law_X8_press : GoodIn wsL_law (wsV RL 76 RX8 yX8_press wsX8_press) := goodIn_app (goodIn_of _ (by decide +kernel)) ggL_law_X8_press
set_option maxRecDepth 20000 in
theorem ggL_law_X9_press : GoodIn wsL_law wsX9_press := goodIn_r _ [441, 170, 66, 65, 207, 397, 398, 399, 5, 400, 187, 188, 189, 190, 171, 172, 173, 174, 191, 192, 193, 194, 401, 402, 403, 404, 255, 256, 257, 258, 259, 260, 261, 262, 263, 264, 265, 266, 267, 268, 269, 64, 689, 690, 691, 692, 693, 694, 695, 696, 697, 698, 699, 700, 701, 702, 703, 704, 705] rfl (by decide +kernel)
set_option maxRecDepth 20000 in
theorem gL_law_X9_press : GoodIn wsL_law (wsV RL 79 RX9 yX9_press wsX9_press) := goodIn_app (goodIn_of _ (by decide +kernel)) ggL_law_X9_press
set_option maxRecDepth 20000 in
theorem ggL_law_X8_of : GoodIn wsL_law wsX8_of := goodIn_r _ [445, 179, 180, 181, 2, 182, 19, 18, 87, 88, 89, 727, 728, 729, 730, 731, 732, 733, 734, 735, 736, 737, 738, 739, 684, 685, 686, 687, 688] rfl (by decide +kernel)
set_option maxRecDepth 20000 in
theorem gL_law_X8_of : GoodIn wsL_law (wsV RL 80 RX8 yX8_of wsX8_of) := goodIn_app (goodIn_of _ (by decide +kernel)) ggL_law_X8_of
set_option maxRecDepth 20000 in
theorem ggL_law_X9_of : GoodIn wsL_law wsX9_of := goodIn_r _ [449, 170, 187, 188, 189, 5, 190, 171, 172, 173, 174, 191, 192, 193, 194, 65, 450, 451, 452, 453, 66, 454, 455, 456, 457, 401, 402, 403, 404, 458, 459, 460, 461, 689, 690, 691, 692, 693, 694, 695, 696, 697, 698, 699, 700, 701, 702, 703, 704, 705] rfl (by decide +kernel)
set_option maxRecDepth 20000 in
theorem gL_law_X9_of : GoodIn wsL_law (wsV RL 83 RX9 yX9_of wsX9_of) := goodIn_app (goodIn_of _ (by decide +kernel)) ggL_law_X9_of
set_option maxRecDepth 20000 in
theorem ggL_law_X8_check : GoodIn wsL_law wsX8_check := goodIn_r _ [465, 179, 180, 181, 2, 182, 19, 18, 87, 88, 89, 466, 467, 468, 123, 469, 130, 727, 728, 729, 730, 731, 684, 685, 686, 687, 688, 732, 733, 734, 735, 736, 737, 738, 739] rfl (by decide +kernel)
set_option maxRecDepth 20000 in
theorem gL_law_X8_check : GoodIn wsL_law (wsV RL 84 RX8 yX8_check wsX8_check) := goodIn_app (goodIn_of _ (by decide +kernel)) ggL_law_X8_check
set_option maxRecDepth 20000 in
theorem ggL_law_X9_check : GoodIn wsL_law wsX9_check := goodIn_r _ [473, 170, 187, 188, 189, 5, 190, 171, 172, 173, 174, 474, 475, 476, 477, 66, 450, 451, 452, 453, 458, 459, 460, 461, 478, 479, 480, 481, 191, 192, 193, 194, 65, 482, 483, 484, 689, 690, 691, 692, 693, 694, 695, 696, 697, 698, 699, 700, 701, 702, 703, 704, 705] rfl (by decide +kernel)
set_option maxRecDepth 20000 in
theorem gL_law_X9_check : GoodIn wsL_law (wsV RL 87 RX9 yX9_check wsX9_check) := goodIn_app (goodIn_of _ (by decide +kernel)) ggL_law_X9_check
set_option maxRecDepth 20000 in
theorem ggL_law_X8_many : GoodIn wsL_law wsX8_many := goodIn_r _ [488, 179, 180, 181, 2, 182, 19, 18, 87, 88, 89, 489, 490, 491, 123, 492, 143, 493, 494, 495, 496, 131, 144, 46, 47, 146, 147, 148, 149, 136, 497, 498, 499, 500, 501, 502, 503, 504, 505, 506, 507, 508, 509, 510, 511, 145, 512, 513, 514, 515, 130, 158, 159, 160, 161, 162, 163, 164, 165, 727, 728, 729, 730, 731, 684, 685, 686, 687, 688, 732, 733, 734, 735, 736, 737, 738, 739] rfl (by decide +kernel)
set_option maxRecDepth 20000 in
theorem gL_law_X8_many : GoodIn wsL_law (wsV RL 88 RX8 yX8_many wsX8_many) := goodIn_app (goodIn_of _ (by decide +kernel)) ggL_law_X8_many
set_option maxRecDepth 20000 in
theorem ggL_law_X9_many : GoodIn wsL_law wsX9_many := goodIn_r _ [519, 170, 520, 521, 522, 523, 5, 524, 187, 188, 189, 190, 171, 172, 173, 174, 450, 451, 452, 453, 66, 191, 192, 193, 194, 65, 401, 402, 403, 404, 454, 455, 456, 457, 458, 459, 460, 461, 525, 498, 499, 500, 501, 502, 503, 526, 527, 528, 529, 530, 531, 532, 533, 534, 474, 475, 476, 477, 478, 479, 480, 481, 482, 483, 484, 689, 690, 691, 692, 693, 694, 695, 696, 697, 698, 699, 700, 701, 702, 703, 704, 705] rfl (by decide +kernel)
set_option maxRecDepth 20000 in
theorem gL_law_X9_many : GoodIn wsL_law (wsV RL 91 RX9 yX9_many wsX9_many) := goodIn_app (goodIn_of _ (by decide +kernel)) ggL_law_X9_many
set_option maxRecDepth 20000 in
theorem ggL_law_X8_foreseen : GoodIn wsL_law wsX8_foreseen := goodIn_r _ [538, 179, 180, 181, 2, 182, 19, 18, 87, 88, 89, 489, 490, 491, 123, 492, 143, 493, 494, 495, 496, 131, 144, 46, 47, 146, 147, 148, 149, 136, 497, 498, 499, 500, 501, 502, 503, 539, 540, 541, 542, 508, 509, 510, 511, 145, 512, 513, 514, 515, 130, 158, 159, 160, 161, 162, 163, 164, 165, 727, 728, 729, 730, 731, 684, 685, 686, 687, 688, 732, 733, 734, 735, 736, 737, 738, 739] rfl (by decide +kernel)
set_option maxRecDepth 20000 in
theorem gL_law_X8_foreseen : GoodIn wsL_law (wsV RL 92 RX8 yX8_foreseen wsX8_foreseen) := goodIn_app (goodIn_of _ (by decide +kernel)) ggL_law_X8_foreseen
set_option maxRecDepth 20000 in
theorem ggL_law_X9_foreseen : GoodIn wsL_law wsX9_foreseen := goodIn_r _ [546, 170, 547, 530, 521, 522, 523, 5, 524, 187, 188, 189, 190, 171, 172, 173, 174, 450, 451, 452, 453, 66, 191, 192, 193, 194, 65, 401, 402, 403, 404, 454, 455, 456, 457, 458, 459, 460, 461, 525, 498, 499, 500, 501, 502, 503, 526, 527, 528, 529, 531, 532, 533, 534, 474, 475, 476, 477, 478, 479, 480, 481, 482, 483, 484, 689, 690, 691, 692, 693, 694, 695, 696, 697, 698, 699, 700, 701, 702, 703, 704, 705] rfl (by decide +kernel)
set_option maxRecDepth 20000 in
theorem gL_law_X9_foreseen : GoodIn wsL_law (wsV RL 95 RX9 yX9_foreseen wsX9_foreseen) := goodIn_app (goodIn_of _ (by decide +kernel)) ggL_law_X9_foreseen
set_option maxRecDepth 20000 in
theorem ggL_law_X8_both : GoodIn wsL_law wsX8_both := goodIn_r _ [551, 179, 180, 181, 2, 182, 19, 18, 87, 88, 89, 489, 490, 491, 123, 492, 143, 493, 494, 495, 496, 131, 144, 46, 47, 146, 147, 148, 149, 136, 497, 498, 499, 500, 501, 502, 503, 552, 553, 554, 555, 508, 509, 510, 511, 145, 512, 513, 514, 515, 130, 158, 159, 160, 161, 162, 163, 164, 165, 556, 557, 558, 559, 727, 728, 729, 730, 731, 684, 685, 686, 687, 688, 732, 733, 734, 735, 736, 737, 738, 739] rfl (by decide +kernel)
set_option maxRecDepth 20000 in
theorem gL_law_X8_both : GoodIn wsL_law (wsV RL 96 RX8 yX8_both wsX8_both) := goodIn_app (goodIn_of _ (by decide +kernel)) ggL_law_X8_both
set_option maxRecDepth 20000 in
theorem ggL_law_X9_both : GoodIn wsL_law wsX9_both := goodIn_r _ [563, 170, 521, 522, 523, 5, 524, 187, 188, 189, 190, 171, 172, 173, 174, 450, 451, 452, 453, 66, 191, 192, 193, 194, 65, 401, 402, 403, 404, 454, 455, 456, 457, 458, 459, 460, 461, 525, 498, 499, 500, 501, 502, 503, 531, 532, 533, 534, 474, 475, 476, 477, 478, 479, 480, 481, 482, 483, 484, 689, 690, 691, 692, 693, 694, 695, 696, 697, 698, 699, 700, 701, 702, 703, 704, 705] rfl (by decide +kernel)
set_option maxRecDepth 20000 in
theorem gL_law_X9_both : GoodIn wsL_law (wsV RL 99 RX9 yX9_both wsX9_both) := goodIn_app (goodIn_of _ (by decide +kernel)) ggL_law_X9_both
set_option maxRecDepth 20000 in
theorem ggL_law_X8_box : GoodIn wsL_law wsX8_box := goodIn_r _ [567, 568, 569, 570, 2, 571, 21, 87, 88, 89, 40, 23, 41, 42, 43, 44, 45, 38, 46, 47, 48, 49, 50, 51, 684, 685, 686, 687, 688, 708, 709, 710, 711] rfl (by decide +kernel)
set_option maxRecDepth 20000 in
theorem gL_law_X8_box : GoodIn wsL_law (wsV RL 100 RX8 yX8_box wsX8_box) := goodIn_app (goodIn_of _ (by decide +kernel)) ggL_law_X8_box
set_option maxRecDepth 20000 in
theorem ggL_law_X9_box : GoodIn wsL_law wsX9_box := goodIn_r _ [575, 170, 67, 68, 69, 70, 576, 577, 5, 578, 172, 173, 174, 689, 690, 691, 692, 693, 694, 695, 696, 697, 698, 699, 700, 701, 702, 703, 704, 705] rfl (by decide +kernel)
set_option maxRecDepth 20000 in
theorem gL_law_X9_box : GoodIn wsL_law (wsV RL 103 RX9 yX9_box wsX9_box) := goodIn_app (goodIn_of _ (by decide +kernel)) ggL_law_X9_box
set_option maxRecDepth 20000 in
theorem ggL_law_X8_lead : GoodIn wsL_law wsX8_lead := goodIn_r _ [582, 568, 569, 570, 2, 571, 21, 87, 88, 89, 583, 584, 585, 23, 586, 43, 587, 588, 589, 590, 44, 591, 592, 593, 594, 38, 595, 596, 684, 685, 686, 687, 688, 708, 709, 710, 711] rfl (by decide +kernel)
set_option maxRecDepth 20000 in
theorem gL_law_X8_lead : GoodIn wsL_law (wsV RL 104 RX8 yX8_lead wsX8_lead) := goodIn_app (goodIn_of _ (by decide +kernel)) ggL_law_X8_lead
set_option maxRecDepth 20000 in
theorem ggL_law_X9_lead : GoodIn wsL_law wsX9_lead := goodIn_r _ [600, 170, 67, 68, 69, 576, 577, 5, 578, 172, 173, 174, 689, 690, 691, 692, 693, 694, 695, 696, 697, 698, 699, 700, 701, 702, 703, 704, 705] rfl (by decide +kernel)
set_option maxRecDepth 20000 in
theorem gL_law_X9_lead : GoodIn wsL_law (wsV RL 108 RX9 yX9_lead wsX9_lead) := goodIn_app (goodIn_of _ (by decide +kernel)) ggL_law_X9_lead
set_option maxRecDepth 20000 in
theorem ggL_law_X8_maybe : GoodIn wsL_law wsX8_maybe := goodIn_r _ [604, 568, 569, 570, 2, 571, 21, 87, 88, 89, 605, 606, 607, 23, 608, 43, 46, 47, 708, 709, 710, 711, 684, 685, 686, 687, 688] rfl (by decide +kernel)
set_option maxRecDepth 20000 in
theorem gL_law_X8_maybe : GoodIn wsL_law (wsV RL 109 RX8 yX8_maybe wsX8_maybe) := goodIn_app (goodIn_of _ (by decide +kernel)) ggL_law_X8_maybe
set_option maxRecDepth 20000 in
theorem ggL_law_X9_maybe : GoodIn wsL_law wsX9_maybe := goodIn_r _ [612, 170, 70, 576, 577, 5, 578, 172, 173, 174, 613, 614, 615, 616, 67, 689, 690, 691, 692, 693, 694, 695, 696, 697, 698, 699, 700, 701, 702, 703, 704, 705] rfl (by decide +kernel)
set_option maxRecDepth 20000 in
theorem gL_law_X9_maybe : GoodIn wsL_law (wsV RL 112 RX9 yX9_maybe wsX9_maybe) := goodIn_app (goodIn_of _ (by decide +kernel)) ggL_law_X9_maybe
set_option maxRecDepth 20000 in
theorem ggL_law_X8_push : GoodIn wsL_law wsX8_push := goodIn_r _ [620, 568, 569, 570, 2, 571, 21, 87, 88, 89, 587, 588, 589, 23, 590, 44, 621, 622, 623, 624, 43, 38, 596, 708, 709, 710, 711, 684, 685, 686, 687, 688] rfl (by decide +kernel)
set_option maxRecDepth 20000 in
theorem gL_law_X8_push : GoodIn wsL_law (wsV RL 113 RX8 yX8_push wsX8_push) := goodIn_app (goodIn_of _ (by decide +kernel)) ggL_law_X8_push
set_option maxRecDepth 20000 in
theorem ggL_law_X9_push : GoodIn wsL_law wsX9_push := goodIn_r _ [628, 170, 68, 70, 576, 577, 5, 578, 172, 173, 174, 629, 630, 631, 632, 67, 69, 689, 690, 691, 692, 693, 694, 695, 696, 697, 698, 699, 700, 701, 702, 703, 704, 705] rfl (by decide +kernel)
set_option maxRecDepth 20000 in
theorem gL_law_X9_push : GoodIn wsL_law (wsV RL 116 RX9 yX9_push wsX9_push) := goodIn_app (goodIn_of _ (by decide +kernel)) ggL_law_X9_push
set_option maxRecDepth 20000 in
theorem ggL_law_X8_way : GoodIn wsL_law wsX8_way := goodIn_r _ [636, 27, 568, 569, 570, 2, 571, 21, 87, 88, 89, 605, 606, 607, 23, 608, 43, 46, 47, 637, 638, 639, 26, 640, 57, 56, 58, 641, 49, 50, 51, 642, 643, 644, 645, 59, 55, 646, 622, 623, 624, 38, 596, 588, 589, 590, 44, 684, 685, 686, 687, 688, 708, 709, 710, 711, 712, 713, 714, 715, 716] rfl (by decide +kernel)
set_option maxRecDepth 20000 in
theorem gL_law_X8_way : GoodIn wsL_law (wsV RL 117 RX8 yX8_way wsX8_way) := goodIn_app (goodIn_of _ (by decide +kernel)) ggL_law_X8_way
set_option maxRecDepth 20000 in
theorem ggL_law_X9_way : GoodIn wsL_law wsX9_way := goodIn_r _ [650, 170, 73, 72, 70, 68, 74, 576, 577, 5, 578, 172, 173, 174, 613, 614, 615, 616, 67, 651, 652, 653, 654, 655, 71, 629, 630, 631, 632, 69, 689, 690, 691, 692, 693, 694, 695, 696, 697, 698, 699, 700, 701, 702, 703, 704, 705] rfl (by decide +kernel)
set_option maxRecDepth 20000 in
theorem gL_law_X9_way : GoodIn wsL_law (wsV RL 120 RX9 yX9_way wsX9_way) := goodIn_app (goodIn_of _ (by decide +kernel)) ggL_law_X9_way
set_option maxRecDepth 20000 in
theorem ggL_law_X8_button : GoodIn wsL_law wsX8_button := goodIn_r _ [659, 27, 660, 661, 662, 26, 663, 59, 55, 88, 2, 89, 684, 685, 686, 687, 688, 712, 713, 714, 715, 716] rfl (by decide +kernel)
set_option maxRecDepth 20000 in
theorem gL_law_X8_button : GoodIn wsL_law (wsV RL 121 RX8 yX8_button wsX8_button) := goodIn_app (goodIn_of _ (by decide +kernel)) ggL_law_X8_button
set_option maxRecDepth 20000 in
theorem ggL_law_X9_button : GoodIn wsL_law wsX9_button := goodIn_r _ [667, 170, 655, 71, 172, 173, 5, 174, 689, 690, 691, 692, 693, 694, 695, 696, 697, 698, 699, 700, 701, 702, 703, 704, 705] rfl (by decide +kernel)
set_option maxRecDepth 20000 in
theorem gL_law_X9_button : GoodIn wsL_law (wsV RL 124 RX9 yX9_button wsX9_button) := goodIn_app (goodIn_of _ (by decide +kernel)) ggL_law_X9_button
set_option maxRecDepth 20000 in
theorem ggL_law_X8_told : GoodIn wsL_law wsX8_told := goodIn_r _ [671, 568, 569, 570, 2, 571, 21, 87, 88, 89, 708, 709, 710, 711, 684, 685, 686, 687, 688] rfl (by decide +kernel)
set_option maxRecDepth 20000 in
theorem gL_law_X8_told : GoodIn wsL_law (wsV RL 125 RX8 yX8_told wsX8_told) := goodIn_app (goodIn_of _ (by decide +kernel)) ggL_law_X8_told
set_option maxRecDepth 20000 in
theorem ggL_law_X9_told : GoodIn wsL_law wsX9_told := goodIn_r _ [675, 170, 67, 68, 70, 576, 577, 5, 578, 172, 173, 174, 689, 690, 691, 692, 693, 694, 695, 696, 697, 698, 699, 700, 701, 702, 703, 704, 705] rfl (by decide +kernel)
set_option maxRecDepth 20000 in
theorem gL_law_X9_told : GoodIn wsL_law (wsV RL 128 RX9 yX9_told wsX9_told) := goodIn_app (goodIn_of _ (by decide +kernel)) ggL_law_X9_told
set_option maxRecDepth 20000 in
theorem ggL_law_X8_count : GoodIn wsL_law wsX8_count := goodIn_r _ [679, 19, 16, 27, 684, 685, 686, 687, 688, 706, 707, 712, 713, 714, 715, 716] rfl (by decide +kernel)
set_option maxRecDepth 20000 in
theorem gL_law_X8_count : GoodIn wsL_law (wsV RL 129 RX8 yX8_count wsX8_count) := goodIn_app (goodIn_of _ (by decide +kernel)) ggL_law_X8_count
set_option maxRecDepth 20000 in
theorem ggL_law_X9_count : GoodIn wsL_law wsX9_count := goodIn_r _ [683, 170, 171, 207, 655, 689, 690, 691, 692, 693, 694, 695, 696, 697, 698, 699, 700, 701, 702, 703, 704, 705] rfl (by decide +kernel)
set_option maxRecDepth 20000 in
theorem gL_law_X9_count : GoodIn wsL_law (wsV RL 132 RX9 yX9_count wsX9_count) := goodIn_app (goodIn_of _ (by decide +kernel)) ggL_law_X9_count
theorem dL_law_0 : decode cL_law 0 = .ok (.new 8, 3) := by decide +kernel
theorem dL_law_3 : decode cL_law 3 = .ok (.dup, 1) := by decide +kernel
theorem dL_law_4 : decode cL_law 4 = .ok (.invokespecial 15, 3) := by decide +kernel
theorem dL_law_7 : decode cL_law 7 = .ok (.astore_n 1, 1) := by decide +kernel
theorem dL_law_8 : decode cL_law 8 = .ok (.new 16, 3) := by decide +kernel
theorem dL_law_11 : decode cL_law 11 = .ok (.dup, 1) := by decide +kernel
theorem dL_law_12 : decode cL_law 12 = .ok (.invokespecial 18, 3) := by decide +kernel
theorem dL_law_15 : decode cL_law 15 = .ok (.astore_n 2, 1) := by decide +kernel
theorem dL_law_16 : decode cL_law 16 = .ok (.iconst 1, 1) := by decide +kernel
theorem dL_law_17 : decode cL_law 17 = .ok (.newarray .long, 2) := by decide +kernel
theorem dL_law_19 : decode cL_law 19 = .ok (.astore_n 3, 1) := by decide +kernel
theorem dL_law_20 : decode cL_law 20 = .ok (.iconst 0, 1) := by decide +kernel
theorem dL_law_21 : decode cL_law 21 = .ok (.istore 4, 2) := by decide +kernel
theorem dL_law_23 : decode cL_law 23 = .ok (.iload 4, 2) := by decide +kernel
theorem dL_law_25 : decode cL_law 25 = .ok (.aload_n 0, 1) := by decide +kernel
theorem dL_law_26 : decode cL_law 26 = .ok (.arraylength, 1) := by decide +kernel
theorem dL_law_27 : decode cL_law 27 = .ok (.bipush 8, 2) := by decide +kernel
theorem dL_law_29 : decode cL_law 29 = .ok (.isub, 1) := by decide +kernel
theorem dL_law_30 : decode cL_law 30 = .ok (.if_icmp .gt 1141, 3) := by decide +kernel
theorem dL_law_33 : decode cL_law 33 = .ok (.aload_n 0, 1) := by decide +kernel
theorem dL_law_34 : decode cL_law 34 = .ok (.iload 4, 2) := by decide +kernel
theorem dL_law_36 : decode cL_law 36 = .ok (.iaload, 1) := by decide +kernel
theorem dL_law_37 : decode cL_law 37 = .ok (.bipush 31, 2) := by decide +kernel
theorem dL_law_39 : decode cL_law 39 = .ok (.iand, 1) := by decide +kernel
theorem dL_law_40 : decode cL_law 40 = .ok (.tableswitch 1125 0 25 #[120, 221, 270, 343, 368, 405, 433, 458, 471, 496, 533, 570, 607, 644, 681, 718, 743, 780, 817, 866, 927, 964, 1001, 1038, 1063, 1100], 120) := by decide +kernel
theorem dL_law_160 : decode cL_law 160 = .ok (.aload_n 1, 1) := by decide +kernel
theorem dL_law_161 : decode cL_law 161 = .ok (.aload_n 0, 1) := by decide +kernel
theorem dL_law_162 : decode cL_law 162 = .ok (.iload 4, 2) := by decide +kernel
theorem dL_law_164 : decode cL_law 164 = .ok (.iconst 1, 1) := by decide +kernel
theorem dL_law_165 : decode cL_law 165 = .ok (.iadd, 1) := by decide +kernel
theorem dL_law_166 : decode cL_law 166 = .ok (.iaload, 1) := by decide +kernel
theorem dL_law_167 : decode cL_law 167 = .ok (.aload_n 0, 1) := by decide +kernel
theorem dL_law_168 : decode cL_law 168 = .ok (.iload 4, 2) := by decide +kernel
theorem dL_law_170 : decode cL_law 170 = .ok (.iconst 2, 1) := by decide +kernel
theorem dL_law_171 : decode cL_law 171 = .ok (.iadd, 1) := by decide +kernel
theorem dL_law_172 : decode cL_law 172 = .ok (.iaload, 1) := by decide +kernel
theorem dL_law_173 : decode cL_law 173 = .ok (.aload_n 0, 1) := by decide +kernel
theorem dL_law_174 : decode cL_law 174 = .ok (.iload 4, 2) := by decide +kernel
theorem dL_law_176 : decode cL_law 176 = .ok (.iconst 3, 1) := by decide +kernel
theorem dL_law_177 : decode cL_law 177 = .ok (.iadd, 1) := by decide +kernel
theorem dL_law_178 : decode cL_law 178 = .ok (.iaload, 1) := by decide +kernel
theorem dL_law_179 : decode cL_law 179 = .ok (.aload_n 0, 1) := by decide +kernel
theorem dL_law_180 : decode cL_law 180 = .ok (.iload 4, 2) := by decide +kernel
theorem dL_law_182 : decode cL_law 182 = .ok (.iconst 4, 1) := by decide +kernel
theorem dL_law_183 : decode cL_law 183 = .ok (.iadd, 1) := by decide +kernel
theorem dL_law_184 : decode cL_law 184 = .ok (.iaload, 1) := by decide +kernel
theorem dL_law_185 : decode cL_law 185 = .ok (.aload_n 0, 1) := by decide +kernel
theorem dL_law_186 : decode cL_law 186 = .ok (.iload 4, 2) := by decide +kernel
theorem dL_law_188 : decode cL_law 188 = .ok (.iconst 5, 1) := by decide +kernel
theorem dL_law_189 : decode cL_law 189 = .ok (.iadd, 1) := by decide +kernel
theorem dL_law_190 : decode cL_law 190 = .ok (.iaload, 1) := by decide +kernel
theorem dL_law_191 : decode cL_law 191 = .ok (.aload_n 0, 1) := by decide +kernel
theorem dL_law_192 : decode cL_law 192 = .ok (.iload 4, 2) := by decide +kernel
theorem dL_law_194 : decode cL_law 194 = .ok (.bipush 6, 2) := by decide +kernel
theorem dL_law_196 : decode cL_law 196 = .ok (.iadd, 1) := by decide +kernel
theorem dL_law_197 : decode cL_law 197 = .ok (.iaload, 1) := by decide +kernel
theorem dL_law_198 : decode cL_law 198 = .ok (.aload_n 0, 1) := by decide +kernel
theorem dL_law_199 : decode cL_law 199 = .ok (.iload 4, 2) := by decide +kernel
theorem dL_law_201 : decode cL_law 201 = .ok (.bipush 7, 2) := by decide +kernel
theorem dL_law_203 : decode cL_law 203 = .ok (.iadd, 1) := by decide +kernel
theorem dL_law_204 : decode cL_law 204 = .ok (.iaload, 1) := by decide +kernel
theorem dL_law_205 : decode cL_law 205 = .ok (.invokevirtual 19, 3) := by decide +kernel
theorem dL_law_208 : decode cL_law 208 = .ok (.pop, 1) := by decide +kernel
theorem dL_law_209 : decode cL_law 209 = .ok (.aload_n 2, 1) := by decide +kernel
theorem dL_law_210 : decode cL_law 210 = .ok (.aload_n 0, 1) := by decide +kernel
theorem dL_law_211 : decode cL_law 211 = .ok (.iload 4, 2) := by decide +kernel
theorem dL_law_213 : decode cL_law 213 = .ok (.iconst 1, 1) := by decide +kernel
theorem dL_law_214 : decode cL_law 214 = .ok (.iadd, 1) := by decide +kernel
theorem dL_law_215 : decode cL_law 215 = .ok (.iaload, 1) := by decide +kernel
theorem dL_law_216 : decode cL_law 216 = .ok (.aload_n 0, 1) := by decide +kernel
theorem dL_law_217 : decode cL_law 217 = .ok (.iload 4, 2) := by decide +kernel
theorem dL_law_219 : decode cL_law 219 = .ok (.iconst 2, 1) := by decide +kernel
theorem dL_law_220 : decode cL_law 220 = .ok (.iadd, 1) := by decide +kernel
theorem dL_law_221 : decode cL_law 221 = .ok (.iaload, 1) := by decide +kernel
theorem dL_law_222 : decode cL_law 222 = .ok (.aload_n 0, 1) := by decide +kernel
theorem dL_law_223 : decode cL_law 223 = .ok (.iload 4, 2) := by decide +kernel
theorem dL_law_225 : decode cL_law 225 = .ok (.iconst 3, 1) := by decide +kernel
theorem dL_law_226 : decode cL_law 226 = .ok (.iadd, 1) := by decide +kernel
theorem dL_law_227 : decode cL_law 227 = .ok (.iaload, 1) := by decide +kernel
theorem dL_law_228 : decode cL_law 228 = .ok (.aload_n 0, 1) := by decide +kernel
theorem dL_law_229 : decode cL_law 229 = .ok (.iload 4, 2) := by decide +kernel
theorem dL_law_231 : decode cL_law 231 = .ok (.iconst 4, 1) := by decide +kernel
theorem dL_law_232 : decode cL_law 232 = .ok (.iadd, 1) := by decide +kernel
theorem dL_law_233 : decode cL_law 233 = .ok (.iaload, 1) := by decide +kernel
theorem dL_law_234 : decode cL_law 234 = .ok (.aload_n 0, 1) := by decide +kernel
theorem dL_law_235 : decode cL_law 235 = .ok (.iload 4, 2) := by decide +kernel
theorem dL_law_237 : decode cL_law 237 = .ok (.iconst 5, 1) := by decide +kernel
theorem dL_law_238 : decode cL_law 238 = .ok (.iadd, 1) := by decide +kernel
theorem dL_law_239 : decode cL_law 239 = .ok (.iaload, 1) := by decide +kernel
theorem dL_law_240 : decode cL_law 240 = .ok (.aload_n 0, 1) := by decide +kernel
theorem dL_law_241 : decode cL_law 241 = .ok (.iload 4, 2) := by decide +kernel
theorem dL_law_243 : decode cL_law 243 = .ok (.bipush 6, 2) := by decide +kernel
theorem dL_law_245 : decode cL_law 245 = .ok (.iadd, 1) := by decide +kernel
theorem dL_law_246 : decode cL_law 246 = .ok (.iaload, 1) := by decide +kernel
theorem dL_law_247 : decode cL_law 247 = .ok (.aload_n 0, 1) := by decide +kernel
theorem dL_law_248 : decode cL_law 248 = .ok (.iload 4, 2) := by decide +kernel
theorem dL_law_250 : decode cL_law 250 = .ok (.bipush 7, 2) := by decide +kernel
theorem dL_law_252 : decode cL_law 252 = .ok (.iadd, 1) := by decide +kernel
theorem dL_law_253 : decode cL_law 253 = .ok (.iaload, 1) := by decide +kernel
theorem dL_law_254 : decode cL_law 254 = .ok (.invokevirtual 23, 3) := by decide +kernel
theorem dL_law_257 : decode cL_law 257 = .ok (.pop, 1) := by decide +kernel
theorem dL_law_258 : decode cL_law 258 = .ok (.goto 907, 3) := by decide +kernel
theorem dL_law_261 : decode cL_law 261 = .ok (.aload_n 1, 1) := by decide +kernel
theorem dL_law_262 : decode cL_law 262 = .ok (.aload_n 0, 1) := by decide +kernel
theorem dL_law_263 : decode cL_law 263 = .ok (.iload 4, 2) := by decide +kernel
theorem dL_law_265 : decode cL_law 265 = .ok (.iconst 1, 1) := by decide +kernel
theorem dL_law_266 : decode cL_law 266 = .ok (.iadd, 1) := by decide +kernel
theorem dL_law_267 : decode cL_law 267 = .ok (.iaload, 1) := by decide +kernel
theorem dL_law_268 : decode cL_law 268 = .ok (.aload_n 0, 1) := by decide +kernel
theorem dL_law_269 : decode cL_law 269 = .ok (.iload 4, 2) := by decide +kernel
theorem dL_law_271 : decode cL_law 271 = .ok (.iconst 2, 1) := by decide +kernel
theorem dL_law_272 : decode cL_law 272 = .ok (.iadd, 1) := by decide +kernel
theorem dL_law_273 : decode cL_law 273 = .ok (.iaload, 1) := by decide +kernel
theorem dL_law_274 : decode cL_law 274 = .ok (.aload_n 0, 1) := by decide +kernel
theorem dL_law_275 : decode cL_law 275 = .ok (.iload 4, 2) := by decide +kernel
theorem dL_law_277 : decode cL_law 277 = .ok (.iconst 3, 1) := by decide +kernel
theorem dL_law_278 : decode cL_law 278 = .ok (.iadd, 1) := by decide +kernel
theorem dL_law_279 : decode cL_law 279 = .ok (.iaload, 1) := by decide +kernel
theorem dL_law_280 : decode cL_law 280 = .ok (.invokevirtual 24, 3) := by decide +kernel
theorem dL_law_283 : decode cL_law 283 = .ok (.pop, 1) := by decide +kernel
theorem dL_law_284 : decode cL_law 284 = .ok (.aload_n 2, 1) := by decide +kernel
theorem dL_law_285 : decode cL_law 285 = .ok (.aload_n 0, 1) := by decide +kernel
theorem dL_law_286 : decode cL_law 286 = .ok (.iload 4, 2) := by decide +kernel
theorem dL_law_288 : decode cL_law 288 = .ok (.iconst 1, 1) := by decide +kernel
theorem dL_law_289 : decode cL_law 289 = .ok (.iadd, 1) := by decide +kernel
theorem dL_law_290 : decode cL_law 290 = .ok (.iaload, 1) := by decide +kernel
theorem dL_law_291 : decode cL_law 291 = .ok (.aload_n 0, 1) := by decide +kernel
theorem dL_law_292 : decode cL_law 292 = .ok (.iload 4, 2) := by decide +kernel
theorem dL_law_294 : decode cL_law 294 = .ok (.iconst 2, 1) := by decide +kernel
theorem dL_law_295 : decode cL_law 295 = .ok (.iadd, 1) := by decide +kernel
theorem dL_law_296 : decode cL_law 296 = .ok (.iaload, 1) := by decide +kernel
theorem dL_law_297 : decode cL_law 297 = .ok (.aload_n 0, 1) := by decide +kernel
theorem dL_law_298 : decode cL_law 298 = .ok (.iload 4, 2) := by decide +kernel
theorem dL_law_300 : decode cL_law 300 = .ok (.iconst 3, 1) := by decide +kernel
theorem dL_law_301 : decode cL_law 301 = .ok (.iadd, 1) := by decide +kernel
theorem dL_law_302 : decode cL_law 302 = .ok (.iaload, 1) := by decide +kernel
theorem dL_law_303 : decode cL_law 303 = .ok (.invokevirtual 28, 3) := by decide +kernel
theorem dL_law_306 : decode cL_law 306 = .ok (.pop, 1) := by decide +kernel
theorem dL_law_307 : decode cL_law 307 = .ok (.goto 858, 3) := by decide +kernel
theorem dL_law_310 : decode cL_law 310 = .ok (.aload_n 1, 1) := by decide +kernel
theorem dL_law_311 : decode cL_law 311 = .ok (.aload_n 0, 1) := by decide +kernel
theorem dL_law_312 : decode cL_law 312 = .ok (.iload 4, 2) := by decide +kernel
theorem dL_law_314 : decode cL_law 314 = .ok (.iconst 1, 1) := by decide +kernel
theorem dL_law_315 : decode cL_law 315 = .ok (.iadd, 1) := by decide +kernel
theorem dL_law_316 : decode cL_law 316 = .ok (.iaload, 1) := by decide +kernel
theorem dL_law_317 : decode cL_law 317 = .ok (.aload_n 0, 1) := by decide +kernel
theorem dL_law_318 : decode cL_law 318 = .ok (.iload 4, 2) := by decide +kernel
theorem dL_law_320 : decode cL_law 320 = .ok (.iconst 2, 1) := by decide +kernel
theorem dL_law_321 : decode cL_law 321 = .ok (.iadd, 1) := by decide +kernel
theorem dL_law_322 : decode cL_law 322 = .ok (.iaload, 1) := by decide +kernel
theorem dL_law_323 : decode cL_law 323 = .ok (.aload_n 0, 1) := by decide +kernel
theorem dL_law_324 : decode cL_law 324 = .ok (.iload 4, 2) := by decide +kernel
theorem dL_law_326 : decode cL_law 326 = .ok (.iconst 3, 1) := by decide +kernel
theorem dL_law_327 : decode cL_law 327 = .ok (.iadd, 1) := by decide +kernel
theorem dL_law_328 : decode cL_law 328 = .ok (.iaload, 1) := by decide +kernel
theorem dL_law_329 : decode cL_law 329 = .ok (.aload_n 0, 1) := by decide +kernel
theorem dL_law_330 : decode cL_law 330 = .ok (.iload 4, 2) := by decide +kernel
theorem dL_law_332 : decode cL_law 332 = .ok (.iconst 4, 1) := by decide +kernel
theorem dL_law_333 : decode cL_law 333 = .ok (.iadd, 1) := by decide +kernel
theorem dL_law_334 : decode cL_law 334 = .ok (.iaload, 1) := by decide +kernel
theorem dL_law_335 : decode cL_law 335 = .ok (.aload_n 0, 1) := by decide +kernel
theorem dL_law_336 : decode cL_law 336 = .ok (.iload 4, 2) := by decide +kernel
theorem dL_law_338 : decode cL_law 338 = .ok (.iconst 5, 1) := by decide +kernel
theorem dL_law_339 : decode cL_law 339 = .ok (.iadd, 1) := by decide +kernel
theorem dL_law_340 : decode cL_law 340 = .ok (.iaload, 1) := by decide +kernel
theorem dL_law_341 : decode cL_law 341 = .ok (.invokevirtual 29, 3) := by decide +kernel
theorem dL_law_344 : decode cL_law 344 = .ok (.pop, 1) := by decide +kernel
theorem dL_law_345 : decode cL_law 345 = .ok (.aload_n 2, 1) := by decide +kernel
theorem dL_law_346 : decode cL_law 346 = .ok (.aload_n 0, 1) := by decide +kernel
theorem dL_law_347 : decode cL_law 347 = .ok (.iload 4, 2) := by decide +kernel
theorem dL_law_349 : decode cL_law 349 = .ok (.iconst 1, 1) := by decide +kernel
theorem dL_law_350 : decode cL_law 350 = .ok (.iadd, 1) := by decide +kernel
theorem dL_law_351 : decode cL_law 351 = .ok (.iaload, 1) := by decide +kernel
theorem dL_law_352 : decode cL_law 352 = .ok (.aload_n 0, 1) := by decide +kernel
theorem dL_law_353 : decode cL_law 353 = .ok (.iload 4, 2) := by decide +kernel
theorem dL_law_355 : decode cL_law 355 = .ok (.iconst 2, 1) := by decide +kernel
theorem dL_law_356 : decode cL_law 356 = .ok (.iadd, 1) := by decide +kernel
theorem dL_law_357 : decode cL_law 357 = .ok (.iaload, 1) := by decide +kernel
theorem dL_law_358 : decode cL_law 358 = .ok (.aload_n 0, 1) := by decide +kernel
theorem dL_law_359 : decode cL_law 359 = .ok (.iload 4, 2) := by decide +kernel
theorem dL_law_361 : decode cL_law 361 = .ok (.iconst 3, 1) := by decide +kernel
theorem dL_law_362 : decode cL_law 362 = .ok (.iadd, 1) := by decide +kernel
theorem dL_law_363 : decode cL_law 363 = .ok (.iaload, 1) := by decide +kernel
theorem dL_law_364 : decode cL_law 364 = .ok (.aload_n 0, 1) := by decide +kernel
theorem dL_law_365 : decode cL_law 365 = .ok (.iload 4, 2) := by decide +kernel
theorem dL_law_367 : decode cL_law 367 = .ok (.iconst 4, 1) := by decide +kernel
theorem dL_law_368 : decode cL_law 368 = .ok (.iadd, 1) := by decide +kernel
theorem dL_law_369 : decode cL_law 369 = .ok (.iaload, 1) := by decide +kernel
theorem dL_law_370 : decode cL_law 370 = .ok (.aload_n 0, 1) := by decide +kernel
theorem dL_law_371 : decode cL_law 371 = .ok (.iload 4, 2) := by decide +kernel
theorem dL_law_373 : decode cL_law 373 = .ok (.iconst 5, 1) := by decide +kernel
theorem dL_law_374 : decode cL_law 374 = .ok (.iadd, 1) := by decide +kernel
theorem dL_law_375 : decode cL_law 375 = .ok (.iaload, 1) := by decide +kernel
theorem dL_law_376 : decode cL_law 376 = .ok (.invokevirtual 33, 3) := by decide +kernel
theorem dL_law_379 : decode cL_law 379 = .ok (.pop, 1) := by decide +kernel
theorem dL_law_380 : decode cL_law 380 = .ok (.goto 785, 3) := by decide +kernel
theorem dL_law_383 : decode cL_law 383 = .ok (.aload_n 1, 1) := by decide +kernel
theorem dL_law_384 : decode cL_law 384 = .ok (.aload_n 0, 1) := by decide +kernel
theorem dL_law_385 : decode cL_law 385 = .ok (.iload 4, 2) := by decide +kernel
theorem dL_law_387 : decode cL_law 387 = .ok (.iconst 1, 1) := by decide +kernel
theorem dL_law_388 : decode cL_law 388 = .ok (.iadd, 1) := by decide +kernel
theorem dL_law_389 : decode cL_law 389 = .ok (.iaload, 1) := by decide +kernel
theorem dL_law_390 : decode cL_law 390 = .ok (.invokevirtual 34, 3) := by decide +kernel
theorem dL_law_393 : decode cL_law 393 = .ok (.pop, 1) := by decide +kernel
theorem dL_law_394 : decode cL_law 394 = .ok (.aload_n 2, 1) := by decide +kernel
theorem dL_law_395 : decode cL_law 395 = .ok (.aload_n 0, 1) := by decide +kernel
theorem dL_law_396 : decode cL_law 396 = .ok (.iload 4, 2) := by decide +kernel
theorem dL_law_398 : decode cL_law 398 = .ok (.iconst 1, 1) := by decide +kernel
theorem dL_law_399 : decode cL_law 399 = .ok (.iadd, 1) := by decide +kernel
theorem dL_law_400 : decode cL_law 400 = .ok (.iaload, 1) := by decide +kernel
theorem dL_law_401 : decode cL_law 401 = .ok (.invokevirtual 38, 3) := by decide +kernel
theorem dL_law_404 : decode cL_law 404 = .ok (.pop, 1) := by decide +kernel
theorem dL_law_405 : decode cL_law 405 = .ok (.goto 760, 3) := by decide +kernel
theorem dL_law_408 : decode cL_law 408 = .ok (.aload_n 1, 1) := by decide +kernel
theorem dL_law_409 : decode cL_law 409 = .ok (.aload_n 0, 1) := by decide +kernel
theorem dL_law_410 : decode cL_law 410 = .ok (.iload 4, 2) := by decide +kernel
theorem dL_law_412 : decode cL_law 412 = .ok (.iconst 1, 1) := by decide +kernel
theorem dL_law_413 : decode cL_law 413 = .ok (.iadd, 1) := by decide +kernel
theorem dL_law_414 : decode cL_law 414 = .ok (.iaload, 1) := by decide +kernel
theorem dL_law_415 : decode cL_law 415 = .ok (.aload_n 0, 1) := by decide +kernel
theorem dL_law_416 : decode cL_law 416 = .ok (.iload 4, 2) := by decide +kernel
theorem dL_law_418 : decode cL_law 418 = .ok (.iconst 2, 1) := by decide +kernel
theorem dL_law_419 : decode cL_law 419 = .ok (.iadd, 1) := by decide +kernel
theorem dL_law_420 : decode cL_law 420 = .ok (.iaload, 1) := by decide +kernel
theorem dL_law_421 : decode cL_law 421 = .ok (.invokevirtual 39, 3) := by decide +kernel
theorem dL_law_424 : decode cL_law 424 = .ok (.pop, 1) := by decide +kernel
theorem dL_law_425 : decode cL_law 425 = .ok (.aload_n 2, 1) := by decide +kernel
theorem dL_law_426 : decode cL_law 426 = .ok (.aload_n 0, 1) := by decide +kernel
theorem dL_law_427 : decode cL_law 427 = .ok (.iload 4, 2) := by decide +kernel
theorem dL_law_429 : decode cL_law 429 = .ok (.iconst 1, 1) := by decide +kernel
theorem dL_law_430 : decode cL_law 430 = .ok (.iadd, 1) := by decide +kernel
theorem dL_law_431 : decode cL_law 431 = .ok (.iaload, 1) := by decide +kernel
theorem dL_law_432 : decode cL_law 432 = .ok (.aload_n 0, 1) := by decide +kernel
theorem dL_law_433 : decode cL_law 433 = .ok (.iload 4, 2) := by decide +kernel
theorem dL_law_435 : decode cL_law 435 = .ok (.iconst 2, 1) := by decide +kernel
theorem dL_law_436 : decode cL_law 436 = .ok (.iadd, 1) := by decide +kernel
theorem dL_law_437 : decode cL_law 437 = .ok (.iaload, 1) := by decide +kernel
theorem dL_law_438 : decode cL_law 438 = .ok (.invokevirtual 43, 3) := by decide +kernel
theorem dL_law_441 : decode cL_law 441 = .ok (.pop, 1) := by decide +kernel
theorem dL_law_442 : decode cL_law 442 = .ok (.goto 723, 3) := by decide +kernel
theorem dL_law_445 : decode cL_law 445 = .ok (.aload_n 1, 1) := by decide +kernel
theorem dL_law_446 : decode cL_law 446 = .ok (.aload_n 0, 1) := by decide +kernel
theorem dL_law_447 : decode cL_law 447 = .ok (.iload 4, 2) := by decide +kernel
theorem dL_law_449 : decode cL_law 449 = .ok (.iconst 1, 1) := by decide +kernel
theorem dL_law_450 : decode cL_law 450 = .ok (.iadd, 1) := by decide +kernel
theorem dL_law_451 : decode cL_law 451 = .ok (.iaload, 1) := by decide +kernel
theorem dL_law_452 : decode cL_law 452 = .ok (.aload_n 3, 1) := by decide +kernel
theorem dL_law_453 : decode cL_law 453 = .ok (.invokestatic 44, 3) := by decide +kernel
theorem dL_law_456 : decode cL_law 456 = .ok (.istore 5, 2) := by decide +kernel
theorem dL_law_458 : decode cL_law 458 = .ok (.aload_n 2, 1) := by decide +kernel
theorem dL_law_459 : decode cL_law 459 = .ok (.aload_n 0, 1) := by decide +kernel
theorem dL_law_460 : decode cL_law 460 = .ok (.iload 4, 2) := by decide +kernel
theorem dL_law_462 : decode cL_law 462 = .ok (.iconst 1, 1) := by decide +kernel
theorem dL_law_463 : decode cL_law 463 = .ok (.iadd, 1) := by decide +kernel
theorem dL_law_464 : decode cL_law 464 = .ok (.iaload, 1) := by decide +kernel
theorem dL_law_465 : decode cL_law 465 = .ok (.invokevirtual 49, 3) := by decide +kernel
theorem dL_law_468 : decode cL_law 468 = .ok (.istore 6, 2) := by decide +kernel
theorem dL_law_470 : decode cL_law 470 = .ok (.goto 695, 3) := by decide +kernel
theorem dL_law_473 : decode cL_law 473 = .ok (.aload_n 1, 1) := by decide +kernel
theorem dL_law_474 : decode cL_law 474 = .ok (.aload_n 0, 1) := by decide +kernel
theorem dL_law_475 : decode cL_law 475 = .ok (.iload 4, 2) := by decide +kernel
theorem dL_law_477 : decode cL_law 477 = .ok (.iconst 1, 1) := by decide +kernel
theorem dL_law_478 : decode cL_law 478 = .ok (.iadd, 1) := by decide +kernel
theorem dL_law_479 : decode cL_law 479 = .ok (.iaload, 1) := by decide +kernel
theorem dL_law_480 : decode cL_law 480 = .ok (.invokevirtual 50, 3) := by decide +kernel
theorem dL_law_483 : decode cL_law 483 = .ok (.pop, 1) := by decide +kernel
theorem dL_law_484 : decode cL_law 484 = .ok (.aload_n 2, 1) := by decide +kernel
theorem dL_law_485 : decode cL_law 485 = .ok (.aload_n 0, 1) := by decide +kernel
theorem dL_law_486 : decode cL_law 486 = .ok (.iload 4, 2) := by decide +kernel
theorem dL_law_488 : decode cL_law 488 = .ok (.iconst 1, 1) := by decide +kernel
theorem dL_law_489 : decode cL_law 489 = .ok (.iadd, 1) := by decide +kernel
theorem dL_law_490 : decode cL_law 490 = .ok (.iaload, 1) := by decide +kernel
theorem dL_law_491 : decode cL_law 491 = .ok (.invokevirtual 53, 3) := by decide +kernel
theorem dL_law_494 : decode cL_law 494 = .ok (.pop, 1) := by decide +kernel
theorem dL_law_495 : decode cL_law 495 = .ok (.goto 670, 3) := by decide +kernel
theorem dL_law_498 : decode cL_law 498 = .ok (.aload_n 1, 1) := by decide +kernel
theorem dL_law_499 : decode cL_law 499 = .ok (.invokevirtual 54, 3) := by decide +kernel
theorem dL_law_502 : decode cL_law 502 = .ok (.pop, 1) := by decide +kernel
theorem dL_law_503 : decode cL_law 503 = .ok (.aload_n 2, 1) := by decide +kernel
theorem dL_law_504 : decode cL_law 504 = .ok (.invokevirtual 58, 3) := by decide +kernel
theorem dL_law_507 : decode cL_law 507 = .ok (.pop, 1) := by decide +kernel
theorem dL_law_508 : decode cL_law 508 = .ok (.goto 657, 3) := by decide +kernel
theorem dL_law_511 : decode cL_law 511 = .ok (.aload_n 1, 1) := by decide +kernel
theorem dL_law_512 : decode cL_law 512 = .ok (.aload_n 0, 1) := by decide +kernel
theorem dL_law_513 : decode cL_law 513 = .ok (.iload 4, 2) := by decide +kernel
theorem dL_law_515 : decode cL_law 515 = .ok (.iconst 1, 1) := by decide +kernel
theorem dL_law_516 : decode cL_law 516 = .ok (.iadd, 1) := by decide +kernel
theorem dL_law_517 : decode cL_law 517 = .ok (.iaload, 1) := by decide +kernel
theorem dL_law_518 : decode cL_law 518 = .ok (.invokevirtual 59, 3) := by decide +kernel
theorem dL_law_521 : decode cL_law 521 = .ok (.pop, 1) := by decide +kernel
theorem dL_law_522 : decode cL_law 522 = .ok (.aload_n 2, 1) := by decide +kernel
theorem dL_law_523 : decode cL_law 523 = .ok (.aload_n 0, 1) := by decide +kernel
theorem dL_law_524 : decode cL_law 524 = .ok (.iload 4, 2) := by decide +kernel
theorem dL_law_526 : decode cL_law 526 = .ok (.iconst 1, 1) := by decide +kernel
theorem dL_law_527 : decode cL_law 527 = .ok (.iadd, 1) := by decide +kernel
theorem dL_law_528 : decode cL_law 528 = .ok (.iaload, 1) := by decide +kernel
theorem dL_law_529 : decode cL_law 529 = .ok (.invokevirtual 62, 3) := by decide +kernel
theorem dL_law_532 : decode cL_law 532 = .ok (.pop, 1) := by decide +kernel
theorem dL_law_533 : decode cL_law 533 = .ok (.goto 632, 3) := by decide +kernel
theorem dL_law_536 : decode cL_law 536 = .ok (.aload_n 1, 1) := by decide +kernel
theorem dL_law_537 : decode cL_law 537 = .ok (.aload_n 0, 1) := by decide +kernel
theorem dL_law_538 : decode cL_law 538 = .ok (.iload 4, 2) := by decide +kernel
theorem dL_law_540 : decode cL_law 540 = .ok (.iconst 1, 1) := by decide +kernel
theorem dL_law_541 : decode cL_law 541 = .ok (.iadd, 1) := by decide +kernel
theorem dL_law_542 : decode cL_law 542 = .ok (.iaload, 1) := by decide +kernel
theorem dL_law_543 : decode cL_law 543 = .ok (.aload_n 0, 1) := by decide +kernel
theorem dL_law_544 : decode cL_law 544 = .ok (.iload 4, 2) := by decide +kernel
theorem dL_law_546 : decode cL_law 546 = .ok (.iconst 2, 1) := by decide +kernel
theorem dL_law_547 : decode cL_law 547 = .ok (.iadd, 1) := by decide +kernel
theorem dL_law_548 : decode cL_law 548 = .ok (.iaload, 1) := by decide +kernel
theorem dL_law_549 : decode cL_law 549 = .ok (.invokevirtual 63, 3) := by decide +kernel
theorem dL_law_552 : decode cL_law 552 = .ok (.pop, 1) := by decide +kernel
theorem dL_law_553 : decode cL_law 553 = .ok (.aload_n 2, 1) := by decide +kernel
theorem dL_law_554 : decode cL_law 554 = .ok (.aload_n 0, 1) := by decide +kernel
theorem dL_law_555 : decode cL_law 555 = .ok (.iload 4, 2) := by decide +kernel
theorem dL_law_557 : decode cL_law 557 = .ok (.iconst 1, 1) := by decide +kernel
theorem dL_law_558 : decode cL_law 558 = .ok (.iadd, 1) := by decide +kernel
theorem dL_law_559 : decode cL_law 559 = .ok (.iaload, 1) := by decide +kernel
theorem dL_law_560 : decode cL_law 560 = .ok (.aload_n 0, 1) := by decide +kernel
theorem dL_law_561 : decode cL_law 561 = .ok (.iload 4, 2) := by decide +kernel
theorem dL_law_563 : decode cL_law 563 = .ok (.iconst 2, 1) := by decide +kernel
theorem dL_law_564 : decode cL_law 564 = .ok (.iadd, 1) := by decide +kernel
theorem dL_law_565 : decode cL_law 565 = .ok (.iaload, 1) := by decide +kernel
theorem dL_law_566 : decode cL_law 566 = .ok (.invokevirtual 66, 3) := by decide +kernel
theorem dL_law_569 : decode cL_law 569 = .ok (.pop, 1) := by decide +kernel
theorem dL_law_570 : decode cL_law 570 = .ok (.goto 595, 3) := by decide +kernel
theorem dL_law_573 : decode cL_law 573 = .ok (.aload_n 1, 1) := by decide +kernel
theorem dL_law_574 : decode cL_law 574 = .ok (.aload_n 0, 1) := by decide +kernel
theorem dL_law_575 : decode cL_law 575 = .ok (.iload 4, 2) := by decide +kernel
theorem dL_law_577 : decode cL_law 577 = .ok (.iconst 1, 1) := by decide +kernel
theorem dL_law_578 : decode cL_law 578 = .ok (.iadd, 1) := by decide +kernel
theorem dL_law_579 : decode cL_law 579 = .ok (.iaload, 1) := by decide +kernel
theorem dL_law_580 : decode cL_law 580 = .ok (.aload_n 0, 1) := by decide +kernel
theorem dL_law_581 : decode cL_law 581 = .ok (.iload 4, 2) := by decide +kernel
theorem dL_law_583 : decode cL_law 583 = .ok (.iconst 2, 1) := by decide +kernel
theorem dL_law_584 : decode cL_law 584 = .ok (.iadd, 1) := by decide +kernel
theorem dL_law_585 : decode cL_law 585 = .ok (.iaload, 1) := by decide +kernel
theorem dL_law_586 : decode cL_law 586 = .ok (.invokevirtual 67, 3) := by decide +kernel
theorem dL_law_589 : decode cL_law 589 = .ok (.pop, 1) := by decide +kernel
theorem dL_law_590 : decode cL_law 590 = .ok (.aload_n 2, 1) := by decide +kernel
theorem dL_law_591 : decode cL_law 591 = .ok (.aload_n 0, 1) := by decide +kernel
theorem dL_law_592 : decode cL_law 592 = .ok (.iload 4, 2) := by decide +kernel
theorem dL_law_594 : decode cL_law 594 = .ok (.iconst 1, 1) := by decide +kernel
theorem dL_law_595 : decode cL_law 595 = .ok (.iadd, 1) := by decide +kernel
theorem dL_law_596 : decode cL_law 596 = .ok (.iaload, 1) := by decide +kernel
theorem dL_law_597 : decode cL_law 597 = .ok (.aload_n 0, 1) := by decide +kernel
theorem dL_law_598 : decode cL_law 598 = .ok (.iload 4, 2) := by decide +kernel
theorem dL_law_600 : decode cL_law 600 = .ok (.iconst 2, 1) := by decide +kernel
theorem dL_law_601 : decode cL_law 601 = .ok (.iadd, 1) := by decide +kernel
theorem dL_law_602 : decode cL_law 602 = .ok (.iaload, 1) := by decide +kernel
theorem dL_law_603 : decode cL_law 603 = .ok (.invokevirtual 71, 3) := by decide +kernel
theorem dL_law_606 : decode cL_law 606 = .ok (.pop, 1) := by decide +kernel
theorem dL_law_607 : decode cL_law 607 = .ok (.goto 558, 3) := by decide +kernel
theorem dL_law_610 : decode cL_law 610 = .ok (.aload_n 1, 1) := by decide +kernel
theorem dL_law_611 : decode cL_law 611 = .ok (.aload_n 0, 1) := by decide +kernel
theorem dL_law_612 : decode cL_law 612 = .ok (.iload 4, 2) := by decide +kernel
theorem dL_law_614 : decode cL_law 614 = .ok (.iconst 1, 1) := by decide +kernel
theorem dL_law_615 : decode cL_law 615 = .ok (.iadd, 1) := by decide +kernel
theorem dL_law_616 : decode cL_law 616 = .ok (.iaload, 1) := by decide +kernel
theorem dL_law_617 : decode cL_law 617 = .ok (.aload_n 0, 1) := by decide +kernel
theorem dL_law_618 : decode cL_law 618 = .ok (.iload 4, 2) := by decide +kernel
theorem dL_law_620 : decode cL_law 620 = .ok (.iconst 2, 1) := by decide +kernel
theorem dL_law_621 : decode cL_law 621 = .ok (.iadd, 1) := by decide +kernel
theorem dL_law_622 : decode cL_law 622 = .ok (.iaload, 1) := by decide +kernel
theorem dL_law_623 : decode cL_law 623 = .ok (.invokevirtual 72, 3) := by decide +kernel
theorem dL_law_626 : decode cL_law 626 = .ok (.pop, 1) := by decide +kernel
theorem dL_law_627 : decode cL_law 627 = .ok (.aload_n 2, 1) := by decide +kernel
theorem dL_law_628 : decode cL_law 628 = .ok (.aload_n 0, 1) := by decide +kernel
theorem dL_law_629 : decode cL_law 629 = .ok (.iload 4, 2) := by decide +kernel
theorem dL_law_631 : decode cL_law 631 = .ok (.iconst 1, 1) := by decide +kernel
theorem dL_law_632 : decode cL_law 632 = .ok (.iadd, 1) := by decide +kernel
theorem dL_law_633 : decode cL_law 633 = .ok (.iaload, 1) := by decide +kernel
theorem dL_law_634 : decode cL_law 634 = .ok (.aload_n 0, 1) := by decide +kernel
theorem dL_law_635 : decode cL_law 635 = .ok (.iload 4, 2) := by decide +kernel
theorem dL_law_637 : decode cL_law 637 = .ok (.iconst 2, 1) := by decide +kernel
theorem dL_law_638 : decode cL_law 638 = .ok (.iadd, 1) := by decide +kernel
theorem dL_law_639 : decode cL_law 639 = .ok (.iaload, 1) := by decide +kernel
theorem dL_law_640 : decode cL_law 640 = .ok (.invokevirtual 75, 3) := by decide +kernel
theorem dL_law_643 : decode cL_law 643 = .ok (.pop, 1) := by decide +kernel
theorem dL_law_644 : decode cL_law 644 = .ok (.goto 521, 3) := by decide +kernel
theorem dL_law_647 : decode cL_law 647 = .ok (.aload_n 1, 1) := by decide +kernel
theorem dL_law_648 : decode cL_law 648 = .ok (.aload_n 0, 1) := by decide +kernel
theorem dL_law_649 : decode cL_law 649 = .ok (.iload 4, 2) := by decide +kernel
theorem dL_law_651 : decode cL_law 651 = .ok (.iconst 1, 1) := by decide +kernel
theorem dL_law_652 : decode cL_law 652 = .ok (.iadd, 1) := by decide +kernel
theorem dL_law_653 : decode cL_law 653 = .ok (.iaload, 1) := by decide +kernel
theorem dL_law_654 : decode cL_law 654 = .ok (.aload_n 0, 1) := by decide +kernel
theorem dL_law_655 : decode cL_law 655 = .ok (.iload 4, 2) := by decide +kernel
theorem dL_law_657 : decode cL_law 657 = .ok (.iconst 2, 1) := by decide +kernel
theorem dL_law_658 : decode cL_law 658 = .ok (.iadd, 1) := by decide +kernel
theorem dL_law_659 : decode cL_law 659 = .ok (.iaload, 1) := by decide +kernel
theorem dL_law_660 : decode cL_law 660 = .ok (.invokevirtual 76, 3) := by decide +kernel
theorem dL_law_663 : decode cL_law 663 = .ok (.pop, 1) := by decide +kernel
theorem dL_law_664 : decode cL_law 664 = .ok (.aload_n 2, 1) := by decide +kernel
theorem dL_law_665 : decode cL_law 665 = .ok (.aload_n 0, 1) := by decide +kernel
theorem dL_law_666 : decode cL_law 666 = .ok (.iload 4, 2) := by decide +kernel
theorem dL_law_668 : decode cL_law 668 = .ok (.iconst 1, 1) := by decide +kernel
theorem dL_law_669 : decode cL_law 669 = .ok (.iadd, 1) := by decide +kernel
theorem dL_law_670 : decode cL_law 670 = .ok (.iaload, 1) := by decide +kernel
theorem dL_law_671 : decode cL_law 671 = .ok (.aload_n 0, 1) := by decide +kernel
theorem dL_law_672 : decode cL_law 672 = .ok (.iload 4, 2) := by decide +kernel
theorem dL_law_674 : decode cL_law 674 = .ok (.iconst 2, 1) := by decide +kernel
theorem dL_law_675 : decode cL_law 675 = .ok (.iadd, 1) := by decide +kernel
theorem dL_law_676 : decode cL_law 676 = .ok (.iaload, 1) := by decide +kernel
theorem dL_law_677 : decode cL_law 677 = .ok (.invokevirtual 79, 3) := by decide +kernel
theorem dL_law_680 : decode cL_law 680 = .ok (.pop, 1) := by decide +kernel
theorem dL_law_681 : decode cL_law 681 = .ok (.goto 484, 3) := by decide +kernel
theorem dL_law_684 : decode cL_law 684 = .ok (.aload_n 1, 1) := by decide +kernel
theorem dL_law_685 : decode cL_law 685 = .ok (.aload_n 0, 1) := by decide +kernel
theorem dL_law_686 : decode cL_law 686 = .ok (.iload 4, 2) := by decide +kernel
theorem dL_law_688 : decode cL_law 688 = .ok (.iconst 1, 1) := by decide +kernel
theorem dL_law_689 : decode cL_law 689 = .ok (.iadd, 1) := by decide +kernel
theorem dL_law_690 : decode cL_law 690 = .ok (.iaload, 1) := by decide +kernel
theorem dL_law_691 : decode cL_law 691 = .ok (.aload_n 0, 1) := by decide +kernel
theorem dL_law_692 : decode cL_law 692 = .ok (.iload 4, 2) := by decide +kernel
theorem dL_law_694 : decode cL_law 694 = .ok (.iconst 2, 1) := by decide +kernel
theorem dL_law_695 : decode cL_law 695 = .ok (.iadd, 1) := by decide +kernel
theorem dL_law_696 : decode cL_law 696 = .ok (.iaload, 1) := by decide +kernel
theorem dL_law_697 : decode cL_law 697 = .ok (.invokevirtual 80, 3) := by decide +kernel
theorem dL_law_700 : decode cL_law 700 = .ok (.pop, 1) := by decide +kernel
theorem dL_law_701 : decode cL_law 701 = .ok (.aload_n 2, 1) := by decide +kernel
theorem dL_law_702 : decode cL_law 702 = .ok (.aload_n 0, 1) := by decide +kernel
theorem dL_law_703 : decode cL_law 703 = .ok (.iload 4, 2) := by decide +kernel
theorem dL_law_705 : decode cL_law 705 = .ok (.iconst 1, 1) := by decide +kernel
theorem dL_law_706 : decode cL_law 706 = .ok (.iadd, 1) := by decide +kernel
theorem dL_law_707 : decode cL_law 707 = .ok (.iaload, 1) := by decide +kernel
theorem dL_law_708 : decode cL_law 708 = .ok (.aload_n 0, 1) := by decide +kernel
theorem dL_law_709 : decode cL_law 709 = .ok (.iload 4, 2) := by decide +kernel
theorem dL_law_711 : decode cL_law 711 = .ok (.iconst 2, 1) := by decide +kernel
theorem dL_law_712 : decode cL_law 712 = .ok (.iadd, 1) := by decide +kernel
theorem dL_law_713 : decode cL_law 713 = .ok (.iaload, 1) := by decide +kernel
theorem dL_law_714 : decode cL_law 714 = .ok (.invokevirtual 83, 3) := by decide +kernel
theorem dL_law_717 : decode cL_law 717 = .ok (.pop, 1) := by decide +kernel
theorem dL_law_718 : decode cL_law 718 = .ok (.goto 447, 3) := by decide +kernel
theorem dL_law_721 : decode cL_law 721 = .ok (.aload_n 1, 1) := by decide +kernel
theorem dL_law_722 : decode cL_law 722 = .ok (.aload_n 0, 1) := by decide +kernel
theorem dL_law_723 : decode cL_law 723 = .ok (.iload 4, 2) := by decide +kernel
theorem dL_law_725 : decode cL_law 725 = .ok (.iconst 1, 1) := by decide +kernel
theorem dL_law_726 : decode cL_law 726 = .ok (.iadd, 1) := by decide +kernel
theorem dL_law_727 : decode cL_law 727 = .ok (.iaload, 1) := by decide +kernel
theorem dL_law_728 : decode cL_law 728 = .ok (.aload_n 0, 1) := by decide +kernel
theorem dL_law_729 : decode cL_law 729 = .ok (.iload 4, 2) := by decide +kernel
theorem dL_law_731 : decode cL_law 731 = .ok (.iconst 2, 1) := by decide +kernel
theorem dL_law_732 : decode cL_law 732 = .ok (.iadd, 1) := by decide +kernel
theorem dL_law_733 : decode cL_law 733 = .ok (.iaload, 1) := by decide +kernel
theorem dL_law_734 : decode cL_law 734 = .ok (.invokevirtual 84, 3) := by decide +kernel
theorem dL_law_737 : decode cL_law 737 = .ok (.pop, 1) := by decide +kernel
theorem dL_law_738 : decode cL_law 738 = .ok (.aload_n 2, 1) := by decide +kernel
theorem dL_law_739 : decode cL_law 739 = .ok (.aload_n 0, 1) := by decide +kernel
theorem dL_law_740 : decode cL_law 740 = .ok (.iload 4, 2) := by decide +kernel
theorem dL_law_742 : decode cL_law 742 = .ok (.iconst 1, 1) := by decide +kernel
theorem dL_law_743 : decode cL_law 743 = .ok (.iadd, 1) := by decide +kernel
theorem dL_law_744 : decode cL_law 744 = .ok (.iaload, 1) := by decide +kernel
theorem dL_law_745 : decode cL_law 745 = .ok (.aload_n 0, 1) := by decide +kernel
theorem dL_law_746 : decode cL_law 746 = .ok (.iload 4, 2) := by decide +kernel
theorem dL_law_748 : decode cL_law 748 = .ok (.iconst 2, 1) := by decide +kernel
theorem dL_law_749 : decode cL_law 749 = .ok (.iadd, 1) := by decide +kernel
theorem dL_law_750 : decode cL_law 750 = .ok (.iaload, 1) := by decide +kernel
theorem dL_law_751 : decode cL_law 751 = .ok (.invokevirtual 87, 3) := by decide +kernel
theorem dL_law_754 : decode cL_law 754 = .ok (.pop, 1) := by decide +kernel
theorem dL_law_755 : decode cL_law 755 = .ok (.goto 410, 3) := by decide +kernel
theorem dL_law_758 : decode cL_law 758 = .ok (.aload_n 1, 1) := by decide +kernel
theorem dL_law_759 : decode cL_law 759 = .ok (.aload_n 0, 1) := by decide +kernel
theorem dL_law_760 : decode cL_law 760 = .ok (.iload 4, 2) := by decide +kernel
theorem dL_law_762 : decode cL_law 762 = .ok (.iconst 1, 1) := by decide +kernel
theorem dL_law_763 : decode cL_law 763 = .ok (.iadd, 1) := by decide +kernel
theorem dL_law_764 : decode cL_law 764 = .ok (.iaload, 1) := by decide +kernel
theorem dL_law_765 : decode cL_law 765 = .ok (.invokevirtual 88, 3) := by decide +kernel
theorem dL_law_768 : decode cL_law 768 = .ok (.pop, 1) := by decide +kernel
theorem dL_law_769 : decode cL_law 769 = .ok (.aload_n 2, 1) := by decide +kernel
theorem dL_law_770 : decode cL_law 770 = .ok (.aload_n 0, 1) := by decide +kernel
theorem dL_law_771 : decode cL_law 771 = .ok (.iload 4, 2) := by decide +kernel
theorem dL_law_773 : decode cL_law 773 = .ok (.iconst 1, 1) := by decide +kernel
theorem dL_law_774 : decode cL_law 774 = .ok (.iadd, 1) := by decide +kernel
theorem dL_law_775 : decode cL_law 775 = .ok (.iaload, 1) := by decide +kernel
theorem dL_law_776 : decode cL_law 776 = .ok (.invokevirtual 91, 3) := by decide +kernel
theorem dL_law_779 : decode cL_law 779 = .ok (.pop, 1) := by decide +kernel
theorem dL_law_780 : decode cL_law 780 = .ok (.goto 385, 3) := by decide +kernel
theorem dL_law_783 : decode cL_law 783 = .ok (.aload_n 1, 1) := by decide +kernel
theorem dL_law_784 : decode cL_law 784 = .ok (.aload_n 0, 1) := by decide +kernel
theorem dL_law_785 : decode cL_law 785 = .ok (.iload 4, 2) := by decide +kernel
theorem dL_law_787 : decode cL_law 787 = .ok (.iconst 1, 1) := by decide +kernel
theorem dL_law_788 : decode cL_law 788 = .ok (.iadd, 1) := by decide +kernel
theorem dL_law_789 : decode cL_law 789 = .ok (.iaload, 1) := by decide +kernel
theorem dL_law_790 : decode cL_law 790 = .ok (.aload_n 0, 1) := by decide +kernel
theorem dL_law_791 : decode cL_law 791 = .ok (.iload 4, 2) := by decide +kernel
theorem dL_law_793 : decode cL_law 793 = .ok (.iconst 2, 1) := by decide +kernel
theorem dL_law_794 : decode cL_law 794 = .ok (.iadd, 1) := by decide +kernel
theorem dL_law_795 : decode cL_law 795 = .ok (.iaload, 1) := by decide +kernel
theorem dL_law_796 : decode cL_law 796 = .ok (.invokevirtual 92, 3) := by decide +kernel
theorem dL_law_799 : decode cL_law 799 = .ok (.pop, 1) := by decide +kernel
theorem dL_law_800 : decode cL_law 800 = .ok (.aload_n 2, 1) := by decide +kernel
theorem dL_law_801 : decode cL_law 801 = .ok (.aload_n 0, 1) := by decide +kernel
theorem dL_law_802 : decode cL_law 802 = .ok (.iload 4, 2) := by decide +kernel
theorem dL_law_804 : decode cL_law 804 = .ok (.iconst 1, 1) := by decide +kernel
theorem dL_law_805 : decode cL_law 805 = .ok (.iadd, 1) := by decide +kernel
theorem dL_law_806 : decode cL_law 806 = .ok (.iaload, 1) := by decide +kernel
theorem dL_law_807 : decode cL_law 807 = .ok (.aload_n 0, 1) := by decide +kernel
theorem dL_law_808 : decode cL_law 808 = .ok (.iload 4, 2) := by decide +kernel
theorem dL_law_810 : decode cL_law 810 = .ok (.iconst 2, 1) := by decide +kernel
theorem dL_law_811 : decode cL_law 811 = .ok (.iadd, 1) := by decide +kernel
theorem dL_law_812 : decode cL_law 812 = .ok (.iaload, 1) := by decide +kernel
theorem dL_law_813 : decode cL_law 813 = .ok (.invokevirtual 95, 3) := by decide +kernel
theorem dL_law_816 : decode cL_law 816 = .ok (.pop, 1) := by decide +kernel
theorem dL_law_817 : decode cL_law 817 = .ok (.goto 348, 3) := by decide +kernel
theorem dL_law_820 : decode cL_law 820 = .ok (.aload_n 1, 1) := by decide +kernel
theorem dL_law_821 : decode cL_law 821 = .ok (.aload_n 0, 1) := by decide +kernel
theorem dL_law_822 : decode cL_law 822 = .ok (.iload 4, 2) := by decide +kernel
theorem dL_law_824 : decode cL_law 824 = .ok (.iconst 1, 1) := by decide +kernel
theorem dL_law_825 : decode cL_law 825 = .ok (.iadd, 1) := by decide +kernel
theorem dL_law_826 : decode cL_law 826 = .ok (.iaload, 1) := by decide +kernel
theorem dL_law_827 : decode cL_law 827 = .ok (.aload_n 0, 1) := by decide +kernel
theorem dL_law_828 : decode cL_law 828 = .ok (.iload 4, 2) := by decide +kernel
theorem dL_law_830 : decode cL_law 830 = .ok (.iconst 2, 1) := by decide +kernel
theorem dL_law_831 : decode cL_law 831 = .ok (.iadd, 1) := by decide +kernel
theorem dL_law_832 : decode cL_law 832 = .ok (.iaload, 1) := by decide +kernel
theorem dL_law_833 : decode cL_law 833 = .ok (.invokevirtual 96, 3) := by decide +kernel
theorem dL_law_836 : decode cL_law 836 = .ok (.pop, 1) := by decide +kernel
theorem dL_law_837 : decode cL_law 837 = .ok (.aload_n 2, 1) := by decide +kernel
theorem dL_law_838 : decode cL_law 838 = .ok (.aload_n 0, 1) := by decide +kernel
theorem dL_law_839 : decode cL_law 839 = .ok (.iload 4, 2) := by decide +kernel
theorem dL_law_841 : decode cL_law 841 = .ok (.iconst 1, 1) := by decide +kernel
theorem dL_law_842 : decode cL_law 842 = .ok (.iadd, 1) := by decide +kernel
theorem dL_law_843 : decode cL_law 843 = .ok (.iaload, 1) := by decide +kernel
theorem dL_law_844 : decode cL_law 844 = .ok (.aload_n 0, 1) := by decide +kernel
theorem dL_law_845 : decode cL_law 845 = .ok (.iload 4, 2) := by decide +kernel
theorem dL_law_847 : decode cL_law 847 = .ok (.iconst 2, 1) := by decide +kernel
theorem dL_law_848 : decode cL_law 848 = .ok (.iadd, 1) := by decide +kernel
theorem dL_law_849 : decode cL_law 849 = .ok (.iaload, 1) := by decide +kernel
theorem dL_law_850 : decode cL_law 850 = .ok (.invokevirtual 99, 3) := by decide +kernel
theorem dL_law_853 : decode cL_law 853 = .ok (.pop, 1) := by decide +kernel
theorem dL_law_854 : decode cL_law 854 = .ok (.goto 311, 3) := by decide +kernel
theorem dL_law_857 : decode cL_law 857 = .ok (.aload_n 1, 1) := by decide +kernel
theorem dL_law_858 : decode cL_law 858 = .ok (.aload_n 0, 1) := by decide +kernel
theorem dL_law_859 : decode cL_law 859 = .ok (.iload 4, 2) := by decide +kernel
theorem dL_law_861 : decode cL_law 861 = .ok (.iconst 1, 1) := by decide +kernel
theorem dL_law_862 : decode cL_law 862 = .ok (.iadd, 1) := by decide +kernel
theorem dL_law_863 : decode cL_law 863 = .ok (.iaload, 1) := by decide +kernel
theorem dL_law_864 : decode cL_law 864 = .ok (.aload_n 0, 1) := by decide +kernel
theorem dL_law_865 : decode cL_law 865 = .ok (.iload 4, 2) := by decide +kernel
theorem dL_law_867 : decode cL_law 867 = .ok (.iconst 2, 1) := by decide +kernel
theorem dL_law_868 : decode cL_law 868 = .ok (.iadd, 1) := by decide +kernel
theorem dL_law_869 : decode cL_law 869 = .ok (.iaload, 1) := by decide +kernel
theorem dL_law_870 : decode cL_law 870 = .ok (.aload_n 0, 1) := by decide +kernel
theorem dL_law_871 : decode cL_law 871 = .ok (.iload 4, 2) := by decide +kernel
theorem dL_law_873 : decode cL_law 873 = .ok (.iconst 3, 1) := by decide +kernel
theorem dL_law_874 : decode cL_law 874 = .ok (.iadd, 1) := by decide +kernel
theorem dL_law_875 : decode cL_law 875 = .ok (.iaload, 1) := by decide +kernel
theorem dL_law_876 : decode cL_law 876 = .ok (.invokevirtual 100, 3) := by decide +kernel
theorem dL_law_879 : decode cL_law 879 = .ok (.pop, 1) := by decide +kernel
theorem dL_law_880 : decode cL_law 880 = .ok (.aload_n 2, 1) := by decide +kernel
theorem dL_law_881 : decode cL_law 881 = .ok (.aload_n 0, 1) := by decide +kernel
theorem dL_law_882 : decode cL_law 882 = .ok (.iload 4, 2) := by decide +kernel
theorem dL_law_884 : decode cL_law 884 = .ok (.iconst 1, 1) := by decide +kernel
theorem dL_law_885 : decode cL_law 885 = .ok (.iadd, 1) := by decide +kernel
theorem dL_law_886 : decode cL_law 886 = .ok (.iaload, 1) := by decide +kernel
theorem dL_law_887 : decode cL_law 887 = .ok (.aload_n 0, 1) := by decide +kernel
theorem dL_law_888 : decode cL_law 888 = .ok (.iload 4, 2) := by decide +kernel
theorem dL_law_890 : decode cL_law 890 = .ok (.iconst 2, 1) := by decide +kernel
theorem dL_law_891 : decode cL_law 891 = .ok (.iadd, 1) := by decide +kernel
theorem dL_law_892 : decode cL_law 892 = .ok (.iaload, 1) := by decide +kernel
theorem dL_law_893 : decode cL_law 893 = .ok (.aload_n 0, 1) := by decide +kernel
theorem dL_law_894 : decode cL_law 894 = .ok (.iload 4, 2) := by decide +kernel
theorem dL_law_896 : decode cL_law 896 = .ok (.iconst 3, 1) := by decide +kernel
theorem dL_law_897 : decode cL_law 897 = .ok (.iadd, 1) := by decide +kernel
theorem dL_law_898 : decode cL_law 898 = .ok (.iaload, 1) := by decide +kernel
theorem dL_law_899 : decode cL_law 899 = .ok (.invokevirtual 103, 3) := by decide +kernel
theorem dL_law_902 : decode cL_law 902 = .ok (.pop, 1) := by decide +kernel
theorem dL_law_903 : decode cL_law 903 = .ok (.goto 262, 3) := by decide +kernel
theorem dL_law_906 : decode cL_law 906 = .ok (.aload_n 1, 1) := by decide +kernel
theorem dL_law_907 : decode cL_law 907 = .ok (.aload_n 0, 1) := by decide +kernel
theorem dL_law_908 : decode cL_law 908 = .ok (.iload 4, 2) := by decide +kernel
theorem dL_law_910 : decode cL_law 910 = .ok (.iconst 1, 1) := by decide +kernel
theorem dL_law_911 : decode cL_law 911 = .ok (.iadd, 1) := by decide +kernel
theorem dL_law_912 : decode cL_law 912 = .ok (.iaload, 1) := by decide +kernel
theorem dL_law_913 : decode cL_law 913 = .ok (.aload_n 0, 1) := by decide +kernel
theorem dL_law_914 : decode cL_law 914 = .ok (.iload 4, 2) := by decide +kernel
theorem dL_law_916 : decode cL_law 916 = .ok (.iconst 2, 1) := by decide +kernel
theorem dL_law_917 : decode cL_law 917 = .ok (.iadd, 1) := by decide +kernel
theorem dL_law_918 : decode cL_law 918 = .ok (.iaload, 1) := by decide +kernel
theorem dL_law_919 : decode cL_law 919 = .ok (.aload_n 0, 1) := by decide +kernel
theorem dL_law_920 : decode cL_law 920 = .ok (.iload 4, 2) := by decide +kernel
theorem dL_law_922 : decode cL_law 922 = .ok (.iconst 3, 1) := by decide +kernel
theorem dL_law_923 : decode cL_law 923 = .ok (.iadd, 1) := by decide +kernel
theorem dL_law_924 : decode cL_law 924 = .ok (.iaload, 1) := by decide +kernel
theorem dL_law_925 : decode cL_law 925 = .ok (.aload_n 0, 1) := by decide +kernel
theorem dL_law_926 : decode cL_law 926 = .ok (.iload 4, 2) := by decide +kernel
theorem dL_law_928 : decode cL_law 928 = .ok (.iconst 4, 1) := by decide +kernel
theorem dL_law_929 : decode cL_law 929 = .ok (.iadd, 1) := by decide +kernel
theorem dL_law_930 : decode cL_law 930 = .ok (.iaload, 1) := by decide +kernel
theorem dL_law_931 : decode cL_law 931 = .ok (.invokevirtual 104, 3) := by decide +kernel
theorem dL_law_934 : decode cL_law 934 = .ok (.pop, 1) := by decide +kernel
theorem dL_law_935 : decode cL_law 935 = .ok (.aload_n 2, 1) := by decide +kernel
theorem dL_law_936 : decode cL_law 936 = .ok (.aload_n 0, 1) := by decide +kernel
theorem dL_law_937 : decode cL_law 937 = .ok (.iload 4, 2) := by decide +kernel
theorem dL_law_939 : decode cL_law 939 = .ok (.iconst 1, 1) := by decide +kernel
theorem dL_law_940 : decode cL_law 940 = .ok (.iadd, 1) := by decide +kernel
theorem dL_law_941 : decode cL_law 941 = .ok (.iaload, 1) := by decide +kernel
theorem dL_law_942 : decode cL_law 942 = .ok (.aload_n 0, 1) := by decide +kernel
theorem dL_law_943 : decode cL_law 943 = .ok (.iload 4, 2) := by decide +kernel
theorem dL_law_945 : decode cL_law 945 = .ok (.iconst 2, 1) := by decide +kernel
theorem dL_law_946 : decode cL_law 946 = .ok (.iadd, 1) := by decide +kernel
theorem dL_law_947 : decode cL_law 947 = .ok (.iaload, 1) := by decide +kernel
theorem dL_law_948 : decode cL_law 948 = .ok (.aload_n 0, 1) := by decide +kernel
theorem dL_law_949 : decode cL_law 949 = .ok (.iload 4, 2) := by decide +kernel
theorem dL_law_951 : decode cL_law 951 = .ok (.iconst 3, 1) := by decide +kernel
theorem dL_law_952 : decode cL_law 952 = .ok (.iadd, 1) := by decide +kernel
theorem dL_law_953 : decode cL_law 953 = .ok (.iaload, 1) := by decide +kernel
theorem dL_law_954 : decode cL_law 954 = .ok (.aload_n 0, 1) := by decide +kernel
theorem dL_law_955 : decode cL_law 955 = .ok (.iload 4, 2) := by decide +kernel
theorem dL_law_957 : decode cL_law 957 = .ok (.iconst 4, 1) := by decide +kernel
theorem dL_law_958 : decode cL_law 958 = .ok (.iadd, 1) := by decide +kernel
theorem dL_law_959 : decode cL_law 959 = .ok (.iaload, 1) := by decide +kernel
theorem dL_law_960 : decode cL_law 960 = .ok (.invokevirtual 108, 3) := by decide +kernel
theorem dL_law_963 : decode cL_law 963 = .ok (.pop, 1) := by decide +kernel
theorem dL_law_964 : decode cL_law 964 = .ok (.goto 201, 3) := by decide +kernel
theorem dL_law_967 : decode cL_law 967 = .ok (.aload_n 1, 1) := by decide +kernel
theorem dL_law_968 : decode cL_law 968 = .ok (.aload_n 0, 1) := by decide +kernel
theorem dL_law_969 : decode cL_law 969 = .ok (.iload 4, 2) := by decide +kernel
theorem dL_law_971 : decode cL_law 971 = .ok (.iconst 1, 1) := by decide +kernel
theorem dL_law_972 : decode cL_law 972 = .ok (.iadd, 1) := by decide +kernel
theorem dL_law_973 : decode cL_law 973 = .ok (.iaload, 1) := by decide +kernel
theorem dL_law_974 : decode cL_law 974 = .ok (.aload_n 0, 1) := by decide +kernel
theorem dL_law_975 : decode cL_law 975 = .ok (.iload 4, 2) := by decide +kernel
theorem dL_law_977 : decode cL_law 977 = .ok (.iconst 2, 1) := by decide +kernel
theorem dL_law_978 : decode cL_law 978 = .ok (.iadd, 1) := by decide +kernel
theorem dL_law_979 : decode cL_law 979 = .ok (.iaload, 1) := by decide +kernel
theorem dL_law_980 : decode cL_law 980 = .ok (.invokevirtual 109, 3) := by decide +kernel
theorem dL_law_983 : decode cL_law 983 = .ok (.pop, 1) := by decide +kernel
theorem dL_law_984 : decode cL_law 984 = .ok (.aload_n 2, 1) := by decide +kernel
theorem dL_law_985 : decode cL_law 985 = .ok (.aload_n 0, 1) := by decide +kernel
theorem dL_law_986 : decode cL_law 986 = .ok (.iload 4, 2) := by decide +kernel
theorem dL_law_988 : decode cL_law 988 = .ok (.iconst 1, 1) := by decide +kernel
theorem dL_law_989 : decode cL_law 989 = .ok (.iadd, 1) := by decide +kernel
theorem dL_law_990 : decode cL_law 990 = .ok (.iaload, 1) := by decide +kernel
theorem dL_law_991 : decode cL_law 991 = .ok (.aload_n 0, 1) := by decide +kernel
theorem dL_law_992 : decode cL_law 992 = .ok (.iload 4, 2) := by decide +kernel
theorem dL_law_994 : decode cL_law 994 = .ok (.iconst 2, 1) := by decide +kernel
theorem dL_law_995 : decode cL_law 995 = .ok (.iadd, 1) := by decide +kernel
theorem dL_law_996 : decode cL_law 996 = .ok (.iaload, 1) := by decide +kernel
theorem dL_law_997 : decode cL_law 997 = .ok (.invokevirtual 112, 3) := by decide +kernel
theorem dL_law_1000 : decode cL_law 1000 = .ok (.pop, 1) := by decide +kernel
theorem dL_law_1001 : decode cL_law 1001 = .ok (.goto 164, 3) := by decide +kernel
theorem dL_law_1004 : decode cL_law 1004 = .ok (.aload_n 1, 1) := by decide +kernel
theorem dL_law_1005 : decode cL_law 1005 = .ok (.aload_n 0, 1) := by decide +kernel
theorem dL_law_1006 : decode cL_law 1006 = .ok (.iload 4, 2) := by decide +kernel
theorem dL_law_1008 : decode cL_law 1008 = .ok (.iconst 1, 1) := by decide +kernel
theorem dL_law_1009 : decode cL_law 1009 = .ok (.iadd, 1) := by decide +kernel
theorem dL_law_1010 : decode cL_law 1010 = .ok (.iaload, 1) := by decide +kernel
theorem dL_law_1011 : decode cL_law 1011 = .ok (.aload_n 0, 1) := by decide +kernel
theorem dL_law_1012 : decode cL_law 1012 = .ok (.iload 4, 2) := by decide +kernel
theorem dL_law_1014 : decode cL_law 1014 = .ok (.iconst 2, 1) := by decide +kernel
theorem dL_law_1015 : decode cL_law 1015 = .ok (.iadd, 1) := by decide +kernel
theorem dL_law_1016 : decode cL_law 1016 = .ok (.iaload, 1) := by decide +kernel
theorem dL_law_1017 : decode cL_law 1017 = .ok (.invokevirtual 113, 3) := by decide +kernel
theorem dL_law_1020 : decode cL_law 1020 = .ok (.pop, 1) := by decide +kernel
theorem dL_law_1021 : decode cL_law 1021 = .ok (.aload_n 2, 1) := by decide +kernel
theorem dL_law_1022 : decode cL_law 1022 = .ok (.aload_n 0, 1) := by decide +kernel
theorem dL_law_1023 : decode cL_law 1023 = .ok (.iload 4, 2) := by decide +kernel
theorem dL_law_1025 : decode cL_law 1025 = .ok (.iconst 1, 1) := by decide +kernel
theorem dL_law_1026 : decode cL_law 1026 = .ok (.iadd, 1) := by decide +kernel
theorem dL_law_1027 : decode cL_law 1027 = .ok (.iaload, 1) := by decide +kernel
theorem dL_law_1028 : decode cL_law 1028 = .ok (.aload_n 0, 1) := by decide +kernel
theorem dL_law_1029 : decode cL_law 1029 = .ok (.iload 4, 2) := by decide +kernel
theorem dL_law_1031 : decode cL_law 1031 = .ok (.iconst 2, 1) := by decide +kernel
theorem dL_law_1032 : decode cL_law 1032 = .ok (.iadd, 1) := by decide +kernel
theorem dL_law_1033 : decode cL_law 1033 = .ok (.iaload, 1) := by decide +kernel
theorem dL_law_1034 : decode cL_law 1034 = .ok (.invokevirtual 116, 3) := by decide +kernel
theorem dL_law_1037 : decode cL_law 1037 = .ok (.pop, 1) := by decide +kernel
theorem dL_law_1038 : decode cL_law 1038 = .ok (.goto 127, 3) := by decide +kernel
theorem dL_law_1041 : decode cL_law 1041 = .ok (.aload_n 1, 1) := by decide +kernel
theorem dL_law_1042 : decode cL_law 1042 = .ok (.aload_n 0, 1) := by decide +kernel
theorem dL_law_1043 : decode cL_law 1043 = .ok (.iload 4, 2) := by decide +kernel
theorem dL_law_1045 : decode cL_law 1045 = .ok (.iconst 1, 1) := by decide +kernel
theorem dL_law_1046 : decode cL_law 1046 = .ok (.iadd, 1) := by decide +kernel
theorem dL_law_1047 : decode cL_law 1047 = .ok (.iaload, 1) := by decide +kernel
theorem dL_law_1048 : decode cL_law 1048 = .ok (.aload_n 0, 1) := by decide +kernel
theorem dL_law_1049 : decode cL_law 1049 = .ok (.iload 4, 2) := by decide +kernel
theorem dL_law_1051 : decode cL_law 1051 = .ok (.iconst 2, 1) := by decide +kernel
theorem dL_law_1052 : decode cL_law 1052 = .ok (.iadd, 1) := by decide +kernel
theorem dL_law_1053 : decode cL_law 1053 = .ok (.iaload, 1) := by decide +kernel
theorem dL_law_1054 : decode cL_law 1054 = .ok (.invokevirtual 117, 3) := by decide +kernel
theorem dL_law_1057 : decode cL_law 1057 = .ok (.pop, 1) := by decide +kernel
theorem dL_law_1058 : decode cL_law 1058 = .ok (.aload_n 2, 1) := by decide +kernel
theorem dL_law_1059 : decode cL_law 1059 = .ok (.aload_n 0, 1) := by decide +kernel
theorem dL_law_1060 : decode cL_law 1060 = .ok (.iload 4, 2) := by decide +kernel
theorem dL_law_1062 : decode cL_law 1062 = .ok (.iconst 1, 1) := by decide +kernel
theorem dL_law_1063 : decode cL_law 1063 = .ok (.iadd, 1) := by decide +kernel
theorem dL_law_1064 : decode cL_law 1064 = .ok (.iaload, 1) := by decide +kernel
theorem dL_law_1065 : decode cL_law 1065 = .ok (.aload_n 0, 1) := by decide +kernel
theorem dL_law_1066 : decode cL_law 1066 = .ok (.iload 4, 2) := by decide +kernel
theorem dL_law_1068 : decode cL_law 1068 = .ok (.iconst 2, 1) := by decide +kernel
theorem dL_law_1069 : decode cL_law 1069 = .ok (.iadd, 1) := by decide +kernel
theorem dL_law_1070 : decode cL_law 1070 = .ok (.iaload, 1) := by decide +kernel
theorem dL_law_1071 : decode cL_law 1071 = .ok (.invokevirtual 120, 3) := by decide +kernel
theorem dL_law_1074 : decode cL_law 1074 = .ok (.pop, 1) := by decide +kernel
theorem dL_law_1075 : decode cL_law 1075 = .ok (.goto 90, 3) := by decide +kernel
theorem dL_law_1078 : decode cL_law 1078 = .ok (.aload_n 1, 1) := by decide +kernel
theorem dL_law_1079 : decode cL_law 1079 = .ok (.aload_n 0, 1) := by decide +kernel
theorem dL_law_1080 : decode cL_law 1080 = .ok (.iload 4, 2) := by decide +kernel
theorem dL_law_1082 : decode cL_law 1082 = .ok (.iconst 1, 1) := by decide +kernel
theorem dL_law_1083 : decode cL_law 1083 = .ok (.iadd, 1) := by decide +kernel
theorem dL_law_1084 : decode cL_law 1084 = .ok (.iaload, 1) := by decide +kernel
theorem dL_law_1085 : decode cL_law 1085 = .ok (.invokevirtual 121, 3) := by decide +kernel
theorem dL_law_1088 : decode cL_law 1088 = .ok (.aload_n 2, 1) := by decide +kernel
theorem dL_law_1089 : decode cL_law 1089 = .ok (.aload_n 0, 1) := by decide +kernel
theorem dL_law_1090 : decode cL_law 1090 = .ok (.iload 4, 2) := by decide +kernel
theorem dL_law_1092 : decode cL_law 1092 = .ok (.iconst 1, 1) := by decide +kernel
theorem dL_law_1093 : decode cL_law 1093 = .ok (.iadd, 1) := by decide +kernel
theorem dL_law_1094 : decode cL_law 1094 = .ok (.iaload, 1) := by decide +kernel
theorem dL_law_1095 : decode cL_law 1095 = .ok (.invokevirtual 124, 3) := by decide +kernel
theorem dL_law_1098 : decode cL_law 1098 = .ok (.if_icmp .eq 67, 3) := by decide +kernel
theorem dL_law_1101 : decode cL_law 1101 = .ok (.iconst 0, 1) := by decide +kernel
theorem dL_law_1102 : decode cL_law 1102 = .ok (.ireturn, 1) := by decide +kernel
theorem dL_law_1103 : decode cL_law 1103 = .ok (.aload_n 1, 1) := by decide +kernel
theorem dL_law_1104 : decode cL_law 1104 = .ok (.aload_n 0, 1) := by decide +kernel
theorem dL_law_1105 : decode cL_law 1105 = .ok (.iload 4, 2) := by decide +kernel
theorem dL_law_1107 : decode cL_law 1107 = .ok (.iconst 1, 1) := by decide +kernel
theorem dL_law_1108 : decode cL_law 1108 = .ok (.iadd, 1) := by decide +kernel
theorem dL_law_1109 : decode cL_law 1109 = .ok (.iaload, 1) := by decide +kernel
theorem dL_law_1110 : decode cL_law 1110 = .ok (.aload_n 0, 1) := by decide +kernel
theorem dL_law_1111 : decode cL_law 1111 = .ok (.iload 4, 2) := by decide +kernel
theorem dL_law_1113 : decode cL_law 1113 = .ok (.iconst 2, 1) := by decide +kernel
theorem dL_law_1114 : decode cL_law 1114 = .ok (.iadd, 1) := by decide +kernel
theorem dL_law_1115 : decode cL_law 1115 = .ok (.iaload, 1) := by decide +kernel
theorem dL_law_1116 : decode cL_law 1116 = .ok (.invokevirtual 125, 3) := by decide +kernel
theorem dL_law_1119 : decode cL_law 1119 = .ok (.pop, 1) := by decide +kernel
theorem dL_law_1120 : decode cL_law 1120 = .ok (.aload_n 2, 1) := by decide +kernel
theorem dL_law_1121 : decode cL_law 1121 = .ok (.aload_n 0, 1) := by decide +kernel
theorem dL_law_1122 : decode cL_law 1122 = .ok (.iload 4, 2) := by decide +kernel
theorem dL_law_1124 : decode cL_law 1124 = .ok (.iconst 1, 1) := by decide +kernel
theorem dL_law_1125 : decode cL_law 1125 = .ok (.iadd, 1) := by decide +kernel
theorem dL_law_1126 : decode cL_law 1126 = .ok (.iaload, 1) := by decide +kernel
theorem dL_law_1127 : decode cL_law 1127 = .ok (.aload_n 0, 1) := by decide +kernel
theorem dL_law_1128 : decode cL_law 1128 = .ok (.iload 4, 2) := by decide +kernel
theorem dL_law_1130 : decode cL_law 1130 = .ok (.iconst 2, 1) := by decide +kernel
theorem dL_law_1131 : decode cL_law 1131 = .ok (.iadd, 1) := by decide +kernel
theorem dL_law_1132 : decode cL_law 1132 = .ok (.iaload, 1) := by decide +kernel
theorem dL_law_1133 : decode cL_law 1133 = .ok (.invokevirtual 128, 3) := by decide +kernel
theorem dL_law_1136 : decode cL_law 1136 = .ok (.pop, 1) := by decide +kernel
theorem dL_law_1137 : decode cL_law 1137 = .ok (.goto 28, 3) := by decide +kernel
theorem dL_law_1140 : decode cL_law 1140 = .ok (.aload_n 1, 1) := by decide +kernel
theorem dL_law_1141 : decode cL_law 1141 = .ok (.aload_n 0, 1) := by decide +kernel
theorem dL_law_1142 : decode cL_law 1142 = .ok (.iload 4, 2) := by decide +kernel
theorem dL_law_1144 : decode cL_law 1144 = .ok (.iconst 1, 1) := by decide +kernel
theorem dL_law_1145 : decode cL_law 1145 = .ok (.iadd, 1) := by decide +kernel
theorem dL_law_1146 : decode cL_law 1146 = .ok (.iaload, 1) := by decide +kernel
theorem dL_law_1147 : decode cL_law 1147 = .ok (.invokevirtual 129, 3) := by decide +kernel
theorem dL_law_1150 : decode cL_law 1150 = .ok (.pop, 1) := by decide +kernel
theorem dL_law_1151 : decode cL_law 1151 = .ok (.aload_n 2, 1) := by decide +kernel
theorem dL_law_1152 : decode cL_law 1152 = .ok (.aload_n 0, 1) := by decide +kernel
theorem dL_law_1153 : decode cL_law 1153 = .ok (.iload 4, 2) := by decide +kernel
theorem dL_law_1155 : decode cL_law 1155 = .ok (.iconst 1, 1) := by decide +kernel
theorem dL_law_1156 : decode cL_law 1156 = .ok (.iadd, 1) := by decide +kernel
theorem dL_law_1157 : decode cL_law 1157 = .ok (.iaload, 1) := by decide +kernel
theorem dL_law_1158 : decode cL_law 1158 = .ok (.invokevirtual 132, 3) := by decide +kernel
theorem dL_law_1161 : decode cL_law 1161 = .ok (.pop, 1) := by decide +kernel
theorem dL_law_1162 : decode cL_law 1162 = .ok (.goto 3, 3) := by decide +kernel
theorem dL_law_1165 : decode cL_law 1165 = .ok (.iinc 4 8, 3) := by decide +kernel
theorem dL_law_1168 : decode cL_law 1168 = .ok (.goto (-1145), 3) := by decide +kernel
theorem dL_law_1171 : decode cL_law 1171 = .ok (.iconst 1, 1) := by decide +kernel
theorem dL_law_1172 : decode cL_law 1172 = .ok (.ireturn, 1) := by decide +kernel
