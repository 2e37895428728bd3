theorem dX9_both_176 : decode cX9_both 176 = .ok (.iload_n 3, 1) := by decide +kernel
theorem dX9_both_177 : decode cX9_both 177 = .ok (.iand, 1) := by decide +kernel
theorem dX9_both_178 : decode cX9_both 178 = .ok (.istore 5, 2) := by decide +kernel
theorem dX9_both_180 : decode cX9_both 180 = .ok (.goto (-96), 3) := by decide +kernel
theorem dX9_both_183 : decode cX9_both 183 = .ok (.bipush (-2), 2) := by decide +kernel
theorem dX9_both_185 : decode cX9_both 185 = .ok (.ireturn, 1) := by decide +kernel
set_option maxRecDepth 20000 in
theorem ggX9_isBox_X9_in : GoodIn wsX9_isBox wsX9_in := goodIn_r _ [4] rfl (by decide +kernel)
set_option maxRecDepth 20000 in
theorem gX9_isBox_X9_in : GoodIn wsX9_isBox (va_wsS RX9 50 yX9_in wsX9_in) := goodIn_app (goodIn_of _ (by decide +kernel)) ggX9_isBox_X9_in
theorem dX9_isBox_0 : decode cX9_isBox 0 = .ok (.iload_n 0, 1) := by decide +kernel
theorem dX9_isBox_1 : decode cX9_isBox 1 = .ok (.iconst 0, 1) := by decide +kernel
theorem dX9_isBox_2 : decode cX9_isBox 2 = .ok (.iconst 3, 1) := by decide +kernel
theorem dX9_isBox_3 : decode cX9_isBox 3 = .ok (.invokestatic 50, 3) := by decide +kernel
theorem dX9_isBox_6 : decode cX9_isBox 6 = .ok (.ireturn, 1) := by decide +kernel
set_option maxRecDepth 20000 in
theorem ggX9_box_X9_isBox : GoodIn wsX9_box wsX9_isBox := goodIn_r _ [9, 10, 11, 8, 12] rfl (by decide +kernel)
set_option maxRecDepth 20000 in
theorem gX9_box_X9_isBox : GoodIn wsX9_box (va_wsS RX9 156 yX9_isBox wsX9_isBox) := goodIn_app (goodIn_of _ (by decide +kernel)) ggX9_box_X9_isBox
set_option maxRecDepth 20000 in
theorem ggX9_box_X9_in : GoodIn wsX9_box wsX9_in := goodIn_r _ [12] rfl (by decide +kernel)
set_option maxRecDepth 20000 in
theorem gX9_box_X9_in : GoodIn wsX9_box (va_wsS RX9 50 yX9_in wsX9_in) := goodIn_app (goodIn_of _ (by decide +kernel)) ggX9_box_X9_in
theorem dX9_box_0 : decode cX9_box 0 = .ok (.aload_n 0, 1) := by decide +kernel
theorem dX9_box_1 : decode cX9_box 1 = .ok (.iconst 0, 1) := by decide +kernel
theorem dX9_box_2 : decode cX9_box 2 = .ok (.putfield 43, 3) := by decide +kernel
theorem dX9_box_5 : decode cX9_box 5 = .ok (.iload_n 1, 1) := by decide +kernel
theorem dX9_box_6 : decode cX9_box 6 = .ok (.invokestatic 156, 3) := by decide +kernel
theorem dX9_box_9 : decode cX9_box 9 = .ok (.ifCond .eq 22, 3) := by decide +kernel
theorem dX9_box_12 : decode cX9_box 12 = .ok (.iload_n 2, 1) := by decide +kernel
theorem dX9_box_13 : decode cX9_box 13 = .ok (.iconst 1, 1) := by decide +kernel
theorem dX9_box_14 : decode cX9_box 14 = .ok (.bipush 8, 2) := by decide +kernel
theorem dX9_box_16 : decode cX9_box 16 = .ok (.invokestatic 50, 3) := by decide +kernel
theorem dX9_box_19 : decode cX9_box 19 = .ok (.ifCond .eq 12, 3) := by decide +kernel
theorem dX9_box_22 : decode cX9_box 22 = .ok (.iload_n 3, 1) := by decide +kernel
theorem dX9_box_23 : decode cX9_box 23 = .ok (.iconst 1, 1) := by decide +kernel
theorem dX9_box_24 : decode cX9_box 24 = .ok (.iconst 4, 1) := by decide +kernel
theorem dX9_box_25 : decode cX9_box 25 = .ok (.invokestatic 50, 3) := by decide +kernel
theorem dX9_box_28 : decode cX9_box 28 = .ok (.ifCond .ne 5, 3) := by decide +kernel
theorem dX9_box_31 : decode cX9_box 31 = .ok (.iconst 0, 1) := by decide +kernel
theorem dX9_box_32 : decode cX9_box 32 = .ok (.ireturn, 1) := by decide +kernel
theorem dX9_box_33 : decode cX9_box 33 = .ok (.aload_n 0, 1) := by decide +kernel
theorem dX9_box_34 : decode cX9_box 34 = .ok (.getfield 19, 3) := by decide +kernel
theorem dX9_box_37 : decode cX9_box 37 = .ok (.iload_n 1, 1) := by decide +kernel
theorem dX9_box_38 : decode cX9_box 38 = .ok (.iload_n 2, 1) := by decide +kernel
theorem dX9_box_39 : decode cX9_box 39 = .ok (.iastore, 1) := by decide +kernel
theorem dX9_box_40 : decode cX9_box 40 = .ok (.aload_n 0, 1) := by decide +kernel
theorem dX9_box_41 : decode cX9_box 41 = .ok (.getfield 22, 3) := by decide +kernel
theorem dX9_box_44 : decode cX9_box 44 = .ok (.iload_n 1, 1) := by decide +kernel
theorem dX9_box_45 : decode cX9_box 45 = .ok (.iload_n 3, 1) := by decide +kernel
theorem dX9_box_46 : decode cX9_box 46 = .ok (.iastore, 1) := by decide +kernel
theorem dX9_box_47 : decode cX9_box 47 = .ok (.iconst 0, 1) := by decide +kernel
theorem dX9_box_48 : decode cX9_box 48 = .ok (.istore 4, 2) := by decide +kernel
theorem dX9_box_50 : decode cX9_box 50 = .ok (.iload 4, 2) := by decide +kernel
theorem dX9_box_52 : decode cX9_box 52 = .ok (.bipush 32, 2) := by decide +kernel
theorem dX9_box_54 : decode cX9_box 54 = .ok (.if_icmp .ge 22, 3) := by decide +kernel
theorem dX9_box_57 : decode cX9_box 57 = .ok (.aload_n 0, 1) := by decide +kernel
theorem dX9_box_58 : decode cX9_box 58 = .ok (.getfield 25, 3) := by decide +kernel
theorem dX9_box_61 : decode cX9_box 61 = .ok (.bipush 32, 2) := by decide +kernel
theorem dX9_box_63 : decode cX9_box 63 = .ok (.iload_n 1, 1) := by decide +kernel
theorem dX9_box_64 : decode cX9_box 64 = .ok (.imul, 1) := by decide +kernel
theorem dX9_box_65 : decode cX9_box 65 = .ok (.iload 4, 2) := by decide +kernel
theorem dX9_box_67 : decode cX9_box 67 = .ok (.iadd, 1) := by decide +kernel
theorem dX9_box_68 : decode cX9_box 68 = .ok (.iconst 0, 1) := by decide +kernel
theorem dX9_box_69 : decode cX9_box 69 = .ok (.iastore, 1) := by decide +kernel
theorem dX9_box_70 : decode cX9_box 70 = .ok (.iinc 4 1, 3) := by decide +kernel
theorem dX9_box_73 : decode cX9_box 73 = .ok (.goto (-23), 3) := by decide +kernel
theorem dX9_box_76 : decode cX9_box 76 = .ok (.aload_n 0, 1) := by decide +kernel
theorem dX9_box_77 : decode cX9_box 77 = .ok (.getfield 28, 3) := by decide +kernel
theorem dX9_box_80 : decode cX9_box 80 = .ok (.iload_n 1, 1) := by decide +kernel
theorem dX9_box_81 : decode cX9_box 81 = .ok (.iconst 1, 1) := by decide +kernel
theorem dX9_box_82 : decode cX9_box 82 = .ok (.iload_n 2, 1) := by decide +kernel
theorem dX9_box_83 : decode cX9_box 83 = .ok (.ishl, 1) := by decide +kernel
theorem dX9_box_84 : decode cX9_box 84 = .ok (.iconst 1, 1) := by decide +kernel
theorem dX9_box_85 : decode cX9_box 85 = .ok (.isub, 1) := by decide +kernel
theorem dX9_box_86 : decode cX9_box 86 = .ok (.iastore, 1) := by decide +kernel
theorem dX9_box_87 : decode cX9_box 87 = .ok (.iconst 1, 1) := by decide +kernel
theorem dX9_box_88 : decode cX9_box 88 = .ok (.ireturn, 1) := by decide +kernel
set_option maxRecDepth 20000 in
theorem ggX9_lead_X9_isBox : GoodIn wsX9_lead wsX9_isBox := goodIn_r _ [8, 9, 10, 7, 11] rfl (by decide +kernel)
set_option maxRecDepth 20000 in
theorem gX9_lead_X9_isBox : GoodIn wsX9_lead (va_wsS RX9 156 yX9_isBox wsX9_isBox) := goodIn_app (goodIn_of _ (by decide +kernel)) ggX9_lead_X9_isBox
set_option maxRecDepth 20000 in
theorem ggX9_lead_X9_in : GoodIn wsX9_lead wsX9_in := goodIn_r _ [11] rfl (by decide +kernel)
set_option maxRecDepth 20000 in
theorem gX9_lead_X9_in : GoodIn wsX9_lead (va_wsS RX9 50 yX9_in wsX9_in) := goodIn_app (goodIn_of _ (by decide +kernel)) ggX9_lead_X9_in
theorem dX9_lead_0 : decode cX9_lead 0 = .ok (.aload_n 0, 1) := by decide +kernel
theorem dX9_lead_1 : decode cX9_lead 1 = .ok (.iconst 0, 1) := by decide +kernel
theorem dX9_lead_2 : decode cX9_lead 2 = .ok (.putfield 43, 3) := by decide +kernel
theorem dX9_lead_5 : decode cX9_lead 5 = .ok (.iload_n 1, 1) := by decide +kernel
theorem dX9_lead_6 : decode cX9_lead 6 = .ok (.invokestatic 156, 3) := by decide +kernel
theorem dX9_lead_9 : decode cX9_lead 9 = .ok (.ifCond .eq 52, 3) := by decide +kernel
theorem dX9_lead_12 : decode cX9_lead 12 = .ok (.iload_n 2, 1) := by decide +kernel
theorem dX9_lead_13 : decode cX9_lead 13 = .ok (.iconst 0, 1) := by decide +kernel
theorem dX9_lead_14 : decode cX9_lead 14 = .ok (.aload_n 0, 1) := by decide +kernel
theorem dX9_lead_15 : decode cX9_lead 15 = .ok (.getfield 19, 3) := by decide +kernel
theorem dX9_lead_18 : decode cX9_lead 18 = .ok (.iload_n 1, 1) := by decide +kernel
theorem dX9_lead_19 : decode cX9_lead 19 = .ok (.iaload, 1) := by decide +kernel
theorem dX9_lead_20 : decode cX9_lead 20 = .ok (.iconst 1, 1) := by decide +kernel
theorem dX9_lead_21 : decode cX9_lead 21 = .ok (.isub, 1) := by decide +kernel
theorem dX9_lead_22 : decode cX9_lead 22 = .ok (.invokestatic 50, 3) := by decide +kernel
theorem dX9_lead_25 : decode cX9_lead 25 = .ok (.ifCond .eq 36, 3) := by decide +kernel
theorem dX9_lead_28 : decode cX9_lead 28 = .ok (.iload_n 3, 1) := by decide +kernel
theorem dX9_lead_29 : decode cX9_lead 29 = .ok (.iconst 0, 1) := by decide +kernel
theorem dX9_lead_30 : decode cX9_lead 30 = .ok (.aload_n 0, 1) := by decide +kernel
theorem dX9_lead_31 : decode cX9_lead 31 = .ok (.getfield 22, 3) := by decide +kernel
theorem dX9_lead_34 : decode cX9_lead 34 = .ok (.iload_n 1, 1) := by decide +kernel
theorem dX9_lead_35 : decode cX9_lead 35 = .ok (.iaload, 1) := by decide +kernel
theorem dX9_lead_36 : decode cX9_lead 36 = .ok (.iconst 1, 1) := by decide +kernel
theorem dX9_lead_37 : decode cX9_lead 37 = .ok (.isub, 1) := by decide +kernel
theorem dX9_lead_38 : decode cX9_lead 38 = .ok (.invokestatic 50, 3) := by decide +kernel
theorem dX9_lead_41 : decode cX9_lead 41 = .ok (.ifCond .eq 20, 3) := by decide +kernel
theorem dX9_lead_44 : decode cX9_lead 44 = .ok (.iload 4, 2) := by decide +kernel
theorem dX9_lead_46 : decode cX9_lead 46 = .ok (.iconst 0, 1) := by decide +kernel
theorem dX9_lead_47 : decode cX9_lead 47 = .ok (.aload_n 0, 1) := by decide +kernel
theorem dX9_lead_48 : decode cX9_lead 48 = .ok (.getfield 19, 3) := by decide +kernel
theorem dX9_lead_51 : decode cX9_lead 51 = .ok (.iload_n 1, 1) := by decide +kernel
theorem dX9_lead_52 : decode cX9_lead 52 = .ok (.iaload, 1) := by decide +kernel
theorem dX9_lead_53 : decode cX9_lead 53 = .ok (.iconst 1, 1) := by decide +kernel
theorem dX9_lead_54 : decode cX9_lead 54 = .ok (.isub, 1) := by decide +kernel
theorem dX9_lead_55 : decode cX9_lead 55 = .ok (.invokestatic 50, 3) := by decide +kernel
theorem dX9_lead_58 : decode cX9_lead 58 = .ok (.ifCond .ne 5, 3) := by decide +kernel
theorem dX9_lead_61 : decode cX9_lead 61 = .ok (.iconst 0, 1) := by decide +kernel
theorem dX9_lead_62 : decode cX9_lead 62 = .ok (.ireturn, 1) := by decide +kernel
theorem dX9_lead_63 : decode cX9_lead 63 = .ok (.aload_n 0, 1) := by decide +kernel
theorem dX9_lead_64 : decode cX9_lead 64 = .ok (.getfield 25, 3) := by decide +kernel
theorem dX9_lead_67 : decode cX9_lead 67 = .ok (.bipush 32, 2) := by decide +kernel
theorem dX9_lead_69 : decode cX9_lead 69 = .ok (.iload_n 1, 1) := by decide +kernel
theorem dX9_lead_70 : decode cX9_lead 70 = .ok (.imul, 1) := by decide +kernel
theorem dX9_lead_71 : decode cX9_lead 71 = .ok (.iconst 4, 1) := by decide +kernel
theorem dX9_lead_72 : decode cX9_lead 72 = .ok (.iload_n 2, 1) := by decide +kernel
theorem dX9_lead_73 : decode cX9_lead 73 = .ok (.imul, 1) := by decide +kernel
theorem dX9_lead_74 : decode cX9_lead 74 = .ok (.iadd, 1) := by decide +kernel
theorem dX9_lead_75 : decode cX9_lead 75 = .ok (.iload_n 3, 1) := by decide +kernel
theorem dX9_lead_76 : decode cX9_lead 76 = .ok (.iadd, 1) := by decide +kernel
theorem dX9_lead_77 : decode cX9_lead 77 = .ok (.iload 4, 2) := by decide +kernel
theorem dX9_lead_79 : decode cX9_lead 79 = .ok (.iastore, 1) := by decide +kernel
theorem dX9_lead_80 : decode cX9_lead 80 = .ok (.iconst 1, 1) := by decide +kernel
theorem dX9_lead_81 : decode cX9_lead 81 = .ok (.ireturn, 1) := by decide +kernel
set_option maxRecDepth 20000 in
theorem ggX9_isSet_X9_in : GoodIn wsX9_isSet wsX9_in := goodIn_r _ [5] rfl (by decide +kernel)
set_option maxRecDepth 20000 in
theorem gX9_isSet_X9_in : GoodIn wsX9_isSet (va_wsS RX9 50 yX9_in wsX9_in) := goodIn_app (goodIn_of _ (by decide +kernel)) ggX9_isSet_X9_in
theorem dX9_isSet_0 : decode cX9_isSet 0 = .ok (.iload_n 2, 1) := by decide +kernel
theorem dX9_isSet_1 : decode cX9_isSet 1 = .ok (.iconst 1, 1) := by decide +kernel
theorem dX9_isSet_2 : decode cX9_isSet 2 = .ok (.iconst 1, 1) := by decide +kernel
theorem dX9_isSet_3 : decode cX9_isSet 3 = .ok (.aload_n 0, 1) := by decide +kernel
theorem dX9_isSet_4 : decode cX9_isSet 4 = .ok (.getfield 19, 3) := by decide +kernel
theorem dX9_isSet_7 : decode cX9_isSet 7 = .ok (.iload_n 1, 1) := by decide +kernel
theorem dX9_isSet_8 : decode cX9_isSet 8 = .ok (.iaload, 1) := by decide +kernel
theorem dX9_isSet_9 : decode cX9_isSet 9 = .ok (.ishl, 1) := by decide +kernel
theorem dX9_isSet_10 : decode cX9_isSet 10 = .ok (.iconst 1, 1) := by decide +kernel
theorem dX9_isSet_11 : decode cX9_isSet 11 = .ok (.isub, 1) := by decide +kernel
theorem dX9_isSet_12 : decode cX9_isSet 12 = .ok (.invokestatic 50, 3) := by decide +kernel
theorem dX9_isSet_15 : decode cX9_isSet 15 = .ok (.ireturn, 1) := by decide +kernel
set_option maxRecDepth 20000 in
theorem ggX9_maybe_X9_isBox : GoodIn wsX9_maybe wsX9_isBox := goodIn_r _ [6, 7, 8, 5, 9] rfl (by decide +kernel)
set_option maxRecDepth 20000 in
theorem gX9_maybe_X9_isBox : GoodIn wsX9_maybe (va_wsS RX9 156 yX9_isBox wsX9_isBox) := goodIn_app (goodIn_of _ (by decide +kernel)) ggX9_maybe_X9_isBox
set_option maxRecDepth 20000 in
theorem ggX9_maybe_X9_isSet : GoodIn wsX9_maybe wsX9_isSet := goodIn_r _ [13, 14, 7, 8, 5, 9, 15, 16, 17, 18, 19, 20, 21, 22, 23, 24, 25, 26, 27, 28, 29, 30, 31] rfl (by decide +kernel)
set_option maxRecDepth 20000 in
theorem gX9_maybe_X9_isSet : GoodIn wsX9_maybe (wsV RX9 159 RX9 yX9_isSet wsX9_isSet) := goodIn_app (goodIn_of _ (by decide +kernel)) ggX9_maybe_X9_isSet
theorem dX9_maybe_0 : decode cX9_maybe 0 = .ok (.aload_n 0, 1) := by decide +kernel
theorem dX9_maybe_1 : decode cX9_maybe 1 = .ok (.iconst 0, 1) := by decide +kernel
theorem dX9_maybe_2 : decode cX9_maybe 2 = .ok (.putfield 43, 3) := by decide +kernel
theorem dX9_maybe_5 : decode cX9_maybe 5 = .ok (.iload_n 1, 1) := by decide +kernel
theorem dX9_maybe_6 : decode cX9_maybe 6 = .ok (.invokestatic 156, 3) := by decide +kernel
theorem dX9_maybe_9 : decode cX9_maybe 9 = .ok (.ifCond .eq 12, 3) := by decide +kernel
theorem dX9_maybe_12 : decode cX9_maybe 12 = .ok (.aload_n 0, 1) := by decide +kernel
theorem dX9_maybe_13 : decode cX9_maybe 13 = .ok (.iload_n 1, 1) := by decide +kernel
theorem dX9_maybe_14 : decode cX9_maybe 14 = .ok (.iload_n 2, 1) := by decide +kernel
theorem dX9_maybe_15 : decode cX9_maybe 15 = .ok (.invokevirtual 159, 3) := by decide +kernel
theorem dX9_maybe_18 : decode cX9_maybe 18 = .ok (.ifCond .ne 5, 3) := by decide +kernel
theorem dX9_maybe_21 : decode cX9_maybe 21 = .ok (.iconst 0, 1) := by decide +kernel
theorem dX9_maybe_22 : decode cX9_maybe 22 = .ok (.ireturn, 1) := by decide +kernel
theorem dX9_maybe_23 : decode cX9_maybe 23 = .ok (.aload_n 0, 1) := by decide +kernel
theorem dX9_maybe_24 : decode cX9_maybe 24 = .ok (.getfield 28, 3) := by decide +kernel
theorem dX9_maybe_27 : decode cX9_maybe 27 = .ok (.iload_n 1, 1) := by decide +kernel
theorem dX9_maybe_28 : decode cX9_maybe 28 = .ok (.iload_n 2, 1) := by decide +kernel
theorem dX9_maybe_29 : decode cX9_maybe 29 = .ok (.iastore, 1) := by decide +kernel
theorem dX9_maybe_30 : decode cX9_maybe 30 = .ok (.iconst 1, 1) := by decide +kernel
theorem dX9_maybe_31 : decode cX9_maybe 31 = .ok (.ireturn, 1) := by decide +kernel
theorem dX9_behind_0 : decode cX9_behind 0 = .ok (.iconst 0, 1) := by decide +kernel
theorem dX9_behind_1 : decode cX9_behind 1 = .ok (.istore 4, 2) := by decide +kernel
theorem dX9_behind_3 : decode cX9_behind 3 = .ok (.iconst 0, 1) := by decide +kernel
theorem dX9_behind_4 : decode cX9_behind 4 = .ok (.istore 5, 2) := by decide +kernel
theorem dX9_behind_6 : decode cX9_behind 6 = .ok (.iload 5, 2) := by decide +kernel
theorem dX9_behind_8 : decode cX9_behind 8 = .ok (.aload_n 0, 1) := by decide +kernel
theorem dX9_behind_9 : decode cX9_behind 9 = .ok (.getfield 19, 3) := by decide +kernel
theorem dX9_behind_12 : decode cX9_behind 12 = .ok (.iload_n 1, 1) := by decide +kernel
theorem dX9_behind_13 : decode cX9_behind 13 = .ok (.iaload, 1) := by decide +kernel
theorem dX9_behind_14 : decode cX9_behind 14 = .ok (.if_icmp .ge 42, 3) := by decide +kernel
theorem dX9_behind_17 : decode cX9_behind 17 = .ok (.iload_n 2, 1) := by decide +kernel
theorem dX9_behind_18 : decode cX9_behind 18 = .ok (.iload 5, 2) := by decide +kernel
theorem dX9_behind_20 : decode cX9_behind 20 = .ok (.ishr, 1) := by decide +kernel
theorem dX9_behind_21 : decode cX9_behind 21 = .ok (.iconst 1, 1) := by decide +kernel
theorem dX9_behind_22 : decode cX9_behind 22 = .ok (.iand, 1) := by decide +kernel
theorem dX9_behind_23 : decode cX9_behind 23 = .ok (.iconst 1, 1) := by decide +kernel
theorem dX9_behind_24 : decode cX9_behind 24 = .ok (.if_icmp .ne 26, 3) := by decide +kernel
theorem dX9_behind_27 : decode cX9_behind 27 = .ok (.iload 4, 2) := by decide +kernel
theorem dX9_behind_29 : decode cX9_behind 29 = .ok (.iconst 1, 1) := by decide +kernel
theorem dX9_behind_30 : decode cX9_behind 30 = .ok (.aload_n 0, 1) := by decide +kernel
theorem dX9_behind_31 : decode cX9_behind 31 = .ok (.getfield 25, 3) := by decide +kernel
theorem dX9_behind_34 : decode cX9_behind 34 = .ok (.bipush 32, 2) := by decide +kernel
theorem dX9_behind_36 : decode cX9_behind 36 = .ok (.iload_n 1, 1) := by decide +kernel
theorem dX9_behind_37 : decode cX9_behind 37 = .ok (.imul, 1) := by decide +kernel
theorem dX9_behind_38 : decode cX9_behind 38 = .ok (.iconst 4, 1) := by decide +kernel
theorem dX9_behind_39 : decode cX9_behind 39 = .ok (.iload 5, 2) := by decide +kernel
theorem dX9_behind_41 : decode cX9_behind 41 = .ok (.imul, 1) := by decide +kernel
theorem dX9_behind_42 : decode cX9_behind 42 = .ok (.iadd, 1) := by decide +kernel
theorem dX9_behind_43 : decode cX9_behind 43 = .ok (.iload_n 3, 1) := by decide +kernel
theorem dX9_behind_44 : decode cX9_behind 44 = .ok (.iadd, 1) := by decide +kernel
theorem dX9_behind_45 : decode cX9_behind 45 = .ok (.iaload, 1) := by decide +kernel
theorem dX9_behind_46 : decode cX9_behind 46 = .ok (.ishl, 1) := by decide +kernel
theorem dX9_behind_47 : decode cX9_behind 47 = .ok (.ior, 1) := by decide +kernel
theorem dX9_behind_48 : decode cX9_behind 48 = .ok (.istore 4, 2) := by decide +kernel
theorem dX9_behind_50 : decode cX9_behind 50 = .ok (.iinc 5 1, 3) := by decide +kernel
theorem dX9_behind_53 : decode cX9_behind 53 = .ok (.goto (-47), 3) := by decide +kernel
theorem dX9_behind_56 : decode cX9_behind 56 = .ok (.iload 4, 2) := by decide +kernel
theorem dX9_behind_58 : decode cX9_behind 58 = .ok (.ireturn, 1) := by decide +kernel
set_option maxRecDepth 20000 in
theorem ggX9_push_X9_isBox : GoodIn wsX9_push wsX9_isBox := goodIn_r _ [7, 8, 9, 6, 10] rfl (by decide +kernel)
set_option maxRecDepth 20000 in
theorem gX9_push_X9_isBox : GoodIn wsX9_push (va_wsS RX9 156 yX9_isBox wsX9_isBox) := goodIn_app (goodIn_of _ (by decide +kernel)) ggX9_push_X9_isBox
set_option maxRecDepth 20000 in
theorem ggX9_push_X9_in : GoodIn wsX9_push wsX9_in := goodIn_r _ [10] rfl (by decide +kernel)
set_option maxRecDepth 20000 in
theorem gX9_push_X9_in : GoodIn wsX9_push (va_wsS RX9 50 yX9_in wsX9_in) := goodIn_app (goodIn_of _ (by decide +kernel)) ggX9_push_X9_in
set_option maxRecDepth 20000 in
theorem ggX9_push_X9_behind : GoodIn wsX9_push wsX9_behind := goodIn_r _ [14, 15, 16, 17, 18, 19, 20, 21, 22, 23, 24, 25, 26, 27, 28, 29, 30, 31, 32, 33] rfl (by decide +kernel)
set_option maxRecDepth 20000 in
theorem gX9_push_X9_behind : GoodIn wsX9_push (wsV RX9 162 RX9 yX9_behind wsX9_behind) := goodIn_app (goodIn_of _ (by decide +kernel)) ggX9_push_X9_behind
theorem dX9_push_0 : decode cX9_push 0 = .ok (.aload_n 0, 1) := by decide +kernel
theorem dX9_push_1 : decode cX9_push 1 = .ok (.iconst 0, 1) := by decide +kernel
theorem dX9_push_2 : decode cX9_push 2 = .ok (.putfield 43, 3) := by decide +kernel
theorem dX9_push_5 : decode cX9_push 5 = .ok (.iload_n 1, 1) := by decide +kernel
theorem dX9_push_6 : decode cX9_push 6 = .ok (.invokestatic 156, 3) := by decide +kernel
theorem dX9_push_9 : decode cX9_push 9 = .ok (.ifCond .eq 19, 3) := by decide +kernel
theorem dX9_push_12 : decode cX9_push 12 = .ok (.iload_n 2, 1) := by decide +kernel
theorem dX9_push_13 : decode cX9_push 13 = .ok (.iconst 0, 1) := by decide +kernel
theorem dX9_push_14 : decode cX9_push 14 = .ok (.aload_n 0, 1) := by decide +kernel
theorem dX9_push_15 : decode cX9_push 15 = .ok (.getfield 22, 3) := by decide +kernel
theorem dX9_push_18 : decode cX9_push 18 = .ok (.iload_n 1, 1) := by decide +kernel
theorem dX9_push_19 : decode cX9_push 19 = .ok (.iaload, 1) := by decide +kernel
theorem dX9_push_20 : decode cX9_push 20 = .ok (.iconst 1, 1) := by decide +kernel
theorem dX9_push_21 : decode cX9_push 21 = .ok (.isub, 1) := by decide +kernel
theorem dX9_push_22 : decode cX9_push 22 = .ok (.invokestatic 50, 3) := by decide +kernel
theorem dX9_push_25 : decode cX9_push 25 = .ok (.ifCond .ne 5, 3) := by decide +kernel
theorem dX9_push_28 : decode cX9_push 28 = .ok (.iconst (-1), 1) := by decide +kernel
theorem dX9_push_29 : decode cX9_push 29 = .ok (.ireturn, 1) := by decide +kernel
theorem dX9_push_30 : decode cX9_push 30 = .ok (.aload_n 0, 1) := by decide +kernel
theorem dX9_push_31 : decode cX9_push 31 = .ok (.getfield 28, 3) := by decide +kernel
theorem dX9_push_34 : decode cX9_push 34 = .ok (.iload_n 1, 1) := by decide +kernel
theorem dX9_push_35 : decode cX9_push 35 = .ok (.aload_n 0, 1) := by decide +kernel
theorem dX9_push_36 : decode cX9_push 36 = .ok (.iload_n 1, 1) := by decide +kernel
theorem dX9_push_37 : decode cX9_push 37 = .ok (.aload_n 0, 1) := by decide +kernel
theorem dX9_push_38 : decode cX9_push 38 = .ok (.getfield 28, 3) := by decide +kernel
theorem dX9_push_41 : decode cX9_push 41 = .ok (.iload_n 1, 1) := by decide +kernel
theorem dX9_push_42 : decode cX9_push 42 = .ok (.iaload, 1) := by decide +kernel
theorem dX9_push_43 : decode cX9_push 43 = .ok (.iload_n 2, 1) := by decide +kernel
theorem dX9_push_44 : decode cX9_push 44 = .ok (.invokevirtual 162, 3) := by decide +kernel
theorem dX9_push_47 : decode cX9_push 47 = .ok (.iastore, 1) := by decide +kernel
theorem dX9_push_48 : decode cX9_push 48 = .ok (.aload_n 0, 1) := by decide +kernel
theorem dX9_push_49 : decode cX9_push 49 = .ok (.getfield 28, 3) := by decide +kernel
theorem dX9_push_52 : decode cX9_push 52 = .ok (.iload_n 1, 1) := by decide +kernel
theorem dX9_push_53 : decode cX9_push 53 = .ok (.iaload, 1) := by decide +kernel
theorem dX9_push_54 : decode cX9_push 54 = .ok (.ireturn, 1) := by decide +kernel
set_option maxRecDepth 20000 in
theorem ggX9_way_X9_isBox : GoodIn wsX9_way wsX9_isBox := goodIn_r _ [10, 11, 12, 9, 13] rfl (by decide +kernel)
set_option maxRecDepth 20000 in
theorem gX9_way_X9_isBox : GoodIn wsX9_way (va_wsS RX9 156 yX9_isBox wsX9_isBox) := goodIn_app (goodIn_of _ (by decide +kernel)) ggX9_way_X9_isBox
set_option maxRecDepth 20000 in
theorem ggX9_way_X9_isSet : GoodIn wsX9_way wsX9_isSet := goodIn_r _ [17, 18, 11, 12, 9, 13, 30, 31, 32, 33, 34, 35, 36, 37, 38, 39, 40, 41, 42, 43, 44, 45, 46] rfl (by decide +kernel)
set_option maxRecDepth 20000 in
theorem gX9_way_X9_isSet : GoodIn wsX9_way (wsV RX9 159 RX9 yX9_isSet wsX9_isSet) := goodIn_app (goodIn_of _ (by decide +kernel)) ggX9_way_X9_isSet
set_option maxRecDepth 20000 in
theorem ggX9_way_X9_tell : GoodIn wsX9_way wsX9_tell := goodIn_r _ [22, 4, 2, 23, 24, 6, 30, 31, 32, 33, 34, 35, 36, 37, 38, 39, 40, 41, 42, 43, 44, 45, 46] rfl (by decide +kernel)
set_option maxRecDepth 20000 in
theorem gX9_way_X9_tell : GoodIn wsX9_way (wsV RX9 165 RX9 yX9_tell wsX9_tell) := goodIn_app (goodIn_of _ (by decide +kernel)) ggX9_way_X9_tell
set_option maxRecDepth 20000 in
theorem ggX9_way_X9_behind : GoodIn wsX9_way wsX9_behind := goodIn_r _ [28, 18, 29, 30, 31, 32, 33, 34, 35, 36, 37, 38, 39, 40, 41, 42, 43, 44, 45, 46] rfl (by decide +kernel)
set_option maxRecDepth 20000 in
theorem gX9_way_X9_behind : GoodIn wsX9_way (wsV RX9 162 RX9 yX9_behind wsX9_behind) := goodIn_app (goodIn_of _ (by decide +kernel)) ggX9_way_X9_behind
theorem dX9_way_0 : decode cX9_way 0 = .ok (.aload_n 0, 1) := by decide +kernel
theorem dX9_way_1 : decode cX9_way 1 = .ok (.iconst 0, 1) := by decide +kernel
theorem dX9_way_2 : decode cX9_way 2 = .ok (.putfield 43, 3) := by decide +kernel
theorem dX9_way_5 : decode cX9_way 5 = .ok (.iload_n 1, 1) := by decide +kernel
theorem dX9_way_6 : decode cX9_way 6 = .ok (.invokestatic 156, 3) := by decide +kernel
theorem dX9_way_9 : decode cX9_way 9 = .ok (.ifCond .eq 12, 3) := by decide +kernel
theorem dX9_way_12 : decode cX9_way 12 = .ok (.aload_n 0, 1) := by decide +kernel
theorem dX9_way_13 : decode cX9_way 13 = .ok (.iload_n 1, 1) := by decide +kernel
theorem dX9_way_14 : decode cX9_way 14 = .ok (.iload_n 2, 1) := by decide +kernel
theorem dX9_way_15 : decode cX9_way 15 = .ok (.invokevirtual 159, 3) := by decide +kernel
theorem dX9_way_18 : decode cX9_way 18 = .ok (.ifCond .ne 5, 3) := by decide +kernel
theorem dX9_way_21 : decode cX9_way 21 = .ok (.iconst (-1), 1) := by decide +kernel
theorem dX9_way_22 : decode cX9_way 22 = .ok (.ireturn, 1) := by decide +kernel
theorem dX9_way_23 : decode cX9_way 23 = .ok (.iconst 0, 1) := by decide +kernel
theorem dX9_way_24 : decode cX9_way 24 = .ok (.istore_n 3, 1) := by decide +kernel
theorem dX9_way_25 : decode cX9_way 25 = .ok (.iload_n 3, 1) := by decide +kernel
theorem dX9_way_26 : decode cX9_way 26 = .ok (.sipush 256, 3) := by decide +kernel
theorem dX9_way_29 : decode cX9_way 29 = .ok (.if_icmp .ge 16, 3) := by decide +kernel
theorem dX9_way_32 : decode cX9_way 32 = .ok (.aload_n 0, 1) := by decide +kernel
theorem dX9_way_33 : decode cX9_way 33 = .ok (.getfield 37, 3) := by decide +kernel
theorem dX9_way_36 : decode cX9_way 36 = .ok (.iload_n 3, 1) := by decide +kernel
theorem dX9_way_37 : decode cX9_way 37 = .ok (.iconst (-1), 1) := by decide +kernel
theorem dX9_way_38 : decode cX9_way 38 = .ok (.iastore, 1) := by decide +kernel
theorem dX9_way_39 : decode cX9_way 39 = .ok (.iinc 3 1, 3) := by decide +kernel
theorem dX9_way_42 : decode cX9_way 42 = .ok (.goto (-17), 3) := by decide +kernel
theorem dX9_way_45 : decode cX9_way 45 = .ok (.aload_n 0, 1) := by decide +kernel
theorem dX9_way_46 : decode cX9_way 46 = .ok (.getfield 34, 3) := by decide +kernel
theorem dX9_way_49 : decode cX9_way 49 = .ok (.iconst 0, 1) := by decide +kernel
theorem dX9_way_50 : decode cX9_way 50 = .ok (.aload_n 0, 1) := by decide +kernel
theorem dX9_way_51 : decode cX9_way 51 = .ok (.getfield 28, 3) := by decide +kernel
theorem dX9_way_54 : decode cX9_way 54 = .ok (.iload_n 1, 1) := by decide +kernel
theorem dX9_way_55 : decode cX9_way 55 = .ok (.iaload, 1) := by decide +kernel
theorem dX9_way_56 : decode cX9_way 56 = .ok (.iastore, 1) := by decide +kernel
theorem dX9_way_57 : decode cX9_way 57 = .ok (.aload_n 0, 1) := by decide +kernel
theorem dX9_way_58 : decode cX9_way 58 = .ok (.getfield 37, 3) := by decide +kernel
theorem dX9_way_61 : decode cX9_way 61 = .ok (.aload_n 0, 1) := by decide +kernel
theorem dX9_way_62 : decode cX9_way 62 = .ok (.getfield 28, 3) := by decide +kernel
theorem dX9_way_65 : decode cX9_way 65 = .ok (.iload_n 1, 1) := by decide +kernel
theorem dX9_way_66 : decode cX9_way 66 = .ok (.iaload, 1) := by decide +kernel
theorem dX9_way_67 : decode cX9_way 67 = .ok (.aload_n 0, 1) := by decide +kernel
theorem dX9_way_68 : decode cX9_way 68 = .ok (.getfield 28, 3) := by decide +kernel
theorem dX9_way_71 : decode cX9_way 71 = .ok (.iload_n 1, 1) := by decide +kernel
theorem dX9_way_72 : decode cX9_way 72 = .ok (.iaload, 1) := by decide +kernel
theorem dX9_way_73 : decode cX9_way 73 = .ok (.iastore, 1) := by decide +kernel
theorem dX9_way_74 : decode cX9_way 74 = .ok (.iconst 1, 1) := by decide +kernel
theorem dX9_way_75 : decode cX9_way 75 = .ok (.istore_n 3, 1) := by decide +kernel
theorem dX9_way_76 : decode cX9_way 76 = .ok (.iconst 0, 1) := by decide +kernel
theorem dX9_way_77 : decode cX9_way 77 = .ok (.istore 4, 2) := by decide +kernel
theorem dX9_way_79 : decode cX9_way 79 = .ok (.iload 4, 2) := by decide +kernel
theorem dX9_way_81 : decode cX9_way 81 = .ok (.iload_n 3, 1) := by decide +kernel
theorem dX9_way_82 : decode cX9_way 82 = .ok (.if_icmp .ge 109, 3) := by decide +kernel
theorem dX9_way_85 : decode cX9_way 85 = .ok (.aload_n 0, 1) := by decide +kernel
theorem dX9_way_86 : decode cX9_way 86 = .ok (.getfield 34, 3) := by decide +kernel
theorem dX9_way_89 : decode cX9_way 89 = .ok (.iload 4, 2) := by decide +kernel
theorem dX9_way_91 : decode cX9_way 91 = .ok (.iaload, 1) := by decide +kernel
theorem dX9_way_92 : decode cX9_way 92 = .ok (.istore 5, 2) := by decide +kernel
theorem dX9_way_94 : decode cX9_way 94 = .ok (.iload 5, 2) := by decide +kernel
theorem dX9_way_96 : decode cX9_way 96 = .ok (.iload_n 2, 1) := by decide +kernel
theorem dX9_way_97 : decode cX9_way 97 = .ok (.iconst (-1), 1) := by decide +kernel
theorem dX9_way_98 : decode cX9_way 98 = .ok (.ixor, 1) := by decide +kernel
theorem dX9_way_99 : decode cX9_way 99 = .ok (.iand, 1) := by decide +kernel
theorem dX9_way_100 : decode cX9_way 100 = .ok (.ifCond .ne 11, 3) := by decide +kernel
theorem dX9_way_103 : decode cX9_way 103 = .ok (.aload_n 0, 1) := by decide +kernel
theorem dX9_way_104 : decode cX9_way 104 = .ok (.iload_n 1, 1) := by decide +kernel
theorem dX9_way_105 : decode cX9_way 105 = .ok (.iload 5, 2) := by decide +kernel
theorem dX9_way_107 : decode cX9_way 107 = .ok (.invokevirtual 165, 3) := by decide +kernel
theorem dX9_way_110 : decode cX9_way 110 = .ok (.ireturn, 1) := by decide +kernel
theorem dX9_way_111 : decode cX9_way 111 = .ok (.iconst 0, 1) := by decide +kernel
theorem dX9_way_112 : decode cX9_way 112 = .ok (.istore 6, 2) := by decide +kernel
theorem dX9_way_114 : decode cX9_way 114 = .ok (.iload 6, 2) := by decide +kernel
theorem dX9_way_116 : decode cX9_way 116 = .ok (.aload_n 0, 1) := by decide +kernel
theorem dX9_way_117 : decode cX9_way 117 = .ok (.getfield 22, 3) := by decide +kernel
theorem dX9_way_120 : decode cX9_way 120 = .ok (.iload_n 1, 1) := by decide +kernel
theorem dX9_way_121 : decode cX9_way 121 = .ok (.iaload, 1) := by decide +kernel
theorem dX9_way_122 : decode cX9_way 122 = .ok (.if_icmp .ge 63, 3) := by decide +kernel
theorem dX9_way_125 : decode cX9_way 125 = .ok (.aload_n 0, 1) := by decide +kernel
theorem dX9_way_126 : decode cX9_way 126 = .ok (.iload_n 1, 1) := by decide +kernel
theorem dX9_way_127 : decode cX9_way 127 = .ok (.iload 5, 2) := by decide +kernel
theorem dX9_way_129 : decode cX9_way 129 = .ok (.iload 6, 2) := by decide +kernel
theorem dX9_way_131 : decode cX9_way 131 = .ok (.invokevirtual 162, 3) := by decide +kernel
theorem dX9_way_134 : decode cX9_way 134 = .ok (.istore 7, 2) := by decide +kernel
theorem dX9_way_136 : decode cX9_way 136 = .ok (.aload_n 0, 1) := by decide +kernel
theorem dX9_way_137 : decode cX9_way 137 = .ok (.getfield 37, 3) := by decide +kernel
theorem dX9_way_140 : decode cX9_way 140 = .ok (.iload 7, 2) := by decide +kernel
theorem dX9_way_142 : decode cX9_way 142 = .ok (.iaload, 1) := by decide +kernel
theorem dX9_way_143 : decode cX9_way 143 = .ok (.iconst (-1), 1) := by decide +kernel
theorem dX9_way_144 : decode cX9_way 144 = .ok (.if_icmp .eq 6, 3) := by decide +kernel
theorem dX9_way_147 : decode cX9_way 147 = .ok (.goto 32, 3) := by decide +kernel
theorem dX9_way_150 : decode cX9_way 150 = .ok (.aload_n 0, 1) := by decide +kernel
theorem dX9_way_151 : decode cX9_way 151 = .ok (.getfield 37, 3) := by decide +kernel
theorem dX9_way_154 : decode cX9_way 154 = .ok (.iload 7, 2) := by decide +kernel
theorem dX9_way_156 : decode cX9_way 156 = .ok (.iload 5, 2) := by decide +kernel
theorem dX9_way_158 : decode cX9_way 158 = .ok (.iastore, 1) := by decide +kernel
theorem dX9_way_159 : decode cX9_way 159 = .ok (.aload_n 0, 1) := by decide +kernel
theorem dX9_way_160 : decode cX9_way 160 = .ok (.getfield 40, 3) := by decide +kernel
theorem dX9_way_163 : decode cX9_way 163 = .ok (.iload 7, 2) := by decide +kernel
theorem dX9_way_165 : decode cX9_way 165 = .ok (.iload 6, 2) := by decide +kernel
theorem dX9_way_167 : decode cX9_way 167 = .ok (.iastore, 1) := by decide +kernel
theorem dX9_way_168 : decode cX9_way 168 = .ok (.aload_n 0, 1) := by decide +kernel
theorem dX9_way_169 : decode cX9_way 169 = .ok (.getfield 34, 3) := by decide +kernel
theorem dX9_way_172 : decode cX9_way 172 = .ok (.iload_n 3, 1) := by decide +kernel
theorem dX9_way_173 : decode cX9_way 173 = .ok (.iload 7, 2) := by decide +kernel
theorem dX9_way_175 : decode cX9_way 175 = .ok (.iastore, 1) := by decide +kernel
theorem dX9_way_176 : decode cX9_way 176 = .ok (.iinc 3 1, 3) := by decide +kernel
theorem dX9_way_179 : decode cX9_way 179 = .ok (.iinc 6 1, 3) := by decide +kernel
theorem dX9_way_182 : decode cX9_way 182 = .ok (.goto (-68), 3) := by decide +kernel
theorem dX9_way_185 : decode cX9_way 185 = .ok (.iinc 4 1, 3) := by decide +kernel
theorem dX9_way_188 : decode cX9_way 188 = .ok (.goto (-109), 3) := by decide +kernel
theorem dX9_way_191 : decode cX9_way 191 = .ok (.bipush (-2), 2) := by decide +kernel
theorem dX9_way_193 : decode cX9_way 193 = .ok (.ireturn, 1) := by decide +kernel
theorem dX9_tell_0 : decode cX9_tell 0 = .ok (.iconst 0, 1) := by decide +kernel
theorem dX9_tell_1 : decode cX9_tell 1 = .ok (.istore_n 3, 1) := by decide +kernel
theorem dX9_tell_2 : decode cX9_tell 2 = .ok (.iload_n 2, 1) := by decide +kernel
theorem dX9_tell_3 : decode cX9_tell 3 = .ok (.istore 4, 2) := by decide +kernel
theorem dX9_tell_5 : decode cX9_tell 5 = .ok (.iload 4, 2) := by decide +kernel
theorem dX9_tell_7 : decode cX9_tell 7 = .ok (.aload_n 0, 1) := by decide +kernel
theorem dX9_tell_8 : decode cX9_tell 8 = .ok (.getfield 28, 3) := by decide +kernel
theorem dX9_tell_11 : decode cX9_tell 11 = .ok (.iload_n 1, 1) := by decide +kernel
theorem dX9_tell_12 : decode cX9_tell 12 = .ok (.iaload, 1) := by decide +kernel
theorem dX9_tell_13 : decode cX9_tell 13 = .ok (.if_icmp .eq 18, 3) := by decide +kernel
theorem dX9_tell_16 : decode cX9_tell 16 = .ok (.iinc 3 1, 3) := by decide +kernel
theorem dX9_tell_19 : decode cX9_tell 19 = .ok (.aload_n 0, 1) := by decide +kernel
theorem dX9_tell_20 : decode cX9_tell 20 = .ok (.getfield 37, 3) := by decide +kernel
theorem dX9_tell_23 : decode cX9_tell 23 = .ok (.iload 4, 2) := by decide +kernel
theorem dX9_tell_25 : decode cX9_tell 25 = .ok (.iaload, 1) := by decide +kernel
theorem dX9_tell_26 : decode cX9_tell 26 = .ok (.istore 4, 2) := by decide +kernel
theorem dX9_tell_28 : decode cX9_tell 28 = .ok (.goto (-23), 3) := by decide +kernel
theorem dX9_tell_31 : decode cX9_tell 31 = .ok (.aload_n 0, 1) := by decide +kernel
theorem dX9_tell_32 : decode cX9_tell 32 = .ok (.iload_n 3, 1) := by decide +kernel
theorem dX9_tell_33 : decode cX9_tell 33 = .ok (.putfield 168, 3) := by decide +kernel
theorem dX9_tell_36 : decode cX9_tell 36 = .ok (.iload_n 2, 1) := by decide +kernel
theorem dX9_tell_37 : decode cX9_tell 37 = .ok (.istore 4, 2) := by decide +kernel
theorem dX9_tell_39 : decode cX9_tell 39 = .ok (.iload 4, 2) := by decide +kernel
theorem dX9_tell_41 : decode cX9_tell 41 = .ok (.aload_n 0, 1) := by decide +kernel
theorem dX9_tell_42 : decode cX9_tell 42 = .ok (.getfield 28, 3) := by decide +kernel
theorem dX9_tell_45 : decode cX9_tell 45 = .ok (.iload_n 1, 1) := by decide +kernel
theorem dX9_tell_46 : decode cX9_tell 46 = .ok (.iaload, 1) := by decide +kernel
theorem dX9_tell_47 : decode cX9_tell 47 = .ok (.if_icmp .eq 31, 3) := by decide +kernel
theorem dX9_tell_50 : decode cX9_tell 50 = .ok (.iinc 3 (-1), 3) := by decide +kernel
theorem dX9_tell_53 : decode cX9_tell 53 = .ok (.aload_n 0, 1) := by decide +kernel
theorem dX9_tell_54 : decode cX9_tell 54 = .ok (.getfield 31, 3) := by decide +kernel
theorem dX9_tell_57 : decode cX9_tell 57 = .ok (.iload_n 3, 1) := by decide +kernel
theorem dX9_tell_58 : decode cX9_tell 58 = .ok (.aload_n 0, 1) := by decide +kernel
theorem dX9_tell_59 : decode cX9_tell 59 = .ok (.getfield 40, 3) := by decide +kernel
theorem dX9_tell_62 : decode cX9_tell 62 = .ok (.iload 4, 2) := by decide +kernel
theorem dX9_tell_64 : decode cX9_tell 64 = .ok (.iaload, 1) := by decide +kernel
theorem dX9_tell_65 : decode cX9_tell 65 = .ok (.iastore, 1) := by decide +kernel
theorem dX9_tell_66 : decode cX9_tell 66 = .ok (.aload_n 0, 1) := by decide +kernel
theorem dX9_tell_67 : decode cX9_tell 67 = .ok (.getfield 37, 3) := by decide +kernel
theorem dX9_tell_70 : decode cX9_tell 70 = .ok (.iload 4, 2) := by decide +kernel
theorem dX9_tell_72 : decode cX9_tell 72 = .ok (.iaload, 1) := by decide +kernel
theorem dX9_tell_73 : decode cX9_tell 73 = .ok (.istore 4, 2) := by decide +kernel
theorem dX9_tell_75 : decode cX9_tell 75 = .ok (.goto (-36), 3) := by decide +kernel
theorem dX9_tell_78 : decode cX9_tell 78 = .ok (.aload_n 0, 1) := by decide +kernel
theorem dX9_tell_79 : decode cX9_tell 79 = .ok (.getfield 168, 3) := by decide +kernel
theorem dX9_tell_82 : decode cX9_tell 82 = .ok (.ireturn, 1) := by decide +kernel
set_option maxRecDepth 20000 in
theorem ggX9_button_X9_in : GoodIn wsX9_button wsX9_in := goodIn_r _ [7] rfl (by decide +kernel)
set_option maxRecDepth 20000 in
theorem gX9_button_X9_in : GoodIn wsX9_button (va_wsS RX9 50 yX9_in wsX9_in) := goodIn_app (goodIn_of _ (by decide +kernel)) ggX9_button_X9_in
theorem dX9_button_0 : decode cX9_button 0 = .ok (.aload_n 0, 1) := by decide +kernel
theorem dX9_button_1 : decode cX9_button 1 = .ok (.iconst 0, 1) := by decide +kernel
theorem dX9_button_2 : decode cX9_button 2 = .ok (.putfield 43, 3) := by decide +kernel
theorem dX9_button_5 : decode cX9_button 5 = .ok (.iload_n 1, 1) := by decide +kernel
theorem dX9_button_6 : decode cX9_button 6 = .ok (.iconst 0, 1) := by decide +kernel
theorem dX9_button_7 : decode cX9_button 7 = .ok (.aload_n 0, 1) := by decide +kernel
theorem dX9_button_8 : decode cX9_button 8 = .ok (.getfield 168, 3) := by decide +kernel
theorem dX9_button_11 : decode cX9_button 11 = .ok (.iconst 1, 1) := by decide +kernel
theorem dX9_button_12 : decode cX9_button 12 = .ok (.isub, 1) := by decide +kernel
theorem dX9_button_13 : decode cX9_button 13 = .ok (.invokestatic 50, 3) := by decide +kernel
theorem dX9_button_16 : decode cX9_button 16 = .ok (.ifCond .eq 12, 3) := by decide +kernel
theorem dX9_button_19 : decode cX9_button 19 = .ok (.aload_n 0, 1) := by decide +kernel
theorem dX9_button_20 : decode cX9_button 20 = .ok (.getfield 31, 3) := by decide +kernel
theorem dX9_button_23 : decode cX9_button 23 = .ok (.iload_n 1, 1) := by decide +kernel
theorem dX9_button_24 : decode cX9_button 24 = .ok (.iaload, 1) := by decide +kernel
theorem dX9_button_25 : decode cX9_button 25 = .ok (.goto 4, 3) := by decide +kernel
theorem dX9_button_28 : decode cX9_button 28 = .ok (.iconst (-1), 1) := by decide +kernel
theorem dX9_button_29 : decode cX9_button 29 = .ok (.ireturn, 1) := by decide +kernel
set_option maxRecDepth 20000 in
theorem ggX9_told_X9_isBox : GoodIn wsX9_told wsX9_isBox := goodIn_r _ [8, 9, 10, 7, 11] rfl (by decide +kernel)
set_option maxRecDepth 20000 in
theorem gX9_told_X9_isBox : GoodIn wsX9_told (va_wsS RX9 156 yX9_isBox wsX9_isBox) := goodIn_app (goodIn_of _ (by decide +kernel)) ggX9_told_X9_isBox
theorem dX9_told_0 : decode cX9_told 0 = .ok (.aload_n 0, 1) := by decide +kernel
theorem dX9_told_1 : decode cX9_told 1 = .ok (.iconst 0, 1) := by decide +kernel
theorem dX9_told_2 : decode cX9_told 2 = .ok (.putfield 43, 3) := by decide +kernel
theorem dX9_told_5 : decode cX9_told 5 = .ok (.iload_n 1, 1) := by decide +kernel
theorem dX9_told_6 : decode cX9_told 6 = .ok (.invokestatic 156, 3) := by decide +kernel
theorem dX9_told_9 : decode cX9_told 9 = .ok (.ifCond .ne 5, 3) := by decide +kernel
theorem dX9_told_12 : decode cX9_told 12 = .ok (.iconst (-1), 1) := by decide +kernel
theorem dX9_told_13 : decode cX9_told 13 = .ok (.ireturn, 1) := by decide +kernel
theorem dX9_told_14 : decode cX9_told 14 = .ok (.iload_n 2, 1) := by decide +kernel
theorem dX9_told_15 : decode cX9_told 15 = .ok (.ifCond .ne 12, 3) := by decide +kernel
theorem dX9_told_18 : decode cX9_told 18 = .ok (.aload_n 0, 1) := by decide +kernel
theorem dX9_told_19 : decode cX9_told 19 = .ok (.getfield 19, 3) := by decide +kernel
theorem dX9_told_22 : decode cX9_told 22 = .ok (.iload_n 1, 1) := by decide +kernel
theorem dX9_told_23 : decode cX9_told 23 = .ok (.iaload, 1) := by decide +kernel
theorem dX9_told_24 : decode cX9_told 24 = .ok (.goto 32, 3) := by decide +kernel
theorem dX9_told_27 : decode cX9_told 27 = .ok (.iload_n 2, 1) := by decide +kernel
theorem dX9_told_28 : decode cX9_told 28 = .ok (.iconst 1, 1) := by decide +kernel
theorem dX9_told_29 : decode cX9_told 29 = .ok (.if_icmp .ne 12, 3) := by decide +kernel
theorem dX9_told_32 : decode cX9_told 32 = .ok (.aload_n 0, 1) := by decide +kernel
theorem dX9_told_33 : decode cX9_told 33 = .ok (.getfield 22, 3) := by decide +kernel
theorem dX9_told_36 : decode cX9_told 36 = .ok (.iload_n 1, 1) := by decide +kernel
theorem dX9_told_37 : decode cX9_told 37 = .ok (.iaload, 1) := by decide +kernel
theorem dX9_told_38 : decode cX9_told 38 = .ok (.goto 18, 3) := by decide +kernel
theorem dX9_told_41 : decode cX9_told 41 = .ok (.iload_n 2, 1) := by decide +kernel
theorem dX9_told_42 : decode cX9_told 42 = .ok (.iconst 2, 1) := by decide +kernel
theorem dX9_told_43 : decode cX9_told 43 = .ok (.if_icmp .ne 12, 3) := by decide +kernel
theorem dX9_told_46 : decode cX9_told 46 = .ok (.aload_n 0, 1) := by decide +kernel
theorem dX9_told_47 : decode cX9_told 47 = .ok (.getfield 28, 3) := by decide +kernel
theorem dX9_told_50 : decode cX9_told 50 = .ok (.iload_n 1, 1) := by decide +kernel
theorem dX9_told_51 : decode cX9_told 51 = .ok (.iaload, 1) := by decide +kernel
theorem dX9_told_52 : decode cX9_told 52 = .ok (.goto 4, 3) := by decide +kernel
theorem dX9_told_55 : decode cX9_told 55 = .ok (.iconst (-1), 1) := by decide +kernel
theorem dX9_told_56 : decode cX9_told 56 = .ok (.ireturn, 1) := by decide +kernel
theorem dX9_count_0 : decode cX9_count 0 = .ok (.aload_n 0, 1) := by decide +kernel
theorem dX9_count_1 : decode cX9_count 1 = .ok (.iconst 0, 1) := by decide +kernel
theorem dX9_count_2 : decode cX9_count 2 = .ok (.putfield 43, 3) := by decide +kernel
theorem dX9_count_5 : decode cX9_count 5 = .ok (.iload_n 1, 1) := by decide +kernel
theorem dX9_count_6 : decode cX9_count 6 = .ok (.ifCond .ne 10, 3) := by decide +kernel
theorem dX9_count_9 : decode cX9_count 9 = .ok (.aload_n 0, 1) := by decide +kernel
theorem dX9_count_10 : decode cX9_count 10 = .ok (.getfield 47, 3) := by decide +kernel
theorem dX9_count_13 : decode cX9_count 13 = .ok (.goto 28, 3) := by decide +kernel
theorem dX9_count_16 : decode cX9_count 16 = .ok (.iload_n 1, 1) := by decide +kernel
theorem dX9_count_17 : decode cX9_count 17 = .ok (.iconst 1, 1) := by decide +kernel
theorem dX9_count_18 : decode cX9_count 18 = .ok (.if_icmp .ne 10, 3) := by decide +kernel
theorem dX9_count_21 : decode cX9_count 21 = .ok (.aload_n 0, 1) := by decide +kernel
theorem dX9_count_22 : decode cX9_count 22 = .ok (.getfield 62, 3) := by decide +kernel
theorem dX9_count_25 : decode cX9_count 25 = .ok (.goto 16, 3) := by decide +kernel
theorem dX9_count_28 : decode cX9_count 28 = .ok (.iload_n 1, 1) := by decide +kernel
theorem dX9_count_29 : decode cX9_count 29 = .ok (.iconst 2, 1) := by decide +kernel
theorem dX9_count_30 : decode cX9_count 30 = .ok (.if_icmp .ne 10, 3) := by decide +kernel
theorem dX9_count_33 : decode cX9_count 33 = .ok (.aload_n 0, 1) := by decide +kernel
theorem dX9_count_34 : decode cX9_count 34 = .ok (.getfield 168, 3) := by decide +kernel
theorem dX9_count_37 : decode cX9_count 37 = .ok (.goto 4, 3) := by decide +kernel
theorem dX9_count_40 : decode cX9_count 40 = .ok (.iconst (-1), 1) := by decide +kernel
theorem dX9_count_41 : decode cX9_count 41 = .ok (.ireturn, 1) := by decide +kernel
theorem dJ6_bitCount_0f7a4_0 : decode cJ6_bitCount_0f7a4 0 = .ok (.iload_n 0, 1) := by decide +kernel
theorem dJ6_bitCount_0f7a4_1 : decode cJ6_bitCount_0f7a4 1 = .ok (.iload_n 0, 1) := by decide +kernel
theorem dJ6_bitCount_0f7a4_2 : decode cJ6_bitCount_0f7a4 2 = .ok (.iconst 1, 1) := by decide +kernel
theorem dJ6_bitCount_0f7a4_3 : decode cJ6_bitCount_0f7a4 3 = .ok (.iushr, 1) := by decide +kernel
theorem dJ6_bitCount_0f7a4_4 : decode cJ6_bitCount_0f7a4 4 = .ok (.ldc_w 265, 3) := by decide +kernel
theorem dJ6_bitCount_0f7a4_7 : decode cJ6_bitCount_0f7a4 7 = .ok (.iand, 1) := by decide +kernel
theorem dJ6_bitCount_0f7a4_8 : decode cJ6_bitCount_0f7a4 8 = .ok (.isub, 1) := by decide +kernel
theorem dJ6_bitCount_0f7a4_9 : decode cJ6_bitCount_0f7a4 9 = .ok (.istore_n 0, 1) := by decide +kernel
theorem dJ6_bitCount_0f7a4_10 : decode cJ6_bitCount_0f7a4 10 = .ok (.iload_n 0, 1) := by decide +kernel
theorem dJ6_bitCount_0f7a4_11 : decode cJ6_bitCount_0f7a4 11 = .ok (.ldc_w 266, 3) := by decide +kernel
theorem dJ6_bitCount_0f7a4_14 : decode cJ6_bitCount_0f7a4 14 = .ok (.iand, 1) := by decide +kernel
theorem dJ6_bitCount_0f7a4_15 : decode cJ6_bitCount_0f7a4 15 = .ok (.iload_n 0, 1) := by decide +kernel
theorem dJ6_bitCount_0f7a4_16 : decode cJ6_bitCount_0f7a4 16 = .ok (.iconst 2, 1) := by decide +kernel
theorem dJ6_bitCount_0f7a4_17 : decode cJ6_bitCount_0f7a4 17 = .ok (.iushr, 1) := by decide +kernel
theorem dJ6_bitCount_0f7a4_18 : decode cJ6_bitCount_0f7a4 18 = .ok (.ldc_w 266, 3) := by decide +kernel
theorem dJ6_bitCount_0f7a4_21 : decode cJ6_bitCount_0f7a4 21 = .ok (.iand, 1) := by decide +kernel
theorem dJ6_bitCount_0f7a4_22 : decode cJ6_bitCount_0f7a4 22 = .ok (.iadd, 1) := by decide +kernel
theorem dJ6_bitCount_0f7a4_23 : decode cJ6_bitCount_0f7a4 23 = .ok (.istore_n 0, 1) := by decide +kernel
theorem dJ6_bitCount_0f7a4_24 : decode cJ6_bitCount_0f7a4 24 = .ok (.iload_n 0, 1) := by decide +kernel
theorem dJ6_bitCount_0f7a4_25 : decode cJ6_bitCount_0f7a4 25 = .ok (.iload_n 0, 1) := by decide +kernel
theorem dJ6_bitCount_0f7a4_26 : decode cJ6_bitCount_0f7a4 26 = .ok (.iconst 4, 1) := by decide +kernel
theorem dJ6_bitCount_0f7a4_27 : decode cJ6_bitCount_0f7a4 27 = .ok (.iushr, 1) := by decide +kernel
theorem dJ6_bitCount_0f7a4_28 : decode cJ6_bitCount_0f7a4 28 = .ok (.iadd, 1) := by decide +kernel
theorem dJ6_bitCount_0f7a4_29 : decode cJ6_bitCount_0f7a4 29 = .ok (.ldc_w 267, 3) := by decide +kernel
theorem dJ6_bitCount_0f7a4_32 : decode cJ6_bitCount_0f7a4 32 = .ok (.iand, 1) := by decide +kernel
theorem dJ6_bitCount_0f7a4_33 : decode cJ6_bitCount_0f7a4 33 = .ok (.istore_n 0, 1) := by decide +kernel
theorem dJ6_bitCount_0f7a4_34 : decode cJ6_bitCount_0f7a4 34 = .ok (.iload_n 0, 1) := by decide +kernel
theorem dJ6_bitCount_0f7a4_35 : decode cJ6_bitCount_0f7a4 35 = .ok (.iload_n 0, 1) := by decide +kernel
theorem dJ6_bitCount_0f7a4_36 : decode cJ6_bitCount_0f7a4 36 = .ok (.bipush 8, 2) := by decide +kernel
theorem dJ6_bitCount_0f7a4_38 : decode cJ6_bitCount_0f7a4 38 = .ok (.iushr, 1) := by decide +kernel
theorem dJ6_bitCount_0f7a4_39 : decode cJ6_bitCount_0f7a4 39 = .ok (.iadd, 1) := by decide +kernel
theorem dJ6_bitCount_0f7a4_40 : decode cJ6_bitCount_0f7a4 40 = .ok (.istore_n 0, 1) := by decide +kernel
theorem dJ6_bitCount_0f7a4_41 : decode cJ6_bitCount_0f7a4 41 = .ok (.iload_n 0, 1) := by decide +kernel
theorem dJ6_bitCount_0f7a4_42 : decode cJ6_bitCount_0f7a4 42 = .ok (.iload_n 0, 1) := by decide +kernel
theorem dJ6_bitCount_0f7a4_43 : decode cJ6_bitCount_0f7a4 43 = .ok (.bipush 16, 2) := by decide +kernel
theorem dJ6_bitCount_0f7a4_45 : decode cJ6_bitCount_0f7a4 45 = .ok (.iushr, 1) := by decide +kernel
theorem dJ6_bitCount_0f7a4_46 : decode cJ6_bitCount_0f7a4 46 = .ok (.iadd, 1) := by decide +kernel
theorem dJ6_bitCount_0f7a4_47 : decode cJ6_bitCount_0f7a4 47 = .ok (.istore_n 0, 1) := by decide +kernel
theorem dJ6_bitCount_0f7a4_48 : decode cJ6_bitCount_0f7a4 48 = .ok (.iload_n 0, 1) := by decide +kernel
theorem dJ6_bitCount_0f7a4_49 : decode cJ6_bitCount_0f7a4 49 = .ok (.bipush 63, 2) := by decide +kernel
theorem dJ6_bitCount_0f7a4_51 : decode cJ6_bitCount_0f7a4 51 = .ok (.iand, 1) := by decide +kernel
theorem dJ6_bitCount_0f7a4_52 : decode cJ6_bitCount_0f7a4 52 = .ok (.ireturn, 1) := by decide +kernel
theorem dJ9_abs_0f7a4_0 : decode cJ9_abs_0f7a4 0 = .ok (.iload_n 0, 1) := by decide +kernel
theorem dJ9_abs_0f7a4_1 : decode cJ9_abs_0f7a4 1 = .ok (.ifCond .ge 8, 3) := by decide +kernel
theorem dJ9_abs_0f7a4_4 : decode cJ9_abs_0f7a4 4 = .ok (.iload_n 0, 1) := by decide +kernel
theorem dJ9_abs_0f7a4_5 : decode cJ9_abs_0f7a4 5 = .ok (.ineg, 1) := by decide +kernel
theorem dJ9_abs_0f7a4_6 : decode cJ9_abs_0f7a4 6 = .ok (.goto 4, 3) := by decide +kernel
theorem dJ9_abs_0f7a4_9 : decode cJ9_abs_0f7a4 9 = .ok (.iload_n 0, 1) := by decide +kernel
theorem dJ9_abs_0f7a4_10 : decode cJ9_abs_0f7a4 10 = .ok (.ireturn, 1) := by decide +kernel
theorem dJ9_max_7cf53_0 : decode cJ9_max_7cf53 0 = .ok (.iload_n 0, 1) := by decide +kernel
theorem dJ9_max_7cf53_1 : decode cJ9_max_7cf53 1 = .ok (.iload_n 1, 1) := by decide +kernel
theorem dJ9_max_7cf53_2 : decode cJ9_max_7cf53 2 = .ok (.if_icmp .lt 7, 3) := by decide +kernel
theorem dJ9_max_7cf53_5 : decode cJ9_max_7cf53 5 = .ok (.iload_n 0, 1) := by decide +kernel
theorem dJ9_max_7cf53_6 : decode cJ9_max_7cf53 6 = .ok (.goto 4, 3) := by decide +kernel
theorem dJ9_max_7cf53_9 : decode cJ9_max_7cf53 9 = .ok (.iload_n 1, 1) := by decide +kernel
theorem dJ9_max_7cf53_10 : decode cJ9_max_7cf53 10 = .ok (.ireturn, 1) := by decide +kernel
theorem dJ9_min_7cf53_0 : decode cJ9_min_7cf53 0 = .ok (.iload_n 0, 1) := by decide +kernel
theorem dJ9_min_7cf53_1 : decode cJ9_min_7cf53 1 = .ok (.iload_n 1, 1) := by decide +kernel
theorem dJ9_min_7cf53_2 : decode cJ9_min_7cf53 2 = .ok (.if_icmp .gt 7, 3) := by decide +kernel
theorem dJ9_min_7cf53_5 : decode cJ9_min_7cf53 5 = .ok (.iload_n 0, 1) := by decide +kernel
theorem dJ9_min_7cf53_6 : decode cJ9_min_7cf53 6 = .ok (.goto 4, 3) := by decide +kernel
theorem dJ9_min_7cf53_9 : decode cJ9_min_7cf53 9 = .ok (.iload_n 1, 1) := by decide +kernel
theorem dJ9_min_7cf53_10 : decode cJ9_min_7cf53 10 = .ok (.ireturn, 1) := by decide +kernel
theorem dJ7_fill_53178_0 : decode cJ7_fill_53178 0 = .ok (.iconst 0, 1) := by decide +kernel
theorem dJ7_fill_53178_1 : decode cJ7_fill_53178 1 = .ok (.istore_n 2, 1) := by decide +kernel
theorem dJ7_fill_53178_2 : decode cJ7_fill_53178 2 = .ok (.aload_n 0, 1) := by decide +kernel
theorem dJ7_fill_53178_3 : decode cJ7_fill_53178 3 = .ok (.arraylength, 1) := by decide +kernel
theorem dJ7_fill_53178_4 : decode cJ7_fill_53178 4 = .ok (.istore_n 3, 1) := by decide +kernel
theorem dJ7_fill_53178_5 : decode cJ7_fill_53178 5 = .ok (.iload_n 2, 1) := by decide +kernel
theorem dJ7_fill_53178_6 : decode cJ7_fill_53178 6 = .ok (.iload_n 3, 1) := by decide +kernel
theorem dJ7_fill_53178_7 : decode cJ7_fill_53178 7 = .ok (.if_icmp .ge 13, 3) := by decide +kernel
theorem dJ7_fill_53178_10 : decode cJ7_fill_53178 10 = .ok (.aload_n 0, 1) := by decide +kernel
theorem dJ7_fill_53178_11 : decode cJ7_fill_53178 11 = .ok (.iload_n 2, 1) := by decide +kernel
theorem dJ7_fill_53178_12 : decode cJ7_fill_53178 12 = .ok (.iload_n 1, 1) := by decide +kernel
theorem dJ7_fill_53178_13 : decode cJ7_fill_53178 13 = .ok (.iastore, 1) := by decide +kernel
theorem dJ7_fill_53178_14 : decode cJ7_fill_53178 14 = .ok (.iinc 2 1, 3) := by decide +kernel
theorem dJ7_fill_53178_17 : decode cJ7_fill_53178 17 = .ok (.goto (-12), 3) := by decide +kernel
theorem dJ7_fill_53178_20 : decode cJ7_fill_53178 20 = .ok (.return_, 1) := by decide +kernel
set_option maxRecDepth 20000 in
theorem ggL_time_X8_time : GoodIn wsL_time wsX8_time := goodIn_ca (goodIn_r _ [6, 7, 8, 9, 10, 11, 5, 12, 13, 14, 15, 16, 17, 18, 19, 20, 21, 22, 23, 24, 25, 26] (by decide +kernel) (by decide +kernel)) (goodIn_sub (fun _ h => List.mem_cons_of_mem _ (List.mem_append_right _ h)) (by decide +kernel))
set_option maxRecDepth 20000 in
theorem gL_time_X8_time : GoodIn wsL_time (wsV RL 7 RX8 yX8_time wsX8_time) := goodIn_app (goodIn_of _ (by decide +kernel)) ggL_time_X8_time
theorem dL_time_0 : decode cL_time 0 = .ok (.aload_n 2, 1) := by decide +kernel
theorem dL_time_1 : decode cL_time 1 = .ok (.iconst 0, 1) := by decide +kernel
theorem dL_time_2 : decode cL_time 2 = .ok (.aload_n 0, 1) := by decide +kernel
theorem dL_time_3 : decode cL_time 3 = .ok (.iload_n 1, 1) := by decide +kernel
theorem dL_time_4 : decode cL_time 4 = .ok (.invokevirtual 7, 3) := by decide +kernel
theorem dL_time_7 : decode cL_time 7 = .ok (.i2l, 1) := by decide +kernel
theorem dL_time_8 : decode cL_time 8 = .ok (.lastore, 1) := by decide +kernel
theorem dL_time_9 : decode cL_time 9 = .ok (.goto 6, 3) := by decide +kernel
theorem dL_time_12 : decode cL_time 12 = .ok (.astore_n 3, 1) := by decide +kernel
theorem dL_time_13 : decode cL_time 13 = .ok (.iconst 1, 1) := by decide +kernel
theorem dL_time_14 : decode cL_time 14 = .ok (.ireturn, 1) := by decide +kernel
theorem dL_time_15 : decode cL_time 15 = .ok (.iconst 0, 1) := by decide +kernel
theorem dL_time_16 : decode cL_time 16 = .ok (.ireturn, 1) := by decide +kernel
set_option maxRecDepth 20000 in
theorem ggL_law_X8_init : GoodIn wsL_law wsX8_init := goodIn_r _ [9, 10, 11, 12, 13, 14, 15, 16, 17, 18, 19, 20, 21, 22, 23, 24, 25, 26, 27, 28, 29, 30, 31, 32, 33, 34, 35, 36, 37, 38, 39, 40, 41, 42, 43, 44, 45, 46, 2, 47, 48, 49, 50, 51, 52, 53, 54, 55, 56, 57, 58, 59, 710, 711, 688, 689, 690, 691, 692, 712, 713, 714, 715, 716, 717, 718, 719, 720] rfl (by decide +kernel)
set_option maxRecDepth 20000 in
theorem gL_law_X8_init : GoodIn wsL_law (wsX8_init) := ggL_law_X8_init
set_option maxRecDepth 20000 in
theorem ggL_law_X9_init : GoodIn wsL_law wsX9_init := goodIn_r _ [62, 63, 11, 12, 31, 64, 65, 66, 67, 68, 69, 70, 71, 72, 73, 74, 693, 694, 695, 696, 697, 698, 699, 700, 701, 702, 703, 704, 705, 706, 707, 708, 709] rfl (by decide +kernel)
set_option maxRecDepth 20000 in
theorem gL_law_X9_init : GoodIn wsL_law (wsX9_init) := ggL_law_X9_init
set_option maxRecDepth 20000 in
theorem ggL_law_X8_make : GoodIn wsL_law wsX8_make := goodIn_r _ [78, 19, 79, 80, 81, 82, 83, 84, 18, 17, 85, 86, 87, 88, 2, 89, 90, 91, 92, 93, 94, 95, 96, 97, 98, 99, 100, 101, 11, 12, 102, 103, 104, 105, 106, 107, 108, 109, 110, 111, 112, 113, 114, 115, 116, 117, 118, 119, 120, 121, 122, 123, 124, 125, 126, 127, 128, 31, 129, 130, 131, 132, 133, 134, 135, 136, 137, 138, 49, 50, 51, 139, 140, 141, 142, 143, 144, 145, 46, 47, 146, 147, 148, 149, 150, 151, 152, 153, 154, 155, 156, 157, 158, 159, 160, 161, 162, 163, 164, 165, 688, 689, 690, 691, 692, 721, 722, 723, 724, 725, 726, 727, 728, 729, 730, 731, 732, 733, 734, 735, 736, 737, 738, 739, 740, 741, 742, 743] rfl (by decide +kernel)
set_option maxRecDepth 20000 in
theorem gL_law_X8_make : GoodIn wsL_law (wsV RL 19 RX8 yX8_make wsX8_make) := goodIn_app (goodIn_of _ (by decide +kernel)) ggL_law_X8_make
set_option maxRecDepth 20000 in
theorem ggL_law_X9_make : GoodIn wsL_law wsX9_make := goodIn_r _ [169, 170, 171, 31, 65, 66, 172, 173, 5, 174, 693, 694, 695, 696, 697, 698, 699, 700, 701, 702, 703, 704, 705, 706, 707, 708, 709] rfl (by decide +kernel)
set_option maxRecDepth 20000 in
theorem gL_law_X9_make : GoodIn wsL_law (wsV RL 23 RX9 yX9_make wsX9_make) := goodIn_app (goodIn_of _ (by decide +kernel)) ggL_law_X9_make
set_option maxRecDepth 20000 in
theorem ggL_law_X8_set : GoodIn wsL_law wsX8_set := goodIn_r _ [178, 179, 180, 181, 2, 182, 19, 18, 87, 88, 89, 133, 123, 134, 135, 136, 137, 129, 138, 49, 50, 51, 139, 140, 141, 142, 143, 131, 144, 145, 130, 46, 47, 146, 147, 148, 149, 150, 151, 152, 153, 154, 155, 156, 157, 158, 159, 160, 161, 162, 163, 164, 165, 731, 732, 733, 734, 735, 688, 689, 690, 691, 692, 736, 737, 738, 739, 740, 741, 742, 743] rfl (by decide +kernel)
set_option maxRecDepth 20000 in
theorem gL_law_X8_set : GoodIn wsL_law (wsV RL 24 RX8 yX8_set wsX8_set) := goodIn_app (goodIn_of _ (by decide +kernel)) ggL_law_X8_set
set_option maxRecDepth 20000 in
theorem ggL_law_X9_set : GoodIn wsL_law wsX9_set := goodIn_r _ [186, 170, 65, 66, 187, 188, 189, 5, 190, 171, 172, 173, 174, 191, 192, 193, 194, 693, 694, 695, 696, 697, 698, 699, 700, 701, 702, 703, 704, 705, 706, 707, 708, 709] rfl (by decide +kernel)
set_option maxRecDepth 20000 in
theorem gL_law_X9_set : GoodIn wsL_law (wsV RL 28 RX9 yX9_set wsX9_set) := goodIn_app (goodIn_of _ (by decide +kernel)) ggL_law_X9_set
set_option maxRecDepth 20000 in
theorem ggL_law_X8_feed : GoodIn wsL_law wsX8_feed := goodIn_r _ [198, 16, 199, 200, 201, 15, 202, 33, 32, 688, 689, 690, 691, 692, 710, 711] rfl (by decide +kernel)
set_option maxRecDepth 20000 in
theorem gL_law_X8_feed : GoodIn wsL_law (wsV RL 29 RX8 yX8_feed wsX8_feed) := goodIn_app (goodIn_of _ (by decide +kernel)) ggL_law_X8_feed
set_option maxRecDepth 20000 in
theorem ggL_law_X9_feed : GoodIn wsL_law wsX9_feed := goodIn_r _ [206, 170, 207, 64, 693, 694, 695, 696, 697, 698, 699, 700, 701, 702, 703, 704, 705, 706, 707, 708, 709] rfl (by decide +kernel)
set_option maxRecDepth 20000 in
theorem gL_law_X9_feed : GoodIn wsL_law (wsV RL 33 RX9 yX9_feed wsX9_feed) := goodIn_app (goodIn_of _ (by decide +kernel)) ggL_law_X9_feed
set_option maxRecDepth 20000 in
theorem ggL_law_X8_end : GoodIn wsL_law wsX8_end := goodIn_r _ [211, 16, 87, 88, 2, 89, 688, 689, 690, 691, 692, 710, 711] rfl (by decide +kernel)
set_option maxRecDepth 20000 in
theorem gL_law_X8_end : GoodIn wsL_law (wsV RL 34 RX8 yX8_end wsX8_end) := goodIn_app (goodIn_of _ (by decide +kernel)) ggL_law_X8_end
set_option maxRecDepth 20000 in
theorem ggL_law_X9_end : GoodIn wsL_law wsX9_end := goodIn_r _ [215, 170, 207, 693, 694, 695, 696, 697, 698, 699, 700, 701, 702, 703, 704, 705, 706, 707, 708, 709] rfl (by decide +kernel)
set_option maxRecDepth 20000 in
theorem gL_law_X9_end : GoodIn wsL_law (wsV RL 38 RX9 yX9_end wsX9_end) := goodIn_app (goodIn_of _ (by decide +kernel)) ggL_law_X9_end
set_option maxRecDepth 20000 in
theorem ggL_law_X8_send : GoodIn wsL_law wsX8_send := goodIn_r _ [219, 16, 179, 180, 181, 2, 182, 19, 18, 87, 88, 89, 220, 46, 47, 221, 222, 223, 86, 224, 120, 225, 226, 227, 228, 81, 229, 96, 97, 230, 231, 232, 233, 234, 200, 201, 15, 202, 33, 32, 235, 236, 237, 238, 239, 240, 84, 241, 106, 112, 110, 111, 242, 243, 244, 245, 105, 246, 247, 248, 249, 250, 107, 108, 109, 731, 732, 733, 734, 735, 688, 689, 690, 691, 692, 710, 711, 721, 722, 723, 724, 725, 726, 727, 728, 729, 730] rfl (by decide +kernel)
set_option maxRecDepth 20000 in
theorem gL_law_X8_send : GoodIn wsL_law (wsV RL 39 RX8 yX8_send wsX8_send) := goodIn_app (goodIn_of _ (by decide +kernel)) ggL_law_X8_send
set_option maxRecDepth 20000 in
theorem ggL_law_X9_send : GoodIn wsL_law wsX9_send := goodIn_r _ [254, 170, 207, 187, 188, 189, 5, 190, 171, 172, 173, 174, 191, 192, 193, 194, 65, 255, 256, 257, 258, 259, 260, 261, 262, 263, 264, 265, 266, 267, 268, 269, 64, 693, 694, 695, 696, 697, 698, 699, 700, 701, 702, 703, 704, 705, 706, 707, 708, 709] rfl (by decide +kernel)
set_option maxRecDepth 20000 in
theorem gL_law_X9_send : GoodIn wsL_law (wsV RL 43 RX9 yX9_send wsX9_send) := goodIn_app (goodIn_of _ (by decide +kernel)) ggL_law_X9_send
set_option maxRecDepth 20000 in
theorem ggL_law_L_time : GoodIn wsL_law wsL_time := goodIn_ca (goodIn_r _ [273, 274, 275, 276, 277, 2, 278, 279, 280, 16, 87, 88, 89, 281, 282, 283, 15, 284, 33, 32, 688, 689, 690, 691, 692, 710, 711] (by decide +kernel) (by decide +kernel)) (goodIn_sub (fun _ h => List.mem_append_right _ h) (by decide +kernel))
set_option maxRecDepth 20000 in
theorem gL_law_L_time : GoodIn wsL_law (va_wsS RL 44 yL_time wsL_time) := goodIn_app (goodIn_of _ (by decide +kernel)) ggL_law_L_time
set_option maxRecDepth 20000 in
theorem ggL_law_X9_time : GoodIn wsL_law wsX9_time := goodIn_r _ [288, 170, 207, 64, 172, 173, 5, 174, 693, 694, 695, 696, 697, 698, 699, 700, 701, 702, 703, 704, 705, 706, 707, 708, 709] rfl (by decide +kernel)
set_option maxRecDepth 20000 in
theorem gL_law_X9_time : GoodIn wsL_law (wsV RL 49 RX9 yX9_time wsX9_time) := goodIn_app (goodIn_of _ (by decide +kernel)) ggL_law_X9_time
set_option maxRecDepth 20000 in
theorem ggL_law_X9_thrown : GoodIn wsL_law wsX9_thrown := goodIn_r _ [292, 170, 693, 694, 695, 696, 697, 698, 699, 700, 701, 702, 703, 704, 705, 706, 707, 708, 709] rfl (by decide +kernel)
set_option maxRecDepth 20000 in
theorem gL_law_X9_thrown : GoodIn wsL_law (wsV RL 50 RX9 yX9_thrown wsX9_thrown) := goodIn_app (goodIn_of _ (by decide +kernel)) ggL_law_X9_thrown
set_option maxRecDepth 20000 in
theorem ggL_law_X8_read : GoodIn wsL_law wsX8_read := goodIn_r _ [296, 16, 179, 180, 181, 2, 182, 19, 18, 87, 88, 89, 297, 298, 299, 86, 300, 120, 117, 301, 302, 303, 304, 81, 305, 97, 96, 306, 282, 283, 15, 284, 33, 32, 307, 308, 309, 310, 311, 312, 313, 314, 315, 316, 317, 318, 319, 320, 321, 322, 84, 323, 112, 110, 111, 324, 242, 243, 244, 245, 105, 247, 248, 249, 250, 107, 108, 109, 688, 689, 690, 691, 692, 731, 732, 733, 734, 735, 710, 711, 721, 722, 723, 724, 725, 726, 727, 728, 729, 730] rfl (by decide +kernel)
set_option maxRecDepth 20000 in
theorem gL_law_X8_read : GoodIn wsL_law (wsV RL 54 RX8 yX8_read wsX8_read) := goodIn_app (goodIn_of _ (by decide +kernel)) ggL_law_X8_read
set_option maxRecDepth 20000 in
theorem ggL_law_X9_read : GoodIn wsL_law wsX9_read := goodIn_r _ [328, 170, 329, 187, 188, 189, 5, 190, 171, 172, 173, 174, 330, 331, 332, 333, 191, 192, 193, 194, 65, 334, 335, 336, 337, 207, 64, 338, 339, 340, 341, 342, 310, 311, 312, 343, 344, 345, 346, 347, 348, 349, 350, 351, 352, 353, 354, 355, 356, 357, 693, 694, 695, 696, 697, 698, 699, 700, 701, 702, 703, 704, 705, 706, 707, 708, 709] rfl (by decide +kernel)
set_option maxRecDepth 20000 in
theorem gL_law_X9_read : GoodIn wsL_law (wsV RL 57 RX9 yX9_read wsX9_read) := goodIn_app (goodIn_of _ (by decide +kernel)) ggL_law_X9_read
set_option maxRecDepth 20000 in
theorem ggL_law_X8_which : GoodIn wsL_law wsX8_which := goodIn_r _ [361, 19, 362, 294, 295, 2, 296, 16, 179, 180, 181, 182, 18, 87, 88, 89, 297, 298, 299, 86, 300, 120, 117, 301, 302, 303, 304, 81, 305, 97, 96, 306, 282, 283, 15, 284, 33, 32, 307, 308, 309, 310, 311, 312, 313, 314, 315, 316, 317, 318, 319, 320, 321, 322, 84, 323, 112, 110, 111, 324, 242, 243, 244, 245, 105, 247, 248, 249, 250, 107, 108, 109, 688, 689, 690, 691, 692, 731, 732, 733, 734, 735, 710, 711, 721, 722, 723, 724, 725, 726, 727, 728, 729, 730] rfl (by decide +kernel)
set_option maxRecDepth 20000 in
theorem gL_law_X8_which : GoodIn wsL_law (wsV RL 58 RX8 yX8_which wsX8_which) := goodIn_app (goodIn_of _ (by decide +kernel)) ggL_law_X8_which
set_option maxRecDepth 20000 in
theorem ggL_law_X9_which_ : GoodIn wsL_law wsX9_which_ := goodIn_r _ [366, 170, 171, 330, 331, 332, 5, 333, 191, 192, 193, 194, 65, 334, 335, 336, 337, 207, 64, 338, 339, 340, 341, 342, 310, 311, 312, 343, 344, 345, 346, 347, 348, 349, 172, 173, 174, 350, 351, 352, 353, 329, 354, 355, 356, 357, 693, 694, 695, 696, 697, 698, 699, 700, 701, 702, 703, 704, 705, 706, 707, 708, 709] rfl (by decide +kernel)
set_option maxRecDepth 20000 in
theorem gL_law_X9_which_ : GoodIn wsL_law (wsV RL 61 RX9 yX9_which_ wsX9_which_) := goodIn_app (goodIn_of _ (by decide +kernel)) ggL_law_X9_which_
set_option maxRecDepth 20000 in
theorem ggL_law_X8_stretch : GoodIn wsL_law wsX8_stretch := goodIn_r _ [370, 16, 87, 88, 2, 89, 371, 372, 373, 15, 374, 33, 32, 375, 376, 311, 377, 378, 379, 380, 317, 318, 688, 689, 690, 691, 692, 710, 711] rfl (by decide +kernel)
set_option maxRecDepth 20000 in
theorem gL_law_X8_stretch : GoodIn wsL_law (wsV RL 62 RX8 yX8_stretch wsX8_stretch) := goodIn_app (goodIn_of _ (by decide +kernel)) ggL_law_X8_stretch
set_option maxRecDepth 20000 in
theorem ggL_law_X9_stretch : GoodIn wsL_law wsX9_stretch := goodIn_r _ [384, 170, 207, 64, 172, 173, 5, 174, 347, 348, 349, 693, 694, 695, 696, 697, 698, 699, 700, 701, 702, 703, 704, 705, 706, 707, 708, 709] rfl (by decide +kernel)
set_option maxRecDepth 20000 in
theorem gL_law_X9_stretch : GoodIn wsL_law (wsV RL 65 RX9 yX9_stretch wsX9_stretch) := goodIn_app (goodIn_of _ (by decide +kernel)) ggL_law_X9_stretch
set_option maxRecDepth 20000 in
theorem ggL_law_X8_learn : GoodIn wsL_law wsX8_learn := goodIn_r _ [388, 16, 179, 180, 181, 2, 182, 19, 18, 87, 88, 89, 297, 298, 299, 86, 300, 120, 117, 301, 302, 303, 304, 81, 305, 97, 96, 306, 282, 283, 15, 284, 33, 32, 307, 308, 309, 310, 311, 312, 313, 314, 315, 316, 317, 318, 319, 320, 321, 322, 84, 323, 112, 110, 111, 324, 242, 243, 244, 245, 105, 247, 248, 249, 250, 107, 108, 109, 389, 390, 391, 123, 392, 129, 146, 147, 148, 149, 136, 393, 394, 395, 396, 139, 140, 141, 142, 143, 131, 144, 145, 130, 46, 47, 150, 151, 152, 153, 154, 155, 156, 157, 158, 159, 160, 161, 162, 163, 164, 165, 688, 689, 690, 691, 692, 731, 732, 733, 734, 735, 710, 711, 721, 722, 723, 724, 725, 726, 727, 728, 729, 730, 736, 737, 738, 739, 740, 741, 742, 743] rfl (by decide +kernel)
set_option maxRecDepth 20000 in
theorem gL_law_X8_learn : GoodIn wsL_law (wsV RL 66 RX8 yX8_learn wsX8_learn) := goodIn_app (goodIn_of _ (by decide +kernel)) ggL_law_X8_learn
set_option maxRecDepth 20000 in
theorem ggL_law_X9_learn : GoodIn wsL_law wsX9_learn := goodIn_r _ [400, 170, 66, 401, 402, 403, 5, 404, 187, 188, 189, 190, 171, 172, 173, 174, 330, 331, 332, 333, 191, 192, 193, 194, 65, 334, 335, 336, 337, 207, 64, 338, 339, 340, 341, 342, 310, 311, 312, 343, 344, 345, 346, 347, 348, 349, 350, 351, 352, 353, 329, 354, 355, 356, 357, 405, 406, 407, 408, 693, 694, 695, 696, 697, 698, 699, 700, 701, 702, 703, 704, 705, 706, 707, 708, 709] rfl (by decide +kernel)
set_option maxRecDepth 20000 in
theorem gL_law_X9_learn : GoodIn wsL_law (wsV RL 69 RX9 yX9_learn wsX9_learn) := goodIn_app (goodIn_of _ (by decide +kernel)) ggL_law_X9_learn
set_option maxRecDepth 20000 in
theorem ggL_law_X8_forget : GoodIn wsL_law wsX8_forget := goodIn_r _ [412, 179, 180, 181, 2, 182, 19, 18, 87, 88, 89, 413, 414, 415, 123, 416, 129, 417, 418, 419, 420, 393, 394, 395, 396, 139, 140, 141, 142, 143, 131, 144, 145, 130, 46, 47, 146, 147, 148, 149, 136, 150, 151, 152, 153, 154, 155, 156, 157, 158, 159, 160, 161, 162, 163, 164, 165, 731, 732, 733, 734, 735, 688, 689, 690, 691, 692, 736, 737, 738, 739, 740, 741, 742, 743] rfl (by decide +kernel)
set_option maxRecDepth 20000 in
theorem gL_law_X8_forget : GoodIn wsL_law (wsV RL 70 RX8 yX8_forget wsX8_forget) := goodIn_app (goodIn_of _ (by decide +kernel)) ggL_law_X8_forget
set_option maxRecDepth 20000 in
theorem ggL_law_X9_forget : GoodIn wsL_law wsX9_forget := goodIn_r _ [424, 170, 66, 401, 402, 403, 5, 404, 187, 188, 189, 190, 171, 172, 173, 174, 693, 694, 695, 696, 697, 698, 699, 700, 701, 702, 703, 704, 705, 706, 707, 708, 709] rfl (by decide +kernel)
set_option maxRecDepth 20000 in
theorem gL_law_X9_forget : GoodIn wsL_law (wsV RL 74 RX9 yX9_forget wsX9_forget) := goodIn_app (goodIn_of _ (by decide +kernel)) ggL_law_X9_forget
set_option maxRecDepth 20000 in
theorem ggL_law_X8_key : GoodIn wsL_law wsX8_key := goodIn_r _ [428, 179, 180, 181, 2, 182, 19, 18, 87, 88, 89, 429, 418, 419, 123, 420, 129, 393, 394, 395, 396, 731, 732, 733, 734, 735, 688, 689, 690, 691, 692, 736, 737, 738, 739, 740, 741, 742, 743] rfl (by decide +kernel)
set_option maxRecDepth 20000 in
theorem gL_law_X8_key : GoodIn wsL_law (wsV RL 75 RX8 yX8_key wsX8_key) := goodIn_app (goodIn_of _ (by decide +kernel)) ggL_law_X8_key
set_option maxRecDepth 20000 in
theorem ggL_law_X9_key : GoodIn wsL_law wsX9_key := goodIn_r _ [433, 170, 66, 401, 402, 403, 5, 404, 187, 188, 189, 190, 171, 172, 173, 174, 693, 694, 695, 696, 697, 698, 699, 700, 701, 702, 703, 704, 705, 706, 707, 708, 709] rfl (by decide +kernel)
set_option maxRecDepth 20000 in
theorem gL_law_X9_key : GoodIn wsL_law (wsV RL 78 RX9 yX9_key wsX9_key) := goodIn_app (goodIn_of _ (by decide +kernel)) ggL_law_X9_key
set_option maxRecDepth 20000 in
theorem ggL_law_X8_press : GoodIn wsL_law wsX8_press := goodIn_r _ [437, 16, 179, 180, 181, 2, 182, 19, 18, 87, 88, 89, 429, 418, 419, 123, 420, 129, 393, 394, 395, 396, 438, 439, 440, 441, 137, 136, 417, 146, 147, 148, 149, 221, 222, 223, 86, 224, 120, 225, 226, 227, 228, 81, 229, 96, 97, 230, 231, 232, 233, 234, 200, 201, 15, 202, 33, 32, 235, 236, 237, 238, 239, 240, 84, 241, 106, 112, 110, 111, 242, 243, 244, 245, 105, 246, 247, 248, 249, 250, 107, 108, 109, 731, 732, 733, 734, 735, 688, 689, 690, 691, 692, 736, 737, 738, 739, 740, 741, 742, 743, 710, 711, 721, 722, 723, 724, 725, 726, 727, 728, 729, 730] rfl (by decide +kernel)
set_option maxRecDepth 20000 in
theorem gL_law_X8_press : GoodIn wsL_law (wsV RL 79 RX8 yX8_press wsX8_press) := goodIn_app (goodIn_of _ (by decide +kernel)) ggL_law_X8_press
set_option maxRecDepth 20000 in
theorem ggL_law_X9_press : GoodIn wsL_law wsX9_press := goodIn_r _ [445, 170, 66, 65, 207, 401, 402, 403, 5, 404, 187, 188, 189, 190, 171, 172, 173, 174, 191, 192, 193, 194, 405, 406, 407, 408, 255, 256, 257, 258, 259, 260, 261, 262, 263, 264, 265, 266, 267, 268, 269, 64, 693, 694, 695, 696, 697, 698, 699, 700, 701, 702, 703, 704, 705, 706, 707, 708, 709] rfl (by decide +kernel)
set_option maxRecDepth 20000 in
theorem gL_law_X9_press : GoodIn wsL_law (wsV RL 82 RX9 yX9_press wsX9_press) := goodIn_app (goodIn_of _ (by decide +kernel)) ggL_law_X9_press
set_option maxRecDepth 20000 in
theorem ggL_law_X8_of : GoodIn wsL_law wsX8_of := goodIn_r _ [449, 179, 180, 181, 2, 182, 19, 18, 87, 88, 89, 731, 732, 733, 734, 735, 736, 737, 738, 739, 740, 741, 742, 743, 688, 689, 690, 691, 692] rfl (by decide +kernel)
set_option maxRecDepth 20000 in
theorem gL_law_X8_of : GoodIn wsL_law (wsV RL 83 RX8 yX8_of wsX8_of) := goodIn_app (goodIn_of _ (by decide +kernel)) ggL_law_X8_of
set_option maxRecDepth 20000 in
theorem ggL_law_X9_of : GoodIn wsL_law wsX9_of := goodIn_r _ [453, 170, 187, 188, 189, 5, 190, 171, 172, 173, 174, 191, 192, 193, 194, 65, 454, 455, 456, 457, 66, 458, 459, 460, 461, 405, 406, 407, 408, 462, 463, 464, 465, 693, 694, 695, 696, 697, 698, 699, 700, 701, 702, 703, 704, 705, 706, 707, 708, 709] rfl (by decide +kernel)
set_option maxRecDepth 20000 in
theorem gL_law_X9_of : GoodIn wsL_law (wsV RL 86 RX9 yX9_of wsX9_of) := goodIn_app (goodIn_of _ (by decide +kernel)) ggL_law_X9_of
set_option maxRecDepth 20000 in
theorem ggL_law_X8_check : GoodIn wsL_law wsX8_check := goodIn_r _ [469, 179, 180, 181, 2, 182, 19, 18, 87, 88, 89, 470, 471, 472, 123, 473, 130, 731, 732, 733, 734, 735, 688, 689, 690, 691, 692, 736, 737, 738, 739, 740, 741, 742, 743] rfl (by decide +kernel)
set_option maxRecDepth 20000 in
theorem gL_law_X8_check : GoodIn wsL_law (wsV RL 87 RX8 yX8_check wsX8_check) := goodIn_app (goodIn_of _ (by decide +kernel)) ggL_law_X8_check
set_option maxRecDepth 20000 in
theorem ggL_law_X9_check : GoodIn wsL_law wsX9_check := goodIn_r _ [477, 170, 187, 188, 189, 5, 190, 171, 172, 173, 174, 478, 479, 480, 481, 66, 454, 455, 456, 457, 462, 463, 464, 465, 482, 483, 484, 485, 191, 192, 193, 194, 65, 486, 487, 488, 693, 694, 695, 696, 697, 698, 699, 700, 701, 702, 703, 704, 705, 706, 707, 708, 709] rfl (by decide +kernel)
set_option maxRecDepth 20000 in
theorem gL_law_X9_check : GoodIn wsL_law (wsV RL 90 RX9 yX9_check wsX9_check) := goodIn_app (goodIn_of _ (by decide +kernel)) ggL_law_X9_check
set_option maxRecDepth 20000 in
theorem ggL_law_X8_many : GoodIn wsL_law wsX8_many := goodIn_r _ [492, 179, 180, 181, 2, 182, 19, 18, 87, 88, 89, 493, 494, 495, 123, 496, 143, 497, 498, 499, 500, 131, 144, 46, 47, 146, 147, 148, 149, 136, 501, 502, 503, 504, 505, 506, 507, 508, 509, 510, 511, 512, 513, 514, 515, 145, 516, 517, 518, 519, 130, 158, 159, 160, 161, 162, 163, 164, 165, 731, 732, 733, 734, 735, 688, 689, 690, 691, 692, 736, 737, 738, 739, 740, 741, 742, 743] rfl (by decide +kernel)
set_option maxRecDepth 20000 in
theorem gL_law_X8_many : GoodIn wsL_law (wsV RL 91 RX8 yX8_many wsX8_many) := goodIn_app (goodIn_of _ (by decide +kernel)) ggL_law_X8_many
set_option maxRecDepth 20000 in
theorem ggL_law_X9_many : GoodIn wsL_law wsX9_many := goodIn_r _ [523, 170, 524, 525, 526, 527, 5, 528, 187, 188, 189, 190, 171, 172, 173, 174, 454, 455, 456, 457, 66, 191, 192, 193, 194, 65, 405, 406, 407, 408, 458, 459, 460, 461, 462, 463, 464, 465, 529, 502, 503, 504, 505, 506, 507, 530, 531, 532, 533, 534, 535, 536, 537, 538, 478, 479, 480, 481, 482, 483, 484, 485, 486, 487, 488, 693, 694, 695, 696, 697, 698, 699, 700, 701, 702, 703, 704, 705, 706, 707, 708, 709] rfl (by decide +kernel)
set_option maxRecDepth 20000 in
theorem gL_law_X9_many : GoodIn wsL_law (wsV RL 94 RX9 yX9_many wsX9_many) := goodIn_app (goodIn_of _ (by decide +kernel)) ggL_law_X9_many
set_option maxRecDepth 20000 in
theorem ggL_law_X8_foreseen : GoodIn wsL_law wsX8_foreseen := goodIn_r _ [542, 179, 180, 181, 2, 182, 19, 18, 87, 88, 89, 493, 494, 495, 123, 496, 143, 497, 498, 499, 500, 131, 144, 46, 47, 146, 147, 148, 149, 136, 501, 502, 503, 504, 505, 506, 507, 543, 544, 545, 546, 512, 513, 514, 515, 145, 516, 517, 518, 519, 130, 158, 159, 160, 161, 162, 163, 164, 165, 731, 732, 733, 734, 735, 688, 689, 690, 691, 692, 736, 737, 738, 739, 740, 741, 742, 743] rfl (by decide +kernel)
set_option maxRecDepth 20000 in
theorem gL_law_X8_foreseen : GoodIn wsL_law (wsV RL 95 RX8 yX8_foreseen wsX8_foreseen) := goodIn_app (goodIn_of _ (by decide +kernel)) ggL_law_X8_foreseen
set_option maxRecDepth 20000 in
theorem ggL_law_X9_foreseen : GoodIn wsL_law wsX9_foreseen := goodIn_r _ [550, 170, 551, 534, 525, 526, 527, 5, 528, 187, 188, 189, 190, 171, 172, 173, 174, 454, 455, 456, 457, 66, 191, 192, 193, 194, 65, 405, 406, 407, 408, 458, 459, 460, 461, 462, 463, 464, 465, 529, 502, 503, 504, 505, 506, 507, 530, 531, 532, 533, 535, 536, 537, 538, 478, 479, 480, 481, 482, 483, 484, 485, 486, 487, 488, 693, 694, 695, 696, 697, 698, 699, 700, 701, 702, 703, 704, 705, 706, 707, 708, 709] rfl (by decide +kernel)
set_option maxRecDepth 20000 in
theorem gL_law_X9_foreseen : GoodIn wsL_law (wsV RL 98 RX9 yX9_foreseen wsX9_foreseen) := goodIn_app (goodIn_of _ (by decide +kernel)) ggL_law_X9_foreseen
set_option maxRecDepth 20000 in
theorem ggL_law_X8_both : GoodIn wsL_law wsX8_both := goodIn_r _ [555, 179, 180, 181, 2, 182, 19, 18, 87, 88, 89, 493, 494, 495, 123, 496, 143, 497, 498, 499, 500, 131, 144, 46, 47, 146, 147, 148, 149, 136, 501, 502, 503, 504, 505, 506, 507, 556, 557, 558, 559, 512, 513, 514, 515, 145, 516, 517, 518, 519, 130, 158, 159, 160, 161, 162, 163, 164, 165, 560, 561, 562, 563, 731, 732, 733, 734, 735, 688, 689, 690, 691, 692, 736, 737, 738, 739, 740, 741, 742, 743] rfl (by decide +kernel)
set_option maxRecDepth 20000 in
theorem gL_law_X8_both : GoodIn wsL_law (wsV RL 99 RX8 yX8_both wsX8_both) := goodIn_app (goodIn_of _ (by decide +kernel)) ggL_law_X8_both
set_option maxRecDepth 20000 in
theorem ggL_law_X9_both : GoodIn wsL_law wsX9_both := goodIn_r _ [567, 170, 525, 526, 527, 5, 528, 187, 188, 189, 190, 171, 172, 173, 174, 454, 455, 456, 457, 66, 191, 192, 193, 194, 65, 405, 406, 407, 408, 458, 459, 460, 461, 462, 463, 464, 465, 529, 502, 503, 504, 505, 506, 507, 535, 536, 537, 538, 478, 479, 480, 481, 482, 483, 484, 485, 486, 487, 488, 693, 694, 695, 696, 697, 698, 699, 700, 701, 702, 703, 704, 705, 706, 707, 708, 709] rfl (by decide +kernel)
set_option maxRecDepth 20000 in
theorem gL_law_X9_both : GoodIn wsL_law (wsV RL 102 RX9 yX9_both wsX9_both) := goodIn_app (goodIn_of _ (by decide +kernel)) ggL_law_X9_both
set_option maxRecDepth 20000 in
theorem ggL_law_X8_box : GoodIn wsL_law wsX8_box := goodIn_r _ [571, 572, 573, 574, 2, 575, 21, 87, 88, 89, 40, 23, 41, 42, 43, 44, 45, 38, 46, 47, 48, 49, 50, 51, 688, 689, 690, 691, 692, 712, 713, 714, 715] rfl (by decide +kernel)
set_option maxRecDepth 20000 in
theorem gL_law_X8_box : GoodIn wsL_law (wsV RL 103 RX8 yX8_box wsX8_box) := goodIn_app (goodIn_of _ (by decide +kernel)) ggL_law_X8_box
set_option maxRecDepth 20000 in
theorem ggL_law_X9_box : GoodIn wsL_law wsX9_box := goodIn_r _ [579, 170, 67, 68, 69, 70, 580, 581, 5, 582, 172, 173, 174, 693, 694, 695, 696, 697, 698, 699, 700, 701, 702, 703, 704, 705, 706, 707, 708, 709] rfl (by decide +kernel)
set_option maxRecDepth 20000 in
theorem gL_law_X9_box : GoodIn wsL_law (wsV RL 106 RX9 yX9_box wsX9_box) := goodIn_app (goodIn_of _ (by decide +kernel)) ggL_law_X9_box
set_option maxRecDepth 20000 in
theorem ggL_law_X8_lead : GoodIn wsL_law wsX8_lead := goodIn_r _ [586, 572, 573, 574, 2, 575, 21, 87, 88, 89, 587, 588, 589, 23, 590, 43, 591, 592, 593, 594, 44, 595, 596, 597, 598, 38, 599, 600, 688, 689, 690, 691, 692, 712, 713, 714, 715] rfl (by decide +kernel)
set_option maxRecDepth 20000 in
theorem gL_law_X8_lead : GoodIn wsL_law (wsV RL 107 RX8 yX8_lead wsX8_lead) := goodIn_app (goodIn_of _ (by decide +kernel)) ggL_law_X8_lead
set_option maxRecDepth 20000 in
theorem ggL_law_X9_lead : GoodIn wsL_law wsX9_lead := goodIn_r _ [604, 170, 67, 68, 69, 580, 581, 5, 582, 172, 173, 174, 693, 694, 695, 696, 697, 698, 699, 700, 701, 702, 703, 704, 705, 706, 707, 708, 709] rfl (by decide +kernel)
set_option maxRecDepth 20000 in
theorem gL_law_X9_lead : GoodIn wsL_law (wsV RL 111 RX9 yX9_lead wsX9_lead) := goodIn_app (goodIn_of _ (by decide +kernel)) ggL_law_X9_lead
set_option maxRecDepth 20000 in
theorem ggL_law_X8_maybe : GoodIn wsL_law wsX8_maybe := goodIn_r _ [608, 572, 573, 574, 2, 575, 21, 87, 88, 89, 609, 610, 611, 23, 612, 43, 46, 47, 712, 713, 714, 715, 688, 689, 690, 691, 692] rfl (by decide +kernel)
set_option maxRecDepth 20000 in
theorem gL_law_X8_maybe : GoodIn wsL_law (wsV RL 112 RX8 yX8_maybe wsX8_maybe) := goodIn_app (goodIn_of _ (by decide +kernel)) ggL_law_X8_maybe
set_option maxRecDepth 20000 in
theorem ggL_law_X9_maybe : GoodIn wsL_law wsX9_maybe := goodIn_r _ [616, 170, 70, 580, 581, 5, 582, 172, 173, 174, 617, 618, 619, 620, 67, 693, 694, 695, 696, 697, 698, 699, 700, 701, 702, 703, 704, 705, 706, 707, 708, 709] rfl (by decide +kernel)
set_option maxRecDepth 20000 in
theorem gL_law_X9_maybe : GoodIn wsL_law (wsV RL 115 RX9 yX9_maybe wsX9_maybe) := goodIn_app (goodIn_of _ (by decide +kernel)) ggL_law_X9_maybe
set_option maxRecDepth 20000 in
theorem ggL_law_X8_push : GoodIn wsL_law wsX8_push := goodIn_r _ [624, 572, 573, 574, 2, 575, 21, 87, 88, 89, 591, 592, 593, 23, 594, 44, 625, 626, 627, 628, 43, 38, 600, 712, 713, 714, 715, 688, 689, 690, 691, 692] rfl (by decide +kernel)
set_option maxRecDepth 20000 in
theorem gL_law_X8_push : GoodIn wsL_law (wsV RL 116 RX8 yX8_push wsX8_push) := goodIn_app (goodIn_of _ (by decide +kernel)) ggL_law_X8_push
set_option maxRecDepth 20000 in
theorem ggL_law_X9_push : GoodIn wsL_law wsX9_push := goodIn_r _ [632, 170, 68, 70, 580, 581, 5, 582, 172, 173, 174, 633, 634, 635, 636, 67, 69, 693, 694, 695, 696, 697, 698, 699, 700, 701, 702, 703, 704, 705, 706, 707, 708, 709] rfl (by decide +kernel)
set_option maxRecDepth 20000 in
theorem gL_law_X9_push : GoodIn wsL_law (wsV RL 119 RX9 yX9_push wsX9_push) := goodIn_app (goodIn_of _ (by decide +kernel)) ggL_law_X9_push
set_option maxRecDepth 20000 in
theorem ggL_law_X8_way : GoodIn wsL_law wsX8_way := goodIn_r _ [640, 27, 572, 573, 574, 2, 575, 21, 87, 88, 89, 609, 610, 611, 23, 612, 43, 46, 47, 641, 642, 643, 26, 644, 57, 56, 58, 645, 49, 50, 51, 646, 647, 648, 649, 59, 55, 650, 626, 627, 628, 38, 600, 592, 593, 594, 44, 688, 689, 690, 691, 692, 712, 713, 714, 715, 716, 717, 718, 719, 720] rfl (by decide +kernel)
set_option maxRecDepth 20000 in
theorem gL_law_X8_way : GoodIn wsL_law (wsV RL 120 RX8 yX8_way wsX8_way) := goodIn_app (goodIn_of _ (by decide +kernel)) ggL_law_X8_way
set_option maxRecDepth 20000 in
theorem ggL_law_X9_way : GoodIn wsL_law wsX9_way := goodIn_r _ [654, 170, 73, 72, 70, 68, 74, 580, 581, 5, 582, 172, 173, 174, 617, 618, 619, 620, 67, 655, 656, 657, 658, 659, 71, 633, 634, 635, 636, 69, 693, 694, 695, 696, 697, 698, 699, 700, 701, 702, 703, 704, 705, 706, 707, 708, 709] rfl (by decide +kernel)
set_option maxRecDepth 20000 in
theorem gL_law_X9_way : GoodIn wsL_law (wsV RL 123 RX9 yX9_way wsX9_way) := goodIn_app (goodIn_of _ (by decide +kernel)) ggL_law_X9_way
set_option maxRecDepth 20000 in
theorem ggL_law_X8_button : GoodIn wsL_law wsX8_button := goodIn_r _ [663, 27, 664, 665, 666, 26, 667, 59, 55, 88, 2, 89, 688, 689, 690, 691, 692, 716, 717, 718, 719, 720] rfl (by decide +kernel)
set_option maxRecDepth 20000 in
theorem gL_law_X8_button : GoodIn wsL_law (wsV RL 124 RX8 yX8_button wsX8_button) := goodIn_app (goodIn_of _ (by decide +kernel)) ggL_law_X8_button
set_option maxRecDepth 20000 in
theorem ggL_law_X9_button : GoodIn wsL_law wsX9_button := goodIn_r _ [671, 170, 659, 71, 172, 173, 5, 174, 693, 694, 695, 696, 697, 698, 699, 700, 701, 702, 703, 704, 705, 706, 707, 708, 709] rfl (by decide +kernel)
set_option maxRecDepth 20000 in
theorem gL_law_X9_button : GoodIn wsL_law (wsV RL 127 RX9 yX9_button wsX9_button) := goodIn_app (goodIn_of _ (by decide +kernel)) ggL_law_X9_button
set_option maxRecDepth 20000 in
theorem ggL_law_X8_told : GoodIn wsL_law wsX8_told := goodIn_r _ [675, 572, 573, 574, 2, 575, 21, 87, 88, 89, 712, 713, 714, 715, 688, 689, 690, 691, 692] rfl (by decide +kernel)
set_option maxRecDepth 20000 in
theorem gL_law_X8_told : GoodIn wsL_law (wsV RL 128 RX8 yX8_told wsX8_told) := goodIn_app (goodIn_of _ (by decide +kernel)) ggL_law_X8_told
set_option maxRecDepth 20000 in
theorem ggL_law_X9_told : GoodIn wsL_law wsX9_told := goodIn_r _ [679, 170, 67, 68, 70, 580, 581, 5, 582, 172, 173, 174, 693, 694, 695, 696, 697, 698, 699, 700, 701, 702, 703, 704, 705, 706, 707, 708, 709] rfl (by decide +kernel)
set_option maxRecDepth 20000 in
theorem gL_law_X9_told : GoodIn wsL_law (wsV RL 131 RX9 yX9_told wsX9_told) := goodIn_app (goodIn_of _ (by decide +kernel)) ggL_law_X9_told
set_option maxRecDepth 20000 in
theorem ggL_law_X8_count : GoodIn wsL_law wsX8_count := goodIn_r _ [683, 19, 16, 27, 688, 689, 690, 691, 692, 710, 711, 716, 717, 718, 719, 720] rfl (by decide +kernel)
set_option maxRecDepth 20000 in
theorem gL_law_X8_count : GoodIn wsL_law (wsV RL 132 RX8 yX8_count wsX8_count) := goodIn_app (goodIn_of _ (by decide +kernel)) ggL_law_X8_count
set_option maxRecDepth 20000 in
theorem ggL_law_X9_count : GoodIn wsL_law wsX9_count := goodIn_r _ [687, 170, 171, 207, 659, 693, 694, 695, 696, 697, 698, 699, 700, 701, 702, 703, 704, 705, 706, 707, 708, 709] rfl (by decide +kernel)
set_option maxRecDepth 20000 in
theorem gL_law_X9_count : GoodIn wsL_law (wsV RL 135 RX9 yX9_count wsX9_count) := goodIn_app (goodIn_of _ (by decide +kernel)) ggL_law_X9_count
theorem dL_law_0 : decode cL_law 0 = .ok (.new 8, 3) := by decide +kernel
theorem dL_law_3 : decode cL_law 3 = .ok (.dup, 1) := by decide +kernel
theorem dL_law_4 : decode cL_law 4 = .ok (.invokespecial 15, 3) := by decide +kernel
theorem dL_law_7 : decode cL_law 7 = .ok (.astore_n 1, 1) := by decide +kernel
theorem dL_law_8 : decode cL_law 8 = .ok (.new 16, 3) := by decide +kernel
theorem dL_law_11 : decode cL_law 11 = .ok (.dup, 1) := by decide +kernel
theorem dL_law_12 : decode cL_law 12 = .ok (.invokespecial 18, 3) := by decide +kernel
theorem dL_law_15 : decode cL_law 15 = .ok (.astore_n 2, 1) := by decide +kernel
theorem dL_law_16 : decode cL_law 16 = .ok (.iconst 1, 1) := by decide +kernel
theorem dL_law_17 : decode cL_law 17 = .ok (.newarray .long, 2) := by decide +kernel
theorem dL_law_19 : decode cL_law 19 = .ok (.astore_n 3, 1) := by decide +kernel
theorem dL_law_20 : decode cL_law 20 = .ok (.iconst 0, 1) := by decide +kernel
theorem dL_law_21 : decode cL_law 21 = .ok (.istore 4, 2) := by decide +kernel
theorem dL_law_23 : decode cL_law 23 = .ok (.iload 4, 2) := by decide +kernel
theorem dL_law_25 : decode cL_law 25 = .ok (.aload_n 0, 1) := by decide +kernel
theorem dL_law_26 : decode cL_law 26 = .ok (.arraylength, 1) := by decide +kernel
theorem dL_law_27 : decode cL_law 27 = .ok (.bipush 8, 2) := by decide +kernel
theorem dL_law_29 : decode cL_law 29 = .ok (.isub, 1) := by decide +kernel
theorem dL_law_30 : decode cL_law 30 = .ok (.if_icmp .gt 1169, 3) := by decide +kernel
theorem dL_law_33 : decode cL_law 33 = .ok (.aload_n 0, 1) := by decide +kernel
theorem dL_law_34 : decode cL_law 34 = .ok (.iload 4, 2) := by decide +kernel
theorem dL_law_36 : decode cL_law 36 = .ok (.iaload, 1) := by decide +kernel
theorem dL_law_37 : decode cL_law 37 = .ok (.bipush 31, 2) := by decide +kernel
theorem dL_law_39 : decode cL_law 39 = .ok (.iand, 1) := by decide +kernel
theorem dL_law_40 : decode cL_law 40 = .ok (.tableswitch 1153 0 25 #[120, 221, 270, 343, 368, 405, 461, 486, 499, 524, 561, 598, 635, 672, 709, 746, 771, 808, 845, 894, 955, 992, 1029, 1066, 1091, 1128], 120) := by decide +kernel
theorem dL_law_160 : decode cL_law 160 = .ok (.aload_n 1, 1) := by decide +kernel
theorem dL_law_161 : decode cL_law 161 = .ok (.aload_n 0, 1) := by decide +kernel
theorem dL_law_162 : decode cL_law 162 = .ok (.iload 4, 2) := by decide +kernel
theorem dL_law_164 : decode cL_law 164 = .ok (.iconst 1, 1) := by decide +kernel
theorem dL_law_165 : decode cL_law 165 = .ok (.iadd, 1) := by decide +kernel
theorem dL_law_166 : decode cL_law 166 = .ok (.iaload, 1) := by decide +kernel
theorem dL_law_167 : decode cL_law 167 = .ok (.aload_n 0, 1) := by decide +kernel
theorem dL_law_168 : decode cL_law 168 = .ok (.iload 4, 2) := by decide +kernel
theorem dL_law_170 : decode cL_law 170 = .ok (.iconst 2, 1) := by decide +kernel
theorem dL_law_171 : decode cL_law 171 = .ok (.iadd, 1) := by decide +kernel
theorem dL_law_172 : decode cL_law 172 = .ok (.iaload, 1) := by decide +kernel
theorem dL_law_173 : decode cL_law 173 = .ok (.aload_n 0, 1) := by decide +kernel
theorem dL_law_174 : decode cL_law 174 = .ok (.iload 4, 2) := by decide +kernel
theorem dL_law_176 : decode cL_law 176 = .ok (.iconst 3, 1) := by decide +kernel
theorem dL_law_177 : decode cL_law 177 = .ok (.iadd, 1) := by decide +kernel
theorem dL_law_178 : decode cL_law 178 = .ok (.iaload, 1) := by decide +kernel
theorem dL_law_179 : decode cL_law 179 = .ok (.aload_n 0, 1) := by decide +kernel
theorem dL_law_180 : decode cL_law 180 = .ok (.iload 4, 2) := by decide +kernel
theorem dL_law_182 : decode cL_law 182 = .ok (.iconst 4, 1) := by decide +kernel
theorem dL_law_183 : decode cL_law 183 = .ok (.iadd, 1) := by decide +kernel
theorem dL_law_184 : decode cL_law 184 = .ok (.iaload, 1) := by decide +kernel
theorem dL_law_185 : decode cL_law 185 = .ok (.aload_n 0, 1) := by decide +kernel
theorem dL_law_186 : decode cL_law 186 = .ok (.iload 4, 2) := by decide +kernel
theorem dL_law_188 : decode cL_law 188 = .ok (.iconst 5, 1) := by decide +kernel
theorem dL_law_189 : decode cL_law 189 = .ok (.iadd, 1) := by decide +kernel
theorem dL_law_190 : decode cL_law 190 = .ok (.iaload, 1) := by decide +kernel
theorem dL_law_191 : decode cL_law 191 = .ok (.aload_n 0, 1) := by decide +kernel
theorem dL_law_192 : decode cL_law 192 = .ok (.iload 4, 2) := by decide +kernel
theorem dL_law_194 : decode cL_law 194 = .ok (.bipush 6, 2) := by decide +kernel
theorem dL_law_196 : decode cL_law 196 = .ok (.iadd, 1) := by decide +kernel
theorem dL_law_197 : decode cL_law 197 = .ok (.iaload, 1) := by decide +kernel
theorem dL_law_198 : decode cL_law 198 = .ok (.aload_n 0, 1) := by decide +kernel
theorem dL_law_199 : decode cL_law 199 = .ok (.iload 4, 2) := by decide +kernel
theorem dL_law_201 : decode cL_law 201 = .ok (.bipush 7, 2) := by decide +kernel
theorem dL_law_203 : decode cL_law 203 = .ok (.iadd, 1) := by decide +kernel
theorem dL_law_204 : decode cL_law 204 = .ok (.iaload, 1) := by decide +kernel
theorem dL_law_205 : decode cL_law 205 = .ok (.invokevirtual 19, 3) := by decide +kernel
theorem dL_law_208 : decode cL_law 208 = .ok (.aload_n 2, 1) := by decide +kernel
theorem dL_law_209 : decode cL_law 209 = .ok (.aload_n 0, 1) := by decide +kernel
theorem dL_law_210 : decode cL_law 210 = .ok (.iload 4, 2) := by decide +kernel
theorem dL_law_212 : decode cL_law 212 = .ok (.iconst 1, 1) := by decide +kernel
theorem dL_law_213 : decode cL_law 213 = .ok (.iadd, 1) := by decide +kernel
theorem dL_law_214 : decode cL_law 214 = .ok (.iaload, 1) := by decide +kernel
theorem dL_law_215 : decode cL_law 215 = .ok (.aload_n 0, 1) := by decide +kernel
theorem dL_law_216 : decode cL_law 216 = .ok (.iload 4, 2) := by decide +kernel
theorem dL_law_218 : decode cL_law 218 = .ok (.iconst 2, 1) := by decide +kernel
theorem dL_law_219 : decode cL_law 219 = .ok (.iadd, 1) := by decide +kernel
theorem dL_law_220 : decode cL_law 220 = .ok (.iaload, 1) := by decide +kernel
theorem dL_law_221 : decode cL_law 221 = .ok (.aload_n 0, 1) := by decide +kernel
theorem dL_law_222 : decode cL_law 222 = .ok (.iload 4, 2) := by decide +kernel
theorem dL_law_224 : decode cL_law 224 = .ok (.iconst 3, 1) := by decide +kernel
theorem dL_law_225 : decode cL_law 225 = .ok (.iadd, 1) := by decide +kernel
theorem dL_law_226 : decode cL_law 226 = .ok (.iaload, 1) := by decide +kernel
theorem dL_law_227 : decode cL_law 227 = .ok (.aload_n 0, 1) := by decide +kernel
theorem dL_law_228 : decode cL_law 228 = .ok (.iload 4, 2) := by decide +kernel
theorem dL_law_230 : decode cL_law 230 = .ok (.iconst 4, 1) := by decide +kernel
theorem dL_law_231 : decode cL_law 231 = .ok (.iadd, 1) := by decide +kernel
theorem dL_law_232 : decode cL_law 232 = .ok (.iaload, 1) := by decide +kernel
theorem dL_law_233 : decode cL_law 233 = .ok (.aload_n 0, 1) := by decide +kernel
theorem dL_law_234 : decode cL_law 234 = .ok (.iload 4, 2) := by decide +kernel
theorem dL_law_236 : decode cL_law 236 = .ok (.iconst 5, 1) := by decide +kernel
theorem dL_law_237 : decode cL_law 237 = .ok (.iadd, 1) := by decide +kernel
theorem dL_law_238 : decode cL_law 238 = .ok (.iaload, 1) := by decide +kernel
theorem dL_law_239 : decode cL_law 239 = .ok (.aload_n 0, 1) := by decide +kernel
theorem dL_law_240 : decode cL_law 240 = .ok (.iload 4, 2) := by decide +kernel
theorem dL_law_242 : decode cL_law 242 = .ok (.bipush 6, 2) := by decide +kernel
theorem dL_law_244 : decode cL_law 244 = .ok (.iadd, 1) := by decide +kernel
theorem dL_law_245 : decode cL_law 245 = .ok (.iaload, 1) := by decide +kernel
theorem dL_law_246 : decode cL_law 246 = .ok (.aload_n 0, 1) := by decide +kernel
theorem dL_law_247 : decode cL_law 247 = .ok (.iload 4, 2) := by decide +kernel
theorem dL_law_249 : decode cL_law 249 = .ok (.bipush 7, 2) := by decide +kernel
theorem dL_law_251 : decode cL_law 251 = .ok (.iadd, 1) := by decide +kernel
theorem dL_law_252 : decode cL_law 252 = .ok (.iaload, 1) := by decide +kernel
theorem dL_law_253 : decode cL_law 253 = .ok (.invokevirtual 23, 3) := by decide +kernel
theorem dL_law_256 : decode cL_law 256 = .ok (.if_icmp .eq 937, 3) := by decide +kernel
theorem dL_law_259 : decode cL_law 259 = .ok (.iconst 0, 1) := by decide +kernel
theorem dL_law_260 : decode cL_law 260 = .ok (.ireturn, 1) := by decide +kernel
theorem dL_law_261 : decode cL_law 261 = .ok (.aload_n 1, 1) := by decide +kernel
theorem dL_law_262 : decode cL_law 262 = .ok (.aload_n 0, 1) := by decide +kernel
theorem dL_law_263 : decode cL_law 263 = .ok (.iload 4, 2) := by decide +kernel
theorem dL_law_265 : decode cL_law 265 = .ok (.iconst 1, 1) := by decide +kernel
theorem dL_law_266 : decode cL_law 266 = .ok (.iadd, 1) := by decide +kernel
theorem dL_law_267 : decode cL_law 267 = .ok (.iaload, 1) := by decide +kernel
theorem dL_law_268 : decode cL_law 268 = .ok (.aload_n 0, 1) := by decide +kernel
theorem dL_law_269 : decode cL_law 269 = .ok (.iload 4, 2) := by decide +kernel
theorem dL_law_271 : decode cL_law 271 = .ok (.iconst 2, 1) := by decide +kernel
theorem dL_law_272 : decode cL_law 272 = .ok (.iadd, 1) := by decide +kernel
theorem dL_law_273 : decode cL_law 273 = .ok (.iaload, 1) := by decide +kernel
theorem dL_law_274 : decode cL_law 274 = .ok (.aload_n 0, 1) := by decide +kernel
theorem dL_law_275 : decode cL_law 275 = .ok (.iload 4, 2) := by decide +kernel
theorem dL_law_277 : decode cL_law 277 = .ok (.iconst 3, 1) := by decide +kernel
theorem dL_law_278 : decode cL_law 278 = .ok (.iadd, 1) := by decide +kernel
theorem dL_law_279 : decode cL_law 279 = .ok (.iaload, 1) := by decide +kernel
theorem dL_law_280 : decode cL_law 280 = .ok (.invokevirtual 24, 3) := by decide +kernel
theorem dL_law_283 : decode cL_law 283 = .ok (.aload_n 2, 1) := by decide +kernel
theorem dL_law_284 : decode cL_law 284 = .ok (.aload_n 0, 1) := by decide +kernel
theorem dL_law_285 : decode cL_law 285 = .ok (.iload 4, 2) := by decide +kernel
theorem dL_law_287 : decode cL_law 287 = .ok (.iconst 1, 1) := by decide +kernel
theorem dL_law_288 : decode cL_law 288 = .ok (.iadd, 1) := by decide +kernel
theorem dL_law_289 : decode cL_law 289 = .ok (.iaload, 1) := by decide +kernel
theorem dL_law_290 : decode cL_law 290 = .ok (.aload_n 0, 1) := by decide +kernel
theorem dL_law_291 : decode cL_law 291 = .ok (.iload 4, 2) := by decide +kernel
theorem dL_law_293 : decode cL_law 293 = .ok (.iconst 2, 1) := by decide +kernel
theorem dL_law_294 : decode cL_law 294 = .ok (.iadd, 1) := by decide +kernel
theorem dL_law_295 : decode cL_law 295 = .ok (.iaload, 1) := by decide +kernel
theorem dL_law_296 : decode cL_law 296 = .ok (.aload_n 0, 1) := by decide +kernel
theorem dL_law_297 : decode cL_law 297 = .ok (.iload 4, 2) := by decide +kernel
theorem dL_law_299 : decode cL_law 299 = .ok (.iconst 3, 1) := by decide +kernel
theorem dL_law_300 : decode cL_law 300 = .ok (.iadd, 1) := by decide +kernel
theorem dL_law_301 : decode cL_law 301 = .ok (.iaload, 1) := by decide +kernel
theorem dL_law_302 : decode cL_law 302 = .ok (.invokevirtual 28, 3) := by decide +kernel
theorem dL_law_305 : decode cL_law 305 = .ok (.if_icmp .eq 888, 3) := by decide +kernel
theorem dL_law_308 : decode cL_law 308 = .ok (.iconst 0, 1) := by decide +kernel
theorem dL_law_309 : decode cL_law 309 = .ok (.ireturn, 1) := by decide +kernel
theorem dL_law_310 : decode cL_law 310 = .ok (.aload_n 1, 1) := by decide +kernel
theorem dL_law_311 : decode cL_law 311 = .ok (.aload_n 0, 1) := by decide +kernel
theorem dL_law_312 : decode cL_law 312 = .ok (.iload 4, 2) := by decide +kernel
theorem dL_law_314 : decode cL_law 314 = .ok (.iconst 1, 1) := by decide +kernel
theorem dL_law_315 : decode cL_law 315 = .ok (.iadd, 1) := by decide +kernel
theorem dL_law_316 : decode cL_law 316 = .ok (.iaload, 1) := by decide +kernel
theorem dL_law_317 : decode cL_law 317 = .ok (.aload_n 0, 1) := by decide +kernel
theorem dL_law_318 : decode cL_law 318 = .ok (.iload 4, 2) := by decide +kernel
theorem dL_law_320 : decode cL_law 320 = .ok (.iconst 2, 1) := by decide +kernel
theorem dL_law_321 : decode cL_law 321 = .ok (.iadd, 1) := by decide +kernel
theorem dL_law_322 : decode cL_law 322 = .ok (.iaload, 1) := by decide +kernel
theorem dL_law_323 : decode cL_law 323 = .ok (.aload_n 0, 1) := by decide +kernel
theorem dL_law_324 : decode cL_law 324 = .ok (.iload 4, 2) := by decide +kernel
theorem dL_law_326 : decode cL_law 326 = .ok (.iconst 3, 1) := by decide +kernel
theorem dL_law_327 : decode cL_law 327 = .ok (.iadd, 1) := by decide +kernel
theorem dL_law_328 : decode cL_law 328 = .ok (.iaload, 1) := by decide +kernel
theorem dL_law_329 : decode cL_law 329 = .ok (.aload_n 0, 1) := by decide +kernel
theorem dL_law_330 : decode cL_law 330 = .ok (.iload 4, 2) := by decide +kernel
theorem dL_law_332 : decode cL_law 332 = .ok (.iconst 4, 1) := by decide +kernel
theorem dL_law_333 : decode cL_law 333 = .ok (.iadd, 1) := by decide +kernel
theorem dL_law_334 : decode cL_law 334 = .ok (.iaload, 1) := by decide +kernel
theorem dL_law_335 : decode cL_law 335 = .ok (.aload_n 0, 1) := by decide +kernel
theorem dL_law_336 : decode cL_law 336 = .ok (.iload 4, 2) := by decide +kernel
theorem dL_law_338 : decode cL_law 338 = .ok (.iconst 5, 1) := by decide +kernel
theorem dL_law_339 : decode cL_law 339 = .ok (.iadd, 1) := by decide +kernel
theorem dL_law_340 : decode cL_law 340 = .ok (.iaload, 1) := by decide +kernel
theorem dL_law_341 : decode cL_law 341 = .ok (.invokevirtual 29, 3) := by decide +kernel
theorem dL_law_344 : decode cL_law 344 = .ok (.aload_n 2, 1) := by decide +kernel
theorem dL_law_345 : decode cL_law 345 = .ok (.aload_n 0, 1) := by decide +kernel
theorem dL_law_346 : decode cL_law 346 = .ok (.iload 4, 2) := by decide +kernel
theorem dL_law_348 : decode cL_law 348 = .ok (.iconst 1, 1) := by decide +kernel
theorem dL_law_349 : decode cL_law 349 = .ok (.iadd, 1) := by decide +kernel
theorem dL_law_350 : decode cL_law 350 = .ok (.iaload, 1) := by decide +kernel
theorem dL_law_351 : decode cL_law 351 = .ok (.aload_n 0, 1) := by decide +kernel
theorem dL_law_352 : decode cL_law 352 = .ok (.iload 4, 2) := by decide +kernel
theorem dL_law_354 : decode cL_law 354 = .ok (.iconst 2, 1) := by decide +kernel
theorem dL_law_355 : decode cL_law 355 = .ok (.iadd, 1) := by decide +kernel
theorem dL_law_356 : decode cL_law 356 = .ok (.iaload, 1) := by decide +kernel
theorem dL_law_357 : decode cL_law 357 = .ok (.aload_n 0, 1) := by decide +kernel
theorem dL_law_358 : decode cL_law 358 = .ok (.iload 4, 2) := by decide +kernel
theorem dL_law_360 : decode cL_law 360 = .ok (.iconst 3, 1) := by decide +kernel
theorem dL_law_361 : decode cL_law 361 = .ok (.iadd, 1) := by decide +kernel
theorem dL_law_362 : decode cL_law 362 = .ok (.iaload, 1) := by decide +kernel
theorem dL_law_363 : decode cL_law 363 = .ok (.aload_n 0, 1) := by decide +kernel
theorem dL_law_364 : decode cL_law 364 = .ok (.iload 4, 2) := by decide +kernel
theorem dL_law_366 : decode cL_law 366 = .ok (.iconst 4, 1) := by decide +kernel
theorem dL_law_367 : decode cL_law 367 = .ok (.iadd, 1) := by decide +kernel
theorem dL_law_368 : decode cL_law 368 = .ok (.iaload, 1) := by decide +kernel
theorem dL_law_369 : decode cL_law 369 = .ok (.aload_n 0, 1) := by decide +kernel
theorem dL_law_370 : decode cL_law 370 = .ok (.iload 4, 2) := by decide +kernel
theorem dL_law_372 : decode cL_law 372 = .ok (.iconst 5, 1) := by decide +kernel
theorem dL_law_373 : decode cL_law 373 = .ok (.iadd, 1) := by decide +kernel
theorem dL_law_374 : decode cL_law 374 = .ok (.iaload, 1) := by decide +kernel
theorem dL_law_375 : decode cL_law 375 = .ok (.invokevirtual 33, 3) := by decide +kernel
theorem dL_law_378 : decode cL_law 378 = .ok (.if_icmp .eq 815, 3) := by decide +kernel
theorem dL_law_381 : decode cL_law 381 = .ok (.iconst 0, 1) := by decide +kernel
theorem dL_law_382 : decode cL_law 382 = .ok (.ireturn, 1) := by decide +kernel
theorem dL_law_383 : decode cL_law 383 = .ok (.aload_n 1, 1) := by decide +kernel
theorem dL_law_384 : decode cL_law 384 = .ok (.aload_n 0, 1) := by decide +kernel
theorem dL_law_385 : decode cL_law 385 = .ok (.iload 4, 2) := by decide +kernel
theorem dL_law_387 : decode cL_law 387 = .ok (.iconst 1, 1) := by decide +kernel
theorem dL_law_388 : decode cL_law 388 = .ok (.iadd, 1) := by decide +kernel
theorem dL_law_389 : decode cL_law 389 = .ok (.iaload, 1) := by decide +kernel
theorem dL_law_390 : decode cL_law 390 = .ok (.invokevirtual 34, 3) := by decide +kernel
theorem dL_law_393 : decode cL_law 393 = .ok (.aload_n 2, 1) := by decide +kernel
theorem dL_law_394 : decode cL_law 394 = .ok (.aload_n 0, 1) := by decide +kernel
theorem dL_law_395 : decode cL_law 395 = .ok (.iload 4, 2) := by decide +kernel
theorem dL_law_397 : decode cL_law 397 = .ok (.iconst 1, 1) := by decide +kernel
theorem dL_law_398 : decode cL_law 398 = .ok (.iadd, 1) := by decide +kernel
theorem dL_law_399 : decode cL_law 399 = .ok (.iaload, 1) := by decide +kernel
theorem dL_law_400 : decode cL_law 400 = .ok (.invokevirtual 38, 3) := by decide +kernel
theorem dL_law_403 : decode cL_law 403 = .ok (.if_icmp .eq 790, 3) := by decide +kernel
theorem dL_law_406 : decode cL_law 406 = .ok (.iconst 0, 1) := by decide +kernel
theorem dL_law_407 : decode cL_law 407 = .ok (.ireturn, 1) := by decide +kernel
theorem dL_law_408 : decode cL_law 408 = .ok (.aload_n 1, 1) := by decide +kernel
theorem dL_law_409 : decode cL_law 409 = .ok (.aload_n 0, 1) := by decide +kernel
theorem dL_law_410 : decode cL_law 410 = .ok (.iload 4, 2) := by decide +kernel
theorem dL_law_412 : decode cL_law 412 = .ok (.iconst 1, 1) := by decide +kernel
theorem dL_law_413 : decode cL_law 413 = .ok (.iadd, 1) := by decide +kernel
theorem dL_law_414 : decode cL_law 414 = .ok (.iaload, 1) := by decide +kernel
theorem dL_law_415 : decode cL_law 415 = .ok (.aload_n 0, 1) := by decide +kernel
theorem dL_law_416 : decode cL_law 416 = .ok (.iload 4, 2) := by decide +kernel
theorem dL_law_418 : decode cL_law 418 = .ok (.iconst 2, 1) := by decide +kernel
theorem dL_law_419 : decode cL_law 419 = .ok (.iadd, 1) := by decide +kernel
theorem dL_law_420 : decode cL_law 420 = .ok (.iaload, 1) := by decide +kernel
theorem dL_law_421 : decode cL_law 421 = .ok (.invokevirtual 39, 3) := by decide +kernel
theorem dL_law_424 : decode cL_law 424 = .ok (.aload_n 2, 1) := by decide +kernel
theorem dL_law_425 : decode cL_law 425 = .ok (.aload_n 0, 1) := by decide +kernel
theorem dL_law_426 : decode cL_law 426 = .ok (.iload 4, 2) := by decide +kernel
theorem dL_law_428 : decode cL_law 428 = .ok (.iconst 1, 1) := by decide +kernel
theorem dL_law_429 : decode cL_law 429 = .ok (.iadd, 1) := by decide +kernel
theorem dL_law_430 : decode cL_law 430 = .ok (.iaload, 1) := by decide +kernel
theorem dL_law_431 : decode cL_law 431 = .ok (.aload_n 0, 1) := by decide +kernel
theorem dL_law_432 : decode cL_law 432 = .ok (.iload 4, 2) := by decide +kernel
theorem dL_law_434 : decode cL_law 434 = .ok (.iconst 2, 1) := by decide +kernel
theorem dL_law_435 : decode cL_law 435 = .ok (.iadd, 1) := by decide +kernel
theorem dL_law_436 : decode cL_law 436 = .ok (.iaload, 1) := by decide +kernel
theorem dL_law_437 : decode cL_law 437 = .ok (.invokevirtual 43, 3) := by decide +kernel
theorem dL_law_440 : decode cL_law 440 = .ok (.if_icmp .eq 753, 3) := by decide +kernel
theorem dL_law_443 : decode cL_law 443 = .ok (.iconst 0, 1) := by decide +kernel
theorem dL_law_444 : decode cL_law 444 = .ok (.ireturn, 1) := by decide +kernel
theorem dL_law_445 : decode cL_law 445 = .ok (.aload_n 1, 1) := by decide +kernel
theorem dL_law_446 : decode cL_law 446 = .ok (.aload_n 0, 1) := by decide +kernel
theorem dL_law_447 : decode cL_law 447 = .ok (.iload 4, 2) := by decide +kernel
theorem dL_law_449 : decode cL_law 449 = .ok (.iconst 1, 1) := by decide +kernel
theorem dL_law_450 : decode cL_law 450 = .ok (.iadd, 1) := by decide +kernel
theorem dL_law_451 : decode cL_law 451 = .ok (.iaload, 1) := by decide +kernel
theorem dL_law_452 : decode cL_law 452 = .ok (.aload_n 3, 1) := by decide +kernel
theorem dL_law_453 : decode cL_law 453 = .ok (.invokestatic 44, 3) := by decide +kernel
theorem dL_law_456 : decode cL_law 456 = .ok (.istore 5, 2) := by decide +kernel
theorem dL_law_458 : decode cL_law 458 = .ok (.aload_n 2, 1) := by decide +kernel
theorem dL_law_459 : decode cL_law 459 = .ok (.aload_n 0, 1) := by decide +kernel
theorem dL_law_460 : decode cL_law 460 = .ok (.iload 4, 2) := by decide +kernel
theorem dL_law_462 : decode cL_law 462 = .ok (.iconst 1, 1) := by decide +kernel
theorem dL_law_463 : decode cL_law 463 = .ok (.iadd, 1) := by decide +kernel
theorem dL_law_464 : decode cL_law 464 = .ok (.iaload, 1) := by decide +kernel
theorem dL_law_465 : decode cL_law 465 = .ok (.invokevirtual 49, 3) := by decide +kernel
theorem dL_law_468 : decode cL_law 468 = .ok (.istore 6, 2) := by decide +kernel
theorem dL_law_470 : decode cL_law 470 = .ok (.aload_n 2, 1) := by decide +kernel
theorem dL_law_471 : decode cL_law 471 = .ok (.invokevirtual 50, 3) := by decide +kernel
theorem dL_law_474 : decode cL_law 474 = .ok (.iload 5, 2) := by decide +kernel
theorem dL_law_476 : decode cL_law 476 = .ok (.if_icmp .eq 5, 3) := by decide +kernel
theorem dL_law_479 : decode cL_law 479 = .ok (.iconst 0, 1) := by decide +kernel
theorem dL_law_480 : decode cL_law 480 = .ok (.ireturn, 1) := by decide +kernel
theorem dL_law_481 : decode cL_law 481 = .ok (.iload 5, 2) := by decide +kernel
theorem dL_law_483 : decode cL_law 483 = .ok (.ifCond .ne 15, 3) := by decide +kernel
theorem dL_law_486 : decode cL_law 486 = .ok (.aload_n 3, 1) := by decide +kernel
theorem dL_law_487 : decode cL_law 487 = .ok (.iconst 0, 1) := by decide +kernel
theorem dL_law_488 : decode cL_law 488 = .ok (.laload, 1) := by decide +kernel
theorem dL_law_489 : decode cL_law 489 = .ok (.iload 6, 2) := by decide +kernel
theorem dL_law_491 : decode cL_law 491 = .ok (.i2l, 1) := by decide +kernel
theorem dL_law_492 : decode cL_law 492 = .ok (.lcmp, 1) := by decide +kernel
theorem dL_law_493 : decode cL_law 493 = .ok (.ifCond .eq 5, 3) := by decide +kernel
theorem dL_law_496 : decode cL_law 496 = .ok (.iconst 0, 1) := by decide +kernel
theorem dL_law_497 : decode cL_law 497 = .ok (.ireturn, 1) := by decide +kernel
theorem dL_law_498 : decode cL_law 498 = .ok (.goto 695, 3) := by decide +kernel
theorem dL_law_501 : decode cL_law 501 = .ok (.aload_n 1, 1) := by decide +kernel
theorem dL_law_502 : decode cL_law 502 = .ok (.aload_n 0, 1) := by decide +kernel
theorem dL_law_503 : decode cL_law 503 = .ok (.iload 4, 2) := by decide +kernel
theorem dL_law_505 : decode cL_law 505 = .ok (.iconst 1, 1) := by decide +kernel
theorem dL_law_506 : decode cL_law 506 = .ok (.iadd, 1) := by decide +kernel
theorem dL_law_507 : decode cL_law 507 = .ok (.iaload, 1) := by decide +kernel
theorem dL_law_508 : decode cL_law 508 = .ok (.invokevirtual 54, 3) := by decide +kernel
theorem dL_law_511 : decode cL_law 511 = .ok (.aload_n 2, 1) := by decide +kernel
theorem dL_law_512 : decode cL_law 512 = .ok (.aload_n 0, 1) := by decide +kernel
theorem dL_law_513 : decode cL_law 513 = .ok (.iload 4, 2) := by decide +kernel
theorem dL_law_515 : decode cL_law 515 = .ok (.iconst 1, 1) := by decide +kernel
theorem dL_law_516 : decode cL_law 516 = .ok (.iadd, 1) := by decide +kernel
theorem dL_law_517 : decode cL_law 517 = .ok (.iaload, 1) := by decide +kernel
theorem dL_law_518 : decode cL_law 518 = .ok (.invokevirtual 57, 3) := by decide +kernel
theorem dL_law_521 : decode cL_law 521 = .ok (.if_icmp .eq 672, 3) := by decide +kernel
theorem dL_law_524 : decode cL_law 524 = .ok (.iconst 0, 1) := by decide +kernel
theorem dL_law_525 : decode cL_law 525 = .ok (.ireturn, 1) := by decide +kernel
theorem dL_law_526 : decode cL_law 526 = .ok (.aload_n 1, 1) := by decide +kernel
theorem dL_law_527 : decode cL_law 527 = .ok (.invokevirtual 58, 3) := by decide +kernel
theorem dL_law_530 : decode cL_law 530 = .ok (.aload_n 2, 1) := by decide +kernel
theorem dL_law_531 : decode cL_law 531 = .ok (.invokevirtual 61, 3) := by decide +kernel
theorem dL_law_534 : decode cL_law 534 = .ok (.if_icmp .eq 659, 3) := by decide +kernel
theorem dL_law_537 : decode cL_law 537 = .ok (.iconst 0, 1) := by decide +kernel
theorem dL_law_538 : decode cL_law 538 = .ok (.ireturn, 1) := by decide +kernel
theorem dL_law_539 : decode cL_law 539 = .ok (.aload_n 1, 1) := by decide +kernel
theorem dL_law_540 : decode cL_law 540 = .ok (.aload_n 0, 1) := by decide +kernel
theorem dL_law_541 : decode cL_law 541 = .ok (.iload 4, 2) := by decide +kernel
theorem dL_law_543 : decode cL_law 543 = .ok (.iconst 1, 1) := by decide +kernel
theorem dL_law_544 : decode cL_law 544 = .ok (.iadd, 1) := by decide +kernel
theorem dL_law_545 : decode cL_law 545 = .ok (.iaload, 1) := by decide +kernel
theorem dL_law_546 : decode cL_law 546 = .ok (.invokevirtual 62, 3) := by decide +kernel
theorem dL_law_549 : decode cL_law 549 = .ok (.aload_n 2, 1) := by decide +kernel
theorem dL_law_550 : decode cL_law 550 = .ok (.aload_n 0, 1) := by decide +kernel
theorem dL_law_551 : decode cL_law 551 = .ok (.iload 4, 2) := by decide +kernel
theorem dL_law_553 : decode cL_law 553 = .ok (.iconst 1, 1) := by decide +kernel
theorem dL_law_554 : decode cL_law 554 = .ok (.iadd, 1) := by decide +kernel
theorem dL_law_555 : decode cL_law 555 = .ok (.iaload, 1) := by decide +kernel
theorem dL_law_556 : decode cL_law 556 = .ok (.invokevirtual 65, 3) := by decide +kernel
theorem dL_law_559 : decode cL_law 559 = .ok (.if_icmp .eq 634, 3) := by decide +kernel
theorem dL_law_562 : decode cL_law 562 = .ok (.iconst 0, 1) := by decide +kernel
theorem dL_law_563 : decode cL_law 563 = .ok (.ireturn, 1) := by decide +kernel
theorem dL_law_564 : decode cL_law 564 = .ok (.aload_n 1, 1) := by decide +kernel
theorem dL_law_565 : decode cL_law 565 = .ok (.aload_n 0, 1) := by decide +kernel
theorem dL_law_566 : decode cL_law 566 = .ok (.iload 4, 2) := by decide +kernel
theorem dL_law_568 : decode cL_law 568 = .ok (.iconst 1, 1) := by decide +kernel
theorem dL_law_569 : decode cL_law 569 = .ok (.iadd, 1) := by decide +kernel
theorem dL_law_570 : decode cL_law 570 = .ok (.iaload, 1) := by decide +kernel
theorem dL_law_571 : decode cL_law 571 = .ok (.aload_n 0, 1) := by decide +kernel
theorem dL_law_572 : decode cL_law 572 = .ok (.iload 4, 2) := by decide +kernel
theorem dL_law_574 : decode cL_law 574 = .ok (.iconst 2, 1) := by decide +kernel
theorem dL_law_575 : decode cL_law 575 = .ok (.iadd, 1) := by decide +kernel
theorem dL_law_576 : decode cL_law 576 = .ok (.iaload, 1) := by decide +kernel
theorem dL_law_577 : decode cL_law 577 = .ok (.invokevirtual 66, 3) := by decide +kernel
theorem dL_law_580 : decode cL_law 580 = .ok (.aload_n 2, 1) := by decide +kernel
theorem dL_law_581 : decode cL_law 581 = .ok (.aload_n 0, 1) := by decide +kernel
theorem dL_law_582 : decode cL_law 582 = .ok (.iload 4, 2) := by decide +kernel
theorem dL_law_584 : decode cL_law 584 = .ok (.iconst 1, 1) := by decide +kernel
theorem dL_law_585 : decode cL_law 585 = .ok (.iadd, 1) := by decide +kernel
theorem dL_law_586 : decode cL_law 586 = .ok (.iaload, 1) := by decide +kernel
theorem dL_law_587 : decode cL_law 587 = .ok (.aload_n 0, 1) := by decide +kernel
theorem dL_law_588 : decode cL_law 588 = .ok (.iload 4, 2) := by decide +kernel
theorem dL_law_590 : decode cL_law 590 = .ok (.iconst 2, 1) := by decide +kernel
theorem dL_law_591 : decode cL_law 591 = .ok (.iadd, 1) := by decide +kernel
theorem dL_law_592 : decode cL_law 592 = .ok (.iaload, 1) := by decide +kernel
theorem dL_law_593 : decode cL_law 593 = .ok (.invokevirtual 69, 3) := by decide +kernel
theorem dL_law_596 : decode cL_law 596 = .ok (.if_icmp .eq 597, 3) := by decide +kernel
theorem dL_law_599 : decode cL_law 599 = .ok (.iconst 0, 1) := by decide +kernel
theorem dL_law_600 : decode cL_law 600 = .ok (.ireturn, 1) := by decide +kernel
theorem dL_law_601 : decode cL_law 601 = .ok (.aload_n 1, 1) := by decide +kernel
theorem dL_law_602 : decode cL_law 602 = .ok (.aload_n 0, 1) := by decide +kernel
theorem dL_law_603 : decode cL_law 603 = .ok (.iload 4, 2) := by decide +kernel
theorem dL_law_605 : decode cL_law 605 = .ok (.iconst 1, 1) := by decide +kernel
theorem dL_law_606 : decode cL_law 606 = .ok (.iadd, 1) := by decide +kernel
theorem dL_law_607 : decode cL_law 607 = .ok (.iaload, 1) := by decide +kernel
theorem dL_law_608 : decode cL_law 608 = .ok (.aload_n 0, 1) := by decide +kernel
theorem dL_law_609 : decode cL_law 609 = .ok (.iload 4, 2) := by decide +kernel
theorem dL_law_611 : decode cL_law 611 = .ok (.iconst 2, 1) := by decide +kernel
theorem dL_law_612 : decode cL_law 612 = .ok (.iadd, 1) := by decide +kernel
theorem dL_law_613 : decode cL_law 613 = .ok (.iaload, 1) := by decide +kernel
theorem dL_law_614 : decode cL_law 614 = .ok (.invokevirtual 70, 3) := by decide +kernel
theorem dL_law_617 : decode cL_law 617 = .ok (.aload_n 2, 1) := by decide +kernel
theorem dL_law_618 : decode cL_law 618 = .ok (.aload_n 0, 1) := by decide +kernel
theorem dL_law_619 : decode cL_law 619 = .ok (.iload 4, 2) := by decide +kernel
theorem dL_law_621 : decode cL_law 621 = .ok (.iconst 1, 1) := by decide +kernel
theorem dL_law_622 : decode cL_law 622 = .ok (.iadd, 1) := by decide +kernel
theorem dL_law_623 : decode cL_law 623 = .ok (.iaload, 1) := by decide +kernel
theorem dL_law_624 : decode cL_law 624 = .ok (.aload_n 0, 1) := by decide +kernel
theorem dL_law_625 : decode cL_law 625 = .ok (.iload 4, 2) := by decide +kernel
theorem dL_law_627 : decode cL_law 627 = .ok (.iconst 2, 1) := by decide +kernel
theorem dL_law_628 : decode cL_law 628 = .ok (.iadd, 1) := by decide +kernel
theorem dL_law_629 : decode cL_law 629 = .ok (.iaload, 1) := by decide +kernel
theorem dL_law_630 : decode cL_law 630 = .ok (.invokevirtual 74, 3) := by decide +kernel
theorem dL_law_633 : decode cL_law 633 = .ok (.if_icmp .eq 560, 3) := by decide +kernel
theorem dL_law_636 : decode cL_law 636 = .ok (.iconst 0, 1) := by decide +kernel
theorem dL_law_637 : decode cL_law 637 = .ok (.ireturn, 1) := by decide +kernel
theorem dL_law_638 : decode cL_law 638 = .ok (.aload_n 1, 1) := by decide +kernel
theorem dL_law_639 : decode cL_law 639 = .ok (.aload_n 0, 1) := by decide +kernel
theorem dL_law_640 : decode cL_law 640 = .ok (.iload 4, 2) := by decide +kernel
theorem dL_law_642 : decode cL_law 642 = .ok (.iconst 1, 1) := by decide +kernel
theorem dL_law_643 : decode cL_law 643 = .ok (.iadd, 1) := by decide +kernel
theorem dL_law_644 : decode cL_law 644 = .ok (.iaload, 1) := by decide +kernel
theorem dL_law_645 : decode cL_law 645 = .ok (.aload_n 0, 1) := by decide +kernel
theorem dL_law_646 : decode cL_law 646 = .ok (.iload 4, 2) := by decide +kernel
theorem dL_law_648 : decode cL_law 648 = .ok (.iconst 2, 1) := by decide +kernel
theorem dL_law_649 : decode cL_law 649 = .ok (.iadd, 1) := by decide +kernel
theorem dL_law_650 : decode cL_law 650 = .ok (.iaload, 1) := by decide +kernel
theorem dL_law_651 : decode cL_law 651 = .ok (.invokevirtual 75, 3) := by decide +kernel
theorem dL_law_654 : decode cL_law 654 = .ok (.aload_n 2, 1) := by decide +kernel
theorem dL_law_655 : decode cL_law 655 = .ok (.aload_n 0, 1) := by decide +kernel
theorem dL_law_656 : decode cL_law 656 = .ok (.iload 4, 2) := by decide +kernel
theorem dL_law_658 : decode cL_law 658 = .ok (.iconst 1, 1) := by decide +kernel
theorem dL_law_659 : decode cL_law 659 = .ok (.iadd, 1) := by decide +kernel
theorem dL_law_660 : decode cL_law 660 = .ok (.iaload, 1) := by decide +kernel
theorem dL_law_661 : decode cL_law 661 = .ok (.aload_n 0, 1) := by decide +kernel
theorem dL_law_662 : decode cL_law 662 = .ok (.iload 4, 2) := by decide +kernel
theorem dL_law_664 : decode cL_law 664 = .ok (.iconst 2, 1) := by decide +kernel
theorem dL_law_665 : decode cL_law 665 = .ok (.iadd, 1) := by decide +kernel
theorem dL_law_666 : decode cL_law 666 = .ok (.iaload, 1) := by decide +kernel
theorem dL_law_667 : decode cL_law 667 = .ok (.invokevirtual 78, 3) := by decide +kernel
theorem dL_law_670 : decode cL_law 670 = .ok (.if_icmp .eq 523, 3) := by decide +kernel
theorem dL_law_673 : decode cL_law 673 = .ok (.iconst 0, 1) := by decide +kernel
theorem dL_law_674 : decode cL_law 674 = .ok (.ireturn, 1) := by decide +kernel
theorem dL_law_675 : decode cL_law 675 = .ok (.aload_n 1, 1) := by decide +kernel
theorem dL_law_676 : decode cL_law 676 = .ok (.aload_n 0, 1) := by decide +kernel
theorem dL_law_677 : decode cL_law 677 = .ok (.iload 4, 2) := by decide +kernel
theorem dL_law_679 : decode cL_law 679 = .ok (.iconst 1, 1) := by decide +kernel
theorem dL_law_680 : decode cL_law 680 = .ok (.iadd, 1) := by decide +kernel
theorem dL_law_681 : decode cL_law 681 = .ok (.iaload, 1) := by decide +kernel
theorem dL_law_682 : decode cL_law 682 = .ok (.aload_n 0, 1) := by decide +kernel
theorem dL_law_683 : decode cL_law 683 = .ok (.iload 4, 2) := by decide +kernel
theorem dL_law_685 : decode cL_law 685 = .ok (.iconst 2, 1) := by decide +kernel
theorem dL_law_686 : decode cL_law 686 = .ok (.iadd, 1) := by decide +kernel
theorem dL_law_687 : decode cL_law 687 = .ok (.iaload, 1) := by decide +kernel
theorem dL_law_688 : decode cL_law 688 = .ok (.invokevirtual 79, 3) := by decide +kernel
theorem dL_law_691 : decode cL_law 691 = .ok (.aload_n 2, 1) := by decide +kernel
theorem dL_law_692 : decode cL_law 692 = .ok (.aload_n 0, 1) := by decide +kernel
theorem dL_law_693 : decode cL_law 693 = .ok (.iload 4, 2) := by decide +kernel
theorem dL_law_695 : decode cL_law 695 = .ok (.iconst 1, 1) := by decide +kernel
theorem dL_law_696 : decode cL_law 696 = .ok (.iadd, 1) := by decide +kernel
theorem dL_law_697 : decode cL_law 697 = .ok (.iaload, 1) := by decide +kernel
theorem dL_law_698 : decode cL_law 698 = .ok (.aload_n 0, 1) := by decide +kernel
theorem dL_law_699 : decode cL_law 699 = .ok (.iload 4, 2) := by decide +kernel
theorem dL_law_701 : decode cL_law 701 = .ok (.iconst 2, 1) := by decide +kernel
theorem dL_law_702 : decode cL_law 702 = .ok (.iadd, 1) := by decide +kernel
theorem dL_law_703 : decode cL_law 703 = .ok (.iaload, 1) := by decide +kernel
theorem dL_law_704 : decode cL_law 704 = .ok (.invokevirtual 82, 3) := by decide +kernel
theorem dL_law_707 : decode cL_law 707 = .ok (.if_icmp .eq 486, 3) := by decide +kernel
theorem dL_law_710 : decode cL_law 710 = .ok (.iconst 0, 1) := by decide +kernel
theorem dL_law_711 : decode cL_law 711 = .ok (.ireturn, 1) := by decide +kernel
theorem dL_law_712 : decode cL_law 712 = .ok (.aload_n 1, 1) := by decide +kernel
theorem dL_law_713 : decode cL_law 713 = .ok (.aload_n 0, 1) := by decide +kernel
theorem dL_law_714 : decode cL_law 714 = .ok (.iload 4, 2) := by decide +kernel
theorem dL_law_716 : decode cL_law 716 = .ok (.iconst 1, 1) := by decide +kernel
theorem dL_law_717 : decode cL_law 717 = .ok (.iadd, 1) := by decide +kernel
theorem dL_law_718 : decode cL_law 718 = .ok (.iaload, 1) := by decide +kernel
theorem dL_law_719 : decode cL_law 719 = .ok (.aload_n 0, 1) := by decide +kernel
theorem dL_law_720 : decode cL_law 720 = .ok (.iload 4, 2) := by decide +kernel
theorem dL_law_722 : decode cL_law 722 = .ok (.iconst 2, 1) := by decide +kernel
theorem dL_law_723 : decode cL_law 723 = .ok (.iadd, 1) := by decide +kernel
theorem dL_law_724 : decode cL_law 724 = .ok (.iaload, 1) := by decide +kernel
theorem dL_law_725 : decode cL_law 725 = .ok (.invokevirtual 83, 3) := by decide +kernel
theorem dL_law_728 : decode cL_law 728 = .ok (.aload_n 2, 1) := by decide +kernel
theorem dL_law_729 : decode cL_law 729 = .ok (.aload_n 0, 1) := by decide +kernel
theorem dL_law_730 : decode cL_law 730 = .ok (.iload 4, 2) := by decide +kernel
theorem dL_law_732 : decode cL_law 732 = .ok (.iconst 1, 1) := by decide +kernel
theorem dL_law_733 : decode cL_law 733 = .ok (.iadd, 1) := by decide +kernel
theorem dL_law_734 : decode cL_law 734 = .ok (.iaload, 1) := by decide +kernel
theorem dL_law_735 : decode cL_law 735 = .ok (.aload_n 0, 1) := by decide +kernel
theorem dL_law_736 : decode cL_law 736 = .ok (.iload 4, 2) := by decide +kernel
theorem dL_law_738 : decode cL_law 738 = .ok (.iconst 2, 1) := by decide +kernel
theorem dL_law_739 : decode cL_law 739 = .ok (.iadd, 1) := by decide +kernel
theorem dL_law_740 : decode cL_law 740 = .ok (.iaload, 1) := by decide +kernel
theorem dL_law_741 : decode cL_law 741 = .ok (.invokevirtual 86, 3) := by decide +kernel
theorem dL_law_744 : decode cL_law 744 = .ok (.if_icmp .eq 449, 3) := by decide +kernel
theorem dL_law_747 : decode cL_law 747 = .ok (.iconst 0, 1) := by decide +kernel
theorem dL_law_748 : decode cL_law 748 = .ok (.ireturn, 1) := by decide +kernel
theorem dL_law_749 : decode cL_law 749 = .ok (.aload_n 1, 1) := by decide +kernel
theorem dL_law_750 : decode cL_law 750 = .ok (.aload_n 0, 1) := by decide +kernel
theorem dL_law_751 : decode cL_law 751 = .ok (.iload 4, 2) := by decide +kernel
theorem dL_law_753 : decode cL_law 753 = .ok (.iconst 1, 1) := by decide +kernel
theorem dL_law_754 : decode cL_law 754 = .ok (.iadd, 1) := by decide +kernel
theorem dL_law_755 : decode cL_law 755 = .ok (.iaload, 1) := by decide +kernel
theorem dL_law_756 : decode cL_law 756 = .ok (.aload_n 0, 1) := by decide +kernel
theorem dL_law_757 : decode cL_law 757 = .ok (.iload 4, 2) := by decide +kernel
theorem dL_law_759 : decode cL_law 759 = .ok (.iconst 2, 1) := by decide +kernel
theorem dL_law_760 : decode cL_law 760 = .ok (.iadd, 1) := by decide +kernel
theorem dL_law_761 : decode cL_law 761 = .ok (.iaload, 1) := by decide +kernel
theorem dL_law_762 : decode cL_law 762 = .ok (.invokevirtual 87, 3) := by decide +kernel
theorem dL_law_765 : decode cL_law 765 = .ok (.aload_n 2, 1) := by decide +kernel
theorem dL_law_766 : decode cL_law 766 = .ok (.aload_n 0, 1) := by decide +kernel
theorem dL_law_767 : decode cL_law 767 = .ok (.iload 4, 2) := by decide +kernel
theorem dL_law_769 : decode cL_law 769 = .ok (.iconst 1, 1) := by decide +kernel
theorem dL_law_770 : decode cL_law 770 = .ok (.iadd, 1) := by decide +kernel
theorem dL_law_771 : decode cL_law 771 = .ok (.iaload, 1) := by decide +kernel
theorem dL_law_772 : decode cL_law 772 = .ok (.aload_n 0, 1) := by decide +kernel
theorem dL_law_773 : decode cL_law 773 = .ok (.iload 4, 2) := by decide +kernel
theorem dL_law_775 : decode cL_law 775 = .ok (.iconst 2, 1) := by decide +kernel
theorem dL_law_776 : decode cL_law 776 = .ok (.iadd, 1) := by decide +kernel
theorem dL_law_777 : decode cL_law 777 = .ok (.iaload, 1) := by decide +kernel
theorem dL_law_778 : decode cL_law 778 = .ok (.invokevirtual 90, 3) := by decide +kernel
theorem dL_law_781 : decode cL_law 781 = .ok (.if_icmp .eq 412, 3) := by decide +kernel
theorem dL_law_784 : decode cL_law 784 = .ok (.iconst 0, 1) := by decide +kernel
theorem dL_law_785 : decode cL_law 785 = .ok (.ireturn, 1) := by decide +kernel
theorem dL_law_786 : decode cL_law 786 = .ok (.aload_n 1, 1) := by decide +kernel
theorem dL_law_787 : decode cL_law 787 = .ok (.aload_n 0, 1) := by decide +kernel
theorem dL_law_788 : decode cL_law 788 = .ok (.iload 4, 2) := by decide +kernel
theorem dL_law_790 : decode cL_law 790 = .ok (.iconst 1, 1) := by decide +kernel
theorem dL_law_791 : decode cL_law 791 = .ok (.iadd, 1) := by decide +kernel
theorem dL_law_792 : decode cL_law 792 = .ok (.iaload, 1) := by decide +kernel
theorem dL_law_793 : decode cL_law 793 = .ok (.invokevirtual 91, 3) := by decide +kernel
theorem dL_law_796 : decode cL_law 796 = .ok (.aload_n 2, 1) := by decide +kernel
theorem dL_law_797 : decode cL_law 797 = .ok (.aload_n 0, 1) := by decide +kernel
theorem dL_law_798 : decode cL_law 798 = .ok (.iload 4, 2) := by decide +kernel
theorem dL_law_800 : decode cL_law 800 = .ok (.iconst 1, 1) := by decide +kernel
theorem dL_law_801 : decode cL_law 801 = .ok (.iadd, 1) := by decide +kernel
theorem dL_law_802 : decode cL_law 802 = .ok (.iaload, 1) := by decide +kernel
theorem dL_law_803 : decode cL_law 803 = .ok (.invokevirtual 94, 3) := by decide +kernel
theorem dL_law_806 : decode cL_law 806 = .ok (.if_icmp .eq 387, 3) := by decide +kernel
theorem dL_law_809 : decode cL_law 809 = .ok (.iconst 0, 1) := by decide +kernel
theorem dL_law_810 : decode cL_law 810 = .ok (.ireturn, 1) := by decide +kernel
theorem dL_law_811 : decode cL_law 811 = .ok (.aload_n 1, 1) := by decide +kernel
theorem dL_law_812 : decode cL_law 812 = .ok (.aload_n 0, 1) := by decide +kernel
theorem dL_law_813 : decode cL_law 813 = .ok (.iload 4, 2) := by decide +kernel
theorem dL_law_815 : decode cL_law 815 = .ok (.iconst 1, 1) := by decide +kernel
theorem dL_law_816 : decode cL_law 816 = .ok (.iadd, 1) := by decide +kernel
theorem dL_law_817 : decode cL_law 817 = .ok (.iaload, 1) := by decide +kernel
theorem dL_law_818 : decode cL_law 818 = .ok (.aload_n 0, 1) := by decide +kernel
theorem dL_law_819 : decode cL_law 819 = .ok (.iload 4, 2) := by decide +kernel
theorem dL_law_821 : decode cL_law 821 = .ok (.iconst 2, 1) := by decide +kernel
theorem dL_law_822 : decode cL_law 822 = .ok (.iadd, 1) := by decide +kernel
theorem dL_law_823 : decode cL_law 823 = .ok (.iaload, 1) := by decide +kernel
theorem dL_law_824 : decode cL_law 824 = .ok (.invokevirtual 95, 3) := by decide +kernel
theorem dL_law_827 : decode cL_law 827 = .ok (.aload_n 2, 1) := by decide +kernel
theorem dL_law_828 : decode cL_law 828 = .ok (.aload_n 0, 1) := by decide +kernel
theorem dL_law_829 : decode cL_law 829 = .ok (.iload 4, 2) := by decide +kernel
theorem dL_law_831 : decode cL_law 831 = .ok (.iconst 1, 1) := by decide +kernel
theorem dL_law_832 : decode cL_law 832 = .ok (.iadd, 1) := by decide +kernel
theorem dL_law_833 : decode cL_law 833 = .ok (.iaload, 1) := by decide +kernel
theorem dL_law_834 : decode cL_law 834 = .ok (.aload_n 0, 1) := by decide +kernel
theorem dL_law_835 : decode cL_law 835 = .ok (.iload 4, 2) := by decide +kernel
theorem dL_law_837 : decode cL_law 837 = .ok (.iconst 2, 1) := by decide +kernel
theorem dL_law_838 : decode cL_law 838 = .ok (.iadd, 1) := by decide +kernel
theorem dL_law_839 : decode cL_law 839 = .ok (.iaload, 1) := by decide +kernel
theorem dL_law_840 : decode cL_law 840 = .ok (.invokevirtual 98, 3) := by decide +kernel
theorem dL_law_843 : decode cL_law 843 = .ok (.if_icmp .eq 350, 3) := by decide +kernel
theorem dL_law_846 : decode cL_law 846 = .ok (.iconst 0, 1) := by decide +kernel
theorem dL_law_847 : decode cL_law 847 = .ok (.ireturn, 1) := by decide +kernel
theorem dL_law_848 : decode cL_law 848 = .ok (.aload_n 1, 1) := by decide +kernel
theorem dL_law_849 : decode cL_law 849 = .ok (.aload_n 0, 1) := by decide +kernel
theorem dL_law_850 : decode cL_law 850 = .ok (.iload 4, 2) := by decide +kernel
theorem dL_law_852 : decode cL_law 852 = .ok (.iconst 1, 1) := by decide +kernel
theorem dL_law_853 : decode cL_law 853 = .ok (.iadd, 1) := by decide +kernel
theorem dL_law_854 : decode cL_law 854 = .ok (.iaload, 1) := by decide +kernel
theorem dL_law_855 : decode cL_law 855 = .ok (.aload_n 0, 1) := by decide +kernel
theorem dL_law_856 : decode cL_law 856 = .ok (.iload 4, 2) := by decide +kernel
theorem dL_law_858 : decode cL_law 858 = .ok (.iconst 2, 1) := by decide +kernel
theorem dL_law_859 : decode cL_law 859 = .ok (.iadd, 1) := by decide +kernel
theorem dL_law_860 : decode cL_law 860 = .ok (.iaload, 1) := by decide +kernel
theorem dL_law_861 : decode cL_law 861 = .ok (.invokevirtual 99, 3) := by decide +kernel
theorem dL_law_864 : decode cL_law 864 = .ok (.aload_n 2, 1) := by decide +kernel
theorem dL_law_865 : decode cL_law 865 = .ok (.aload_n 0, 1) := by decide +kernel
theorem dL_law_866 : decode cL_law 866 = .ok (.iload 4, 2) := by decide +kernel
theorem dL_law_868 : decode cL_law 868 = .ok (.iconst 1, 1) := by decide +kernel
theorem dL_law_869 : decode cL_law 869 = .ok (.iadd, 1) := by decide +kernel
theorem dL_law_870 : decode cL_law 870 = .ok (.iaload, 1) := by decide +kernel
theorem dL_law_871 : decode cL_law 871 = .ok (.aload_n 0, 1) := by decide +kernel
theorem dL_law_872 : decode cL_law 872 = .ok (.iload 4, 2) := by decide +kernel
theorem dL_law_874 : decode cL_law 874 = .ok (.iconst 2, 1) := by decide +kernel
theorem dL_law_875 : decode cL_law 875 = .ok (.iadd, 1) := by decide +kernel
theorem dL_law_876 : decode cL_law 876 = .ok (.iaload, 1) := by decide +kernel
theorem dL_law_877 : decode cL_law 877 = .ok (.invokevirtual 102, 3) := by decide +kernel
theorem dL_law_880 : decode cL_law 880 = .ok (.if_icmp .eq 313, 3) := by decide +kernel
theorem dL_law_883 : decode cL_law 883 = .ok (.iconst 0, 1) := by decide +kernel
theorem dL_law_884 : decode cL_law 884 = .ok (.ireturn, 1) := by decide +kernel
theorem dL_law_885 : decode cL_law 885 = .ok (.aload_n 1, 1) := by decide +kernel
theorem dL_law_886 : decode cL_law 886 = .ok (.aload_n 0, 1) := by decide +kernel
theorem dL_law_887 : decode cL_law 887 = .ok (.iload 4, 2) := by decide +kernel
theorem dL_law_889 : decode cL_law 889 = .ok (.iconst 1, 1) := by decide +kernel
theorem dL_law_890 : decode cL_law 890 = .ok (.iadd, 1) := by decide +kernel
theorem dL_law_891 : decode cL_law 891 = .ok (.iaload, 1) := by decide +kernel
theorem dL_law_892 : decode cL_law 892 = .ok (.aload_n 0, 1) := by decide +kernel
theorem dL_law_893 : decode cL_law 893 = .ok (.iload 4, 2) := by decide +kernel
theorem dL_law_895 : decode cL_law 895 = .ok (.iconst 2, 1) := by decide +kernel
theorem dL_law_896 : decode cL_law 896 = .ok (.iadd, 1) := by decide +kernel
theorem dL_law_897 : decode cL_law 897 = .ok (.iaload, 1) := by decide +kernel
theorem dL_law_898 : decode cL_law 898 = .ok (.aload_n 0, 1) := by decide +kernel
theorem dL_law_899 : decode cL_law 899 = .ok (.iload 4, 2) := by decide +kernel
theorem dL_law_901 : decode cL_law 901 = .ok (.iconst 3, 1) := by decide +kernel
theorem dL_law_902 : decode cL_law 902 = .ok (.iadd, 1) := by decide +kernel
theorem dL_law_903 : decode cL_law 903 = .ok (.iaload, 1) := by decide +kernel
theorem dL_law_904 : decode cL_law 904 = .ok (.invokevirtual 103, 3) := by decide +kernel
theorem dL_law_907 : decode cL_law 907 = .ok (.aload_n 2, 1) := by decide +kernel
theorem dL_law_908 : decode cL_law 908 = .ok (.aload_n 0, 1) := by decide +kernel
theorem dL_law_909 : decode cL_law 909 = .ok (.iload 4, 2) := by decide +kernel
theorem dL_law_911 : decode cL_law 911 = .ok (.iconst 1, 1) := by decide +kernel
theorem dL_law_912 : decode cL_law 912 = .ok (.iadd, 1) := by decide +kernel
theorem dL_law_913 : decode cL_law 913 = .ok (.iaload, 1) := by decide +kernel
theorem dL_law_914 : decode cL_law 914 = .ok (.aload_n 0, 1) := by decide +kernel
theorem dL_law_915 : decode cL_law 915 = .ok (.iload 4, 2) := by decide +kernel
theorem dL_law_917 : decode cL_law 917 = .ok (.iconst 2, 1) := by decide +kernel
theorem dL_law_918 : decode cL_law 918 = .ok (.iadd, 1) := by decide +kernel
theorem dL_law_919 : decode cL_law 919 = .ok (.iaload, 1) := by decide +kernel
theorem dL_law_920 : decode cL_law 920 = .ok (.aload_n 0, 1) := by decide +kernel
theorem dL_law_921 : decode cL_law 921 = .ok (.iload 4, 2) := by decide +kernel
theorem dL_law_923 : decode cL_law 923 = .ok (.iconst 3, 1) := by decide +kernel
theorem dL_law_924 : decode cL_law 924 = .ok (.iadd, 1) := by decide +kernel
theorem dL_law_925 : decode cL_law 925 = .ok (.iaload, 1) := by decide +kernel
theorem dL_law_926 : decode cL_law 926 = .ok (.invokevirtual 106, 3) := by decide +kernel
theorem dL_law_929 : decode cL_law 929 = .ok (.if_icmp .eq 264, 3) := by decide +kernel
theorem dL_law_932 : decode cL_law 932 = .ok (.iconst 0, 1) := by decide +kernel
theorem dL_law_933 : decode cL_law 933 = .ok (.ireturn, 1) := by decide +kernel
theorem dL_law_934 : decode cL_law 934 = .ok (.aload_n 1, 1) := by decide +kernel
theorem dL_law_935 : decode cL_law 935 = .ok (.aload_n 0, 1) := by decide +kernel
theorem dL_law_936 : decode cL_law 936 = .ok (.iload 4, 2) := by decide +kernel
theorem dL_law_938 : decode cL_law 938 = .ok (.iconst 1, 1) := by decide +kernel
theorem dL_law_939 : decode cL_law 939 = .ok (.iadd, 1) := by decide +kernel
theorem dL_law_940 : decode cL_law 940 = .ok (.iaload, 1) := by decide +kernel
theorem dL_law_941 : decode cL_law 941 = .ok (.aload_n 0, 1) := by decide +kernel
theorem dL_law_942 : decode cL_law 942 = .ok (.iload 4, 2) := by decide +kernel
theorem dL_law_944 : decode cL_law 944 = .ok (.iconst 2, 1) := by decide +kernel
theorem dL_law_945 : decode cL_law 945 = .ok (.iadd, 1) := by decide +kernel
theorem dL_law_946 : decode cL_law 946 = .ok (.iaload, 1) := by decide +kernel
theorem dL_law_947 : decode cL_law 947 = .ok (.aload_n 0, 1) := by decide +kernel
theorem dL_law_948 : decode cL_law 948 = .ok (.iload 4, 2) := by decide +kernel
theorem dL_law_950 : decode cL_law 950 = .ok (.iconst 3, 1) := by decide +kernel
theorem dL_law_951 : decode cL_law 951 = .ok (.iadd, 1) := by decide +kernel
theorem dL_law_952 : decode cL_law 952 = .ok (.iaload, 1) := by decide +kernel
theorem dL_law_953 : decode cL_law 953 = .ok (.aload_n 0, 1) := by decide +kernel
theorem dL_law_954 : decode cL_law 954 = .ok (.iload 4, 2) := by decide +kernel
theorem dL_law_956 : decode cL_law 956 = .ok (.iconst 4, 1) := by decide +kernel
theorem dL_law_957 : decode cL_law 957 = .ok (.iadd, 1) := by decide +kernel
theorem dL_law_958 : decode cL_law 958 = .ok (.iaload, 1) := by decide +kernel
theorem dL_law_959 : decode cL_law 959 = .ok (.invokevirtual 107, 3) := by decide +kernel
theorem dL_law_962 : decode cL_law 962 = .ok (.aload_n 2, 1) := by decide +kernel
theorem dL_law_963 : decode cL_law 963 = .ok (.aload_n 0, 1) := by decide +kernel
theorem dL_law_964 : decode cL_law 964 = .ok (.iload 4, 2) := by decide +kernel
theorem dL_law_966 : decode cL_law 966 = .ok (.iconst 1, 1) := by decide +kernel
theorem dL_law_967 : decode cL_law 967 = .ok (.iadd, 1) := by decide +kernel
theorem dL_law_968 : decode cL_law 968 = .ok (.iaload, 1) := by decide +kernel
theorem dL_law_969 : decode cL_law 969 = .ok (.aload_n 0, 1) := by decide +kernel
theorem dL_law_970 : decode cL_law 970 = .ok (.iload 4, 2) := by decide +kernel
theorem dL_law_972 : decode cL_law 972 = .ok (.iconst 2, 1) := by decide +kernel
theorem dL_law_973 : decode cL_law 973 = .ok (.iadd, 1) := by decide +kernel
theorem dL_law_974 : decode cL_law 974 = .ok (.iaload, 1) := by decide +kernel
theorem dL_law_975 : decode cL_law 975 = .ok (.aload_n 0, 1) := by decide +kernel
theorem dL_law_976 : decode cL_law 976 = .ok (.iload 4, 2) := by decide +kernel
theorem dL_law_978 : decode cL_law 978 = .ok (.iconst 3, 1) := by decide +kernel
theorem dL_law_979 : decode cL_law 979 = .ok (.iadd, 1) := by decide +kernel
theorem dL_law_980 : decode cL_law 980 = .ok (.iaload, 1) := by decide +kernel
theorem dL_law_981 : decode cL_law 981 = .ok (.aload_n 0, 1) := by decide +kernel
theorem dL_law_982 : decode cL_law 982 = .ok (.iload 4, 2) := by decide +kernel
theorem dL_law_984 : decode cL_law 984 = .ok (.iconst 4, 1) := by decide +kernel
theorem dL_law_985 : decode cL_law 985 = .ok (.iadd, 1) := by decide +kernel
theorem dL_law_986 : decode cL_law 986 = .ok (.iaload, 1) := by decide +kernel
theorem dL_law_987 : decode cL_law 987 = .ok (.invokevirtual 111, 3) := by decide +kernel
theorem dL_law_990 : decode cL_law 990 = .ok (.if_icmp .eq 203, 3) := by decide +kernel
theorem dL_law_993 : decode cL_law 993 = .ok (.iconst 0, 1) := by decide +kernel
theorem dL_law_994 : decode cL_law 994 = .ok (.ireturn, 1) := by decide +kernel
theorem dL_law_995 : decode cL_law 995 = .ok (.aload_n 1, 1) := by decide +kernel
theorem dL_law_996 : decode cL_law 996 = .ok (.aload_n 0, 1) := by decide +kernel
theorem dL_law_997 : decode cL_law 997 = .ok (.iload 4, 2) := by decide +kernel
theorem dL_law_999 : decode cL_law 999 = .ok (.iconst 1, 1) := by decide +kernel
theorem dL_law_1000 : decode cL_law 1000 = .ok (.iadd, 1) := by decide +kernel
theorem dL_law_1001 : decode cL_law 1001 = .ok (.iaload, 1) := by decide +kernel
theorem dL_law_1002 : decode cL_law 1002 = .ok (.aload_n 0, 1) := by decide +kernel
theorem dL_law_1003 : decode cL_law 1003 = .ok (.iload 4, 2) := by decide +kernel
theorem dL_law_1005 : decode cL_law 1005 = .ok (.iconst 2, 1) := by decide +kernel
theorem dL_law_1006 : decode cL_law 1006 = .ok (.iadd, 1) := by decide +kernel
theorem dL_law_1007 : decode cL_law 1007 = .ok (.iaload, 1) := by decide +kernel
theorem dL_law_1008 : decode cL_law 1008 = .ok (.invokevirtual 112, 3) := by decide +kernel
theorem dL_law_1011 : decode cL_law 1011 = .ok (.aload_n 2, 1) := by decide +kernel
theorem dL_law_1012 : decode cL_law 1012 = .ok (.aload_n 0, 1) := by decide +kernel
theorem dL_law_1013 : decode cL_law 1013 = .ok (.iload 4, 2) := by decide +kernel
theorem dL_law_1015 : decode cL_law 1015 = .ok (.iconst 1, 1) := by decide +kernel
theorem dL_law_1016 : decode cL_law 1016 = .ok (.iadd, 1) := by decide +kernel
theorem dL_law_1017 : decode cL_law 1017 = .ok (.iaload, 1) := by decide +kernel
theorem dL_law_1018 : decode cL_law 1018 = .ok (.aload_n 0, 1) := by decide +kernel
theorem dL_law_1019 : decode cL_law 1019 = .ok (.iload 4, 2) := by decide +kernel
theorem dL_law_1021 : decode cL_law 1021 = .ok (.iconst 2, 1) := by decide +kernel
theorem dL_law_1022 : decode cL_law 1022 = .ok (.iadd, 1) := by decide +kernel
theorem dL_law_1023 : decode cL_law 1023 = .ok (.iaload, 1) := by decide +kernel
theorem dL_law_1024 : decode cL_law 1024 = .ok (.invokevirtual 115, 3) := by decide +kernel
theorem dL_law_1027 : decode cL_law 1027 = .ok (.if_icmp .eq 166, 3) := by decide +kernel
theorem dL_law_1030 : decode cL_law 1030 = .ok (.iconst 0, 1) := by decide +kernel
theorem dL_law_1031 : decode cL_law 1031 = .ok (.ireturn, 1) := by decide +kernel
theorem dL_law_1032 : decode cL_law 1032 = .ok (.aload_n 1, 1) := by decide +kernel
theorem dL_law_1033 : decode cL_law 1033 = .ok (.aload_n 0, 1) := by decide +kernel
theorem dL_law_1034 : decode cL_law 1034 = .ok (.iload 4, 2) := by decide +kernel
theorem dL_law_1036 : decode cL_law 1036 = .ok (.iconst 1, 1) := by decide +kernel
theorem dL_law_1037 : decode cL_law 1037 = .ok (.iadd, 1) := by decide +kernel
theorem dL_law_1038 : decode cL_law 1038 = .ok (.iaload, 1) := by decide +kernel
theorem dL_law_1039 : decode cL_law 1039 = .ok (.aload_n 0, 1) := by decide +kernel
theorem dL_law_1040 : decode cL_law 1040 = .ok (.iload 4, 2) := by decide +kernel
theorem dL_law_1042 : decode cL_law 1042 = .ok (.iconst 2, 1) := by decide +kernel
theorem dL_law_1043 : decode cL_law 1043 = .ok (.iadd, 1) := by decide +kernel
theorem dL_law_1044 : decode cL_law 1044 = .ok (.iaload, 1) := by decide +kernel
theorem dL_law_1045 : decode cL_law 1045 = .ok (.invokevirtual 116, 3) := by decide +kernel
theorem dL_law_1048 : decode cL_law 1048 = .ok (.aload_n 2, 1) := by decide +kernel
theorem dL_law_1049 : decode cL_law 1049 = .ok (.aload_n 0, 1) := by decide +kernel
theorem dL_law_1050 : decode cL_law 1050 = .ok (.iload 4, 2) := by decide +kernel
theorem dL_law_1052 : decode cL_law 1052 = .ok (.iconst 1, 1) := by decide +kernel
theorem dL_law_1053 : decode cL_law 1053 = .ok (.iadd, 1) := by decide +kernel
theorem dL_law_1054 : decode cL_law 1054 = .ok (.iaload, 1) := by decide +kernel
theorem dL_law_1055 : decode cL_law 1055 = .ok (.aload_n 0, 1) := by decide +kernel
theorem dL_law_1056 : decode cL_law 1056 = .ok (.iload 4, 2) := by decide +kernel
theorem dL_law_1058 : decode cL_law 1058 = .ok (.iconst 2, 1) := by decide +kernel
theorem dL_law_1059 : decode cL_law 1059 = .ok (.iadd, 1) := by decide +kernel
theorem dL_law_1060 : decode cL_law 1060 = .ok (.iaload, 1) := by decide +kernel
theorem dL_law_1061 : decode cL_law 1061 = .ok (.invokevirtual 119, 3) := by decide +kernel
theorem dL_law_1064 : decode cL_law 1064 = .ok (.if_icmp .eq 129, 3) := by decide +kernel
theorem dL_law_1067 : decode cL_law 1067 = .ok (.iconst 0, 1) := by decide +kernel
theorem dL_law_1068 : decode cL_law 1068 = .ok (.ireturn, 1) := by decide +kernel
theorem dL_law_1069 : decode cL_law 1069 = .ok (.aload_n 1, 1) := by decide +kernel
theorem dL_law_1070 : decode cL_law 1070 = .ok (.aload_n 0, 1) := by decide +kernel
theorem dL_law_1071 : decode cL_law 1071 = .ok (.iload 4, 2) := by decide +kernel
theorem dL_law_1073 : decode cL_law 1073 = .ok (.iconst 1, 1) := by decide +kernel
theorem dL_law_1074 : decode cL_law 1074 = .ok (.iadd, 1) := by decide +kernel
theorem dL_law_1075 : decode cL_law 1075 = .ok (.iaload, 1) := by decide +kernel
theorem dL_law_1076 : decode cL_law 1076 = .ok (.aload_n 0, 1) := by decide +kernel
theorem dL_law_1077 : decode cL_law 1077 = .ok (.iload 4, 2) := by decide +kernel
theorem dL_law_1079 : decode cL_law 1079 = .ok (.iconst 2, 1) := by decide +kernel
theorem dL_law_1080 : decode cL_law 1080 = .ok (.iadd, 1) := by decide +kernel
theorem dL_law_1081 : decode cL_law 1081 = .ok (.iaload, 1) := by decide +kernel
theorem dL_law_1082 : decode cL_law 1082 = .ok (.invokevirtual 120, 3) := by decide +kernel
theorem dL_law_1085 : decode cL_law 1085 = .ok (.aload_n 2, 1) := by decide +kernel
theorem dL_law_1086 : decode cL_law 1086 = .ok (.aload_n 0, 1) := by decide +kernel
theorem dL_law_1087 : decode cL_law 1087 = .ok (.iload 4, 2) := by decide +kernel
theorem dL_law_1089 : decode cL_law 1089 = .ok (.iconst 1, 1) := by decide +kernel
theorem dL_law_1090 : decode cL_law 1090 = .ok (.iadd, 1) := by decide +kernel
theorem dL_law_1091 : decode cL_law 1091 = .ok (.iaload, 1) := by decide +kernel
theorem dL_law_1092 : decode cL_law 1092 = .ok (.aload_n 0, 1) := by decide +kernel
theorem dL_law_1093 : decode cL_law 1093 = .ok (.iload 4, 2) := by decide +kernel
theorem dL_law_1095 : decode cL_law 1095 = .ok (.iconst 2, 1) := by decide +kernel
theorem dL_law_1096 : decode cL_law 1096 = .ok (.iadd, 1) := by decide +kernel
theorem dL_law_1097 : decode cL_law 1097 = .ok (.iaload, 1) := by decide +kernel
theorem dL_law_1098 : decode cL_law 1098 = .ok (.invokevirtual 123, 3) := by decide +kernel
theorem dL_law_1101 : decode cL_law 1101 = .ok (.if_icmp .eq 92, 3) := by decide +kernel
theorem dL_law_1104 : decode cL_law 1104 = .ok (.iconst 0, 1) := by decide +kernel
theorem dL_law_1105 : decode cL_law 1105 = .ok (.ireturn, 1) := by decide +kernel
theorem dL_law_1106 : decode cL_law 1106 = .ok (.aload_n 1, 1) := by decide +kernel
theorem dL_law_1107 : decode cL_law 1107 = .ok (.aload_n 0, 1) := by decide +kernel
theorem dL_law_1108 : decode cL_law 1108 = .ok (.iload 4, 2) := by decide +kernel
theorem dL_law_1110 : decode cL_law 1110 = .ok (.iconst 1, 1) := by decide +kernel
theorem dL_law_1111 : decode cL_law 1111 = .ok (.iadd, 1) := by decide +kernel
theorem dL_law_1112 : decode cL_law 1112 = .ok (.iaload, 1) := by decide +kernel
theorem dL_law_1113 : decode cL_law 1113 = .ok (.invokevirtual 124, 3) := by decide +kernel
theorem dL_law_1116 : decode cL_law 1116 = .ok (.aload_n 2, 1) := by decide +kernel
theorem dL_law_1117 : decode cL_law 1117 = .ok (.aload_n 0, 1) := by decide +kernel
theorem dL_law_1118 : decode cL_law 1118 = .ok (.iload 4, 2) := by decide +kernel
theorem dL_law_1120 : decode cL_law 1120 = .ok (.iconst 1, 1) := by decide +kernel
theorem dL_law_1121 : decode cL_law 1121 = .ok (.iadd, 1) := by decide +kernel
theorem dL_law_1122 : decode cL_law 1122 = .ok (.iaload, 1) := by decide +kernel
theorem dL_law_1123 : decode cL_law 1123 = .ok (.invokevirtual 127, 3) := by decide +kernel
theorem dL_law_1126 : decode cL_law 1126 = .ok (.if_icmp .eq 67, 3) := by decide +kernel
theorem dL_law_1129 : decode cL_law 1129 = .ok (.iconst 0, 1) := by decide +kernel
theorem dL_law_1130 : decode cL_law 1130 = .ok (.ireturn, 1) := by decide +kernel
theorem dL_law_1131 : decode cL_law 1131 = .ok (.aload_n 1, 1) := by decide +kernel
theorem dL_law_1132 : decode cL_law 1132 = .ok (.aload_n 0, 1) := by decide +kernel
theorem dL_law_1133 : decode cL_law 1133 = .ok (.iload 4, 2) := by decide +kernel
theorem dL_law_1135 : decode cL_law 1135 = .ok (.iconst 1, 1) := by decide +kernel
theorem dL_law_1136 : decode cL_law 1136 = .ok (.iadd, 1) := by decide +kernel
theorem dL_law_1137 : decode cL_law 1137 = .ok (.iaload, 1) := by decide +kernel
theorem dL_law_1138 : decode cL_law 1138 = .ok (.aload_n 0, 1) := by decide +kernel
theorem dL_law_1139 : decode cL_law 1139 = .ok (.iload 4, 2) := by decide +kernel
theorem dL_law_1141 : decode cL_law 1141 = .ok (.iconst 2, 1) := by decide +kernel
theorem dL_law_1142 : decode cL_law 1142 = .ok (.iadd, 1) := by decide +kernel
theorem dL_law_1143 : decode cL_law 1143 = .ok (.iaload, 1) := by decide +kernel
theorem dL_law_1144 : decode cL_law 1144 = .ok (.invokevirtual 128, 3) := by decide +kernel
theorem dL_law_1147 : decode cL_law 1147 = .ok (.aload_n 2, 1) := by decide +kernel
theorem dL_law_1148 : decode cL_law 1148 = .ok (.aload_n 0, 1) := by decide +kernel
theorem dL_law_1149 : decode cL_law 1149 = .ok (.iload 4, 2) := by decide +kernel
theorem dL_law_1151 : decode cL_law 1151 = .ok (.iconst 1, 1) := by decide +kernel
theorem dL_law_1152 : decode cL_law 1152 = .ok (.iadd, 1) := by decide +kernel
theorem dL_law_1153 : decode cL_law 1153 = .ok (.iaload, 1) := by decide +kernel
theorem dL_law_1154 : decode cL_law 1154 = .ok (.aload_n 0, 1) := by decide +kernel
theorem dL_law_1155 : decode cL_law 1155 = .ok (.iload 4, 2) := by decide +kernel
theorem dL_law_1157 : decode cL_law 1157 = .ok (.iconst 2, 1) := by decide +kernel
theorem dL_law_1158 : decode cL_law 1158 = .ok (.iadd, 1) := by decide +kernel
theorem dL_law_1159 : decode cL_law 1159 = .ok (.iaload, 1) := by decide +kernel
theorem dL_law_1160 : decode cL_law 1160 = .ok (.invokevirtual 131, 3) := by decide +kernel
theorem dL_law_1163 : decode cL_law 1163 = .ok (.if_icmp .eq 30, 3) := by decide +kernel
theorem dL_law_1166 : decode cL_law 1166 = .ok (.iconst 0, 1) := by decide +kernel
theorem dL_law_1167 : decode cL_law 1167 = .ok (.ireturn, 1) := by decide +kernel
theorem dL_law_1168 : decode cL_law 1168 = .ok (.aload_n 1, 1) := by decide +kernel
theorem dL_law_1169 : decode cL_law 1169 = .ok (.aload_n 0, 1) := by decide +kernel
theorem dL_law_1170 : decode cL_law 1170 = .ok (.iload 4, 2) := by decide +kernel
theorem dL_law_1172 : decode cL_law 1172 = .ok (.iconst 1, 1) := by decide +kernel
theorem dL_law_1173 : decode cL_law 1173 = .ok (.iadd, 1) := by decide +kernel
theorem dL_law_1174 : decode cL_law 1174 = .ok (.iaload, 1) := by decide +kernel
theorem dL_law_1175 : decode cL_law 1175 = .ok (.invokevirtual 132, 3) := by decide +kernel
theorem dL_law_1178 : decode cL_law 1178 = .ok (.aload_n 2, 1) := by decide +kernel
theorem dL_law_1179 : decode cL_law 1179 = .ok (.aload_n 0, 1) := by decide +kernel
theorem dL_law_1180 : decode cL_law 1180 = .ok (.iload 4, 2) := by decide +kernel
theorem dL_law_1182 : decode cL_law 1182 = .ok (.iconst 1, 1) := by decide +kernel
theorem dL_law_1183 : decode cL_law 1183 = .ok (.iadd, 1) := by decide +kernel
theorem dL_law_1184 : decode cL_law 1184 = .ok (.iaload, 1) := by decide +kernel
theorem dL_law_1185 : decode cL_law 1185 = .ok (.invokevirtual 135, 3) := by decide +kernel
theorem dL_law_1188 : decode cL_law 1188 = .ok (.if_icmp .eq 5, 3) := by decide +kernel
theorem dL_law_1191 : decode cL_law 1191 = .ok (.iconst 0, 1) := by decide +kernel
theorem dL_law_1192 : decode cL_law 1192 = .ok (.ireturn, 1) := by decide +kernel
theorem dL_law_1193 : decode cL_law 1193 = .ok (.iinc 4 8, 3) := by decide +kernel
theorem dL_law_1196 : decode cL_law 1196 = .ok (.goto (-1173), 3) := by decide +kernel
theorem dL_law_1199 : decode cL_law 1199 = .ok (.iconst 1, 1) := by decide +kernel
theorem dL_law_1200 : decode cL_law 1200 = .ok (.ireturn, 1) := by decide +kernel
